/-! the same checks, each number worked out before it is used -/
def nst {α : Type} (n : Nat) (f : Nat → α) : α := match n with
  | 0 => f 0
  | k + 1 => f (k + 1)
theorem nst_e {α : Type} (n : Nat) (f : Nat → α) : nst n f = f n := by cases n <;> rfl
def s32 {α : Type} (x : UInt32) (f : UInt32 → α) : α := nst x.toNat (fun n => f (UInt32.ofNat n))
def s64 {α : Type} (x : UInt64) (f : UInt64 → α) : α := nst x.toNat (fun n => f (UInt64.ofNat n))
theorem s32_e {α : Type} (x : UInt32) (f : UInt32 → α) : s32 x f = f x := by unfold s32; rw [nst_e, UInt32.ofNat_toNat]
theorem s64_e {α : Type} (x : UInt64) (f : UInt64 → α) : s64 x f = f x := by unfold s64; rw [nst_e, UInt64.ofNat_toNat]
def mfUpS : Nat → UInt32 → Int → Option (UInt32 × Int)
  | 0, _, _ => none
  | k + 1, r, e => if cF r FP.fconst2 .l < 0 then some (r, e) else s32 (FP.fdiv r FP.fconst2) (fun r2 => if okF r2 = true then mfUpS k r2 (e + 1) else none)
def mfDnS : Nat → UInt32 → Int → Option (UInt32 × Int)
  | 0, _, _ => none
  | k + 1, r, e => if 0 ≤ cF r FP.fconst1 .g then some (r, e) else s32 (FP.fmul r FP.fconst2) (fun r2 => if okF r2 = true then mfDnS k r2 (e - 1) else none)
def cUpS : Nat → UInt64 → Int → Option (UInt64 × Int)
  | 0, _, _ => none
  | k + 1, r, e => if cD r d2 .l < 0 then some (r, e) else s64 (FP.ddiv r d2) (fun r2 => if e < 1000 ∧ okD r2 = true then cUpS k r2 (e + 1) else none)
def cDnS : Nat → UInt64 → Int → Option (UInt64 × Int)
  | 0, _, _ => none
  | k + 1, r, e => if 0 ≤ cD r FP.dconst1 .g then some (r, e) else s64 (FP.dmul r d2) (fun r2 => if -1000 < e ∧ okD r2 = true then cDnS k r2 (e - 1) else none)
theorem mfUpS_e : ∀ (k : Nat) (r : UInt32) (e : Int), mfUpS k r e = mfUp k r e
  | 0, _, _ => rfl
  | k + 1, r, e => by unfold mfUpS mfUp; rw [s32_e, mfUpS_e k]
theorem mfDnS_e : ∀ (k : Nat) (r : UInt32) (e : Int), mfDnS k r e = mfDn k r e
  | 0, _, _ => rfl
  | k + 1, r, e => by unfold mfDnS mfDn; rw [s32_e, mfDnS_e k]
theorem cUpS_e : ∀ (k : Nat) (r : UInt64) (e : Int), cUpS k r e = cUp k r e
  | 0, _, _ => rfl
  | k + 1, r, e => by unfold cUpS cUp; rw [s64_e, cUpS_e k]
theorem cDnS_e : ∀ (k : Nat) (r : UInt64) (e : Int), cDnS k r e = cDn k r e
  | 0, _, _ => rfl
  | k + 1, r, e => by unfold cDnS cDn; rw [s64_e, cDnS_e k]
def mfFinS (r : UInt32) (e : Int) : Option Int := s32 (FP.fsub r FP.fconst1) (fun a => s32 (FP.fmul a f23) (fun b => if okF a = true ∧ okF b = true then some (e * 8388608 + (FP.f2i b).toInt) else none))
def cFinS (r : UInt64) (e : Int) : Option Int64 := s64 (FP.dsub r FP.dconst1) (fun a => s64 (FP.dmul a d52) (fun b => if (okD a = true ∧ okD b = true) ∧ -2000 ≤ e ∧ e ≤ 2000 then some (Int64.ofInt (e + 1023) <<< ((Int32.ofInt 52).toInt64 &&& 63) + FP.d2l b) else none))
theorem mfFinS_e (r : UInt32) (e : Int) : mfFinS r e = mfFin r e := by unfold mfFinS mfFin; rw [s32_e, s32_e]
theorem cFinS_e (r : UInt64) (e : Int) : cFinS r e = cFin r e := by unfold cFinS cFin; rw [s64_e, s64_e]
def cBitsS (x : UInt64) : Option Int64 := if ¬ 0 < cD x FP.dconst0 .l then some 0 else match cUpS 8 x 0 with
  | none => none
  | some (r, e) => match cDnS 8 r e with
    | none => none
    | some (r2, e2) => cFinS r2 e2
theorem cBitsS_e (x : UInt64) : cBitsS x = cBits x := by
  unfold cBitsS cBits
  simp only [cUpS_e, cDnS_e, cFinS_e]
  rfl
def mfBitsS (x : UInt32) : Option Int := if cF x FP.fconst0 .l = 0 then some 0 else match mfUpS 8 x 127 with
  | none => none
  | some (r, e) => match mfDnS 8 r e with
    | none => none
    | some (r2, e2) => mfFinS r2 e2
theorem mfBitsS_e (x : UInt32) : mfBitsS x = mfBits x := by
  unfold mfBitsS mfBits
  simp only [mfUpS_e, mfDnS_e, mfFinS_e]
  rfl
def cfBitsS (x : UInt32) : Option Int := if ¬ 0 < cF x FP.fconst0 .l then some 0 else s64 (FP.f2d x) (fun y => if okD y = true then (match cBitsS y with
  | none => none
  | some b => some (b >>> ((Int32.ofInt 29).toInt64 &&& 63) - 7516192768).toInt32.toInt) else none)
theorem cfBitsS_e (x : UInt32) : cfBitsS x = cfBits x := by
  unfold cfBitsS cfBits
  rw [s64_e, cBitsS_e]
  rfl
def chkFS (x0 : UInt32) : Bool := s32 x0 (fun x => okF x && (s64 (FP.f2d x) (fun y => okD y && (decide (cD y y .l = 0) && (match mfBitsS x, cfBitsS x with
  | some a, some b => a == b && decide (inR a)
  | _, _ => false)))))
theorem chkFS_e (x : UInt32) : chkFS x = chkF x := by
  unfold chkFS chkF
  rw [s32_e, s64_e, mfBitsS_e, cfBitsS_e]
  rfl
