/-! the bits of shares and means: both ways of reading them, as functions that may fail -/
def cD (x y : UInt64) (op : CmpOp) : Int := (Op.cmpValue (FP.dcmp x y) op).toInt
def cF (x y : UInt32) (op : CmpOp) : Int := (Op.cmpValue (FP.fcmp x y) op).toInt
theorem cD_r (x y : UInt64) (op : CmpOp) : inR (cD x y op) := cmp_r _
theorem cF_r (x y : UInt32) (op : CmpOp) : inR (cF x y op) := cmp_r _
abbrev d2 : UInt64 := 4611686018427387904
abbrev d52 : UInt64 := 4841369599423283200
abbrev f23 : UInt32 := 1258291200
/-- the reference: doubled until it is at least 1 -/
def mDn : Nat → UInt64 → Int64 → Option (UInt64 × Int64)
  | 0, _, _ => none
  | k + 1, r, p => if 0 ≤ cD r FP.dconst1 .g then some (r, p) else if okD (FP.dmul r d2) = true then mDn k (FP.dmul r d2) (p - 1) else none
def mFin (r : UInt64) (p : Int64) : Option Int64 := if okD (FP.dsub r FP.dconst1) = true ∧ okD (FP.dmul (FP.dsub r FP.dconst1) d52) = true then some (p * 4503599627370496 + FP.d2l (FP.dmul (FP.dsub r FP.dconst1) d52)) else none
def mBits (x : UInt64) : Option Int64 := if cD x FP.dconst0 .l = 0 then some 0 else match mDn 8 x 1023 with
  | none => none
  | some (r, p) => mFin r p
/-- the class -/
def cUp : Nat → UInt64 → Int → Option (UInt64 × Int)
  | 0, _, _ => none
  | k + 1, r, e => if cD r d2 .l < 0 then some (r, e) else if e < 1000 ∧ okD (FP.ddiv r d2) = true then cUp k (FP.ddiv r d2) (e + 1) else none
def cDn : Nat → UInt64 → Int → Option (UInt64 × Int)
  | 0, _, _ => none
  | k + 1, r, e => if 0 ≤ cD r FP.dconst1 .g then some (r, e) else if -1000 < e ∧ okD (FP.dmul r d2) = true then cDn k (FP.dmul r d2) (e - 1) else none
def cFin (r : UInt64) (e : Int) : Option Int64 := if (okD (FP.dsub r FP.dconst1) = true ∧ okD (FP.dmul (FP.dsub r FP.dconst1) d52) = true) ∧ -2000 ≤ e ∧ e ≤ 2000 then some (Int64.ofInt (e + 1023) <<< ((Int32.ofInt 52).toInt64 &&& 63) + FP.d2l (FP.dmul (FP.dsub r FP.dconst1) d52)) else none
def cBits (x : UInt64) : Option Int64 := if ¬ 0 < cD x FP.dconst0 .l then some 0 else match cUp 8 x 0 with
  | none => none
  | some (r, e) => match cDn 8 r e with
    | none => none
    | some (r2, e2) => cFin r2 e2
/-- floats: the reference -/
def mfUp : Nat → UInt32 → Int → Option (UInt32 × Int)
  | 0, _, _ => none
  | k + 1, r, e => if cF r FP.fconst2 .l < 0 then some (r, e) else if okF (FP.fdiv r FP.fconst2) = true then mfUp k (FP.fdiv r FP.fconst2) (e + 1) else none
def mfDn : Nat → UInt32 → Int → Option (UInt32 × Int)
  | 0, _, _ => none
  | k + 1, r, e => if 0 ≤ cF r FP.fconst1 .g then some (r, e) else if okF (FP.fmul r FP.fconst2) = true then mfDn k (FP.fmul r FP.fconst2) (e - 1) else none
def mfFin (r : UInt32) (e : Int) : Option Int := if okF (FP.fsub r FP.fconst1) = true ∧ okF (FP.fmul (FP.fsub r FP.fconst1) f23) = true then some (e * 8388608 + (FP.f2i (FP.fmul (FP.fsub r FP.fconst1) f23)).toInt) else none
def mfBits (x : UInt32) : Option Int := if cF x FP.fconst0 .l = 0 then some 0 else match mfUp 8 x 127 with
  | none => none
  | some (r, e) => match mfDn 8 r e with
    | none => none
    | some (r2, e2) => mfFin r2 e2
def cfBits (x : UInt32) : Option Int := if ¬ 0 < cF x FP.fconst0 .l then some 0 else if okD (FP.f2d x) = true then (match cBits (FP.f2d x) with
  | none => none
  | some b => some (b >>> ((Int32.ofInt 29).toInt64 &&& 63) - 7516192768).toInt32.toInt) else none
theorem mDn_0 {k : Nat} {r : UInt64} {p : Int64} {y : UInt64 × Int64} (h : mDn (k + 1) r p = some y) (c : 0 ≤ cD r FP.dconst1 .g) : y = (r, p) := by
  unfold mDn at h
  rw [if_pos c] at h
  exact (Option.some.inj h).symm
theorem mDn_1 {k : Nat} {r : UInt64} {p : Int64} {y : UInt64 × Int64} (h : mDn (k + 1) r p = some y) (c : ¬ 0 ≤ cD r FP.dconst1 .g) : okD (FP.dmul r d2) = true ∧ mDn k (FP.dmul r d2) (p - 1) = some y := by
  unfold mDn at h
  rw [if_neg c] at h
  by_cases g : okD (FP.dmul r d2) = true
  · rw [if_pos g] at h; exact ⟨g, h⟩
  · rw [if_neg g] at h; cases h
theorem cUp_0 {k : Nat} {r : UInt64} {e : Int} {y : UInt64 × Int} (h : cUp (k + 1) r e = some y) (c : cD r d2 .l < 0) : y = (r, e) := by
  unfold cUp at h
  rw [if_pos c] at h
  exact (Option.some.inj h).symm
theorem cUp_1 {k : Nat} {r : UInt64} {e : Int} {y : UInt64 × Int} (h : cUp (k + 1) r e = some y) (c : ¬ cD r d2 .l < 0) : (e < 1000 ∧ okD (FP.ddiv r d2) = true) ∧ cUp k (FP.ddiv r d2) (e + 1) = some y := by
  unfold cUp at h
  rw [if_neg c] at h
  by_cases g : e < 1000 ∧ okD (FP.ddiv r d2) = true
  · rw [if_pos g] at h; exact ⟨g, h⟩
  · rw [if_neg g] at h; cases h
theorem cDn_0 {k : Nat} {r : UInt64} {e : Int} {y : UInt64 × Int} (h : cDn (k + 1) r e = some y) (c : 0 ≤ cD r FP.dconst1 .g) : y = (r, e) := by
  unfold cDn at h
  rw [if_pos c] at h
  exact (Option.some.inj h).symm
theorem cDn_1 {k : Nat} {r : UInt64} {e : Int} {y : UInt64 × Int} (h : cDn (k + 1) r e = some y) (c : ¬ 0 ≤ cD r FP.dconst1 .g) : (-1000 < e ∧ okD (FP.dmul r d2) = true) ∧ cDn k (FP.dmul r d2) (e - 1) = some y := by
  unfold cDn at h
  rw [if_neg c] at h
  by_cases g : -1000 < e ∧ okD (FP.dmul r d2) = true
  · rw [if_pos g] at h; exact ⟨g, h⟩
  · rw [if_neg g] at h; cases h
theorem mfUp_0 {k : Nat} {r : UInt32} {e : Int} {y : UInt32 × Int} (h : mfUp (k + 1) r e = some y) (c : cF r FP.fconst2 .l < 0) : y = (r, e) := by
  unfold mfUp at h
  rw [if_pos c] at h
  exact (Option.some.inj h).symm
theorem mfUp_1 {k : Nat} {r : UInt32} {e : Int} {y : UInt32 × Int} (h : mfUp (k + 1) r e = some y) (c : ¬ cF r FP.fconst2 .l < 0) : okF (FP.fdiv r FP.fconst2) = true ∧ mfUp k (FP.fdiv r FP.fconst2) (e + 1) = some y := by
  unfold mfUp at h
  rw [if_neg c] at h
  by_cases g : okF (FP.fdiv r FP.fconst2) = true
  · rw [if_pos g] at h; exact ⟨g, h⟩
  · rw [if_neg g] at h; cases h
theorem mfDn_0 {k : Nat} {r : UInt32} {e : Int} {y : UInt32 × Int} (h : mfDn (k + 1) r e = some y) (c : 0 ≤ cF r FP.fconst1 .g) : y = (r, e) := by
  unfold mfDn at h
  rw [if_pos c] at h
  exact (Option.some.inj h).symm
theorem mfDn_1 {k : Nat} {r : UInt32} {e : Int} {y : UInt32 × Int} (h : mfDn (k + 1) r e = some y) (c : ¬ 0 ≤ cF r FP.fconst1 .g) : okF (FP.fmul r FP.fconst2) = true ∧ mfDn k (FP.fmul r FP.fconst2) (e - 1) = some y := by
  unfold mfDn at h
  rw [if_neg c] at h
  by_cases g : okF (FP.fmul r FP.fconst2) = true
  · rw [if_pos g] at h; exact ⟨g, h⟩
  · rw [if_neg g] at h; cases h
theorem if_so {p : Prop} [Decidable p] {α : Type} {a y : α} (h : (if p then some a else none) = some y) : p ∧ a = y := by
  by_cases g : p
  · rw [if_pos g] at h; exact ⟨g, Option.some.inj h⟩
  · rw [if_neg g] at h; cases h
theorem mBits_0 {x : UInt64} {y : Int64} (h : mBits x = some y) (c : cD x FP.dconst0 .l = 0) : 0 = y := by
  unfold mBits at h
  rw [if_pos c] at h
  exact Option.some.inj h
theorem mBits_1 {x : UInt64} {y : Int64} (h : mBits x = some y) (c : ¬ cD x FP.dconst0 .l = 0) : ∃ r p, mDn 8 x 1023 = some (r, p) ∧ mFin r p = some y := by
  unfold mBits at h
  rw [if_neg c] at h
  split at h
  · cases h
  · rename_i r p e; exact ⟨r, p, e, h⟩
theorem cBits_0 {x : UInt64} {y : Int64} (h : cBits x = some y) (c : ¬ 0 < cD x FP.dconst0 .l) : 0 = y := by
  unfold cBits at h
  rw [if_pos c] at h
  exact Option.some.inj h
theorem cBits_1 {x : UInt64} {y : Int64} (h : cBits x = some y) (c : 0 < cD x FP.dconst0 .l) : ∃ r e r2 e2, cUp 8 x 0 = some (r, e) ∧ cDn 8 r e = some (r2, e2) ∧ cFin r2 e2 = some y := by
  unfold cBits at h
  rw [if_neg (fun z => z c)] at h
  split at h
  · cases h
  · rename_i r e he
    split at h
    · cases h
    · rename_i r2 e2 he2; exact ⟨r, e, r2, e2, he, he2, h⟩
theorem mfBits_0 {x : UInt32} {y : Int} (h : mfBits x = some y) (c : cF x FP.fconst0 .l = 0) : 0 = y := by
  unfold mfBits at h
  rw [if_pos c] at h
  exact Option.some.inj h
theorem mfBits_1 {x : UInt32} {y : Int} (h : mfBits x = some y) (c : ¬ cF x FP.fconst0 .l = 0) : ∃ r e r2 e2, mfUp 8 x 127 = some (r, e) ∧ mfDn 8 r e = some (r2, e2) ∧ mfFin r2 e2 = some y := by
  unfold mfBits at h
  rw [if_neg c] at h
  split at h
  · cases h
  · rename_i r e he
    split at h
    · cases h
    · rename_i r2 e2 he2; exact ⟨r, e, r2, e2, he, he2, h⟩
theorem cfBits_0 {x : UInt32} {y : Int} (h : cfBits x = some y) (c : ¬ 0 < cF x FP.fconst0 .l) : 0 = y := by
  unfold cfBits at h
  rw [if_pos c] at h
  exact Option.some.inj h
theorem cfBits_1 {x : UInt32} {y : Int} (h : cfBits x = some y) (c : 0 < cF x FP.fconst0 .l) : okD (FP.f2d x) = true ∧ ∃ b, cBits (FP.f2d x) = some b ∧ (b >>> ((Int32.ofInt 29).toInt64 &&& 63) - 7516192768).toInt32.toInt = y := by
  unfold cfBits at h
  rw [if_neg (fun z => z c)] at h
  by_cases g : okD (FP.f2d x) = true
  · rw [if_pos g] at h
    split at h
    · cases h
    · rename_i b hb; exact ⟨g, b, hb, Option.some.inj h⟩
  · rw [if_neg g] at h; cases h
/-- a loop that a number of steps bounds -/
theorem loop_k {F : Nat → Prop} (h0 : F 0) (hs : ∀ k, F k → F (k + 1)) (n : Nat) : F n := by
  induction n with
  | zero => exact h0
  | succ n ih => exact hs n ih
