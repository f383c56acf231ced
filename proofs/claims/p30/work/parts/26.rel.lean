/-! contracts that tell the memory after by a relation -/
def QIr (V : Wo) (x : Int) (P : Mem → Prop) : Array Value → State → Outcome → State → Prop := va_Qi (fun r (m : Mem) => r = Int32.ofInt x ∧ P m) (fun m t => Hp V t m t.heap) (woA V)
def QVr (V : Wo) (P : Mem → Prop) : Array Value → State → Outcome → State → Prop := va_Qv (fun (m : Mem) => P m) (fun m t => Hp V t m t.heap) (woA V)
def QLr (V : Wo) (x : Int64) (P : Mem → Prop) : Array Value → State → Outcome → State → Prop := va_Ql (fun r (m : Mem) => r = x ∧ P m) (fun m t => Hp V t m t.heap) (woA V)
def QDr (V : Wo) (x : UInt64) (P : Mem → Prop) : Array Value → State → Outcome → State → Prop := va_Qd (fun r (m : Mem) => r = x ∧ P m) (fun m t => Hp V t m t.heap) (woA V)
def QFr (V : Wo) (x : UInt32) (P : Mem → Prop) : Array Value → State → Outcome → State → Prop := va_Qf (fun r (m : Mem) => r = x ∧ P m) (fun m t => Hp V t m t.heap) (woA V)
section Rows3
variable {X : Cx} {own : String} {cc : ByteArray} {nL d : Nat} {μ : Mem} {pc : Nat} {ls st : List AV}
theorem r_iretr (C : Ok X own cc nL d) {x x' : Int} {P : Mem → Prop} (hF : Fnl X (some .int) (QIr (xV X) x' P)) (hd : decode cc pc = .ok (.ireturn, 1)) (hx : x = x') (hP : P μ) : RR X μ pc ls [vI x] := fun H locs jl h1 h2 h3 => by
  subst hx
  rw [hF.2.1]
  exact W.iret C.1 C.2.1 hF.1 (fun t ht hW => ⟨⟨_, μ, rfl, ⟨rfl, hP⟩, hp_end h1 ht hW⟩, h2.F ht⟩) h2.2.2 hd C.2.2.2.2.2.1
theorem r_zretr (C : Ok X own cc nL d) {x x' : Int} {P : Mem → Prop} (hF : Fnl X (some .boolean) (QIr (xV X) x' P)) (hd : decode cc pc = .ok (.ireturn, 1)) (h01 : x = 0 ∨ x = 1) (hx : x = x') (hP : P μ) : RR X μ pc ls [vI x] := fun H locs jl h1 h2 h3 => by
  subst hx
  rw [hF.2.1]
  exact W.zret C.1 C.2.1 hF.1 (by rcases h01 with rfl | rfl <;> rfl) (fun t ht hW => ⟨⟨_, μ, rfl, ⟨rfl, hP⟩, hp_end h1 ht hW⟩, h2.F ht⟩) h2.2.2 hd C.2.2.2.2.2.1
theorem r_vretr (C : Ok X own cc nL d) {P : Mem → Prop} (hF : Fnl X none (QVr (xV X) P)) (hd : decode cc pc = .ok (.return_, 1)) (hP : P μ) : RR X μ pc ls [] := fun H locs jl h1 h2 h3 => by
  rw [hF.2.1]
  exact W.vret C.1 C.2.1 hF.1 (fun t ht hW => ⟨⟨μ, rfl, hP, hp_end h1 ht hW⟩, h2.F ht⟩) h2.2.2 hd C.2.2.2.2.2.1
theorem r_lretr (C : Ok X own cc nL d) {x x' : Int64} {P : Mem → Prop} (hF : Fnl X (some .long) (QLr (xV X) x' P)) (hd : decode cc pc = .ok (.lreturn, 1)) (hx : x = x') (hP : P μ) : RR X μ pc ls [vV (.long x)] := fun H locs jl h1 h2 h3 => by
  subst hx
  rw [hF.2.1]
  exact W.lret C.1 C.2.1 hF.1 (fun t ht hW => ⟨⟨_, μ, rfl, ⟨rfl, hP⟩, hp_end h1 ht hW⟩, h2.F ht⟩) h2.2.2 hd C.2.2.2.2.2.1
theorem r_dretr (C : Ok X own cc nL d) {x x' : UInt64} {P : Mem → Prop} (hF : Fnl X (some .double) (QDr (xV X) x' P)) (hd : decode cc pc = .ok (.dreturn, 1)) (hx : x = x') (hP : P μ) : RR X μ pc ls [vV (.double x)] := fun H locs jl h1 h2 h3 => by
  subst hx
  rw [hF.2.1]
  exact W.dret C.1 C.2.1 hF.1 (fun t ht hW => ⟨⟨_, μ, rfl, ⟨rfl, hP⟩, hp_end h1 ht hW⟩, h2.F ht⟩) h2.2.2 hd C.2.2.2.2.2.1
theorem r_fretr (C : Ok X own cc nL d) {x x' : UInt32} {P : Mem → Prop} (hF : Fnl X (some .float) (QFr (xV X) x' P)) (hd : decode cc pc = .ok (.freturn, 1)) (hx : x = x') (hP : P μ) : RR X μ pc ls [vV (.float x)] := fun H locs jl h1 h2 h3 => by
  subst hx
  rw [hF.2.1]
  exact W.fret C.1 C.2.1 hF.1 (fun t ht hW => ⟨⟨_, μ, rfl, ⟨rfl, hP⟩, hp_end h1 ht hW⟩, h2.F ht⟩) h2.2.2 hd C.2.2.2.2.2.1
theorem r_runIr {x : Int} {P : Mem → Prop} {st0 : List AV} {aa : Array Value} (hr : ∀ (H : Heap) (locs : List Loc) (jl : Array Slot), Hp (xV X) (xs X) μ H → va_S (woA (xV X)) (xs X).heap H locs → lrel ls (xc X).maxLocals jl → XRun X H locs pc jl st0 st (QIr (xV X) x P aa)) (kk : ∀ ν : Mem, P ν → RR X ν (pc + 3) ls (vI x :: st)) : RR X μ pc ls st0 := fun H locs jl h1 h2 h3 =>
  va_calli (hr H locs jl h1 h2 h3) h2 (fun _ _ h => h) (fun _ h => h) (fun r u t H1 locs1 ht hvm hp hb _ _ hS => by
    obtain ⟨rfl, hp2⟩ := hp
    exact kk u hp2 H1 locs1 jl (by rw [← ht]; exact zHp_m hvm.symm hb) hS h3)
theorem r_runVr {P : Mem → Prop} {st0 : List AV} {aa : Array Value} (hr : ∀ (H : Heap) (locs : List Loc) (jl : Array Slot), Hp (xV X) (xs X) μ H → va_S (woA (xV X)) (xs X).heap H locs → lrel ls (xc X).maxLocals jl → XRun X H locs pc jl st0 st (QVr (xV X) P aa)) (kk : ∀ ν : Mem, P ν → RR X ν (pc + 3) ls st) : RR X μ pc ls st0 := fun H locs jl h1 h2 h3 =>
  va_callv (hr H locs jl h1 h2 h3) h2 (fun _ _ h => h) (fun _ h => h) (fun u t H1 locs1 ht hvm hp hb _ _ hS => kk u hp H1 locs1 jl (by rw [← ht]; exact zHp_m hvm.symm hb) hS h3)
theorem r_runLr {x : Int64} {P : Mem → Prop} {st0 : List AV} {aa : Array Value} (hr : ∀ (H : Heap) (locs : List Loc) (jl : Array Slot), Hp (xV X) (xs X) μ H → va_S (woA (xV X)) (xs X).heap H locs → lrel ls (xc X).maxLocals jl → XRun X H locs pc jl st0 st (QLr (xV X) x P aa)) (kk : ∀ ν : Mem, P ν → RR X ν (pc + 3) ls (vV (.long x) :: st)) : RR X μ pc ls st0 := fun H locs jl h1 h2 h3 =>
  va_calll (hr H locs jl h1 h2 h3) h2 (fun _ _ h => h) (fun _ h => h) (fun r u t H1 locs1 ht hvm hp hb _ _ hS => by
    obtain ⟨rfl, hp2⟩ := hp
    exact kk u hp2 H1 locs1 jl (by rw [← ht]; exact zHp_m hvm.symm hb) hS h3)
theorem r_runDr {x : UInt64} {P : Mem → Prop} {st0 : List AV} {aa : Array Value} (hr : ∀ (H : Heap) (locs : List Loc) (jl : Array Slot), Hp (xV X) (xs X) μ H → va_S (woA (xV X)) (xs X).heap H locs → lrel ls (xc X).maxLocals jl → XRun X H locs pc jl st0 st (QDr (xV X) x P aa)) (kk : ∀ ν : Mem, P ν → RR X ν (pc + 3) ls (vV (.double x) :: st)) : RR X μ pc ls st0 := fun H locs jl h1 h2 h3 =>
  va_calld (hr H locs jl h1 h2 h3) h2 (fun _ _ h => h) (fun _ h => h) (fun r u t H1 locs1 ht hvm hp hb _ _ hS => by
    obtain ⟨rfl, hp2⟩ := hp
    exact kk u hp2 H1 locs1 jl (by rw [← ht]; exact zHp_m hvm.symm hb) hS h3)
theorem r_runFr {x : UInt32} {P : Mem → Prop} {st0 : List AV} {aa : Array Value} (hr : ∀ (H : Heap) (locs : List Loc) (jl : Array Slot), Hp (xV X) (xs X) μ H → va_S (woA (xV X)) (xs X).heap H locs → lrel ls (xc X).maxLocals jl → XRun X H locs pc jl st0 st (QFr (xV X) x P aa)) (kk : ∀ ν : Mem, P ν → RR X ν (pc + 3) ls (vV (.float x) :: st)) : RR X μ pc ls st0 := fun H locs jl h1 h2 h3 =>
  va_callf (hr H locs jl h1 h2 h3) h2 (fun _ _ h => h) (fun _ h => h) (fun r u t H1 locs1 ht hvm hp hb _ _ hS => by
    obtain ⟨rfl, hp2⟩ := hp
    exact kk u hp2 H1 locs1 jl (by rw [← ht]; exact zHp_m hvm.symm hb) hS h3)
end Rows3
/-- what the reference remembers: everything else of it is scratch -/
def MR (q : Nat) (μ ν : Mem) (th sv kp ln : Int) (v tx : Int → Int) : Prop := ν (q + 1) = v ∧ ν (q + 2) = tx ∧ (ν q 0 = th ∧ ν q 2 = sv ∧ ν q 3 = kp ∧ ν q 5 = ln) ∧ ∀ r, (r < q ∨ q + 5 < r) → ν r = μ r
/-- unchanged but for scratch -/
abbrev MU (q : Nat) (μ ν : Mem) : Prop := MR q μ ν (μ q 0) (μ q 2) (μ q 3) (μ q 5) (μ (q + 1)) (μ (q + 2)) ∧ ν q 14 = μ q 14
theorem MU_refl (q : Nat) (μ : Mem) : MU q μ μ := ⟨⟨rfl, rfl, ⟨rfl, rfl, rfl, rfl⟩, fun _ _ => rfl⟩, rfl⟩
theorem MU_tr {q : Nat} {μ ν ρ : Mem} (h : MU q μ ν) (h2 : MU q ν ρ) : MU q μ ρ := by
  obtain ⟨⟨a1, a2, ⟨a3, a4, a5, a6⟩, a7⟩, a8⟩ := h
  obtain ⟨⟨b1, b2, ⟨b3, b4, b5, b6⟩, b7⟩, b8⟩ := h2
  exact ⟨⟨b1.trans a1, b2.trans a2, ⟨b3.trans a3, b4.trans a4, b5.trans a5, b6.trans a6⟩, fun r hr => (b7 r hr).trans (a7 r hr)⟩, b8.trans a8⟩
theorem MU_lay (μ : Mem) (q : Nat) (p k : Int) : MU q μ (lay μ q p k) := by
  refine ⟨⟨lay_1 .., lay_o _ _ _ (by omega) (by omega) (by omega), ⟨?_, ?_, ?_, ?_⟩, fun r hr => lay_o _ _ _ (by omega) (by omega) (by omega)⟩, ?_⟩ <;> (rw [lay_q, s1_n _ _ (by omega)])
theorem MU_5 (μ : Mem) (q : Nat) (f : Int → Int) : MU q μ (wr μ (q + 5) f) := by
  refine ⟨⟨wr_n _ _ (by omega), wr_n _ _ (by omega), ⟨?_, ?_, ?_, ?_⟩, fun r hr => wr_n _ _ (by omega)⟩, ?_⟩ <;> (rw [wr_n _ _ (by omega)])
/-! the reference's deeds, place by place -/
theorem veW_mono {K L : Int} {v : Int → Int} (hv : veW K v) (h : K ≤ L) (h2 : L ≤ 1000000) : veW L v := by
  obtain ⟨v0, v1, v2, v3, v4, v5, v6, v7, v8, v9, v10⟩ := hv
  exact ⟨h2, v1, v2, v3, v4, ⟨v5.1, by omega⟩, v6, fun i h0 h1 => ⟨(v7 i h0 h1).1, by have := (v7 i h0 h1).2; omega⟩, v8, v9, v10⟩
theorem mIns_lo {v : Int → Int} {p x j : Int} (hp : 0 ≤ p) (h : j < 70) : mIns v p x j = (if j = 3 then v 3 + 1 else if j = 6 + x then v (6 + x) - 1 else v j) := by
  unfold mIns
  by_cases c : j = 3
  · rw [if_pos c, c, s1_s]
  · rw [if_neg c, s1_n _ _ c]
    by_cases c2 : j = 6 + x
    · rw [if_pos c2, c2, s1_s]
    · rw [if_neg c2, s1_n _ _ c2, s1_n _ _ (by omega), s1_n _ _ (by omega), shV_o _ h hp]
theorem mIns_N {v : Int → Int} {p x i : Int} (hp : 0 ≤ p) (hp2 : p ≤ v 3) (h3 : v 3 < 20) (hx : x < 16) (h0 : 0 ≤ i) (h1 : i < 20) : mIns v p x (70 + i) = (if i = p then x else if p < i ∧ i ≤ v 3 then v (70 + i - 1) else v (70 + i)) := by
  unfold mIns
  rw [s1_n _ _ (by omega), s1_n _ _ (by omega), s1_n _ _ (by omega)]
  by_cases c : i = p
  · rw [if_pos c, c, s1_s]
  · rw [if_neg c, s1_n _ _ (by omega)]
    unfold shV
    by_cases c2 : p < i ∧ i ≤ v 3
    · rw [if_pos c2, if_pos (by omega)]
    · rw [if_neg c2, if_neg (by omega), if_neg (by omega)]
theorem mIns_D {v : Int → Int} {p x i : Int} (hp : 0 ≤ p) (hp2 : p ≤ v 3) (h3 : v 3 < 20) (hx : x < 16) (h0 : 0 ≤ i) (h1 : i < 20) : mIns v p x (90 + i) = (if i = p then 0 else if p < i ∧ i ≤ v 3 then v (90 + i - 1) else v (90 + i)) := by
  unfold mIns
  rw [s1_n _ _ (by omega), s1_n _ _ (by omega)]
  by_cases c : i = p
  · rw [if_pos c, c, s1_s]
  · rw [if_neg c, s1_n _ _ (by omega), s1_n _ _ (by omega)]
    unfold shV
    by_cases c2 : p < i ∧ i ≤ v 3
    · rw [if_pos c2, if_neg (by omega), if_pos (by omega)]
    · rw [if_neg c2, if_neg (by omega), if_neg (by omega)]
theorem mIns_hi {v : Int → Int} {p x j : Int} (hp : 0 ≤ p) (hp2 : p ≤ v 3) (h3 : v 3 < 20) (hx : x < 16) (h0 : 110 ≤ j) : mIns v p x j = v j := by
  unfold mIns
  rw [s1_n _ _ (by omega), s1_n _ _ (by omega), s1_n _ _ (by omega), s1_n _ _ (by omega)]
  unfold shV
  rw [if_neg (by omega), if_neg (by omega)]
theorem mPul_lo {v : Int → Int} {p j : Int} (hp : 0 ≤ p) (h : j < 70) : mPul v p j = (if j = 6 + v (70 + p) then v (6 + v (70 + p)) + 1 else if j = 3 then v 3 - 1 else v j) := by
  unfold mPul
  by_cases c : j = 6 + v (70 + p)
  · rw [if_pos c, c, s1_s]
  · rw [if_neg c, s1_n _ _ c, sdV_o _ h hp]
    by_cases c2 : j = 3
    · rw [if_pos c2, c2, s1_s]
    · rw [if_neg c2, s1_n _ _ c2]
theorem mPul_N {v : Int → Int} {p i : Int} (hp : 0 ≤ p) (hn : v (70 + p) < 16) (h3 : v 3 ≤ 20) (h0 : 0 ≤ i) (h1 : i < 20) : mPul v p (70 + i) = (if p ≤ i ∧ i < v 3 - 1 then v (70 + i + 1) else v (70 + i)) := by
  unfold mPul
  rw [s1_n _ _ (by omega)]
  unfold sdV
  by_cases c : p ≤ i ∧ i < v 3 - 1
  · rw [if_pos c, if_pos (by omega), s1_n _ _ (by omega)]
  · rw [if_neg c, if_neg (by omega), if_neg (by omega), s1_n _ _ (by omega)]
theorem mPul_D {v : Int → Int} {p i : Int} (hp : 0 ≤ p) (hn : v (70 + p) < 16) (h3 : v 3 ≤ 20) (h0 : 0 ≤ i) (h1 : i < 20) : mPul v p (90 + i) = (if p ≤ i ∧ i < v 3 - 1 then v (90 + i + 1) else v (90 + i)) := by
  unfold mPul
  rw [s1_n _ _ (by omega)]
  unfold sdV
  by_cases c : p ≤ i ∧ i < v 3 - 1
  · rw [if_pos c, if_neg (by omega), if_pos (by omega), s1_n _ _ (by omega)]
  · rw [if_neg c, if_neg (by omega), if_neg (by omega), s1_n _ _ (by omega)]
theorem mPul_hi {v : Int → Int} {p j : Int} (hp : 0 ≤ p) (hn : v (70 + p) < 16) (h3 : v 3 ≤ 20) (h0 : 110 ≤ j) : mPul v p j = v j := by
  unfold mPul
  rw [s1_n _ _ (by omega)]
  unfold sdV
  rw [if_neg (by omega), if_neg (by omega), s1_n _ _ (by omega)]
theorem mFli_hi {v : Int → Int} {p j : Int} (hp : p < 20) (h0 : 110 ≤ j) : mFli v p j = v j := s1_n _ _ (by omega)
theorem mMov_hi {v : Int → Int} {p r j : Int} (hp : 0 ≤ p) (hr : 0 ≤ r) (hp2 : p < 20) (hr2 : r < 20) (h0 : 110 ≤ j) : mMov v p r j = v j := by
  unfold mMov
  rw [s1_n _ _ (by omega), s1_n _ _ (by omega)]
  split
  · unfold sdV; rw [if_neg (by omega), if_neg (by omega)]
  · unfold shV; rw [if_neg (by omega), if_neg (by omega)]
theorem mBin_e {v : Int → Int} {j : Int} : mBin v j = (if j = 4 then v 4 + 1 else if j = 3 then 0 else if 22 ≤ j ∧ j < 38 then v j + cn (fun e => v (70 + e) = j - 22) (v 3) else v j) := by
  unfold mBin
  by_cases c : j = 4
  · rw [if_pos c, c, s1_s]
  · rw [if_neg c, s1_n _ _ c]
    by_cases c2 : j = 3
    · rw [if_pos c2, c2, s1_s]
    · rw [if_neg c2, s1_n _ _ c2]
      rfl
theorem cpV_lo {v : Int → Int} {f t j : Int} (ht : 1 ≤ t) (h : j < 110) : cpV v f t 110 j = v j := if_neg (by omega)
theorem sh5_lo {v : Int → Int} {k j : Int} (h : j < 110) : sh5 v k j = v j := if_neg (by omega)
theorem mSav_lo {v : Int → Int} {s j : Int} (hs : 0 ≤ s) (h : j < 110) : mSav v s j = v j := by
  unfold mSav
  split
  · rw [cpV_lo (by omega) h, sh5_lo h]
  · rw [cpV_lo (by omega) h]
theorem veW_lo {K : Int} {v w : Int → Int} (hv : veW K v) (h : ∀ j, 0 ≤ j → j < 110 → w j = v j) : veW K w := by
  have hv2 := hv
  obtain ⟨v0, v1, v2, v3, v4, v5, v6, v7, v8, v9, v10⟩ := hv2
  refine veW_of hv (fun j h0 h1 => h j h0 (by omega)) (fun i h0 h1 => ?_) (fun i h0 h1 => ?_)
  · rw [h (70 + i) (by omega) (by omega)]; exact v9 i h0 h1
  · rw [h (90 + i) (by omega) (by omega)]; exact v10 i h0 h1
theorem veW_sav {K : Int} {v : Int → Int} {s : Int} (hv : veW K v) (hs : 0 ≤ s) : veW K (mSav v s) := veW_lo hv (fun j _ h => mSav_lo hs h)
theorem veW_ins {K : Int} {v : Int → Int} {p x : Int} (hv : veW K v) (hp : 0 ≤ p) (hp2 : p ≤ v 3) (h3 : v 3 < 20) (hx0 : 0 ≤ x) (hx : x < 16) (hc : 0 < v (6 + x)) : veW K (mIns v p x) := by
  obtain ⟨v0, v1, v2, v3, v4, v5, v6, v7, v8, v9, v10⟩ := hv
  have e0 : mIns v p x 0 = v 0 := by rw [mIns_lo hp (by omega), if_neg (by omega), if_neg (by omega)]
  have e1 : mIns v p x 1 = v 1 := by rw [mIns_lo hp (by omega), if_neg (by omega), if_neg (by omega)]
  have e2 : mIns v p x 2 = v 2 := by rw [mIns_lo hp (by omega), if_neg (by omega), if_neg (by omega)]
  have e3 : mIns v p x 3 = v 3 + 1 := by rw [mIns_lo hp (by omega), if_pos rfl]
  have e4 : mIns v p x 4 = v 4 := by rw [mIns_lo hp (by omega), if_neg (by omega), if_neg (by omega)]
  have e5 : mIns v p x 5 = v 5 := by rw [mIns_lo hp (by omega), if_neg (by omega), if_neg (by omega)]
  unfold veW
  rw [e0, e1, e2, e3, e4, e5]
  refine ⟨v0, v1, v2, v3, by omega, v5, v6, fun i h0 h1 => ?_, fun i h0 h1 => ?_, fun i h0 h1 => ?_, fun i h0 h1 => ?_⟩
  · rw [mIns_lo hp (by omega), if_neg (by omega)]
    have := v7 i h0 h1
    have := v7 x hx0 (by omega)
    split <;> omega
  · rw [mIns_lo hp (by omega), if_neg (by omega), if_neg (by omega)]; exact v8 i h0 h1
  · rw [mIns_N hp hp2 h3 hx h0 (by omega)]
    split
    · omega
    · split
      · rw [show 70 + i - 1 = 70 + (i - 1) by omega]; exact v9 (i - 1) (by omega) (by omega)
      · exact v9 i h0 (by omega)
  · rw [mIns_D hp hp2 h3 hx h0 (by omega)]
    split
    · exact Or.inl rfl
    · split
      · rw [show 90 + i - 1 = 90 + (i - 1) by omega]; exact v10 (i - 1) (by omega) (by omega)
      · exact v10 i h0 (by omega)
theorem veW_pul {K : Int} {v : Int → Int} {p : Int} (hv : veW K v) (hK : K + 1 ≤ 1000000) (hp : 0 ≤ p) (hp2 : p < v 3) : veW (K + 1) (mPul v p) := by
  obtain ⟨v0, v1, v2, v3, v4, v5, v6, v7, v8, v9, v10⟩ := hv
  have hn := v9 p hp hp2
  have e0 : mPul v p 0 = v 0 := by rw [mPul_lo hp (by omega), if_neg (by omega), if_neg (by omega)]
  have e1 : mPul v p 1 = v 1 := by rw [mPul_lo hp (by omega), if_neg (by omega), if_neg (by omega)]
  have e2 : mPul v p 2 = v 2 := by rw [mPul_lo hp (by omega), if_neg (by omega), if_neg (by omega)]
  have e3 : mPul v p 3 = v 3 - 1 := by rw [mPul_lo hp (by omega), if_neg (by omega), if_pos rfl]
  have e4 : mPul v p 4 = v 4 := by rw [mPul_lo hp (by omega), if_neg (by omega), if_neg (by omega)]
  have e5 : mPul v p 5 = v 5 := by rw [mPul_lo hp (by omega), if_neg (by omega), if_neg (by omega)]
  unfold veW
  rw [e0, e1, e2, e3, e4, e5]
  refine ⟨hK, v1, v2, v3, by omega, by omega, v6, fun i h0 h1 => ?_, fun i h0 h1 => ?_, fun i h0 h1 => ?_, fun i h0 h1 => ?_⟩
  · rw [mPul_lo hp (by omega), if_neg (show ¬ 6 + i = 3 by omega)]
    have := v7 i h0 h1
    have := v7 (v (70 + p)) hn.1 (by omega)
    split <;> omega
  · rw [mPul_lo hp (by omega), if_neg (by omega), if_neg (by omega)]; exact v8 i h0 h1
  · rw [mPul_N hp hn.2 v4.2 h0 (by omega)]
    split
    · rw [show 70 + i + 1 = 70 + (i + 1) by omega]; exact v9 (i + 1) (by omega) (by omega)
    · exact v9 i h0 (by omega)
  · rw [mPul_D hp hn.2 v4.2 h0 (by omega)]
    split
    · rw [show 90 + i + 1 = 90 + (i + 1) by omega]; exact v10 (i + 1) (by omega) (by omega)
    · exact v10 i h0 (by omega)
theorem veW_bin {K : Int} {v : Int → Int} (hv : veW K v) (hK : K + 20 ≤ 1000000) : veW (K + 20) (mBin v) := by
  obtain ⟨v0, v1, v2, v3, v4, v5, v6, v7, v8, v9, v10⟩ := hv
  have e0 : mBin v 0 = v 0 := by rw [mBin_e, if_neg (by omega), if_neg (by omega), if_neg (by omega)]
  have e1 : mBin v 1 = v 1 := by rw [mBin_e, if_neg (by omega), if_neg (by omega), if_neg (by omega)]
  have e2 : mBin v 2 = v 2 := by rw [mBin_e, if_neg (by omega), if_neg (by omega), if_neg (by omega)]
  have e3 : mBin v 3 = 0 := by rw [mBin_e, if_neg (by omega), if_pos rfl]
  have e4 : mBin v 4 = v 4 + 1 := by rw [mBin_e, if_pos rfl]
  have e5 : mBin v 5 = v 5 := by rw [mBin_e, if_neg (by omega), if_neg (by omega), if_neg (by omega)]
  unfold veW
  rw [e0, e1, e2, e3, e4, e5]
  refine ⟨hK, v1, v2, v3, by omega, by omega, v6, fun i h0 h1 => ?_, fun i h0 h1 => ?_, fun i h0 h1 => absurd h1 (by omega), fun i h0 h1 => absurd h1 (by omega)⟩
  · rw [mBin_e, if_neg (by omega), if_neg (by omega)]
    have := v7 i h0 h1
    have := cn_bd (fun e => v (70 + e) = 6 + i - 22) v4.1
    split <;> omega
  · rw [mBin_e, if_neg (by omega), if_neg (by omega), if_neg (by omega)]; exact v8 i h0 h1
theorem wr_sav (μ : Mem) (q : Nat) (w : Int → Int) (x a b : Int) : wr (wr (wr μ (q + 1) w) q (s1 (μ q) 2 x)) (q + 1) (cpV w a b 110) = wr (wr μ q (s1 (μ q) 2 x)) (q + 1) (cpV w a b 110) := by
  rw [wr_cm μ w _ (by omega), wr_ww]
