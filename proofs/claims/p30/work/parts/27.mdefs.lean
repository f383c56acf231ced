/-! the reference's public calls: what they leave -/
def sv1 (s : Int) : Int := if s < 6 then s + 1 else s
def mS (μ : Mem) (q : Nat) : Mem := wr (wr μ q (s1 (s1 (μ q) 0 0) 2 (sv1 (μ q 2)))) (q + 1) (mSav (μ (q + 1)) (μ q 2))
theorem mS_of (μ : Mem) (q : Nat) : mSaM (wr μ q (s1 (μ q) 0 0)) q = mS μ q := by
  unfold mSaM mS sv1
  rw [wr_ww, wr_s, wr_n _ _ (show q + 1 ≠ q by omega), s1_n _ _ (show (2 : Int) ≠ 0 by omega)]
theorem mS_1 (μ : Mem) (q : Nat) : mS μ q (q + 1) = mSav (μ (q + 1)) (μ q 2) := wr_s ..
theorem mS_q (μ : Mem) (q : Nat) : mS μ q q = s1 (s1 (μ q) 0 0) 2 (sv1 (μ q 2)) := by unfold mS; rw [wr_n _ _ (by omega), wr_s]
theorem mS_o (μ : Mem) {q r : Nat} (h : r ≠ q) (h2 : r ≠ q + 1) : mS μ q r = μ r := by unfold mS; rw [wr_n _ _ h2, wr_n _ _ h]
theorem MR_mS (μ : Mem) (q : Nat) (f : Int → Int) : MR q μ (wr (mS μ q) (q + 1) f) 0 (sv1 (μ q 2)) (μ q 3) (μ q 5) f (μ (q + 2)) := by
  refine ⟨wr_s .., by rw [wr_n _ _ (by omega), mS_o _ (by omega) (by omega)], ⟨?_, ?_, ?_, ?_⟩, fun r hr => by rw [wr_n _ _ (by omega), mS_o _ (by omega) (by omega)]⟩ <;> rw [wr_n _ _ (by omega), mS_q]
  · rw [s1_n _ _ (by omega), s1_s]
  · rw [s1_s]
  · rw [s1_n _ _ (by omega), s1_n _ _ (by omega)]
  · rw [s1_n _ _ (by omega), s1_n _ _ (by omega)]
theorem MR_th (μ : Mem) (q : Nat) (c : Int) : MR q μ (wr μ q (s1 (μ q) 0 c)) c (μ q 2) (μ q 3) (μ q 5) (μ (q + 1)) (μ (q + 2)) := by
  refine ⟨wr_n _ _ (by omega), wr_n _ _ (by omega), ⟨?_, ?_, ?_, ?_⟩, fun r hr => wr_n _ _ (by omega)⟩ <;> rw [wr_s]
  · rw [s1_s]
  · rw [s1_n _ _ (by omega)]
  · rw [s1_n _ _ (by omega)]
  · rw [s1_n _ _ (by omega)]
theorem MR_tr {q : Nat} {μ ν ρ : Mem} {th sv kp ln th' sv' kp' ln' : Int} {v tx v' tx' : Int → Int} (h : MR q μ ν th sv kp ln v tx) (h2 : MR q ν ρ th' sv' kp' ln' v' tx') : MR q μ ρ th' sv' kp' ln' v' tx' :=
  ⟨h2.1, h2.2.1, h2.2.2.1, fun r hr => (h2.2.2.2 r hr).trans (h.2.2.2 r hr)⟩
theorem MR_lay {q : Nat} {μ ν : Mem} {th sv kp ln p k : Int} {v tx : Int → Int} (h : MR q μ ν th sv kp ln v tx) : MR q μ (lay ν q p k) th sv kp ln v tx := by
  have hl := (MU_lay ν q p k).1
  obtain ⟨a1, a2, ⟨a3, a4, a5, a6⟩, a7⟩ := h
  obtain ⟨b1, b2, ⟨b3, b4, b5, b6⟩, b7⟩ := hl
  exact ⟨b1.trans a1, b2.trans a2, ⟨b3.trans a3, b4.trans a4, b5.trans a5, b6.trans a6⟩, fun r hr => (b7 r hr).trans (a7 r hr)⟩
theorem MR_c {q : Nat} {μ ν : Mem} {th sv kp ln th' sv' kp' ln' : Int} {v tx v' tx' : Int → Int} (h : MR q μ ν th sv kp ln v tx) (e1 : th = th') (e2 : sv = sv') (e3 : kp = kp') (e4 : ln = ln') (e5 : v = v') (e6 : tx = tx') : MR q μ ν th' sv' kp' ln' v' tx' := by
  subst e1; subst e2; subst e3; subst e4; subst e5; subst e6
  exact h
/-- the laid-out block in a vector's words -/
abbrev vN (v : Int → Int) : Int → Int := fun j => v (70 + j)
abbrev vD (v : Int → Int) : Int → Int := fun j => v (90 + j)
abbrev vH (v : Int → Int) : Int → Int := fun j => v (54 + j)
theorem mk_cong {st a a' d d' : Int} (h : a = a') (h2 : d = d') : mk st a d = mk st a' d' := by rw [h, h2]
theorem due_cong {st k n : Int} {a a' d d' : Int → Int} (h : ∀ i, 0 ≤ i → i < n → a i = a' i) (h2 : ∀ i, 0 ≤ i → i < n → d i = d' i) (h0 : 0 ≤ k) (h1 : k ≤ n) : due st a d k = due st a' d' k := by
  unfold due
  by_cases hk : k = 0
  · rw [if_pos hk, if_pos hk]
  · rw [if_neg hk, if_neg hk, h _ (by omega) (by omega), h2 _ (by omega) (by omega)]
theorem brk_cong {st k n : Int} {a a' d d' : Int → Int} (h : ∀ i, 0 ≤ i → i < n → a i = a' i) (h2 : ∀ i, 0 ≤ i → i < n → d i = d' i) (h0 : 0 ≤ k) (h1 : k < n) : brk st a d k ↔ brk st a' d' k := by
  unfold brk
  rw [due_cong h h2 h0 (by omega), h k h0 h1, h2 k h0 h1]
theorem brks_cong {st n : Int} {a a' d d' : Int → Int} (h : ∀ i, 0 ≤ i → i < n → a i = a' i) (h2 : ∀ i, 0 ≤ i → i < n → d i = d' i) : brks st a d n = brks st a' d' n :=
  cn_cong (fun k h0 h1 => brk_cong h h2 h0 h1)
theorem lay_N {μ : Mem} {q : Nat} {n : Int} : ∀ i, 0 ≤ i → i < n → lay μ q (-1) n (q + 3) i = μ (q + 1) (70 + i) := fun i h0 h1 => by
  rw [lay_3]; unfold loR; rw [lc_m1, if_pos ⟨h0, h1⟩, if_neg (by omega)]
theorem lay_D {μ : Mem} {q : Nat} {n : Int} : ∀ i, 0 ≤ i → i < n → lay μ q (-1) n (q + 4) i = μ (q + 1) (90 + i) := fun i h0 h1 => by
  rw [lay_4]; unfold loR; rw [lc_m1, if_pos ⟨h0, h1⟩, if_neg (by omega)]
theorem misS_cong {s0 n : Int} {a a' : Int → Int} (h : ∀ i, 0 ≤ i → i < n → a i = a' i) : misS s0 a n = misS s0 a' n :=
  fs_cong (fun k _ _ => by rw [cn_cong (q := fun e => a' e = k) (fun e e0 e1 => by rw [h e e0 e1])])
theorem fT_cong {n : Int} {d d' : Int → Int} (h : ∀ i, 0 ≤ i → i < n → d i = d' i) : fT d n = fT d' n := fs_cong (fun k k0 k1 => by rw [h k k0 k1])
theorem fN_cong {s0 n : Int} {a a' : Int → Int} (h : ∀ i, 0 ≤ i → i < n → a i = a' i) : fN s0 a n = fN s0 a' n := fs_cong (fun k k0 k1 => by rw [h k k0 k1])
theorem fD_cong {n : Int} {a a' : Int → Int} (h : ∀ i, 0 ≤ i → i < n → a i = a' i) : fD a n = fD a' n := fs_cong (fun k k0 k1 => by
  rw [cn_cong (q := fun e => a' e = a' k) (fun e e0 e1 => by rw [h e e0 (by omega), h k (by omega) k1])])
theorem fF_cong {n : Int} {a a' : Int → Int} (h : ∀ i, 0 ≤ i → i < n → a i = a' i) : fF a n = fF a' n := fs_cong (fun k k0 k1 => by rw [h k (by omega) k1, h (k - 1) (by omega) (by omega)])
theorem flt_cong {s0 n : Int} {a a' d d' : Int → Int} (h : ∀ i, 0 ≤ i → i < n → a i = a' i) (h2 : ∀ i, 0 ≤ i → i < n → d i = d' i) : flt s0 a d n = flt s0 a' d' n := by
  unfold flt
  rw [fT_cong h2, fN_cong h, fD_cong h, misS_cong h, fF_cong h]
theorem plf_cong {s0 n : Int} {a a' d d' : Int → Int} (h : ∀ i, 0 ≤ i → i < n → a i = a' i) (h2 : ∀ i, 0 ≤ i → i < n → d i = d' i) : plf s0 a d n = plf s0 a' d' n := by
  unfold plf
  rw [flt_cong h h2, fT_cong h2, fN_cong h, fD_cong h, fF_cong h]
theorem stA_cong {n k : Int} {ho a a' : Int → Int} (h : ∀ i, 0 ≤ i → i < n → a i = a' i) (h0 : 0 ≤ k) (h1 : k < n) : stA ho a k = stA ho a' k := by
  unfold stA
  by_cases hk : k = 0
  · rw [if_pos hk, if_pos hk]
  · rw [if_neg hk, if_neg hk, h k h0 h1, h (k - 1) (by omega) (by omega)]
theorem stS_cong {n : Int} {ho a a' : Int → Int} (h : ∀ i, 0 ≤ i → i < n → a i = a' i) : stS ho a n = stS ho a' n := sm_cong (fun k h0 h1 => stA_cong h h0 h1)
theorem lsS_cong {n : Int} {ho a a' : Int → Int} (h : ∀ i, 0 ≤ i → i < n → a i = a' i) : lsS ho a n = lsS ho a' n := cn_cong (fun k h0 h1 => by rw [stA_cong h h0 h1])
theorem thS_cong {s2 n : Int} {ho a a' : Int → Int} (h : ∀ i, 0 ≤ i → i < n → a i = a' i) : thS s2 ho a n = thS s2 ho a' n := by
  unfold thS
  rw [stS_cong h, sm_cong (g := fun k => spn (ho (a' k))) (fun k h0 h1 => by rw [h k h0 h1])]
theorem gr_cong {n k : Int} {a a' : Int → Int} (h : ∀ i, 0 ≤ i → i < n → a i = a' i) (h0 : 0 ≤ k) (h1 : k < n) : cn (fun e => a k < a e) k = cn (fun e => a' k < a' e) k := cn_cong (fun e e0 e1 => by rw [h k h0 h1, h e e0 (by omega)])
theorem pr_cong {n : Int} {a a' : Int → Int} (h : ∀ i, 0 ≤ i → i < n → a i = a' i) : sm (fun k => cn (fun e => a k < a e) k) n = sm (fun k => cn (fun e => a' k < a' e) k) n := sm_cong (fun k h0 h1 => gr_cong h h0 h1)
