theorem BuW_R {q : Nat} {μ ν : Mem} {th sv kp : Int} {v : Int → Int} (h : MR q μ ν th sv kp (μ q 5) v (μ (q + 2))) (hB : BuW μ q) : BuW ν q := by
  unfold BuW
  rw [h.2.2.1.2.2.2, h.2.1]
  exact hB
theorem MR_v {q : Nat} {μ ν : Mem} {th sv kp ln : Int} {v tx : Int → Int} (f : Int → Int) (h : MR q μ ν th sv kp ln v tx) : MR q μ (wr ν (q + 1) f) th sv kp ln f tx := by
  obtain ⟨a1, a2, ⟨a3, a4, a5, a6⟩, a7⟩ := h
  refine ⟨wr_s .., by rw [wr_n _ _ (by omega)]; exact a2, ⟨?_, ?_, ?_, ?_⟩, fun r hr => by rw [wr_n _ _ (by omega)]; exact a7 r hr⟩ <;> rw [wr_n _ _ (by omega)] <;> assumption
theorem MR_6 {q : Nat} {μ ν : Mem} {th sv kp ln : Int} {v tx : Int → Int} (x : Int) (h : MR q μ ν th sv kp ln v tx) : MR q μ (wr ν q (s1 (ν q) 6 x)) th sv kp ln v tx := MR_U h (MU_q x (MU_refl q ν) (by omega) (by omega))
theorem MR_len {q : Nat} {μ ν : Mem} {th sv kp ln : Int} {v tx : Int → Int} (h : MR q μ ν th sv kp ln v tx) : MR q μ (wr ν q (s1 (ν q) 5 0)) th sv kp 0 v tx := by
  obtain ⟨a1, a2, ⟨a3, a4, a5, a6⟩, a7⟩ := h
  refine ⟨by rw [wr_n _ _ (by omega)]; exact a1, by rw [wr_n _ _ (by omega)]; exact a2, ⟨?_, ?_, ?_, ?_⟩, fun r hr => by rw [wr_n _ _ (by omega)]; exact a7 r hr⟩ <;> rw [wr_s]
  · rw [s1_n _ _ (by omega)]; exact a3
  · rw [s1_n _ _ (by omega)]; exact a4
  · rw [s1_n _ _ (by omega)]; exact a5
  · rw [s1_s]
theorem MR_t2 {q : Nat} {μ ν ρ : Mem} {th sv kp ln : Int} {v w tx : Int → Int} (h : MR q μ ν th sv kp ln v tx) (h2 : MV q ν ρ w) : MR q μ ρ th sv kp ln w tx := by
  obtain ⟨a1, a2, ⟨a3, a4, a5, a6⟩, a7⟩ := h
  obtain ⟨b1, b2, ⟨b3, b4, b5, b6⟩, b7⟩ := h2
  exact ⟨b1, b2.trans a2, ⟨b3.trans a3, b4.trans a4, b5.trans a5, b6.trans a6⟩, fun r hr => (b7 r hr).trans (a7 r hr)⟩
theorem pcV_c {v : Int → Int} {l f s f' s' : Int} (h : (l = 103 ∨ l = 112 ∨ l = 102 ∨ l = 109) → f = f') (h2 : l = 109 → s = s') : pcV v l f s = pcV v l f' s' := by
  unfold pcV
  by_cases c1 : l = 103
  · rw [if_pos c1, if_pos c1, h (by omega)]
  · rw [if_neg c1, if_neg c1]
    by_cases c2 : l = 112 ∨ l = 102
    · rw [if_pos c2, if_pos c2, h (by omega)]
    · rw [if_neg c2, if_neg c2]
      by_cases c3 : l = 109
      · rw [if_pos c3, if_pos c3, h (by omega), h2 c3]
      · rw [if_neg c3, if_neg c3]
theorem peV_c {v : Int → Int} {l f s f' s' : Int} (h : (l = 103 ∨ l = 112 ∨ l = 102 ∨ l = 109) → f = f') (h2 : l = 109 → s = s') : peV v l f s = peV v l f' s' := by
  unfold peV
  rw [pcV_c h h2]
  unfold pdV
  by_cases c1 : l = 103
  · rw [if_pos c1, if_pos c1, h (by omega)]
  · rw [if_neg c1, if_neg c1]
    by_cases c2 : l = 112
    · rw [if_pos c2, if_pos c2, h (by omega)]
    · rw [if_neg c2, if_neg c2]
      by_cases c4 : l = 102
      · rw [if_pos c4, if_pos c4, h (by omega)]
      · rw [if_neg c4, if_neg c4]
        by_cases c3 : l = 109
        · rw [if_pos c3, if_pos c3, h (by omega), h2 c3]
        · rw [if_neg c3, if_neg c3]
theorem rpf_ok {b : Int → Int} {n a : Int} (hk : rpk b n a) (h : sg b n a = 103) : rpf b n a ≠ -1 := by
  unfold rpf
  rw [if_pos h]
  unfold rpk at hk
  omega
