theorem BuW_g {μ : Mem} {q : Nat} {g : Int → Int} (hB : BuW μ q) (h5 : g 5 = μ q 5) : BuW (wr μ q g) q := by
  unfold BuW
  rw [wr_s, h5, wr_n _ _ (by omega)]
  exact hB
theorem MU_g {μ : Mem} {q : Nat} {g : Int → Int} (h0 : g 0 = μ q 0) (h2 : g 2 = μ q 2) (h3 : g 3 = μ q 3) (h5 : g 5 = μ q 5) (h14 : g 14 = μ q 14) : MU q μ (wr μ q g) := by
  refine ⟨⟨?_, ?_, ⟨?_, ?_, ?_, ?_⟩, fun r hr => ?_⟩, ?_⟩
  · rw [wr_n _ _ (by omega)]
  · rw [wr_n _ _ (by omega)]
  · rw [wr_s, h0]
  · rw [wr_s, h2]
  · rw [wr_s, h3]
  · rw [wr_s, h5]
  · rw [wr_n _ _ (by omega)]
  · rw [wr_s, h14]
theorem sgg {V : Wo} {μ : Mem} {q : Nat} {g : Int → Int} (hM : MoS V q) (hB : BuW μ q) (h5 : g 5 = μ q 5) (h6 : 0 ≤ g 6 ∧ g 6 ≤ 190) : Con V 0 yX5_sign cX5_sign 1 (some .int) [vR q] (wr μ q g) (QI V (sg (μ (q + 2)) (μ q 5) (g 6)) (wr μ q g)) := by
  have h := kX5_sign (μ := wr μ q g) hM (BuW_g hB h5) (by rw [wr_s]; omega) (by rw [wr_s]; omega)
  rw [wr_s, h5, wr_n μ g (show q + 2 ≠ q by omega)] at h
  exact h
theorem tk1 {V : Wo} {μ : Mem} {q : Nat} {g : Int → Int} {c : Int} (hM : MoS V q) (hB : BuW μ q) (h5 : g 5 = μ q 5) (h6 : 0 ≤ g 6 ∧ g 6 ≤ 190) (hc : inR c) (h : sg (μ (q + 2)) (μ q 5) (g 6) = c) : Con V 1 yX5_takes cX5_takes 3 (some .boolean) [vR q, vI c] (wr μ q g) (QI V 1 (wr μ q (s1 g 6 (g 6 + 1)))) := by
  have k := kX5_takes (μ := wr μ q g) (c := c) hM (BuW_g hB h5) (by rw [wr_s]; omega) (by rw [wr_s]; omega) hc
  rw [wr_s, h5, wr_n μ g (show q + 2 ≠ q by omega), b01_t h, wr_ww] at k
  exact k
theorem tk0 {V : Wo} {μ : Mem} {q : Nat} {g : Int → Int} {c : Int} (hM : MoS V q) (hB : BuW μ q) (h5 : g 5 = μ q 5) (h6 : 0 ≤ g 6 ∧ g 6 ≤ 190) (hc : inR c) (h : sg (μ (q + 2)) (μ q 5) (g 6) ≠ c) : Con V 1 yX5_takes cX5_takes 3 (some .boolean) [vR q, vI c] (wr μ q g) (QI V 0 (wr μ q g)) := by
  have k := kX5_takes (μ := wr μ q g) (c := c) hM (BuW_g hB h5) (by rw [wr_s]; omega) (by rw [wr_s]; omega) hc
  rw [wr_s, h5, wr_n μ g (show q + 2 ≠ q by omega), b01_f h, wr_ww, Int.add_zero, s1_id] at k
  exact k
theorem ngg {V : Wo} {μ : Mem} {q : Nat} {g : Int → Int} {m : Int} (hM : MoS V q) (hB : BuW μ q) (h5 : g 5 = μ q 5) (h6 : 0 ≤ g 6 ∧ g 6 ≤ 190) (hm : 10 ≤ m) (hm2 : m ≤ 19) : Con V 1 yX5_number cX5_number 3 (some .int) [vR q, vI m] (wr μ q g) (QI V (nbv (μ (q + 2)) (μ q 5) m (g 6)) (wr μ q (s1 g 6 (nbp (μ (q + 2)) (μ q 5) m (g 6))))) := by
  have k := kX5_number (μ := wr μ q g) (m := m) hM (BuW_g hB h5) (by rw [wr_s]; omega) (by rw [wr_s]; omega) hm hm2
  rw [wr_s, h5, wr_n μ g (show q + 2 ≠ q by omega), wr_ww] at k
  exact k
