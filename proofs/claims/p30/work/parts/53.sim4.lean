theorem opG_o {μ : Mem} {h r : Nat} {p x : Int} (hr : r < h ∨ h + 11 < r) : opG μ h p x r = μ r := by unfold opG; simp (disch := omega) only [wr_n]
theorem opP_o {μ : Mem} {h r : Nat} {p : Int} (hr : r < h ∨ h + 11 < r) : opP μ h p r = μ r := by unfold opP; simp (disch := omega) only [wr_n]
theorem opF_o {μ : Mem} {h r : Nat} {p : Int} (hr : r < h ∨ h + 11 < r) : opF μ h p r = μ r := by unfold opF; simp (disch := omega) only [wr_n]
theorem opM_o {μ : Mem} {h r : Nat} {p s : Int} (hr : r < h ∨ h + 11 < r) : opM μ h p s r = μ r := by unfold opM; simp (disch := omega) only [wr_n]
theorem opB_o {μ : Mem} {h r : Nat} (hr : r < h ∨ h + 11 < r) : opB μ h r = μ r := by unfold opB; simp (disch := omega) only [wr_n]
/-- the state's numbers in the reference's words -/
theorem StE_N {μ : Mem} {h : Nat} {w : Int → Int} (e : StE μ h w) : ∀ i, 0 ≤ i → i < w 3 → μ (h + 1 + 1) i = vN w i := e.2.2.2.2.2.2.2.2.1
theorem StE_D {μ : Mem} {h : Nat} {w : Int → Int} (e : StE μ h w) : ∀ i, 0 ≤ i → i < w 3 → μ (h + 1 + 2) i = vD w i := e.2.2.2.2.2.2.2.2.2
theorem stA_hc {ho ho' a : Int → Int} {n k : Int} (h : ∀ i, 0 ≤ i → i < 16 → ho i = ho' i) (ha : ∀ i, 0 ≤ i → i < n → 0 ≤ a i ∧ a i < 16) (h0 : 0 ≤ k) (h1 : k < n) : stA ho a k = stA ho' a k := by
  unfold stA
  by_cases hk : k = 0
  · rw [if_pos hk, if_pos hk]
  · have b1 := ha k h0 h1
    have b2 := ha (k - 1) (by omega) (by omega)
    rw [if_neg hk, if_neg hk, h _ b1.1 b1.2, h _ b2.1 b2.2]
theorem stS_hc {ho ho' a : Int → Int} {n : Int} (h : ∀ i, 0 ≤ i → i < 16 → ho i = ho' i) (ha : ∀ i, 0 ≤ i → i < n → 0 ≤ a i ∧ a i < 16) : stS ho a n = stS ho' a n := sm_cong (fun k h0 h1 => stA_hc h ha h0 h1)
theorem lsS_hc {ho ho' a : Int → Int} {n : Int} (h : ∀ i, 0 ≤ i → i < 16 → ho i = ho' i) (ha : ∀ i, 0 ≤ i → i < n → 0 ≤ a i ∧ a i < 16) : lsS ho a n = lsS ho' a n := cn_cong (fun k h0 h1 => by rw [stA_hc h ha h0 h1])
theorem thS_hc {s2 n : Int} {ho ho' a : Int → Int} (h : ∀ i, 0 ≤ i → i < 16 → ho i = ho' i) (ha : ∀ i, 0 ≤ i → i < n → 0 ≤ a i ∧ a i < 16) : thS s2 ho a n = thS s2 ho' a n := by
  unfold thS
  rw [stS_hc h ha, sm_cong (g := fun k => spn (ho' (a k))) (fun k h0 h1 => by rw [h _ (ha k h0 h1).1 (ha k h0 h1).2])]
theorem veW_N {K : Int} {w : Int → Int} (hv : veW K w) : ∀ i, 0 ≤ i → i < w 3 → 0 ≤ vN w i ∧ vN w i < 16 := by
  obtain ⟨v0, v1, v2, v3, v4, v5, v6, v7, v8, v9, v10⟩ := hv
  exact fun i h0 h1 => v9 i h0 h1
theorem veW_H {K : Int} {w : Int → Int} (hv : veW K w) : wfH (vH w) := by
  obtain ⟨v0, v1, v2, v3, v4, v5, v6, v7, v8, v9, v10⟩ := hv
  exact fun i h0 h1 => v8 i h0 h1
theorem veW_3 {K : Int} {w : Int → Int} (hv : veW K w) : 0 ≤ w 3 ∧ w 3 ≤ 20 := hv.2.2.2.2.1
theorem StE_H {μ : Mem} {h : Nat} {w : Int → Int} (e : StE μ h w) : ∀ i, 0 ≤ i → i < 16 → μ (h + 10) i = vH w i := e.2.2.2.2.2.2.2.1
/-- the state's looks in the reference's words -/
theorem StE_brks {μ : Mem} {h : Nat} {w : Int → Int} (e : StE μ h w) : brks (μ (h + 11) 1) (μ (h + 1 + 1)) (μ (h + 1 + 2)) (μ (h + 1) 2) = brks (w 1) (vN w) (vD w) (w 3) := by
  rw [e.1 1 (by omega) (by omega), e.2.1]; exact brks_cong (StE_N e) (StE_D e)
theorem StE_flt {μ : Mem} {h : Nat} {w : Int → Int} (e : StE μ h w) : flt (μ (h + 11) 0) (μ (h + 1 + 1)) (μ (h + 1 + 2)) (μ (h + 1) 2) = flt (w 0) (vN w) (vD w) (w 3) := by
  rw [e.1 0 (by omega) (by omega), e.2.1]; exact flt_cong (StE_N e) (StE_D e)
theorem StE_plf {μ : Mem} {h : Nat} {w : Int → Int} (e : StE μ h w) : plf (μ (h + 11) 0) (μ (h + 1 + 1)) (μ (h + 1 + 2)) (μ (h + 1) 2) = plf (w 0) (vN w) (vD w) (w 3) := by
  rw [e.1 0 (by omega) (by omega), e.2.1]; exact plf_cong (StE_N e) (StE_D e)
theorem StE_mis {μ : Mem} {h : Nat} {w : Int → Int} (e : StE μ h w) : misS (μ (h + 11) 0) (μ (h + 1 + 1)) (μ (h + 1) 2) = misS (w 0) (vN w) (w 3) := by
  rw [e.1 0 (by omega) (by omega), e.2.1]; exact misS_cong (StE_N e)
theorem StE_stS {K : Int} {μ : Mem} {h : Nat} {w : Int → Int} (hv : veW K w) (e : StE μ h w) : stS (μ (h + 10)) (μ (h + 1 + 1)) (μ (h + 1) 2) = stS (vH w) (vN w) (w 3) := by
  rw [e.2.1, stS_cong (StE_N e)]; exact stS_hc (StE_H e) (veW_N hv)
theorem StE_lsS {K : Int} {μ : Mem} {h : Nat} {w : Int → Int} (hv : veW K w) (e : StE μ h w) : lsS (μ (h + 10)) (μ (h + 1 + 1)) (μ (h + 1) 2) = lsS (vH w) (vN w) (w 3) := by
  rw [e.2.1, lsS_cong (StE_N e)]; exact lsS_hc (StE_H e) (veW_N hv)
theorem StE_thS {K : Int} {μ : Mem} {h : Nat} {w : Int → Int} (hv : veW K w) (e : StE μ h w) : thS (μ (h + 11) 2) (μ (h + 10)) (μ (h + 1 + 1)) (μ (h + 1) 2) = thS (w 2) (vH w) (vN w) (w 3) := by
  rw [e.1 2 (by omega) (by omega), e.2.1, thS_cong (StE_N e)]; exact thS_hc (StE_H e) (veW_N hv)
