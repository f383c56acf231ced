theorem wN_b2 {K : Int} {v : Int → Int} (hv : veW K v) {p : Int} (hp2 : p < v 3) : ∀ i, 0 ≤ i → i < v 3 - 1 → 0 ≤ wN v p i ∧ wN v p i < 16 := fun i h0 h1 => by
  obtain ⟨v0, v1, v2, v3, v4, v5, v6, v7, v8, v9, v10⟩ := hv
  unfold wN
  split
  · exact v9 (i + 1) (by omega) (by omega)
  · exact v9 i h0 (by omega)
theorem wD_b2 {K : Int} {v : Int → Int} (hv : veW K v) {p : Int} (hp2 : p < v 3) : ∀ i, 0 ≤ i → i < v 3 - 1 → wD v p i = 0 ∨ wD v p i = 1 := fun i h0 h1 => by
  obtain ⟨v0, v1, v2, v3, v4, v5, v6, v7, v8, v9, v10⟩ := hv
  unfold wD
  split
  · exact v10 (i + 1) (by omega) (by omega)
  · exact v10 i h0 (by omega)
theorem StE_cnX {μ : Mem} {h : Nat} {w : Int → Int} (e : StE μ h w) (x : Int) : cn (fun k => μ (h + 1 + 1) k = x) (μ (h + 1) 2) = cnX w x := by
  rw [e.2.1]
  exact cn_cong (fun k k0 k1 => by rw [StE_N e k k0 k1])
/-- the vector without a sheet -/
def woV (w : Int → Int) (p : Int) : Int → Int := fun j => if j = 3 then w 3 - 1 else if 70 ≤ j ∧ j < 90 then wN w p (j - 70) else if 90 ≤ j ∧ j < 110 then wD w p (j - 90) else w j
theorem woV_lo {w : Int → Int} {p j : Int} (h : j < 70) (h3 : j ≠ 3) : woV w p j = w j := by unfold woV; rw [if_neg h3, if_neg (by omega), if_neg (by omega)]
theorem woV_3 (w : Int → Int) (p : Int) : woV w p 3 = w 3 - 1 := if_pos rfl
theorem woV_N {w : Int → Int} {p i : Int} (h0 : 0 ≤ i) (h1 : i < 20) : woV w p (70 + i) = wN w p i := by unfold woV; rw [if_neg (by omega), if_pos (by omega), show 70 + i - 70 = i by omega]
theorem woV_D {w : Int → Int} {p i : Int} (h0 : 0 ≤ i) (h1 : i < 20) : woV w p (90 + i) = wD w p i := by unfold woV; rw [if_neg (by omega), if_neg (by omega), if_pos (by omega), show 90 + i - 90 = i by omega]
theorem veW_wo {K : Int} {w : Int → Int} {p : Int} (hv : veW K w) (hp : 0 ≤ p) (hp2 : p < w 3) : veW K (woV w p) := by
  have hN := wN_b2 hv hp2
  have hD := wD_b2 hv hp2
  obtain ⟨v0, v1, v2, v3, v4, v5, v6, v7, v8, v9, v10⟩ := hv
  unfold veW
  rw [woV_lo (by omega) (by omega), woV_lo (by omega) (by omega), woV_lo (by omega) (by omega), woV_3, woV_lo (by omega) (by omega), woV_lo (by omega) (by omega)]
  exact ⟨v0, v1, v2, v3, by omega, v5, v6, fun i h0 h1 => by rw [woV_lo (by omega) (by omega)]; exact v7 i h0 h1, fun i h0 h1 => by rw [woV_lo (by omega) (by omega)]; exact v8 i h0 h1, fun i h0 h1 => by rw [woV_N h0 (by omega)]; exact hN i h0 h1, fun i h0 h1 => by rw [woV_D h0 (by omega)]; exact hD i h0 h1⟩
/-- what a sheet taken out of a state leaves -/
def opT (μ : Mem) (h : Nat) (p : Int) : Mem := wr (wr (wr μ (h + 1 + 1) (remR (μ (h + 1 + 1)) p (μ (h + 1) 2))) (h + 1 + 2) (remR (μ (h + 1 + 2)) p (μ (h + 1) 2))) (h + 1) (s1 (μ (h + 1)) 2 (μ (h + 1) 2 - 1))
theorem opT_o {μ : Mem} {h r : Nat} {p : Int} (hr : r < h ∨ h + 11 < r) : opT μ h p r = μ r := by unfold opT; simp (disch := omega) only [wr_n]
theorem StE_tak {K : Int} {μ : Mem} {h : Nat} {w : Int → Int} {p : Int} (hv : veW K w) (e : StE μ h w) (hp : 0 ≤ p) (hp2 : p < w 3) : StE (opT μ h p) h (woV w p) := by
  have v4 := veW_3 hv
  obtain ⟨e1, e2, e3, e4, e5, e6, e7, e8, e9, e10⟩ := e
  unfold StE
  rw [woV_3, woV_lo (j := 4) (by omega) (by omega), woV_lo (j := 5) (by omega) (by omega)]
  unfold opT
  simp (disch := omega) only [wr_n, wr_s, s1_s]
  refine ⟨fun i h0 h1 => by rw [woV_lo (by omega) (by omega)]; exact e1 i h0 h1, by rw [e2], e3, e4, fun i h0 h1 => by rw [woV_lo (by omega) (by omega)]; exact e5 i h0 h1, fun i h0 h1 => by rw [woV_lo (by omega) (by omega)]; exact e6 i h0 h1, fun i h0 h1 => by rw [woV_lo (by omega) (by omega)]; exact e7 i h0 h1, fun i h0 h1 => by rw [woV_lo (by omega) (by omega)]; exact e8 i h0 h1, fun i h0 h1 => ?_, fun i h0 h1 => ?_⟩
  · rw [woV_N h0 (by omega), remR_at, e2]
    unfold wN
    by_cases c : p ≤ i
    · rw [if_pos (by omega), if_pos (by omega)]; exact e9 (i + 1) (by omega) (by omega)
    · rw [if_neg (by omega), if_neg (by omega)]; exact e9 i h0 (by omega)
  · rw [woV_D h0 (by omega), remR_at, e2]
    unfold wD
    by_cases c : p ≤ i
    · rw [if_pos (by omega), if_pos (by omega)]; exact e10 (i + 1) (by omega) (by omega)
    · rw [if_neg (by omega), if_neg (by omega)]; exact e10 i h0 (by omega)
