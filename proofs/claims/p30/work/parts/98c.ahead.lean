/-! what the law's look ahead rests on -/
section Ahead
variable {K : Int} {u : Int → Int} {p r : Int}
theorem mv_o (u : Int → Int) (hp : 0 ≤ p) (hr : 0 ≤ r) : mMov u p r 1 = u 1 ∧ mMov u p r 3 = u 3 := ⟨mMov_o hp hr (by decide), mMov_o hp hr (by decide)⟩
theorem mv_c (u : Int → Int) (hp : 0 ≤ p) (hr : 0 ≤ r) (s : Int) : brks (u 1) (vN (mMov u p r)) (vD (mMov u p r)) (u 3) = coT (mMov u p r) s 1 := by
  rw [coT_1, (mv_o u hp hr).1, (mv_o u hp hr).2]
theorem mv_s (hv : veW K u) (hp : 0 ≤ p) (hp2 : p < u 3) (hr : 0 ≤ r) (hr2 : r < u 3) : ofS (mMov u p r) r 0 = ofS u p 0 := by
  have h3 := veW_3 hv
  rw [ofS_0, ofS_0, mMov_N hp hr (by omega) (by omega) hr (by omega), if_pos rfl]
theorem pl_c (hv : veW K u) (hp : 0 ≤ p) (hp2 : p < u 3) (s : Int) : coT (mPul u p) s 0 = u 3 - 1 ∧ coT (mPul u p) s 1 = woT u p 0 ∧ coT (mPul u p) s 2 = woT u p 1 ∧ coT (mPul u p) s 6 = woT u p 2 ∧ coT (mPul u p) s 9 = woT u p 3 := by
  have h3 := veW_3 hv
  have hn : 0 ≤ u (70 + p) ∧ u (70 + p) < 16 := veW_N hv p hp hp2
  have hw := mPul_w (u := u) hp hn.2 h3.2
  have e3 : mPul u p 3 = u 3 - 1 := by rw [mPul_lo hp (by omega), if_neg (by omega), if_pos rfl]
  have e0 : mPul u p 0 = u 0 := by rw [mPul_lo hp (by omega), if_neg (by omega), if_neg (by omega)]
  have e1 : mPul u p 1 = u 1 := by rw [mPul_lo hp (by omega), if_neg (by omega), if_neg (by omega)]
  have eH : ∀ i, 0 ≤ i → i < 16 → vH (mPul u p) i = vH u i := fun i i0 i1 => by
    show mPul u p (54 + i) = u (54 + i)
    rw [mPul_lo hp (by omega), if_neg (by omega), if_neg (by omega)]
  have N : ∀ i, 0 ≤ i → i < u 3 - 1 → vN (mPul u p) i = wN u p i := fun i i0 i1 => (hw i i0 i1).1
  have D : ∀ i, 0 ≤ i → i < u 3 - 1 → vD (mPul u p) i = wD u p i := fun i i0 i1 => (hw i i0 i1).2
  rw [coT_0, coT_1, coT_2, coT_6, coT_9, e0, e1, e3, brks_cong N D, flt_cong N D, lis_c (by omega) N, stS_cong N, stS_hc eH (wN_b2 hv hp2)]
  exact ⟨rfl, rfl, rfl, rfl, rfl⟩
theorem pl_b (hv : veW K u) (hp : 0 ≤ p) (hp2 : p < u 3) (s : Int) : coT u s 6 ≤ woT u p 2 + 1 ∧ woT u p 2 ≤ coT u s 6 := by
  have h1 := lis_wN hp hp2
  have h2 := lis_wN_ge hp hp2
  have e : woT u p 2 = u 3 - 1 - lis (wN u p) (u 3 - 1) := rfl
  rw [coT_6, e]
  omega
theorem nx_c (hv : veW K u) (s : Int) : (nmT u = -1 ∧ coT u s 6 = 0) ∨ (coT u s 6 ≠ 0 ∧ (0 ≤ nmT u ∧ nmT u < 400) ∧ (0 ≤ nmT u / 20 ∧ nmT u / 20 < u 3) ∧ (0 ≤ nmT u % 20 ∧ nmT u % 20 < u 3) ∧ ∀ t, coT (mMov u (nmT u / 20) (nmT u % 20)) t 6 = coT u s 6 - 1) := by
  have h3 := veW_3 hv
  rcases nmT_sp h3.1 h3.2 with ⟨h1, h2⟩ | ⟨h1, h2, h4, h5, h6, h7⟩
  · refine Or.inl ⟨h1, ?_⟩
    rw [coT_6]
    omega
  · refine Or.inr ⟨?_, ⟨h2, h4⟩, h5, h6, fun t => ?_⟩
    · rw [coT_6]; omega
    · rw [coT_6, coT_6, (mv_o u h5.1 h6.1).2, lis_c (a' := bhN u (nmT u / 20) (nmT u % 20)) h3.1 (fun j j0 j1 => mMov_b h5.1 h5.2 h6.1 h6.2 h3.2 j j0 j1), h7]
      omega
theorem ft_c (hv : veW K u) (hf : 0 ≤ fiT u) : ofS (mIns u (u 3) (fiT u)) (u 3) 3 = 0 := by
  have h3 := veW_3 hv
  obtain ⟨f1, f2, f3, f4⟩ := fiT_f hf
  have e1 : mIns u (u 3) (fiT u) 1 = u 1 := by rw [mIns_lo h3.1 (by omega), if_neg (by omega), if_neg (by omega)]
  have N : ∀ i, 0 ≤ i → i < u 3 → vN (mIns u (u 3) (fiT u)) i = vN u i := fun i i0 i1 => by
    show mIns u (u 3) (fiT u) (70 + i) = u (70 + i)
    rw [mIns_N h3.1 (Int.le_refl _) f2 f1 i0 (by omega), if_neg (by omega), if_neg (by omega)]
  have D : ∀ i, 0 ≤ i → i < u 3 → vD (mIns u (u 3) (fiT u)) i = vD u i := fun i i0 i1 => by
    show mIns u (u 3) (fiT u) (90 + i) = u (90 + i)
    rw [mIns_D h3.1 (Int.le_refl _) f2 f1 i0 (by omega), if_neg (by omega), if_neg (by omega)]
  have eN : vN (mIns u (u 3) (fiT u)) (u 3) = fiT u := by
    show mIns u (u 3) (fiT u) (70 + u 3) = fiT u
    rw [mIns_N h3.1 (Int.le_refl _) f2 f1 h3.1 (by omega), if_pos rfl]
  have eD : vD (mIns u (u 3) (fiT u)) (u 3) = 0 := by
    show mIns u (u 3) (fiT u) (90 + u 3) = 0
    rw [mIns_D h3.1 (Int.le_refl _) f2 f1 h3.1 (by omega), if_pos rfl]
  rw [ofS_3]
  refine b01_f (fun z => z ?_)
  rw [e1, due_cong N D h3.1 (Int.le_refl _), eN, eD]
  unfold mk
  rw [if_pos rfl]
  exact f4
theorem fl_c (hv : veW K u) (hp : 0 ≤ p) (hp2 : p < u 3) : mk (u 1) (u (70 + p)) (1 - u (90 + p)) = ofS (mFli u p) p 2 ∧ mFli u p 1 = u 1 ∧ mFli u p 3 = u 3 ∧ (0 ≤ ofS (mFli u p) p 2 ∧ ofS (mFli u p) p 2 < u 1) := by
  have h3 := veW_3 hv
  have h1 := hv.2.2.1
  have e1 : mFli u p 1 = u 1 := s1_n _ _ (by omega)
  have e3 : mFli u p 3 = u 3 := s1_n _ _ (by omega)
  have eN : mFli u p (70 + p) = u (70 + p) := s1_n _ _ (by omega)
  have eD : mFli u p (90 + p) = 1 - u (90 + p) := s1_s ..
  rw [ofS_2, e1, eN, eD]
  exact ⟨rfl, rfl, e3, mk_bd (by omega)⟩
theorem bd_c (hv : veW K u) (s : Int) (hf : coT u s 2 = 0) (t : Int) : coT (mBin u) t 0 = 0 ∧ mBin u 0 = u 0 ∧ coT (mBin u) t 13 = coT u s 13 + u 0 := by
  have h3 := veW_3 hv
  have g := flt_0 h3.1 (fun i i0 i1 => (veW_N hv i i0 i1).1) hf
  have e3 : mBin u 3 = 0 := by rw [mBin_e, if_neg (by omega), if_pos rfl]
  have e0 : mBin u 0 = u 0 := by rw [mBin_e, if_neg (by omega), if_neg (by omega), if_neg (by omega)]
  refine ⟨e3, e0, ?_⟩
  rw [coT_13, coT_13, sm_cong (g := fun k => u (22 + k) + cn (fun e => vN u e = k) (u 3)) (fun k k0 k1 => by
    rw [mBin_e, if_neg (by omega), if_neg (by omega), if_pos (by omega), show 22 + k - 22 = k by omega]), sm_add, cn_tot h3.1 (veW_N hv)]
  omega
end Ahead
