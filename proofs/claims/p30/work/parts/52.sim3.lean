/-! each deed on the class's state beside the reference's -/
theorem remR_at (f : Int → Int) (p n i : Int) : remR f p n i = if p ≤ i ∧ i < n - 1 then f (i + 1) else f i := rfl
theorem StE_ins {μ : Mem} {h : Nat} {w : Int → Int} {p x : Int} (e : StE μ h w) (hp : 0 ≤ p) (hp2 : p ≤ w 3) (h3 : w 3 < 20) (hx0 : 0 ≤ x) (hx : x < 16) : StE (opG μ h p x) h (mIns w p x) := by
  obtain ⟨e1, e2, e3, e4, e5, e6, e7, e8, e9, e10⟩ := e
  have m3 : mIns w p x 3 = w 3 + 1 := by rw [mIns_lo hp (by omega), if_pos rfl]
  have lo : ∀ j, j < 70 → j ≠ 3 → j ≠ 6 + x → mIns w p x j = w j := fun j j0 j1 j2 => by rw [mIns_lo hp j0, if_neg j1, if_neg j2]
  unfold StE
  rw [m3]
  unfold opG
  simp (disch := omega) only [wr_n, wr_s, s1_s]
  refine ⟨fun i h0 h1 => by rw [lo i (by omega) (by omega) (by omega)]; exact e1 i h0 h1, by rw [e2], by rw [lo 4 (by omega) (by omega) (by omega)]; exact e3, by rw [lo 5 (by omega) (by omega) (by omega)]; exact e4, fun i h0 h1 => ?_, fun i h0 h1 => by rw [lo _ (by omega) (by omega) (by omega)]; exact e6 i h0 h1, fun i h0 h1 => by rw [lo _ (by omega) (by omega) (by omega)]; exact e7 i h0 h1, fun i h0 h1 => by rw [lo _ (by omega) (by omega) (by omega)]; exact e8 i h0 h1, fun i h0 h1 => ?_, fun i h0 h1 => ?_⟩
  · by_cases c : i = x
    · rw [c, s1_s, mIns_lo hp (by omega), if_neg (by omega), if_pos rfl, e5 x hx0 hx]; omega
    · rw [s1_n _ _ c, lo _ (by omega) (by omega) (by omega)]; exact e5 i h0 h1
  · rw [insR_at, mIns_N hp hp2 h3 hx h0 (by omega), e2]
    by_cases c : i = p
    · rw [if_pos c, if_pos c]
    · rw [if_neg c, if_neg c]
      by_cases c2 : p < i ∧ i ≤ w 3
      · rw [if_pos c2, if_pos c2, e9 _ (by omega) (by omega)]; congr 1; omega
      · rw [if_neg c2, if_neg c2]; exact e9 i h0 (by omega)
  · rw [insR_at, mIns_D hp hp2 h3 hx h0 (by omega), e2]
    by_cases c : i = p
    · rw [if_pos c, if_pos c]
    · rw [if_neg c, if_neg c]
      by_cases c2 : p < i ∧ i ≤ w 3
      · rw [if_pos c2, if_pos c2, e10 _ (by omega) (by omega)]; congr 1; omega
      · rw [if_neg c2, if_neg c2]; exact e10 i h0 (by omega)
theorem StE_pul {K : Int} {μ : Mem} {h : Nat} {w : Int → Int} {p : Int} (hv : veW K w) (e : StE μ h w) (hp : 0 ≤ p) (hp2 : p < w 3) : StE (opP μ h p) h (mPul w p) := by
  obtain ⟨v0, v1, v2, v3, v4, v5, v6, v7, v8, v9, v10⟩ := hv
  obtain ⟨e1, e2, e3, e4, e5, e6, e7, e8, e9, e10⟩ := e
  have hn := v9 p hp hp2
  have m3 : mPul w p 3 = w 3 - 1 := by rw [mPul_lo hp (by omega), if_neg (by omega), if_pos rfl]
  have lo : ∀ j, j < 70 → j ≠ 3 → j ≠ 6 + w (70 + p) → mPul w p j = w j := fun j j0 j1 j2 => by rw [mPul_lo hp j0, if_neg j2, if_neg j1]
  unfold StE
  rw [m3]
  unfold opP
  simp (disch := omega) only [wr_n, wr_s, s1_s]
  rw [e9 p hp hp2]
  refine ⟨fun i h0 h1 => by rw [lo i (by omega) (by omega) (by omega)]; exact e1 i h0 h1, by rw [e2], by rw [lo 4 (by omega) (by omega) (by omega)]; exact e3, by rw [lo 5 (by omega) (by omega) (by omega)]; exact e4, fun i h0 h1 => ?_, fun i h0 h1 => by rw [lo _ (by omega) (by omega) (by omega)]; exact e6 i h0 h1, fun i h0 h1 => by rw [lo _ (by omega) (by omega) (by omega)]; exact e7 i h0 h1, fun i h0 h1 => by rw [lo _ (by omega) (by omega) (by omega)]; exact e8 i h0 h1, fun i h0 h1 => ?_, fun i h0 h1 => ?_⟩
  · by_cases c : i = w (70 + p)
    · rw [c, s1_s, mPul_lo hp (by omega), if_pos rfl, e5 _ hn.1 hn.2]
    · rw [s1_n _ _ c, lo _ (by omega) (by omega) (by omega)]; exact e5 i h0 h1
  · rw [remR_at, mPul_N hp hn.2 v4.2 h0 (by omega), e2]
    by_cases c2 : p ≤ i ∧ i < w 3 - 1
    · rw [if_pos c2, if_pos c2, e9 _ (by omega) (by omega)]; congr 1; omega
    · rw [if_neg c2, if_neg c2]; exact e9 i h0 (by omega)
  · rw [remR_at, mPul_D hp hn.2 v4.2 h0 (by omega), e2]
    by_cases c2 : p ≤ i ∧ i < w 3 - 1
    · rw [if_pos c2, if_pos c2, e10 _ (by omega) (by omega)]; congr 1; omega
    · rw [if_neg c2, if_neg c2]; exact e10 i h0 (by omega)
theorem StE_fli {μ : Mem} {h : Nat} {w : Int → Int} {p : Int} (e : StE μ h w) (hp : 0 ≤ p) (hp2 : p < w 3) (h3 : w 3 ≤ 20) : StE (opF μ h p) h (mFli w p) := by
  obtain ⟨e1, e2, e3, e4, e5, e6, e7, e8, e9, e10⟩ := e
  have lo : ∀ j, j ≠ 90 + p → mFli w p j = w j := fun j j0 => s1_n _ _ j0
  unfold StE
  rw [lo 3 (by omega)]
  unfold opF
  simp (disch := omega) only [wr_n, wr_s]
  refine ⟨fun i h0 h1 => by rw [lo i (by omega)]; exact e1 i h0 h1, e2, by rw [lo 4 (by omega)]; exact e3, by rw [lo 5 (by omega)]; exact e4, fun i h0 h1 => by rw [lo _ (by omega)]; exact e5 i h0 h1, fun i h0 h1 => by rw [lo _ (by omega)]; exact e6 i h0 h1, fun i h0 h1 => by rw [lo _ (by omega)]; exact e7 i h0 h1, fun i h0 h1 => by rw [lo _ (by omega)]; exact e8 i h0 h1, fun i h0 h1 => by rw [lo _ (by omega)]; exact e9 i h0 h1, fun i h0 h1 => ?_⟩
  by_cases c : i = p
  · rw [c, s1_s, e10 p hp hp2]
    exact (s1_s w (90 + p) (1 - w (90 + p))).symm
  · rw [s1_n _ _ c, lo _ (by omega)]; exact e10 i h0 h1
theorem StE_mov {μ : Mem} {h : Nat} {w : Int → Int} {p r : Int} (e : StE μ h w) (hp : 0 ≤ p) (hp2 : p < w 3) (hr : 0 ≤ r) (hr2 : r < w 3) (h3 : w 3 ≤ 20) : StE (opM μ h p r) h (mMov w p r) := by
  obtain ⟨e1, e2, e3, e4, e5, e6, e7, e8, e9, e10⟩ := e
  have lo : ∀ j, j < 70 → mMov w p r j = w j := fun j j0 => mMov_o hp hr j0
  unfold StE
  rw [lo 3 (by omega)]
  unfold opM
  simp (disch := omega) only [wr_n, wr_s]
  rw [e2, e9 p hp hp2, e10 p hp hp2]
  refine ⟨fun i h0 h1 => by rw [lo i (by omega)]; exact e1 i h0 h1, rfl, by rw [lo 4 (by omega)]; exact e3, by rw [lo 5 (by omega)]; exact e4, fun i h0 h1 => by rw [lo _ (by omega)]; exact e5 i h0 h1, fun i h0 h1 => by rw [lo _ (by omega)]; exact e6 i h0 h1, fun i h0 h1 => by rw [lo _ (by omega)]; exact e7 i h0 h1, fun i h0 h1 => by rw [lo _ (by omega)]; exact e8 i h0 h1, fun i h0 h1 => ?_, fun i h0 h1 => ?_⟩
  · rw [mMov_N hp hr (by omega) (by omega) h0 (by omega), insR_at]
    by_cases c : i = r
    · rw [if_pos c, if_pos c]
    · rw [if_neg c, if_neg c]
      by_cases c1 : p ≤ i ∧ i < r
      · rw [if_pos c1, if_neg (by omega), remR_at, if_pos (by omega), e9 _ (by omega) (by omega)]; congr 1; omega
      · rw [if_neg c1]
        by_cases c2 : r < i ∧ i ≤ p
        · rw [if_pos c2, if_pos (by omega), remR_at, if_neg (by omega), e9 _ (by omega) (by omega)]; congr 1; omega
        · rw [if_neg c2]
          by_cases c3 : r < i ∧ i ≤ w 3 - 1
          · rw [if_pos c3, remR_at, if_pos (by omega), show i - 1 + 1 = i by omega]; exact e9 i h0 h1
          · rw [if_neg c3, remR_at, if_neg (by omega)]; exact e9 i h0 h1
  · rw [mMov_D hp hr (by omega) (by omega) h0 (by omega), insR_at]
    by_cases c : i = r
    · rw [if_pos c, if_pos c]
    · rw [if_neg c, if_neg c]
      by_cases c1 : p ≤ i ∧ i < r
      · rw [if_pos c1, if_neg (by omega), remR_at, if_pos (by omega), e10 _ (by omega) (by omega)]; congr 1; omega
      · rw [if_neg c1]
        by_cases c2 : r < i ∧ i ≤ p
        · rw [if_pos c2, if_pos (by omega), remR_at, if_neg (by omega), e10 _ (by omega) (by omega)]; congr 1; omega
        · rw [if_neg c2]
          by_cases c3 : r < i ∧ i ≤ w 3 - 1
          · rw [if_pos c3, remR_at, if_pos (by omega), show i - 1 + 1 = i by omega]; exact e10 i h0 h1
          · rw [if_neg c3, remR_at, if_neg (by omega)]; exact e10 i h0 h1
theorem StE_bin {μ : Mem} {h : Nat} {w : Int → Int} (e : StE μ h w) : StE (opB μ h) h (mBin w) := by
  obtain ⟨e1, e2, e3, e4, e5, e6, e7, e8, e9, e10⟩ := e
  have lo : ∀ j, j ≠ 4 → j ≠ 3 → ¬ (22 ≤ j ∧ j < 38) → mBin w j = w j := fun j j0 j1 j2 => by rw [mBin_e, if_neg j0, if_neg j1, if_neg j2]
  have m3 : mBin w 3 = 0 := by rw [mBin_e, if_neg (by omega), if_pos rfl]
  have m4 : mBin w 4 = w 4 + 1 := by rw [mBin_e, if_pos rfl]
  unfold StE
  rw [m3, m4]
  unfold opB
  simp (disch := omega) only [wr_n, wr_s, s1_s, s1_n]
  refine ⟨fun i h0 h1 => by rw [lo i (by omega) (by omega) (by omega)]; exact e1 i h0 h1, trivial, by rw [e3], by rw [lo 5 (by omega) (by omega) (by omega)]; exact e4, fun i h0 h1 => by rw [lo _ (by omega) (by omega) (by omega)]; exact e5 i h0 h1, fun i h0 h1 => ?_, fun i h0 h1 => by rw [lo _ (by omega) (by omega) (by omega)]; exact e7 i h0 h1, fun i h0 h1 => by rw [lo _ (by omega) (by omega) (by omega)]; exact e8 i h0 h1, fun i h0 h1 => absurd h1 (by omega), fun i h0 h1 => absurd h1 (by omega)⟩
  rw [mBin_e, if_neg (by omega), if_neg (by omega), if_pos (by omega), e2]
  show μ (h + 8) i + cn (fun e => μ (h + 1 + 1) e = i) (w 3) = _
  rw [e6 i h0 h1, cn_cong (q := fun e => w (70 + e) = 22 + i - 22) (fun k k0 k1 => by rw [e9 k k0 k1, show 22 + i - 22 = i by omega])]
/-- one number of a row -/
theorem StE_put {μ : Mem} {h : Nat} {w : Int → Int} {x c : Int} (e : StE μ h w) (h3 : w 3 ≤ 20) : (0 ≤ x → x < 16 → StE (wr μ (h + 7) (s1 (μ (h + 7)) x c)) h (s1 w (6 + x) c)) ∧ (0 ≤ x → x < 16 → StE (wr μ (h + 9) (s1 (μ (h + 9)) x c)) h (s1 w (38 + x) c)) ∧ (0 ≤ x → x < 16 → StE (wr μ (h + 10) (s1 (μ (h + 10)) x c)) h (s1 w (54 + x) c)) ∧ (0 ≤ x → x < 3 → StE (wr μ (h + 11) (s1 (μ (h + 11)) x c)) h (s1 w x c)) ∧ StE (wr μ h (s1 (μ h) 7 c)) h (s1 w 5 c) := by
  obtain ⟨e1, e2, e3, e4, e5, e6, e7, e8, e9, e10⟩ := e
  refine ⟨fun x0 x1 => ?_, fun x0 x1 => ?_, fun x0 x1 => ?_, fun x0 x1 => ?_, ?_⟩
  · unfold StE
    rw [s1_n _ _ (show (3 : Int) ≠ 6 + x by omega), s1_n _ _ (show (4 : Int) ≠ 6 + x by omega), s1_n _ _ (show (5 : Int) ≠ 6 + x by omega)]
    simp (disch := omega) only [wr_n, wr_s]
    refine ⟨fun i h0 h1 => by rw [s1_n _ _ (by omega)]; exact e1 i h0 h1, e2, e3, e4, fun i h0 h1 => ?_, fun i h0 h1 => by rw [s1_n _ _ (by omega)]; exact e6 i h0 h1, fun i h0 h1 => by rw [s1_n _ _ (by omega)]; exact e7 i h0 h1, fun i h0 h1 => by rw [s1_n _ _ (by omega)]; exact e8 i h0 h1, fun i h0 h1 => by rw [s1_n _ _ (by omega)]; exact e9 i h0 h1, fun i h0 h1 => by rw [s1_n _ _ (by omega)]; exact e10 i h0 h1⟩
    by_cases c : i = x
    · rw [c, s1_s, s1_s]
    · rw [s1_n _ _ c, s1_n _ _ (by omega)]; exact e5 i h0 h1
  · unfold StE
    rw [s1_n _ _ (show (3 : Int) ≠ 38 + x by omega), s1_n _ _ (show (4 : Int) ≠ 38 + x by omega), s1_n _ _ (show (5 : Int) ≠ 38 + x by omega)]
    simp (disch := omega) only [wr_n, wr_s]
    refine ⟨fun i h0 h1 => by rw [s1_n _ _ (by omega)]; exact e1 i h0 h1, e2, e3, e4, fun i h0 h1 => by rw [s1_n _ _ (by omega)]; exact e5 i h0 h1, fun i h0 h1 => by rw [s1_n _ _ (by omega)]; exact e6 i h0 h1, fun i h0 h1 => ?_, fun i h0 h1 => by rw [s1_n _ _ (by omega)]; exact e8 i h0 h1, fun i h0 h1 => by rw [s1_n _ _ (by omega)]; exact e9 i h0 h1, fun i h0 h1 => by rw [s1_n _ _ (by omega)]; exact e10 i h0 h1⟩
    by_cases c : i = x
    · rw [c, s1_s, s1_s]
    · rw [s1_n _ _ c, s1_n _ _ (by omega)]; exact e7 i h0 h1
  · unfold StE
    rw [s1_n _ _ (show (3 : Int) ≠ 54 + x by omega), s1_n _ _ (show (4 : Int) ≠ 54 + x by omega), s1_n _ _ (show (5 : Int) ≠ 54 + x by omega)]
    simp (disch := omega) only [wr_n, wr_s]
    refine ⟨fun i h0 h1 => by rw [s1_n _ _ (by omega)]; exact e1 i h0 h1, e2, e3, e4, fun i h0 h1 => by rw [s1_n _ _ (by omega)]; exact e5 i h0 h1, fun i h0 h1 => by rw [s1_n _ _ (by omega)]; exact e6 i h0 h1, fun i h0 h1 => by rw [s1_n _ _ (by omega)]; exact e7 i h0 h1, fun i h0 h1 => ?_, fun i h0 h1 => by rw [s1_n _ _ (by omega)]; exact e9 i h0 h1, fun i h0 h1 => by rw [s1_n _ _ (by omega)]; exact e10 i h0 h1⟩
    by_cases c : i = x
    · rw [c, s1_s, s1_s]
    · rw [s1_n _ _ c, s1_n _ _ (by omega)]; exact e8 i h0 h1
  · unfold StE
    rw [s1_n _ _ (show (3 : Int) ≠ x by omega), s1_n _ _ (show (4 : Int) ≠ x by omega), s1_n _ _ (show (5 : Int) ≠ x by omega)]
    simp (disch := omega) only [wr_n, wr_s]
    refine ⟨fun i h0 h1 => ?_, e2, e3, e4, fun i h0 h1 => by rw [s1_n _ _ (by omega)]; exact e5 i h0 h1, fun i h0 h1 => by rw [s1_n _ _ (by omega)]; exact e6 i h0 h1, fun i h0 h1 => by rw [s1_n _ _ (by omega)]; exact e7 i h0 h1, fun i h0 h1 => by rw [s1_n _ _ (by omega)]; exact e8 i h0 h1, fun i h0 h1 => by rw [s1_n _ _ (by omega)]; exact e9 i h0 h1, fun i h0 h1 => by rw [s1_n _ _ (by omega)]; exact e10 i h0 h1⟩
    by_cases c : i = x
    · rw [c, s1_s, s1_s]
    · rw [s1_n _ _ c, s1_n _ _ c]; exact e1 i h0 h1
  · unfold StE
    rw [s1_n _ _ (show (3 : Int) ≠ 5 by omega), s1_n _ _ (show (4 : Int) ≠ 5 by omega), s1_s]
    simp (disch := omega) only [wr_n, wr_s, s1_n, s1_s]
    exact ⟨fun i h0 h1 => by rw [s1_n _ _ (by omega)]; exact e1 i h0 h1, e2, e3, trivial, fun i h0 h1 => by rw [s1_n _ _ (by omega)]; exact e5 i h0 h1, fun i h0 h1 => by rw [s1_n _ _ (by omega)]; exact e6 i h0 h1, fun i h0 h1 => by rw [s1_n _ _ (by omega)]; exact e7 i h0 h1, fun i h0 h1 => by rw [s1_n _ _ (by omega)]; exact e8 i h0 h1, fun i h0 h1 => by rw [s1_n _ _ (by omega)]; exact e9 i h0 h1, fun i h0 h1 => by rw [s1_n _ _ (by omega)]; exact e10 i h0 h1⟩
/-- another state for the present one -/
theorem CI_now {V : Wo} {K K' : Int} {q : Nat} {μ ν : Mem} {w w' tx : Int → Int} {sv kp ln : Int} (h : CI V K q μ w tx sv kp ln) (f : ∀ r, (r ≤ q ∨ q + 12 < r) → ν r = μ r) (hv : veW K' w') (e : StE ν (q + 1) w') (hi : ∀ j, 110 ≤ j → w' j = w j) (hK : K ≤ K') (hK2 : K' ≤ 1000000) : CI V K' q ν w' tx sv kp ln := by
  obtain ⟨h0, ⟨h1, h2⟩, ⟨k1, k2, k3⟩, ⟨s1, s2, s3, s4, s5, s6⟩, ⟨b1, b2, b3, b4⟩, r⟩ := h
  have g0 : ν q = μ q := f q (by omega)
  have g37 : ν (q + 37) = μ (q + 37) := f (q + 37) (by omega)
  have g38 : ν (q + 37 + 1) = μ (q + 37 + 1) := f (q + 37 + 1) (by omega)
  have gs : ∀ i, svA ν (q + 37) i = svA μ (q + 37) i := fun i => by unfold svA; rw [g38]
  have sc : ∀ k, 1 ≤ k → ∀ j, 0 ≤ j → j < 110 → seg w' k j = seg w k j := fun k k0 j j0 j1 => hi _ (by omega)
  refine ⟨h0, ⟨hv, e⟩, ⟨k1, by rw [g0]; exact k2, fun z => ?_⟩, ⟨s1, by rw [g37]; exact s2, ?_, ?_, ?_, ?_⟩, ⟨by rw [g0]; exact b1, b2, ?_, b4⟩, by rw [f (q + 111) (by omega)]; exact r⟩
  · obtain ⟨_, _, _, _, v4', _⟩ := (k3 z).1
    exact ⟨veW_mono (veW_lo (k3 z).1 (sc 7 (by omega))) hK hK2, StE_c (StE_f (k3 z).2 (fun r r0 r1 r2 => f r (by omega))) (sc 7 (by omega)) v4'.2⟩
  · unfold HiW at s3 ⊢
    rw [g37, g38]
    exact s3
  · intro i i0 i1; rw [gs]; exact s4 i i0 i1
  · intro i j i0 i1 j0 j1 ij; rw [gs, gs]; exact s5 i j i0 i1 j0 j1 ij
  · intro i i0 i1
    rw [gs]
    have := s4 i i0 (by omega)
    obtain ⟨_, _, _, _, v4', _⟩ := (s6 i i0 i1).1
    exact ⟨veW_mono (veW_lo (s6 i i0 i1).1 (sc (i + 1) (by omega))) hK hK2, StE_c (StE_f (s6 i i0 i1).2 (fun r r0 r1 r2 => f r (by omega))) (sc (i + 1) (by omega)) v4'.2⟩
  · intro i i0 i1
    rw [f (q + 112) (by omega)]
    exact b3 i i0 i1
