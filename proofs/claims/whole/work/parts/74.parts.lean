/-! the latest stop stands aside while the parts are done -/
theorem s1_cm (f : Int → Int) {a b : Int} (x y : Int) (h : a ≠ b) : s1 (s1 f a x) b y = s1 (s1 f b y) a x := by
  funext j
  unfold s1
  by_cases c : j = b
  · rw [if_pos c, if_neg (by omega), if_pos c]
  · rw [if_neg c, if_neg c]
theorem shV_5 (v : Int → Int) (y : Int) {i n : Int} (h : 0 ≤ i) : shV (s1 v 5 y) i n = s1 (shV v i n) 5 y := by
  funext j
  by_cases c : j = 5
  · rw [c, s1_s, shV_o _ (by omega) h, s1_s]
  · rw [s1_n _ _ c]
    unfold shV
    by_cases c1 : 70 + i < j ∧ j ≤ 70 + n
    · rw [if_pos c1, if_pos c1, s1_n _ _ (by omega)]
    · rw [if_neg c1, if_neg c1]
      by_cases c2 : 90 + i < j ∧ j ≤ 90 + n
      · rw [if_pos c2, if_pos c2, s1_n _ _ (by omega)]
      · rw [if_neg c2, if_neg c2, s1_n _ _ c]
theorem sdV_5 (v : Int → Int) (y : Int) {p i : Int} (h : 0 ≤ p) : sdV (s1 v 5 y) p i = s1 (sdV v p i) 5 y := by
  funext j
  by_cases c : j = 5
  · rw [c, s1_s, sdV_o _ (by omega) h, s1_s]
  · rw [s1_n _ _ c]
    unfold sdV
    by_cases c1 : 70 + p ≤ j ∧ j < 70 + i
    · rw [if_pos c1, if_pos c1, s1_n _ _ (by omega)]
    · rw [if_neg c1, if_neg c1]
      by_cases c2 : 90 + p ≤ j ∧ j < 90 + i
      · rw [if_pos c2, if_pos c2, s1_n _ _ (by omega)]
      · rw [if_neg c2, if_neg c2, s1_n _ _ c]
theorem mIns_5 (v : Int → Int) (y : Int) {p x : Int} (hp : 0 ≤ p) (hx : 0 ≤ x) : mIns (s1 v 5 y) p x = s1 (mIns v p x) 5 y := by
  unfold mIns
  rw [s1_n v y (show (3 : Int) ≠ 5 by decide), s1_n v y (show 6 + x ≠ 5 by omega), shV_5 v y hp, s1_cm _ _ _ (show (5 : Int) ≠ 70 + p by omega), s1_cm _ _ _ (show (5 : Int) ≠ 90 + p by omega), s1_cm _ _ _ (show (5 : Int) ≠ 6 + x by omega), s1_cm _ _ _ (show (5 : Int) ≠ 3 by decide)]
theorem mPul_5 (v : Int → Int) (y : Int) {p : Int} (hp : 0 ≤ p) (hx : 0 ≤ v (70 + p)) : mPul (s1 v 5 y) p = s1 (mPul v p) 5 y := by
  unfold mPul
  rw [s1_n v y (show (3 : Int) ≠ 5 by decide), s1_n v y (show 70 + p ≠ 5 by omega), s1_n v y (show 6 + v (70 + p) ≠ 5 by omega), s1_cm v _ _ (show (5 : Int) ≠ 3 by decide), sdV_5 _ y hp, s1_cm _ _ _ (show (5 : Int) ≠ 6 + v (70 + p) by omega)]
theorem mFli_5 (v : Int → Int) (y : Int) {p : Int} (hp : 0 ≤ p) : mFli (s1 v 5 y) p = s1 (mFli v p) 5 y := by
  unfold mFli
  rw [s1_n v y (show 90 + p ≠ 5 by omega), s1_cm _ _ _ (show (5 : Int) ≠ 90 + p by omega)]
theorem mMov_5 (v : Int → Int) (y : Int) {p r : Int} (hp : 0 ≤ p) (hr : 0 ≤ r) : mMov (s1 v 5 y) p r = s1 (mMov v p r) 5 y := by
  unfold mMov
  rw [s1_n v y (show 70 + p ≠ 5 by omega), s1_n v y (show 90 + p ≠ 5 by omega), shV_5 v y hr, sdV_5 v y hp]
  by_cases c : p < r
  · rw [if_pos c, if_pos c, s1_cm _ _ _ (show (5 : Int) ≠ 70 + r by omega), s1_cm _ _ _ (show (5 : Int) ≠ 90 + r by omega)]
  · rw [if_neg c, if_neg c, s1_cm _ _ _ (show (5 : Int) ≠ 70 + r by omega), s1_cm _ _ _ (show (5 : Int) ≠ 90 + r by omega)]
theorem mBin_5 (v : Int → Int) (y : Int) : mBin (s1 v 5 y) = s1 (mBin v) 5 y := by
  funext j
  by_cases c : j = 5
  · rw [c, s1_s, mBin_e, if_neg (by decide), if_neg (by decide), if_neg (by decide), s1_s]
  · rw [s1_n _ _ c, mBin_e, mBin_e, s1_n v y (show (4 : Int) ≠ 5 by decide), s1_n v y (show (3 : Int) ≠ 5 by decide), s1_n v y c]
    have e : cn (fun e => s1 v 5 y (70 + e) = j - 22) (v 3) = cn (fun e => v (70 + e) = j - 22) (v 3) := cn_cong (fun k k0 k1 => by rw [s1_n v y (show 70 + k ≠ 5 by omega)])
    rw [e]
theorem flt_5 (v : Int → Int) (y : Int) : flt (s1 v 5 y 0) (vN (s1 v 5 y)) (vD (s1 v 5 y)) (s1 v 5 y 3) = flt (v 0) (vN v) (vD v) (v 3) := by
  rw [s1_n v y (show (0 : Int) ≠ 5 by decide), s1_n v y (show (3 : Int) ≠ 5 by decide)]
  exact flt_cong (fun i i0 i1 => s1_n v y (show 70 + i ≠ 5 by omega)) (fun i i0 i1 => s1_n v y (show 90 + i ≠ 5 by omega))
theorem pcV_5 (v : Int → Int) (y : Int) {l f s : Int} (hf : l = 103 → 0 ≤ f) : pcV (s1 v 5 y) l f s = pcV v l f s := by
  unfold pcV
  rw [flt_5, s1_n v y (show (3 : Int) ≠ 5 by decide)]
  by_cases c : l = 103
  · rw [if_pos c, if_pos c, s1_n v y (show 6 + f ≠ 5 by have := hf c; omega)]
  · rw [if_neg c, if_neg c]
theorem pd_np {K : Int} {v : Int → Int} (hv : veW K v) {p : Int} (h : 0 ≤ p ∧ p < v 3) : 0 ≤ v (70 + p) ∧ v (70 + p) < 16 := by
  obtain ⟨v0, v1, v2, v3, v4, v5, v6, v7, v8, v9, v10⟩ := hv
  exact v9 p h.1 h.2
theorem peV_5 {K : Int} {v : Int → Int} (hv : veW K v) (y : Int) {l f s : Int} (hf : l = 103 → 0 ≤ f) : peV (s1 v 5 y) l f s = s1 (peV v l f s) 5 y := by
  have v4 := veW_3 hv
  rcases pcV_z v l f s with h | h
  · rw [peV_0 h, peV_0 (by rw [pcV_5 v y hf]; exact h)]
  · rw [peV_1 h, peV_1 (by rw [pcV_5 v y hf]; exact h)]
    unfold pcV at h
    unfold pdV
    by_cases c1 : l = 103
    · rw [if_pos c1, if_pos c1, s1_n v y (show (3 : Int) ≠ 5 by decide)]
      exact mIns_5 v y v4.1 (hf c1)
    · rw [if_neg c1] at h
      rw [if_neg c1, if_neg c1]
      by_cases c2 : l = 112
      · rw [if_pos (Or.inl c2)] at h
        have h1 := b01_1 h
        rw [if_pos c2, if_pos c2]
        exact mPul_5 v y h1.1 (pd_np hv h1).1
      · rw [if_neg c2, if_neg c2]
        by_cases c3 : l = 102
        · rw [if_pos (Or.inr c3)] at h
          have h1 := b01_1 h
          rw [if_pos c3, if_pos c3]
          exact mFli_5 v y h1.1
        · rw [if_neg (by omega)] at h
          rw [if_neg c3, if_neg c3]
          by_cases c4 : l = 109
          · rw [if_pos c4] at h
            have h1 := b01_1 h
            rw [if_pos c4, if_pos c4]
            exact mMov_5 v y h1.1.1 h1.2.1
          · rw [if_neg c4, if_neg c4]
            exact mBin_5 v y
theorem peV_hi {K : Int} {v : Int → Int} (hv : veW K v) {l f s : Int} (hf : l = 103 → 0 ≤ f ∧ f < 16) : ∀ j, 110 ≤ j → peV v l f s j = v j := fun j hj => by
  have v4 := veW_3 hv
  rcases pcV_z v l f s with h | h
  · rw [peV_0 h]
  · rw [peV_1 h]
    unfold pcV at h
    unfold pdV
    by_cases c1 : l = 103
    · rw [if_pos c1] at h ⊢
      have h1 := b01_1 h
      exact mIns_hi v4.1 (Int.le_refl _) h1.2 (hf c1).2 hj
    · rw [if_neg c1] at h ⊢
      by_cases c2 : l = 112
      · rw [if_pos (Or.inl c2)] at h
        have h1 := b01_1 h
        rw [if_pos c2]
        exact mPul_hi h1.1 (pd_np hv h1).2 v4.2 hj
      · rw [if_neg c2]
        by_cases c3 : l = 102
        · rw [if_pos (Or.inr c3)] at h
          have h1 := b01_1 h
          rw [if_pos c3]
          exact mFli_hi (by omega) hj
        · rw [if_neg (by omega)] at h
          rw [if_neg c3]
          by_cases c4 : l = 109
          · rw [if_pos c4] at h ⊢
            have h1 := b01_1 h
            exact mMov_hi h1.1.1 h1.2.1 (by omega) (by omega) hj
          · rw [if_neg c4, mBin_e, if_neg (by omega), if_neg (by omega), if_neg (by omega)]
/-! the class's parts beside the reference's -/
def RF (b : Int → Int) (n a : Int) (g : Int → Int) : Prop := g 0 = sg b n a ∧ ((sg b n a = 103 ∨ sg b n a = 112 ∨ sg b n a = 102) → g 2 = rpf b n a) ∧ (sg b n a = 109 → g 1 = rpf b n a ∧ g 2 = rps b n a)
theorem pc_eq {μ : Mem} {q : Nat} {u b g : Int → Int} {n a : Int} (e : StE μ (q + 1) u) (r : RF b n a g) (hf : sg b n a = 103 → 0 ≤ rpf b n a ∧ rpf b n a < 16) : pcn μ q g = pcV u (sg b n a) (rpf b n a) (rps b n a) := by
  obtain ⟨r1, r2, r3⟩ := r
  have ef := StE_flt e
  obtain ⟨e1, e2, e3, e4, e5, e6, e7, e8, e9, e10⟩ := e
  unfold pcn pcV
  rw [ef, r1, e2]
  by_cases c1 : sg b n a = 103
  · rw [if_pos c1, if_pos c1, r2 (Or.inl c1), e5 _ (hf c1).1 (hf c1).2]
  · rw [if_neg c1, if_neg c1]
    by_cases c2 : sg b n a = 112 ∨ sg b n a = 102
    · rw [if_pos c2, if_pos c2, r2 (by omega)]
    · rw [if_neg c2, if_neg c2]
      by_cases c3 : sg b n a = 109
      · rw [if_pos c3, if_pos c3, (r3 c3).1, (r3 c3).2]
      · rw [if_neg c3, if_neg c3]
theorem pd_eq {K : Int} {μ : Mem} {q : Nat} {u b g : Int → Int} {n a : Int} (hv : veW K u) (e : StE μ (q + 1) u) (r : RF b n a g) (hf : sg b n a = 103 → 0 ≤ rpf b n a ∧ rpf b n a < 16) (h : pcV u (sg b n a) (rpf b n a) (rps b n a) = 1) : StE (pDo μ q g) (q + 1) (pdV u (sg b n a) (rpf b n a) (rps b n a)) ∧ ∀ r, (r ≤ q ∨ q + 12 < r) → pDo μ q g r = μ r := by
  obtain ⟨r1, r2, r3⟩ := r
  have v4 := veW_3 hv
  have e2 := e.2.1
  unfold pcV at h
  unfold pDo pdV
  rw [r1]
  by_cases c1 : sg b n a = 103
  · rw [if_pos c1] at h ⊢
    rw [if_pos c1]
    have h1 := b01_1 h
    rw [r2 (Or.inl c1), e2]
    exact ⟨StE_ins e v4.1 (Int.le_refl _) h1.2 (hf c1).1 (hf c1).2, fun r hr => opG_o (by omega)⟩
  · rw [if_neg c1] at h ⊢
    rw [if_neg c1]
    by_cases c2 : sg b n a = 112
    · rw [if_pos (Or.inl c2)] at h
      have h1 := b01_1 h
      rw [if_pos c2, if_pos c2, r2 (by omega)]
      exact ⟨StE_pul hv e h1.1 h1.2, fun r hr => opP_o (by omega)⟩
    · rw [if_neg c2, if_neg c2]
      by_cases c3 : sg b n a = 102
      · rw [if_pos (Or.inr c3)] at h
        have h1 := b01_1 h
        rw [if_pos c3, if_pos c3, r2 (by omega)]
        exact ⟨StE_fli e h1.1 h1.2 v4.2, fun r hr => opF_o (by omega)⟩
      · rw [if_neg (by omega)] at h
        rw [if_neg c3, if_neg c3]
        by_cases c4 : sg b n a = 109
        · rw [if_pos c4] at h
          have h1 := b01_1 h
          rw [if_pos c4, if_pos c4, (r3 c4).1, (r3 c4).2]
          exact ⟨StE_mov e h1.1.1 h1.1.2 h1.2.1 h1.2.2 v4.2, fun r hr => opM_o (by omega)⟩
        · rw [if_neg c4, if_neg c4]
          exact ⟨StE_bin e, fun r hr => opB_o (by omega)⟩
def DP (V : Wo) (K : Int) (q : Nat) (u tx : Int → Int) (sv kp ln : Int) (μ ν : Mem) (g : Int → Int) : Prop := CI V K q ν u tx sv kp ln ∧ ν (q + 111) = g ∧ ∀ r, (r < q ∨ q + 112 < r) → ν r = μ r
theorem dp_acc {V : Wo} {K : Int} {q : Nat} {u tx : Int → Int} {sv kp ln : Int} {μ ν : Mem} {g : Int → Int} {c : Int} (N : DP V K q u tx sv kp ln μ ν g) (h0 : 0 ≤ c) (h1 : c < 128) : DP V K q u tx sv kp ln μ (wr ν (q + 111) (nX (ν (q + 111)) c).2) (nX g c).2 := by
  obtain ⟨a1, a2, a3⟩ := N
  have hr : ReW (ν (q + 111)) := a1.2.2.2.2.2
  refine ⟨CI_f a1 (fun r _ _ _ _ r4 => wr_n _ _ r4) (by rw [wr_s]; exact nX_W hr h0 h1), by rw [wr_s, a2], fun r hr => by rw [wr_n _ _ (by omega)]; exact a3 r hr⟩
theorem dp_do {V : Wo} {K : Int} {q : Nat} {u tx b : Int → Int} {sv kp ln n a : Int} {μ ν : Mem} {g : Int → Int} (N : DP V K q u tx sv kp ln μ ν g) (r : RF b n a g) (hf : sg b n a = 103 → 0 ≤ rpf b n a ∧ rpf b n a < 16) (h : pcV u (sg b n a) (rpf b n a) (rps b n a) = 1) (hK : K + 20 ≤ 1000000) : DP V (K + 20) q (peV u (sg b n a) (rpf b n a) (rps b n a)) tx sv kp ln μ (pDo ν q g) g := by
  obtain ⟨a1, a2, a3⟩ := N
  have hv := a1.2.1.1
  have k := pd_eq hv a1.2.1.2 r hf h
  refine ⟨CI_now a1 k.2 (veW_pe hv hK hf) (by rw [peV_1 h]; exact k.1) (peV_hi hv hf) (by omega) hK, by rw [k.2 (q + 111) (by omega)]; exact a2, fun r hr => by rw [k.2 r (by omega)]; exact a3 r hr⟩
theorem StE_7 {μ : Mem} {h : Nat} {w : Int → Int} (e : StE μ h w) (h3 : w 3 ≤ 20) (x : Int) : StE (wr μ h (s1 (μ h) 7 x)) h (s1 w 5 x) := by
  obtain ⟨e1, e2, e3, e4, e5, e6, e7, e8, e9, e10⟩ := e
  unfold StE
  rw [wr_s, s1_n (μ h) x (show (6 : Int) ≠ 7 by decide), s1_s, s1_s, s1_n w x (show (3 : Int) ≠ 5 by decide), s1_n w x (show (4 : Int) ≠ 5 by decide)]
  rw [wr_n _ _ (show h + 11 ≠ h by omega), wr_n _ _ (show h + 1 ≠ h by omega), wr_n _ _ (show h + 7 ≠ h by omega), wr_n _ _ (show h + 8 ≠ h by omega), wr_n _ _ (show h + 9 ≠ h by omega), wr_n _ _ (show h + 10 ≠ h by omega), wr_n _ _ (show h + 1 + 1 ≠ h by omega), wr_n _ _ (show h + 1 + 2 ≠ h by omega)]
  exact ⟨fun i h0 h1 => by rw [s1_n w x (by omega)]; exact e1 i h0 h1, e2, e3, rfl, fun i h0 h1 => by rw [s1_n w x (by omega)]; exact e5 i h0 h1, fun i h0 h1 => by rw [s1_n w x (by omega)]; exact e6 i h0 h1, fun i h0 h1 => by rw [s1_n w x (by omega)]; exact e7 i h0 h1, fun i h0 h1 => by rw [s1_n w x (by omega)]; exact e8 i h0 h1, fun i h0 h1 => by rw [s1_n w x (by omega)]; exact e9 i h0 h1, fun i h0 h1 => by rw [s1_n w x (by omega)]; exact e10 i h0 h1⟩
theorem dp_stop {V : Wo} {K K2 : Int} {q : Nat} {u tx : Int → Int} {sv kp ln : Int} {μ ν : Mem} {g : Int → Int} (N : DP V K q u tx sv kp ln μ ν g) {x : Int} (hx : -1 ≤ x ∧ x ≤ 100) (hK : K ≤ K2) (hK2 : K2 ≤ 1000000) : CU V K2 q (s1 u 5 x) tx sv kp ln μ (wr ν (q + 1) (s1 (ν (q + 1)) 7 x)) := by
  obtain ⟨a1, a2, a3⟩ := N
  have hv := a1.2.1.1
  have v4 := veW_3 hv
  exact ⟨CI_now a1 (fun r hr => wr_n _ _ (by omega)) (veW_mono (veW_s5 hv hx) hK hK2) (StE_7 a1.2.1.2 v4.2 x) (fun j hj => s1_n _ _ (by omega)) hK hK2, fun r hr => by rw [wr_n _ _ (by omega)]; exact a3 r hr⟩
theorem wk_1 {b : Int → Int} {n i a : Int} (h : i < 61) (e : (wk b n i a).1 = 1) : rpk b n a ∧ (rpa b n a = n ∨ (rpa b n a ≠ n ∧ sg b n (rpa b n a) = 59 ∧ (wk b n (i + 1) (rpa b n a + 1)).1 = 1)) := by
  rw [wk_s b n h] at e
  by_cases c : rpk b n a
  · rw [if_pos c] at e
    by_cases c2 : rpa b n a = n
    · exact ⟨c, Or.inl c2⟩
    · rw [if_neg c2] at e
      by_cases c3 : sg b n (rpa b n a) = 59
      · rw [if_pos c3] at e
        exact ⟨c, Or.inr ⟨c2, c3, e⟩⟩
      · rw [if_neg c3] at e
        exact absurd e (show ¬ (0 : Int) = 1 by decide)
  · rw [if_neg c] at e
    exact absurd e (show ¬ (0 : Int) = 1 by decide)
theorem wl_go {b : Int → Int} {n i a : Int} {K : Int} {u : Int → Int} {c : Int} (h : i < 61) (hv : veW K u) (hk : rpk b n a) (hf : sg b n a = 103 → 0 ≤ rpf b n a) (hp : pcV u (sg b n a) (rpf b n a) (rps b n a) = 1) : wl b n i a (s1 u 5 (-1)) c = wl b n (i + 1) (rpa b n a + b01 (sg b n (rpa b n a) = 59)) (s1 (peV u (sg b n a) (rpf b n a) (rps b n a)) 5 (-1)) (c + 1) := by
  rw [wl_s b n _ c h, if_pos hk, pcV_5 u (-1) hf, if_pos hp, peV_5 hv (-1) hf, s1_ss]
theorem wl_no {b : Int → Int} {n i a : Int} {K : Int} {u : Int → Int} {c : Int} (h : i < 61) (hv : veW K u) (hk : rpk b n a) (hf : sg b n a = 103 → 0 ≤ rpf b n a) (hp : pcV u (sg b n a) (rpf b n a) (rps b n a) = 0) : wl b n i a (s1 u 5 (-1)) c = (s1 u 5 c, c) := by
  rw [wl_s b n _ c h, if_pos hk, pcV_5 u (-1) hf, if_neg (by omega), peV_5 hv (-1) hf, s1_ss, peV_0 hp]
theorem wl_e {b : Int → Int} {n i : Int} {v : Int → Int} {c : Int} (h : i < 61) : wl b n i n v c = (v, c) := by
  have es : sg b n n = 0 := if_neg (by omega)
  rw [wl_s b n _ c h, if_neg (fun z => by unfold rpk at z; omega)]
