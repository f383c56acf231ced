/-! the reference's reader, in numbers: b the characters, n how many, a where it stands -/
def BuW (μ : Mem) (q : Nat) : Prop := (0 ≤ μ q 5 ∧ μ q 5 ≤ 60) ∧ ∀ i, 0 ≤ i → i < μ q 5 → 33 ≤ μ (q + 2) i ∧ μ (q + 2) i ≤ 126
def sg (b : Int → Int) (n a : Int) : Int := if a < n then b a else 0
abbrev dgt (x : Int) : Prop := 48 ≤ x ∧ x ≤ 57
abbrev two (b : Int → Int) (n m a : Int) : Prop := sg b n a = 49 ∧ 48 ≤ sg b n (a + 1) ∧ sg b n (a + 1) ≤ 48 + m - 10
def nbv (b : Int → Int) (n m a : Int) : Int := if dgt (sg b n a) then (if two b n m a then 10 + sg b n (a + 1) - 48 else sg b n a - 48) else -1
def nbp (b : Int → Int) (n m a : Int) : Int := if dgt (sg b n a) then (if two b n m a then a + 2 else a + 1) else a
theorem sg_r {b : Int → Int} {n a : Int} (hb : ∀ i, 0 ≤ i → i < n → 33 ≤ b i ∧ b i ≤ 126) (ha : 0 ≤ a) : 0 ≤ sg b n a ∧ sg b n a ≤ 126 := by
  unfold sg
  by_cases h : a < n
  · rw [if_pos h]; have := hb a ha h; omega
  · rw [if_neg h]; omega
theorem sg_in {b : Int → Int} {n a : Int} (h : sg b n a ≠ 0) : a < n := by
  unfold sg at h
  by_cases g : a < n
  · exact g
  · rw [if_neg g] at h; exact absurd rfl h
theorem nbp_r {b : Int → Int} {n m a : Int} (ha : a ≤ n) : (a ≤ nbp b n m a ∧ nbp b n m a ≤ n) ∧ (nbv b n m a ≠ -1 → a < nbp b n m a) := by
  unfold nbp nbv
  by_cases h : dgt (sg b n a)
  · have h1 := sg_in (b := b) (n := n) (a := a) (by have := h.1; omega)
    rw [if_pos h, if_pos h]
    by_cases g : two b n m a
    · have h2 := sg_in (b := b) (n := n) (a := a + 1) (by have := g.2.1; omega)
      rw [if_pos g, if_pos g]
      omega
    · rw [if_neg g, if_neg g]
      omega
  · rw [if_neg h, if_neg h]
    exact ⟨by omega, fun z => absurd rfl z⟩
theorem nbv_r {b : Int → Int} {n m a : Int} (hm : 10 ≤ m ∧ m ≤ 19) : -1 ≤ nbv b n m a ∧ nbv b n m a ≤ m := by
  unfold nbv
  by_cases h : dgt (sg b n a)
  · rw [if_pos h]
    have := h.1
    have := h.2
    by_cases g : two b n m a
    · rw [if_pos g]; have := g.2; omega
    · rw [if_neg g]; omega
  · rw [if_neg h]; omega
abbrev rpM (b : Int → Int) (n a : Int) : Prop := nbv b n 19 (a + 1) ≠ -1 ∧ sg b n (nbp b n 19 (a + 1)) = 62
/-- is a part read; where it stands behind it; the numbers -/
abbrev rpk (b : Int → Int) (n a : Int) : Prop := sg b n a = 98 ∨ (sg b n a = 103 ∧ nbv b n 15 (a + 1) ≠ -1) ∨ ((sg b n a = 112 ∨ sg b n a = 102) ∧ nbv b n 19 (a + 1) ≠ -1) ∨ (sg b n a = 109 ∧ rpM b n a ∧ nbv b n 19 (nbp b n 19 (a + 1) + 1) ≠ -1)
def rpa (b : Int → Int) (n a : Int) : Int := if sg b n a = 98 then a + 1 else if sg b n a = 103 then nbp b n 15 (a + 1) else if sg b n a = 112 ∨ sg b n a = 102 then nbp b n 19 (a + 1) else if sg b n a = 109 then (if rpM b n a then nbp b n 19 (nbp b n 19 (a + 1) + 1) else nbp b n 19 (a + 1)) else a
def rpf (b : Int → Int) (n a : Int) : Int := if sg b n a = 103 then nbv b n 15 (a + 1) else nbv b n 19 (a + 1)
def rps (b : Int → Int) (n a : Int) : Int := nbv b n 19 (nbp b n 19 (a + 1) + 1)
theorem rpa_r {b : Int → Int} {n a : Int} (ha : a ≤ n) : (a ≤ rpa b n a ∧ rpa b n a ≤ n) ∧ (rpk b n a → a < rpa b n a) := by
  unfold rpa
  by_cases h1 : sg b n a = 98
  · have := sg_in (b := b) (n := n) (a := a) (by omega)
    rw [if_pos h1]; omega
  · rw [if_neg h1]
    by_cases h2 : sg b n a = 103
    · have := sg_in (b := b) (n := n) (a := a) (by omega)
      have := (nbp_r (b := b) (m := 15) (show a + 1 ≤ n by omega)).1
      rw [if_pos h2]; omega
    · rw [if_neg h2]
      by_cases h3 : sg b n a = 112 ∨ sg b n a = 102
      · have := sg_in (b := b) (n := n) (a := a) (by omega)
        have := (nbp_r (b := b) (m := 19) (show a + 1 ≤ n by omega)).1
        rw [if_pos h3]; omega
      · rw [if_neg h3]
        by_cases h4 : sg b n a = 109
        · have := sg_in (b := b) (n := n) (a := a) (by omega)
          have h5 := (nbp_r (b := b) (m := 19) (show a + 1 ≤ n by omega)).1
          rw [if_pos h4]
          by_cases h6 : rpM b n a
          · have h7 := sg_in (b := b) (n := n) (a := nbp b n 19 (a + 1)) (by have := h6.2; omega)
            have := (nbp_r (b := b) (m := 19) (show nbp b n 19 (a + 1) + 1 ≤ n by omega)).1
            rw [if_pos h6]; omega
          · rw [if_neg h6]; omega
        · rw [if_neg h4]
          exact ⟨by omega, fun z => by unfold rpk at z; omega⟩
theorem rpf_r {b : Int → Int} {n a : Int} : (-1 ≤ rpf b n a ∧ rpf b n a ≤ 19) ∧ (sg b n a = 103 → rpf b n a ≤ 15) := by
  unfold rpf
  have h1 := nbv_r (b := b) (n := n) (a := a + 1) (m := 15) (by omega)
  have h2 := nbv_r (b := b) (n := n) (a := a + 1) (m := 19) (by omega)
  by_cases h : sg b n a = 103
  · rw [if_pos h]; omega
  · rw [if_neg h]; omega
theorem rps_r {b : Int → Int} {n a : Int} : -1 ≤ rps b n a ∧ rps b n a ≤ 19 := nbv_r (by omega)
/-- is it work; where the reading ends -/
def wkN (b : Int → Int) (n : Int) : Nat → Int → Int × Int
  | 0, a => (0, a)
  | k + 1, a => if rpk b n a then (if rpa b n a = n then (1, n) else if sg b n (rpa b n a) = 59 then wkN b n k (rpa b n a + 1) else (0, rpa b n a)) else (0, rpa b n a)
def wk (b : Int → Int) (n i a : Int) : Int × Int := wkN b n (61 - i).toNat a
theorem wk_s (b : Int → Int) (n : Int) {i a : Int} (h : i < 61) : wk b n i a = if rpk b n a then (if rpa b n a = n then (1, n) else if sg b n (rpa b n a) = 59 then wk b n (i + 1) (rpa b n a + 1) else (0, rpa b n a)) else (0, rpa b n a) := by
  unfold wk
  rw [show (61 - i).toNat = (61 - (i + 1)).toNat + 1 by omega]
  rfl
/-- may a part be done; what it does -/
def pcV (v : Int → Int) (l f s : Int) : Int := if l = 103 then b01 (0 < v (6 + f) ∧ v 3 < 20) else if l = 112 ∨ l = 102 then b01 (0 ≤ f ∧ f < v 3) else if l = 109 then b01 ((0 ≤ f ∧ f < v 3) ∧ (0 ≤ s ∧ s < v 3)) else b01 (flt (v 0) (vN v) (vD v) (v 3) = 0)
def pdV (v : Int → Int) (l f s : Int) : Int → Int := if l = 103 then mIns v (v 3) f else if l = 112 then mPul v f else if l = 102 then mFli v f else if l = 109 then mMov v f s else mBin v
def peV (v : Int → Int) (l f s : Int) : Int → Int := if pcV v l f s = 1 then pdV v l f s else v
theorem pcV_z (v : Int → Int) (l f s : Int) : pcV v l f s = 0 ∨ pcV v l f s = 1 := by unfold pcV; split <;> (try split) <;> (try split) <;> exact b01_z _
theorem veW_s5 {K : Int} {v : Int → Int} {x : Int} (hv : veW K v) (h : -1 ≤ x ∧ x ≤ 100) : veW K (s1 v 5 x) := by
  obtain ⟨v0, v1, v2, v3, v4, v5, v6, v7, v8, v9, v10⟩ := hv
  unfold veW
  rw [s1_s, s1_n _ _ (by omega), s1_n _ _ (by omega), s1_n _ _ (by omega), s1_n _ _ (by omega), s1_n _ _ (by omega)]
  exact ⟨v0, v1, v2, v3, v4, v5, h, fun i h0 h1 => by rw [s1_n _ _ (by omega)]; exact v7 i h0 h1, fun i h0 h1 => by rw [s1_n _ _ (by omega)]; exact v8 i h0 h1, fun i h0 h1 => by rw [s1_n _ _ (by omega)]; exact v9 i h0 h1, fun i h0 h1 => by rw [s1_n _ _ (by omega)]; exact v10 i h0 h1⟩
theorem veW_pe {K : Int} {v : Int → Int} {l f s : Int} (hv : veW K v) (hK : K + 20 ≤ 1000000) (hf : l = 103 → 0 ≤ f ∧ f < 16) : veW (K + 20) (peV v l f s) := by
  have hv2 := hv
  obtain ⟨v0, v1, v2, v3, v4, v5, v6, v7, v8, v9, v10⟩ := hv2
  unfold peV
  by_cases hp : pcV v l f s = 1
  · rw [if_pos hp]
    unfold pcV at hp
    unfold pdV
    by_cases c1 : l = 103
    · rw [if_pos c1] at hp ⊢
      have h1 := b01_1 hp
      exact veW_mono (veW_ins hv v4.1 (Int.le_refl _) h1.2 (hf c1).1 (hf c1).2 h1.1) (by omega) hK
    · rw [if_neg c1] at hp ⊢
      by_cases c2 : l = 112
      · rw [if_pos (Or.inl c2)] at hp
        have h1 := b01_1 hp
        rw [if_pos c2]
        exact veW_mono (veW_pul hv (by omega) h1.1 h1.2) (by omega) hK
      · rw [if_neg c2]
        by_cases c3 : l = 102
        · rw [if_pos (Or.inr c3)] at hp
          have h1 := b01_1 hp
          rw [if_pos c3]
          exact veW_mono (veW_fli hv h1.1 h1.2) (by omega) hK
        · rw [if_neg (by omega)] at hp
          rw [if_neg c3]
          by_cases c4 : l = 109
          · rw [if_pos c4] at hp ⊢
            have h1 := b01_1 hp
            exact veW_mono (veW_mov hv h1.1.1 h1.1.2 h1.2.1 h1.2.2) (by omega) hK
          · rw [if_neg c4]
            exact veW_bin hv hK
  · rw [if_neg hp]
    exact veW_mono hv (by omega) hK
/-- the parts, one behind another, up to the first that cannot be done -/
def wlN (b : Int → Int) (n : Int) : Nat → Int → (Int → Int) → Int → (Int → Int) × Int
  | 0, _, v, c => (v, c)
  | k + 1, a, v, c => if rpk b n a then (if pcV v (sg b n a) (rpf b n a) (rps b n a) = 1 then wlN b n k (rpa b n a + b01 (sg b n (rpa b n a) = 59)) (s1 (peV v (sg b n a) (rpf b n a) (rps b n a)) 5 (-1)) (c + 1) else (s1 (peV v (sg b n a) (rpf b n a) (rps b n a)) 5 c, c)) else (v, c)
def wl (b : Int → Int) (n i a : Int) (v : Int → Int) (c : Int) : (Int → Int) × Int := wlN b n (61 - i).toNat a v c
theorem wl_s (b : Int → Int) (n : Int) {i a : Int} (v : Int → Int) (c : Int) (h : i < 61) : wl b n i a v c = if rpk b n a then (if pcV v (sg b n a) (rpf b n a) (rps b n a) = 1 then wl b n (i + 1) (rpa b n a + b01 (sg b n (rpa b n a) = 59)) (s1 (peV v (sg b n a) (rpf b n a) (rps b n a)) 5 (-1)) (c + 1) else (s1 (peV v (sg b n a) (rpf b n a) (rps b n a)) 5 c, c)) else (v, c) := by
  unfold wl
  rw [show (61 - i).toNat = (61 - (i + 1)).toNat + 1 by omega]
  rfl
/-- writes of scratch numbers -/
theorem MU_q {q : Nat} {μ ν : Mem} {k : Int} (x : Int) (h : MU q μ ν) (hk : 6 ≤ k) (hk2 : k < 14) : MU q μ (wr ν q (s1 (ν q) k x)) := by
  refine MU_tr h ⟨⟨?_, ?_, ⟨?_, ?_, ?_, ?_⟩, fun r hr => ?_⟩, ?_⟩
  · rw [wr_n _ _ (by omega)]
  · rw [wr_n _ _ (by omega)]
  · rw [wr_s, s1_n _ _ (by omega)]
  · rw [wr_s, s1_n _ _ (by omega)]
  · rw [wr_s, s1_n _ _ (by omega)]
  · rw [wr_s, s1_n _ _ (by omega)]
  · rw [wr_n _ _ (by omega)]
  · rw [wr_s, s1_n _ _ (by omega)]
