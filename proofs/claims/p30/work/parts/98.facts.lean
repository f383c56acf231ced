/-! what the law's check of a block holds against the looks -/
section Facts
variable {K : Int} {u : Int → Int} {sv : Int}
theorem hd_fl (hv : veW K u) :
    (u 3 = 0 ∧ coT u sv 2 = 1 ∧ coT u sv 3 = -1) ∨ (u 3 ≠ 0 ∧ coT u sv 2 = 2 ∧ (0 ≤ coT u sv 3 ∧ coT u sv 3 < u 3) ∧ ofS u (coT u sv 3) 1 = 1 ∧ ∀ k, 0 ≤ k → k < coT u sv 3 → ofS u k 1 = 0) ∨ (u 3 ≠ 0 ∧ coT u sv 2 = 3 ∧ (0 ≤ coT u sv 3 ∧ coT u sv 3 < u 3) ∧ u 0 ≤ ofS u (coT u sv 3) 0) ∨ (u 3 ≠ 0 ∧ coT u sv 2 = 4 ∧ (0 ≤ coT u sv 3 ∧ coT u sv 3 < u 3)) ∨
    (u 3 ≠ 0 ∧ coT u sv 2 = 5 ∧ coT u sv 3 = -1 ∧ 0 ≤ coT u sv 4) ∨ (u 3 ≠ 0 ∧ coT u sv 2 = 6 ∧ (1 ≤ coT u sv 3 ∧ coT u sv 3 < u 3) ∧ ofS u (coT u sv 3) 0 < ofS u (coT u sv 3 - 1) 0) ∨ (u 3 ≠ 0 ∧ coT u sv 2 = 0 ∧ coT u sv 3 = -1 ∧ u 3 = u 0 ∧ coT u sv 1 = 0 ∧ coT u sv 6 = 0) := by
  have h3 := veW_3 hv
  obtain ⟨v0, v1, v2, v3, v4, v5, v6, v7, v8, v9, v10⟩ := id hv
  rw [coT_1, coT_2, coT_3, coT_4, coT_6]
  rcases flt_c (u 0) (vN u) (vD u) (u 3) with ⟨h0, h1, h2⟩ | ⟨h0, hp, h1, h2⟩ | ⟨h0, hp, h1, h2⟩ | ⟨h0, hp, h1, h2⟩ | ⟨h0, hp, h1, h2⟩ | ⟨h0, hp, h1, h2⟩ | ⟨h0, -, -, -, -, -, h1, h2⟩
  · exact Or.inl ⟨h0, h1, h2⟩
  · have g := fs_is hp
    refine Or.inr (Or.inl ⟨h0, h1, ?_⟩)
    rw [h2]
    refine ⟨⟨g.1, g.2.1⟩, ?_, fun k k0 k1 => ?_⟩
    · have g1 : u (90 + fT (vD u) (u 3)) ≠ 0 := g.2.2.1
      have g2 := v10 _ g.1 g.2.1
      have g3 : u (90 + fT (vD u) (u 3)) = 0 ∨ u (90 + fT (vD u) (u 3)) = 1 := g2
      show u (90 + fT (vD u) (u 3)) = 1
      omega
    · exact Decidable.of_not_not (g.2.2.2 k k0 k1)
  · have g := fs_is hp
    refine Or.inr (Or.inr (Or.inl ⟨h0, h1, ?_⟩))
    rw [h2]
    exact ⟨⟨g.1, g.2.1⟩, g.2.2.1⟩
  · have g := fs_is hp
    refine Or.inr (Or.inr (Or.inr (Or.inl ⟨h0, h1, ?_⟩)))
    rw [h2]
    have g1 : 1 ≤ fD (vN u) (u 3) := g.1
    exact ⟨by omega, g.2.1⟩
  · have g := fs_is hp
    exact Or.inr (Or.inr (Or.inr (Or.inr (Or.inl ⟨h0, h1, h2, g.1⟩))))
  · have g := fs_is hp
    refine Or.inr (Or.inr (Or.inr (Or.inr (Or.inr (Or.inl ⟨h0, h1, ?_⟩)))))
    rw [h2]
    exact ⟨⟨g.1, g.2.1⟩, g.2.2.1⟩
  · have g := flt_0 h3.1 (fun i i0 i1 => (veW_N hv i i0 i1).1) h1
    have g2 := (fw_iff (vN u) h3.1).mpr (prs_0 (fun k k0 k1 => (g.2 k k0 k1).1))
    exact Or.inr (Or.inr (Or.inr (Or.inr (Or.inr (Or.inr ⟨h0, h1, h2, g.1, brks_0 g.2, g2⟩)))))
theorem hd_k (hv : veW K u) {k : Int} (k0 : 0 ≤ k) (k1 : k < u 3) :
    (ofS u k 1 = 1 ∧ ofS u k 2 = u 1 - 1 - ofS u k 0 % u 1 ∧ ofS u k 3 = 1 ∧ ofS u k 2 ≠ due (u 1) (vN u) (vD u) k) ∨ (ofS u k 1 = 1 ∧ ofS u k 2 = u 1 - 1 - ofS u k 0 % u 1 ∧ ofS u k 3 = 0 ∧ ofS u k 2 = due (u 1) (vN u) (vD u) k) ∨
    (ofS u k 1 = 0 ∧ ofS u k 2 = ofS u k 0 % u 1 ∧ ofS u k 3 = 1 ∧ ofS u k 2 ≠ due (u 1) (vN u) (vD u) k) ∨ (ofS u k 1 = 0 ∧ ofS u k 2 = ofS u k 0 % u 1 ∧ ofS u k 3 = 0 ∧ ofS u k 2 = due (u 1) (vN u) (vD u) k) := by
  obtain ⟨v0, v1, v2, v3, v4, v5, v6, v7, v8, v9, v10⟩ := id hv
  have h3 : (ofS u k 3 = 1 ∧ ofS u k 2 ≠ due (u 1) (vN u) (vD u) k) ∨ (ofS u k 3 = 0 ∧ ofS u k 2 = due (u 1) (vN u) (vD u) k) := by
    by_cases c : brk (u 1) (vN u) (vD u) k
    · exact Or.inl ⟨b01_t c, c⟩
    · exact Or.inr ⟨b01_f c, Decidable.of_not_not c⟩
  have h1 : (ofS u k 1 = 1 ∧ ofS u k 2 = u 1 - 1 - ofS u k 0 % u 1) ∨ (ofS u k 1 = 0 ∧ ofS u k 2 = ofS u k 0 % u 1) := by
    rw [ofS_0, ofS_1, ofS_2]
    unfold mk
    rcases v10 k k0 k1 with c | c
    · exact Or.inr ⟨c, if_pos c⟩
    · exact Or.inl ⟨c, if_neg (by omega)⟩
  rcases h1 with ⟨a, b⟩ | ⟨a, b⟩
  · rcases h3 with ⟨c, d⟩ | ⟨c, d⟩
    · exact Or.inl ⟨a, b, c, d⟩
    · exact Or.inr (Or.inl ⟨a, b, c, d⟩)
  · rcases h3 with ⟨c, d⟩ | ⟨c, d⟩
    · exact Or.inr (Or.inr (Or.inl ⟨a, b, c, d⟩))
    · exact Or.inr (Or.inr (Or.inr ⟨a, b, c, d⟩))
theorem hd_s (hv : veW K u) {k : Int} (k0 : 0 ≤ k) (k1 : k < u 3) : (0 ≤ ofS u k 0 ∧ ofS u k 0 < 16) ∧ (0 ≤ ofS u k 1 ∧ ofS u k 1 ≤ 1) ∧ (0 ≤ ofS u k 2 ∧ ofS u k 2 < u 1) ∧ (0 ≤ ofS u k 3 ∧ ofS u k 3 ≤ 1) ∧ (0 ≤ ofS u k 4 ∧ ofS u k 4 ≤ 5) ∧ (0 ≤ ofS u k 5 ∧ ofS u k 5 ≤ 20) ∧ (0 ≤ ofS u k 0 % u 1 ∧ ofS u k 0 % u 1 < u 1) ∧ (0 ≤ due (u 1) (vN u) (vD u) k ∧ due (u 1) (vN u) (vD u) k < u 1) := by
  obtain ⟨v0, v1, v2, v3, v4, v5, v6, v7, v8, v9, v10⟩ := id hv
  have a1 := v10 k k0 k1
  have a6 := cn_bd (fun e => vN u k < vN u e) k0
  refine ⟨v9 k k0 k1, ?_, mk_bd (by omega), b01_r _, stA_r (n := u 3) (fun i h0 h1 => v8 i h0 h1) (fun i h0 h1 => v9 i h0 h1) k0 k1, ?_, ⟨Int.emod_nonneg _ (by omega), Int.emod_lt_of_pos _ (by omega)⟩, due_bd (by omega)⟩
  · show 0 ≤ u (90 + k) ∧ u (90 + k) ≤ 1
    omega
  · show 0 ≤ cn (fun e => vN u k < vN u e) k ∧ cn (fun e => vN u k < vN u e) k ≤ 20
    omega
theorem hd_b (hv : veW K u) (hc : Cs u) {x : Int} (x0 : 0 ≤ x) (x1 : x < 16) : (0 ≤ ofB u x 0 ∧ ofB u x 0 ≤ 1000000) ∧ (0 ≤ ofB u x 1 ∧ ofB u x 1 ≤ 20) ∧ (0 ≤ ofB u x 2 ∧ ofB u x 2 ≤ 1000000) ∧ (0 ≤ ofB u x 3 ∧ ofB u x 3 ≤ 1000000) ∧ ofB u x 0 + ofB u x 1 + ofB u x 2 = ofB u x 3 ∧ (x < u 0 → poT u ≤ ofB u x 0 + ofB u x 1) := by
  have a1 := cnX_bd hv x
  have a0 := hc x x0 x1
  obtain ⟨v0, v1, v2, v3, v4, v5, v6, v7, v8, v9, v10⟩ := id hv
  have a2 := v7 x x0 (by omega)
  have a3 := v7 (16 + x) (by omega) (by omega)
  have a4 := v7 (32 + x) (by omega) (by omega)
  rw [show 6 + (16 + x) = 22 + x by omega] at a3
  rw [show 6 + (32 + x) = 38 + x by omega] at a4
  rw [ofB_0, ofB_1, ofB_2, ofB_3]
  exact ⟨by omega, a1, by omega, by omega, a0, fun h => mn_le x0 (by omega)⟩
def lsN (u : Int → Int) (n : Int) : Int := cn (fun i => 0 < i ∧ ofS u i 4 = 0) n
theorem lsN_s (u : Int → Int) {n : Int} (h : 0 ≤ n) : lsN u (n + 1) = lsN u n + b01 (0 < n ∧ ofS u n 4 = 0) := cn_s (fun i => 0 < i ∧ ofS u i 4 = 0) h
theorem lsN_e (u : Int → Int) (sv : Int) : lsN u (u 3) = coT u sv 11 := cn_cong (fun k k0 k1 => by
  show (0 < k ∧ ofS u k 4 = 0) ↔ (k ≠ 0 ∧ stA (vH u) (vN u) k = 0)
  rw [ofS_4]
  constructor
  · intro h; exact ⟨by omega, h.2⟩
  · intro h; exact ⟨by have := h.1; omega, h.2⟩)
def smS (u : Int → Int) (a n : Int) : Int := sm (fun i => ofS u i a) n
theorem smS_0 (u : Int → Int) (a : Int) : smS u a 0 = 0 := rfl
theorem smS_s (u : Int → Int) (a : Int) {n : Int} (h : 0 ≤ n) : smS u a (n + 1) = smS u a n + ofS u n a := sm_s (fun i => ofS u i a) h
theorem smS_3 (u : Int → Int) (sv : Int) : smS u 3 (u 3) = coT u sv 1 := rfl
theorem smS_4 (u : Int → Int) (sv : Int) : smS u 4 (u 3) = coT u sv 9 := rfl
theorem smS_5 (u : Int → Int) (sv : Int) : smS u 5 (u 3) = coT u sv 8 := rfl
/-- from the greatest number down -/
def dnB (u : Int → Int) (a i : Int) : Int := sm (fun x => ofB u x a) 16 - sm (fun x => ofB u x a) i
theorem dnB_16 (u : Int → Int) (a : Int) : dnB u a 16 = 0 := Int.sub_self _
theorem dnB_s (u : Int → Int) (a : Int) {i : Int} (h : 0 < i) : dnB u a i + ofB u (i - 1) a = dnB u a (i - 1) := by
  have := sm_s (fun x => ofB u x a) (show 0 ≤ i - 1 by omega)
  rw [show i - 1 + 1 = i by omega] at this
  unfold dnB
  omega
theorem dnB_1 (hv : veW K u) : dnB u 1 0 = u 3 := by
  have h : sm (fun x => ofB u x 1) 16 = u 3 := cn_tot (a := vN u) (veW_3 hv).1 (veW_N hv)
  have h0 : sm (fun x => ofB u x 1) 0 = 0 := rfl
  unfold dnB
  omega
theorem dnB_2 (u : Int → Int) (sv : Int) : dnB u 2 0 = coT u sv 13 := by
  have h : sm (fun x => ofB u x 2) 16 = coT u sv 13 := rfl
  have h0 : sm (fun x => ofB u x 2) 0 = 0 := rfl
  unfold dnB
  omega
def msD (u : Int → Int) (i : Int) : Int := fs (fun x => ofB u x 1 = 0) i (u 0)
theorem msD_16 (hv : veW K u) : msD u 16 = -1 := fs_e _ (by have := hv.2.1; omega)
theorem msD_0 (u : Int → Int) (sv : Int) : msD u 0 = coT u sv 4 := rfl
theorem msD_a {i : Int} (h : u 0 ≤ i - 1) : msD u (i - 1) = msD u i := by
  unfold msD
  rw [fs_e _ h, fs_e _ (by omega)]
theorem msD_b {i : Int} (h : i - 1 < u 0) (g : ofB u (i - 1) 1 ≠ 0) : msD u (i - 1) = msD u i := by
  have e := fs_f (fun x => ofB u x 1 = 0) h g
  rw [show i - 1 + 1 = i by omega] at e
  exact e
theorem msD_c {i : Int} (h : i - 1 < u 0) (g : ofB u (i - 1) 1 = 0) : msD u (i - 1) = i - 1 := fs_t (fun x => ofB u x 1 = 0) h g
/-- the sums at the end -/
theorem hd_e (hv : veW K u) : (0 ≤ coT u sv 1 ∧ coT u sv 1 ≤ u 3) ∧ (0 ≤ coT u sv 6 ∧ coT u sv 6 ≤ u 3) ∧ (coT u sv 6 = 0 ↔ coT u sv 8 = 0) ∧ coT u sv 6 ≤ coT u sv 8 ∧ (0 ≤ coT u sv 8 ∧ coT u sv 8 ≤ 400) ∧ (0 ≤ coT u sv 9 ∧ coT u sv 9 ≤ 100) ∧ u 2 * coT u sv 9 ≤ coT u sv 10 ∧ (0 ≤ u 2 * coT u sv 9 ∧ u 2 * coT u sv 9 ≤ 900) ∧ (0 ≤ coT u sv 11 ∧ coT u sv 11 ≤ 20) ∧ coT u sv 7 = coT u sv 6 := by
  obtain ⟨v0, v1, v2, v3, v4, v5, v6, v7, v8, v9, v10⟩ := id hv
  have a1 := brks_r (u 1) (vN u) (vD u) v4.1
  have a6 := lis_bd (vN u) v4.1
  have a7 := sm_bd (f := fun k => cn (fun e => vN u k < vN u e) k) (c := 20) v4.1 (fun k k0 k1 => by have := cn_bd (fun e => vN u k < vN u e) k0; omega)
  have a8 := sm_bd (f := fun k => stA (vH u) (vN u) k) (c := 5) v4.1 (fun k k0 k1 => stA_r (n := u 3) (fun i h0 h1 => v8 i h0 h1) (fun i h0 h1 => v9 i h0 h1) k0 k1)
  have a9 := sm_bd (f := fun k => spn (vH u (vN u k))) (c := 4) v4.1 (fun k k0 k1 => by
    have g := v9 k k0 k1
    have g2 := v8 _ g.1 g.2
    exact spn_r g2.1 g2.2)
  have a10 := cn_bd (fun k => k ≠ 0 ∧ stA (vH u) (vN u) k = 0) v4.1
  have e8 : stS (vH u) (vN u) (u 3) = sm (fun k => stA (vH u) (vN u) k) (u 3) := rfl
  have e9 : thS (u 2) (vH u) (vN u) (u 3) = stS (vH u) (vN u) (u 3) * u 2 + sm (fun k => spn (vH u (vN u k))) (u 3) := rfl
  have e10 : lsS (vH u) (vN u) (u 3) = cn (fun k => k ≠ 0 ∧ stA (vH u) (vN u) k = 0) (u 3) := rfl
  have m1 := Int.mul_nonneg (show 0 ≤ u 2 by omega) a8.1
  have m2 : u 2 * sm (fun k => stA (vH u) (vN u) k) (u 3) ≤ 9 * 100 := Int.mul_le_mul (show u 2 ≤ 9 by omega) (show sm (fun k => stA (vH u) (vN u) k) (u 3) ≤ 100 by omega) a8.1 (by decide)
  have m3 := Int.mul_comm (u 2) (sm (fun k => stA (vH u) (vN u) k) (u 3))
  have fi := fw_iff (vN u) v4.1
  have fl := fw_le (vN u) v4.1
  rw [coT_1, coT_6, coT_7, coT_8, coT_9, coT_10, coT_11, e9, e8, e10]
  exact ⟨a1, by omega, fi, fl, by omega, by omega, by omega, by omega, by omega, rfl⟩
end Facts
