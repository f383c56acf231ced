theorem CI_sav1 {V : Wo} {K : Int} {q : Nat} {μ : Mem} {w tx : Int → Int} {sv kp ln : Int} (h : CI V K q μ w tx sv kp ln) (h6 : sv < 6) : CI V K q (sav1 μ (q + 37) (q + 1)) (cpV w 0 (sv + 1) 110) tx (sv + 1) kp ln := by
  obtain ⟨h0, ⟨h1, h2⟩, ⟨k1, k2, k3⟩, ⟨s1', s2, s3, s4, s5, s6⟩, ⟨b1, b2, b3, b4⟩, r⟩ := h
  have hH := s4 sv s1'.1 h6
  have e38 : sav1 μ (q + 37) (q + 1) (q + 37 + 1) = μ (q + 37 + 1) := by
    unfold sav1
    rw [s2, wr_n _ _ (by omega), cpS_n _ (by omega)]
  have e37 : sav1 μ (q + 37) (q + 1) (q + 37) = s1 (μ (q + 37)) 1 (sv + 1) := by
    unfold sav1
    rw [wr_s, s2]
  have eo : ∀ r, r ≠ q + 37 → (r < svA μ (q + 37) sv ∨ svA μ (q + 37) sv + 11 < r) → sav1 μ (q + 37) (q + 1) r = μ r := fun r r1 r2 => by
    unfold sav1
    rw [s2, wr_n _ _ r1, cpS_n _ r2]
  have es : ∀ i, svA (sav1 μ (q + 37) (q + 1)) (q + 37) i = svA μ (q + 37) i := fun i => by unfold svA; rw [e38]
  have hlo : ∀ j, 0 ≤ j → j < 110 → cpV w 0 (sv + 1) 110 j = w j := fun j _ j1 => cpV_lo (by omega) j1
  have hsg : ∀ k, k ≠ sv + 1 → 0 ≤ k → ∀ j, 0 ≤ j → j < 110 → seg (cpV w 0 (sv + 1) 110) k j = seg w k j := fun k hk k0 j j0 j1 => by
    unfold seg cpV
    exact if_neg (by omega)
  have hsn : ∀ j, 0 ≤ j → j < 110 → seg (cpV w 0 (sv + 1) 110) (sv + 1) j = w j := fun j j0 j1 => by
    unfold seg cpV
    rw [if_pos (by omega)]
    congr 1
    omega
  have w3 := h1
  obtain ⟨_, _, _, _, v4, _⟩ := w3
  refine ⟨h0, ⟨veW_lo h1 hlo, StE_c (StE_f h2 (fun r r0 r1 r2 => eo r (by omega) (by omega))) hlo v4.2⟩, ⟨k1, by rw [eo q (by omega) (by omega)]; exact k2, fun z => ?_⟩, ⟨by omega, by rw [e37, s1_s], ?_, ?_, ?_, ?_⟩, ⟨by rw [eo q (by omega) (by omega)]; exact b1, b2, ?_, b4⟩, by rw [eo (q + 111) (by omega) (by omega)]; exact r⟩
  · obtain ⟨_, _, _, _, v4', _⟩ := (k3 z).1
    exact ⟨veW_lo (k3 z).1 (hsg 7 (by omega) (by omega)), StE_c (StE_f (k3 z).2 (fun r r0 r1 r2 => eo r (by omega) (by omega))) (hsg 7 (by omega) (by omega)) v4'.2⟩
  · unfold HiW at s3 ⊢
    rw [e37, e38, s1_s]
    exact ⟨by omega, s3.2⟩
  · intro i i0 i1; rw [es]; exact s4 i i0 i1
  · intro i j i0 i1 j0 j1 ij; rw [es, es]; exact s5 i j i0 i1 j0 j1 ij
  · intro i i0 i1
    rw [es]
    by_cases hi : i = sv
    · subst hi
      refine ⟨veW_lo h1 hsn, ?_⟩
      have hc := StE_cp (h := svA μ (q + 37) i) h2 (by omega)
      refine StE_c (StE_f hc (fun r r0 r1 r2 => ?_)) hsn v4.2
      unfold sav1
      rw [s2, wr_n _ _ (by omega)]
    · have hii := s6 i i0 (by omega)
      have hdi := s5 i sv i0 (by omega) s1'.1 h6 hi
      have hb := s4 i i0 (by omega)
      obtain ⟨_, _, _, _, v4', _⟩ := hii.1
      exact ⟨veW_lo hii.1 (hsg (i + 1) (by omega) (by omega)), StE_c (StE_f hii.2 (fun r r0 r1 r2 => eo r (by omega) (by omega))) (hsg (i + 1) (by omega) (by omega)) v4'.2⟩
  · intro i i0 i1
    rw [eo (q + 112) (by omega) (by omega)]
    exact b3 i i0 i1
def pi6 (i : Int) : Int := if i < 5 then i + 1 else 0
theorem pi6_r {i : Int} (h0 : 0 ≤ i) : 0 ≤ pi6 i ∧ pi6 i < 6 := by unfold pi6; split <;> omega
theorem pi6_n {i j : Int} (h0 : 0 ≤ i) (h1 : i < 6) (j0 : 0 ≤ j) (j1 : j < 6) (h : i ≠ j) : pi6 i ≠ pi6 j := by unfold pi6; split <;> split <;> omega
theorem CI_drp {V : Wo} {K : Int} {q : Nat} {μ : Mem} {w tx : Int → Int} {kp ln : Int} (h : CI V K q μ w tx 6 kp ln) : CI V K q (drp μ (q + 37)) (sh5 w 6) tx 5 kp ln := by
  obtain ⟨h0, ⟨h1, h2⟩, ⟨k1, k2, k3⟩, ⟨s1', s2, s3, s4, s5, s6⟩, ⟨b1, b2, b3, b4⟩, r⟩ := h
  have e38 : drp μ (q + 37) (q + 37 + 1) = rtR (μ (q + 37 + 1)) 6 := by unfold drp; rw [wr_n _ _ (by omega), wr_s]
  have e37 : drp μ (q + 37) (q + 37) 1 = 5 := by unfold drp; rw [wr_s, s1_s, s2]; rfl
  have eo : ∀ r, r ≠ q + 37 → r ≠ q + 38 → drp μ (q + 37) r = μ r := fun r r1 r2 => by unfold drp; rw [wr_n _ _ r1, wr_n _ _ (by omega)]
  have es : ∀ i, 0 ≤ i → i < 6 → svA (drp μ (q + 37)) (q + 37) i = svA μ (q + 37) (pi6 i) := fun i i0 i1 => by
    unfold svA
    rw [e38]
    unfold rtR pi6
    by_cases c : i < 5
    · rw [if_pos (show 0 ≤ i ∧ i < 6 - 1 by omega), if_pos c]
    · rw [if_neg (by omega), if_pos (by omega), if_neg c]
  have hlo : ∀ j, 0 ≤ j → j < 110 → sh5 w 6 j = w j := fun j _ j1 => sh5_lo j1
  have hs7 : ∀ j, 0 ≤ j → j < 110 → seg (sh5 w 6) 7 j = seg w 7 j := fun j j0 j1 => by
    unfold seg sh5
    exact if_neg (by omega)
  have hsg : ∀ i, 0 ≤ i → i < 5 → ∀ j, 0 ≤ j → j < 110 → seg (sh5 w 6) (i + 1) j = seg w (pi6 i + 1) j := fun i i0 i1 j j0 j1 => by
    unfold seg sh5 pi6
    rw [if_pos i1, if_pos (by omega)]
    congr 1
    omega
  have w3 := h1
  obtain ⟨_, _, _, _, v4, _⟩ := w3
  have hw := HiW_drp s3 s2
  refine ⟨h0, ⟨veW_lo h1 hlo, StE_c (StE_f h2 (fun r r0 r1 r2 => eo r (by omega) (by omega))) hlo v4.2⟩, ⟨k1, by rw [eo q (by omega) (by omega)]; exact k2, fun z => ?_⟩, ⟨by omega, e37, hw, ?_, ?_, ?_⟩, ⟨by rw [eo q (by omega) (by omega)]; exact b1, b2, ?_, b4⟩, by rw [eo (q + 111) (by omega) (by omega)]; exact r⟩
  · obtain ⟨_, _, _, _, v4', _⟩ := (k3 z).1
    exact ⟨veW_lo (k3 z).1 hs7, StE_c (StE_f (k3 z).2 (fun r r0 r1 r2 => eo r (by omega) (by omega))) hs7 v4'.2⟩
  · intro i i0 i1
    have hp := pi6_r i0
    rw [es i i0 i1]; exact s4 _ hp.1 hp.2
  · intro i j i0 i1 j0 j1 ij
    have hp := pi6_r i0
    have hp2 := pi6_r j0
    rw [es i i0 i1, es j j0 j1]; exact s5 _ _ hp.1 hp.2 hp2.1 hp2.2 (pi6_n i0 i1 j0 j1 ij)
  · intro i i0 i1
    have hp := pi6_r i0
    rw [es i i0 (by omega)]
    have hii := s6 (pi6 i) hp.1 hp.2
    have hb := s4 (pi6 i) hp.1 hp.2
    obtain ⟨_, _, _, _, v4', _⟩ := hii.1
    exact ⟨veW_lo hii.1 (hsg i i0 i1), StE_c (StE_f hii.2 (fun r r0 r1 r2 => eo r (by omega) (by omega))) (hsg i i0 i1) v4'.2⟩
  · intro i i0 i1
    rw [eo (q + 112) (by omega) (by omega)]
    exact b3 i i0 i1
theorem CI_sav {V : Wo} {K : Int} {q : Nat} {μ : Mem} {w tx : Int → Int} {sv kp ln : Int} (h : CI V K q μ w tx sv kp ln) : CI V K q (sav μ (q + 37) (q + 1)) (mSav w sv) tx (sv1 sv) kp ln := by
  have h' := h
  obtain ⟨h0, -, -, ⟨s1', s2, -⟩, -⟩ := h'
  unfold sav mSav sv1
  rw [s2]
  by_cases h6 : sv = 6
  · rw [if_neg (by omega), if_pos h6, if_neg (by omega)]
    subst h6
    exact CI_sav1 (CI_drp h) (by omega)
  · rw [if_pos (by omega), if_neg h6, if_pos (by omega)]
    exact CI_sav1 h (by omega)
/-- where saving writes -/
theorem sav_o {V : Wo} {K : Int} {q : Nat} {μ : Mem} {w tx : Int → Int} {sv kp ln : Int} (h : CI V K q μ w tx sv kp ln) {r : Nat} (hr : r < q ∨ q + 112 < r) : sav μ (q + 37) (q + 1) r = μ r := by
  have h1 : ∀ {μ : Mem} {w : Int → Int} {sv : Int}, CI V K q μ w tx sv kp ln → sv < 6 → sav1 μ (q + 37) (q + 1) r = μ r := by
    intro μ w sv h h6
    obtain ⟨h0, -, -, ⟨s1', s2, s3, s4, -⟩, -⟩ := h
    have := s4 sv s1'.1 h6
    unfold sav1
    rw [s2, wr_n _ _ (by omega), cpS_n _ (by omega)]
  have h' := h
  obtain ⟨h0, -, -, ⟨s1', s2, -⟩, -⟩ := h'
  unfold sav
  rw [s2]
  by_cases h6 : sv = 6
  · rw [if_neg (by omega)]
    subst h6
    rw [h1 (CI_drp h) (by omega)]
    unfold drp
    rw [wr_n _ _ (by omega), wr_n _ _ (by omega)]
  · rw [if_pos (by omega)]
    exact h1 h (by omega)
