theorem CI_kp {V : Wo} {K : Int} {q : Nat} {μ : Mem} {w tx : Int → Int} {sv kp ln : Int} (h : CI V K q μ w tx sv kp ln) : CI V K q (wr (cpS μ (q + 13) (q + 1)) q (s1 (cpS μ (q + 13) (q + 1) q) 7 1)) (cpV w 0 7 110) tx sv 1 ln := by
  obtain ⟨h0, ⟨h1, h2⟩, ⟨k1, k2, k3⟩, ⟨s1', s2, s3, s4, s5, s6⟩, ⟨b1, b2, b3, b4⟩, r⟩ := h
  have eq : cpS μ (q + 13) (q + 1) q = μ q := cpS_n _ (by omega)
  have eo : ∀ r, r ≠ q → (r < q + 13 ∨ q + 24 < r) → (wr (cpS μ (q + 13) (q + 1)) q (s1 (cpS μ (q + 13) (q + 1) q) 7 1)) r = μ r := fun r r1 r2 => by
    rw [wr_n _ _ r1, cpS_n _ (by omega)]
  have es : ∀ i, svA (wr (cpS μ (q + 13) (q + 1)) q (s1 (cpS μ (q + 13) (q + 1) q) 7 1)) (q + 37) i = svA μ (q + 37) i := fun i => by unfold svA; rw [eo _ (by omega) (by omega)]
  have hlo : ∀ j, 0 ≤ j → j < 110 → cpV w 0 7 110 j = w j := fun j _ j1 => cpV_lo (by omega) j1
  have hsg : ∀ k, k ≠ 7 → 0 ≤ k → ∀ j, 0 ≤ j → j < 110 → seg (cpV w 0 7 110) k j = seg w k j := fun k hk k0 j j0 j1 => by
    unfold seg cpV
    exact if_neg (by omega)
  have hsn : ∀ j, 0 ≤ j → j < 110 → seg (cpV w 0 7 110) 7 j = w j := fun j j0 j1 => by
    unfold seg cpV
    rw [if_pos (by omega)]
    congr 1
    omega
  have v4 := veW_3 h1
  refine ⟨h0, ⟨veW_lo h1 hlo, StE_c (StE_f h2 (fun r r0 r1 r2 => eo r (by omega) (by omega))) hlo v4.2⟩, ⟨Or.inr rfl, by rw [wr_s, s1_s], fun _ => ⟨veW_lo h1 hsn, StE_c (StE_f (StE_cp (h := q + 13) h2 (by omega)) (fun r r0 r1 r2 => wr_n _ _ (by omega))) hsn v4.2⟩⟩, ⟨s1', by rw [eo _ (by omega) (by omega)]; exact s2, ?_, ?_, ?_, ?_⟩, ⟨by rw [wr_s, s1_n _ _ (by omega), eq]; exact b1, b2, ?_, b4⟩, by rw [eo (q + 111) (by omega) (by omega)]; exact r⟩
  · unfold HiW at s3 ⊢
    rw [eo _ (by omega) (by omega), eo _ (by omega) (by omega)]
    exact s3
  · intro i i0 i1; rw [es]; exact s4 i i0 i1
  · intro i j i0 i1 j0 j1 ij; rw [es, es]; exact s5 i j i0 i1 j0 j1 ij
  · intro i i0 i1
    rw [es]
    have hb := s4 i i0 (by omega)
    have v4' := veW_3 (s6 i i0 i1).1
    exact ⟨veW_lo (s6 i i0 i1).1 (hsg (i + 1) (by omega) (by omega)), StE_c (StE_f (s6 i i0 i1).2 (fun r r0 r1 r2 => eo r (by omega) (by omega))) (hsg (i + 1) (by omega) (by omega)) v4'.2⟩
  · intro i i0 i1
    rw [eo (q + 112) (by omega) (by omega)]
    exact b3 i i0 i1
theorem CI_und {V : Wo} {K : Int} {q : Nat} {μ : Mem} {w tx : Int → Int} {sv kp ln : Int} (h : CI V K q μ w tx sv kp ln) (hp : 0 < sv) : CI V K q (rsto μ (q + 37) (q + 1)) (cpV w sv 0 110) tx (sv - 1) kp ln := by
  obtain ⟨h0, ⟨h1, h2⟩, ⟨k1, k2, k3⟩, ⟨s1', s2, s3, s4, s5, s6⟩, ⟨b1, b2, b3, b4⟩, r⟩ := h
  have hH := s4 (sv - 1) (by omega) (by omega)
  have e38 : rsto μ (q + 37) (q + 1) (q + 37 + 1) = μ (q + 37 + 1) := by
    unfold rsto
    rw [cpS_n _ (by omega), wr_n _ _ (by omega)]
  have e37 : rsto μ (q + 37) (q + 1) (q + 37) = s1 (μ (q + 37)) 1 (sv - 1) := by
    unfold rsto
    rw [cpS_n _ (by omega), wr_s, s2]
  have eo : ∀ r, r ≠ q + 37 → (r < q + 1 ∨ q + 12 < r) → rsto μ (q + 37) (q + 1) r = μ r := fun r r1 r2 => by
    unfold rsto
    rw [cpS_n _ (by omega), wr_n _ _ r1]
  have es : ∀ i, svA (rsto μ (q + 37) (q + 1)) (q + 37) i = svA μ (q + 37) i := fun i => by unfold svA; rw [e38]
  have hsg : ∀ k, 1 ≤ k → ∀ j, 0 ≤ j → j < 110 → seg (cpV w sv 0 110) k j = seg w k j := fun k hk j j0 j1 => by
    unfold seg cpV
    exact if_neg (by omega)
  have hsn : ∀ j, 0 ≤ j → j < 110 → cpV w sv 0 110 j = seg w (sv - 1 + 1) j := fun j j0 j1 => by
    unfold seg cpV
    rw [if_pos (by omega)]
    congr 1
    omega
  have hl := s6 (sv - 1) (by omega) (by omega)
  have v4 := veW_3 hl.1
  refine ⟨h0, ⟨veW_lo hl.1 hsn, StE_c ?_ hsn v4.2⟩, ⟨k1, by rw [eo q (by omega) (by omega)]; exact k2, fun z => ?_⟩, ⟨by omega, by rw [e37, s1_s], ?_, ?_, ?_, ?_⟩, ⟨by rw [eo q (by omega) (by omega)]; exact b1, b2, ?_, b4⟩, by rw [eo (q + 111) (by omega) (by omega)]; exact r⟩
  · have hx : StE (wr μ (q + 37) (s1 (μ (q + 37)) 1 (sv - 1))) (svA μ (q + 37) (sv - 1)) (seg w (sv - 1 + 1)) := StE_f hl.2 (fun r r0 r1 r2 => wr_n _ _ (by omega))
    have := StE_cp (h := q + 1) hx (by omega)
    unfold rsto
    rw [s2]
    exact this
  · have v4' := veW_3 (k3 z).1
    exact ⟨veW_lo (k3 z).1 (hsg 7 (by omega)), StE_c (StE_f (k3 z).2 (fun r r0 r1 r2 => eo r (by omega) (by omega))) (hsg 7 (by omega)) v4'.2⟩
  · unfold HiW at s3 ⊢
    rw [e37, e38, s1_s]
    exact ⟨by omega, s3.2⟩
  · intro i i0 i1; rw [es]; exact s4 i i0 i1
  · intro i j i0 i1 j0 j1 ij; rw [es, es]; exact s5 i j i0 i1 j0 j1 ij
  · intro i i0 i1
    rw [es]
    have hb := s4 i i0 (by omega)
    have hii := s6 i i0 (by omega)
    have v4' := veW_3 hii.1
    exact ⟨veW_lo hii.1 (hsg (i + 1) (by omega)), StE_c (StE_f hii.2 (fun r r0 r1 r2 => eo r (by omega) (by omega))) (hsg (i + 1) (by omega)) v4'.2⟩
  · intro i i0 i1
    rw [eo (q + 112) (by omega) (by omega)]
    exact b3 i i0 i1
/-- only the characters change -/
theorem CI_tx {V : Wo} {K : Int} {q : Nat} {μ ν : Mem} {w tx tx' : Int → Int} {sv kp ln ln' : Int} (h : CI V K q μ w tx sv kp ln) (f : ∀ r, r ≠ q → r ≠ q + 112 → ν r = μ r) (f7 : ν q 7 = μ q 7) (f6 : ν q 6 = ln') (hl : 0 ≤ ln' ∧ ln' ≤ 60) (hb : ∀ i, 0 ≤ i → i < ln' → ν (q + 112) i = tx' i) (hb2 : ∀ i, 0 ≤ i → i < ln' → 33 ≤ tx' i ∧ tx' i ≤ 126) : CI V K q ν w tx' sv kp ln' := by
  obtain ⟨h0, ⟨h1, h2⟩, ⟨k1, k2, k3⟩, ⟨s1', s2, s3, s4, s5, s6⟩, ⟨b1, b2, b3, b4⟩, r⟩ := h
  have es : ∀ i, svA ν (q + 37) i = svA μ (q + 37) i := fun i => by unfold svA; rw [f _ (by omega) (by omega)]
  refine ⟨h0, ⟨h1, StE_f h2 (fun r r0 r1 r2 => f r (by omega) (by omega))⟩, ⟨k1, by rw [f7]; exact k2, fun z => ⟨(k3 z).1, StE_f (k3 z).2 (fun r r0 r1 r2 => f r (by omega) (by omega))⟩⟩, ⟨s1', by rw [f _ (by omega) (by omega)]; exact s2, ?_, ?_, ?_, ?_⟩, ⟨f6, hl, hb, hb2⟩, by rw [f (q + 111) (by omega) (by omega)]; exact r⟩
  · unfold HiW at s3 ⊢
    rw [f _ (by omega) (by omega), f _ (by omega) (by omega)]
    exact s3
  · intro i i0 i1; rw [es]; exact s4 i i0 i1
  · intro i j i0 i1 j0 j1 ij; rw [es, es]; exact s5 i j i0 i1 j0 j1 ij
  · intro i i0 i1
    rw [es]
    have hb := s4 i i0 (by omega)
    exact ⟨(s6 i i0 i1).1, StE_f (s6 i i0 i1).2 (fun r r0 r1 r2 => f r (by omega) (by omega))⟩
