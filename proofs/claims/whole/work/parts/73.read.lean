/-! the class's reading, character by character, beside the reference's, part by part -/
theorem nX_0 {f : Int → Int} {c : Int} (h : f 3 = 0) : nX f c = nL f c := if_pos h
theorem nX_1 {f : Int → Int} {c : Int} (h : f 3 = 1) : nX f c = nF f c := by
  unfold nX
  rw [if_neg (show ¬ f 3 = 0 by omega), if_pos h]
theorem nX_2 {f : Int → Int} {c : Int} (h : f 3 = 2) : nX f c = if (nS f c).1 ≠ 0 then nS f c else if (nA f c).1 ≠ 0 then nA f c else nE f c := by
  unfold nX
  rw [if_neg (show ¬ f 3 = 0 by omega), if_neg (show ¬ f 3 = 1 by omega), if_pos h]
theorem nX_3 {f : Int → Int} {c : Int} (h : f 3 = 3) : nX f c = nE f c := by
  unfold nX
  rw [if_neg (show ¬ f 3 = 0 by omega), if_neg (show ¬ f 3 = 1 by omega), if_neg (show ¬ f 3 = 2 by omega)]
theorem nX_end {f : Int → Int} {c : Int} (h : cpl f) (h2 : f 3 = 2 → (nS f c).1 = 0) : (c = 59 → (nX f c).1 ≠ 0 ∧ (nX f c).2 3 = 0) ∧ (c ≠ 59 → (nX f c).1 = 0) := by
  have e : nX f c = nE f c := by
    rcases h with h | ⟨h, g⟩
    · exact nX_3 h
    · rw [nX_2 h]
      refine (if_neg (fun z => z (h2 h))).trans ?_
      exact if_neg (fun z => z (congrArg Prod.fst (nA_0 (f := f) (c := c) (fun z => g ⟨z.2.1, z.2.2⟩))))
  rw [e]
  refine ⟨fun z => ?_, fun z => ?_⟩
  · rw [nE_1 ⟨z, h⟩]
    exact ⟨show (1 : Int) ≠ 0 by decide, s1_s f 3 0⟩
  · exact congrArg Prod.fst (nE_0 (f := f) (c := c) (fun y => z y.1))
def rdOk (f b : Int → Int) (a e : Int) : Prop := ∀ i, a ≤ i → i < e → (nX (rdI f b i) (b i)).1 ≠ 0 ∧ b i ≠ 59
def rdEnd (f b : Int → Int) (n e : Int) : Prop := e < n → (b e = 59 → (nX (rdI f b e) (b e)).1 ≠ 0 ∧ rdI f b (e + 1) 3 = 0) ∧ (b e ≠ 59 → (nX (rdI f b e) (b e)).1 = 0)
theorem rd_end {f b : Int → Int} {n e : Int} (h0 : 0 ≤ e) (h : cpl (rdI f b e)) (h2 : e < n → rdI f b e 3 = 2 → (nS (rdI f b e) (b e)).1 = 0) : rdEnd f b n e := fun hn => by
  rw [rdI_s f b h0]
  exact nX_end h (h2 hn)
theorem rd_num {f b : Int → Int} {n m a : Int} (h0 : 0 ≤ a) (hw : rdI f b a 3 = 1) (hm : m = if rdI f b a 0 = 103 then 15 else 19) :
    (nbv b n m a = -1 → nbp b n m a = a ∧ (a < n → (nX (rdI f b a) (b a)).1 = 0)) ∧
    (nbv b n m a ≠ -1 → rdOk f b a (nbp b n m a) ∧ rdI f b (nbp b n m a) 0 = rdI f b a 0 ∧ rdI f b (nbp b n m a) 1 = rdI f b a 1 ∧ rdI f b (nbp b n m a) 2 = nbv b n m a ∧ rdI f b (nbp b n m a) 3 = 2 ∧ rdI f b (nbp b n m a) 4 = rdI f b a 4 ∧ (nbp b n m a < n → (nS (rdI f b (nbp b n m a)) (b (nbp b n m a))).1 = 0)) := by
  have hm2 : 10 ≤ m ∧ m ≤ 19 := by rw [hm]; split <;> omega
  by_cases hd0 : dgt (sg b n a)
  · have ha := sg_in (b := b) (n := n) (a := a) (by have := hd0.1; omega)
    have es : sg b n a = b a := if_pos ha
    have hd : dgt (b a) := by rw [← es]; exact hd0
    have x1 : nX (rdI f b a) (b a) = (1, s1 (s1 (rdI f b a) 2 (b a - 48)) 3 2) := by rw [nX_1 hw, nF_1 hd]
    have g1 : rdI f b (a + 1) = s1 (s1 (rdI f b a) 2 (b a - 48)) 3 2 := by rw [rdI_s f b h0, x1]
    have o1 : (nX (rdI f b a) (b a)).1 ≠ 0 := by rw [x1]; show (1 : Int) ≠ 0; decide
    have k0 : rdI f b (a + 1) 3 = 2 := by rw [g1, s1_s]
    have k1 : rdI f b (a + 1) 2 = b a - 48 := by rw [g1, s1_n _ _ (by decide), s1_s]
    have k2 : rdI f b (a + 1) 0 = rdI f b a 0 := by rw [g1, s1_n _ _ (by decide), s1_n _ _ (by decide)]
    have k3 : rdI f b (a + 1) 1 = rdI f b a 1 := by rw [g1, s1_n _ _ (by decide), s1_n _ _ (by decide)]
    have k4 : rdI f b (a + 1) 4 = rdI f b a 4 := by rw [g1, s1_n _ _ (by decide), s1_n _ _ (by decide)]
    by_cases ht : two b n m a
    · have ha1 := sg_in (b := b) (n := n) (a := a + 1) (by have := ht.2.1; omega)
      have es1 : sg b n (a + 1) = b (a + 1) := if_pos ha1
      obtain ⟨t1, t2, t3⟩ := id ht
      rw [es] at t1
      rw [es1] at t2 t3
      have ev : nbv b n m a = 10 + b (a + 1) - 48 := by unfold nbv; rw [if_pos hd0, if_pos ht, es1]
      have ep : nbp b n m a = a + 2 := by unfold nbp; rw [if_pos hd0, if_pos ht]
      have x2 : nX (rdI f b (a + 1)) (b (a + 1)) = (1, s1 (rdI f b (a + 1)) 2 (10 * rdI f b (a + 1) 2 + b (a + 1) - 48)) := by
        have y := nS_1 (f := rdI f b (a + 1)) (c := b (a + 1)) ⟨by omega, by omega, by omega, by rw [k2, ← hm]; omega⟩
        rw [nX_2 k0, y]
        exact if_pos (show (1 : Int) ≠ 0 by decide)
      have o2 : (nX (rdI f b (a + 1)) (b (a + 1))).1 ≠ 0 := by rw [x2]; show (1 : Int) ≠ 0; decide
      have g2 : rdI f b (a + 2) = s1 (rdI f b (a + 1)) 2 (10 * rdI f b (a + 1) 2 + b (a + 1) - 48) := by
        have := rdI_s f b (i := a + 1) (by omega)
        rw [x2, show a + 1 + 1 = a + 2 by omega] at this
        exact this
      have q0 : rdI f b (a + 2) 0 = rdI f b a 0 := by rw [g2, s1_n _ _ (by decide), k2]
      have q2 : rdI f b (a + 2) 2 = 10 + b (a + 1) - 48 := by rw [g2, s1_s, k1]; omega
      rw [ev, ep]
      refine ⟨fun z => absurd z (by omega), fun _ => ⟨fun i i0 i1 => ?_, q0, ?_, q2, ?_, ?_, fun hn => ?_⟩⟩
      · rcases (by omega : i = a ∨ i = a + 1) with e | e
        · rw [e]; exact ⟨o1, by omega⟩
        · rw [e]; exact ⟨o2, by omega⟩
      · rw [g2, s1_n _ _ (by decide), k3]
      · rw [g2, s1_n _ _ (by decide), k0]
      · rw [g2, s1_n _ _ (by decide), k4]
      · refine congrArg Prod.fst (nS_0 (fun z => ?_))
        obtain ⟨z1, z2, z3, z4⟩ := z
        rw [q0, ← hm] at z4
        omega
    · have ev : nbv b n m a = b a - 48 := by unfold nbv; rw [if_pos hd0, if_neg ht, es]
      have ep : nbp b n m a = a + 1 := by unfold nbp; rw [if_pos hd0, if_neg ht]
      rw [ev, ep]
      refine ⟨fun z => absurd z (by omega), fun _ => ⟨fun i i0 i1 => ?_, k2, k3, k1, k0, k4, fun hn => ?_⟩⟩
      · rw [show i = a by omega]; exact ⟨o1, by omega⟩
      · refine congrArg Prod.fst (nS_0 (fun z => ht ?_))
        obtain ⟨z1, z2, z3, z4⟩ := z
        rw [k2, ← hm] at z4
        have es1 : sg b n (a + 1) = b (a + 1) := if_pos hn
        exact ⟨by rw [es]; omega, by rw [es1]; omega, by rw [es1]; omega⟩
  · have ev : nbv b n m a = -1 := by unfold nbv; rw [if_neg hd0]
    have ep : nbp b n m a = a := by unfold nbp; rw [if_neg hd0]
    refine ⟨fun _ => ⟨ep, fun ha => ?_⟩, fun z => absurd ev z⟩
    have es : sg b n a = b a := if_pos ha
    rw [nX_1 hw]
    exact congrArg Prod.fst (nF_0 (by rw [← es]; exact hd0))
theorem rd_let {f b : Int → Int} {a : Int} (h0 : 0 ≤ a) (hw : rdI f b a 3 = 0) (hl : b a = 103 ∨ b a = 112 ∨ b a = 102 ∨ b a = 109 ∨ b a = 98) : (nX (rdI f b a) (b a)).1 ≠ 0 ∧ rdI f b (a + 1) 0 = b a ∧ rdI f b (a + 1) 4 = 0 ∧ rdI f b (a + 1) 3 = (if b a = 98 then 3 else 1) := by
  have x1 : nX (rdI f b a) (b a) = (1, s1 (s1 (s1 (rdI f b a) 0 (b a)) 4 0) 3 (if b a = 98 then 3 else 1)) := by rw [nX_0 hw, nL_1 hl]
  have g1 : rdI f b (a + 1) = s1 (s1 (s1 (rdI f b a) 0 (b a)) 4 0) 3 (if b a = 98 then 3 else 1) := by rw [rdI_s f b h0, x1]
  refine ⟨by rw [x1]; show (1 : Int) ≠ 0; decide, ?_, ?_, ?_⟩ <;> rw [g1]
  · rw [s1_n _ _ (by decide), s1_n _ _ (by decide), s1_s]
  · rw [s1_n _ _ (by decide), s1_s]
  · rw [s1_s]
theorem rdOk_c {f b : Int → Int} {a e : Int} (h : (nX (rdI f b a) (b a)).1 ≠ 0) (h2 : b a ≠ 59) (h3 : rdOk f b (a + 1) e) : rdOk f b a e := fun i i0 i1 => by
  by_cases c : i = a
  · rw [c]; exact ⟨h, h2⟩
  · exact h3 i (by omega) i1
theorem rdOk_e {f b : Int → Int} {a : Int} : rdOk f b a a := fun i i0 i1 => absurd i1 (by omega)
theorem rdOk_t {f b : Int → Int} {a c e : Int} (h : rdOk f b a c) (h2 : rdOk f b c e) : rdOk f b a e := fun i i0 i1 => by
  by_cases g : i < c
  · exact h i i0 g
  · exact h2 i (by omega) i1
/-- a letter with one number -/
theorem rd_one {f b : Int → Int} {n m a : Int} (h0 : 0 ≤ a) (hw : rdI f b a 3 = 0) (hl : b a = 103 ∨ b a = 112 ∨ b a = 102) (hm : m = if b a = 103 then 15 else 19) :
    (nbv b n m (a + 1) ≠ -1 → rdOk f b a (nbp b n m (a + 1)) ∧ cpl (rdI f b (nbp b n m (a + 1))) ∧ rdI f b (nbp b n m (a + 1)) 0 = b a ∧ rdI f b (nbp b n m (a + 1)) 2 = nbv b n m (a + 1) ∧ rdEnd f b n (nbp b n m (a + 1))) ∧
    (nbv b n m (a + 1) = -1 → rdOk f b a (nbp b n m (a + 1)) ∧ (nbp b n m (a + 1) < n → (nX (rdI f b (nbp b n m (a + 1))) (b (nbp b n m (a + 1)))).1 = 0) ∧ ¬ cpl (rdI f b (nbp b n m (a + 1)))) := by
  obtain ⟨l1, l2, l3, l4⟩ := rd_let h0 hw (by omega)
  rw [if_neg (by omega)] at l4
  have k := rd_num (n := n) (m := m) (a := a + 1) (by omega) l4 (by rw [l2]; exact hm)
  refine ⟨fun hv => ?_, fun hv => ?_⟩
  · obtain ⟨k1, k2, k3, k4, k5, k6, k7⟩ := k.2 hv
    have hE : a + 1 ≤ nbp b n m (a + 1) := by unfold nbp; split <;> (try split) <;> omega
    have hc : cpl (rdI f b (nbp b n m (a + 1))) := Or.inr ⟨k5, fun z => by have := z.1; omega⟩
    exact ⟨rdOk_c l1 (by omega) k1, hc, k2.trans l2, k4, rd_end (by omega) hc (fun hn _ => k7 hn)⟩
  · obtain ⟨k1, k2⟩ := k.1 hv
    rw [k1]
    exact ⟨rdOk_c l1 (by omega) rdOk_e, k2, fun z => by rcases z with z | z <;> omega⟩
theorem rd_part {f b : Int → Int} {n a : Int} (h0 : 0 ≤ a) (hw : rdI f b a 3 = 0) :
    (rpk b n a → rdOk f b a (rpa b n a) ∧ cpl (rdI f b (rpa b n a)) ∧ rdI f b (rpa b n a) 0 = sg b n a ∧ ((sg b n a = 103 ∨ sg b n a = 112 ∨ sg b n a = 102) → rdI f b (rpa b n a) 2 = rpf b n a) ∧ (sg b n a = 109 → rdI f b (rpa b n a) 1 = rpf b n a ∧ rdI f b (rpa b n a) 2 = rps b n a) ∧ rdEnd f b n (rpa b n a)) ∧
    (¬ rpk b n a → rdOk f b a (rpa b n a) ∧ (rpa b n a < n → (nX (rdI f b (rpa b n a)) (b (rpa b n a))).1 = 0) ∧ ¬ cpl (rdI f b (rpa b n a))) := by
  by_cases c1 : sg b n a = 98
  · have h1 := sg_in (b := b) (n := n) (a := a) (by omega)
    have es : sg b n a = b a := if_pos h1
    obtain ⟨l1, l2, l3, l4⟩ := rd_let h0 hw (by omega)
    rw [if_pos (by omega)] at l4
    have ea : rpa b n a = a + 1 := by unfold rpa; rw [if_pos c1]
    have kk : rpk b n a := Or.inl c1
    rw [ea]
    refine ⟨fun _ => ⟨rdOk_c l1 (by omega) rdOk_e, Or.inl l4, l2.trans es.symm, fun z => absurd z (by omega), fun z => absurd z (by omega), rd_end (by omega) (Or.inl l4) (fun _ z => absurd z (by omega))⟩, fun z => absurd kk z⟩
  · by_cases c2 : sg b n a = 103
    · have h1 := sg_in (b := b) (n := n) (a := a) (by omega)
      have es : sg b n a = b a := if_pos h1
      have k := rd_one (n := n) (m := 15) h0 hw (by omega) (by rw [if_pos (by omega)])
      have ea : rpa b n a = nbp b n 15 (a + 1) := by unfold rpa; rw [if_neg c1, if_pos c2]
      have ef : rpf b n a = nbv b n 15 (a + 1) := by unfold rpf; rw [if_pos c2]
      have ek : rpk b n a ↔ nbv b n 15 (a + 1) ≠ -1 := ⟨fun z => by unfold rpk at z; omega, fun z => Or.inr (Or.inl ⟨c2, z⟩)⟩
      rw [ea, ef, ek]
      refine ⟨fun z => ?_, fun z => ?_⟩
      · obtain ⟨k1, k2, k3, k4, k5⟩ := k.1 z
        exact ⟨k1, k2, k3.trans es.symm, fun _ => k4, fun z => absurd z (by omega), k5⟩
      · exact k.2 (Decidable.byContradiction z)
    · by_cases c3 : sg b n a = 112 ∨ sg b n a = 102
      · have h1 := sg_in (b := b) (n := n) (a := a) (by omega)
        have es : sg b n a = b a := if_pos h1
        have k := rd_one (n := n) (m := 19) h0 hw (by omega) (by rw [if_neg (by omega)])
        have ea : rpa b n a = nbp b n 19 (a + 1) := by unfold rpa; rw [if_neg c1, if_neg c2, if_pos c3]
        have ef : rpf b n a = nbv b n 19 (a + 1) := by unfold rpf; rw [if_neg c2]
        have ek : rpk b n a ↔ nbv b n 19 (a + 1) ≠ -1 := ⟨fun z => by unfold rpk at z; omega, fun z => Or.inr (Or.inr (Or.inl ⟨c3, z⟩))⟩
        rw [ea, ef, ek]
        refine ⟨fun z => ?_, fun z => ?_⟩
        · obtain ⟨k1, k2, k3, k4, k5⟩ := k.1 z
          exact ⟨k1, k2, k3.trans es.symm, fun _ => k4, fun z => absurd z (by omega), k5⟩
        · exact k.2 (Decidable.byContradiction z)
      · by_cases c4 : sg b n a = 109
        · have h1 := sg_in (b := b) (n := n) (a := a) (by omega)
          have es : sg b n a = b a := if_pos h1
          obtain ⟨l1, l2, l3, l4⟩ := rd_let h0 hw (by omega)
          rw [if_neg (by omega)] at l4
          have k := rd_num (n := n) (m := 19) (a := a + 1) (by omega) l4 (by rw [l2, if_neg (by omega)])
          have ef : rpf b n a = nbv b n 19 (a + 1) := by unfold rpf; rw [if_neg c2]
          have hE : a + 1 ≤ nbp b n 19 (a + 1) := by unfold nbp; split <;> (try split) <;> omega
          by_cases hv : nbv b n 19 (a + 1) = -1
          · obtain ⟨k1, k2⟩ := k.1 hv
            have hM : ¬ rpM b n a := fun z => z.1 hv
            have ea : rpa b n a = a + 1 := by unfold rpa; rw [if_neg c1, if_neg c2, if_neg c3, if_pos c4, if_neg hM, k1]
            have ek : ¬ rpk b n a := fun z => by
              rcases z with z | z | z | z
              · omega
              · omega
              · exact c3 z.1
              · exact hM z.2.1
            rw [ea]
            exact ⟨fun z => absurd z ek, fun _ => ⟨rdOk_c l1 (by omega) rdOk_e, k2, fun z => by rcases z with z | z <;> omega⟩⟩
          · obtain ⟨k1, k2, k3, k4, k5, k6, k7⟩ := k.2 hv
            by_cases hg : sg b n (nbp b n 19 (a + 1)) = 62
            · have hM : rpM b n a := ⟨hv, hg⟩
              have h2 := sg_in (b := b) (n := n) (a := nbp b n 19 (a + 1)) (by omega)
              have es2 : sg b n (nbp b n 19 (a + 1)) = b (nbp b n 19 (a + 1)) := if_pos h2
              have ea : rpa b n a = nbp b n 19 (nbp b n 19 (a + 1) + 1) := by unfold rpa; rw [if_neg c1, if_neg c2, if_neg c3, if_pos c4, if_pos hM]
              have ek : rpk b n a ↔ nbv b n 19 (nbp b n 19 (a + 1) + 1) ≠ -1 := by
                constructor
                · intro z
                  rcases z with z | z | z | z
                  · omega
                  · omega
                  · exact absurd z.1 c3
                  · exact z.2.2
                · intro z; exact Or.inr (Or.inr (Or.inr ⟨c4, hM, z⟩))
              have es3 : rps b n a = nbv b n 19 (nbp b n 19 (a + 1) + 1) := rfl
              rw [ea, ek, ef, es3]
              have y := nA_1 (f := rdI f b (nbp b n 19 (a + 1))) (c := b (nbp b n 19 (a + 1))) ⟨by omega, by omega, by omega⟩
              have x1 : nX (rdI f b (nbp b n 19 (a + 1))) (b (nbp b n 19 (a + 1))) = (1, s1 (s1 (s1 (rdI f b (nbp b n 19 (a + 1))) 1 (rdI f b (nbp b n 19 (a + 1)) 2)) 4 1) 3 1) := by
                rw [nX_2 k5, if_neg (fun z => z (k7 h2)), y]
                exact if_pos (show (1 : Int) ≠ 0 by decide)
              have g1 : rdI f b ((nbp b n 19 (a + 1)) + 1) = s1 (s1 (s1 (rdI f b (nbp b n 19 (a + 1))) 1 (rdI f b (nbp b n 19 (a + 1)) 2)) 4 1) 3 1 := by rw [rdI_s f b (by omega), x1]
              have o1 : (nX (rdI f b (nbp b n 19 (a + 1))) (b (nbp b n 19 (a + 1)))).1 ≠ 0 := by rw [x1]; show (1 : Int) ≠ 0; decide
              have m0 : rdI f b ((nbp b n 19 (a + 1)) + 1) 0 = 109 := by rw [g1, s1_n _ _ (by decide), s1_n _ _ (by decide), s1_n _ _ (by decide), k2, l2]; omega
              have m1 : rdI f b ((nbp b n 19 (a + 1)) + 1) 1 = nbv b n 19 (a + 1) := by rw [g1, s1_n _ _ (by decide), s1_n _ _ (by decide), s1_s, k4]
              have m3 : rdI f b ((nbp b n 19 (a + 1)) + 1) 3 = 1 := by rw [g1, s1_s]
              have m4 : rdI f b ((nbp b n 19 (a + 1)) + 1) 4 = 1 := by rw [g1, s1_n _ _ (by decide), s1_s]
              have j := rd_num (n := n) (m := 19) (a := (nbp b n 19 (a + 1)) + 1) (by omega) m3 (by rw [m0, if_neg (by decide)])
              have hE2 : (nbp b n 19 (a + 1)) + 1 ≤ nbp b n 19 ((nbp b n 19 (a + 1)) + 1) := by unfold nbp; split <;> (try split) <;> omega
              have okE : rdOk f b a ((nbp b n 19 (a + 1)) + 1) := rdOk_t (rdOk_c l1 (by omega) k1) (rdOk_c o1 (by omega) rdOk_e)
              refine ⟨fun z => ?_, fun z => ?_⟩
              · obtain ⟨j1, j2, j3, j4, j5, j6, j7⟩ := j.2 z
                have hc : cpl (rdI f b (nbp b n 19 ((nbp b n 19 (a + 1)) + 1))) := Or.inr ⟨j5, fun z => by have := z.2; omega⟩
                exact ⟨rdOk_t okE j1, hc, by rw [j2, m0]; omega, fun z => absurd z (by omega), fun _ => ⟨j3.trans m1, j4⟩, rd_end (by omega) hc (fun hn _ => j7 hn)⟩
              · obtain ⟨j1, j2⟩ := j.1 (Decidable.byContradiction z)
                rw [j1]
                exact ⟨okE, j2, fun z => by rcases z with z | z <;> omega⟩
            · have hM : ¬ rpM b n a := fun z => hg z.2
              have ea : rpa b n a = nbp b n 19 (a + 1) := by unfold rpa; rw [if_neg c1, if_neg c2, if_neg c3, if_pos c4, if_neg hM]
              have ek : ¬ rpk b n a := fun z => by
                rcases z with z | z | z | z
                · omega
                · omega
                · exact c3 z.1
                · exact hM z.2.1
              rw [ea]
              refine ⟨fun z => absurd z ek, fun _ => ⟨rdOk_c l1 (by omega) k1, fun hn => ?_, fun z => by rcases z with z | z <;> omega⟩⟩
              have es2 : sg b n (nbp b n 19 (a + 1)) = b (nbp b n 19 (a + 1)) := if_pos hn
              rw [nX_2 k5, if_neg (fun z => z (k7 hn)), nA_0 (fun z => by have := z.1; omega), if_neg (fun z => z rfl)]
              exact congrArg Prod.fst (nE_0 (fun z => by have := z.2; omega))
        · have ea : rpa b n a = a := by unfold rpa; rw [if_neg c1, if_neg c2, if_neg c3, if_neg c4]
          have ek : ¬ rpk b n a := fun z => by unfold rpk at z; omega
          rw [ea]
          refine ⟨fun z => absurd z ek, fun _ => ⟨rdOk_e, fun hn => ?_, fun z => by rcases z with z | z <;> omega⟩⟩
          have es : sg b n a = b a := if_pos hn
          rw [nX_0 hw]
          exact congrArg Prod.fst (nL_0 (by omega))
theorem eI_run {f b : Int → Int} {n a e : Int} (he : e ≤ n) (hae : a ≤ e) (h : rdOk f b a e) : eI (rdP f b) a n = eI (rdP f b) e n := by
  refine loop_dn (F := fun i => i ≤ e → a ≤ i → eI (rdP f b) a n = eI (rdP f b) i n) (a := a) (b := e) hae (fun _ _ => rfl) (fun i i0 i1 K g1 g2 => ?_) (Int.le_refl e) hae
  refine (K (by omega) (by omega)).trans ?_
  rw [eI_f (rdP f b) (show i - 1 < n by omega) (fun z => (h (i - 1) (by omega) (by omega)).1 z), show i - 1 + 1 = i by omega]
/-- the class's first error and whether it is complete, beside the reference's -/
theorem rd_wk {f b : Int → Int} {n : Int} (hn : n ≤ 60) : ∀ (m : Nat) (i a : Int), 0 ≤ i → i ≤ a → a ≤ n → n - a < m → rdI f b a 3 = 0 → eI (rdP f b) a n = (wk b n i a).2 ∧ (((wk b n i a).1 = 1 ∧ eI (rdP f b) a n = n ∧ cpl (rdI f b (eI (rdP f b) a n))) ∨ ((wk b n i a).1 = 0 ∧ ¬ (eI (rdP f b) a n = n ∧ cpl (rdI f b (eI (rdP f b) a n)))))
  | 0, i, a, i0, h0, h1, h2, hw => absurd h2 (by omega)
  | m + 1, i, a, i0, h0, h1, h2, hw => by
    have ha := rpa_r (b := b) h1
    have hp := rd_part (n := n) (show 0 ≤ a by omega) hw
    rw [wk_s b n (show i < 61 by omega)]
    by_cases c : rpk b n a
    · obtain ⟨p1, p2, p3, p4, p5, p6⟩ := hp.1 c
      have hr := eI_run ha.1.2 ha.1.1 p1
      rw [if_pos c, hr]
      by_cases c2 : rpa b n a = n
      · rw [if_pos c2, c2, eI_e _ (Int.le_refl n)]
        rw [c2] at p2
        exact ⟨rfl, Or.inl ⟨rfl, rfl, p2⟩⟩
      · have hlt : rpa b n a < n := by omega
        have es : sg b n (rpa b n a) = b (rpa b n a) := if_pos hlt
        rw [if_neg c2, es]
        by_cases c3 : b (rpa b n a) = 59
        · obtain ⟨q1, q2⟩ := (p6 hlt).1 c3
          have ih := rd_wk hn m (i + 1) (rpa b n a + 1) (by omega) (by have := ha.2 c; omega) (by omega) (by omega) q2
          rw [if_pos c3, eI_f (rdP f b) hlt q1]
          exact ih
        · have q1 := (p6 hlt).2 c3
          rw [if_neg c3, eI_t (rdP f b) (by omega) hlt q1]
          exact ⟨rfl, Or.inr ⟨rfl, fun z => c2 z.1⟩⟩
    · obtain ⟨p1, p2, p3⟩ := hp.2 c
      have hr := eI_run ha.1.2 ha.1.1 p1
      rw [if_neg c, hr]
      by_cases c2 : rpa b n a < n
      · rw [eI_t (rdP f b) (by omega) c2 (p2 c2)]
        exact ⟨rfl, Or.inr ⟨rfl, fun z => p3 z.2⟩⟩
      · have e : rpa b n a = n := by omega
        rw [e] at p3
        rw [e, eI_e _ (Int.le_refl n)]
        exact ⟨rfl, Or.inr ⟨rfl, fun z => p3 z.2⟩⟩
/-- other characters behind the end -/
theorem rdI_c {f b b' : Int → Int} {n : Int} (h : ∀ i, 0 ≤ i → i < n → b i = b' i) {i : Int} (h0 : 0 ≤ i) (h1 : i ≤ n) : rdI f b i = rdI f b' i := by
  refine loop_up (F := fun k => rdI f b k = rdI f b' k → rdI f b i = rdI f b' i) (a := 0) (b := i) h0 (fun g => g) (fun k k0 k1 K g => K ?_) rfl
  rw [rdI_s f b k0, rdI_s f b' k0, g, h k k0 (by omega)]
theorem fEr_c {f b b' : Int → Int} {n : Int} (h : ∀ i, 0 ≤ i → i < n → b i = b' i) : fEr f b n = fEr f b' n := by
  have e : fs (rdP f b) 0 n = fs (rdP f b') 0 n := fs_cong (fun k k0 k1 => by
    show (nX (rdI f b k) (b k)).1 = 0 ↔ (nX (rdI f b' k) (b' k)).1 = 0
    rw [rdI_c h k0 (by omega), h k k0 k1])
  unfold fEr
  rw [e]
