/-! as many piles as the longest row is long -/
theorem ps_at (T : Int → Int) (x : Int) {P : Int} (hP : 0 ≤ P) : (∀ j, 0 ≤ j → j < ps T x P → T j ≤ x) ∧ (ps T x P < P → x < T (ps T x P)) := by
  unfold ps
  rcases fs_r (fun j => x < T j) 0 P with ⟨h1, h2⟩ | ⟨h1, h2, h3, h4⟩
  · rw [if_pos (by omega)]
    exact ⟨fun j j0 j1 => by have := h2 j j0 j1; omega, fun z => absurd z (by omega)⟩
  · rw [if_neg (by omega)]
    exact ⟨fun j j0 j1 => by have := h4 j j0 j1; omega, fun _ => h3⟩
def pilO (a L T : Int → Int) (P k : Int) : Prop := (0 ≤ P ∧ P = mx L k) ∧ (∀ e, 0 ≤ e → e < k → T (L e - 1) ≤ a e) ∧ (∀ j, 0 ≤ j → j < P → ∃ e, 0 ≤ e ∧ e < k ∧ L e = j + 1 ∧ a e = T j) ∧ ∀ i j, 0 ≤ i → i ≤ j → j < P → T i ≤ T j
theorem pil_s {a L T : Int → Int} {P k : Int} (hk : 0 ≤ k) (hL : ∀ e, 0 ≤ e → e < k → 1 ≤ L e) (h : pilO a L T P k) : mx (fun e => if a e ≤ a k then L e else 0) k = ps T (a k) P ∧ pilO a (s1 L k (1 + ps T (a k) P)) (s1 T (ps T (a k) P) (a k)) (if P < ps T (a k) P + 1 then ps T (a k) P + 1 else P) (k + 1) := by
  obtain ⟨⟨p0, p1⟩, h2, h3, h4⟩ := h
  have hb := ps_bd T (a k) p0
  obtain ⟨q1, q2⟩ := ps_at T (a k) p0
  generalize ps T (a k) P = p at hb q1 q2 ⊢
  have hLP : ∀ e, 0 ≤ e → e < k → L e ≤ P := fun e e0 e1 => by rw [p1]; exact mx_ge L e0 e1
  have hmx : mx (fun e => if a e ≤ a k then L e else 0) k = p := by
    have up : mx (fun e => if a e ≤ a k then L e else 0) k ≤ p := mx_le hb.1 (fun e e0 e1 => by
      show (if a e ≤ a k then L e else 0) ≤ p
      by_cases c : a e ≤ a k
      · rw [if_pos c]
        have g1 := h2 e e0 e1
        have g2 := hLP e e0 e1
        have g3 := hL e e0 e1
        by_cases g : L e - 1 < p
        · omega
        · have g4 := q2 (by omega)
          have g5 := h4 p (L e - 1) hb.1 (by omega) (by omega)
          omega
      · rw [if_neg c]; exact hb.1)
    have dn : p ≤ mx (fun e => if a e ≤ a k then L e else 0) k := by
      by_cases c : p = 0
      · rw [c]; exact mx_nn _ _
      · obtain ⟨e, e0, e1, e2, e3⟩ := h3 (p - 1) (by omega) (by omega)
        have g := mx_ge (fun e => if a e ≤ a k then L e else 0) e0 e1
        have g2 := q1 (p - 1) (by omega) (by omega)
        rw [if_pos (by omega)] at g
        omega
    omega
  refine ⟨hmx, ⟨?_, ?_⟩, fun e e0 e1 => ?_, fun j j0 j1 => ?_, fun i j i0 ij j1 => ?_⟩
  · split <;> omega
  · have e1 : mx (s1 L k (1 + p)) k = P := by rw [p1]; exact mx_cong (fun e e0 e1 => s1_n _ _ (by omega))
    rw [mx_s _ hk, e1, s1_s]
    by_cases c : P < p + 1
    · rw [if_pos c, if_pos (by omega)]; omega
    · rw [if_neg c, if_neg (by omega)]
  · by_cases c : e = k
    · rw [c, s1_s, show 1 + p - 1 = p by omega, s1_s]; exact Int.le_refl _
    · rw [s1_n _ _ c]
      have g1 := h2 e e0 (by omega)
      have g2 := hLP e e0 (by omega)
      by_cases c2 : L e - 1 = p
      · rw [c2, s1_s]
        have := q2 (by omega)
        rw [c2] at g1
        omega
      · rw [s1_n _ _ c2]; exact g1
  · by_cases c : j = p
    · exact ⟨k, hk, by omega, by rw [s1_s]; omega, by rw [c, s1_s]⟩
    · have hj : j < P := by split at j1 <;> omega
      obtain ⟨e, e0, e1, e2, e3⟩ := h3 j j0 hj
      exact ⟨e, e0, by omega, by rw [s1_n _ _ (by omega)]; exact e2, by rw [s1_n _ _ c]; exact e3⟩
  · by_cases c : i = p
    · rw [c, s1_s]
      by_cases c2 : j = p
      · rw [c2, s1_s]; exact Int.le_refl _
      · rw [s1_n _ _ c2]
        have hj : j < P := by split at j1 <;> omega
        have g1 := q2 (by omega)
        have g2 := h4 p j hb.1 (by omega) hj
        omega
    · rw [s1_n _ _ c]
      by_cases c2 : j = p
      · rw [c2, s1_s]; exact q1 i i0 (by omega)
      · rw [s1_n _ _ c2]
        have hj : j < P := by split at j1 <;> omega
        exact h4 i j i0 ij hj
theorem pil_all (a r0 r1 : Int → Int) {n : Int} (hn : 0 ≤ n) : pilO a (leI a r0 n) (plI a r1 n).1 (plI a r1 n).2 n := by
  refine loop_up (F := fun k => pilO a (leI a r0 k) (plI a r1 k).1 (plI a r1 k).2 k → pilO a (leI a r0 n) (plI a r1 n).1 (plI a r1 n).2 n) (a := 0) (b := n) hn (fun g => g) (fun k h0 h1 K g => K ?_) ?_
  · have h := pil_s h0 (fun e e0 e1 => (leI_bd a r0 h0 e e0 e1).1) g
    rw [leI_s a r0 h0, plI_s a r1 h0, h.1]
    exact h.2
  · exact ⟨⟨Int.le_refl 0, rfl⟩, fun e e0 e1 => absurd e1 (by omega), fun j j0 j1 => absurd j1 (by show ¬ j < 0; omega), fun i j i0 ij j1 => absurd j1 (by show ¬ j < 0; omega)⟩
theorem pil_e {a a' r1 : Int → Int} {n : Int} (hn : 0 ≤ n) (h : ∀ i, 0 ≤ i → i < n → a i = a' i) : (plI a r1 n).2 = lis a' n := by
  rw [(pil_all a (fun _ => 0) r1 hn).1.2]
  exact lis_e hn h
