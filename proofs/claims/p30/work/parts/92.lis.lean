/-! the longest row, once more: against the falling pairs; a sheet less; a sheet moved -/
theorem lis_s (a : Int → Int) {n : Int} (h : 0 ≤ n) : lis a (n + 1) = if lis a n < leI a (fun _ => 0) (n + 1) n then leI a (fun _ => 0) (n + 1) n else lis a n := by
  unfold lis
  rw [mx_s _ h, mx_cong (f := leI a (fun _ => 0) (n + 1)) (g := leI a (fun _ => 0) n) (n := n) (fun k k0 k1 => leI_st a _ h (by omega) k1)]
theorem lis_top (a : Int → Int) {n : Int} (h : 0 ≤ n) (ht : ∀ e, 0 ≤ e → e < n → a e ≤ a n) : leI a (fun _ => 0) (n + 1) n = 1 + lis a n := by
  rw [leI_at a _ h (by omega)]
  unfold lis
  congr 1
  exact mx_cong (fun e e0 e1 => by rw [if_pos (ht e e0 e1), leI_st a _ h (by omega) e1])
theorem sm_zero {f : Int → Int} {n : Int} (h : ∀ k, 0 ≤ k → k < n → f k = 0) : sm f n = 0 := by
  rw [sm_cong (g := fun _ => 0) h]
  have key : ∀ m : Nat, smN (fun _ => (0 : Int)) m = 0 := by
    intro m
    induction m with
    | zero => rfl
    | succ m ih => show smN _ m + 0 = 0; rw [ih]; rfl
  exact key _
theorem fw_le (a : Int → Int) {n : Int} (h : 0 ≤ n) : n - lis a n ≤ sm (fun k => cn (fun e => a k < a e) k) n := by
  refine loop_up (F := fun i => i - lis a i ≤ sm (fun k => cn (fun e => a k < a e) k) i → n - lis a n ≤ sm (fun k => cn (fun e => a k < a e) k) n) (a := 0) (b := n) h (fun g => g) (fun i h0 h1 K g => K ?_) (by
    have := (lis_bd a (Int.le_refl 0)).1
    rw [sm_0]
    omega)
  rw [sm_s _ h0, lis_s a h0]
  have hb := cn_bd (fun e => a i < a e) h0
  by_cases c : cn (fun e => a i < a e) i = 0
  · have hz := cn_zero c
    have ht := lis_top a h0 (fun e e0 e1 => by have := hz e e0 e1; omega)
    rw [ht, if_pos (by omega)]
    omega
  · split <;> omega
theorem ch_len {a : Int → Int} : ∀ (l : Nat) (e : Int), chE a l e → (l : Int) ≤ e + 1
  | 0, _, h => h.elim
  | l + 1, e, h => by
    have h0 := h.1
    rcases h.2 with hl | ⟨f, f1, f2, f3⟩
    · omega
    · have := ch_len l f f3
      omega
theorem ch_full {a : Int → Int} : ∀ (l : Nat) (e : Int), chE a l e → (l : Int) = e + 1 → ∀ i j, 0 ≤ i → i ≤ j → j ≤ e → a i ≤ a j
  | 0, _, h, _, _, _, _, _, _ => h.elim
  | l + 1, e, h, hl, i, j, i0, ij, je => by
    by_cases hij : i = j
    · rw [hij]; exact Int.le_refl _
    rcases h.2 with h2 | ⟨f, f1, f2, f3⟩
    · omega
    · have g := ch_len l f f3
      have hf : f = e - 1 := by omega
      by_cases hj : j = e
      · have := ch_full l f f3 (by omega) i f i0 (by omega) (Int.le_refl f)
        rw [hj]
        omega
      · exact ch_full l f f3 (by omega) i j i0 ij (by omega)
theorem lis_full {a : Int → Int} {n : Int} (h : 0 ≤ n) (hl : lis a n = n) : ∀ i j, 0 ≤ i → i ≤ j → j < n → a i ≤ a j := fun i j i0 ij jn => by
  rcases lis_ex a n with g | ⟨e, e0, e1, e2⟩
  · omega
  · rw [hl] at e2
    have g := ch_len _ e e2
    exact ch_full _ e e2 (by omega) i j i0 ij (by omega)
/-- no fall, no move -/
theorem fw_iff (a : Int → Int) {n : Int} (h : 0 ≤ n) : n - lis a n = 0 ↔ sm (fun k => cn (fun e => a k < a e) k) n = 0 := by
  constructor
  · intro g
    exact sm_zero (fun k k0 k1 => cn_none (fun e e0 e1 z => by
      have := lis_full (a := a) h (by omega) e k e0 (by omega) k1
      omega))
  · intro g
    have h1 := fw_le a h
    have h2 := lis_bd a h
    omega
theorem vN_ins {w : Int → Int} {p : Int} (hp : 0 ≤ p) : ∀ j, 0 ≤ j → j < w 3 → insR (wN w p) p (w 3 - 1) (w (70 + p)) j = vN w j := fun j j0 j1 => by
  rw [insR_at]
  show _ = w (70 + j)
  by_cases c : j = p
  · rw [if_pos c, c]
  · rw [if_neg c]
    unfold wN
    by_cases c2 : p < j
    · rw [if_pos (by omega), if_pos (by omega), show j - 1 + 1 = j by omega]
    · rw [if_neg (by omega), if_neg (by omega)]
theorem ins_up {a : Int → Int} {p n1 x : Int} (hp : 0 ≤ p) (hp2 : p ≤ n1) : lis (insR a p n1 x) (n1 + 1) ≤ lis a n1 + 1 := by
  have h1 := (ins_lis (a := a) (x := x) (fun _ => 0) (fun _ => 0) hp hp2).1
  have h2 := mx_sum (a := a) (x := x) (fun _ => 0) (fun _ => 0) hp hp2
  generalize mx (fun e => if a e ≤ x then leI a (fun _ => 0) n1 e else 0) p = A at h1 h2
  generalize mx (fun e => if a (p + e) ≥ x then lbI a (fun _ => 0) n1 0 (p + e) else 0) (n1 - p) = F at h1 h2
  omega
theorem lis_wN_ge {w : Int → Int} {p : Int} (hp : 0 ≤ p) (hp2 : p < w 3) : lis (vN w) (w 3) ≤ lis (wN w p) (w 3 - 1) + 1 := by
  have h := ins_up (a := wN w p) (x := w (70 + p)) hp (show p ≤ w 3 - 1 by omega)
  rw [show w 3 - 1 + 1 = w 3 by omega, lis_c (a' := vN w) (by omega) (vN_ins hp)] at h
  exact h
/-- a sheet more behind the row, or within it -/
theorem ins_one {a : Int → Int} {n1 x : Int} : ∀ (l : Nat) (e : Int), chE a l e → e < n1 → (a e ≤ x → chE (insR a (e + 1) n1 x) (l + 1) (e + 1)) ∧ (x < a e → ∃ t, 0 ≤ t ∧ t ≤ e ∧ chE (insR a t n1 x) (l + 1) (e + 1))
  | 0, _, h, _ => h.elim
  | l + 1, e, h, he => by
    have h0 := h.1
    refine ⟨fun c => ?_, fun c => ?_⟩
    · have g := chE_map (b := insR a (e + 1) n1 x) (φ := fun i => i) (n := e + 1) (fun i j _ h _ => h) (fun i i0 _ => i0) (fun i i0 i1 => by
        show insR a (e + 1) n1 x i = a i
        rw [insR_at, if_neg (by omega), if_neg (by omega)]) _ e h (by omega)
      refine chE_s g (show e < e + 1 by omega) ?_ (by omega)
      have e1 : insR a (e + 1) n1 x e = a e := by rw [insR_at, if_neg (by omega), if_neg (by omega)]
      have e2 : insR a (e + 1) n1 x (e + 1) = x := by rw [insR_at, if_pos rfl]
      show insR a (e + 1) n1 x e ≤ _
      rw [e1, e2]
      exact c
    · rcases h.2 with hl | ⟨f, f1, f2, f3⟩
      · subst hl
        refine ⟨e, h0, Int.le_refl e, chE_s (chE_1 _ h0) (by omega) ?_ (by omega)⟩
        have e1 : insR a e n1 x e = x := by rw [insR_at, if_pos rfl]
        have e2 : insR a e n1 x (e + 1) = a e := by rw [insR_at, if_neg (by omega), if_pos (by omega), show e + 1 - 1 = e by omega]
        rw [e1, e2]
        omega
      · have ff := (chE_0 f3).1
        have ih := ins_one (n1 := n1) (x := x) l f f3 (by omega)
        by_cases g : a f ≤ x
        · refine ⟨f + 1, by omega, by omega, chE_s (ih.1 g) (by omega) ?_ (by omega)⟩
          have e1 : insR a (f + 1) n1 x (f + 1) = x := by rw [insR_at, if_pos rfl]
          have e2 : insR a (f + 1) n1 x (e + 1) = a e := by rw [insR_at, if_neg (by omega), if_pos (by omega), show e + 1 - 1 = e by omega]
          rw [e1, e2]
          omega
        · obtain ⟨t, t0, t1, k⟩ := ih.2 (by omega)
          refine ⟨t, t0, by omega, chE_s k (by omega) ?_ (by omega)⟩
          have e1 : insR a t n1 x (f + 1) = a f := by rw [insR_at, if_neg (by omega), if_pos (by omega), show f + 1 - 1 = f by omega]
          have e2 : insR a t n1 x (e + 1) = a e := by rw [insR_at, if_neg (by omega), if_pos (by omega), show e + 1 - 1 = e by omega]
          rw [e1, e2]
          exact f2
/-- a sheet less that the row doesn't need -/
theorem rem_one {a : Int → Int} : ∀ (l : Nat) (e : Int), chE a l e → (l : Int) ≤ e → ∃ p, 0 ≤ p ∧ p < e ∧ chE (fun j => if p ≤ j then a (j + 1) else a j) l (e - 1)
  | 0, _, h, _ => h.elim
  | l + 1, e, h, hl => by
    rcases h.2 with h2 | ⟨f, f1, f2, f3⟩
    · subst h2
      exact ⟨0, Int.le_refl 0, by omega, chE_1 _ (by omega)⟩
    · have ff := (chE_0 f3).1
      by_cases g : f = e - 1
      · obtain ⟨p, p0, p1, k⟩ := rem_one l f f3 (by omega)
        refine ⟨p, p0, by omega, chE_s k (by omega) ?_ (by omega)⟩
        show (if p ≤ f - 1 then a (f - 1 + 1) else a (f - 1)) ≤ (if p ≤ e - 1 then a (e - 1 + 1) else a (e - 1))
        rw [if_pos (by omega), if_pos (by omega), show f - 1 + 1 = f by omega, show e - 1 + 1 = e by omega]
        exact f2
      · have k := chE_map (b := fun j => if e - 1 ≤ j then a (j + 1) else a j) (φ := fun i => i) (n := e - 1) (fun i j _ h _ => h) (fun i i0 _ => i0) (fun i i0 i1 => by
          show (if e - 1 ≤ i then a (i + 1) else a i) = a i
          rw [if_neg (by omega)]) _ f f3 (by omega)
        refine ⟨e - 1, by omega, by omega, chE_s k (show f < e - 1 by omega) ?_ (by omega)⟩
        show (if e - 1 ≤ f then a (f + 1) else a f) ≤ (if e - 1 ≤ e - 1 then a (e - 1 + 1) else a (e - 1))
        rw [if_neg (by omega), if_pos (by omega), show e - 1 + 1 = e by omega]
        exact f2
theorem wN_fun (w : Int → Int) {p : Int} (hp : 0 ≤ p) : (fun j => if p ≤ j then vN w (j + 1) else vN w j) = wN w p := by
  funext j
  unfold wN
  by_cases c : p ≤ j
  · rw [if_pos c, if_pos ⟨hp, c⟩]
  · rw [if_neg c, if_neg (fun z => c z.2)]
theorem rem_lis {w : Int → Int} (h3 : 0 ≤ w 3) (h : lis (vN w) (w 3) < w 3) : ∃ p, 0 ≤ p ∧ p < w 3 ∧ lis (vN w) (w 3) ≤ lis (wN w p) (w 3 - 1) := by
  rcases lis_ex (vN w) (w 3) with g | ⟨e, e0, e1, e2⟩
  · refine ⟨0, Int.le_refl 0, by have := (lis_bd (vN w) h3).1; omega, ?_⟩
    rw [g]
    exact (lis_bd _ (by have := (lis_bd (vN w) h3).1; omega)).1
  · have hl := (lis_bd (vN w) h3).1
    have g := ch_len _ e e2
    by_cases c : (((lis (vN w) (w 3)).toNat : Nat) : Int) ≤ e
    · obtain ⟨p, p0, p1, k⟩ := rem_one _ e e2 c
      rw [wN_fun w p0] at k
      have := lis_ge k (n := w 3 - 1) (by omega)
      exact ⟨p, p0, by omega, by omega⟩
    · have k := chE_map (b := wN w (e + 1)) (φ := fun i => i) (n := e + 1) (fun i j _ h _ => h) (fun i i0 _ => i0) (fun i i0 i1 => by
        show wN w (e + 1) i = vN w i
        unfold wN
        rw [if_neg (by omega)]) _ e e2 (by omega)
      have := lis_ge k (n := w 3 - 1) (show e < w 3 - 1 by omega)
      exact ⟨e + 1, by omega, by omega, by omega⟩
theorem nm_ex {w : Int → Int} (h3 : 0 ≤ w 3) (h20 : w 3 ≤ 20) (h : lis (vN w) (w 3) < w 3) : ∃ k, 0 ≤ k ∧ k < w 3 * w 3 ∧ nmP w k := by
  obtain ⟨p, p0, p1, hp⟩ := rem_lis h3 h
  have le := lis_wN p0 p1
  have ht : ∃ t, 0 ≤ t ∧ t ≤ w 3 - 1 ∧ lis (wN w p) (w 3 - 1) + 1 ≤ lis (insR (wN w p) t (w 3 - 1) (w (70 + p))) (w 3 - 1 + 1) := by
    rcases lis_ex (wN w p) (w 3 - 1) with g | ⟨e, e0, e1, e2⟩
    · refine ⟨0, Int.le_refl 0, by omega, ?_⟩
      have := lis_ge (chE_1 (insR (wN w p) 0 (w 3 - 1) (w (70 + p))) (Int.le_refl 0)) (n := w 3 - 1 + 1) (by omega)
      omega
    · have hb := (lis_bd (wN w p) (show 0 ≤ w 3 - 1 by omega)).1
      have k := ins_one (x := w (70 + p)) _ e e2 e1
      by_cases c : wN w p e ≤ w (70 + p)
      · have := lis_ge (k.1 c) (n := w 3 - 1 + 1) (by omega)
        exact ⟨e + 1, by omega, by omega, by omega⟩
      · obtain ⟨t, t0, t1, k2⟩ := k.2 (by omega)
        have := lis_ge k2 (n := w 3 - 1 + 1) (by omega)
        exact ⟨t, t0, by omega, by omega⟩
  obtain ⟨t, t0, t1, hl⟩ := ht
  have hu := ins_up (a := wN w p) (x := w (70 + p)) t0 t1
  have d := dm_row (n := w 3) (p := p) (i := t) (by omega) h20 t0 (by omega)
  have s := (sq_row p0 p1).1
  refine ⟨p * w 3 + t, by omega, by omega, by omega, ?_⟩
  rw [d.1, d.2]
  unfold fwB bhN
  rw [show w 3 - 1 + 1 = w 3 by omega] at hl hu
  omega
/-- the next sheet to be moved -/
theorem nmT_sp {w : Int → Int} (h3 : 0 ≤ w 3) (h20 : w 3 ≤ 20) : (nmT w = -1 ∧ lis (vN w) (w 3) = w 3) ∨ (lis (vN w) (w 3) < w 3 ∧ 0 ≤ nmT w ∧ nmT w < 400 ∧ (0 ≤ nmT w / 20 ∧ nmT w / 20 < w 3) ∧ (0 ≤ nmT w % 20 ∧ nmT w % 20 < w 3) ∧ lis (bhN w (nmT w / 20) (nmT w % 20)) (w 3) = lis (vN w) (w 3) + 1) := by
  have hb := lis_bd (vN w) h3
  unfold nmT
  rcases fs_r (fun k => nmP w k) 0 (w 3 * w 3) with ⟨g, g2⟩ | ⟨g1, g2, g3, -⟩
  · rw [if_pos g]
    refine Or.inl ⟨rfl, ?_⟩
    by_cases c : lis (vN w) (w 3) < w 3
    · obtain ⟨k, k0, k1, k2⟩ := nm_ex h3 h20 c
      exact absurd k2 (g2 k k0 k1)
    · omega
  · rw [if_neg (by omega)]
    have dm := dm_bd g1 (sq_pos g1 h3 g2) g2
    obtain ⟨g4, g5⟩ := g3
    generalize fs (fun k => nmP w k) 0 (w 3 * w 3) = k at g1 g2 g4 g5 dm
    have e1 : (20 * (k / w 3) + k % w 3) / 20 = k / w 3 := by omega
    have e2 : (20 * (k / w 3) + k % w 3) % 20 = k % w 3 := by omega
    rw [e1, e2]
    unfold fwB at g5
    exact Or.inr ⟨by omega, by omega, by omega, dm.1, dm.2, by omega⟩
