/-! rows that do not fall, as chains -/
def chE (a : Int → Int) : Nat → Int → Prop
  | 0, _ => False
  | l + 1, e => 0 ≤ e ∧ (l = 0 ∨ ∃ f, f < e ∧ a f ≤ a e ∧ chE a l f)
theorem chE_1 (a : Int → Int) {e : Int} (h : 0 ≤ e) : chE a 1 e := ⟨h, Or.inl rfl⟩
theorem chE_s {a : Int → Int} {l : Nat} {e f : Int} (h : chE a l f) (hf : f < e) (ha : a f ≤ a e) (h0 : 0 ≤ e) : chE a (l + 1) e := ⟨h0, Or.inr ⟨f, hf, ha, h⟩⟩
theorem chE_0 {a : Int → Int} {l : Nat} {e : Int} (h : chE a l e) : 0 ≤ e ∧ 1 ≤ l := by
  cases l with
  | zero => exact h.elim
  | succ l => exact ⟨h.1, by omega⟩
theorem leI_st (a r : Int → Int) {k n e : Int} (hk : 0 ≤ k) (hn : k ≤ n) (he : e < k) : leI a r n e = leI a r k e := by
  refine loop_up (F := fun i => leI a r i e = leI a r k e → leI a r n e = leI a r k e) (a := k) (b := n) hn (fun g => g) (fun i h0 h1 K g => K ?_) rfl
  rw [leI_s a r (by omega), s1_n _ _ (by omega)]
  exact g
theorem leI_at (a r : Int → Int) {n e : Int} (h0 : 0 ≤ e) (h1 : e < n) : leI a r n e = 1 + mx (fun f => if a f ≤ a e then leI a r n f else 0) e := by
  rw [leI_st a r (k := e + 1) (by omega) (by omega) (by omega), leI_s a r h0, s1_s]
  congr 1
  exact mx_cong (fun f f0 f1 => by rw [leI_st a r (k := e) (n := n) h0 (by omega) f1])
theorem chE_le {a : Int → Int} (r : Int → Int) {n : Int} : ∀ (l : Nat) (e : Int), chE a l e → e < n → (l : Int) ≤ leI a r n e
  | 0, e, h, _ => h.elim
  | l + 1, e, h, he => by
    have h0 := h.1
    rw [leI_at a r h0 he]
    rcases h.2 with hl | ⟨f, f1, f2, f3⟩
    · have := mx_nn (fun f => if a f ≤ a e then leI a r n f else 0) e
      omega
    · have g := chE_le (n := n) r l f f3 (by omega)
      have g2 := mx_ge (fun f => if a f ≤ a e then leI a r n f else 0) (n := e) (k := f) (chE_0 f3).1 f1
      rw [if_pos f2] at g2
      omega
theorem chE_ex (a r : Int → Int) {n : Int} : ∀ (m : Nat) (e : Int), 0 ≤ e → e < n → e < m → chE a (leI a r n e).toNat e
  | 0, e, h0, _, h2 => absurd h2 (by omega)
  | m + 1, e, h0, h1, h2 => by
    have hat := leI_at a r h0 h1
    rcases mx_at (fun f => if a f ≤ a e then leI a r n f else 0) e with h | ⟨f, f0, f1, f2⟩
    · rw [hat, h]; exact chE_1 a h0
    · by_cases c : a f ≤ a e
      · rw [if_pos c] at f2
        have g := chE_ex a r (n := n) m f f0 (by omega) (by omega)
        have gb := (leI_bd a r (show 0 ≤ n by omega) f f0 (by omega)).1
        rw [hat, ← f2, show (1 + leI a r n f).toNat = (leI a r n f).toNat + 1 by omega]
        exact chE_s g f1 c h0
      · rw [if_neg c] at f2
        rw [hat, ← f2]; exact chE_1 a h0
theorem lis_ge {a : Int → Int} {n : Int} {l : Nat} {e : Int} (h : chE a l e) (he : e < n) : (l : Int) ≤ lis a n := by
  have g := chE_le (fun _ => 0) l e h he
  have g2 := mx_ge (leI a (fun _ => 0) n) (chE_0 h).1 he
  unfold lis
  omega
theorem lis_ex (a : Int → Int) (n : Int) : lis a n = 0 ∨ ∃ e, 0 ≤ e ∧ e < n ∧ chE a (lis a n).toNat e := by
  unfold lis
  rcases mx_at (leI a (fun _ => 0) n) n with h | ⟨e, e0, e1, e2⟩
  · exact Or.inl h
  · refine Or.inr ⟨e, e0, e1, ?_⟩
    rw [← e2]
    exact chE_ex a (fun _ => 0) (e.toNat + 1) e e0 e1 (by omega)
/-- a row within a row -/
theorem chE_map {a b : Int → Int} {φ : Int → Int} {n : Int} (hm : ∀ i j, 0 ≤ i → i < j → j < n → φ i < φ j) (h0 : ∀ i, 0 ≤ i → i < n → 0 ≤ φ i) (hb : ∀ i, 0 ≤ i → i < n → b (φ i) = a i) : ∀ (l : Nat) (e : Int), chE a l e → e < n → chE b l (φ e)
  | 0, e, h, _ => h.elim
  | l + 1, e, h, he => by
    refine ⟨h0 e h.1 he, ?_⟩
    rcases h.2 with hl | ⟨f, f1, f2, f3⟩
    · exact Or.inl hl
    · have ff := (chE_0 f3).1
      exact Or.inr ⟨φ f, hm f e ff f1 he, by rw [hb f ff (by omega), hb e h.1 he]; exact f2, chE_map (n := n) hm h0 hb l f f3 (by omega)⟩
theorem lis_map {a b : Int → Int} {φ : Int → Int} {n m : Int} (hm : ∀ i j, 0 ≤ i → i < j → j < n → φ i < φ j) (h0 : ∀ i, 0 ≤ i → i < n → 0 ≤ φ i ∧ φ i < m) (hb : ∀ i, 0 ≤ i → i < n → b (φ i) = a i) (hmn : 0 ≤ m) : lis a n ≤ lis b m := by
  rcases lis_ex a n with h | ⟨e, e0, e1, e2⟩
  · rw [h]; exact (lis_bd b hmn).1
  · have g := lis_ge (chE_map hm (fun i i0 i1 => (h0 i i0 i1).1) hb _ e e2 e1) (h0 e e0 e1).2
    omega
theorem lbI_st (a r : Int → Int) {n k e : Int} (hk : k ≤ e) (hn : e < n) : lbI a r n k e = lbI a r n e e := by
  refine loop_dn (F := fun i => lbI a r n i e = lbI a r n e e → lbI a r n k e = lbI a r n e e) (a := k) (b := e) hk (fun g => g) (fun i h0 h1 K g => K ?_) rfl
  rw [lbI_s a r (show i - 1 < n by omega), s1_n _ _ (by omega), show i - 1 + 1 = i by omega]
  exact g
theorem lbI_at (a r : Int → Int) {n e : Int} (h0 : 0 ≤ e) (h1 : e < n) : lbI a r n 0 e = 1 + mx (fun f => if a (e + 1 + f) ≥ a e then lbI a r n 0 (e + 1 + f) else 0) (n - (e + 1)) := by
  rw [lbI_st a r h0 h1, lbI_s a r h1, s1_s]
  congr 1
  exact mx_cong (fun f f0 f1 => by
    rw [lbI_st a r (k := 0) (e := e + 1 + f) (by omega) (by omega), lbI_st a r (k := e + 1) (e := e + 1 + f) (by omega) (by omega)])
theorem lbI_lt (a r : Int → Int) {n e f : Int} (h0 : 0 ≤ e) (h1 : e < f) (h2 : f < n) (ha : a e ≤ a f) : 1 + lbI a r n 0 f ≤ lbI a r n 0 e := by
  rw [lbI_at a r h0 (by omega)]
  have g := mx_ge (fun g => if a (e + 1 + g) ≥ a e then lbI a r n 0 (e + 1 + g) else 0) (n := n - (e + 1)) (k := f - (e + 1)) (by omega) (by omega)
  rw [show e + 1 + (f - (e + 1)) = f by omega, if_pos ha] at g
  omega
theorem ins_ch {a : Int → Int} {p n1 x A F : Int} (r : Int → Int) (hp : 0 ≤ p) (hp2 : p ≤ n1) (hA : ∀ (l : Nat) (e : Int), e < p → chE a l e → a e ≤ x → (l : Int) ≤ A) (hA0 : 0 ≤ A) (hF : ∀ f, p ≤ f → f < n1 → x ≤ a f → lbI a r n1 0 f ≤ F) (hF0 : 0 ≤ F) : ∀ (l : Nat) (e : Int), chE (insR a p n1 x) l e → e ≤ n1 → (e < p → chE a l e) ∧ (e = p → (l : Int) ≤ A + 1) ∧ (p < e → chE a l (e - 1) ∨ (l : Int) + lbI a r n1 0 (e - 1) - 1 ≤ A + 1 + F)
  | 0, e, h, _ => h.elim
  | l + 1, e, h, he => by
    have h0 := h.1
    rcases h.2 with hl | ⟨f, f1, f2, f3⟩
    · subst hl
      exact ⟨fun _ => chE_1 a h0, fun _ => by omega, fun c => Or.inl (chE_1 a (by omega))⟩
    · have ff := (chE_0 f3).1
      have ih := ins_ch r hp hp2 hA hA0 hF hF0 l f f3 (by omega)
      rw [insR_at, insR_at] at f2
      refine ⟨fun c => ?_, fun c => ?_, fun c => ?_⟩
      · rw [if_neg (by omega), if_neg (by omega), if_neg (by omega), if_neg (by omega)] at f2
        exact chE_s (ih.1 (by omega)) f1 f2 h0
      · rw [if_neg (by omega), if_neg (by omega), if_pos c] at f2
        have := hA l f (by omega) (ih.1 (by omega)) f2
        omega
      · rw [if_neg (show ¬ e = p by omega), if_pos (show p < e ∧ e ≤ n1 by omega)] at f2
        rcases (by omega : f < p ∨ f = p ∨ p < f) with g | g | g
        · rw [if_neg (by omega), if_neg (by omega)] at f2
          exact Or.inl (chE_s (ih.1 g) (by omega) f2 (by omega))
        · rw [if_pos g] at f2
          have g1 := ih.2.1 g
          have g2 := hF (e - 1) (by omega) (by omega) f2
          exact Or.inr (by omega)
        · rw [if_neg (by omega), if_pos (by omega)] at f2
          rcases ih.2.2 g with g1 | g1
          · exact Or.inl (chE_s g1 (by omega) f2 (by omega))
          · have g2 := lbI_lt a r (n := n1) (e := f - 1) (f := e - 1) (by omega) (by omega) (by omega) f2
            exact Or.inr (by omega)
theorem ins_suf {a : Int → Int} {p n1 x : Int} (r : Int → Int) (hp : 0 ≤ p) : ∀ (m : Nat) (f : Int), p ≤ f → f < n1 → n1 - f ≤ m → ∀ (l : Nat) (e : Int), chE (insR a p n1 x) l e → e ≤ f → insR a p n1 x e ≤ a f → (l : Int) + lbI a r n1 0 f ≤ lis (insR a p n1 x) (n1 + 1)
  | 0, f, _, h1, h2, _, _, _, _, _ => absurd h2 (by omega)
  | m + 1, f, h0, h1, h2, l, e, hc, he, hb => by
    have hf1 : insR a p n1 x (f + 1) = a f := by rw [insR_at, if_neg (by omega), if_pos (by omega), show f + 1 - 1 = f by omega]
    have hc1 : chE (insR a p n1 x) (l + 1) (f + 1) := chE_s hc (by omega) (by rw [hf1]; exact hb) (by omega)
    have hg := lis_ge hc1 (n := n1 + 1) (by omega)
    rw [lbI_at a r (by omega) h1]
    rcases mx_at (fun g => if a (f + 1 + g) ≥ a f then lbI a r n1 0 (f + 1 + g) else 0) (n1 - (f + 1)) with h | ⟨g, g0, g1, g2⟩
    · rw [h]; omega
    · by_cases c : a (f + 1 + g) ≥ a f
      · rw [if_pos c] at g2
        have ih := ins_suf r hp m (f + 1 + g) (by omega) (by omega) (by omega) (l + 1) (f + 1) hc1 (by omega) (by rw [hf1]; exact c)
        rw [← g2]
        omega
      · rw [if_neg c] at g2
        rw [← g2]
        omega
/-- the longest row behind a sheet put in -/
theorem ins_lis {a : Int → Int} {p n1 x : Int} (r r' : Int → Int) (hp : 0 ≤ p) (hp2 : p ≤ n1) :
    (lis (insR a p n1 x) (n1 + 1) ≤ lis a n1 ∨ lis (insR a p n1 x) (n1 + 1) ≤ mx (fun e => if a e ≤ x then leI a r n1 e else 0) p + 1 + mx (fun e => if a (p + e) ≥ x then lbI a r' n1 0 (p + e) else 0) (n1 - p)) ∧
    mx (fun e => if a e ≤ x then leI a r n1 e else 0) p + 1 + mx (fun e => if a (p + e) ≥ x then lbI a r' n1 0 (p + e) else 0) (n1 - p) ≤ lis (insR a p n1 x) (n1 + 1) := by
  refine ⟨?_, ?_⟩
  · rcases lis_ex (insR a p n1 x) (n1 + 1) with h | ⟨e, e0, e1, e2⟩
    · rw [h]; exact Or.inl (lis_bd a (by omega)).1
    · have hm1 := mx_nn (fun e => if a e ≤ x then leI a r n1 e else 0) p
      have hm2 := mx_nn (fun e => if a (p + e) ≥ x then lbI a r' n1 0 (p + e) else 0) (n1 - p)
      have k := ins_ch (A := mx (fun e => if a e ≤ x then leI a r n1 e else 0) p) (F := mx (fun e => if a (p + e) ≥ x then lbI a r' n1 0 (p + e) else 0) (n1 - p)) r' hp hp2
        (fun l e e1 hc ha => by
          have g := chE_le r (n := n1) l e hc (by omega)
          have g2 := mx_ge (fun e => if a e ≤ x then leI a r n1 e else 0) (chE_0 hc).1 e1
          rw [if_pos ha] at g2
          omega) hm1
        (fun f f0 f1 ha => by
          have g2 := mx_ge (fun e => if a (p + e) ≥ x then lbI a r' n1 0 (p + e) else 0) (n := n1 - p) (k := f - p) (by omega) (by omega)
          rw [show p + (f - p) = f by omega, if_pos ha] at g2
          exact g2) hm2 _ e e2 (by omega)
      have hl := (lis_bd (insR a p n1 x) (show 0 ≤ n1 + 1 by omega)).1
      rcases (by omega : e < p ∨ e = p ∨ p < e) with c | c | c
      · have g := lis_ge (k.1 c) (n := n1) (by omega)
        exact Or.inl (by omega)
      · have g := k.2.1 c
        exact Or.inr (by omega)
      · rcases k.2.2 c with g | g
        · have g2 := lis_ge g (n := n1) (by omega)
          exact Or.inl (by omega)
        · have g2 := (lbI_bd a r' (n := n1) (i := 0) (by omega) (by omega) (e - 1) (by omega) (by omega)).1
          exact Or.inr (by omega)
  · have hpp : insR a p n1 x p = x := by rw [insR_at, if_pos rfl]
    have hA : ∃ l : Nat, (l : Int) = mx (fun e => if a e ≤ x then leI a r n1 e else 0) p + 1 ∧ chE (insR a p n1 x) l p := by
      rcases mx_at (fun e => if a e ≤ x then leI a r n1 e else 0) p with h | ⟨e, e0, e1, e2⟩
      · exact ⟨1, by rw [h]; rfl, chE_1 _ hp⟩
      · by_cases c : a e ≤ x
        · rw [if_pos c] at e2
          have g := chE_ex a r (n := n1) (e.toNat + 1) e e0 (by omega) (by omega)
          have gb := (leI_bd a r (show 0 ≤ n1 by omega) e e0 (by omega)).1
          have g2 := chE_map (b := insR a p n1 x) (φ := fun i => i) (n := p) (fun i j _ h _ => h) (fun i i0 _ => i0) (fun i i0 i1 => by rw [insR_at, if_neg (by omega), if_neg (by omega)]) _ e g e1
          refine ⟨(leI a r n1 e).toNat + 1, by omega, chE_s g2 e1 ?_ hp⟩
          rw [hpp, insR_at, if_neg (by omega), if_neg (by omega)]
          exact c
        · rw [if_neg c] at e2
          exact ⟨1, by rw [← e2]; rfl, chE_1 _ hp⟩
    obtain ⟨l, hl, hc⟩ := hA
    rcases mx_at (fun e => if a (p + e) ≥ x then lbI a r' n1 0 (p + e) else 0) (n1 - p) with h | ⟨g, g0, g1, g2⟩
    · rw [h]
      have := lis_ge hc (n := n1 + 1) (by omega)
      omega
    · by_cases c : a (p + g) ≥ x
      · rw [if_pos c] at g2
        have k := ins_suf (x := x) r' hp (n1 - (p + g)).toNat (p + g) (by omega) (by omega) (by omega) l p hc (by omega) (by rw [hpp]; exact c)
        rw [← g2]
        omega
      · rw [if_neg c] at g2
        rw [← g2]
        have := lis_ge hc (n := n1 + 1) (by omega)
        omega
