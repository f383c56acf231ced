/-! a sheet taken out and put in again: the longest row, and the first place that makes it longer -/
theorem chE_suf {a : Int → Int} {n : Int} (r : Int → Int) : ∀ (m : Nat) (f : Int), f < n → n - f ≤ m → ∀ (l : Nat), chE a l f → (l : Int) - 1 + lbI a r n 0 f ≤ lis a n
  | 0, f, h1, h2, _, _ => absurd h2 (by omega)
  | m + 1, f, h1, h2, l, hc => by
    have h0 := (chE_0 hc).1
    have hg := lis_ge hc h1
    rw [lbI_at a r h0 h1]
    rcases mx_at (fun g => if a (f + 1 + g) ≥ a f then lbI a r n 0 (f + 1 + g) else 0) (n - (f + 1)) with h | ⟨g, g0, g1, g2⟩
    · rw [h]; omega
    · by_cases c : a (f + 1 + g) ≥ a f
      · rw [if_pos c] at g2
        have ih := chE_suf (n := n) r m (f + 1 + g) (by omega) (by omega) (l + 1) (chE_s hc (by omega) c (by omega))
        rw [← g2]
        omega
      · rw [if_neg c] at g2
        rw [← g2]
        omega
theorem mx_sum {a : Int → Int} {p n1 x : Int} (r r' : Int → Int) (hp : 0 ≤ p) (hp2 : p ≤ n1) : mx (fun e => if a e ≤ x then leI a r n1 e else 0) p + mx (fun e => if a (p + e) ≥ x then lbI a r' n1 0 (p + e) else 0) (n1 - p) ≤ lis a n1 := by
  have hb := (lis_bd a (show 0 ≤ n1 by omega)).1
  have hA : mx (fun e => if a e ≤ x then leI a r n1 e else 0) p = 0 ∨ ∃ e, (0 ≤ e ∧ e < p) ∧ a e ≤ x ∧ leI a r n1 e = mx (fun e => if a e ≤ x then leI a r n1 e else 0) p := by
    rcases mx_at (fun e => if a e ≤ x then leI a r n1 e else 0) p with h | ⟨e, e0, e1, e2⟩
    · exact Or.inl h
    · by_cases c : a e ≤ x
      · rw [if_pos c] at e2; exact Or.inr ⟨e, ⟨e0, e1⟩, c, e2⟩
      · rw [if_neg c] at e2; exact Or.inl e2.symm
  have hF : mx (fun e => if a (p + e) ≥ x then lbI a r' n1 0 (p + e) else 0) (n1 - p) = 0 ∨ ∃ f, (p ≤ f ∧ f < n1) ∧ x ≤ a f ∧ lbI a r' n1 0 f = mx (fun e => if a (p + e) ≥ x then lbI a r' n1 0 (p + e) else 0) (n1 - p) := by
    rcases mx_at (fun e => if a (p + e) ≥ x then lbI a r' n1 0 (p + e) else 0) (n1 - p) with h | ⟨e, e0, e1, e2⟩
    · exact Or.inl h
    · by_cases c : a (p + e) ≥ x
      · rw [if_pos c] at e2; exact Or.inr ⟨p + e, ⟨by omega, by omega⟩, c, e2⟩
      · rw [if_neg c] at e2; exact Or.inl e2.symm
  generalize mx (fun e => if a e ≤ x then leI a r n1 e else 0) p = A at hA ⊢
  generalize mx (fun e => if a (p + e) ≥ x then lbI a r' n1 0 (p + e) else 0) (n1 - p) = F at hF ⊢
  rcases hA with h | ⟨e, ⟨e0, e1⟩, e2, e3⟩
  · rcases hF with g | ⟨f, ⟨f0, f1⟩, f2, f3⟩
    · omega
    · have := chE_suf (n := n1) r' (n1 - f).toNat f f1 (by omega) 1 (chE_1 a (by omega))
      omega
  · have hc := chE_ex a r (n := n1) (e.toNat + 1) e e0 (by omega) (by omega)
    have hb2 := (leI_bd a r (show 0 ≤ n1 by omega) e e0 (by omega)).1
    rcases hF with g | ⟨f, ⟨f0, f1⟩, f2, f3⟩
    · have := lis_ge hc (n := n1) (by omega)
      omega
    · have hc2 := chE_s hc (show e < f by omega) (show a e ≤ a f by omega) (show 0 ≤ f by omega)
      have := chE_suf (n := n1) r' (n1 - f).toNat f f1 (by omega) _ hc2
      omega
theorem ins_iff {a : Int → Int} {p n1 x L : Int} (r r' : Int → Int) (hp : 0 ≤ p) (hp2 : p ≤ n1) (hL : lis a n1 ≤ L) : (L + 1 ≤ mx (fun e => if a e ≤ x then leI a r n1 e else 0) p + 1 + mx (fun e => if a (p + e) ≥ x then lbI a r' n1 0 (p + e) else 0) (n1 - p)) ↔ lis (insR a p n1 x) (n1 + 1) = L + 1 := by
  have h1 := ins_lis (a := a) (x := x) r r' hp hp2
  have h2 := mx_sum (a := a) (x := x) r r' hp hp2
  generalize mx (fun e => if a e ≤ x then leI a r n1 e else 0) p = A at h1 h2 ⊢
  generalize mx (fun e => if a (p + e) ≥ x then lbI a r' n1 0 (p + e) else 0) (n1 - p) = F at h1 h2 ⊢
  constructor <;> intro h <;> omega
theorem fs_seg {P Q : Int → Prop} [DecidablePred P] [DecidablePred Q] {n c N : Int} (hn : 0 ≤ n) (hN : c + n ≤ N) (h : ∀ i, 0 ≤ i → i < n → (P i ↔ Q (c + i))) : (fs P 0 n = -1 → fs Q c N = fs Q (c + n) N) ∧ (fs P 0 n ≠ -1 → fs Q c N = c + fs P 0 n) := by
  have key : ∀ t, 0 ≤ t → t ≤ n → (∀ k, 0 ≤ k → k < t → ¬ P k) → fs Q c N = fs Q (c + t) N := by
    intro t t0 t1 hk
    refine loop_up (F := fun i => fs Q c N = fs Q (c + i) N → fs Q c N = fs Q (c + t) N) (a := 0) (b := t) t0 (fun g => g) (fun i i0 i1 K g => K ?_) (by rw [Int.add_zero])
    refine g.trans ?_
    rw [fs_f Q (i := c + i) (n := N) (by omega) (fun z => hk i i0 i1 ((h i i0 (by omega)).mpr z)), show c + i + 1 = c + (i + 1) by omega]
  rcases fs_r P 0 n with ⟨g1, g2⟩ | ⟨g1, g2, g3, g4⟩
  · exact ⟨fun _ => key n hn (Int.le_refl n) g2, fun z => absurd g1 z⟩
  · refine ⟨fun z => absurd z (by omega), fun _ => ?_⟩
    rw [key _ g1 (by omega) g4, fs_t Q (by omega) ((h _ g1 g2).mp g3)]
theorem lis_c {a a' : Int → Int} {n : Int} (hn : 0 ≤ n) (h : ∀ i, 0 ≤ i → i < n → a i = a' i) : lis a n = lis a' n := lis_e (r0 := fun _ => 0) hn h
theorem lis_wN {w : Int → Int} {p : Int} (hp : 0 ≤ p) (hp2 : p < w 3) : lis (wN w p) (w 3 - 1) ≤ lis (vN w) (w 3) := by
  refine lis_map (φ := fun i => if i < p then i else i + 1) (fun i j i0 i1 i2 => ?_) (fun i i0 i1 => ?_) (fun i i0 i1 => ?_) (by omega)
  · show (if i < p then i else i + 1) < (if j < p then j else j + 1)
    split <;> split <;> omega
  · show 0 ≤ (if i < p then i else i + 1) ∧ (if i < p then i else i + 1) < w 3
    split <;> omega
  · show w (70 + (if i < p then i else i + 1)) = wN w p i
    unfold wN
    by_cases c : i < p
    · rw [if_pos c, if_neg (by omega)]
    · rw [if_neg c, if_pos (by omega)]
theorem dm_row {n p i : Int} (hn : 1 ≤ n) (hn2 : n ≤ 20) (h0 : 0 ≤ i) (h1 : i < n) : (p * n + i) / n = p ∧ (p * n + i) % n = i := by
  rcases (by omega : n = 1 ∨ n = 2 ∨ n = 3 ∨ n = 4 ∨ n = 5 ∨ n = 6 ∨ n = 7 ∨ n = 8 ∨ n = 9 ∨ n = 10 ∨ n = 11 ∨ n = 12 ∨ n = 13 ∨ n = 14 ∨ n = 15 ∨ n = 16 ∨ n = 17 ∨ n = 18 ∨ n = 19 ∨ n = 20) with e | e | e | e | e | e | e | e | e | e | e | e | e | e | e | e | e | e | e | e <;> subst e <;> omega
theorem sq_row {n p : Int} (hp : 0 ≤ p) (hp2 : p < n) : (0 ≤ p * n ∧ p * n + n ≤ n * n) ∧ (p + 1) * n = p * n + n := by
  have h1 : (p + 1) * n = p * n + n := by rw [Int.add_mul, Int.one_mul]
  have h2 : (p + 1) * n ≤ n * n := Int.mul_le_mul_of_nonneg_right (by omega) (by omega)
  have h3 : 0 ≤ p * n := Int.mul_nonneg hp (by omega)
  omega
abbrev nmC (w a r r' : Int → Int) (p t : Int) : Prop := lis (vN w) (w 3) + 1 ≤ mx (fun e => if a e ≤ w (70 + p) then leI a r (w 3 - 1) e else 0) t + 1 + mx (fun e => if a (t + e) ≥ w (70 + p) then lbI a r' (w 3 - 1) 0 (t + e) else 0) (w 3 - 1 - t)
theorem nm_row {w a : Int → Int} {p : Int} (r r' : Int → Int) (h20 : w 3 ≤ 20) (hp : 0 ≤ p) (hp2 : p < w 3) (ha : ∀ i, 0 ≤ i → i < w 3 - 1 → a i = wN w p i) (hl : lis (vN w) (w 3) < w 3) :
    (fs (fun t => nmC w a r r' p t) 0 (w 3 - 1 + 1) = -1 → fs (fun k => nmP w k) (p * w 3) (w 3 * w 3) = fs (fun k => nmP w k) ((p + 1) * w 3) (w 3 * w 3)) ∧
    (fs (fun t => nmC w a r r' p t) 0 (w 3 - 1 + 1) ≠ -1 → fs (fun k => nmP w k) (p * w 3) (w 3 * w 3) = p * w 3 + fs (fun t => nmC w a r r' p t) 0 (w 3 - 1 + 1)) := by
  obtain ⟨⟨s1', s2'⟩, s3'⟩ := sq_row hp hp2
  have e1 : w 3 - 1 + 1 = w 3 := by omega
  have hle := lis_wN hp hp2
  have hla : lis a (w 3 - 1) ≤ lis (vN w) (w 3) := by rw [lis_c (show 0 ≤ w 3 - 1 by omega) ha]; exact hle
  have key := fs_seg (P := fun t => nmC w a r r' p t) (Q := fun k => nmP w k) (n := w 3) (c := p * w 3) (N := w 3 * w 3) (by omega) (by omega) (fun i i0 i1 => by
    have d := dm_row (n := w 3) (p := p) (i := i) (by omega) h20 i0 i1
    have hi := ins_iff (a := a) (x := w (70 + p)) r r' i0 (show i ≤ w 3 - 1 by omega) hla
    have hc : lis (insR a i (w 3 - 1) (w (70 + p))) (w 3 - 1 + 1) = lis (bhN w p i) (w 3) := by
      rw [e1]
      refine lis_c (by omega) (fun j j0 j1 => ?_)
      unfold bhN
      rw [insR_at, insR_at]
      by_cases c1 : j = i
      · rw [if_pos c1, if_pos c1]
      · rw [if_neg c1, if_neg c1]
        by_cases c2 : i < j ∧ j ≤ w 3 - 1
        · rw [if_pos c2, if_pos c2]; exact ha (j - 1) (by omega) (by omega)
        · rw [if_neg c2, if_neg c2]; exact ha j j0 (by omega)
    rw [hc] at hi
    show nmC w a r r' p i ↔ nmP w (p * w 3 + i)
    refine hi.trans ?_
    show _ ↔ (0 < w 3 - lis (vN w) (w 3) ∧ w 3 - lis (bhN w ((p * w 3 + i) / w 3) ((p * w 3 + i) % w 3)) (w 3) = w 3 - lis (vN w) (w 3) - 1)
    rw [d.1, d.2]
    constructor
    · intro h; exact ⟨by omega, by omega⟩
    · intro h; have := h.2; omega)
  rw [e1, s3']
  exact key
theorem nmT_no {w : Int → Int} (h : fs (fun k => nmP w k) 0 (w 3 * w 3) = -1) : nmT w = -1 := by unfold nmT; rw [if_pos h]
theorem nmT_at {w : Int → Int} {p t : Int} (h20 : w 3 ≤ 20) (hp : 0 ≤ p) (hp2 : p < w 3) (ht : 0 ≤ t) (ht2 : t < w 3) (h : fs (fun k => nmP w k) 0 (w 3 * w 3) = p * w 3 + t) : nmT w = 20 * p + t := by
  have d := dm_row (n := w 3) (p := p) (i := t) (by omega) h20 ht ht2
  have hs := (sq_row hp hp2).1
  unfold nmT
  rw [h, d.1, d.2, if_neg (by omega)]
theorem nmT_full {w : Int → Int} (h : w 3 ≤ lis (vN w) (w 3)) : nmT w = -1 := by
  refine nmT_no ?_
  rcases fs_r (fun k => nmP w k) 0 (w 3 * w 3) with ⟨g, -⟩ | ⟨-, -, g, -⟩
  · exact g
  · have := g.1; omega
