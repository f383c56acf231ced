theorem MU_w {q : Nat} {μ ν : Mem} (f g : Int → Int) (h : MU q μ ν) : MU q μ (wr (wr ν (q + 3) f) (q + 4) g) := by
  refine MU_tr h ⟨⟨?_, ?_, ⟨?_, ?_, ?_, ?_⟩, fun r hr => ?_⟩, ?_⟩ <;> rw [wr_n _ _ (by omega), wr_n _ _ (by omega)]
theorem MU_3 {q : Nat} {μ ν : Mem} (f : Int → Int) (h : MU q μ ν) : MU q μ (wr ν (q + 3) f) := by
  refine MU_tr h ⟨⟨?_, ?_, ⟨?_, ?_, ?_, ?_⟩, fun r hr => ?_⟩, ?_⟩ <;> rw [wr_n _ _ (by omega)]
theorem MU_12 {q : Nat} {μ ν : Mem} (x : Int) (h : MU q μ ν) : MU q μ (wr ν q (s1 (ν q) 12 x)) := by
  refine MU_tr h ⟨⟨?_, ?_, ⟨?_, ?_, ?_, ?_⟩, fun r hr => ?_⟩, ?_⟩
  · rw [wr_n _ _ (by omega)]
  · rw [wr_n _ _ (by omega)]
  · rw [wr_s, s1_n _ _ (by omega)]
  · rw [wr_s, s1_n _ _ (by omega)]
  · rw [wr_s, s1_n _ _ (by omega)]
  · rw [wr_s, s1_n _ _ (by omega)]
  · rw [wr_n _ _ (by omega)]
  · rw [wr_s, s1_n _ _ (by omega)]
/-- the row behind a move, as the reference lays it out -/
def fbM (μ : Mem) (q : Nat) (p i : Int) : Mem := wr (lay μ q p (μ (q + 1) 3)) (q + 3) (shU (lay μ q p (μ (q + 1) 3) (q + 3)) i (μ (q + 1) 3 - 1))
def fbE (μ : Mem) (q : Nat) (p r : Int) : Mem := wr (wr (lay μ q p (μ (q + 1) 3)) (q + 3) (insR (lay μ q p (μ (q + 1) 3) (q + 3)) r (μ (q + 1) 3 - 1) (μ (q + 1) (70 + p)))) q (s1 (lay μ q p (μ (q + 1) 3) q) 12 (μ (q + 1) 3))
theorem fbE_3 (μ : Mem) (q : Nat) (p r : Int) : fbE μ q p r (q + 3) = insR (lay μ q p (μ (q + 1) 3) (q + 3)) r (μ (q + 1) 3 - 1) (μ (q + 1) (70 + p)) := by unfold fbE; rw [wr_n _ _ (by omega), wr_s]
theorem fbE_q (μ : Mem) (q : Nat) (p r : Int) : fbE μ q p r q 12 = μ (q + 1) 3 := by unfold fbE; rw [wr_s, s1_s]
theorem fbE_U (μ : Mem) (q : Nat) (p r : Int) : MU q μ (fbE μ q p r) := by
  have h := MU_12 (μ (q + 1) 3) (MU_3 (insR (lay μ q p (μ (q + 1) 3) (q + 3)) r (μ (q + 1) 3 - 1) (μ (q + 1) (70 + p))) (MU_lay μ q p (μ (q + 1) 3)))
  rw [wr_n _ _ (show q ≠ q + 3 by omega)] at h
  exact h
theorem fbE_N {μ : Mem} {q : Nat} {p r : Int} (hp : 0 ≤ p) (hp2 : p < μ (q + 1) 3) (hr : 0 ≤ r) (hr2 : r < μ (q + 1) 3) : ∀ i, 0 ≤ i → i < μ (q + 1) 3 → fbE μ q p r (q + 3) i = bhN (μ (q + 1)) p r i := fun i h0 h1 => by
  have hl : lc p (μ (q + 1) 3) = μ (q + 1) 3 - 1 := lc_in hp hp2
  rw [fbE_3]
  unfold bhN
  rw [insR_at, insR_at]
  by_cases c : i = r
  · rw [if_pos c, if_pos c]
  · rw [if_neg c, if_neg c]
    by_cases c2 : r < i ∧ i ≤ μ (q + 1) 3 - 1
    · rw [if_pos c2, if_pos c2]
      exact lay_wN _ (by omega) (by omega)
    · rw [if_neg c2, if_neg c2]
      exact lay_wN _ h0 (by omega)
theorem bhN_bd {K : Int} {v : Int → Int} (hv : veW K v) {p r : Int} (hp : 0 ≤ p) (hp2 : p < v 3) (hr : 0 ≤ r) (hr2 : r < v 3) : ∀ i, 0 ≤ i → i < v 3 → 0 ≤ bhN v p r i ∧ bhN v p r i < 16 := fun i h0 h1 => by
  obtain ⟨v0, v1, v2, v3, v4, v5, v6, v7, v8, v9, v10⟩ := hv
  unfold bhN
  rw [insR_at]
  have hw : ∀ j, 0 ≤ j → j < v 3 - 1 → 0 ≤ wN v p j ∧ wN v p j < 16 := fun j j0 j1 => by
    unfold wN
    by_cases c : 0 ≤ p ∧ p ≤ j
    · rw [if_pos c]; exact v9 (j + 1) (by omega) (by omega)
    · rw [if_neg c]; exact v9 j j0 (by omega)
  by_cases c : i = r
  · rw [if_pos c]; exact v9 p hp hp2
  · rw [if_neg c]
    by_cases c2 : r < i ∧ i ≤ v 3 - 1
    · rw [if_pos c2]; exact hw _ (by omega) (by omega)
    · rw [if_neg c2]; exact hw _ h0 (by omega)
/-- what is laid out, of numbers only -/
def LaR (μ : Mem) (q : Nat) : Prop := 0 ≤ μ q 12 ∧ μ q 12 ≤ 21 ∧ ∀ i, 0 ≤ i → i < μ q 12 → 0 ≤ μ (q + 3) i ∧ μ (q + 3) i < 16
theorem fbE_L {K : Int} {μ : Mem} {q : Nat} {p r : Int} (hv : veW K (μ (q + 1))) (hp : 0 ≤ p) (hp2 : p < μ (q + 1) 3) (hr : 0 ≤ r) (hr2 : r < μ (q + 1) 3) : LaR (fbE μ q p r) q := by
  have hv2 := hv
  obtain ⟨v0, v1, v2, v3, v4, v5, v6, v7, v8, v9, v10⟩ := hv2
  unfold LaR
  rw [fbE_q]
  exact ⟨v4.1, by omega, fun i h0 h1 => by rw [fbE_N hp hp2 hr hr2 i h0 h1]; exact bhN_bd hv hp hp2 hr hr2 i h0 h1⟩
theorem nmT_of {v : Int → Int} {k : Int} (h : fs (fun k => nmP v k) 0 (v 3 * v 3) = k) : nmT v = if k = -1 then -1 else 20 * (k / v 3) + k % v 3 := by
  unfold nmT
  rw [h]
/-- the block with one sheet behind, as the reference lays it out to see what fits -/
def fiM (μ : Mem) (q : Nat) (f g : Int → Int) : Mem := wr (wr (wr (lay μ q (-1) (μ (q + 1) 3)) q (s1 (lay μ q (-1) (μ (q + 1) 3) q) 12 (μ (q + 1) 3 + 1))) (q + 3) f) (q + 4) g
theorem fiM_q (μ : Mem) (q : Nat) (f g : Int → Int) : fiM μ q f g q 12 = μ (q + 1) 3 + 1 := by unfold fiM; rw [wr_n _ _ (by omega), wr_n _ _ (by omega), wr_s, s1_s]
theorem fiM_1 (μ : Mem) (q : Nat) (f g : Int → Int) : fiM μ q f g (q + 1) = μ (q + 1) := by unfold fiM; rw [wr_n _ _ (by omega), wr_n _ _ (by omega), wr_n _ _ (by omega), lay_1]
theorem fiM_3 (μ : Mem) (q : Nat) (f g : Int → Int) : fiM μ q f g (q + 3) = f := by unfold fiM; rw [wr_n _ _ (by omega), wr_s]
theorem fiM_4 (μ : Mem) (q : Nat) (f g : Int → Int) : fiM μ q f g (q + 4) = g := by unfold fiM; rw [wr_s]
theorem fiM_U (μ : Mem) (q : Nat) (f g : Int → Int) : MU q μ (fiM μ q f g) := MU_w f g (MU_12 _ (MU_lay μ q (-1) (μ (q + 1) 3)))
theorem fiM_w (μ : Mem) (q : Nat) (f g f' g' : Int → Int) : wr (wr (fiM μ q f g) (q + 3) f') (q + 4) g' = fiM μ q f' g' := by
  unfold fiM
  rw [wr_cm _ g f' (show q + 4 ≠ q + 3 by omega), wr_ww, wr_ww]
theorem fiM_b (μ : Mem) (q : Nat) : wr (lay μ q (-1) (μ (q + 1) 3)) q (s1 (lay μ q (-1) (μ (q + 1) 3) q) 12 (μ (q + 1) 3 + 1)) = fiM μ q (lay μ q (-1) (μ (q + 1) 3) (q + 3)) (lay μ q (-1) (μ (q + 1) 3) (q + 4)) := by
  unfold fiM
  funext r
  by_cases c3 : r = q + 4
  · rw [c3, wr_s, wr_n _ _ (by omega)]
  · rw [wr_n _ _ c3]
    by_cases c4 : r = q + 3
    · rw [c4, wr_s, wr_n _ _ (by omega)]
    · rw [wr_n _ _ c4]
/-- the row of the block, whatever stands behind it -/
def okR (μ : Mem) (q : Nat) (f g : Int → Int) : Prop := (∀ i, 0 ≤ i → i < μ (q + 1) 3 → f i = μ (q + 1) (70 + i)) ∧ ∀ i, 0 ≤ i → i < μ (q + 1) 3 → g i = μ (q + 1) (90 + i)
theorem okR_s {μ : Mem} {q : Nat} {f g : Int → Int} (h : okR μ q f g) (x y : Int) : okR μ q (s1 f (μ (q + 1) 3) x) (s1 g (μ (q + 1) 3) y) :=
  ⟨fun i h0 h1 => by rw [s1_n _ _ (by omega)]; exact h.1 i h0 h1, fun i h0 h1 => by rw [s1_n _ _ (by omega)]; exact h.2 i h0 h1⟩
theorem fiM_L {K : Int} {μ : Mem} {q : Nat} {f g : Int → Int} (hv : veW K (μ (q + 1))) (h : okR μ q f g) {x : Int} (hx : 0 ≤ x ∧ x < 16) : LaW (fiM μ q (s1 f (μ (q + 1) 3) x) (s1 g (μ (q + 1) 3) 0)) q := by
  obtain ⟨v0, v1, v2, v3, v4, v5, v6, v7, v8, v9, v10⟩ := hv
  unfold LaW
  rw [fiM_q, fiM_3, fiM_4]
  refine ⟨by omega, by omega, fun i h0 h1 => ?_, fun i h0 h1 => ?_⟩
  · by_cases c : i = μ (q + 1) 3
    · rw [c, s1_s]; exact hx
    · rw [s1_n _ _ c, h.1 i h0 (by omega)]; exact v9 i h0 (by omega)
  · by_cases c : i = μ (q + 1) 3
    · rw [c, s1_s]; exact Or.inl rfl
    · rw [s1_n _ _ c, h.2 i h0 (by omega)]; exact v10 i h0 (by omega)
theorem fi_brk {μ : Mem} {q : Nat} {f g : Int → Int} (h : okR μ q f g) (hn : 0 ≤ μ (q + 1) 3) (x : Int) : brk (μ (q + 1) 1) (s1 f (μ (q + 1) 3) x) (s1 g (μ (q + 1) 3) 0) (μ (q + 1) 3) ↔ ¬ x % μ (q + 1) 1 = due (μ (q + 1) 1) (vN (μ (q + 1))) (vD (μ (q + 1))) (μ (q + 1) 3) := by
  have e := due_cong (st := μ (q + 1) 1) (a := s1 f (μ (q + 1) 3) x) (a' := vN (μ (q + 1))) (d := s1 g (μ (q + 1) 3) 0) (d' := vD (μ (q + 1))) (okR_s h x 0).1 (okR_s h x 0).2 hn (Int.le_refl _)
  unfold brk
  rw [e, s1_s, s1_s]
  unfold mk
  rw [if_pos rfl]
