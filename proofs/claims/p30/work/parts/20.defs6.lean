/-! the reference's object -/
def MoS (V : Wo) (q : Nat) : Prop := woB V ≤ q ∧ woS V q = some (.inl 5) ∧ woS V (q + 1) = some (.inr (0, 880)) ∧ woS V (q + 2) = some (.inr (0, 60)) ∧ woS V (q + 3) = some (.inr (0, 21)) ∧ woS V (q + 4) = some (.inr (0, 21)) ∧ woS V (q + 5) = some (.inr (0, 21))
/-- a vector of a state -/
def veW (K : Int) (v : Int → Int) : Prop := K ≤ 1000000 ∧ (1 ≤ v 0 ∧ v 0 ≤ 16) ∧ (2 ≤ v 1 ∧ v 1 ≤ 8) ∧ (1 ≤ v 2 ∧ v 2 ≤ 9) ∧ (0 ≤ v 3 ∧ v 3 ≤ 20) ∧ (0 ≤ v 4 ∧ v 4 ≤ K) ∧ (-1 ≤ v 5 ∧ v 5 ≤ 100) ∧ (∀ i, 0 ≤ i → i < 48 → 0 ≤ v (6 + i) ∧ v (6 + i) ≤ K) ∧ (∀ i, 0 ≤ i → i < 16 → 1 ≤ v (54 + i) ∧ v (54 + i) ≤ 31) ∧ (∀ i, 0 ≤ i → i < v 3 → 0 ≤ v (70 + i) ∧ v (70 + i) < 16) ∧ ∀ i, 0 ≤ i → i < v 3 → v (90 + i) = 0 ∨ v (90 + i) = 1
/-- what is laid out -/
def LaW (μ : Mem) (q : Nat) : Prop := 0 ≤ μ q 12 ∧ μ q 12 ≤ 21 ∧ (∀ i, 0 ≤ i → i < μ q 12 → 0 ≤ μ (q + 3) i ∧ μ (q + 3) i < 16) ∧ ∀ i, 0 ≤ i → i < μ q 12 → μ (q + 4) i = 0 ∨ μ (q + 4) i = 1
def lc (p k : Int) : Int := if 0 ≤ p ∧ p < k then k - 1 else k
def loR (r g : Int → Int) (p k : Int) : Int → Int := fun j => if 0 ≤ j ∧ j < lc p k then (if 0 ≤ p ∧ p ≤ j then g (j + 1) else g j) else r j
theorem loR_0 (r g : Int → Int) {p : Int} (h : -1 ≤ p) : loR r g p 0 = r := by
  funext j
  unfold loR lc
  rw [if_neg (show ¬ (0 ≤ p ∧ p < 0) by omega)]
  exact if_neg (by omega)
theorem lc_0 (p : Int) : lc p 0 = 0 := if_neg (by omega)
theorem lc_bd {p k : Int} (h : 0 ≤ k) : 0 ≤ lc p k ∧ lc p k ≤ k := by unfold lc; split <;> omega
theorem lc_s {p k : Int} (h : 0 ≤ k) (hp : k ≠ p) : lc p (k + 1) = lc p k + 1 := by unfold lc; split <;> split <;> omega
theorem lc_e {p k : Int} (h : 0 ≤ k) (hp : k = p) : lc p (k + 1) = lc p k := by unfold lc; split <;> split <;> omega
theorem loR_s (r g : Int → Int) {p k : Int} (h : 0 ≤ k) (hp : k ≠ p) : s1 (loR r g p k) (lc p k) (g k) = loR r g p (k + 1) := by
  funext j
  have hb := lc_bd (p := p) h
  have hs := lc_s h hp
  unfold s1
  by_cases h1 : j = lc p k
  · rw [if_pos h1]
    unfold loR
    rw [if_pos (by omega)]
    by_cases h2 : 0 ≤ p ∧ p ≤ j
    · rw [if_pos h2]
      have : lc p k = k - 1 := by
        unfold lc at h1 hb ⊢
        split at h1 <;> rename_i hc
        · rw [if_pos hc]
        · rw [if_neg hc]; omega
      rw [h1, this, show k - 1 + 1 = k by omega]
    · rw [if_neg h2]
      have : lc p k = k := by
        unfold lc at h1 hb ⊢
        split at h1 <;> rename_i hc
        · exfalso; omega
        · rw [if_neg hc]
      rw [h1, this]
  · rw [if_neg h1]
    unfold loR
    by_cases h2 : 0 ≤ j ∧ j < lc p k
    · rw [if_pos h2, if_pos (show 0 ≤ j ∧ j < lc p (k + 1) by omega)]
    · rw [if_neg h2, if_neg (show ¬ (0 ≤ j ∧ j < lc p (k + 1)) by omega)]
theorem loR_e (r g : Int → Int) {p k : Int} (h : 0 ≤ k) (hp : k = p) : loR r g p (k + 1) = loR r g p k := by
  funext j
  unfold loR
  rw [lc_e h hp]
abbrev sN (μ : Mem) (q : Nat) : Int → Int := fun j => μ (q + 1) (70 + j)
abbrev sD (μ : Mem) (q : Nat) : Int → Int := fun j => μ (q + 1) (90 + j)
/-- the memory behind the laying out of k of the block's sheets but one -/
def lay (μ : Mem) (q : Nat) (p k : Int) : Mem := wr (wr (wr μ q (s1 (μ q) 12 (lc p k))) (q + 3) (loR (μ (q + 3)) (sN μ q) p k)) (q + 4) (loR (μ (q + 4)) (sD μ q) p k)
theorem lay_q (μ : Mem) (q : Nat) (p k : Int) : lay μ q p k q = s1 (μ q) 12 (lc p k) := by unfold lay; rw [wr_n _ _ (by omega), wr_n _ _ (by omega), wr_s]
theorem lay_1 (μ : Mem) (q : Nat) (p k : Int) : lay μ q p k (q + 1) = μ (q + 1) := by unfold lay; rw [wr_n _ _ (by omega), wr_n _ _ (by omega), wr_n _ _ (by omega)]
theorem lay_3 (μ : Mem) (q : Nat) (p k : Int) : lay μ q p k (q + 3) = loR (μ (q + 3)) (sN μ q) p k := by unfold lay; rw [wr_n _ _ (by omega), wr_s]
theorem lay_4 (μ : Mem) (q : Nat) (p k : Int) : lay μ q p k (q + 4) = loR (μ (q + 4)) (sD μ q) p k := by unfold lay; rw [wr_s]
theorem lay_o (μ : Mem) {q r : Nat} (p k : Int) (h : r ≠ q) (h3 : r ≠ q + 3) (h4 : r ≠ q + 4) : lay μ q p k r = μ r := by unfold lay; rw [wr_n _ _ h4, wr_n _ _ h3, wr_n _ _ h]
theorem lay_W {K : Int} {μ : Mem} {q : Nat} {p : Int} (hp : -1 ≤ p) (hv : veW K (μ (q + 1))) : LaW (lay μ q p (μ (q + 1) 3)) q ∧ lay μ q p (μ (q + 1) 3) q 12 ≤ 20 := by
  obtain ⟨v0, v1, v2, v3, v4, v5, v6, v7, v8, v9, v10⟩ := hv
  have hb := lc_bd (p := p) v4.1
  have e : lay μ q p (μ (q + 1) 3) q 12 = lc p (μ (q + 1) 3) := by rw [lay_q, s1_s]
  unfold LaW
  rw [e, lay_3, lay_4]
  refine ⟨⟨by omega, by omega, fun i h0 h1 => ?_, fun i h0 h1 => ?_⟩, by omega⟩
  · unfold loR
    rw [if_pos ⟨h0, h1⟩]
    have hlc : 0 ≤ p ∧ p ≤ i → i + 1 < μ (q + 1) 3 := by intro hc; unfold lc at h1; split at h1 <;> omega
    by_cases hc : 0 ≤ p ∧ p ≤ i
    · rw [if_pos hc]; exact v9 (i + 1) (by omega) (hlc hc)
    · rw [if_neg hc]; exact v9 i h0 (by omega)
  · unfold loR
    rw [if_pos ⟨h0, h1⟩]
    have hlc : 0 ≤ p ∧ p ≤ i → i + 1 < μ (q + 1) 3 := by intro hc; unfold lc at h1; split at h1 <;> omega
    by_cases hc : 0 ≤ p ∧ p ≤ i
    · rw [if_pos hc]; exact v10 (i + 1) (by omega) (hlc hc)
    · rw [if_neg hc]; exact v10 i h0 (by omega)
theorem mk_1 {st a d : Int} (h : d = 1) : mk st a d = st - 1 - a % st := if_neg (by omega)
theorem mk_0 {st a d : Int} (h : d = 0 ∨ d = 1) (h1 : d ≠ 1) : mk st a d = a % st := if_pos (by omega)
def iF (s0 : Int) (a d : Int → Int) (k f : Int) : Int := if f = 2 then b01 (d k = 1) else if f = 3 then b01 (s0 ≤ a k) else if f = 4 then b01 (cn (fun e => a e = a k) k ≠ 0) else b01 (0 < k ∧ a k < a (k - 1))
def pO (s0 : Int) (a d : Int → Int) (n f : Int) : Int := if f = 2 then fT d n else if f = 3 then fN s0 a n else if f = 4 then fD a n else fF a n
theorem fs_01 (p : Int → Prop) [DecidablePred p] {n : Int} (hn : 0 ≤ n) (h : ¬ p 0) : fs p 0 n = fs p 1 n := by
  by_cases hc : 0 < n
  · exact fs_f p hc h
  · rw [fs_e p (by omega), fs_e p (by omega)]
theorem iF_r (s0 : Int) (a d : Int → Int) (k f : Int) : iF s0 a d k f = 0 ∨ iF s0 a d k f = 1 := by unfold iF; split <;> (try split) <;> (try split) <;> exact b01_z _
theorem b01_0 (p : Prop) [Decidable p] : b01 p ≠ 0 ↔ p := by
  by_cases h : p
  · rw [b01_t h]; simp [h]
  · rw [b01_f h]; simp [h]
theorem pO_e {s0 : Int} {a d : Int → Int} {n f : Int} (hn : 0 ≤ n) (hd : ∀ i, 0 ≤ i → i < n → d i = 0 ∨ d i = 1) : fs (fun k => iF s0 a d k f ≠ 0) 0 n = pO s0 a d n f := by
  unfold pO iF
  by_cases h2 : f = 2
  · rw [if_pos h2]
    exact fs_cong (fun k k0 k1 => by rw [if_pos h2, b01_0]; have := hd k k0 k1; omega)
  · rw [if_neg h2]
    by_cases h3 : f = 3
    · rw [if_pos h3]
      exact fs_cong (fun k k0 k1 => by rw [if_neg h2, if_pos h3, b01_0])
    · rw [if_neg h3]
      by_cases h4 : f = 4
      · rw [if_pos h4]
        unfold fD
        rw [← fs_01 (fun k => cn (fun e => a e = a k) k ≠ 0) hn (fun z => z (cn_0 _))]
        exact fs_cong (fun k k0 k1 => by rw [if_neg h2, if_neg h3, if_pos h4, b01_0])
      · rw [if_neg h4]
        unfold fF
        have e1 : fs (fun k => a k < a (k - 1)) 1 n = fs (fun k => 0 < k ∧ a k < a (k - 1)) 1 n := fs_cong (fun k k0 k1 => ⟨fun z => ⟨by omega, z⟩, fun z => z.2⟩)
        rw [e1, ← fs_01 (fun k => 0 < k ∧ a k < a (k - 1)) hn (fun z => absurd z.1 (by omega))]
        exact fs_cong (fun k k0 k1 => by rw [if_neg h2, if_neg h3, if_neg h4, b01_0])
theorem lay_b (μ : Mem) (q : Nat) {p : Int} (hp : -1 ≤ p) : wr μ q (s1 (μ q) 12 0) = lay μ q p 0 := by
  unfold lay
  rw [loR_0 _ _ hp, loR_0 _ _ hp, lc_0]
  funext r
  by_cases c3 : r = q + 4
  · subst c3; rw [wr_s, wr_n _ _ (by omega)]
  · by_cases c4 : r = q + 3
    · subst c4; rw [wr_n _ _ c3, wr_s, wr_n _ _ (by omega)]
    · rw [wr_n _ _ c3, wr_n _ _ c4]
theorem lay_e (μ : Mem) (q : Nat) {p k : Int} (h : 0 ≤ k) (hp : k = p) : lay μ q p (k + 1) = lay μ q p k := by
  unfold lay
  rw [loR_e _ _ h hp, loR_e _ _ h hp, lc_e h hp]
theorem lay_s (μ : Mem) (q : Nat) {p k : Int} (h : 0 ≤ k) (hp : k ≠ p) : wr (wr (wr (lay μ q p k) (q + 3) (s1 (loR (μ (q + 3)) (sN μ q) p k) (lc p k) (μ (q + 1) (70 + k)))) (q + 4) (s1 (loR (μ (q + 4)) (sD μ q) p k) (lc p k) (μ (q + 1) (90 + k)))) q (s1 (s1 (μ q) 12 (lc p k)) 12 (lc p k + 1)) = lay μ q p (k + 1) := by
  rw [show μ (q + 1) (70 + k) = sN μ q k from rfl, show μ (q + 1) (90 + k) = sD μ q k from rfl, loR_s _ _ h hp, loR_s _ _ h hp, s1_ss, ← lc_s h hp]
  funext r
  by_cases c0 : r = q
  · subst c0; rw [wr_s, lay_q]
  · rw [wr_n _ _ c0]
    by_cases c3 : r = q + 4
    · subst c3; rw [wr_s, lay_4]
    · rw [wr_n _ _ c3]
      by_cases c4 : r = q + 3
      · subst c4; rw [wr_s, lay_3]
      · rw [wr_n _ _ c4, lay_o _ _ _ c0 c4 c3, lay_o _ _ _ c0 c4 c3]
