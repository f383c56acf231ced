/-! the reference's deeds on its row -/
def shV (v : Int → Int) (i n : Int) : Int → Int := fun j => if 70 + i < j ∧ j ≤ 70 + n then v (j - 1) else if 90 + i < j ∧ j ≤ 90 + n then v (j - 1) else v j
theorem shV_n (v : Int → Int) (n : Int) : shV v n n = v := by
  funext j
  unfold shV
  rw [if_neg (by omega), if_neg (by omega)]
theorem shV_s (v : Int → Int) {i n : Int} (h0 : 1 ≤ i) (h : i ≤ n) (hn : n < 20) : s1 (s1 (shV v i n) (70 + i) (shV v i n (70 + i - 1))) (90 + i) (s1 (shV v i n) (70 + i) (shV v i n (70 + i - 1)) (90 + i - 1)) = shV v (i - 1) n := by
  have e1 : shV v i n (70 + i - 1) = v (70 + i - 1) := by unfold shV; rw [if_neg (by omega), if_neg (by omega)]
  have e2 : s1 (shV v i n) (70 + i) (shV v i n (70 + i - 1)) (90 + i - 1) = v (90 + i - 1) := by rw [s1_n _ _ (by omega)]; unfold shV; rw [if_neg (by omega), if_neg (by omega)]
  rw [e2, e1]
  funext j
  unfold s1
  by_cases c1 : j = 90 + i
  · rw [if_pos c1]; unfold shV; rw [if_neg (by omega), if_pos (by omega), c1]
  · rw [if_neg c1]
    by_cases c2 : j = 70 + i
    · rw [if_pos c2]; unfold shV; rw [if_pos (by omega), c2]
    · rw [if_neg c2]
      unfold shV
      by_cases c3 : 70 + i < j ∧ j ≤ 70 + n
      · rw [if_pos c3, if_pos (by omega)]
      · rw [if_neg c3]
        by_cases c4 : 90 + i < j ∧ j ≤ 90 + n
        · rw [if_pos c4, if_neg (by omega), if_pos (by omega)]
        · rw [if_neg c4, if_neg (by omega), if_neg (by omega)]
theorem shV_o (v : Int → Int) {i n j : Int} (h : j < 70) : 0 ≤ i → shV v i n j = v j := fun h0 => by unfold shV; rw [if_neg (by omega), if_neg (by omega)]
def sdV (v : Int → Int) (p i : Int) : Int → Int := fun j => if 70 + p ≤ j ∧ j < 70 + i then v (j + 1) else if 90 + p ≤ j ∧ j < 90 + i then v (j + 1) else v j
theorem sdV_0 (v : Int → Int) (p : Int) : sdV v p p = v := by
  funext j
  unfold sdV
  rw [if_neg (by omega), if_neg (by omega)]
theorem sdV_o (v : Int → Int) {p i j : Int} (h : j < 70) : 0 ≤ p → sdV v p i j = v j := fun h0 => by unfold sdV; rw [if_neg (by omega), if_neg (by omega)]
theorem sdV_s (v : Int → Int) {p i : Int} (hp : 0 ≤ p) (h : p ≤ i) (hi : i < 19) : s1 (s1 (sdV v p i) (70 + i) (sdV v p i (70 + i + 1))) (90 + i) (s1 (sdV v p i) (70 + i) (sdV v p i (70 + i + 1)) (90 + i + 1)) = sdV v p (i + 1) := by
  have e1 : sdV v p i (70 + i + 1) = v (70 + i + 1) := by unfold sdV; rw [if_neg (by omega), if_neg (by omega)]
  have e2 : s1 (sdV v p i) (70 + i) (sdV v p i (70 + i + 1)) (90 + i + 1) = v (90 + i + 1) := by rw [s1_n _ _ (by omega)]; unfold sdV; rw [if_neg (by omega), if_neg (by omega)]
  rw [e2, e1]
  funext j
  unfold s1
  by_cases c1 : j = 90 + i
  · rw [if_pos c1]; unfold sdV; rw [if_neg (by omega), if_pos (by omega), c1]
  · rw [if_neg c1]
    by_cases c2 : j = 70 + i
    · rw [if_pos c2]; unfold sdV; rw [if_pos (by omega), c2]
    · rw [if_neg c2]
      unfold sdV
      by_cases c3 : 70 + p ≤ j ∧ j < 70 + i
      · rw [if_pos c3, if_pos (by omega)]
      · rw [if_neg c3]
        by_cases c4 : 90 + p ≤ j ∧ j < 90 + i
        · rw [if_pos c4, if_neg (by omega), if_pos (by omega)]
        · rw [if_neg c4, if_neg (by omega), if_neg (by omega)]
def mIns (v : Int → Int) (p x : Int) : Int → Int := s1 (s1 (s1 (s1 (shV v p (v 3)) (70 + p) x) (90 + p) 0) (6 + x) (v (6 + x) - 1)) 3 (v 3 + 1)
def mPul (v : Int → Int) (p : Int) : Int → Int := s1 (sdV (s1 v 3 (v 3 - 1)) p (v 3 - 1)) (6 + v (70 + p)) (v (6 + v (70 + p)) + 1)
def mFli (v : Int → Int) (p : Int) : Int → Int := s1 v (90 + p) (1 - v (90 + p))
def mMov (v : Int → Int) (p r : Int) : Int → Int := s1 (s1 (if p < r then sdV v p r else shV v r p) (70 + r) (v (70 + p))) (90 + r) (v (90 + p))
def bkV (v : Int → Int) (i : Int) : Int → Int := fun j => if 22 ≤ j ∧ j < 38 then v j + cn (fun e => v (70 + e) = j - 22) i else v j
theorem bkV_0 (v : Int → Int) : bkV v 0 = v := by
  funext j
  unfold bkV
  rw [cn_0]
  split
  · omega
  · rfl
theorem bkV_o (v : Int → Int) {i j : Int} (h : j < 22 ∨ 38 ≤ j) : bkV v i j = v j := if_neg (by omega)
theorem bkV_s (v : Int → Int) {i : Int} (h : 0 ≤ i) (hx : 0 ≤ v (70 + i) ∧ v (70 + i) < 16) : s1 (bkV v i) (22 + v (70 + i)) (bkV v i (22 + v (70 + i)) + 1) = bkV v (i + 1) := by
  funext j
  unfold s1
  by_cases c1 : j = 22 + v (70 + i)
  · rw [if_pos c1]
    unfold bkV
    rw [if_pos (by omega), if_pos (by omega), cn_s _ h, ← c1, b01_t (show v (70 + i) = j - 22 by omega)]
    omega
  · rw [if_neg c1]
    unfold bkV
    by_cases c2 : 22 ≤ j ∧ j < 38
    · rw [if_pos c2, if_pos c2, cn_s _ h, b01_f (show ¬ v (70 + i) = j - 22 by omega)]
      omega
    · rw [if_neg c2, if_neg c2]
def mBin (v : Int → Int) : Int → Int := s1 (s1 (bkV v (v 3)) 3 0) 4 (v 4 + 1)
def cpV (v : Int → Int) (f t k : Int) : Int → Int := fun j => if 110 * t ≤ j ∧ j < 110 * t + k then v (j - 110 * t + 110 * f) else v j
theorem cpV_0 (v : Int → Int) (f t : Int) : cpV v f t 0 = v := by
  funext j
  exact if_neg (by omega)
theorem cpV_s (v : Int → Int) {f t k : Int} (h : 0 ≤ k) (hk : k < 110) (hft : f ≠ t) : s1 (cpV v f t k) (110 * t + k) (cpV v f t k (110 * f + k)) = cpV v f t (k + 1) := by
  have e1 : cpV v f t k (110 * f + k) = v (110 * f + k) := if_neg (by omega)
  rw [e1]
  funext j
  unfold s1
  by_cases c1 : j = 110 * t + k
  · rw [if_pos c1]; unfold cpV; rw [if_pos (by omega)]; congr 1; omega
  · rw [if_neg c1]
    unfold cpV
    by_cases c2 : 110 * t ≤ j ∧ j < 110 * t + k
    · rw [if_pos c2, if_pos (by omega)]
    · rw [if_neg c2, if_neg (by omega)]
def sh5 (v : Int → Int) (k : Int) : Int → Int := fun j => if 110 ≤ j ∧ j < 110 * k then v (j + 110) else v j
theorem sh5_1 (v : Int → Int) : sh5 v 1 = v := by
  funext j
  exact if_neg (by omega)
theorem sh5_s (v : Int → Int) {k : Int} (h : 1 ≤ k) : cpV (sh5 v k) (k + 1) k 110 = sh5 v (k + 1) := by
  funext j
  unfold cpV sh5
  by_cases c1 : 110 * k ≤ j ∧ j < 110 * k + 110
  · rw [if_pos c1, if_neg (by omega), if_pos (by omega)]; congr 1; omega
  · rw [if_neg c1]
    by_cases c2 : 110 ≤ j ∧ j < 110 * k
    · rw [if_pos c2, if_pos (by omega)]
    · rw [if_neg c2, if_neg (by omega)]
def mSav (v : Int → Int) (s : Int) : Int → Int := if s = 6 then cpV (sh5 v 6) 0 6 110 else cpV v 0 (s + 1) 110
def mSaM (μ : Mem) (q : Nat) : Mem := wr (wr μ q (s1 (μ q) 2 (if μ q 2 < 6 then μ q 2 + 1 else μ q 2))) (q + 1) (mSav (μ (q + 1)) (μ q 2))
theorem lc_m1 (k : Int) : lc (-1) k = k := if_neg (by omega)
theorem mMov_o {v : Int → Int} {p r j : Int} (hp : 0 ≤ p) (hr : 0 ≤ r) (h : j < 70) : mMov v p r j = v j := by
  unfold mMov
  rw [s1_n _ _ (by omega), s1_n _ _ (by omega)]
  split
  · exact sdV_o v h hp
  · exact shV_o v h hr
theorem mMov_N {v : Int → Int} {p r j : Int} (hp : 0 ≤ p) (hr : 0 ≤ r) (hp2 : p < 20) (hr2 : r < 20) (h0 : 0 ≤ j) (h1 : j < 20) : mMov v p r (70 + j) = (if j = r then v (70 + p) else if p ≤ j ∧ j < r then v (70 + j + 1) else if r < j ∧ j ≤ p then v (70 + j - 1) else v (70 + j)) := by
  unfold mMov
  rw [s1_n _ _ (by omega)]
  by_cases c : j = r
  · rw [if_pos c, c, s1_s]
  · rw [if_neg c, s1_n _ _ (by omega)]
    by_cases c2 : p < r
    · rw [if_pos c2]
      unfold sdV
      by_cases c3 : p ≤ j ∧ j < r
      · rw [if_pos c3, if_pos (by omega)]
      · rw [if_neg c3, if_neg (by omega), if_neg (by omega), if_neg (by omega)]
    · rw [if_neg c2]
      unfold shV
      by_cases c3 : r < j ∧ j ≤ p
      · rw [if_neg (show ¬ (p ≤ j ∧ j < r) by omega), if_pos c3, if_pos (by omega)]
      · rw [if_neg (show ¬ (p ≤ j ∧ j < r) by omega), if_neg c3, if_neg (by omega), if_neg (by omega)]
theorem mMov_D {v : Int → Int} {p r j : Int} (hp : 0 ≤ p) (hr : 0 ≤ r) (hp2 : p < 20) (hr2 : r < 20) (h0 : 0 ≤ j) (h1 : j < 20) : mMov v p r (90 + j) = (if j = r then v (90 + p) else if p ≤ j ∧ j < r then v (90 + j + 1) else if r < j ∧ j ≤ p then v (90 + j - 1) else v (90 + j)) := by
  unfold mMov
  by_cases c : j = r
  · rw [if_pos c, c, s1_s]
  · rw [if_neg c, s1_n _ _ (by omega), s1_n _ _ (by omega)]
    by_cases c2 : p < r
    · rw [if_pos c2]
      unfold sdV
      by_cases c3 : p ≤ j ∧ j < r
      · rw [if_pos c3, if_neg (by omega), if_pos (by omega)]
      · rw [if_neg c3, if_neg (by omega), if_neg (by omega), if_neg (by omega)]
    · rw [if_neg c2]
      unfold shV
      by_cases c3 : r < j ∧ j ≤ p
      · rw [if_neg (show ¬ (p ≤ j ∧ j < r) by omega), if_pos c3, if_neg (by omega), if_pos (by omega)]
      · rw [if_neg (show ¬ (p ≤ j ∧ j < r) by omega), if_neg c3, if_neg (by omega), if_neg (by omega)]
theorem veW_of {K : Int} {v w : Int → Int} (hv : veW K v) (hlow : ∀ j, 0 ≤ j → j < 70 → w j = v j) (hN : ∀ i, 0 ≤ i → i < v 3 → 0 ≤ w (70 + i) ∧ w (70 + i) < 16) (hD : ∀ i, 0 ≤ i → i < v 3 → w (90 + i) = 0 ∨ w (90 + i) = 1) : veW K w := by
  obtain ⟨v0, v1, v2, v3, v4, v5, v6, v7, v8, v9, v10⟩ := hv
  unfold veW
  rw [hlow 0 (by omega) (by omega), hlow 1 (by omega) (by omega), hlow 2 (by omega) (by omega), hlow 3 (by omega) (by omega), hlow 4 (by omega) (by omega), hlow 5 (by omega) (by omega)]
  exact ⟨v0, v1, v2, v3, v4, v5, v6, fun i h0 h1 => by rw [hlow (6 + i) (by omega) (by omega)]; exact v7 i h0 h1, fun i h0 h1 => by rw [hlow (54 + i) (by omega) (by omega)]; exact v8 i h0 h1, hN, hD⟩
theorem veW_fli {K : Int} {v : Int → Int} {p : Int} (hv : veW K v) (hp : 0 ≤ p) (hp2 : p < v 3) : veW K (mFli v p) := by
  have hv2 := hv
  obtain ⟨v0, v1, v2, v3, v4, v5, v6, v7, v8, v9, v10⟩ := hv2
  refine veW_of hv (fun j h0 h1 => s1_n _ _ (by omega)) (fun i h0 h1 => ?_) (fun i h0 h1 => ?_)
  · unfold mFli; rw [s1_n _ _ (by omega)]; exact v9 i h0 h1
  · unfold mFli
    by_cases c : i = p
    · rw [c, s1_s]; have := v10 p hp hp2; omega
    · rw [s1_n _ _ (by omega)]; exact v10 i h0 h1
theorem veW_mov {K : Int} {v : Int → Int} {p r : Int} (hv : veW K v) (hp : 0 ≤ p) (hp2 : p < v 3) (hr : 0 ≤ r) (hr2 : r < v 3) : veW K (mMov v p r) := by
  have hv2 := hv
  obtain ⟨v0, v1, v2, v3, v4, v5, v6, v7, v8, v9, v10⟩ := hv2
  refine veW_of hv (fun j h0 h1 => mMov_o hp hr h1) (fun i h0 h1 => ?_) (fun i h0 h1 => ?_)
  · rw [mMov_N hp hr (by omega) (by omega) h0 (by omega)]
    split
    · exact v9 p hp hp2
    · split
      · rw [show 70 + i + 1 = 70 + (i + 1) by omega]; exact v9 (i + 1) (by omega) (by omega)
      · split
        · rw [show 70 + i - 1 = 70 + (i - 1) by omega]; exact v9 (i - 1) (by omega) (by omega)
        · exact v9 i h0 h1
  · rw [mMov_D hp hr (by omega) (by omega) h0 (by omega)]
    split
    · exact v10 p hp hp2
    · split
      · rw [show 90 + i + 1 = 90 + (i + 1) by omega]; exact v10 (i + 1) (by omega) (by omega)
      · split
        · rw [show 90 + i - 1 = 90 + (i - 1) by omega]; exact v10 (i - 1) (by omega) (by omega)
        · exact v10 i h0 h1
