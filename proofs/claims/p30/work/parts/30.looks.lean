/-! what the looks answer, of a vector of a state -/
def cnX (v : Int → Int) (x : Int) : Int := cn (fun e => v (70 + e) = x) (v 3)
def ofB (v : Int → Int) (x w : Int) : Int := if w = 0 then v (6 + x) else if w = 1 then cnX v x else if w = 2 then v (22 + x) else if w = 3 then v (38 + x) else v (54 + x)
def ofS (v : Int → Int) (k w : Int) : Int := if w = 0 then v (70 + k) else if w = 1 then v (90 + k) else if w = 2 then mk (v 1) (v (70 + k)) (v (90 + k)) else if w = 3 then b01 (brk (v 1) (vN v) (vD v) k) else if w = 4 then stA (vH v) (vN v) k else cn (fun e => vN v k < vN v e) k
/-- the longest row that does not fall -/
def lis (a : Int → Int) (n : Int) : Int := mx (leI a (fun _ => 0) n) n
theorem leI_cong {a a' r0 r1 : Int → Int} {n : Int} (hn : 0 ≤ n) (h : ∀ i, 0 ≤ i → i < n → a i = a' i) : ∀ i, 0 ≤ i → i < n → leI a r0 n i = leI a' r1 n i := by
  refine loop_up (F := fun k => (∀ i, 0 ≤ i → i < k → leI a r0 k i = leI a' r1 k i) → ∀ i, 0 ≤ i → i < n → leI a r0 n i = leI a' r1 n i) (a := 0) (b := n) hn (fun g => g) (fun k h0 h1 K g => K (fun i i0 i1 => ?_)) (fun i i0 i1 => absurd i1 (by omega))
  rw [leI_s a r0 h0, leI_s a' r1 h0]
  by_cases hc : i = k
  · rw [hc, s1_s, s1_s]
    congr 1
    exact mx_cong (fun e e0 e1 => by rw [h e e0 (by omega), h k h0 h1, g e e0 e1])
  · rw [s1_n _ _ hc, s1_n _ _ hc]
    exact g i i0 (by omega)
theorem lis_e {a a' r0 : Int → Int} {n : Int} (hn : 0 ≤ n) (h : ∀ i, 0 ≤ i → i < n → a i = a' i) : mx (leI a r0 n) n = lis a' n := mx_cong (fun i i0 i1 => leI_cong hn h i i0 i1)
theorem lis_bd (a : Int → Int) {n : Int} (hn : 0 ≤ n) : 0 ≤ lis a n ∧ lis a n ≤ n := by
  refine ⟨mx_nn _ _, mx_le hn (fun k k0 k1 => ?_)⟩
  have := (leI_bd a (fun _ => 0) hn k k0 k1).2
  omega
def coT (v : Int → Int) (sv w : Int) : Int :=
  if w = 0 then v 3 else if w = 1 then brks (v 1) (vN v) (vD v) (v 3) else if w = 2 then flt (v 0) (vN v) (vD v) (v 3) else if w = 3 then plf (v 0) (vN v) (vD v) (v 3) else if w = 4 then misS (v 0) (vN v) (v 3)
  else if w = 5 then b01 (0 < flt (v 0) (vN v) (vD v) (v 3) ∧ brks (v 1) (vN v) (vD v) (v 3) = 0) else if w = 6 ∨ w = 7 then v 3 - lis (vN v) (v 3) else if w = 8 then sm (fun k => cn (fun e => vN v k < vN v e) k) (v 3) else if w = 9 then stS (vH v) (vN v) (v 3)
  else if w = 10 then thS (v 2) (vH v) (vN v) (v 3) else if w = 11 then lsS (vH v) (vN v) (v 3) else if w = 12 then v 4 else if w = 13 then sm (fun k => v (22 + k)) 16 else if w = 14 then v 5 else sv
/-- the block without a sheet -/
def wN (v : Int → Int) (p : Int) : Int → Int := fun j => if 0 ≤ p ∧ p ≤ j then v (70 + (j + 1)) else v (70 + j)
def wD (v : Int → Int) (p : Int) : Int → Int := fun j => if 0 ≤ p ∧ p ≤ j then v (90 + (j + 1)) else v (90 + j)
def woT (v : Int → Int) (p w : Int) : Int := if w = 0 then brks (v 1) (wN v p) (wD v p) (v 3 - 1) else if w = 1 then flt (v 0) (wN v p) (wD v p) (v 3 - 1) else if w = 2 then v 3 - 1 - lis (wN v p) (v 3 - 1) else stS (vH v) (wN v p) (v 3 - 1)
theorem lay_wN {μ : Mem} {q : Nat} {p n : Int} : ∀ i, 0 ≤ i → i < lc p n → lay μ q p n (q + 3) i = wN (μ (q + 1)) p i := fun i h0 h1 => by
  rw [lay_3]; unfold loR; rw [if_pos ⟨h0, h1⟩]; rfl
theorem lay_wD {μ : Mem} {q : Nat} {p n : Int} : ∀ i, 0 ≤ i → i < lc p n → lay μ q p n (q + 4) i = wD (μ (q + 1)) p i := fun i h0 h1 => by
  rw [lay_4]; unfold loR; rw [if_pos ⟨h0, h1⟩]; rfl
theorem lc_in {p n : Int} (h : 0 ≤ p) (h1 : p < n) : lc p n = n - 1 := if_pos ⟨h, h1⟩
/-- one sheet moved -/
def bhN (v : Int → Int) (p r : Int) : Int → Int := insR (wN v p) r (v 3 - 1) (v (70 + p))
def fwB (v : Int → Int) (p r : Int) : Int := v 3 - lis (bhN v p r) (v 3)
abbrev nmP (v : Int → Int) (k : Int) : Prop := 0 < v 3 - lis (vN v) (v 3) ∧ fwB v (k / v 3) (k % v 3) = v 3 - lis (vN v) (v 3) - 1
def nmT (v : Int → Int) : Int := if fs (fun k => nmP v k) 0 (v 3 * v 3) = -1 then -1 else 20 * (fs (fun k => nmP v k) 0 (v 3 * v 3) / v 3) + fs (fun k => nmP v k) 0 (v 3 * v 3) % v 3
def fiT (v : Int → Int) : Int := fs (fun x => v 3 < 20 ∧ 0 < v (6 + x) ∧ x % v 1 = due (v 1) (vN v) (vD v) (v 3)) 0 16
def mnN (f : Int → Int) : Nat → Int
  | 0 => f 0
  | n + 1 => if f ((n + 1 : Nat) : Int) < mnN f n then f ((n + 1 : Nat) : Int) else mnN f n
/-- the least of f from 0 to n -/
def mn (f : Int → Int) (n : Int) : Int := mnN f n.toNat
theorem mn_0 (f : Int → Int) : mn f 0 = f 0 := rfl
theorem mn_s (f : Int → Int) {n : Int} (h : 0 ≤ n) : mn f (n + 1) = if f (n + 1) < mn f n then f (n + 1) else mn f n := by
  unfold mn
  rw [show (n + 1).toNat = n.toNat + 1 by omega]
  show (if f ((n.toNat + 1 : Nat) : Int) < mnN f n.toNat then f ((n.toNat + 1 : Nat) : Int) else mnN f n.toNat) = _
  rw [show ((n.toNat + 1 : Nat) : Int) = n + 1 by omega]
theorem mn_bd {f : Int → Int} {n c : Int} (hn : 0 ≤ n) (h : ∀ k, 0 ≤ k → k ≤ n → 0 ≤ f k ∧ f k ≤ c) : 0 ≤ mn f n ∧ mn f n ≤ c := by
  refine loop_up (F := fun i => (0 ≤ mn f i ∧ mn f i ≤ c) → 0 ≤ mn f n ∧ mn f n ≤ c) (a := 0) (b := n) hn (fun g => g) (fun i h0 h1 K g => K ?_) (by rw [mn_0]; exact h 0 (by omega) hn)
  rw [mn_s f h0]
  have := h (i + 1) (by omega) (by omega)
  split <;> omega
def poF (v : Int → Int) (k : Int) : Int := v (6 + k) + cnX v k
def poT (v : Int → Int) : Int := mn (poF v) (v 0 - 1)
theorem cnX_bd {K : Int} {v : Int → Int} (hv : veW K v) (x : Int) : 0 ≤ cnX v x ∧ cnX v x ≤ 20 := by
  obtain ⟨v0, v1, v2, v3, v4, v5, v6, v7, v8, v9, v10⟩ := hv
  have := cn_bd (fun e => v (70 + e) = x) v4.1
  unfold cnX
  omega
theorem MR_U {q : Nat} {μ ν ρ : Mem} {th sv kp ln : Int} {v tx : Int → Int} (h : MR q μ ν th sv kp ln v tx) (h2 : MU q ν ρ) : MR q μ ρ th sv kp ln v tx := by
  obtain ⟨a1, a2, ⟨a3, a4, a5, a6⟩, a7⟩ := h
  obtain ⟨⟨b1, b2, ⟨b3, b4, b5, b6⟩, b7⟩, -⟩ := h2
  exact ⟨b1.trans a1, b2.trans a2, ⟨b3.trans a3, b4.trans a4, b5.trans a5, b6.trans a6⟩, fun r hr => (b7 r hr).trans (a7 r hr)⟩
theorem fw_zero {a : Int → Int} {n : Int} (hn : 0 ≤ n) : 0 ≤ n - lis a n ∧ n - lis a n ≤ n := by have := lis_bd a hn; omega
theorem sq_bd {n : Int} (h0 : 0 ≤ n) (h1 : n ≤ 20) : 0 ≤ n * n ∧ n * n ≤ 400 := ⟨Int.mul_nonneg h0 h0, Int.mul_le_mul h1 h1 h0 (by omega)⟩
theorem dm_bd {k n : Int} (h0 : 0 ≤ k) (hn : 0 < n) (h : k < n * n) : (0 ≤ k / n ∧ k / n < n) ∧ (0 ≤ k % n ∧ k % n < n) :=
  ⟨⟨Int.ediv_nonneg h0 (by omega), Int.ediv_lt_of_lt_mul hn h⟩, ⟨Int.emod_nonneg _ (by omega), Int.emod_lt_of_pos _ hn⟩⟩
theorem sq_pos {k n : Int} (h0 : 0 ≤ k) (hn : 0 ≤ n) (h : k < n * n) : 0 < n := by
  rcases Int.lt_or_eq_of_le hn with g | g
  · exact g
  · rw [← g] at h; omega
