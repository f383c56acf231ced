/-! what the methods reckon, in numbers -/
theorem loop_ge {F : Int → Prop} {a n : Int} (hx : ∀ i, a ≤ i → n ≤ i → F i) (hs : ∀ i, a ≤ i → i < n → F (i + 1) → F i) : F a := by
  by_cases h : a ≤ n
  · exact loop_up h (hx n h (Int.le_refl n)) hs
  · exact hx a (Int.le_refl a) (by omega)
theorem r_eq {X : Cx} {μ μ' : Mem} {pc : Nat} {ls st : List AV} (h : RR X μ' pc ls st) (e : μ = μ') : RR X μ pc ls st := e ▸ h
theorem wr_self (μ : Mem) (q : Nat) : wr μ q (μ q) = μ := by
  funext p
  by_cases h : p = q
  · subst h; exact wr_s ..
  · exact wr_n _ _ h
theorem wr_ww (μ : Mem) (q : Nat) (f g : Int → Int) : wr (wr μ q f) q g = wr μ q g := by
  funext p
  by_cases h : p = q
  · subst h; rw [wr_s, wr_s]
  · rw [wr_n _ _ h, wr_n _ _ h, wr_n _ _ h]
theorem wr_cm (μ : Mem) {q r : Nat} (f g : Int → Int) (h : q ≠ r) : wr (wr μ q f) r g = wr (wr μ r g) q f := by
  funext p
  by_cases h1 : p = q
  · subst h1; rw [wr_n _ _ h, wr_s, wr_s]
  · by_cases h2 : p = r
    · subst h2; rw [wr_s, wr_n _ _ h1, wr_s]
    · rw [wr_n _ _ h2, wr_n _ _ h1, wr_n _ _ h1, wr_n _ _ h2]
theorem wr2_1 (μ : Mem) {q r : Nat} (f g f' : Int → Int) (h : q ≠ r) : wr (wr (wr μ q f) r g) q f' = wr (wr μ q f') r g := by
  rw [wr_cm _ _ _ h, wr_ww, wr_cm _ _ _ (Ne.symm h)]
theorem s1_ss (f : Int → Int) (k x y : Int) : s1 (s1 f k x) k y = s1 f k y := by
  funext j
  unfold s1
  by_cases h : j = k
  · rw [if_pos h, if_pos h]
  · rw [if_neg h, if_neg h, if_neg h]
theorem cn_pos {p : Int → Prop} [DecidablePred p] {n k : Int} (h0 : 0 ≤ k) (h1 : k < n) (hp : p k) : cn p n ≠ 0 := by
  have key : ∀ m : Int, k < m → 0 < cn p m := by
    intro m hm
    refine loop_up (F := fun i => 0 < cn p i → 0 < cn p m) (a := k + 1) (b := m) (by omega) (fun h => h) (fun i g1 g2 K h => K ?_) ?_
    · rw [cn_s p (by omega)]
      have := b01_r (p i)
      omega
    · rw [cn_s p h0]
      have := cn_bd p h0
      have e : b01 (p k) = 1 := if_pos hp
      omega
  have := key n h1
  omega
theorem cn_zero {p : Int → Prop} [DecidablePred p] {n : Int} (h : cn p n = 0) : ∀ k : Int, 0 ≤ k → k < n → ¬ p k := fun k h0 h1 hp => cn_pos h0 h1 hp h
theorem cn_none {p : Int → Prop} [DecidablePred p] {n : Int} (h : ∀ k : Int, 0 ≤ k → k < n → ¬ p k) : cn p n = 0 := by
  have : cn p n = cn (fun _ => False) n := cn_cong (fun k h0 h1 => ⟨fun z => (h k h0 h1 z), False.elim⟩)
  rw [this]
  have key : ∀ m : Nat, smN (fun _ => b01 False) m = 0 := by
    intro m
    induction m with
    | zero => rfl
    | succ m ih => show smN _ m + b01 False = 0; rw [ih]; rfl
  exact key _
/-- the rows behind a move up of those behind a place, a sheet that is put in, one that is taken out -/
def shU (f : Int → Int) (i n : Int) : Int → Int := fun j => if i < j ∧ j ≤ n then f (j - 1) else f j
theorem shU_n (f : Int → Int) (n : Int) : shU f n n = f := by
  funext j
  exact if_neg (by omega)
theorem shU_s (f : Int → Int) {i n : Int} (h : i ≤ n) : s1 (shU f i n) i (shU f i n (i - 1)) = shU f (i - 1) n := by
  funext j
  unfold s1
  by_cases h1 : j = i
  · subst h1
    rw [if_pos rfl]
    unfold shU
    rw [if_neg (by omega), if_pos (by omega)]
  · rw [if_neg h1]
    unfold shU
    by_cases h2 : i < j ∧ j ≤ n
    · rw [if_pos h2, if_pos (by omega)]
    · rw [if_neg h2, if_neg (by omega)]
def insR (f : Int → Int) (p n x : Int) : Int → Int := s1 (shU f p n) p x
def shD (f : Int → Int) (p i : Int) : Int → Int := fun j => if p ≤ j ∧ j < i then f (j + 1) else f j
theorem shD_0 (f : Int → Int) (p : Int) : shD f p p = f := by
  funext j
  exact if_neg (by omega)
theorem shD_s (f : Int → Int) {p i : Int} (h : p ≤ i) : s1 (shD f p i) i (shD f p i (i + 1)) = shD f p (i + 1) := by
  funext j
  unfold s1
  by_cases h1 : j = i
  · subst h1
    rw [if_pos rfl]
    unfold shD
    rw [if_neg (by omega), if_pos (by omega)]
  · rw [if_neg h1]
    unfold shD
    by_cases h2 : p ≤ j ∧ j < i
    · rw [if_pos h2, if_pos (by omega)]
    · rw [if_neg h2, if_neg (by omega)]
abbrev remR (f : Int → Int) (p n : Int) : Int → Int := shD f p (n - 1)
/-- the longest row that ends with each sheet -/
def leT (a r0 : Int → Int) : Nat → (Int → Int)
  | 0 => r0
  | k + 1 => s1 (leT a r0 k) k (1 + mx (fun e => if a e ≤ a k then leT a r0 k e else 0) k)
def lbT (a r0 : Int → Int) (n : Int) : Nat → (Int → Int)
  | 0 => r0
  | k + 1 => s1 (lbT a r0 n k) (n - 1 - k) (1 + mx (fun e => if a (n - k + e) ≥ a (n - 1 - k) then lbT a r0 n k (n - k + e) else 0) k)
def plT (a r0 : Int → Int) : Nat → (Int → Int) × Int
  | 0 => (r0, 0)
  | k + 1 => (s1 (plT a r0 k).1 (if fs (fun j => a k < (plT a r0 k).1 j) 0 (plT a r0 k).2 < 0 then (plT a r0 k).2 else fs (fun j => a k < (plT a r0 k).1 j) 0 (plT a r0 k).2) (a k), if fs (fun j => a k < (plT a r0 k).1 j) 0 (plT a r0 k).2 < 0 then (plT a r0 k).2 + 1 else (plT a r0 k).2)
