/-! loops, and numbers that loops make -/
theorem loop_up {F : Int → Prop} {a b : Int} (hab : a ≤ b) (hx : F b) (hs : ∀ i, a ≤ i → i < b → F (i + 1) → F i) : F a := by
  have key : ∀ (n : Nat) (i : Int), a ≤ i → i ≤ b → (b - i).toNat = n → F i := by
    intro n
    induction n with
    | zero => intro i h1 h2 h3; have : i = b := by omega
              subst this; exact hx
    | succ n ih => intro i h1 h2 h3; exact hs i h1 (by omega) (ih (i + 1) (by omega) (by omega) (by omega))
  exact key _ a (Int.le_refl a) hab rfl
theorem loop_dn {F : Int → Prop} {a b : Int} (hab : a ≤ b) (hx : F a) (hs : ∀ i, a < i → i ≤ b → F (i - 1) → F i) : F b := by
  have key : ∀ (n : Nat) (i : Int), a ≤ i → i ≤ b → (i - a).toNat = n → F i := by
    intro n
    induction n with
    | zero => intro i h1 h2 h3; have : i = a := by omega
              subst this; exact hx
    | succ n ih => intro i h1 h2 h3; exact hs i (by omega) h2 (ih (i - 1) (by omega) (by omega) (by omega))
  exact key _ b hab (Int.le_refl b) rfl
theorem loop_m2 {σ : Type} {F : σ → Prop} (I : σ → Prop) (m : σ → Nat) (hs : ∀ s, I s → (∀ s', I s' → m s' < m s → F s') → F s) (s : σ) (h : I s) : F s := by
  have key : ∀ (n : Nat) (s : σ), m s < n → I s → F s := by
    intro n
    induction n with
    | zero => intro s h1; omega
    | succ n ih => intro s h1 h2; exact hs s h2 (fun s' h3 h4 => ih s' (by omega) h3)
  exact key _ s (Nat.lt_succ_self _) h
def smN (f : Int → Int) : Nat → Int
  | 0 => 0
  | n + 1 => smN f n + f n
def sm (f : Int → Int) (n : Int) : Int := smN f n.toNat
theorem sm_0 (f : Int → Int) : sm f 0 = 0 := rfl
theorem sm_s (f : Int → Int) {n : Int} (h : 0 ≤ n) : sm f (n + 1) = sm f n + f n := by
  have e : (n + 1).toNat = n.toNat + 1 := by omega
  unfold sm
  rw [e]
  show smN f n.toNat + f ((n.toNat : Nat) : Int) = _
  rw [Int.toNat_of_nonneg h]
theorem smN_cong {f g : Int → Int} : ∀ (n : Nat), (∀ k : Int, 0 ≤ k → k < n → f k = g k) → smN f n = smN g n
  | 0, _ => rfl
  | n + 1, h => by
    show smN f n + f n = smN g n + g n
    rw [smN_cong n (fun k h1 h2 => h k h1 (by omega)), h n (by omega) (by omega)]
theorem sm_cong {f g : Int → Int} {n : Int} (h : ∀ k : Int, 0 ≤ k → k < n → f k = g k) : sm f n = sm g n := smN_cong _ (fun k h1 h2 => h k h1 (by omega))
theorem smN_bd {f : Int → Int} {c : Int} : ∀ (n : Nat), (∀ k : Int, 0 ≤ k → k < n → 0 ≤ f k ∧ f k ≤ c) → 0 ≤ smN f n ∧ smN f n ≤ n * c
  | 0, _ => ⟨Int.le_refl 0, by simp [smN]⟩
  | n + 1, h => by
    have h1 := smN_bd n (fun k h1 h2 => h k h1 (by omega))
    have h2 := h n (by omega) (by omega)
    show 0 ≤ smN f n + f n ∧ smN f n + f n ≤ ((n + 1 : Nat) : Int) * c
    rw [show ((n + 1 : Nat) : Int) * c = n * c + c by rw [Int.natCast_add, Int.add_mul]; simp]
    omega
theorem sm_bd {f : Int → Int} {n c : Int} (hn : 0 ≤ n) (h : ∀ k : Int, 0 ≤ k → k < n → 0 ≤ f k ∧ f k ≤ c) : 0 ≤ sm f n ∧ sm f n ≤ n * c := by
  have := smN_bd (f := f) (c := c) n.toNat (fun k h1 h2 => h k h1 (by omega))
  rw [Int.toNat_of_nonneg hn] at this
  exact this
abbrev b01 (p : Prop) [Decidable p] : Int := if p then 1 else 0
theorem b01_r (p : Prop) [Decidable p] : 0 ≤ b01 p ∧ b01 p ≤ 1 := by unfold b01; by_cases h : p <;> simp [h]
/-- how many places ahead of n have p -/
def cn (p : Int → Prop) [DecidablePred p] (n : Int) : Int := sm (fun k => b01 (p k)) n
theorem cn_0 (p : Int → Prop) [DecidablePred p] : cn p 0 = 0 := rfl
theorem cn_s (p : Int → Prop) [DecidablePred p] {n : Int} (h : 0 ≤ n) : cn p (n + 1) = cn p n + b01 (p n) := sm_s _ h
theorem cn_cong {p q : Int → Prop} [DecidablePred p] [DecidablePred q] {n : Int} (h : ∀ k : Int, 0 ≤ k → k < n → (p k ↔ q k)) : cn p n = cn q n := sm_cong (fun k h1 h2 => by
  have := h k h1 h2
  unfold b01
  by_cases hp : p k
  · rw [if_pos hp, if_pos (this.mp hp)]
  · rw [if_neg hp, if_neg (fun z => hp (this.mpr z))])
theorem cn_bd (p : Int → Prop) [DecidablePred p] {n : Int} (hn : 0 ≤ n) : 0 ≤ cn p n ∧ cn p n ≤ n := by
  have := sm_bd (f := fun k => b01 (p k)) (c := 1) hn (fun k _ _ => b01_r (p k))
  unfold cn
  omega
/-- the first place from i on, of n places, that has p; -1 without one -/
def fsN (p : Int → Prop) [DecidablePred p] : Nat → Int → Int
  | 0, _ => -1
  | n + 1, i => if p i then i else fsN p n (i + 1)
def fs (p : Int → Prop) [DecidablePred p] (i n : Int) : Int := fsN p (n - i).toNat i
theorem fs_e (p : Int → Prop) [DecidablePred p] {i n : Int} (h : n ≤ i) : fs p i n = -1 := by
  unfold fs
  rw [show (n - i).toNat = 0 by omega]
  rfl
theorem fs_t (p : Int → Prop) [DecidablePred p] {i n : Int} (h : i < n) (hp : p i) : fs p i n = i := by
  unfold fs
  rw [show (n - i).toNat = (n - (i + 1)).toNat + 1 by omega]
  show (if p i then i else _) = i
  rw [if_pos hp]
theorem fs_f (p : Int → Prop) [DecidablePred p] {i n : Int} (h : i < n) (hp : ¬ p i) : fs p i n = fs p (i + 1) n := by
  unfold fs
  rw [show (n - i).toNat = (n - (i + 1)).toNat + 1 by omega]
  show (if p i then i else fsN p (n - (i + 1)).toNat (i + 1)) = _
  rw [if_neg hp]
theorem fsN_cong {p q : Int → Prop} [DecidablePred p] [DecidablePred q] : ∀ (m : Nat) (i : Int), (∀ k : Int, i ≤ k → k < i + m → (p k ↔ q k)) → fsN p m i = fsN q m i
  | 0, _, _ => rfl
  | m + 1, i, h => by
    show (if p i then i else fsN p m (i + 1)) = (if q i then i else fsN q m (i + 1))
    rw [fsN_cong m (i + 1) (fun k h1 h2 => h k (by omega) (by omega))]
    have := h i (by omega) (by omega)
    by_cases hp : p i
    · rw [if_pos hp, if_pos (this.mp hp)]
    · rw [if_neg hp, if_neg (fun z => hp (this.mpr z))]
theorem fs_cong {p q : Int → Prop} [DecidablePred p] [DecidablePred q] {i n : Int} (h : ∀ k : Int, i ≤ k → k < n → (p k ↔ q k)) : fs p i n = fs q i n := fsN_cong _ _ (fun k h1 h2 => h k h1 (by omega))
theorem fsN_r (p : Int → Prop) [DecidablePred p] : ∀ (m : Nat) (i : Int), (fsN p m i = -1 ∧ ∀ k : Int, i ≤ k → k < i + m → ¬ p k) ∨ (i ≤ fsN p m i ∧ fsN p m i < i + m ∧ p (fsN p m i) ∧ ∀ k : Int, i ≤ k → k < fsN p m i → ¬ p k)
  | 0, i => Or.inl ⟨rfl, fun k h1 h2 => absurd h2 (by omega)⟩
  | m + 1, i => by
    by_cases hp : p i
    · have e : fsN p (m + 1) i = i := if_pos hp
      rw [e]
      exact Or.inr ⟨by omega, by omega, hp, fun k h1 h2 => absurd h2 (by omega)⟩
    · have e : fsN p (m + 1) i = fsN p m (i + 1) := if_neg hp
      rw [e]
      rcases fsN_r p m (i + 1) with ⟨h1, h2⟩ | ⟨h1, h2, h3, h4⟩
      · refine Or.inl ⟨h1, fun k g1 g2 => ?_⟩
        rcases Int.lt_or_eq_of_le g1 with g | g
        · exact h2 k (by omega) (by omega)
        · rw [← g]; exact hp
      · refine Or.inr ⟨by omega, by omega, h3, fun k g1 g2 => ?_⟩
        rcases Int.lt_or_eq_of_le g1 with g | g
        · exact h4 k (by omega) g2
        · rw [← g]; exact hp
theorem fs_r (p : Int → Prop) [DecidablePred p] (i n : Int) : (fs p i n = -1 ∧ ∀ k : Int, i ≤ k → k < n → ¬ p k) ∨ (i ≤ fs p i n ∧ fs p i n < n ∧ p (fs p i n) ∧ ∀ k : Int, i ≤ k → k < fs p i n → ¬ p k) := by
  rcases fsN_r p (n - i).toNat i with ⟨h1, h2⟩ | ⟨h1, h2, h3, h4⟩
  · exact Or.inl ⟨h1, fun k g1 g2 => h2 k g1 (by omega)⟩
  · exact Or.inr ⟨h1, by unfold fs; omega, h3, h4⟩
/-- the greatest of f ahead of n, at least 0 -/
def mxN (f : Int → Int) : Nat → Int
  | 0 => 0
  | n + 1 => if mxN f n < f n then f n else mxN f n
def mx (f : Int → Int) (n : Int) : Int := mxN f n.toNat
theorem mx_0 (f : Int → Int) : mx f 0 = 0 := rfl
theorem mx_s (f : Int → Int) {n : Int} (h : 0 ≤ n) : mx f (n + 1) = if mx f n < f n then f n else mx f n := by
  have e : (n + 1).toNat = n.toNat + 1 := by omega
  unfold mx
  rw [e]
  show (if mxN f n.toNat < f ((n.toNat : Nat) : Int) then f ((n.toNat : Nat) : Int) else mxN f n.toNat) = _
  rw [Int.toNat_of_nonneg h]
theorem mxN_cong {f g : Int → Int} : ∀ (n : Nat), (∀ k : Int, 0 ≤ k → k < n → f k = g k) → mxN f n = mxN g n
  | 0, _ => rfl
  | n + 1, h => by
    show (if mxN f n < f n then f n else mxN f n) = (if mxN g n < g n then g n else mxN g n)
    rw [mxN_cong n (fun k h1 h2 => h k h1 (by omega)), h n (by omega) (by omega)]
theorem mx_cong {f g : Int → Int} {n : Int} (h : ∀ k : Int, 0 ≤ k → k < n → f k = g k) : mx f n = mx g n := mxN_cong _ (fun k h1 h2 => h k h1 (by omega))
theorem mxN_ge (f : Int → Int) : ∀ (n : Nat), 0 ≤ mxN f n ∧ ∀ k : Int, 0 ≤ k → k < n → f k ≤ mxN f n
  | 0 => ⟨Int.le_refl 0, fun k h1 h2 => absurd h2 (by omega)⟩
  | n + 1 => by
    obtain ⟨h0, h1⟩ := mxN_ge f n
    have e : mxN f (n + 1) = if mxN f n < f n then f n else mxN f n := rfl
    rw [e]
    by_cases hc : mxN f n < f n
    · rw [if_pos hc]
      refine ⟨by omega, fun k g1 g2 => ?_⟩
      by_cases hk : k = n
      · rw [hk]; omega
      · have := h1 k g1 (by omega); omega
    · rw [if_neg hc]
      refine ⟨h0, fun k g1 g2 => ?_⟩
      by_cases hk : k = n
      · rw [hk]; omega
      · exact h1 k g1 (by omega)
theorem mxN_at (f : Int → Int) : ∀ (n : Nat), mxN f n = 0 ∨ ∃ k : Int, 0 ≤ k ∧ k < n ∧ f k = mxN f n
  | 0 => Or.inl rfl
  | n + 1 => by
    have e : mxN f (n + 1) = if mxN f n < f n then f n else mxN f n := rfl
    rw [e]
    by_cases hc : mxN f n < f n
    · rw [if_pos hc]
      exact Or.inr ⟨n, by omega, by omega, rfl⟩
    · rw [if_neg hc]
      rcases mxN_at f n with h | ⟨k, h1, h2, h3⟩
      · exact Or.inl h
      · exact Or.inr ⟨k, h1, by omega, h3⟩
theorem mx_nn (f : Int → Int) (n : Int) : 0 ≤ mx f n := (mxN_ge f _).1
theorem mx_ge (f : Int → Int) {n k : Int} (h0 : 0 ≤ k) (h1 : k < n) : f k ≤ mx f n := (mxN_ge f _).2 k h0 (by omega)
theorem mx_at (f : Int → Int) (n : Int) : mx f n = 0 ∨ ∃ k : Int, 0 ≤ k ∧ k < n ∧ f k = mx f n := by
  rcases mxN_at f n.toNat with h | ⟨k, h1, h2, h3⟩
  · exact Or.inl h
  · exact Or.inr ⟨k, h1, by omega, h3⟩
theorem mx_le {f : Int → Int} {n c : Int} (hc : 0 ≤ c) (h : ∀ k : Int, 0 ≤ k → k < n → f k ≤ c) : mx f n ≤ c := by
  rcases mx_at f n with h1 | ⟨k, h1, h2, h3⟩
  · omega
  · have := h k h1 h2; omega
