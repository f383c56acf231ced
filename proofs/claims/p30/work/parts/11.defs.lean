/-! what the methods reckon, in numbers -/
theorem loop_ge {F : Int → Prop} {a n : Int} (hx : ∀ i, a ≤ i → n ≤ i → (i = a ∨ i = n) → F i) (hs : ∀ i, a ≤ i → i < n → F (i + 1) → F i) : F a := by
  by_cases h : a ≤ n
  · exact loop_up h (hx n h (Int.le_refl n) (Or.inr rfl)) hs
  · exact hx a (Int.le_refl a) (by omega) (Or.inl rfl)
theorem r_eq {X : Cx} {μ μ' : Mem} {pc : Nat} {ls st : List AV} (h : RR X μ' pc ls st) (e : μ = μ') : RR X μ pc ls st := e ▸ h
theorem wr_self (μ : Mem) (q : Nat) : wr μ q (μ q) = μ := by
  funext p
  by_cases h : p = q
  · subst h; exact wr_s ..
  · exact wr_n _ _ h
theorem wr_ww (μ : Mem) (q : Nat) (f g : Int → Int) : wr (wr μ q f) q g = wr μ q g := by
  funext p
  by_cases h : p = q
  · subst h; rw [wr_s, wr_s]
  · rw [wr_n _ _ h, wr_n _ _ h, wr_n _ _ h]
theorem wr_cm (μ : Mem) {q r : Nat} (f g : Int → Int) (h : q ≠ r) : wr (wr μ q f) r g = wr (wr μ r g) q f := by
  funext p
  by_cases h1 : p = q
  · subst h1; rw [wr_n _ _ h, wr_s, wr_s]
  · by_cases h2 : p = r
    · subst h2; rw [wr_s, wr_n _ _ h1, wr_s]
    · rw [wr_n _ _ h2, wr_n _ _ h1, wr_n _ _ h1, wr_n _ _ h2]
theorem wr2_1 (μ : Mem) {q r : Nat} (f g f' : Int → Int) (h : q ≠ r) : wr (wr (wr μ q f) r g) q f' = wr (wr μ q f') r g := by
  rw [wr_cm _ _ _ h, wr_ww, wr_cm _ _ _ (Ne.symm h)]
theorem s1_ss (f : Int → Int) (k x y : Int) : s1 (s1 f k x) k y = s1 f k y := by
  funext j
  unfold s1
  by_cases h : j = k
  · rw [if_pos h, if_pos h]
  · rw [if_neg h, if_neg h, if_neg h]
theorem cn_pos {p : Int → Prop} [DecidablePred p] {n k : Int} (h0 : 0 ≤ k) (h1 : k < n) (hp : p k) : cn p n ≠ 0 := by
  have key : ∀ m : Int, k < m → 0 < cn p m := by
    intro m hm
    refine loop_up (F := fun i => 0 < cn p i → 0 < cn p m) (a := k + 1) (b := m) (by omega) (fun h => h) (fun i g1 g2 K h => K ?_) ?_
    · rw [cn_s p (by omega)]
      have := b01_r (p i)
      omega
    · rw [cn_s p h0]
      have := cn_bd p h0
      have e : b01 (p k) = 1 := if_pos hp
      omega
  have := key n h1
  omega
theorem cn_zero {p : Int → Prop} [DecidablePred p] {n : Int} (h : cn p n = 0) : ∀ k : Int, 0 ≤ k → k < n → ¬ p k := fun k h0 h1 hp => cn_pos h0 h1 hp h
theorem cn_none {p : Int → Prop} [DecidablePred p] {n : Int} (h : ∀ k : Int, 0 ≤ k → k < n → ¬ p k) : cn p n = 0 := by
  have : cn p n = cn (fun _ => False) n := cn_cong (fun k h0 h1 => ⟨fun z => (h k h0 h1 z), False.elim⟩)
  rw [this]
  have key : ∀ m : Nat, smN (fun _ => b01 False) m = 0 := by
    intro m
    induction m with
    | zero => rfl
    | succ m ih => show smN _ m + b01 False = 0; rw [ih]; rfl
  exact key _
/-- the rows behind a move up of those behind a place, a sheet that is put in, one that is taken out -/
def shU (f : Int → Int) (i n : Int) : Int → Int := fun j => if i < j ∧ j ≤ n then f (j - 1) else f j
theorem shU_n (f : Int → Int) (n : Int) : shU f n n = f := by
  funext j
  exact if_neg (by omega)
theorem shU_s (f : Int → Int) {i n : Int} (h : i ≤ n) : s1 (shU f i n) i (shU f i n (i - 1)) = shU f (i - 1) n := by
  funext j
  unfold s1
  by_cases h1 : j = i
  · subst h1
    rw [if_pos rfl]
    unfold shU
    rw [if_neg (by omega), if_pos (by omega)]
  · rw [if_neg h1]
    unfold shU
    by_cases h2 : i < j ∧ j ≤ n
    · rw [if_pos h2, if_pos (by omega)]
    · rw [if_neg h2, if_neg (by omega)]
def insR (f : Int → Int) (p n x : Int) : Int → Int := s1 (shU f p n) p x
def shD (f : Int → Int) (p i : Int) : Int → Int := fun j => if p ≤ j ∧ j < i then f (j + 1) else f j
theorem shD_0 (f : Int → Int) (p : Int) : shD f p p = f := by
  funext j
  exact if_neg (by omega)
theorem shD_s (f : Int → Int) {p i : Int} (h : p ≤ i) : s1 (shD f p i) i (shD f p i (i + 1)) = shD f p (i + 1) := by
  funext j
  unfold s1
  by_cases h1 : j = i
  · subst h1
    rw [if_pos rfl]
    unfold shD
    rw [if_neg (by omega), if_pos (by omega)]
  · rw [if_neg h1]
    unfold shD
    by_cases h2 : p ≤ j ∧ j < i
    · rw [if_pos h2, if_pos (by omega)]
    · rw [if_neg h2, if_neg (by omega)]
abbrev remR (f : Int → Int) (p n : Int) : Int → Int := shD f p (n - 1)
theorem b01_t {p : Prop} [Decidable p] (h : p) : b01 p = 1 := if_pos h
theorem b01_f {p : Prop} [Decidable p] (h : ¬ p) : b01 p = 0 := if_neg h
theorem s1_id (f : Int → Int) (k : Int) : s1 f k (f k) = f := by
  funext j
  unfold s1
  by_cases h : j = k
  · rw [if_pos h, h]
  · rw [if_neg h]
def wfB (n : Int) (a d : Int → Int) : Prop := 0 ≤ n ∧ n ≤ 20 ∧ (∀ i, 0 ≤ i → i < n → 0 ≤ a i ∧ a i < 16) ∧ ∀ i, 0 ≤ i → i < n → d i = 0 ∨ d i = 1
theorem wfB_rem {n p : Int} {a d : Int → Int} (h : wfB n a d) (hp : 0 ≤ p) (hp2 : p < n) : wfB (n - 1) (remR a p n) (remR d p n) := by
  obtain ⟨h0, h1, h2, h3⟩ := h
  refine ⟨by omega, by omega, fun i g0 g1 => ?_, fun i g0 g1 => ?_⟩
  · show 0 ≤ shD a p (n - 1) i ∧ shD a p (n - 1) i < 16
    unfold shD
    by_cases hc : p ≤ i ∧ i < n - 1
    · rw [if_pos hc]; exact h2 _ (by omega) (by omega)
    · rw [if_neg hc]; exact h2 _ (by omega) (by omega)
  · show shD d p (n - 1) i = 0 ∨ shD d p (n - 1) i = 1
    unfold shD
    by_cases hc : p ≤ i ∧ i < n - 1
    · rw [if_pos hc]; exact h3 _ (by omega) (by omega)
    · rw [if_neg hc]; exact h3 _ (by omega) (by omega)
theorem insR_at (f : Int → Int) (p n x j : Int) : insR f p n x j = if j = p then x else if p < j ∧ j ≤ n then f (j - 1) else f j := by
  unfold insR s1 shU
  rfl
theorem wfB_ins {n p x y : Int} {a d : Int → Int} (h : wfB n a d) (hp : 0 ≤ p) (hp2 : p ≤ n) (hn : n < 20) (hx : 0 ≤ x ∧ x < 16) (hy : y = 0 ∨ y = 1) : wfB (n + 1) (insR a p n x) (insR d p n y) := by
  obtain ⟨h0, h1, h2, h3⟩ := h
  refine ⟨by omega, by omega, fun i g0 g1 => ?_, fun i g0 g1 => ?_⟩
  · rw [insR_at]
    by_cases h4 : i = p
    · rw [if_pos h4]; exact hx
    · rw [if_neg h4]
      by_cases h5 : p < i ∧ i ≤ n
      · rw [if_pos h5]; exact h2 _ (by omega) (by omega)
      · rw [if_neg h5]; exact h2 _ (by omega) (by omega)
  · rw [insR_at]
    by_cases h4 : i = p
    · rw [if_pos h4]; exact hy
    · rw [if_neg h4]
      by_cases h5 : p < i ∧ i ≤ n
      · rw [if_pos h5]; exact h3 _ (by omega) (by omega)
      · rw [if_neg h5]; exact h3 _ (by omega) (by omega)
theorem wfB_flip {n p : Int} {a d : Int → Int} (h : wfB n a d) : wfB n a (s1 d p (1 - d p)) := by
  obtain ⟨h0, h1, h2, h3⟩ := h
  refine ⟨h0, h1, h2, fun i g0 g1 => ?_⟩
  unfold s1
  by_cases h4 : i = p
  · rw [if_pos h4, ← h4]; have := h3 i g0 g1; omega
  · rw [if_neg h4]; exact h3 i g0 g1
theorem jn {A B : Prop} (a : A) (f : A → B) : B := f a
/-- the longest row that ends with each sheet; that begins with it; the piles -/
def leT (a r0 : Int → Int) : Nat → (Int → Int)
  | 0 => r0
  | k + 1 => s1 (leT a r0 k) k (1 + mx (fun e => if a e ≤ a k then leT a r0 k e else 0) k)
def leI (a r0 : Int → Int) (i : Int) : Int → Int := leT a r0 i.toNat
theorem leI_0 (a r0 : Int → Int) : leI a r0 0 = r0 := rfl
theorem leI_s (a r0 : Int → Int) {i : Int} (h : 0 ≤ i) : leI a r0 (i + 1) = s1 (leI a r0 i) i (1 + mx (fun e => if a e ≤ a i then leI a r0 i e else 0) i) := by
  unfold leI
  rw [show (i + 1).toNat = i.toNat + 1 by omega]
  show s1 (leT a r0 i.toNat) ((i.toNat : Nat) : Int) (1 + mx (fun e => if a e ≤ a ((i.toNat : Nat) : Int) then leT a r0 i.toNat e else 0) ((i.toNat : Nat) : Int)) = _
  rw [Int.toNat_of_nonneg h]
theorem leI_bd (a r0 : Int → Int) {n : Int} (h : 0 ≤ n) : ∀ e, 0 ≤ e → e < n → 1 ≤ leI a r0 n e ∧ leI a r0 n e ≤ e + 1 := by
  refine loop_up (F := fun i => (∀ e, 0 ≤ e → e < i → 1 ≤ leI a r0 i e ∧ leI a r0 i e ≤ e + 1) → ∀ e, 0 ≤ e → e < n → 1 ≤ leI a r0 n e ∧ leI a r0 n e ≤ e + 1) (a := 0) (b := n) h (fun g => g) (fun i h0 h1 K g => K ?_) (fun e h0 h1 => absurd h1 (by omega))
  intro e g0 g1
  rw [leI_s a r0 h0]
  unfold s1
  by_cases he : e = i
  · rw [if_pos he]
    have h2 := mx_nn (fun e => if a e ≤ a i then leI a r0 i e else 0) i
    have h3 : mx (fun e => if a e ≤ a i then leI a r0 i e else 0) i ≤ i := mx_le h0 (fun k k0 k1 => by
      show (if a k ≤ a i then leI a r0 i k else 0) ≤ i
      have := g k k0 k1
      by_cases hc : a k ≤ a i
      · rw [if_pos hc]; omega
      · rw [if_neg hc]; exact h0)
    omega
  · rw [if_neg he]; exact g e g0 (by omega)
def lbT (a r0 : Int → Int) (n : Int) : Nat → (Int → Int)
  | 0 => r0
  | k + 1 => s1 (lbT a r0 n k) (n - 1 - k) (1 + mx (fun e => if a (n - k + e) ≥ a (n - 1 - k) then lbT a r0 n k (n - k + e) else 0) k)
/-- .. down to the place i -/
def lbI (a r0 : Int → Int) (n i : Int) : Int → Int := lbT a r0 n (n - i).toNat
theorem lbI_n (a r0 : Int → Int) (n : Int) : lbI a r0 n n = r0 := by
  unfold lbI
  rw [show (n - n).toNat = 0 by omega]
  rfl
theorem lbI_s (a r0 : Int → Int) {n i : Int} (h : i < n) : lbI a r0 n i = s1 (lbI a r0 n (i + 1)) i (1 + mx (fun e => if a (i + 1 + e) ≥ a i then lbI a r0 n (i + 1) (i + 1 + e) else 0) (n - (i + 1))) := by
  unfold lbI
  rw [show (n - i).toNat = (n - (i + 1)).toNat + 1 by omega]
  show s1 (lbT a r0 n (n - (i + 1)).toNat) (n - 1 - (((n - (i + 1)).toNat : Nat) : Int)) (1 + mx (fun e => if a (n - (((n - (i + 1)).toNat : Nat) : Int) + e) ≥ a (n - 1 - (((n - (i + 1)).toNat : Nat) : Int)) then lbT a r0 n (n - (i + 1)).toNat (n - (((n - (i + 1)).toNat : Nat) : Int) + e) else 0) (((n - (i + 1)).toNat : Nat) : Int)) = _
  rw [Int.toNat_of_nonneg (by omega : 0 ≤ n - (i + 1)), show n - 1 - (n - (i + 1)) = i by omega, show n - (n - (i + 1)) = i + 1 by omega]
theorem lbI_bd (a r0 : Int → Int) {n i : Int} (h : 0 ≤ i) (hi : i ≤ n) : ∀ e, i ≤ e → e < n → 1 ≤ lbI a r0 n i e ∧ lbI a r0 n i e ≤ n - e := by
  refine loop_dn (F := fun j => (∀ e, j ≤ e → e < n → 1 ≤ lbI a r0 n j e ∧ lbI a r0 n j e ≤ n - e) → ∀ e, i ≤ e → e < n → 1 ≤ lbI a r0 n i e ∧ lbI a r0 n i e ≤ n - e) (a := i) (b := n) hi (fun g => g) (fun j h0 h1 K g => K ?_) (fun e h0 h1 => absurd h1 (by omega))
  intro e g0 g1
  rw [lbI_s a r0 (by omega : j - 1 < n), show j - 1 + 1 = j by omega]
  unfold s1
  by_cases he : e = j - 1
  · rw [if_pos he]
    have h2 := mx_nn (fun e => if a (j + e) ≥ a (j - 1) then lbI a r0 n j (j + e) else 0) (n - j)
    have h3 : mx (fun e => if a (j + e) ≥ a (j - 1) then lbI a r0 n j (j + e) else 0) (n - j) ≤ n - j := mx_le (by omega) (fun k k0 k1 => by
      show (if a (j + k) ≥ a (j - 1) then lbI a r0 n j (j + k) else 0) ≤ n - j
      have := g (j + k) (by omega) (by omega)
      by_cases hc : a (j + k) ≥ a (j - 1)
      · rw [if_pos hc]; omega
      · rw [if_neg hc]; omega)
    omega
  · rw [if_neg he]; exact g e (by omega) g1
def ps (T : Int → Int) (x P : Int) : Int := if fs (fun j => x < T j) 0 P < 0 then P else fs (fun j => x < T j) 0 P
def plT (a r0 : Int → Int) : Nat → (Int → Int) × Int
  | 0 => (r0, 0)
  | k + 1 => (s1 (plT a r0 k).1 (ps (plT a r0 k).1 (a k) (plT a r0 k).2) (a k), if (plT a r0 k).2 < ps (plT a r0 k).1 (a k) (plT a r0 k).2 + 1 then ps (plT a r0 k).1 (a k) (plT a r0 k).2 + 1 else (plT a r0 k).2)
def plI (a r0 : Int → Int) (i : Int) : (Int → Int) × Int := plT a r0 i.toNat
theorem plI_s (a r0 : Int → Int) {i : Int} (h : 0 ≤ i) : plI a r0 (i + 1) = (s1 (plI a r0 i).1 (ps (plI a r0 i).1 (a i) (plI a r0 i).2) (a i), if (plI a r0 i).2 < ps (plI a r0 i).1 (a i) (plI a r0 i).2 + 1 then ps (plI a r0 i).1 (a i) (plI a r0 i).2 + 1 else (plI a r0 i).2) := by
  unfold plI
  rw [show (i + 1).toNat = i.toNat + 1 by omega]
  show (s1 (plT a r0 i.toNat).1 (ps (plT a r0 i.toNat).1 (a ((i.toNat : Nat) : Int)) (plT a r0 i.toNat).2) (a ((i.toNat : Nat) : Int)), if (plT a r0 i.toNat).2 < ps (plT a r0 i.toNat).1 (a ((i.toNat : Nat) : Int)) (plT a r0 i.toNat).2 + 1 then ps (plT a r0 i.toNat).1 (a ((i.toNat : Nat) : Int)) (plT a r0 i.toNat).2 + 1 else (plT a r0 i.toNat).2) = _
  rw [Int.toNat_of_nonneg h]
theorem ps_bd (T : Int → Int) (x : Int) {P : Int} (h : 0 ≤ P) : 0 ≤ ps T x P ∧ ps T x P ≤ P := by
  unfold ps
  rcases fs_r (fun j => x < T j) 0 P with ⟨h1, -⟩ | ⟨h1, h2, -⟩
  · rw [if_pos (by omega)]; omega
  · rw [if_neg (by omega)]; omega
theorem plI_bd (a r0 : Int → Int) {n c : Int} (h : 0 ≤ n) (ha : ∀ i, 0 ≤ i → i < n → 0 ≤ a i ∧ a i ≤ c) : (0 ≤ (plI a r0 n).2 ∧ (plI a r0 n).2 ≤ n) ∧ ∀ e, 0 ≤ e → e < (plI a r0 n).2 → 0 ≤ (plI a r0 n).1 e ∧ (plI a r0 n).1 e ≤ c := by
  refine loop_up (F := fun i => ((0 ≤ (plI a r0 i).2 ∧ (plI a r0 i).2 ≤ i) ∧ ∀ e, 0 ≤ e → e < (plI a r0 i).2 → 0 ≤ (plI a r0 i).1 e ∧ (plI a r0 i).1 e ≤ c) → ((0 ≤ (plI a r0 n).2 ∧ (plI a r0 n).2 ≤ n) ∧ ∀ e, 0 ≤ e → e < (plI a r0 n).2 → 0 ≤ (plI a r0 n).1 e ∧ (plI a r0 n).1 e ≤ c)) (a := 0) (b := n) h (fun g => g) (fun i h0 h1 K g => K ?_) ⟨⟨Int.le_refl 0, Int.le_refl 0⟩, fun e h0 h1 => absurd h1 (by show ¬ e < 0; omega)⟩
  obtain ⟨⟨g1, g2⟩, g3⟩ := g
  rw [plI_s a r0 h0]
  have hb := ps_bd (plI a r0 i).1 (a i) g1
  generalize ps (plI a r0 i).1 (a i) (plI a r0 i).2 = p at hb
  dsimp only
  refine ⟨?_, fun e e0 e1 => ?_⟩
  · by_cases hc : (plI a r0 i).2 < p + 1
    · rw [if_pos hc]; omega
    · rw [if_neg hc]; omega
  · unfold s1
    by_cases he : e = p
    · rw [if_pos he]; exact ha i h0 h1
    · rw [if_neg he]
      refine g3 e e0 ?_
      by_cases hc : (plI a r0 i).2 < p + 1
      · rw [if_pos hc] at e1; omega
      · rw [if_neg hc] at e1; omega
