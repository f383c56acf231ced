/-! how the objects lie, and what their numbers keep to -/
def BlS (V : Wo) (b : Nat) : Prop := woB V ≤ b ∧ woS V b = some (.inl 0) ∧ woS V (b + 1) = some (.inr (0, 20)) ∧ woS V (b + 2) = some (.inr (0, 20)) ∧ woS V (b + 3) = some (.inr (0, 20)) ∧ woS V (b + 4) = some (.inr (0, 20)) ∧ woS V (b + 5) = some (.inr (0, 20))
def StS (V : Wo) (h : Nat) : Prop := woB V ≤ h ∧ woS V h = some (.inl 3) ∧ BlS V (h + 1) ∧ woS V (h + 7) = some (.inr (0, 16)) ∧ woS V (h + 8) = some (.inr (0, 16)) ∧ woS V (h + 9) = some (.inr (0, 16)) ∧ woS V (h + 10) = some (.inr (0, 16)) ∧ woS V (h + 11) = some (.inr (0, 3))
/-- the block's numbers -/
def BlW (μ : Mem) (b : Nat) : Prop := 0 ≤ μ b 2 ∧ μ b 2 ≤ 20 ∧ (∀ i, 0 ≤ i → i < μ b 2 → 0 ≤ μ (b + 1) i ∧ μ (b + 1) i < 16) ∧ ∀ i, 0 ≤ i → i < μ b 2 → μ (b + 2) i = 0 ∨ μ (b + 2) i = 1
/-- a state's numbers, none above K -/
def StW (K : Int) (μ : Mem) (h : Nat) : Prop := K ≤ 1000000 ∧ BlW μ (h + 1) ∧ (∀ i, 0 ≤ i → i < 16 → 0 ≤ μ (h + 7) i ∧ μ (h + 7) i ≤ K) ∧ (∀ i, 0 ≤ i → i < 16 → 0 ≤ μ (h + 8) i ∧ μ (h + 8) i ≤ K) ∧ (∀ i, 0 ≤ i → i < 16 → 0 ≤ μ (h + 9) i ∧ μ (h + 9) i ≤ K) ∧ (∀ i, 0 ≤ i → i < 16 → 1 ≤ μ (h + 10) i ∧ μ (h + 10) i ≤ 31) ∧
  (1 ≤ μ (h + 11) 0 ∧ μ (h + 11) 0 ≤ 16) ∧ (2 ≤ μ (h + 11) 1 ∧ μ (h + 11) 1 ≤ 8) ∧ (1 ≤ μ (h + 11) 2 ∧ μ (h + 11) 2 ≤ 9) ∧ (0 ≤ μ h 6 ∧ μ h 6 ≤ K) ∧ (-1 ≤ μ h 7 ∧ μ h 7 ≤ 100)
