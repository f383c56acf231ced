/-! the class's object, unchanged but for scratch; a block copied, a sheet taken out of the copy -/
def CU (V : Wo) (K : Int) (q : Nat) (w tx : Int → Int) (sv kp ln : Int) (μ ν : Mem) : Prop := CI V K q ν w tx sv kp ln ∧ ∀ r, (r < q ∨ q + 112 < r) → ν r = μ r
theorem cuT {V : Wo} {K : Int} {q : Nat} {w tx : Int → Int} {sv kp ln : Int} {μ ν ρ : Mem} (N : CU V K q w tx sv kp ln μ ν) (R : CI V K q ρ w tx sv kp ln ∧ ∀ r, (r < q ∨ q + 112 < r) → ρ r = ν r) : CU V K q w tx sv kp ln μ ρ := ⟨R.1, fun r hr => (R.2 r hr).trans (N.2 r hr)⟩
theorem cu0 {V : Wo} {K : Int} {q : Nat} {w tx : Int → Int} {sv kp ln : Int} {μ : Mem} (h : CI V K q μ w tx sv kp ln) : CU V K q w tx sv kp ln μ μ := ⟨h, fun _ _ => rfl⟩
theorem cuF {V : Wo} {K : Int} {q : Nat} {w tx : Int → Int} {sv kp ln : Int} {μ ν ρ : Mem} (N : CU V K q w tx sv kp ln μ ν) (h : ∀ r, (r < q + 25 ∨ q + 36 < r) → (r < q + 5 ∨ q + 7 < r) → ρ r = ν r) : CU V K q w tx sv kp ln μ ρ :=
  ⟨CI_f N.1 (fun r _ _ r2 r3 _ => h r r2 r3) (by rw [h (q + 111) (by omega) (by omega)]; exact N.1.2.2.2.2.2), fun r hr => (h r (by omega) (by omega)).trans (N.2 r hr)⟩
def cpB (μ : Mem) (b c : Nat) : Mem := wr (wr (wr μ (b + 1) (μ (c + 1))) (b + 2) (μ (c + 2))) b (s1 (μ b) 2 (μ c 2))
def tkB (μ : Mem) (b : Nat) (p : Int) : Mem := wr (wr (wr μ (b + 1) (remR (μ (b + 1)) p (μ b 2))) (b + 2) (remR (μ (b + 2)) p (μ b 2))) b (s1 (μ b) 2 (μ b 2 - 1))
theorem cpB_1 (μ : Mem) (b c : Nat) : cpB μ b c (b + 1) = μ (c + 1) := by unfold cpB; rw [wr_n _ _ (by omega), wr_n _ _ (by omega), wr_s]
theorem cpB_2 (μ : Mem) (b c : Nat) : cpB μ b c (b + 2) = μ (c + 2) := by unfold cpB; rw [wr_n _ _ (by omega), wr_s]
theorem cpB_b (μ : Mem) (b c : Nat) : cpB μ b c b 2 = μ c 2 := by unfold cpB; rw [wr_s, s1_s]
theorem cpB_o (μ : Mem) {b c r : Nat} (h : r < b ∨ b + 2 < r) : cpB μ b c r = μ r := by unfold cpB; rw [wr_n _ _ (by omega), wr_n _ _ (by omega), wr_n _ _ (by omega)]
theorem tkB_1 (μ : Mem) (b : Nat) (p : Int) : tkB μ b p (b + 1) = remR (μ (b + 1)) p (μ b 2) := by unfold tkB; rw [wr_n _ _ (by omega), wr_n _ _ (by omega), wr_s]
theorem tkB_2 (μ : Mem) (b : Nat) (p : Int) : tkB μ b p (b + 2) = remR (μ (b + 2)) p (μ b 2) := by unfold tkB; rw [wr_n _ _ (by omega), wr_s]
theorem tkB_b (μ : Mem) (b : Nat) (p : Int) : tkB μ b p b 2 = μ b 2 - 1 := by unfold tkB; rw [wr_s, s1_s]
theorem tkB_o (μ : Mem) {b r : Nat} {p : Int} (h : r < b ∨ b + 2 < r) : tkB μ b p r = μ r := by unfold tkB; rw [wr_n _ _ (by omega), wr_n _ _ (by omega), wr_n _ _ (by omega)]
theorem BlW_cp {μ : Mem} {b c : Nat} (h : BlW μ c) : BlW (cpB μ b c) b := by
  unfold BlW
  rw [cpB_1, cpB_2, cpB_b]
  exact h
theorem BlW_tk {μ : Mem} {b : Nat} {p : Int} (h : BlW μ b) (hp : 0 ≤ p) (hp2 : p < μ b 2) : BlW (tkB μ b p) b := by
  obtain ⟨h0, h1, h2, h3⟩ := h
  unfold BlW
  rw [tkB_1, tkB_2, tkB_b]
  refine ⟨by omega, by omega, fun i i0 i1 => ?_, fun i i0 i1 => ?_⟩ <;> rw [remR_at]
  · split
    · exact h2 (i + 1) (by omega) (by omega)
    · exact h2 i i0 (by omega)
  · split
    · exact h3 (i + 1) (by omega) (by omega)
    · exact h3 i i0 (by omega)
theorem fs_rn (p : Int → Prop) [DecidablePred p] (n : Int) : fs p 0 n = -1 ∨ (0 ≤ fs p 0 n ∧ fs p 0 n < n) := by
  rcases fs_r p 0 n with ⟨h, -⟩ | ⟨h1, h2, -⟩
  · exact Or.inl h
  · exact Or.inr ⟨h1, h2⟩
theorem tk_wN {μ : Mem} {q : Nat} {w : Int → Int} {p : Int} (e : StE μ (q + 1) w) (h20 : w 3 ≤ 20) (hp : 0 ≤ p) (hp2 : p < w 3) : ∀ i, 0 ≤ i → i < w 3 - 1 → tkB (cpB μ (q + 25 + 1) (q + 1 + 1)) (q + 25 + 1) p (q + 25 + 1 + 1) i = wN w p i := fun i i0 i1 => by
  rw [tkB_1, cpB_1, cpB_b, e.2.1, remR_at]
  unfold wN
  by_cases c : p ≤ i
  · rw [if_pos ⟨c, i1⟩, if_pos ⟨hp, c⟩]; exact StE_N e (i + 1) (by omega) (by omega)
  · rw [if_neg (fun z => c z.1), if_neg (fun z => c z.2)]; exact StE_N e i i0 (by omega)
