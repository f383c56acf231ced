def sLo (x : Int) : Int := if x = 1 then 2 else 1
def sUp (x : Int) : Int := if x = 0 then 16 else if x = 1 then 8 else 9
/-- the static rows -/
def ZS (V : Wo) (μ : Mem) : Prop := (woS V (woZ V).1 = some (.inr (0, 3)) ∧ (woZ V).1 < woB V) ∧ (woS V (woZ V).2.1 = some (.inr (0, 3)) ∧ (woZ V).2.1 < woB V) ∧ ∀ x, 0 ≤ x → x < 3 → μ (woZ V).1 x = sLo x ∧ μ (woZ V).2.1 x = sUp x
theorem sLo_r (x : Int) : 1 ≤ sLo x ∧ sLo x ≤ 2 := by unfold sLo; split <;> omega
theorem sUp_r (x : Int) : 8 ≤ sUp x ∧ sUp x ≤ 16 := by unfold sUp; split <;> (try split) <;> omega
theorem veW_put {K : Int} {v : Int → Int} {x c : Int} (hv : veW K v) : (0 ≤ x → x < 16 → 0 ≤ c → c ≤ K → veW K (s1 v (6 + x) c)) ∧ (0 ≤ x → x < 16 → 0 ≤ c → c ≤ K → veW K (s1 v (38 + x) c)) ∧ (0 ≤ x → x < 16 → 1 ≤ c → c ≤ 31 → veW K (s1 v (54 + x) c)) ∧ (0 ≤ x → x < 3 → sLo x ≤ c → c ≤ sUp x → veW K (s1 v x c)) := by
  obtain ⟨v0, v1, v2, v3, v4, v5, v6, v7, v8, v9, v10⟩ := hv
  refine ⟨fun x0 x1 c0 c1 => ?_, fun x0 x1 c0 c1 => ?_, fun x0 x1 c0 c1 => ?_, fun x0 x1 c0 c1 => ?_⟩
  · unfold veW
    rw [s1_n _ _ (show (0 : Int) ≠ 6 + x by omega), s1_n _ _ (show (1 : Int) ≠ 6 + x by omega), s1_n _ _ (show (2 : Int) ≠ 6 + x by omega), s1_n _ _ (show (3 : Int) ≠ 6 + x by omega), s1_n _ _ (show (4 : Int) ≠ 6 + x by omega), s1_n _ _ (show (5 : Int) ≠ 6 + x by omega)]
    refine ⟨v0, v1, v2, v3, v4, v5, v6, fun i h0 h1 => ?_, fun i h0 h1 => by rw [s1_n _ _ (by omega)]; exact v8 i h0 h1, fun i h0 h1 => by rw [s1_n _ _ (by omega)]; exact v9 i h0 h1, fun i h0 h1 => by rw [s1_n _ _ (by omega)]; exact v10 i h0 h1⟩
    by_cases e : i = x
    · rw [e, s1_s]; exact ⟨c0, c1⟩
    · rw [s1_n _ _ (by omega)]; exact v7 i h0 h1
  · unfold veW
    rw [s1_n _ _ (show (0 : Int) ≠ 38 + x by omega), s1_n _ _ (show (1 : Int) ≠ 38 + x by omega), s1_n _ _ (show (2 : Int) ≠ 38 + x by omega), s1_n _ _ (show (3 : Int) ≠ 38 + x by omega), s1_n _ _ (show (4 : Int) ≠ 38 + x by omega), s1_n _ _ (show (5 : Int) ≠ 38 + x by omega)]
    refine ⟨v0, v1, v2, v3, v4, v5, v6, fun i h0 h1 => ?_, fun i h0 h1 => by rw [s1_n _ _ (by omega)]; exact v8 i h0 h1, fun i h0 h1 => by rw [s1_n _ _ (by omega)]; exact v9 i h0 h1, fun i h0 h1 => by rw [s1_n _ _ (by omega)]; exact v10 i h0 h1⟩
    by_cases e : 6 + i = 38 + x
    · rw [e, s1_s]; exact ⟨c0, c1⟩
    · rw [s1_n _ _ e]; exact v7 i h0 h1
  · unfold veW
    rw [s1_n _ _ (show (0 : Int) ≠ 54 + x by omega), s1_n _ _ (show (1 : Int) ≠ 54 + x by omega), s1_n _ _ (show (2 : Int) ≠ 54 + x by omega), s1_n _ _ (show (3 : Int) ≠ 54 + x by omega), s1_n _ _ (show (4 : Int) ≠ 54 + x by omega), s1_n _ _ (show (5 : Int) ≠ 54 + x by omega)]
    refine ⟨v0, v1, v2, v3, v4, v5, v6, fun i h0 h1 => by rw [s1_n _ _ (by omega)]; exact v7 i h0 h1, fun i h0 h1 => ?_, fun i h0 h1 => by rw [s1_n _ _ (by omega)]; exact v9 i h0 h1, fun i h0 h1 => by rw [s1_n _ _ (by omega)]; exact v10 i h0 h1⟩
    by_cases e : i = x
    · rw [e, s1_s]; exact ⟨c0, c1⟩
    · rw [s1_n _ _ (by omega)]; exact v8 i h0 h1
  · unfold veW
    rw [s1_n _ _ (show (3 : Int) ≠ x by omega), s1_n _ _ (show (4 : Int) ≠ x by omega), s1_n _ _ (show (5 : Int) ≠ x by omega)]
    unfold sLo at c0
    unfold sUp at c1
    refine ⟨v0, ?_, ?_, ?_, v4, v5, v6, fun i h0 h1 => by rw [s1_n _ _ (by omega)]; exact v7 i h0 h1, fun i h0 h1 => by rw [s1_n _ _ (by omega)]; exact v8 i h0 h1, fun i h0 h1 => by rw [s1_n _ _ (by omega)]; exact v9 i h0 h1, fun i h0 h1 => by rw [s1_n _ _ (by omega)]; exact v10 i h0 h1⟩
    · by_cases e : 0 = x
      · rw [← e, s1_s]; rw [← e] at c0 c1; simp at c0 c1; omega
      · rw [s1_n _ _ e]; exact v1
    · by_cases e : 1 = x
      · rw [← e, s1_s]; rw [← e] at c0 c1; simp at c0 c1; omega
      · rw [s1_n _ _ e]; exact v2
    · by_cases e : 2 = x
      · rw [← e, s1_s]; rw [← e] at c0 c1; simp at c0 c1; omega
      · rw [s1_n _ _ e]; exact v3
