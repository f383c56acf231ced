/-! every share and every mean there may be -/
def tD (k n : Int) : UInt64 := FP.ddiv (FP.i2d (Int32.ofInt k)) (FP.i2d (Int32.ofInt n))
def alN (f : Nat → Bool) : Nat → Bool
  | 0 => true
  | n + 1 => f n && alN f n
theorem alN_at {f : Nat → Bool} : ∀ {m : Nat}, alN f m = true → ∀ k, k < m → f k = true
  | 0, _, k, hk => absurd hk (Nat.not_lt_zero k)
  | m + 1, h, k, hk => by
    unfold alN at h
    rw [Bool.and_eq_true] at h
    by_cases e : k = m
    · rw [e]; exact h.1
    · exact alN_at h.2 k (by omega)
def chkD (x : UInt64) : Bool := okD x && decide (cD x x .l = 0)
theorem all_D : alN (fun n => alN (fun k => chkD (tD (k : Int) (n : Int))) (if n = 0 then 0 else n + 1)) 21 = true := by decide +kernel
theorem one_ok : chkD FP.dconst1 = true := by decide +kernel
theorem chkD_e {x : UInt64} (h : chkD x = true) : okD x = true ∧ cD x x .l = 0 := by
  unfold chkD at h
  rw [Bool.and_eq_true] at h
  exact ⟨h.1, of_decide_eq_true h.2⟩
