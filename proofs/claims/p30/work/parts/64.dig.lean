/-! shares, means, the digest -/
theorem nat_at {P : Int → Prop} {n : Nat} (h : ∀ k : Nat, k < n → P (k : Int)) {x : Int} (h0 : 0 ≤ x) (h1 : x < (n : Int)) : P x := by
  have := h x.toNat (by omega)
  rw [Int.toNat_of_nonneg h0] at this
  exact this
theorem chkD_at {k n : Int} (hn : 1 ≤ n) (hn2 : n ≤ 20) (ht : 0 ≤ k) (ht2 : k ≤ n) : chkD (tD k n) = true := by
  have h := alN_at all_D n.toNat (by omega)
  rw [if_neg (by omega : ¬ n.toNat = 0), Int.toNat_of_nonneg (by omega : 0 ≤ n)] at h
  exact nat_at (P := fun x => chkD (tD x n) = true) (alN_at h) ht (by omega)
def shT (v : Int → Int) : UInt64 := if v 3 = 0 then FP.dconst1 else tD (v 3 - brks (v 1) (vN v) (vD v) (v 3)) (v 3)
theorem chk_sh {K : Int} {v : Int → Int} (hv : veW K v) : chkD (shT v) = true := by
  obtain ⟨v0, v1, v2, v3, v4, v5, v6, v7, v8, v9, v10⟩ := hv
  unfold shT
  by_cases h : v 3 = 0
  · rw [if_pos h]; exact one_ok
  · rw [if_neg h]
    have := brks_r (v 1) (vN v) (vD v) v4.1
    exact chkD_at (by omega) v4.2 (by omega) (by omega)
theorem thS_r {s2 n : Int} {ho a : Int → Int} (hs : 1 ≤ s2 ∧ s2 ≤ 9) (hh : wfH ho) (ha : ∀ i, 0 ≤ i → i < n → 0 ≤ a i ∧ a i < 16) (hn : 0 ≤ n) : 0 ≤ thS s2 ho a n ∧ thS s2 ho a n ≤ 49 * n := by
  have h1 := sm_bd (f := fun k => stA ho a k) (c := 5) hn (fun k k0 k1 => stA_r hh ha k0 k1)
  have h2 := sm_bd (f := fun k => spn (ho (a k))) (c := 4) hn (fun k k0 k1 => spn_r (hh _ (ha k k0 k1).1 (ha k k0 k1).2).1 (hh _ (ha k k0 k1).1 (ha k k0 k1).2).2)
  have h3 : 0 ≤ stS ho a n * s2 := Int.mul_nonneg h1.1 (by omega)
  have h4 : stS ho a n * s2 ≤ n * 5 * 9 := Int.mul_le_mul h1.2 hs.2 (by omega) (by omega)
  unfold thS
  omega
/-- hashed, one number behind another -/
def hsN (f : Int → Int) (h : Int64) : Nat → Int64
  | 0 => h
  | n + 1 => 31 * hsN f h n + Int64.ofInt (f n)
def hs (f : Int → Int) (h : Int64) (n : Int) : Int64 := hsN f h n.toNat
theorem hs_0 (f : Int → Int) (h : Int64) : hs f h 0 = h := rfl
theorem hs_s (f : Int → Int) (h : Int64) {n : Int} (hn : 0 ≤ n) : hs f h (n + 1) = 31 * hs f h n + Int64.ofInt (f n) := by
  unfold hs
  rw [show (n + 1).toNat = n.toNat + 1 by omega]
  show 31 * hsN f h n.toNat + Int64.ofInt (f ((n.toNat : Nat) : Int)) = _
  rw [Int.toNat_of_nonneg hn]
