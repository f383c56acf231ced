/-! shares, means, the digest -/
theorem nat_at {P : Int → Prop} {n : Nat} (h : ∀ k : Nat, k < n → P (k : Int)) {x : Int} (h0 : 0 ≤ x) (h1 : x < (n : Int)) : P x := by
  have := h x.toNat (by omega)
  rw [Int.toNat_of_nonneg h0] at this
  exact this
theorem chkF_at {t n : Int} (hn : 1 ≤ n) (hn2 : n ≤ 20) (ht : 0 ≤ t) (ht2 : t ≤ 49 * n) : chkF (tF t n) = true := by
  rw [← chkFS_e]
  rcases (by omega : n = 1 ∨ n = 2 ∨ n = 3 ∨ n = 4 ∨ n = 5 ∨ n = 6 ∨ n = 7 ∨ n = 8 ∨ n = 9 ∨ n = 10 ∨ n = 11 ∨ n = 12 ∨ n = 13 ∨ n = 14 ∨ n = 15 ∨ n = 16 ∨ n = 17 ∨ n = 18 ∨ n = 19 ∨ n = 20) with e | e | e | e | e | e | e | e | e | e | e | e | e | e | e | e | e | e | e | e <;> subst e
  · exact nat_at (P := fun x => chkFS (tF x 1) = true) (alN_at all_F1) ht (by omega)
  · exact nat_at (P := fun x => chkFS (tF x 2) = true) (alN_at all_F2) ht (by omega)
  · exact nat_at (P := fun x => chkFS (tF x 3) = true) (alN_at all_F3) ht (by omega)
  · exact nat_at (P := fun x => chkFS (tF x 4) = true) (alN_at all_F4) ht (by omega)
  · exact nat_at (P := fun x => chkFS (tF x 5) = true) (alN_at all_F5) ht (by omega)
  · exact nat_at (P := fun x => chkFS (tF x 6) = true) (alN_at all_F6) ht (by omega)
  · exact nat_at (P := fun x => chkFS (tF x 7) = true) (alN_at all_F7) ht (by omega)
  · exact nat_at (P := fun x => chkFS (tF x 8) = true) (alN_at all_F8) ht (by omega)
  · exact nat_at (P := fun x => chkFS (tF x 9) = true) (alN_at all_F9) ht (by omega)
  · exact nat_at (P := fun x => chkFS (tF x 10) = true) (alN_at all_F10) ht (by omega)
  · exact nat_at (P := fun x => chkFS (tF x 11) = true) (alN_at all_F11) ht (by omega)
  · exact nat_at (P := fun x => chkFS (tF x 12) = true) (alN_at all_F12) ht (by omega)
  · exact nat_at (P := fun x => chkFS (tF x 13) = true) (alN_at all_F13) ht (by omega)
  · exact nat_at (P := fun x => chkFS (tF x 14) = true) (alN_at all_F14) ht (by omega)
  · exact nat_at (P := fun x => chkFS (tF x 15) = true) (alN_at all_F15) ht (by omega)
  · exact nat_at (P := fun x => chkFS (tF x 16) = true) (alN_at all_F16) ht (by omega)
  · exact nat_at (P := fun x => chkFS (tF x 17) = true) (alN_at all_F17) ht (by omega)
  · exact nat_at (P := fun x => chkFS (tF x 18) = true) (alN_at all_F18) ht (by omega)
  · exact nat_at (P := fun x => chkFS (tF x 19) = true) (alN_at all_F19) ht (by omega)
  · exact nat_at (P := fun x => chkFS (tF x 20) = true) (alN_at all_F20) ht (by omega)
theorem chkD_at {k n : Int} (hn : 1 ≤ n) (hn2 : n ≤ 20) (ht : 0 ≤ k) (ht2 : k ≤ n) : chkD (tD k n) = true := by
  have h := alN_at all_D n.toNat (by omega)
  rw [if_neg (by omega : ¬ n.toNat = 0), Int.toNat_of_nonneg (by omega : 0 ≤ n)] at h
  exact nat_at (P := fun x => chkD (tD x n) = true) (alN_at h) ht (by omega)
def bD (x : UInt64) : Int64 := (mBits x).getD 0
def bF (x : UInt32) : Int := (mfBits x).getD 0
theorem chkD_e {x : UInt64} (h : chkD x = true) : okD x = true ∧ cD x x .l = 0 ∧ mBits x = some (bD x) ∧ cBits x = some (bD x) := by
  unfold chkD at h
  rw [Bool.and_eq_true, Bool.and_eq_true] at h
  obtain ⟨h1, h2, h3⟩ := h
  refine ⟨h1, of_decide_eq_true h2, ?_⟩
  unfold bD
  cases hm : mBits x with
  | none => rw [hm] at h3; cases h3
  | some a =>
    cases hc : cBits x with
    | none => rw [hm, hc] at h3; cases h3
    | some b =>
      rw [hm, hc] at h3
      have : a = b := by simpa using h3
      subst this
      exact ⟨rfl, rfl⟩
theorem chkF_e {x : UInt32} (h : chkF x = true) : okF x = true ∧ okD (FP.f2d x) = true ∧ cD (FP.f2d x) (FP.f2d x) .l = 0 ∧ inR (bF x) ∧ mfBits x = some (bF x) ∧ cfBits x = some (bF x) := by
  unfold chkF at h
  rw [Bool.and_eq_true, Bool.and_eq_true, Bool.and_eq_true] at h
  obtain ⟨h1, h2, h3, h4⟩ := h
  refine ⟨h1, h2, of_decide_eq_true h3, ?_⟩
  unfold bF
  cases hm : mfBits x with
  | none => rw [hm] at h4; cases h4
  | some a =>
    cases hc : cfBits x with
    | none => rw [hm, hc] at h4; cases h4
    | some b =>
      rw [hm, hc] at h4
      have h5 : a = b ∧ inR a := by simpa using h4
      obtain ⟨e, h6⟩ := h5
      subst e
      exact ⟨h6, rfl, rfl⟩
def shT (v : Int → Int) : UInt64 := if v 3 = 0 then FP.dconst1 else tD (v 3 - brks (v 1) (vN v) (vD v) (v 3)) (v 3)
def meT (v : Int → Int) : UInt32 := if v 3 = 0 then FP.fconst0 else tF (thS (v 2) (vH v) (vN v) (v 3)) (v 3)
theorem chk_sh {K : Int} {v : Int → Int} (hv : veW K v) : chkD (shT v) = true := by
  obtain ⟨v0, v1, v2, v3, v4, v5, v6, v7, v8, v9, v10⟩ := hv
  unfold shT
  by_cases h : v 3 = 0
  · rw [if_pos h]; exact one_ok
  · rw [if_neg h]
    have := brks_r (v 1) (vN v) (vD v) v4.1
    exact chkD_at (by omega) v4.2 (by omega) (by omega)
theorem thS_r {s2 n : Int} {ho a : Int → Int} (hs : 1 ≤ s2 ∧ s2 ≤ 9) (hh : wfH ho) (ha : ∀ i, 0 ≤ i → i < n → 0 ≤ a i ∧ a i < 16) (hn : 0 ≤ n) : 0 ≤ thS s2 ho a n ∧ thS s2 ho a n ≤ 49 * n := by
  have h1 := sm_bd (f := fun k => stA ho a k) (c := 5) hn (fun k k0 k1 => stA_r hh ha k0 k1)
  have h2 := sm_bd (f := fun k => spn (ho (a k))) (c := 4) hn (fun k k0 k1 => spn_r (hh _ (ha k k0 k1).1 (ha k k0 k1).2).1 (hh _ (ha k k0 k1).1 (ha k k0 k1).2).2)
  have h3 : 0 ≤ stS ho a n * s2 := Int.mul_nonneg h1.1 (by omega)
  have h4 : stS ho a n * s2 ≤ n * 5 * 9 := Int.mul_le_mul h1.2 hs.2 (by omega) (by omega)
  unfold thS
  omega
theorem chk_me {K : Int} {v : Int → Int} (hv : veW K v) : chkF (meT v) = true := by
  obtain ⟨v0, v1, v2, v3, v4, v5, v6, v7, v8, v9, v10⟩ := hv
  unfold meT
  by_cases h : v 3 = 0
  · rw [if_pos h]; exact zero_ok
  · rw [if_neg h]
    have := thS_r (ho := vH v) (a := vN v) v3 (fun i h0 h1 => v8 i h0 h1) (fun i h0 h1 => v9 i h0 h1) v4.1
    exact chkF_at (by omega) v4.2 this.1 this.2
/-- hashed, one number behind another -/
def hsN (f : Int → Int) (h : Int64) : Nat → Int64
  | 0 => h
  | n + 1 => 31 * hsN f h n + Int64.ofInt (f n)
def hs (f : Int → Int) (h : Int64) (n : Int) : Int64 := hsN f h n.toNat
theorem hs_0 (f : Int → Int) (h : Int64) : hs f h 0 = h := rfl
theorem hs_s (f : Int → Int) (h : Int64) {n : Int} (hn : 0 ≤ n) : hs f h (n + 1) = 31 * hs f h n + Int64.ofInt (f n) := by
  unfold hs
  rw [show (n + 1).toNat = n.toNat + 1 by omega]
  show 31 * hsN f h n.toNat + Int64.ofInt (f ((n.toNat : Nat) : Int)) = _
  rw [Int.toNat_of_nonneg hn]
theorem hsN_cong {f g : Int → Int} (h : Int64) : ∀ (n : Nat), (∀ k : Int, 0 ≤ k → k < n → f k = g k) → hsN f h n = hsN g h n
  | 0, _ => rfl
  | n + 1, e => by
    show 31 * hsN f h n + Int64.ofInt (f n) = 31 * hsN g h n + Int64.ofInt (g n)
    rw [hsN_cong h n (fun k h1 h2 => e k h1 (by omega)), e n (by omega) (by omega)]
theorem hs_cong {f g : Int → Int} (h : Int64) {n : Int} (e : ∀ k : Int, 0 ≤ k → k < n → f k = g k) : hs f h n = hs g h n := hsN_cong h _ (fun k h1 h2 => e k h1 (by omega))
/-- .. for each sheet -/
def hkN (v : Int → Int) (h : Int64) : Nat → Int64
  | 0 => h
  | n + 1 => hs (woT v n) (hs (ofS v n) (hkN v h n) 6) 4
def hk (v : Int → Int) (h : Int64) (n : Int) : Int64 := hkN v h n.toNat
theorem hk_s (v : Int → Int) (h : Int64) {n : Int} (hn : 0 ≤ n) : hk v h (n + 1) = hs (woT v n) (hs (ofS v n) (hk v h n) 6) 4 := by
  unfold hk
  rw [show (n + 1).toNat = n.toNat + 1 by omega]
  show hs (woT v ((n.toNat : Nat) : Int)) (hs (ofS v ((n.toNat : Nat) : Int)) (hkN v h n.toNat) 6) 4 = _
  rw [Int.toNat_of_nonneg hn]
def ob5 (v : Int → Int) : Int → Int := fun k => ofB v (k / 5) (k % 5)
def hd1 (v : Int → Int) (sv : Int) : Int64 := hs (ob5 v) (hk v (hs v (hs (coT v sv) 3853 16) 3) (v 3)) 80
def hd2 (v : Int → Int) (sv kp : Int) : Int64 := 31 * (31 * (31 * (31 * (31 * (31 * hd1 v sv + Int64.ofInt (nmT v)) + Int64.ofInt (fiT v)) + Int64.ofInt (poT v)) + bD (shT v)) + Int64.ofInt (bF (meT v))) + Int64.ofInt kp
def dgT (v tx : Int → Int) (sv kp ln : Int) : Int64 := hs tx (31 * hd2 v sv kp + Int64.ofInt ln) ln
/-- the reference while it hashes -/
abbrev DG (q : Nat) (μ ν : Mem) (h : Int64) : Prop := MR q μ ν 0 (μ q 2) (μ q 3) (μ q 5) (μ (q + 1)) (μ (q + 2)) ∧ Int64.ofInt (ν q 14) = h
theorem DG_U {q : Nat} {μ ν ρ : Mem} {h : Int64} (N : DG q μ ν h) (R : MU q ν ρ) : DG q μ ρ h := ⟨MR_U N.1 R, by rw [R.2]; exact N.2⟩
theorem DG_m {q : Nat} {μ ν : Mem} {h : Int64} (N : DG q μ ν h) (y : Int64) : DG q μ (wr ν q (s1 (ν q) 14 (31 * Int64.ofInt (ν q 14) + y).toInt)) (31 * h + y) := by
  obtain ⟨⟨a1, a2, ⟨a3, a4, a5, a6⟩, a7⟩, a8⟩ := N
  refine ⟨⟨by rw [wr_n _ _ (by omega)]; exact a1, by rw [wr_n _ _ (by omega)]; exact a2, ⟨?_, ?_, ?_, ?_⟩, fun r hr => by rw [wr_n _ _ (by omega)]; exact a7 r hr⟩, ?_⟩ <;> rw [wr_s]
  · rw [s1_n _ _ (by omega)]; exact a3
  · rw [s1_n _ _ (by omega)]; exact a4
  · rw [s1_n _ _ (by omega)]; exact a5
  · rw [s1_n _ _ (by omega)]; exact a6
  · rw [s1_s, Int64.ofInt_toInt, a8]
theorem DG_0 (q : Nat) (μ : Mem) : DG q μ (wr (wr μ q (s1 (μ q) 0 0)) q (s1 (wr μ q (s1 (μ q) 0 0) q) 14 (3853 : Int64).toInt)) 3853 := by
  rw [wr_s, wr_ww]
  refine ⟨⟨wr_n _ _ (by omega), wr_n _ _ (by omega), ⟨?_, ?_, ?_, ?_⟩, fun r hr => wr_n _ _ (by omega)⟩, ?_⟩ <;> rw [wr_s]
  · rw [s1_n _ _ (by omega), s1_s]
  · rw [s1_n _ _ (by omega), s1_n _ _ (by omega)]
  · rw [s1_n _ _ (by omega), s1_n _ _ (by omega)]
  · rw [s1_n _ _ (by omega), s1_n _ _ (by omega)]
  · rw [s1_s, Int64.ofInt_toInt]
