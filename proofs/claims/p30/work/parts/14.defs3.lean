/-! marks, stitches, faults, in numbers -/
def mk (st a d : Int) : Int := if d = 0 then a % st else st - 1 - a % st
theorem mk_bd {st a d : Int} (h : 0 < st) : 0 ≤ mk st a d ∧ mk st a d < st := by
  have h1 := Int.emod_nonneg a (show st ≠ 0 by omega)
  have h2 := Int.emod_lt_of_pos a h
  unfold mk
  by_cases hd : d = 0
  · rw [if_pos hd]; omega
  · rw [if_neg hd]; omega
def due (st : Int) (a d : Int → Int) (k : Int) : Int := if k = 0 then 0 else (mk st (a (k - 1)) (d (k - 1)) + 1) % st
theorem due_bd {st : Int} {a d : Int → Int} {k : Int} (h : 0 < st) : 0 ≤ due st a d k ∧ due st a d k < st := by
  unfold due
  by_cases hk : k = 0
  · rw [if_pos hk]; omega
  · rw [if_neg hk]
    exact ⟨Int.emod_nonneg _ (show st ≠ 0 by omega), Int.emod_lt_of_pos _ h⟩
theorem due_s (st : Int) (a d : Int → Int) {k : Int} (h : 0 ≤ k) : due st a d (k + 1) = (mk st (a k) (d k) + 1) % st := by
  unfold due
  rw [if_neg (by omega), show k + 1 - 1 = k by omega]
abbrev brk (st : Int) (a d : Int → Int) (k : Int) : Prop := mk st (a k) (d k) ≠ due st a d k
def brks (st : Int) (a d : Int → Int) (n : Int) : Int := cn (fun k => brk st a d k) n
def bit (m i : Int) : Int := iAnd (iShr m i) 1
def bc (x : Int) : Int := bit x 0 + bit x 1 + bit x 2 + bit x 3 + bit x 4
def lo (m : Int) : Int := fs (fun i => bit m i ≠ 0) 0 5
def hi (m : Int) : Int := 4 - fs (fun j => bit m (4 - j) ≠ 0) 0 5
def spn (m : Int) : Int := hi m - lo m
theorem zna_of {x : Int} {n : Nat} (h0 : 0 ≤ x) (h1 : x < (n : Int)) : ∃ k : Fin n, x = ((k : Nat) : Int) := ⟨⟨x.toNat, by omega⟩, by show x = ((x.toNat : Nat) : Int); rw [Int.toNat_of_nonneg h0]⟩
theorem sp_all : ∀ m : Fin 32, 1 ≤ (m : Nat) → (0 ≤ lo ((m : Nat) : Int) ∧ lo ((m : Nat) : Int) ≤ hi ((m : Nat) : Int) ∧ hi ((m : Nat) : Int) ≤ 4) ∧ bit ((m : Nat) : Int) (lo ((m : Nat) : Int)) ≠ 0 ∧ bit ((m : Nat) : Int) (hi ((m : Nat) : Int)) ≠ 0 ∧ (∀ i : Fin 5, ((i : Nat) : Int) < lo ((m : Nat) : Int) → bit ((m : Nat) : Int) ((i : Nat) : Int) = 0) ∧ (∀ i : Fin 5, hi ((m : Nat) : Int) < ((i : Nat) : Int) → bit ((m : Nat) : Int) ((i : Nat) : Int) = 0) := by decide +kernel
theorem bit_all : ∀ m : Fin 32, ∀ i : Fin 5, bit ((m : Nat) : Int) ((i : Nat) : Int) = 0 ∨ bit ((m : Nat) : Int) ((i : Nat) : Int) = 1 := by decide +kernel
theorem and_all : ∀ m n : Fin 32, 0 ≤ iAnd ((m : Nat) : Int) ((n : Nat) : Int) ∧ iAnd ((m : Nat) : Int) ((n : Nat) : Int) < 32 := by decide +kernel
theorem sp_f {m : Int} (h0 : 1 ≤ m) (h1 : m ≤ 31) : (0 ≤ lo m ∧ lo m ≤ hi m ∧ hi m ≤ 4) ∧ bit m (lo m) ≠ 0 ∧ bit m (hi m) ≠ 0 ∧ (∀ i, 0 ≤ i → i < lo m → bit m i = 0) ∧ (∀ i, hi m < i → i ≤ 4 → bit m i = 0) := by
  obtain ⟨k, rfl⟩ := zna_of (n := 32) (by omega : 0 ≤ m) (by omega)
  obtain ⟨a1, a2, a3, a4, a5⟩ := sp_all k (by omega)
  refine ⟨a1, a2, a3, fun i i0 i1 => ?_, fun i i0 i1 => ?_⟩
  · obtain ⟨j, rfl⟩ := zna_of (n := 5) i0 (by omega)
    exact a4 j i1
  · obtain ⟨j, rfl⟩ := zna_of (n := 5) (by omega : 0 ≤ i) (by omega)
    exact a5 j i0
theorem bit_r {m i : Int} (h0 : 0 ≤ m) (h1 : m ≤ 31) (i0 : 0 ≤ i) (i1 : i ≤ 4) : bit m i = 0 ∨ bit m i = 1 := by
  obtain ⟨k, rfl⟩ := zna_of (n := 32) h0 (by omega)
  obtain ⟨j, rfl⟩ := zna_of (n := 5) i0 (by omega)
  exact bit_all k j
theorem and_r {x y : Int} (hx : 1 ≤ x ∧ x ≤ 31) (hy : 1 ≤ y ∧ y ≤ 31) : 0 ≤ iAnd x y ∧ iAnd x y < 32 := by
  obtain ⟨k, rfl⟩ := zna_of (n := 32) (by omega : 0 ≤ x) (by omega)
  obtain ⟨j, rfl⟩ := zna_of (n := 32) (by omega : 0 ≤ y) (by omega)
  exact and_all k j
theorem bc_r {x : Int} (h0 : 0 ≤ x) (h1 : x < 32) : 0 ≤ bc x ∧ bc x ≤ 5 := by
  unfold bc
  have a0 := bit_r h0 (by omega) (show (0 : Int) ≤ 0 by omega) (by omega)
  have a1 := bit_r h0 (by omega) (show (0 : Int) ≤ 1 by omega) (by omega)
  have a2 := bit_r h0 (by omega) (show (0 : Int) ≤ 2 by omega) (by omega)
  have a3 := bit_r h0 (by omega) (show (0 : Int) ≤ 3 by omega) (by omega)
  have a4 := bit_r h0 (by omega) (show (0 : Int) ≤ 4 by omega) (by omega)
  omega
theorem spn_r {m : Int} (h0 : 1 ≤ m) (h1 : m ≤ 31) : 0 ≤ spn m ∧ spn m ≤ 4 := by
  have := (sp_f h0 h1).1
  unfold spn
  omega
/-- stitches ahead of the sheet k; ho: holes by number -/
def stA (ho a : Int → Int) (k : Int) : Int := if k = 0 then 0 else bc (iAnd (ho (a (k - 1))) (ho (a k)))
def stS (ho a : Int → Int) (n : Int) : Int := sm (fun k => stA ho a k) n
def lsS (ho a : Int → Int) (n : Int) : Int := cn (fun k => k ≠ 0 ∧ stA ho a k = 0) n
def thS (s2 : Int) (ho a : Int → Int) (n : Int) : Int := stS ho a n * s2 + sm (fun k => spn (ho (a k))) n
def wfH (ho : Int → Int) : Prop := ∀ i, 0 ≤ i → i < 16 → 1 ≤ ho i ∧ ho i ≤ 31
theorem stA_r {ho a : Int → Int} {n k : Int} (hh : wfH ho) (ha : ∀ i, 0 ≤ i → i < n → 0 ≤ a i ∧ a i < 16) (h0 : 0 ≤ k) (h1 : k < n) : 0 ≤ stA ho a k ∧ stA ho a k ≤ 5 := by
  unfold stA
  by_cases hk : k = 0
  · rw [if_pos hk]; omega
  · rw [if_neg hk]
    have b1 := ha (k - 1) (by omega) (by omega)
    have b2 := ha k h0 h1
    have := and_r (hh _ b1.1 b1.2) (hh _ b2.1 b2.2)
    exact bc_r this.1 this.2
/-- the lowest number that is missing; the fault; its place -/
def misS (s0 : Int) (a : Int → Int) (n : Int) : Int := fs (fun k => cn (fun e => a e = k) n = 0) 0 s0
def fT (d : Int → Int) (n : Int) : Int := fs (fun k => d k ≠ 0) 0 n
def fN (s0 : Int) (a : Int → Int) (n : Int) : Int := fs (fun k => s0 ≤ a k) 0 n
def fD (a : Int → Int) (n : Int) : Int := fs (fun k => cn (fun e => a e = a k) k ≠ 0) 1 n
def fF (a : Int → Int) (n : Int) : Int := fs (fun k => a k < a (k - 1)) 1 n
def flt (s0 : Int) (a d : Int → Int) (n : Int) : Int := if n = 0 then 1 else if fT d n ≠ -1 then 2 else if fN s0 a n ≠ -1 then 3 else if fD a n ≠ -1 then 4 else if misS s0 a n ≠ -1 then 5 else if fF a n ≠ -1 then 6 else 0
def plf (s0 : Int) (a d : Int → Int) (n : Int) : Int := if flt s0 a d n = 2 then fT d n else if flt s0 a d n = 3 then fN s0 a n else if flt s0 a d n = 4 then fD a n else if flt s0 a d n = 6 then fF a n else -1
theorem flt_r (s0 : Int) (a d : Int → Int) (n : Int) : 0 ≤ flt s0 a d n ∧ flt s0 a d n ≤ 6 := by
  unfold flt
  split
  · omega
  · split
    · omega
    · split
      · omega
      · split
        · omega
        · split
          · omega
          · split <;> omega
theorem fs_rng (p : Int → Prop) [DecidablePred p] {i n : Int} (hi : 0 ≤ i) (hn : n ≤ 1000) : -1 ≤ fs p i n ∧ fs p i n ≤ 1000 := by
  rcases fs_r p i n with ⟨h1, -⟩ | ⟨h1, h2, -⟩
  · omega
  · omega
/-- copies bound into books -/
def bkR (a r0 : Int → Int) (i : Int) : Int → Int := fun j => r0 j + cn (fun e => a e = j) i
theorem bkR_0 (a r0 : Int → Int) : bkR a r0 0 = r0 := by
  funext j
  show r0 j + 0 = r0 j
  omega
theorem bkR_s (a r0 : Int → Int) {i : Int} (h : 0 ≤ i) : s1 (bkR a r0 i) (a i) (bkR a r0 i (a i) + 1) = bkR a r0 (i + 1) := by
  funext j
  unfold s1
  by_cases hj : j = a i
  · rw [if_pos hj]
    show r0 (a i) + cn (fun e => a e = a i) i + 1 = r0 j + cn (fun e => a e = j) (i + 1)
    rw [hj, cn_s _ h, b01_t rfl]
    omega
  · rw [if_neg hj]
    show r0 j + cn (fun e => a e = j) i = r0 j + cn (fun e => a e = j) (i + 1)
    rw [cn_s _ h, b01_f (fun z => hj z.symm)]
    omega
/-- a state copied to another one's place -/
def cpS (μ : Mem) (h g : Nat) : Mem := wr (wr (wr (wr (wr (wr (wr (wr (wr (wr μ (h + 1 + 1) (μ (g + 1 + 1))) (h + 1 + 2) (μ (g + 1 + 2))) (h + 1) (s1 (μ (h + 1)) 2 (μ (g + 1) 2))) (h + 7) (μ (g + 7))) (h + 8) (μ (g + 8))) (h + 9) (μ (g + 9))) (h + 10) (μ (g + 10))) (h + 11) (μ (g + 11))) h (s1 (μ h) 6 (μ g 6))) h (s1 (s1 (μ h) 6 (μ g 6)) 7 (μ g 7))
theorem r_loc {X : Cx} {μ : Mem} {pc : Nat} {ls ls' st : List AV} (h : RR X μ pc ls' st) (e : ls = ls') : RR X μ pc ls st := e ▸ h
