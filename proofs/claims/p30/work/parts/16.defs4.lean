/-! the reader, the saved states -/
theorem ch_all : ∀ m : Fin 128, (((Int32.ofInt ((m : Nat) : Int)).toUInt32 % 65536).toInt32 = Int32.ofInt ((m : Nat) : Int)) ∧ narrow .char (i5 ((m : Nat) : Int)) = i5 ((m : Nat) : Int) ∧ fits .char (i5 ((m : Nat) : Int)) = true := by decide +kernel
theorem ch_n {x : Int} (h0 : 0 ≤ x) (h1 : x < 128) : narrow .char (i5 x) = i5 x ∧ fits .char (i5 x) = true := by
  obtain ⟨k, rfl⟩ := zna_of (n := 128) h0 h1
  exact (ch_all k).2
theorem r_i2c {X : Cx} {own : String} {cc : ByteArray} {nL d : Nat} {μ : Mem} {pc : Nat} {ls st : List AV} (C : Ok X own cc nL d) {x : Int} (hd : decode cc pc = .ok (.i2c, 1)) (hx : 0 ≤ x ∧ x < 128) (k : RR X μ (pc + 1) ls (vI x :: st)) : RR X μ pc ls (vI x :: st) := fun H locs jl h1 h2 h3 =>
  lv_i2c C.1 C.2.1 hd (by obtain ⟨z, rfl⟩ := zna_of (n := 128) hx.1 hx.2; exact (ch_all z).1) (k H locs jl h1 h2 h3)
def ReS (V : Wo) (q : Nat) : Prop := woB V ≤ q ∧ woS V q = some (.inl 2)
def ReW (f : Int → Int) : Prop := (0 ≤ f 0 ∧ f 0 < 128) ∧ (0 ≤ f 1 ∧ f 1 ≤ 19) ∧ (0 ≤ f 2 ∧ f 2 ≤ 19) ∧ (0 ≤ f 3 ∧ f 3 ≤ 3) ∧ (f 4 = 0 ∨ f 4 = 1)
abbrev aDue (f : Int → Int) : Prop := f 0 = 109 ∧ f 4 = 0
abbrev cpl (f : Int → Int) : Prop := f 3 = 3 ∨ (f 3 = 2 ∧ ¬ (f 0 = 109 ∧ f 4 = 0))
def rSt : Int → Int → Int := fun _ _ => 0
def nL (f : Int → Int) (c : Int) : Int × (Int → Int) := if c = 103 ∨ c = 112 ∨ c = 102 ∨ c = 109 ∨ c = 98 then (1, s1 (s1 (s1 f 0 c) 4 0) 3 (if c = 98 then 3 else 1)) else (0, f)
def nF (f : Int → Int) (c : Int) : Int × (Int → Int) := if 48 ≤ c ∧ c ≤ 57 then (1, s1 (s1 f 2 (c - 48)) 3 2) else (0, f)
def nS (f : Int → Int) (c : Int) : Int × (Int → Int) := if 48 ≤ c ∧ c ≤ 57 ∧ f 2 ≠ 0 ∧ 10 * f 2 + c - 48 ≤ (if f 0 = 103 then 15 else 19) then (1, s1 f 2 (10 * f 2 + c - 48)) else (0, f)
def nA (f : Int → Int) (c : Int) : Int × (Int → Int) := if c = 62 ∧ f 0 = 109 ∧ f 4 = 0 then (1, s1 (s1 (s1 f 1 (f 2)) 4 1) 3 1) else (0, f)
def nE (f : Int → Int) (c : Int) : Int × (Int → Int) := if c = 59 ∧ (f 3 = 3 ∨ (f 3 = 2 ∧ ¬ (f 0 = 109 ∧ f 4 = 0))) then (1, s1 f 3 0) else (0, f)
def nX (f : Int → Int) (c : Int) : Int × (Int → Int) := if f 3 = 0 then nL f c else if f 3 = 1 then nF f c else if f 3 = 2 then (if (nS f c).1 ≠ 0 then nS f c else if (nA f c).1 ≠ 0 then nA f c else nE f c) else nE f c
def rS0 (f : Int → Int) : Int → Int := s1 (s1 (s1 (s1 (s1 f 0 32) 1 0) 2 0) 3 0) 4 0
theorem nL_0 {f : Int → Int} {c : Int} (h : ¬ (c = 103 ∨ c = 112 ∨ c = 102 ∨ c = 109 ∨ c = 98)) : nL f c = (0, f) := if_neg h
theorem nL_1 {f : Int → Int} {c : Int} (h : c = 103 ∨ c = 112 ∨ c = 102 ∨ c = 109 ∨ c = 98) : nL f c = (1, s1 (s1 (s1 f 0 c) 4 0) 3 (if c = 98 then 3 else 1)) := if_pos h
theorem nF_0 {f : Int → Int} {c : Int} (h : ¬ (48 ≤ c ∧ c ≤ 57)) : nF f c = (0, f) := if_neg h
theorem nF_1 {f : Int → Int} {c : Int} (h : 48 ≤ c ∧ c ≤ 57) : nF f c = (1, s1 (s1 f 2 (c - 48)) 3 2) := if_pos h
theorem nS_0 {f : Int → Int} {c : Int} (h : ¬ (48 ≤ c ∧ c ≤ 57 ∧ f 2 ≠ 0 ∧ 10 * f 2 + c - 48 ≤ (if f 0 = 103 then 15 else 19))) : nS f c = (0, f) := if_neg h
theorem nS_1 {f : Int → Int} {c : Int} (h : 48 ≤ c ∧ c ≤ 57 ∧ f 2 ≠ 0 ∧ 10 * f 2 + c - 48 ≤ (if f 0 = 103 then 15 else 19)) : nS f c = (1, s1 f 2 (10 * f 2 + c - 48)) := if_pos h
theorem nA_0 {f : Int → Int} {c : Int} (h : ¬ (c = 62 ∧ f 0 = 109 ∧ f 4 = 0)) : nA f c = (0, f) := if_neg h
theorem nA_1 {f : Int → Int} {c : Int} (h : c = 62 ∧ f 0 = 109 ∧ f 4 = 0) : nA f c = (1, s1 (s1 (s1 f 1 (f 2)) 4 1) 3 1) := if_pos h
theorem nE_0 {f : Int → Int} {c : Int} (h : ¬ (c = 59 ∧ (f 3 = 3 ∨ (f 3 = 2 ∧ ¬ (f 0 = 109 ∧ f 4 = 0))))) : nE f c = (0, f) := if_neg h
theorem nE_1 {f : Int → Int} {c : Int} (h : c = 59 ∧ (f 3 = 3 ∨ (f 3 = 2 ∧ ¬ (f 0 = 109 ∧ f 4 = 0)))) : nE f c = (1, s1 f 3 0) := if_pos h
def HiS (V : Wo) (q : Nat) : Prop := woB V ≤ q ∧ woS V q = some (.inl 1) ∧ woS V (q + 1) = some (.inr (2, 6))
def HiW (V : Wo) (μ : Mem) (q : Nat) : Prop := (0 ≤ μ q 1 ∧ μ q 1 ≤ 6) ∧ ∀ i, 0 ≤ i → i < 6 → 0 ≤ μ (q + 1) i ∧ StS V (μ (q + 1) i).toNat ∧ (q + 1 < (μ (q + 1) i).toNat ∨ (μ (q + 1) i).toNat + 11 < q)
/-- the rows of the saved states turned by one -/
def rtR (r : Int → Int) (i : Int) : Int → Int := fun j => if 0 ≤ j ∧ j < i - 1 then r (j + 1) else if j = i - 1 then r 0 else r j
theorem rtR_1 (r : Int → Int) : rtR r 1 = r := by
  funext j
  unfold rtR
  rw [if_neg (by omega)]
  by_cases h : j = 1 - 1
  · rw [if_pos h, h]; rfl
  · rw [if_neg h]
theorem rtR_s (r : Int → Int) {i : Int} (h : 1 ≤ i) : s1 (s1 (rtR r i) (i - 1) (r i)) i (r 0) = rtR r (i + 1) := by
  funext j
  unfold s1 rtR
  by_cases h1 : j = i
  · rw [if_pos h1, if_neg (by omega), if_pos (by omega)]
  · rw [if_neg h1]
    by_cases h2 : j = i - 1
    · rw [if_pos h2, if_pos (by omega), h2, show i - 1 + 1 = i by omega]
    · rw [if_neg h2]
      by_cases h3 : 0 ≤ j ∧ j < i - 1
      · rw [if_pos h3, if_pos (by omega)]
      · rw [if_neg h3, if_neg h2, if_neg (by omega), if_neg (by omega)]
def drp (μ : Mem) (q : Nat) : Mem := wr (wr μ (q + 1) (rtR (μ (q + 1)) 6)) q (s1 (μ q) 1 (μ q 1 - 1))
def svA (μ : Mem) (q : Nat) (i : Int) : Nat := (μ (q + 1) i).toNat
def sav1 (μ : Mem) (q g : Nat) : Mem := wr (cpS μ (svA μ q (μ q 1)) g) q (s1 (μ q) 1 (μ q 1 + 1))
def sav (μ : Mem) (q g : Nat) : Mem := if μ q 1 < 6 then sav1 μ q g else sav1 (drp μ q) q g
def rsto (μ : Mem) (q g : Nat) : Mem := cpS (wr μ q (s1 (μ q) 1 (μ q 1 - 1))) g (svA μ q (μ q 1 - 1))
theorem cpS_n (μ : Mem) {h g q : Nat} (hq : q < h ∨ h + 11 < q) : cpS μ h g q = μ q := by
  unfold cpS
  simp (disch := omega) only [wr_n]
theorem nS_z {f : Int → Int} {c : Int} (h : (nS f c).1 = 0) : (nS f c).2 = f := by
  by_cases g : 48 ≤ c ∧ c ≤ 57 ∧ f 2 ≠ 0 ∧ 10 * f 2 + c - 48 ≤ (if f 0 = 103 then 15 else 19)
  · rw [nS_1 g] at h; cases h
  · rw [nS_0 g]
theorem nA_z {f : Int → Int} {c : Int} (h : (nA f c).1 = 0) : (nA f c).2 = f := by
  by_cases g : c = 62 ∧ f 0 = 109 ∧ f 4 = 0
  · rw [nA_1 g] at h; cases h
  · rw [nA_0 g]
theorem nE_z {f : Int → Int} {c : Int} (h : (nE f c).1 = 0) : (nE f c).2 = f := by
  by_cases g : c = 59 ∧ (f 3 = 3 ∨ (f 3 = 2 ∧ ¬ (f 0 = 109 ∧ f 4 = 0)))
  · rw [nE_1 g] at h; cases h
  · rw [nE_0 g]
theorem nL_r (f : Int → Int) (c : Int) : (nL f c).1 = 0 ∨ (nL f c).1 = 1 := by unfold nL; split <;> simp
theorem nF_r (f : Int → Int) (c : Int) : (nF f c).1 = 0 ∨ (nF f c).1 = 1 := by unfold nF; split <;> simp
theorem nS_r (f : Int → Int) (c : Int) : (nS f c).1 = 0 ∨ (nS f c).1 = 1 := by
  by_cases g : 48 ≤ c ∧ c ≤ 57 ∧ f 2 ≠ 0 ∧ 10 * f 2 + c - 48 ≤ (if f 0 = 103 then 15 else 19)
  · rw [nS_1 g]; exact Or.inr rfl
  · rw [nS_0 g]; exact Or.inl rfl
theorem nA_r (f : Int → Int) (c : Int) : (nA f c).1 = 0 ∨ (nA f c).1 = 1 := by unfold nA; split <;> simp
theorem nE_r (f : Int → Int) (c : Int) : (nE f c).1 = 0 ∨ (nE f c).1 = 1 := by unfold nE; split <;> simp
theorem nX_r (f : Int → Int) (c : Int) : (nX f c).1 = 0 ∨ (nX f c).1 = 1 := by
  unfold nX
  split
  · exact nL_r f c
  · split
    · exact nF_r f c
    · split
      · split
        · exact nS_r f c
        · split
          · exact nA_r f c
          · exact nE_r f c
      · exact nE_r f c
theorem nX_z {f : Int → Int} {c : Int} (h : (nX f c).1 = 0) : (nX f c).2 = f := by
  unfold nX at h ⊢
  split at h
  · rename_i g; rw [if_pos g]; unfold nL at h ⊢; split at h
    · cases h
    · rename_i g2; rw [if_neg g2]
  · rename_i g; rw [if_neg g]
    split at h
    · rename_i g2; rw [if_pos g2]; unfold nF at h ⊢; split at h
      · cases h
      · rename_i g3; rw [if_neg g3]
    · rename_i g2; rw [if_neg g2]
      split at h
      · rename_i g3; rw [if_pos g3]
        split at h
        · rename_i g4; exact absurd h g4
        · rename_i g4; rw [if_neg g4]
          split at h
          · rename_i g5; exact absurd h g5
          · rename_i g5; rw [if_neg g5]; exact nE_z h
      · rename_i g3; rw [if_neg g3]; exact nE_z h
theorem rS0_W (f : Int → Int) : ReW (rS0 f) := ⟨(show 0 ≤ (32 : Int) ∧ (32 : Int) < 128 by decide), (show 0 ≤ (0 : Int) ∧ (0 : Int) ≤ 19 by decide), (show 0 ≤ (0 : Int) ∧ (0 : Int) ≤ 19 by decide), (show 0 ≤ (0 : Int) ∧ (0 : Int) ≤ 3 by decide), Or.inl rfl⟩
theorem nX_W {f : Int → Int} {c : Int} (h : ReW f) (hc : 0 ≤ c) (hc2 : c < 128) : ReW (nX f c).2 := by
  obtain ⟨w0, w1, w2, w3, w4⟩ := id h
  have hE : ReW (nE f c).2 := by
    by_cases g : c = 59 ∧ (f 3 = 3 ∨ (f 3 = 2 ∧ ¬ (f 0 = 109 ∧ f 4 = 0)))
    · rw [nE_1 g]; exact ⟨w0, w1, w2, (show 0 ≤ (0 : Int) ∧ (0 : Int) ≤ 3 by decide), w4⟩
    · rw [nE_0 g]; exact h
  unfold nX
  split
  · by_cases g : c = 103 ∨ c = 112 ∨ c = 102 ∨ c = 109 ∨ c = 98
    · rw [nL_1 g]; exact ⟨⟨hc, hc2⟩, w1, w2, (by show 0 ≤ (if c = 98 then (3 : Int) else 1) ∧ (if c = 98 then (3 : Int) else 1) ≤ 3; split <;> omega), Or.inl rfl⟩
    · rw [nL_0 g]; exact h
  · split
    · by_cases g : 48 ≤ c ∧ c ≤ 57
      · rw [nF_1 g]; exact ⟨w0, w1, (by show 0 ≤ c - 48 ∧ c - 48 ≤ 19; omega), (show 0 ≤ (2 : Int) ∧ (2 : Int) ≤ 3 by decide), w4⟩
      · rw [nF_0 g]; exact h
    · split
      · split
        · by_cases g : 48 ≤ c ∧ c ≤ 57 ∧ f 2 ≠ 0 ∧ 10 * f 2 + c - 48 ≤ (if f 0 = 103 then 15 else 19)
          · rw [nS_1 g]
            refine ⟨w0, w1, ?_, w3, w4⟩
            show 0 ≤ 10 * f 2 + c - 48 ∧ 10 * f 2 + c - 48 ≤ 19
            obtain ⟨g1, g2, g3, g4⟩ := g
            split at g4 <;> omega
          · rw [nS_0 g]; exact h
        · split
          · by_cases g : c = 62 ∧ f 0 = 109 ∧ f 4 = 0
            · rw [nA_1 g]; exact ⟨w0, w2, w2, (show 0 ≤ (1 : Int) ∧ (1 : Int) ≤ 3 by decide), Or.inr rfl⟩
            · rw [nA_0 g]; exact h
          · exact hE
      · exact hE
