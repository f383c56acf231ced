/-! the ranges of what the looks answer -/
theorem fT_rg {d : Int → Int} {n : Int} (hn : n ≤ 1000) : -1 ≤ fT d n ∧ fT d n ≤ 1000 := fs_rng _ (by omega) hn
theorem plf_r {s0 : Int} {a d : Int → Int} {n : Int} (hn : n ≤ 1000) : -1 ≤ plf s0 a d n ∧ plf s0 a d n ≤ 1000 := by
  unfold plf
  split
  · exact fs_rng _ (by omega) hn
  · split
    · exact fs_rng _ (by omega) hn
    · split
      · exact fs_rng _ (by omega) hn
      · split
        · exact fs_rng _ (by omega) hn
        · omega
theorem coT_r {K : Int} {v : Int → Int} (hv : veW K v) {sv w : Int} (hs : 0 ≤ sv ∧ sv ≤ 6) : inR (coT v sv w) := by
  obtain ⟨v0, v1, v2, v3, v4, v5, v6, v7, v8, v9, v10⟩ := hv
  have a1 := brks_r (v 1) (vN v) (vD v) v4.1
  have a2 := flt_r (v 0) (vN v) (vD v) (v 3)
  have a3 := plf_r (s0 := v 0) (a := vN v) (d := vD v) (n := v 3) (by omega)
  have a4 : -1 ≤ misS (v 0) (vN v) (v 3) ∧ misS (v 0) (vN v) (v 3) ≤ 1000 := fs_rng _ (by omega) (by omega)
  have a5 := b01_r (0 < flt (v 0) (vN v) (vD v) (v 3) ∧ brks (v 1) (vN v) (vD v) (v 3) = 0)
  have a6 := lis_bd (vN v) v4.1
  have a7 := sm_bd (f := fun k => cn (fun e => vN v k < vN v e) k) (c := 20) v4.1 (fun k k0 k1 => by have := cn_bd (fun e => vN v k < vN v e) k0; omega)
  have a8 := sm_bd (f := fun k => stA (vH v) (vN v) k) (c := 5) v4.1 (fun k k0 k1 => stA_r (n := v 3) (fun i h0 h1 => v8 i h0 h1) (fun i h0 h1 => v9 i h0 h1) k0 k1)
  have a9 := thS_r (ho := vH v) (a := vN v) v3 (fun i h0 h1 => v8 i h0 h1) (fun i h0 h1 => v9 i h0 h1) v4.1
  have a10 := cn_bd (fun k => k ≠ 0 ∧ stA (vH v) (vN v) k = 0) v4.1
  have a11 := sm_bd (f := fun k => v (22 + k)) (n := 16) (c := K) (by omega) (fun k k0 k1 => by have := v7 (16 + k) (by omega) (by omega); rw [show 6 + (16 + k) = 22 + k by omega] at this; exact this)
  have e8 : stS (vH v) (vN v) (v 3) = sm (fun k => stA (vH v) (vN v) k) (v 3) := rfl
  have e10 : lsS (vH v) (vN v) (v 3) = cn (fun k => k ≠ 0 ∧ stA (vH v) (vN v) k = 0) (v 3) := rfl
  unfold coT
  rw [e8, e10]
  by_cases c0 : w = 0
  · rw [if_pos c0]; omega
  rw [if_neg c0]
  by_cases c1 : w = 1
  · rw [if_pos c1]; omega
  rw [if_neg c1]
  by_cases c2 : w = 2
  · rw [if_pos c2]; omega
  rw [if_neg c2]
  by_cases c3 : w = 3
  · rw [if_pos c3]; omega
  rw [if_neg c3]
  by_cases c4 : w = 4
  · rw [if_pos c4]; omega
  rw [if_neg c4]
  by_cases c5 : w = 5
  · rw [if_pos c5]; omega
  rw [if_neg c5]
  by_cases c6 : w = 6 ∨ w = 7
  · rw [if_pos c6]; omega
  rw [if_neg c6]
  by_cases c7 : w = 8
  · rw [if_pos c7]; omega
  rw [if_neg c7]
  by_cases c8 : w = 9
  · rw [if_pos c8]; omega
  rw [if_neg c8]
  by_cases c9 : w = 10
  · rw [if_pos c9]; omega
  rw [if_neg c9]
  by_cases c10 : w = 11
  · rw [if_pos c10]; omega
  rw [if_neg c10]
  by_cases c11 : w = 12
  · rw [if_pos c11]; omega
  rw [if_neg c11]
  by_cases c12 : w = 13
  · rw [if_pos c12]; omega
  rw [if_neg c12]
  by_cases c13 : w = 14
  · rw [if_pos c13]; omega
  rw [if_neg c13]
  omega
theorem ofB_r {K : Int} {v : Int → Int} (hv : veW K v) {x w : Int} (hx : 0 ≤ x) (hx2 : x < 16) : inR (ofB v x w) := by
  have a1 := cnX_bd hv x
  obtain ⟨v0, v1, v2, v3, v4, v5, v6, v7, v8, v9, v10⟩ := hv
  have a2 := v7 x hx (by omega)
  have a3 := v7 (16 + x) (by omega) (by omega)
  have a4 := v7 (32 + x) (by omega) (by omega)
  have a5 := v8 x hx hx2
  rw [show 6 + (16 + x) = 22 + x by omega] at a3
  rw [show 6 + (32 + x) = 38 + x by omega] at a4
  unfold ofB
  by_cases c0 : w = 0
  · rw [if_pos c0]; omega
  rw [if_neg c0]
  by_cases c1 : w = 1
  · rw [if_pos c1]; omega
  rw [if_neg c1]
  by_cases c2 : w = 2
  · rw [if_pos c2]; omega
  rw [if_neg c2]
  by_cases c3 : w = 3
  · rw [if_pos c3]; omega
  rw [if_neg c3]
  omega
theorem ofS_r {K : Int} {v : Int → Int} (hv : veW K v) {k w : Int} (hk : 0 ≤ k) (hk2 : k < v 3) : inR (ofS v k w) := by
  obtain ⟨v0, v1, v2, v3, v4, v5, v6, v7, v8, v9, v10⟩ := hv
  have a1 := v9 k hk hk2
  have a2 := v10 k hk hk2
  have a3 := mk_bd (st := v 1) (a := v (70 + k)) (d := v (90 + k)) (by omega)
  have a4 := b01_r (brk (v 1) (vN v) (vD v) k)
  have a5 := stA_r (ho := vH v) (a := vN v) (n := v 3) (fun i h0 h1 => v8 i h0 h1) (fun i h0 h1 => v9 i h0 h1) hk hk2
  have a6 := cn_bd (fun e => vN v k < vN v e) hk
  unfold ofS
  by_cases c0 : w = 0
  · rw [if_pos c0]; omega
  rw [if_neg c0]
  by_cases c1 : w = 1
  · rw [if_pos c1]; omega
  rw [if_neg c1]
  by_cases c2 : w = 2
  · rw [if_pos c2]; omega
  rw [if_neg c2]
  by_cases c3 : w = 3
  · rw [if_pos c3]; omega
  rw [if_neg c3]
  by_cases c4 : w = 4
  · rw [if_pos c4]; omega
  rw [if_neg c4]
  omega
theorem wN_bd {K : Int} {v : Int → Int} (hv : veW K v) {p : Int} (hp2 : p < v 3) : ∀ i, 0 ≤ i → i < v 3 - 1 → 0 ≤ wN v p i ∧ wN v p i < 16 := fun i h0 h1 => by
  obtain ⟨v0, v1, v2, v3, v4, v5, v6, v7, v8, v9, v10⟩ := hv
  unfold wN
  split
  · exact v9 (i + 1) (by omega) (by omega)
  · exact v9 i h0 (by omega)
theorem woT_r {K : Int} {v : Int → Int} (hv : veW K v) {p w : Int} (hp : 0 ≤ p) (hp2 : p < v 3) : inR (woT v p w) := by
  have b9 := wN_bd hv hp2
  obtain ⟨v0, v1, v2, v3, v4, v5, v6, v7, v8, v9, v10⟩ := hv
  have hn : 0 ≤ v 3 - 1 := by omega
  have a1 := brks_r (v 1) (wN v p) (wD v p) hn
  have a2 := flt_r (v 0) (wN v p) (wD v p) (v 3 - 1)
  have a3 := lis_bd (wN v p) hn
  have a4 := sm_bd (f := fun k => stA (vH v) (wN v p) k) (c := 5) hn (fun k k0 k1 => stA_r (n := v 3 - 1) (fun i h0 h1 => v8 i h0 h1) b9 k0 k1)
  have e8 : stS (vH v) (wN v p) (v 3 - 1) = sm (fun k => stA (vH v) (wN v p) k) (v 3 - 1) := rfl
  unfold woT
  rw [e8]
  by_cases c0 : w = 0
  · rw [if_pos c0]; omega
  rw [if_neg c0]
  by_cases c1 : w = 1
  · rw [if_pos c1]; omega
  rw [if_neg c1]
  by_cases c2 : w = 2
  · rw [if_pos c2]; omega
  rw [if_neg c2]
  omega
theorem nmT_r {K : Int} {v : Int → Int} (hv : veW K v) : inR (nmT v) := by
  obtain ⟨v0, v1, v2, v3, v4, v5, v6, v7, v8, v9, v10⟩ := hv
  have hsq := sq_bd v4.1 v4.2
  unfold nmT
  rcases fs_r (fun k => nmP v k) 0 (v 3 * v 3) with ⟨h1, -⟩ | ⟨h1, h2, -⟩
  · rw [if_pos h1]; omega
  · rw [if_neg (by omega)]
    have := dm_bd h1 (sq_pos h1 v4.1 h2) h2
    omega
theorem fiT_r (v : Int → Int) : inR (fiT v) := by
  have h := fs_rng (fun x => v 3 < 20 ∧ 0 < v (6 + x) ∧ x % v 1 = due (v 1) (vN v) (vD v) (v 3)) (i := 0) (n := 16) (by omega) (by omega)
  unfold fiT
  omega
theorem poT_r {K : Int} {v : Int → Int} (hv : veW K v) : inR (poT v) := by
  have hv2 := hv
  obtain ⟨v0, v1, v2, v3, v4, v5, v6, v7, v8, v9, v10⟩ := hv2
  have h := mn_bd (f := poF v) (n := v 0 - 1) (c := K + 20) (by omega) (fun k k0 k1 => by
    have := v7 k k0 (by omega)
    have := cnX_bd hv k
    unfold poF
    omega)
  unfold poT
  omega
