/-! the law's nine open cases -/
theorem r_dstore {X : Cx} {own : String} {cc : ByteArray} {nL d : Nat} {μ : Mem} {pc : Nat} {ls st : List AV} (C : Ok X own cc nL d) {i : Nat} {x : UInt64} (hd : decode cc pc = .ok (.dstore i, 2)) (hk : i + 1 < nL) (hs : sok ls i = true) (kk : RR X μ (pc + 2) ((ls.set (i + 1) vU).set i (vV (.double x))) st) : RR X μ pc ls (vV (.double x) :: st) := fun H locs jl h1 h2 h3 =>
  lv_dstore C.1 C.2.1 hd (lrel_h h3) (by rw [C.2.2.1]; exact hk) rfl (fun ls' h => kk H locs ls' h1 h2 (lrel_keep2 h3.2.2.1 hs h))
set_option maxRecDepth 20000 in
set_option maxHeartbeats 2000000 in
theorem kL_clearBuffer {X : Cx} {b L q m o : Nat} {B : Int → Int} {μ : Mem} {K i : Int} (C : Ok X RL cL_law 9 10) (hW : LW X b L q m o) (R1 : xk X + 1 ≤ (xR X).cells) (R2 : xn X + 6 ≤ (xR X).slots) (hK : K + 1300 ≤ 1000000) (hL : LI (xV X) q m b B K μ) (hi0 : 0 ≤ i) (hi3 : i + 3 ≤ (L : Int)) (hLL : L ≤ 1536) (hB : ∀ j, inR (B j))
    (kk : ∀ (ν : Mem) (K' : Int), K' ≤ K + 1300 → LI (xV X) q m b B K' ν → RR (X1 X) ν 1392 [vR b, vR q, vR m, vR o, vI i, vU, vU, vU, vU] []) : RR X μ 768 [vR b, vR q, vR m, vR o, vI i, vU, vU, vU, vU] [] := by
  obtain ⟨⟨hM, So, Bo, S4, Sb⟩, hord, hfl, hE⟩ := id hW
  obtain ⟨w, tx, sv, kp, ln, hI, hm, hb, hz⟩ := hL
  have hsv : 0 ≤ sv ∧ sv ≤ 6 := hI.2.2.2.1.1
  have hkp := hI.2.2.1.1
  have hln : 0 ≤ ln ∧ ln ≤ 60 := hI.2.2.2.2.1.2.1
  have hvw := hI.2.1.1
  have hx := hB (i + 1)
  have hy := hB (i + 2)
  have hK20 : K + 20 ≤ 1000000 := by omega
  have C1 : Ok (X1 X) RL cL_law 9 10 := ok_1 C R1 R2
  refine r_aload_n C dL_law_768 rfl ?_
  refine r_runIr (fun aH aL aj a1 a2 a3 => run_V C hfl (kX4_clearBuffer_c hI) lm_X4_clearBuffer ml_L_114 im_X4_clearBuffer se_X4_clearBuffer S4 rfl (Nat.le_of_ble_eq_true rfl) dL_law_769 rfl (Nat.le_of_ble_eq_true rfl) a1 a2 a3) (fun ν hν => ?_)
  obtain ⟨hI2, hf⟩ := hν
  obtain ⟨⟨n1, n2, n3, n4, n5⟩, hb2, hz2⟩ := lm_x hW hf hm hb hz
  have hv : veW K (ν (m + 1)) := by rw [n1]; exact hvw
  have s1 : 0 ≤ ν m 2 := by rw [n3]; exact hsv.1
  have s2 : ν m 2 ≤ 6 := by rw [n3]; exact hsv.2
  have k5 := kX5_clearBuffer (μ := ν) hM
  simp only [n1, n2, n3, n4, n5] at k5
  refine r_aload_n C dL_law_772 rfl ?_
  refine r_runIr (fun aH aL aj a1 a2 a3 => run_V C hfl k5 lm_X5_clearBuffer ml_L_117 im_X5_clearBuffer se_X5_clearBuffer hM.2.1 rfl (Nat.le_of_ble_eq_true rfl) dL_law_773 rfl (Nat.le_of_ble_eq_true rfl) a1 a2 a3) (fun σ hσ => ?_)
  obtain ⟨hL2, t0, eo⟩ := lm_r hW hI2 hb2 hz2 hσ
  refine r_same (tgt := 1392) C dL_law_776 (by decide) ?_
  refine r_wid (k := xk X + 1) (n := xn X + 6) (by omega) (by omega) (r_fgt (ls' := [vR b, vR q, vR m, vR o, vI i, vU, vU, vU, vU]) rfl (fun j a h1 h2 => ?_) (kk σ K (by omega) hL2))
  exact fg_9 h1 h2
set_option maxRecDepth 20000 in
set_option maxHeartbeats 2000000 in
theorem kL_firstError {X : Cx} {b L q m o : Nat} {B : Int → Int} {μ : Mem} {K i : Int} (C : Ok X RL cL_law 9 10) (hW : LW X b L q m o) (R1 : xk X + 1 ≤ (xR X).cells) (R2 : xn X + 6 ≤ (xR X).slots) (hK : K + 1300 ≤ 1000000) (hL : LI (xV X) q m b B K μ) (hi0 : 0 ≤ i) (hi3 : i + 3 ≤ (L : Int)) (hLL : L ≤ 1536) (hB : ∀ j, inR (B j))
    (kk : ∀ (ν : Mem) (K' : Int), K' ≤ K + 1300 → LI (xV X) q m b B K' ν → RR (X1 X) ν 1392 [vR b, vR q, vR m, vR o, vI i, vU, vU, vU, vU] []) : RR X μ 781 [vR b, vR q, vR m, vR o, vI i, vU, vU, vU, vU] [] := by
  obtain ⟨⟨hM, So, Bo, S4, Sb⟩, hord, hfl, hE⟩ := id hW
  obtain ⟨w, tx, sv, kp, ln, hI, hm, hb, hz⟩ := hL
  have hsv : 0 ≤ sv ∧ sv ≤ 6 := hI.2.2.2.1.1
  have hkp := hI.2.2.1.1
  have hln : 0 ≤ ln ∧ ln ≤ 60 := hI.2.2.2.2.1.2.1
  have hvw := hI.2.1.1
  have hx := hB (i + 1)
  have hy := hB (i + 2)
  have hK20 : K + 20 ≤ 1000000 := by omega
  have C1 : Ok (X1 X) RL cL_law 9 10 := ok_1 C R1 R2
  refine r_aload_n C dL_law_781 rfl ?_
  refine r_runIr (fun aH aL aj a1 a2 a3 => run_V C hfl (kX4_firstError_c hI) lm_X4_firstError ml_L_118 im_X4_firstError se_X4_firstError S4 rfl (Nat.le_of_ble_eq_true rfl) dL_law_782 rfl (Nat.le_of_ble_eq_true rfl) a1 a2 a3) (fun ν hν => ?_)
  obtain ⟨hI2, hf⟩ := hν
  obtain ⟨⟨n1, n2, n3, n4, n5⟩, hb2, hz2⟩ := lm_x hW hf hm hb hz
  have hv : veW K (ν (m + 1)) := by rw [n1]; exact hvw
  have s1 : 0 ≤ ν m 2 := by rw [n3]; exact hsv.1
  have s2 : ν m 2 ≤ 6 := by rw [n3]; exact hsv.2
  have k5 := kX5_firstError (μ := ν) hM (bu_of hI n2 n5)
  simp only [n1, n2, n3, n4, n5] at k5
  refine r_aload_n C dL_law_785 rfl ?_
  refine r_runIr (fun aH aL aj a1 a2 a3 => run_V C hfl k5 lm_X5_firstError ml_L_121 im_X5_firstError se_X5_firstError hM.2.1 rfl (Nat.le_of_ble_eq_true rfl) dL_law_786 rfl (Nat.le_of_ble_eq_true rfl) a1 a2 a3) (fun σ hσ => ?_)
  obtain ⟨hL2, t0, eo⟩ := lm_r hW hI2 hb2 hz2 hσ
  refine r_same (tgt := 1392) C dL_law_789 (by decide) ?_
  refine r_wid (k := xk X + 1) (n := xn X + 6) (by omega) (by omega) (r_fgt (ls' := [vR b, vR q, vR m, vR o, vI i, vU, vU, vU, vU]) rfl (fun j a h1 h2 => ?_) (kk σ K (by omega) hL2))
  exact fg_9 h1 h2
set_option maxRecDepth 20000 in
set_option maxHeartbeats 2000000 in
theorem kL_keep {X : Cx} {b L q m o : Nat} {B : Int → Int} {μ : Mem} {K i : Int} (C : Ok X RL cL_law 9 10) (hW : LW X b L q m o) (R1 : xk X + 1 ≤ (xR X).cells) (R2 : xn X + 6 ≤ (xR X).slots) (hK : K + 1300 ≤ 1000000) (hL : LI (xV X) q m b B K μ) (hi0 : 0 ≤ i) (hi3 : i + 3 ≤ (L : Int)) (hLL : L ≤ 1536) (hB : ∀ j, inR (B j))
    (kk : ∀ (ν : Mem) (K' : Int), K' ≤ K + 1300 → LI (xV X) q m b B K' ν → RR (X1 X) ν 1392 [vR b, vR q, vR m, vR o, vI i, vU, vU, vU, vU] []) : RR X μ 838 [vR b, vR q, vR m, vR o, vI i, vU, vU, vU, vU] [] := by
  obtain ⟨⟨hM, So, Bo, S4, Sb⟩, hord, hfl, hE⟩ := id hW
  obtain ⟨w, tx, sv, kp, ln, hI, hm, hb, hz⟩ := hL
  have hsv : 0 ≤ sv ∧ sv ≤ 6 := hI.2.2.2.1.1
  have hkp := hI.2.2.1.1
  have hln : 0 ≤ ln ∧ ln ≤ 60 := hI.2.2.2.2.1.2.1
  have hvw := hI.2.1.1
  have hx := hB (i + 1)
  have hy := hB (i + 2)
  have hK20 : K + 20 ≤ 1000000 := by omega
  have C1 : Ok (X1 X) RL cL_law 9 10 := ok_1 C R1 R2
  refine r_aload_n C dL_law_838 rfl ?_
  refine r_runIr (fun aH aL aj a1 a2 a3 => run_V C hfl (kX4_keep_0 hI) lm_X4_keep ml_L_125 im_X4_keep se_X4_keep S4 rfl (Nat.le_of_ble_eq_true rfl) dL_law_839 rfl (Nat.le_of_ble_eq_true rfl) a1 a2 a3) (fun ν hν => ?_)
  obtain ⟨hI2, hf⟩ := hν
  obtain ⟨⟨n1, n2, n3, n4, n5⟩, hb2, hz2⟩ := lm_x hW hf hm hb hz
  have hv : veW K (ν (m + 1)) := by rw [n1]; exact hvw
  have s1 : 0 ≤ ν m 2 := by rw [n3]; exact hsv.1
  have s2 : ν m 2 ≤ 6 := by rw [n3]; exact hsv.2
  have k5 := kX5_keep (μ := ν) hM hv
  simp only [n1, n2, n3, n4, n5] at k5
  refine r_aload_n C dL_law_842 rfl ?_
  refine r_runIr (fun aH aL aj a1 a2 a3 => run_V C hfl k5 lm_X5_keep ml_L_128 im_X5_keep se_X5_keep hM.2.1 rfl (Nat.le_of_ble_eq_true rfl) dL_law_843 rfl (Nat.le_of_ble_eq_true rfl) a1 a2 a3) (fun σ hσ => ?_)
  obtain ⟨hL2, t0, eo⟩ := lm_r hW hI2 hb2 hz2 hσ
  refine r_same (tgt := 1392) C dL_law_846 (by decide) ?_
  refine r_wid (k := xk X + 1) (n := xn X + 6) (by omega) (by omega) (r_fgt (ls' := [vR b, vR q, vR m, vR o, vI i, vU, vU, vU, vU]) rfl (fun j a h1 h2 => ?_) (kk σ K (by omega) hL2))
  exact fg_9 h1 h2
set_option maxRecDepth 20000 in
set_option maxHeartbeats 2000000 in
theorem kL_nextMove {X : Cx} {b L q m o : Nat} {B : Int → Int} {μ : Mem} {K i : Int} (C : Ok X RL cL_law 9 10) (hW : LW X b L q m o) (R1 : xk X + 1 ≤ (xR X).cells) (R2 : xn X + 6 ≤ (xR X).slots) (hK : K + 1300 ≤ 1000000) (hL : LI (xV X) q m b B K μ) (hi0 : 0 ≤ i) (hi3 : i + 3 ≤ (L : Int)) (hLL : L ≤ 1536) (hB : ∀ j, inR (B j))
    (kk : ∀ (ν : Mem) (K' : Int), K' ≤ K + 1300 → LI (xV X) q m b B K' ν → RR (X1 X) ν 1392 [vR b, vR q, vR m, vR o, vI i, vU, vU, vU, vU] []) : RR X μ 1187 [vR b, vR q, vR m, vR o, vI i, vU, vU, vU, vU] [] := by
  obtain ⟨⟨hM, So, Bo, S4, Sb⟩, hord, hfl, hE⟩ := id hW
  obtain ⟨w, tx, sv, kp, ln, hI, hm, hb, hz⟩ := hL
  have hsv : 0 ≤ sv ∧ sv ≤ 6 := hI.2.2.2.1.1
  have hkp := hI.2.2.1.1
  have hln : 0 ≤ ln ∧ ln ≤ 60 := hI.2.2.2.2.1.2.1
  have hvw := hI.2.1.1
  have hx := hB (i + 1)
  have hy := hB (i + 2)
  have hK20 : K + 20 ≤ 1000000 := by omega
  have C1 : Ok (X1 X) RL cL_law 9 10 := ok_1 C R1 R2
  refine r_aload_n C dL_law_1187 rfl ?_
  refine r_runIr (fun aH aL aj a1 a2 a3 => run_V C hfl (kX4_nextMove_c hI) lm_X4_nextMove ml_L_147 im_X4_nextMove se_X4_nextMove S4 rfl (Nat.le_of_ble_eq_true rfl) dL_law_1188 rfl (Nat.le_of_ble_eq_true rfl) a1 a2 a3) (fun ν hν => ?_)
  obtain ⟨hI2, hf⟩ := hν
  obtain ⟨⟨n1, n2, n3, n4, n5⟩, hb2, hz2⟩ := lm_x hW hf hm hb hz
  have hv : veW K (ν (m + 1)) := by rw [n1]; exact hvw
  have s1 : 0 ≤ ν m 2 := by rw [n3]; exact hsv.1
  have s2 : ν m 2 ≤ 6 := by rw [n3]; exact hsv.2
  have k5 := kX5_nextMove (μ := ν) hM hv
  simp only [n1, n2, n3, n4, n5] at k5
  refine r_aload_n C dL_law_1191 rfl ?_
  refine r_runIr (fun aH aL aj a1 a2 a3 => run_V C hfl k5 lm_X5_nextMove ml_L_150 im_X5_nextMove se_X5_nextMove hM.2.1 rfl (Nat.le_of_ble_eq_true rfl) dL_law_1192 rfl (Nat.le_of_ble_eq_true rfl) a1 a2 a3) (fun σ hσ => ?_)
  obtain ⟨hL2, t0, eo⟩ := lm_r hW hI2 hb2 hz2 hσ
  refine r_same (tgt := 1392) C dL_law_1195 (by decide) ?_
  refine r_wid (k := xk X + 1) (n := xn X + 6) (by omega) (by omega) (r_fgt (ls' := [vR b, vR q, vR m, vR o, vI i, vU, vU, vU, vU]) rfl (fun j a h1 h2 => ?_) (kk σ K (by omega) hL2))
  exact fg_9 h1 h2
set_option maxRecDepth 20000 in
set_option maxHeartbeats 2000000 in
theorem kL_fits {X : Cx} {b L q m o : Nat} {B : Int → Int} {μ : Mem} {K i : Int} (C : Ok X RL cL_law 9 10) (hW : LW X b L q m o) (R1 : xk X + 1 ≤ (xR X).cells) (R2 : xn X + 6 ≤ (xR X).slots) (hK : K + 1300 ≤ 1000000) (hL : LI (xV X) q m b B K μ) (hi0 : 0 ≤ i) (hi3 : i + 3 ≤ (L : Int)) (hLL : L ≤ 1536) (hB : ∀ j, inR (B j))
    (kk : ∀ (ν : Mem) (K' : Int), K' ≤ K + 1300 → LI (xV X) q m b B K' ν → RR (X1 X) ν 1392 [vR b, vR q, vR m, vR o, vI i, vU, vU, vU, vU] []) : RR X μ 1268 [vR b, vR q, vR m, vR o, vI i, vU, vU, vU, vU] [] := by
  obtain ⟨⟨hM, So, Bo, S4, Sb⟩, hord, hfl, hE⟩ := id hW
  obtain ⟨w, tx, sv, kp, ln, hI, hm, hb, hz⟩ := hL
  have hsv : 0 ≤ sv ∧ sv ≤ 6 := hI.2.2.2.1.1
  have hkp := hI.2.2.1.1
  have hln : 0 ≤ ln ∧ ln ≤ 60 := hI.2.2.2.2.1.2.1
  have hvw := hI.2.1.1
  have hx := hB (i + 1)
  have hy := hB (i + 2)
  have hK20 : K + 20 ≤ 1000000 := by omega
  have C1 : Ok (X1 X) RL cL_law 9 10 := ok_1 C R1 R2
  refine r_aload_n C dL_law_1268 rfl ?_
  refine r_runIr (fun aH aL aj a1 a2 a3 => run_V C hfl (kX4_fits_c hI) lm_X4_fits ml_L_154 im_X4_fits se_X4_fits S4 rfl (Nat.le_of_ble_eq_true rfl) dL_law_1269 rfl (Nat.le_of_ble_eq_true rfl) a1 a2 a3) (fun ν hν => ?_)
  obtain ⟨hI2, hf⟩ := hν
  obtain ⟨⟨n1, n2, n3, n4, n5⟩, hb2, hz2⟩ := lm_x hW hf hm hb hz
  have hv : veW K (ν (m + 1)) := by rw [n1]; exact hvw
  have s1 : 0 ≤ ν m 2 := by rw [n3]; exact hsv.1
  have s2 : ν m 2 ≤ 6 := by rw [n3]; exact hsv.2
  have k5 := kX5_fits (μ := ν) hM hv
  simp only [n1, n2, n3, n4, n5] at k5
  refine r_aload_n C dL_law_1272 rfl ?_
  refine r_runIr (fun aH aL aj a1 a2 a3 => run_V C hfl k5 lm_X5_fits ml_L_157 im_X5_fits se_X5_fits hM.2.1 rfl (Nat.le_of_ble_eq_true rfl) dL_law_1273 rfl (Nat.le_of_ble_eq_true rfl) a1 a2 a3) (fun σ hσ => ?_)
  obtain ⟨hL2, t0, eo⟩ := lm_r hW hI2 hb2 hz2 hσ
  refine r_same (tgt := 1392) C dL_law_1276 (by decide) ?_
  refine r_wid (k := xk X + 1) (n := xn X + 6) (by omega) (by omega) (r_fgt (ls' := [vR b, vR q, vR m, vR o, vI i, vU, vU, vU, vU]) rfl (fun j a h1 h2 => ?_) (kk σ K (by omega) hL2))
  exact fg_9 h1 h2
set_option maxRecDepth 20000 in
set_option maxHeartbeats 2000000 in
theorem kL_books {X : Cx} {b L q m o : Nat} {B : Int → Int} {μ : Mem} {K i : Int} (C : Ok X RL cL_law 9 10) (hW : LW X b L q m o) (R1 : xk X + 1 ≤ (xR X).cells) (R2 : xn X + 6 ≤ (xR X).slots) (hK : K + 1300 ≤ 1000000) (hL : LI (xV X) q m b B K μ) (hi0 : 0 ≤ i) (hi3 : i + 3 ≤ (L : Int)) (hLL : L ≤ 1536) (hB : ∀ j, inR (B j))
    (kk : ∀ (ν : Mem) (K' : Int), K' ≤ K + 1300 → LI (xV X) q m b B K' ν → RR (X1 X) ν 1392 [vR b, vR q, vR m, vR o, vI i, vU, vU, vU, vU] []) : RR X μ 1281 [vR b, vR q, vR m, vR o, vI i, vU, vU, vU, vU] [] := by
  obtain ⟨⟨hM, So, Bo, S4, Sb⟩, hord, hfl, hE⟩ := id hW
  obtain ⟨w, tx, sv, kp, ln, hI, hm, hb, hz⟩ := hL
  have hsv : 0 ≤ sv ∧ sv ≤ 6 := hI.2.2.2.1.1
  have hkp := hI.2.2.1.1
  have hln : 0 ≤ ln ∧ ln ≤ 60 := hI.2.2.2.2.1.2.1
  have hvw := hI.2.1.1
  have hx := hB (i + 1)
  have hy := hB (i + 2)
  have hK20 : K + 20 ≤ 1000000 := by omega
  have C1 : Ok (X1 X) RL cL_law 9 10 := ok_1 C R1 R2
  refine r_aload_n C dL_law_1281 rfl ?_
  refine r_runIr (fun aH aL aj a1 a2 a3 => run_V C hfl (kX4_books_c hI) lm_X4_books ml_L_158 im_X4_books se_X4_books S4 rfl (Nat.le_of_ble_eq_true rfl) dL_law_1282 rfl (Nat.le_of_ble_eq_true rfl) a1 a2 a3) (fun ν hν => ?_)
  obtain ⟨hI2, hf⟩ := hν
  obtain ⟨⟨n1, n2, n3, n4, n5⟩, hb2, hz2⟩ := lm_x hW hf hm hb hz
  have hv : veW K (ν (m + 1)) := by rw [n1]; exact hvw
  have s1 : 0 ≤ ν m 2 := by rw [n3]; exact hsv.1
  have s2 : ν m 2 ≤ 6 := by rw [n3]; exact hsv.2
  have k5 := kX5_books (μ := ν) hM hv
  simp only [n1, n2, n3, n4, n5] at k5
  refine r_aload_n C dL_law_1285 rfl ?_
  refine r_runIr (fun aH aL aj a1 a2 a3 => run_V C hfl k5 lm_X5_books ml_L_161 im_X5_books se_X5_books hM.2.1 rfl (Nat.le_of_ble_eq_true rfl) dL_law_1286 rfl (Nat.le_of_ble_eq_true rfl) a1 a2 a3) (fun σ hσ => ?_)
  obtain ⟨hL2, t0, eo⟩ := lm_r hW hI2 hb2 hz2 hσ
  refine r_same (tgt := 1392) C dL_law_1289 (by decide) ?_
  refine r_wid (k := xk X + 1) (n := xn X + 6) (by omega) (by omega) (r_fgt (ls' := [vR b, vR q, vR m, vR o, vI i, vU, vU, vU, vU]) rfl (fun j a h1 h2 => ?_) (kk σ K (by omega) hL2))
  exact fg_9 h1 h2
set_option maxRecDepth 20000 in
set_option maxHeartbeats 2000000 in
theorem kL_stairShare {X : Cx} {b L q m o : Nat} {B : Int → Int} {μ : Mem} {K i : Int} (C : Ok X RL cL_law 9 10) (hW : LW X b L q m o) (R1 : xk X + 1 ≤ (xR X).cells) (R2 : xn X + 6 ≤ (xR X).slots) (hK : K + 1300 ≤ 1000000) (hL : LI (xV X) q m b B K μ) (hi0 : 0 ≤ i) (hi3 : i + 3 ≤ (L : Int)) (hLL : L ≤ 1536) (hB : ∀ j, inR (B j))
    (kk : ∀ (ν : Mem) (K' : Int), K' ≤ K + 1300 → LI (xV X) q m b B K' ν → RR (X1 X) ν 1392 [vR b, vR q, vR m, vR o, vI i, vU, vU, vU, vU] []) : RR X μ 1294 [vR b, vR q, vR m, vR o, vI i, vU, vU, vU, vU] [] := by
  obtain ⟨⟨hM, So, Bo, S4, Sb⟩, hord, hfl, hE⟩ := id hW
  obtain ⟨w, tx, sv, kp, ln, hI, hm, hb, hz⟩ := hL
  have hsv : 0 ≤ sv ∧ sv ≤ 6 := hI.2.2.2.1.1
  have hkp := hI.2.2.1.1
  have hln : 0 ≤ ln ∧ ln ≤ 60 := hI.2.2.2.2.1.2.1
  have hvw := hI.2.1.1
  have hx := hB (i + 1)
  have hy := hB (i + 2)
  have hK20 : K + 20 ≤ 1000000 := by omega
  have C1 : Ok (X1 X) RL cL_law 9 10 := ok_1 C R1 R2
  refine r_aload_n C dL_law_1294 rfl ?_
  refine r_runDr (fun aH aL aj a1 a2 a3 => run_V C hfl (kX4_stairShare_c hI) lm_X4_stairShare ml_L_162 im_X4_stairShare se_X4_stairShare S4 rfl (Nat.le_of_ble_eq_true rfl) dL_law_1295 rfl (Nat.le_of_ble_eq_true rfl) a1 a2 a3) (fun ν hν => ?_)
  obtain ⟨hI2, hf⟩ := hν
  obtain ⟨⟨n1, n2, n3, n4, n5⟩, hb2, hz2⟩ := lm_x hW hf hm hb hz
  have hv : veW K (ν (m + 1)) := by rw [n1]; exact hvw
  have s1 : 0 ≤ ν m 2 := by rw [n3]; exact hsv.1
  have s2 : ν m 2 ≤ 6 := by rw [n3]; exact hsv.2
  have k5 := kX5_stairShare (μ := ν) hM hv
  simp only [n1, n2, n3, n4, n5] at k5
  obtain ⟨ckD, ckE, -⟩ := chkD_e (chk_sh hvw)
  refine r_dstore C dL_law_1298 (by decide) rfl ?_
  refine r_aload_n C dL_law_1300 rfl ?_
  refine r_runDr (fun aH aL aj a1 a2 a3 => run_V C hfl k5 lm_X5_stairShare ml_L_166 im_X5_stairShare se_X5_stairShare hM.2.1 rfl (Nat.le_of_ble_eq_true rfl) dL_law_1301 rfl (Nat.le_of_ble_eq_true rfl) a1 a2 a3) (fun σ hσ => ?_)
  obtain ⟨hL2, t0, eo⟩ := lm_r hW hI2 hb2 hz2 hσ
  refine r_dstore C dL_law_1304 (by decide) rfl ?_
  refine r_dload C dL_law_1306 rfl ?_
  refine r_dload C dL_law_1308 rfl ?_
  refine r_dcmp C dL_law_1310 ?_
  rw [show (Op.cmpValue (FP.dcmp (shT w) (shT w)) .l).toInt = 0 from ckE]
  refine r_if_eq (tgt := 1332) C dL_law_1311 (by decide) (by decide) (fun _ => ?_) (fun c => absurd rfl c)
  refine r_goto (tgt := 1392) C dL_law_1332 (by decide) ?_
  refine r_wid (k := xk X + 1) (n := xn X + 6) (by omega) (by omega) (r_fgt (ls' := [vR b, vR q, vR m, vR o, vI i, vU, vU, vU, vU]) rfl (fun j a h1 h2 => ?_) (kk σ K (by omega) hL2))
  exact fg_9 h1 h2
set_option maxRecDepth 20000 in
set_option maxHeartbeats 2000000 in
theorem kL_meanThread {X : Cx} {b L q m o : Nat} {B : Int → Int} {μ : Mem} {K i : Int} (C : Ok X RL cL_law 9 10) (hW : LW X b L q m o) (R1 : xk X + 1 ≤ (xR X).cells) (R2 : xn X + 6 ≤ (xR X).slots) (hK : K + 1300 ≤ 1000000) (hL : LI (xV X) q m b B K μ) (hi0 : 0 ≤ i) (hi3 : i + 3 ≤ (L : Int)) (hLL : L ≤ 1536) (hB : ∀ j, inR (B j))
    (kk : ∀ (ν : Mem) (K' : Int), K' ≤ K + 1300 → LI (xV X) q m b B K' ν → RR (X1 X) ν 1392 [vR b, vR q, vR m, vR o, vI i, vU, vU, vU, vU] []) : RR X μ 1335 [vR b, vR q, vR m, vR o, vI i, vU, vU, vU, vU] [] := by
  obtain ⟨⟨hM, So, Bo, S4, Sb⟩, hord, hfl, hE⟩ := id hW
  obtain ⟨w, tx, sv, kp, ln, hI, hm, hb, hz⟩ := hL
  have hsv : 0 ≤ sv ∧ sv ≤ 6 := hI.2.2.2.1.1
  have hkp := hI.2.2.1.1
  have hln : 0 ≤ ln ∧ ln ≤ 60 := hI.2.2.2.2.1.2.1
  have hvw := hI.2.1.1
  have hx := hB (i + 1)
  have hy := hB (i + 2)
  have hK20 : K + 20 ≤ 1000000 := by omega
  have C1 : Ok (X1 X) RL cL_law 9 10 := ok_1 C R1 R2
  refine r_aload_n C dL_law_1335 rfl ?_
  refine r_runFr (fun aH aL aj a1 a2 a3 => run_V C hfl (kX4_meanThread_c hI) lm_X4_meanThread ml_L_167 im_X4_meanThread se_X4_meanThread S4 rfl (Nat.le_of_ble_eq_true rfl) dL_law_1336 rfl (Nat.le_of_ble_eq_true rfl) a1 a2 a3) (fun ν hν => ?_)
  obtain ⟨hI2, hf⟩ := hν
  obtain ⟨⟨n1, n2, n3, n4, n5⟩, hb2, hz2⟩ := lm_x hW hf hm hb hz
  have hv : veW K (ν (m + 1)) := by rw [n1]; exact hvw
  have s1 : 0 ≤ ν m 2 := by rw [n3]; exact hsv.1
  have s2 : ν m 2 ≤ 6 := by rw [n3]; exact hsv.2
  have k5 := kX5_meanThread (μ := ν) hM hv
  simp only [n1, n2, n3, n4, n5] at k5
  obtain ⟨ckF, ckD, ckE, -⟩ := chkF_e (chk_me hvw)
  refine r_f2d C dL_law_1339 ckD ?_
  refine r_dstore C dL_law_1340 (by decide) rfl ?_
  refine r_aload_n C dL_law_1342 rfl ?_
  refine r_runFr (fun aH aL aj a1 a2 a3 => run_V C hfl k5 lm_X5_meanThread ml_L_171 im_X5_meanThread se_X5_meanThread hM.2.1 rfl (Nat.le_of_ble_eq_true rfl) dL_law_1343 rfl (Nat.le_of_ble_eq_true rfl) a1 a2 a3) (fun σ hσ => ?_)
  obtain ⟨hL2, t0, eo⟩ := lm_r hW hI2 hb2 hz2 hσ
  refine r_f2d C dL_law_1346 ckD ?_
  refine r_dstore C dL_law_1347 (by decide) rfl ?_
  refine r_dload C dL_law_1349 rfl ?_
  refine r_dload C dL_law_1351 rfl ?_
  refine r_dcmp C dL_law_1353 ?_
  rw [show (Op.cmpValue (FP.dcmp (FP.f2d (meT w)) (FP.f2d (meT w))) .l).toInt = 0 from ckE]
  refine r_if_eq (tgt := 1375) C dL_law_1354 (by decide) (by decide) (fun _ => ?_) (fun c => absurd rfl c)
  refine r_goto (tgt := 1392) C dL_law_1375 (by decide) ?_
  refine r_wid (k := xk X + 1) (n := xn X + 6) (by omega) (by omega) (r_fgt (ls' := [vR b, vR q, vR m, vR o, vI i, vU, vU, vU, vU]) rfl (fun j a h1 h2 => ?_) (kk σ K (by omega) hL2))
  exact fg_9 h1 h2
set_option maxRecDepth 20000 in
set_option maxHeartbeats 2000000 in
theorem kL_digest {X : Cx} {b L q m o : Nat} {B : Int → Int} {μ : Mem} {K i : Int} (C : Ok X RL cL_law 9 10) (hW : LW X b L q m o) (R1 : xk X + 1 ≤ (xR X).cells) (R2 : xn X + 6 ≤ (xR X).slots) (hK : K + 1300 ≤ 1000000) (hL : LI (xV X) q m b B K μ) (hi0 : 0 ≤ i) (hi3 : i + 3 ≤ (L : Int)) (hLL : L ≤ 1536) (hB : ∀ j, inR (B j))
    (kk : ∀ (ν : Mem) (K' : Int), K' ≤ K + 1300 → LI (xV X) q m b B K' ν → RR (X1 X) ν 1392 [vR b, vR q, vR m, vR o, vI i, vU, vU, vU, vU] []) : RR X μ 1378 [vR b, vR q, vR m, vR o, vI i, vU, vU, vU, vU] [] := by
  obtain ⟨⟨hM, So, Bo, S4, Sb⟩, hord, hfl, hE⟩ := id hW
  obtain ⟨w, tx, sv, kp, ln, hI, hm, hb, hz⟩ := hL
  have hsv : 0 ≤ sv ∧ sv ≤ 6 := hI.2.2.2.1.1
  have hkp := hI.2.2.1.1
  have hln : 0 ≤ ln ∧ ln ≤ 60 := hI.2.2.2.2.1.2.1
  have hvw := hI.2.1.1
  have hx := hB (i + 1)
  have hy := hB (i + 2)
  have hK20 : K + 20 ≤ 1000000 := by omega
  have C1 : Ok (X1 X) RL cL_law 9 10 := ok_1 C R1 R2
  refine r_aload_n C dL_law_1378 rfl ?_
  refine r_runLr (fun aH aL aj a1 a2 a3 => run_V C hfl (kX4_digest_c hI) lm_X4_digest ml_L_172 im_X4_digest se_X4_digest S4 rfl (Nat.le_of_ble_eq_true rfl) dL_law_1379 rfl (Nat.le_of_ble_eq_true rfl) a1 a2 a3) (fun ν hν => ?_)
  obtain ⟨hI2, hf⟩ := hν
  obtain ⟨⟨n1, n2, n3, n4, n5⟩, hb2, hz2⟩ := lm_x hW hf hm hb hz
  have hv : veW K (ν (m + 1)) := by rw [n1]; exact hvw
  have s1 : 0 ≤ ν m 2 := by rw [n3]; exact hsv.1
  have s2 : ν m 2 ≤ 6 := by rw [n3]; exact hsv.2
  have k5 := kX5_digest (μ := ν) hM hv ⟨s1, s2⟩ (bu_of hI n2 n5) (by rw [n4]; exact hkp)
  simp only [n1, n2, n3, n4, n5] at k5
  refine r_aload_n C dL_law_1382 rfl ?_
  refine r_runLr (fun aH aL aj a1 a2 a3 => run_V C hfl k5 lm_X5_digest ml_L_176 im_X5_digest se_X5_digest hM.2.1 rfl (Nat.le_of_ble_eq_true rfl) dL_law_1383 rfl (Nat.le_of_ble_eq_true rfl) a1 a2 a3) (fun σ hσ => ?_)
  obtain ⟨hL2, t0, eo⟩ := lm_r hW hI2 hb2 hz2 hσ
  refine r_lcmp0 C dL_law_1386 rfl ?_
  refine r_if_eq (tgt := 1392) C dL_law_1387 (by decide) (by decide) (fun _ => ?_) (fun c => absurd rfl c)
  refine r_wid (k := xk X + 1) (n := xn X + 6) (by omega) (by omega) (r_fgt (ls' := [vR b, vR q, vR m, vR o, vI i, vU, vU, vU, vU]) rfl (fun j a h1 h2 => ?_) (kk σ K (by omega) hL2))
  exact fg_9 h1 h2
