/-! the law's twenty-seven cases -/
theorem fg_9 {b q m o : Nat} {i : Int} {x y : AV} {z1 z2 : AV} {j : Nat} {a : AV} (h1 : [vR b, vR q, vR m, vR o, vI i, vU, vU, vU, vU][j]? = some a) (h2 : a ≠ vU) : [vR b, vR q, vR m, vR o, vI i, x, y, z1, z2][j]? = some a := by
  match j, h1 with
  | 0, h => exact h
  | 1, h => exact h
  | 2, h => exact h
  | 3, h => exact h
  | 4, h => exact h
  | 5, h => exact absurd (Option.some.inj h).symm h2
  | 6, h => exact absurd (Option.some.inj h).symm h2
  | 7, h => exact absurd (Option.some.inj h).symm h2
  | 8, h => exact absurd (Option.some.inj h).symm h2
  | k + 9, h => exact absurd h (by simp)
theorem lk_gather : LkL yL_gather cL_gather 4 hhL_gather 3 := ⟨cw_gather, ini_L, ⟨by decide +kernel, by decide +kernel, by decide +kernel⟩, by decide⟩
theorem lk_insert : LkL yL_insert cL_insert 5 hhL_insert 4 := ⟨cw_insert, ini_L, ⟨by decide +kernel, by decide +kernel, by decide +kernel⟩, by decide⟩
theorem lk_pull : LkL yL_pull cL_pull 4 hhL_pull 3 := ⟨cw_pull, ini_L, ⟨by decide +kernel, by decide +kernel, by decide +kernel⟩, by decide⟩
theorem lk_flip : LkL yL_flip cL_flip 4 hhL_flip 3 := ⟨cw_flip, ini_L, ⟨by decide +kernel, by decide +kernel, by decide +kernel⟩, by decide⟩
theorem lk_move : LkL yL_move cL_move 5 hhL_move 4 := ⟨cw_move, ini_L, ⟨by decide +kernel, by decide +kernel, by decide +kernel⟩, by decide⟩
theorem lk_bind : LkL yL_bind cL_bind 3 hhL_bind 2 := ⟨cw_bind, ini_L, ⟨by decide +kernel, by decide +kernel, by decide +kernel⟩, by decide⟩
theorem lk_print : LkL yL_print cL_print 5 hhL_print 4 := ⟨cw_print, ini_L, ⟨by decide +kernel, by decide +kernel, by decide +kernel⟩, by decide⟩
theorem lk_punch : LkL yL_punch cL_punch 5 hhL_punch 4 := ⟨cw_punch, ini_L, ⟨by decide +kernel, by decide +kernel, by decide +kernel⟩, by decide⟩
theorem lk_set : LkL yL_set cL_set 5 hhL_set 4 := ⟨cw_set, ini_L, ⟨by decide +kernel, by decide +kernel, by decide +kernel⟩, by decide⟩
theorem lk_append : LkL yL_append cL_append 4 hhL_append 3 := ⟨cw_append, ini_L, ⟨by decide +kernel, by decide +kernel, by decide +kernel⟩, by decide⟩
theorem lk_work : LkL yL_work cL_work 3 hhL_work 2 := ⟨cw_work, ini_L, ⟨by decide +kernel, by decide +kernel, by decide +kernel⟩, by decide⟩
theorem lk_goBack : LkL yL_goBack cL_goBack 3 hhL_goBack 2 := ⟨cw_goBack, ini_L, ⟨by decide +kernel, by decide +kernel, by decide +kernel⟩, by decide⟩
theorem lk_undo : LkL yL_undo cL_undo 3 hhL_undo 2 := ⟨cw_undo, ini_L, ⟨by decide +kernel, by decide +kernel, by decide +kernel⟩, by decide⟩
theorem lk_sheet : LkL yL_sheet cL_sheet 5 hhL_sheet 4 := ⟨cw_sheet, ini_L, ⟨by decide +kernel, by decide +kernel, by decide +kernel⟩, by decide⟩
theorem lk_bin : LkL yL_bin cL_bin 5 hhL_bin 4 := ⟨cw_bin, ini_L, ⟨by decide +kernel, by decide +kernel, by decide +kernel⟩, by decide⟩
theorem lk_count : LkL yL_count cL_count 4 hhL_count 3 := ⟨cw_count, ini_L, ⟨by decide +kernel, by decide +kernel, by decide +kernel⟩, by decide⟩
theorem lk_setting : LkL yL_setting cL_setting 4 hhL_setting 3 := ⟨cw_setting, ini_L, ⟨by decide +kernel, by decide +kernel, by decide +kernel⟩, by decide⟩
theorem lk_ifPulled : LkL yL_ifPulled cL_ifPulled 5 hhL_ifPulled 4 := ⟨cw_ifPulled, ini_L, ⟨by decide +kernel, by decide +kernel, by decide +kernel⟩, by decide⟩
set_option maxRecDepth 20000 in
set_option maxHeartbeats 2000000 in
theorem kL_gather {X : Cx} {b L q m o : Nat} {B : Int → Int} {μ : Mem} {K i : Int} (C : Ok X RL cL_law 9 10) (hW : LW X b L q m o) (R1 : xk X + 1 ≤ (xR X).cells) (R2 : xn X + 6 ≤ (xR X).slots) (hK : K + 1300 ≤ 1000000) (hL : LI (xV X) q m b B K μ) (hi0 : 0 ≤ i) (hi3 : i + 3 ≤ (L : Int)) (hLL : L ≤ 1536) (hB : ∀ j, inR (B j))
    (kk : ∀ (ν : Mem) (K' : Int), K' ≤ K + 1300 → LI (xV X) q m b B K' ν → RR (X1 X) ν 1392 [vR b, vR q, vR m, vR o, vI i, vU, vU, vU, vU] []) : RR X μ 160 [vR b, vR q, vR m, vR o, vI i, vU, vU, vU, vU] [] := by
  obtain ⟨⟨hM, So, Bo, S4, Sb⟩, hord, hfl, hE⟩ := id hW
  obtain ⟨w, tx, sv, kp, ln, hI, hm, hb, hz⟩ := hL
  have hsv : 0 ≤ sv ∧ sv ≤ 6 := hI.2.2.2.1.1
  have hkp := hI.2.2.1.1
  have hln : 0 ≤ ln ∧ ln ≤ 60 := hI.2.2.2.2.1.2.1
  have hvw := hI.2.1.1
  have hx := hB (i + 1)
  have hy := hB (i + 2)
  have hK20 : K + 20 ≤ 1000000 := by omega
  have C1 : Ok (X1 X) RL cL_law 9 10 := ok_1 C R1 R2
  refine r_aload_n C dL_law_160 rfl ?_
  refine r_aload_n C dL_law_161 rfl ?_
  refine r_iload C dL_law_162 rfl ?_
  refine r_iconst C dL_law_164 ?_
  refine r_iadd C dL_law_165 ?_
  refine r_iald C Sb (by omega) (by omega) dL_law_166 ?_
  rw [hb]
  refine r_aload_n C dL_law_167 rfl ?_
  by_cases h : 0 ≤ B (i + 1) ∧ B (i + 1) < 16
  · by_cases hc : 0 < w (6 + B (i + 1)) ∧ w 3 < 20
    · refine r_runI1 (fun aH aL aj a1 a2 a3 => run_LW C hfl hE (hL_gather_0 (kX4_gather_0 hI hK20 hx h hc) (by decide) S4 So Bo) lk_gather ml_L_76 sm_L_gather dL_law_168 rfl (Nat.le_of_ble_eq_true rfl) R1 R2 a1 a2 a3) (fun ν hν => ?_)
      obtain ⟨ρ, ⟨hI1, hf⟩, hν⟩ := hν
      have eo1 := congrArg (fun f : Mem => f o 0) hν
      simp only [wr_s, s1_s] at eo1
      obtain ⟨hI2, ⟨n1, n2, n3, n4, n5⟩, hb2, hz2⟩ := lm_v hν hW hI1 (lm_x hW hf hm hb hz)
      have hv : veW K (ν (m + 1)) := by rw [n1]; exact hvw
      have s1 : 0 ≤ ν m 2 := by rw [n3]; exact hsv.1
      have s2 : ν m 2 ≤ 6 := by rw [n3]; exact hsv.2
      have k5 := kX5_gather_0 hM hv s1 s2 hx h (by rw [n1]; exact hc)
      simp only [n1, n2, n3, n4, n5] at k5
      refine r_istore C1 dL_law_171 (by decide) rfl ?_
      refine r_aload_n C1 dL_law_173 rfl ?_
      refine r_aload_n C1 dL_law_174 rfl ?_
      refine r_iload C1 dL_law_175 rfl ?_
      refine r_iconst C1 dL_law_177 ?_
      refine r_iadd C1 dL_law_178 ?_
      refine r_iald C1 Sb (by omega) (by omega) dL_law_179 ?_
      rw [hb2]
      refine r_runIr (fun aH aL aj a1 a2 a3 => run_V C1 hfl k5 lm_X5_gather ml_L_81 im_X5_gather se_X5_gather hM.2.1 rfl (Nat.le_of_ble_eq_true rfl) dL_law_180 rfl (Nat.le_of_ble_eq_true rfl) a1 a2 a3) (fun σ hσ => ?_)
      obtain ⟨hL2, t0, eo⟩ := lm_r hW hI2 hb2 hz2 hσ
      refine r_istore C1 dL_law_183 (by decide) rfl ?_
      refine r_aload_n C1 dL_law_185 rfl ?_
      refine r_runI (fun aH aL aj a1 a2 a3 => run_V C1 hfl (kX5_thrown (μ := σ) hM) lm_X5_thrown ml_L_82 im_X5_thrown se_X5_thrown hM.2.1 rfl (Nat.le_of_ble_eq_true rfl) dL_law_186 rfl (Nat.le_of_ble_eq_true rfl) a1 a2 a3) ?_
      rw [t0]
      refine r_iload C1 dL_law_189 rfl ?_
      refine r_icmp_eq (tgt := 196) C1 dL_law_191 (by decide) (by decide) (by decide) (fun _ => ?_) (fun c => absurd rfl c)
      refine r_iload C1 dL_law_196 rfl ?_
      refine r_if_ne (tgt := 213) C1 dL_law_198 (by decide) (by decide) (fun c => absurd rfl c) (fun _ => ?_)
      refine r_aload_n C1 dL_law_201 rfl ?_
      refine r_iconst C1 dL_law_202 ?_
      refine r_lald C1 So (by decide) (by decide) dL_law_203 ?_
      refine r_iload C1 dL_law_204 rfl ?_
      refine r_i2l0 C1 dL_law_206 ?_
      refine r_lcmp0 C1 dL_law_207 (by rw [eo, eo1]) ?_
      refine r_if_eq (tgt := 213) C1 dL_law_208 (by decide) (by decide) (fun _ => ?_) (fun c => absurd rfl c)
      refine r_goto (tgt := 1392) C1 dL_law_213 (by decide) ?_
      refine r_fgt (ls' := [vR b, vR q, vR m, vR o, vI i, vU, vU, vU, vU]) rfl (fun j a h1 h2 => ?_) (kk σ (K + 20) (by omega) hL2)
      exact fg_9 h1 h2
    · refine r_runI1 (fun aH aL aj a1 a2 a3 => run_LW C hfl hE (hL_gather_2 (kX4_gather_2 hI hx h hc) S4) lk_gather ml_L_76 sm_L_gather dL_law_168 rfl (Nat.le_of_ble_eq_true rfl) R1 R2 a1 a2 a3) (fun ν hν => ?_)
      obtain ⟨hI2, hf⟩ := hν
      obtain ⟨⟨n1, n2, n3, n4, n5⟩, hb2, hz2⟩ := lm_x hW hf hm hb hz
      have hv : veW K (ν (m + 1)) := by rw [n1]; exact hvw
      have s1 : 0 ≤ ν m 2 := by rw [n3]; exact hsv.1
      have s2 : ν m 2 ≤ 6 := by rw [n3]; exact hsv.2
      have k5 := kX5_gather_2 hM hv hx h (by rw [n1]; exact hc)
      simp only [n1, n2, n3, n4, n5] at k5
      refine r_istore C1 dL_law_171 (by decide) rfl ?_
      refine r_aload_n C1 dL_law_173 rfl ?_
      refine r_aload_n C1 dL_law_174 rfl ?_
      refine r_iload C1 dL_law_175 rfl ?_
      refine r_iconst C1 dL_law_177 ?_
      refine r_iadd C1 dL_law_178 ?_
      refine r_iald C1 Sb (by omega) (by omega) dL_law_179 ?_
      rw [hb2]
      refine r_runIr (fun aH aL aj a1 a2 a3 => run_V C1 hfl k5 lm_X5_gather ml_L_81 im_X5_gather se_X5_gather hM.2.1 rfl (Nat.le_of_ble_eq_true rfl) dL_law_180 rfl (Nat.le_of_ble_eq_true rfl) a1 a2 a3) (fun σ hσ => ?_)
      obtain ⟨hL2, t0, eo⟩ := lm_r hW hI2 hb2 hz2 hσ
      refine r_istore C1 dL_law_183 (by decide) rfl ?_
      refine r_aload_n C1 dL_law_185 rfl ?_
      refine r_runI (fun aH aL aj a1 a2 a3 => run_V C1 hfl (kX5_thrown (μ := σ) hM) lm_X5_thrown ml_L_82 im_X5_thrown se_X5_thrown hM.2.1 rfl (Nat.le_of_ble_eq_true rfl) dL_law_186 rfl (Nat.le_of_ble_eq_true rfl) a1 a2 a3) ?_
      rw [t0]
      refine r_iload C1 dL_law_189 rfl ?_
      refine r_icmp_eq (tgt := 196) C1 dL_law_191 (by decide) (by decide) (by decide) (fun _ => ?_) (fun c => absurd rfl c)
      refine r_iload C1 dL_law_196 rfl ?_
      refine r_if_ne (tgt := 213) C1 dL_law_198 (by decide) (by decide) (fun _ => ?_) (fun c => absurd c (by decide))
      refine r_goto (tgt := 1392) C1 dL_law_213 (by decide) ?_
      refine r_fgt (ls' := [vR b, vR q, vR m, vR o, vI i, vU, vU, vU, vU]) rfl (fun j a h1 h2 => ?_) (kk σ (K) (by omega) hL2)
      exact fg_9 h1 h2
  · refine r_runI1 (fun aH aL aj a1 a2 a3 => run_LW C hfl hE (hL_gather_1 (kX4_gather_1 hI hx h) S4) lk_gather ml_L_76 sm_L_gather dL_law_168 rfl (Nat.le_of_ble_eq_true rfl) R1 R2 a1 a2 a3) (fun ν hν => ?_)
    obtain ⟨hI2, hf⟩ := hν
    obtain ⟨⟨n1, n2, n3, n4, n5⟩, hb2, hz2⟩ := lm_x hW hf hm hb hz
    have hv : veW K (ν (m + 1)) := by rw [n1]; exact hvw
    have s1 : 0 ≤ ν m 2 := by rw [n3]; exact hsv.1
    have s2 : ν m 2 ≤ 6 := by rw [n3]; exact hsv.2
    have k5 := kX5_gather_1 hM hv hx h
    simp only [n1, n2, n3, n4, n5] at k5
    refine r_istore C1 dL_law_171 (by decide) rfl ?_
    refine r_aload_n C1 dL_law_173 rfl ?_
    refine r_aload_n C1 dL_law_174 rfl ?_
    refine r_iload C1 dL_law_175 rfl ?_
    refine r_iconst C1 dL_law_177 ?_
    refine r_iadd C1 dL_law_178 ?_
    refine r_iald C1 Sb (by omega) (by omega) dL_law_179 ?_
    rw [hb2]
    refine r_runIr (fun aH aL aj a1 a2 a3 => run_V C1 hfl k5 lm_X5_gather ml_L_81 im_X5_gather se_X5_gather hM.2.1 rfl (Nat.le_of_ble_eq_true rfl) dL_law_180 rfl (Nat.le_of_ble_eq_true rfl) a1 a2 a3) (fun σ hσ => ?_)
    obtain ⟨hL2, t0, eo⟩ := lm_r hW hI2 hb2 hz2 hσ
    refine r_istore C1 dL_law_183 (by decide) rfl ?_
    refine r_aload_n C1 dL_law_185 rfl ?_
    refine r_runI (fun aH aL aj a1 a2 a3 => run_V C1 hfl (kX5_thrown (μ := σ) hM) lm_X5_thrown ml_L_82 im_X5_thrown se_X5_thrown hM.2.1 rfl (Nat.le_of_ble_eq_true rfl) dL_law_186 rfl (Nat.le_of_ble_eq_true rfl) a1 a2 a3) ?_
    rw [t0]
    refine r_iload C1 dL_law_189 rfl ?_
    refine r_icmp_eq (tgt := 196) C1 dL_law_191 (by decide) (by decide) (by decide) (fun _ => ?_) (fun c => absurd rfl c)
    refine r_iload C1 dL_law_196 rfl ?_
    refine r_if_ne (tgt := 213) C1 dL_law_198 (by decide) (by decide) (fun _ => ?_) (fun c => absurd c (by decide))
    refine r_goto (tgt := 1392) C1 dL_law_213 (by decide) ?_
    refine r_fgt (ls' := [vR b, vR q, vR m, vR o, vI i, vU, vU, vU, vU]) rfl (fun j a h1 h2 => ?_) (kk σ (K) (by omega) hL2)
    exact fg_9 h1 h2
set_option maxRecDepth 20000 in
set_option maxHeartbeats 2000000 in
theorem kL_insert {X : Cx} {b L q m o : Nat} {B : Int → Int} {μ : Mem} {K i : Int} (C : Ok X RL cL_law 9 10) (hW : LW X b L q m o) (R1 : xk X + 1 ≤ (xR X).cells) (R2 : xn X + 6 ≤ (xR X).slots) (hK : K + 1300 ≤ 1000000) (hL : LI (xV X) q m b B K μ) (hi0 : 0 ≤ i) (hi3 : i + 3 ≤ (L : Int)) (hLL : L ≤ 1536) (hB : ∀ j, inR (B j))
    (kk : ∀ (ν : Mem) (K' : Int), K' ≤ K + 1300 → LI (xV X) q m b B K' ν → RR (X1 X) ν 1392 [vR b, vR q, vR m, vR o, vI i, vU, vU, vU, vU] []) : RR X μ 216 [vR b, vR q, vR m, vR o, vI i, vU, vU, vU, vU] [] := by
  obtain ⟨⟨hM, So, Bo, S4, Sb⟩, hord, hfl, hE⟩ := id hW
  obtain ⟨w, tx, sv, kp, ln, hI, hm, hb, hz⟩ := hL
  have hsv : 0 ≤ sv ∧ sv ≤ 6 := hI.2.2.2.1.1
  have hkp := hI.2.2.1.1
  have hln : 0 ≤ ln ∧ ln ≤ 60 := hI.2.2.2.2.1.2.1
  have hvw := hI.2.1.1
  have hx := hB (i + 1)
  have hy := hB (i + 2)
  have hK20 : K + 20 ≤ 1000000 := by omega
  have C1 : Ok (X1 X) RL cL_law 9 10 := ok_1 C R1 R2
  refine r_aload_n C dL_law_216 rfl ?_
  refine r_aload_n C dL_law_217 rfl ?_
  refine r_iload C dL_law_218 rfl ?_
  refine r_iconst C dL_law_220 ?_
  refine r_iadd C dL_law_221 ?_
  refine r_iald C Sb (by omega) (by omega) dL_law_222 ?_
  rw [hb]
  refine r_aload_n C dL_law_223 rfl ?_
  refine r_iload C dL_law_224 rfl ?_
  refine r_iconst C dL_law_226 ?_
  refine r_iadd C dL_law_227 ?_
  refine r_iald C Sb (by omega) (by omega) dL_law_228 ?_
  rw [hb]
  refine r_aload_n C dL_law_229 rfl ?_
  by_cases h0 : 0 ≤ B (i + 1) ∧ B (i + 1) ≤ w 3
  · by_cases h : 0 ≤ B (i + 2) ∧ B (i + 2) < 16
    · by_cases hc : 0 < w (6 + B (i + 2)) ∧ w 3 < 20
      · refine r_runI1 (fun aH aL aj a1 a2 a3 => run_LW C hfl hE (hL_insert_0 (kX4_insert_0 hI hK20 hx hy h0 h hc) (by decide) S4 So Bo) lk_insert ml_L_85 sm_L_insert dL_law_230 rfl (Nat.le_of_ble_eq_true rfl) R1 R2 a1 a2 a3) (fun ν hν => ?_)
        obtain ⟨ρ, ⟨hI1, hf⟩, hν⟩ := hν
        have eo1 := congrArg (fun f : Mem => f o 0) hν
        simp only [wr_s, s1_s] at eo1
        obtain ⟨hI2, ⟨n1, n2, n3, n4, n5⟩, hb2, hz2⟩ := lm_v hν hW hI1 (lm_x hW hf hm hb hz)
        have hv : veW K (ν (m + 1)) := by rw [n1]; exact hvw
        have s1 : 0 ≤ ν m 2 := by rw [n3]; exact hsv.1
        have s2 : ν m 2 ≤ 6 := by rw [n3]; exact hsv.2
        have k5 := kX5_insert_0 hM hv s1 s2 hx hy (by rw [n1]; exact h0) h (by rw [n1]; exact hc)
        simp only [n1, n2, n3, n4, n5] at k5
        refine r_istore C1 dL_law_233 (by decide) rfl ?_
        refine r_aload_n C1 dL_law_235 rfl ?_
        refine r_aload_n C1 dL_law_236 rfl ?_
        refine r_iload C1 dL_law_237 rfl ?_
        refine r_iconst C1 dL_law_239 ?_
        refine r_iadd C1 dL_law_240 ?_
        refine r_iald C1 Sb (by omega) (by omega) dL_law_241 ?_
        rw [hb2]
        refine r_aload_n C1 dL_law_242 rfl ?_
        refine r_iload C1 dL_law_243 rfl ?_
        refine r_iconst C1 dL_law_245 ?_
        refine r_iadd C1 dL_law_246 ?_
        refine r_iald C1 Sb (by omega) (by omega) dL_law_247 ?_
        rw [hb2]
        refine r_runIr (fun aH aL aj a1 a2 a3 => run_V C1 hfl k5 lm_X5_insert ml_L_88 im_X5_insert se_X5_insert hM.2.1 rfl (Nat.le_of_ble_eq_true rfl) dL_law_248 rfl (Nat.le_of_ble_eq_true rfl) a1 a2 a3) (fun σ hσ => ?_)
        obtain ⟨hL2, t0, eo⟩ := lm_r hW hI2 hb2 hz2 hσ
        refine r_istore C1 dL_law_251 (by decide) rfl ?_
        refine r_aload_n C1 dL_law_253 rfl ?_
        refine r_runI (fun aH aL aj a1 a2 a3 => run_V C1 hfl (kX5_thrown (μ := σ) hM) lm_X5_thrown ml_L_82 im_X5_thrown se_X5_thrown hM.2.1 rfl (Nat.le_of_ble_eq_true rfl) dL_law_254 rfl (Nat.le_of_ble_eq_true rfl) a1 a2 a3) ?_
        rw [t0]
        refine r_iload C1 dL_law_257 rfl ?_
        refine r_icmp_eq (tgt := 264) C1 dL_law_259 (by decide) (by decide) (by decide) (fun _ => ?_) (fun c => absurd rfl c)
        refine r_iload C1 dL_law_264 rfl ?_
        refine r_if_ne (tgt := 281) C1 dL_law_266 (by decide) (by decide) (fun c => absurd rfl c) (fun _ => ?_)
        refine r_aload_n C1 dL_law_269 rfl ?_
        refine r_iconst C1 dL_law_270 ?_
        refine r_lald C1 So (by decide) (by decide) dL_law_271 ?_
        refine r_iload C1 dL_law_272 rfl ?_
        refine r_i2l0 C1 dL_law_274 ?_
        refine r_lcmp0 C1 dL_law_275 (by rw [eo, eo1]) ?_
        refine r_if_eq (tgt := 281) C1 dL_law_276 (by decide) (by decide) (fun _ => ?_) (fun c => absurd rfl c)
        refine r_goto (tgt := 1392) C1 dL_law_281 (by decide) ?_
        refine r_fgt (ls' := [vR b, vR q, vR m, vR o, vI i, vU, vU, vU, vU]) rfl (fun j a h1 h2 => ?_) (kk σ (K + 20) (by omega) hL2)
        exact fg_9 h1 h2
      · refine r_runI1 (fun aH aL aj a1 a2 a3 => run_LW C hfl hE (hL_insert_2 (kX4_insert_2 hI hx hy h0 h hc) S4) lk_insert ml_L_85 sm_L_insert dL_law_230 rfl (Nat.le_of_ble_eq_true rfl) R1 R2 a1 a2 a3) (fun ν hν => ?_)
        obtain ⟨hI2, hf⟩ := hν
        obtain ⟨⟨n1, n2, n3, n4, n5⟩, hb2, hz2⟩ := lm_x hW hf hm hb hz
        have hv : veW K (ν (m + 1)) := by rw [n1]; exact hvw
        have s1 : 0 ≤ ν m 2 := by rw [n3]; exact hsv.1
        have s2 : ν m 2 ≤ 6 := by rw [n3]; exact hsv.2
        have k5 := kX5_insert_2 hM hv hx hy (by rw [n1]; exact h0) h (by rw [n1]; exact hc)
        simp only [n1, n2, n3, n4, n5] at k5
        refine r_istore C1 dL_law_233 (by decide) rfl ?_
        refine r_aload_n C1 dL_law_235 rfl ?_
        refine r_aload_n C1 dL_law_236 rfl ?_
        refine r_iload C1 dL_law_237 rfl ?_
        refine r_iconst C1 dL_law_239 ?_
        refine r_iadd C1 dL_law_240 ?_
        refine r_iald C1 Sb (by omega) (by omega) dL_law_241 ?_
        rw [hb2]
        refine r_aload_n C1 dL_law_242 rfl ?_
        refine r_iload C1 dL_law_243 rfl ?_
        refine r_iconst C1 dL_law_245 ?_
        refine r_iadd C1 dL_law_246 ?_
        refine r_iald C1 Sb (by omega) (by omega) dL_law_247 ?_
        rw [hb2]
        refine r_runIr (fun aH aL aj a1 a2 a3 => run_V C1 hfl k5 lm_X5_insert ml_L_88 im_X5_insert se_X5_insert hM.2.1 rfl (Nat.le_of_ble_eq_true rfl) dL_law_248 rfl (Nat.le_of_ble_eq_true rfl) a1 a2 a3) (fun σ hσ => ?_)
        obtain ⟨hL2, t0, eo⟩ := lm_r hW hI2 hb2 hz2 hσ
        refine r_istore C1 dL_law_251 (by decide) rfl ?_
        refine r_aload_n C1 dL_law_253 rfl ?_
        refine r_runI (fun aH aL aj a1 a2 a3 => run_V C1 hfl (kX5_thrown (μ := σ) hM) lm_X5_thrown ml_L_82 im_X5_thrown se_X5_thrown hM.2.1 rfl (Nat.le_of_ble_eq_true rfl) dL_law_254 rfl (Nat.le_of_ble_eq_true rfl) a1 a2 a3) ?_
        rw [t0]
        refine r_iload C1 dL_law_257 rfl ?_
        refine r_icmp_eq (tgt := 264) C1 dL_law_259 (by decide) (by decide) (by decide) (fun _ => ?_) (fun c => absurd rfl c)
        refine r_iload C1 dL_law_264 rfl ?_
        refine r_if_ne (tgt := 281) C1 dL_law_266 (by decide) (by decide) (fun _ => ?_) (fun c => absurd c (by decide))
        refine r_goto (tgt := 1392) C1 dL_law_281 (by decide) ?_
        refine r_fgt (ls' := [vR b, vR q, vR m, vR o, vI i, vU, vU, vU, vU]) rfl (fun j a h1 h2 => ?_) (kk σ (K) (by omega) hL2)
        exact fg_9 h1 h2
    · refine r_runI1 (fun aH aL aj a1 a2 a3 => run_LW C hfl hE (hL_insert_1 (kX4_insert_1 hI hx hy (fun z => h z.2)) S4) lk_insert ml_L_85 sm_L_insert dL_law_230 rfl (Nat.le_of_ble_eq_true rfl) R1 R2 a1 a2 a3) (fun ν hν => ?_)
      obtain ⟨hI2, hf⟩ := hν
      obtain ⟨⟨n1, n2, n3, n4, n5⟩, hb2, hz2⟩ := lm_x hW hf hm hb hz
      have hv : veW K (ν (m + 1)) := by rw [n1]; exact hvw
      have s1 : 0 ≤ ν m 2 := by rw [n3]; exact hsv.1
      have s2 : ν m 2 ≤ 6 := by rw [n3]; exact hsv.2
      have k5 := kX5_insert_1b hM hv hx hy (by rw [n1]; exact h0) h
      simp only [n1, n2, n3, n4, n5] at k5
      refine r_istore C1 dL_law_233 (by decide) rfl ?_
      refine r_aload_n C1 dL_law_235 rfl ?_
      refine r_aload_n C1 dL_law_236 rfl ?_
      refine r_iload C1 dL_law_237 rfl ?_
      refine r_iconst C1 dL_law_239 ?_
      refine r_iadd C1 dL_law_240 ?_
      refine r_iald C1 Sb (by omega) (by omega) dL_law_241 ?_
      rw [hb2]
      refine r_aload_n C1 dL_law_242 rfl ?_
      refine r_iload C1 dL_law_243 rfl ?_
      refine r_iconst C1 dL_law_245 ?_
      refine r_iadd C1 dL_law_246 ?_
      refine r_iald C1 Sb (by omega) (by omega) dL_law_247 ?_
      rw [hb2]
      refine r_runIr (fun aH aL aj a1 a2 a3 => run_V C1 hfl k5 lm_X5_insert ml_L_88 im_X5_insert se_X5_insert hM.2.1 rfl (Nat.le_of_ble_eq_true rfl) dL_law_248 rfl (Nat.le_of_ble_eq_true rfl) a1 a2 a3) (fun σ hσ => ?_)
      obtain ⟨hL2, t0, eo⟩ := lm_r hW hI2 hb2 hz2 hσ
      refine r_istore C1 dL_law_251 (by decide) rfl ?_
      refine r_aload_n C1 dL_law_253 rfl ?_
      refine r_runI (fun aH aL aj a1 a2 a3 => run_V C1 hfl (kX5_thrown (μ := σ) hM) lm_X5_thrown ml_L_82 im_X5_thrown se_X5_thrown hM.2.1 rfl (Nat.le_of_ble_eq_true rfl) dL_law_254 rfl (Nat.le_of_ble_eq_true rfl) a1 a2 a3) ?_
      rw [t0]
      refine r_iload C1 dL_law_257 rfl ?_
      refine r_icmp_eq (tgt := 264) C1 dL_law_259 (by decide) (by decide) (by decide) (fun _ => ?_) (fun c => absurd rfl c)
      refine r_iload C1 dL_law_264 rfl ?_
      refine r_if_ne (tgt := 281) C1 dL_law_266 (by decide) (by decide) (fun _ => ?_) (fun c => absurd c (by decide))
      refine r_goto (tgt := 1392) C1 dL_law_281 (by decide) ?_
      refine r_fgt (ls' := [vR b, vR q, vR m, vR o, vI i, vU, vU, vU, vU]) rfl (fun j a h1 h2 => ?_) (kk σ (K) (by omega) hL2)
      exact fg_9 h1 h2
  · refine r_runI1 (fun aH aL aj a1 a2 a3 => run_LW C hfl hE (hL_insert_1 (kX4_insert_1 hI hx hy (fun z => h0 z.1)) S4) lk_insert ml_L_85 sm_L_insert dL_law_230 rfl (Nat.le_of_ble_eq_true rfl) R1 R2 a1 a2 a3) (fun ν hν => ?_)
    obtain ⟨hI2, hf⟩ := hν
    obtain ⟨⟨n1, n2, n3, n4, n5⟩, hb2, hz2⟩ := lm_x hW hf hm hb hz
    have hv : veW K (ν (m + 1)) := by rw [n1]; exact hvw
    have s1 : 0 ≤ ν m 2 := by rw [n3]; exact hsv.1
    have s2 : ν m 2 ≤ 6 := by rw [n3]; exact hsv.2
    have k5 := kX5_insert_1 hM hv hx hy (by rw [n1]; exact h0)
    simp only [n1, n2, n3, n4, n5] at k5
    refine r_istore C1 dL_law_233 (by decide) rfl ?_
    refine r_aload_n C1 dL_law_235 rfl ?_
    refine r_aload_n C1 dL_law_236 rfl ?_
    refine r_iload C1 dL_law_237 rfl ?_
    refine r_iconst C1 dL_law_239 ?_
    refine r_iadd C1 dL_law_240 ?_
    refine r_iald C1 Sb (by omega) (by omega) dL_law_241 ?_
    rw [hb2]
    refine r_aload_n C1 dL_law_242 rfl ?_
    refine r_iload C1 dL_law_243 rfl ?_
    refine r_iconst C1 dL_law_245 ?_
    refine r_iadd C1 dL_law_246 ?_
    refine r_iald C1 Sb (by omega) (by omega) dL_law_247 ?_
    rw [hb2]
    refine r_runIr (fun aH aL aj a1 a2 a3 => run_V C1 hfl k5 lm_X5_insert ml_L_88 im_X5_insert se_X5_insert hM.2.1 rfl (Nat.le_of_ble_eq_true rfl) dL_law_248 rfl (Nat.le_of_ble_eq_true rfl) a1 a2 a3) (fun σ hσ => ?_)
    obtain ⟨hL2, t0, eo⟩ := lm_r hW hI2 hb2 hz2 hσ
    refine r_istore C1 dL_law_251 (by decide) rfl ?_
    refine r_aload_n C1 dL_law_253 rfl ?_
    refine r_runI (fun aH aL aj a1 a2 a3 => run_V C1 hfl (kX5_thrown (μ := σ) hM) lm_X5_thrown ml_L_82 im_X5_thrown se_X5_thrown hM.2.1 rfl (Nat.le_of_ble_eq_true rfl) dL_law_254 rfl (Nat.le_of_ble_eq_true rfl) a1 a2 a3) ?_
    rw [t0]
    refine r_iload C1 dL_law_257 rfl ?_
    refine r_icmp_eq (tgt := 264) C1 dL_law_259 (by decide) (by decide) (by decide) (fun _ => ?_) (fun c => absurd rfl c)
    refine r_iload C1 dL_law_264 rfl ?_
    refine r_if_ne (tgt := 281) C1 dL_law_266 (by decide) (by decide) (fun _ => ?_) (fun c => absurd c (by decide))
    refine r_goto (tgt := 1392) C1 dL_law_281 (by decide) ?_
    refine r_fgt (ls' := [vR b, vR q, vR m, vR o, vI i, vU, vU, vU, vU]) rfl (fun j a h1 h2 => ?_) (kk σ (K) (by omega) hL2)
    exact fg_9 h1 h2
set_option maxRecDepth 20000 in
set_option maxHeartbeats 2000000 in
theorem kL_pull {X : Cx} {b L q m o : Nat} {B : Int → Int} {μ : Mem} {K i : Int} (C : Ok X RL cL_law 9 10) (hW : LW X b L q m o) (R1 : xk X + 1 ≤ (xR X).cells) (R2 : xn X + 6 ≤ (xR X).slots) (hK : K + 1300 ≤ 1000000) (hL : LI (xV X) q m b B K μ) (hi0 : 0 ≤ i) (hi3 : i + 3 ≤ (L : Int)) (hLL : L ≤ 1536) (hB : ∀ j, inR (B j))
    (kk : ∀ (ν : Mem) (K' : Int), K' ≤ K + 1300 → LI (xV X) q m b B K' ν → RR (X1 X) ν 1392 [vR b, vR q, vR m, vR o, vI i, vU, vU, vU, vU] []) : RR X μ 284 [vR b, vR q, vR m, vR o, vI i, vU, vU, vU, vU] [] := by
  obtain ⟨⟨hM, So, Bo, S4, Sb⟩, hord, hfl, hE⟩ := id hW
  obtain ⟨w, tx, sv, kp, ln, hI, hm, hb, hz⟩ := hL
  have hsv : 0 ≤ sv ∧ sv ≤ 6 := hI.2.2.2.1.1
  have hkp := hI.2.2.1.1
  have hln : 0 ≤ ln ∧ ln ≤ 60 := hI.2.2.2.2.1.2.1
  have hvw := hI.2.1.1
  have hx := hB (i + 1)
  have hy := hB (i + 2)
  have hK20 : K + 20 ≤ 1000000 := by omega
  have C1 : Ok (X1 X) RL cL_law 9 10 := ok_1 C R1 R2
  refine r_aload_n C dL_law_284 rfl ?_
  refine r_aload_n C dL_law_285 rfl ?_
  refine r_iload C dL_law_286 rfl ?_
  refine r_iconst C dL_law_288 ?_
  refine r_iadd C dL_law_289 ?_
  refine r_iald C Sb (by omega) (by omega) dL_law_290 ?_
  rw [hb]
  refine r_aload_n C dL_law_291 rfl ?_
  by_cases h : 0 ≤ B (i + 1) ∧ B (i + 1) < w 3
  · refine r_runI1 (fun aH aL aj a1 a2 a3 => run_LW C hfl hE (hL_pull_0 (kX4_pull_0 hI hK20 hx h) (by decide) S4 So Bo) lk_pull ml_L_89 sm_L_pull dL_law_292 rfl (Nat.le_of_ble_eq_true rfl) R1 R2 a1 a2 a3) (fun ν hν => ?_)
    obtain ⟨ρ, ⟨hI1, hf⟩, hν⟩ := hν
    have eo1 := congrArg (fun f : Mem => f o 0) hν
    simp only [wr_s, s1_s] at eo1
    obtain ⟨hI2, ⟨n1, n2, n3, n4, n5⟩, hb2, hz2⟩ := lm_v hν hW hI1 (lm_x hW hf hm hb hz)
    have hv : veW K (ν (m + 1)) := by rw [n1]; exact hvw
    have s1 : 0 ≤ ν m 2 := by rw [n3]; exact hsv.1
    have s2 : ν m 2 ≤ 6 := by rw [n3]; exact hsv.2
    have k5 := kX5_pull_0 hM hv s1 s2 hx (by rw [n1]; exact h)
    simp only [n1, n2, n3, n4, n5] at k5
    refine r_istore C1 dL_law_295 (by decide) rfl ?_
    refine r_aload_n C1 dL_law_297 rfl ?_
    refine r_aload_n C1 dL_law_298 rfl ?_
    refine r_iload C1 dL_law_299 rfl ?_
    refine r_iconst C1 dL_law_301 ?_
    refine r_iadd C1 dL_law_302 ?_
    refine r_iald C1 Sb (by omega) (by omega) dL_law_303 ?_
    rw [hb2]
    refine r_runIr (fun aH aL aj a1 a2 a3 => run_V C1 hfl k5 lm_X5_pull ml_L_91 im_X5_pull se_X5_pull hM.2.1 rfl (Nat.le_of_ble_eq_true rfl) dL_law_304 rfl (Nat.le_of_ble_eq_true rfl) a1 a2 a3) (fun σ hσ => ?_)
    obtain ⟨hL2, t0, eo⟩ := lm_r hW hI2 hb2 hz2 hσ
    refine r_istore C1 dL_law_307 (by decide) rfl ?_
    refine r_aload_n C1 dL_law_309 rfl ?_
    refine r_runI (fun aH aL aj a1 a2 a3 => run_V C1 hfl (kX5_thrown (μ := σ) hM) lm_X5_thrown ml_L_82 im_X5_thrown se_X5_thrown hM.2.1 rfl (Nat.le_of_ble_eq_true rfl) dL_law_310 rfl (Nat.le_of_ble_eq_true rfl) a1 a2 a3) ?_
    rw [t0]
    refine r_iload C1 dL_law_313 rfl ?_
    refine r_icmp_eq (tgt := 320) C1 dL_law_315 (by decide) (by decide) (by decide) (fun _ => ?_) (fun c => absurd rfl c)
    refine r_iload C1 dL_law_320 rfl ?_
    refine r_if_ne (tgt := 337) C1 dL_law_322 (by decide) (by decide) (fun c => absurd rfl c) (fun _ => ?_)
    refine r_aload_n C1 dL_law_325 rfl ?_
    refine r_iconst C1 dL_law_326 ?_
    refine r_lald C1 So (by decide) (by decide) dL_law_327 ?_
    refine r_iload C1 dL_law_328 rfl ?_
    refine r_i2l0 C1 dL_law_330 ?_
    refine r_lcmp0 C1 dL_law_331 (by rw [eo, eo1]) ?_
    refine r_if_eq (tgt := 337) C1 dL_law_332 (by decide) (by decide) (fun _ => ?_) (fun c => absurd rfl c)
    refine r_goto (tgt := 1392) C1 dL_law_337 (by decide) ?_
    refine r_fgt (ls' := [vR b, vR q, vR m, vR o, vI i, vU, vU, vU, vU]) rfl (fun j a h1 h2 => ?_) (kk σ (K + 20) (by omega) hL2)
    exact fg_9 h1 h2
  · refine r_runI1 (fun aH aL aj a1 a2 a3 => run_LW C hfl hE (hL_pull_1 (kX4_pull_1 hI hx h) S4) lk_pull ml_L_89 sm_L_pull dL_law_292 rfl (Nat.le_of_ble_eq_true rfl) R1 R2 a1 a2 a3) (fun ν hν => ?_)
    obtain ⟨hI2, hf⟩ := hν
    obtain ⟨⟨n1, n2, n3, n4, n5⟩, hb2, hz2⟩ := lm_x hW hf hm hb hz
    have hv : veW K (ν (m + 1)) := by rw [n1]; exact hvw
    have s1 : 0 ≤ ν m 2 := by rw [n3]; exact hsv.1
    have s2 : ν m 2 ≤ 6 := by rw [n3]; exact hsv.2
    have k5 := kX5_pull_1 hM hv hx (by rw [n1]; exact h)
    simp only [n1, n2, n3, n4, n5] at k5
    refine r_istore C1 dL_law_295 (by decide) rfl ?_
    refine r_aload_n C1 dL_law_297 rfl ?_
    refine r_aload_n C1 dL_law_298 rfl ?_
    refine r_iload C1 dL_law_299 rfl ?_
    refine r_iconst C1 dL_law_301 ?_
    refine r_iadd C1 dL_law_302 ?_
    refine r_iald C1 Sb (by omega) (by omega) dL_law_303 ?_
    rw [hb2]
    refine r_runIr (fun aH aL aj a1 a2 a3 => run_V C1 hfl k5 lm_X5_pull ml_L_91 im_X5_pull se_X5_pull hM.2.1 rfl (Nat.le_of_ble_eq_true rfl) dL_law_304 rfl (Nat.le_of_ble_eq_true rfl) a1 a2 a3) (fun σ hσ => ?_)
    obtain ⟨hL2, t0, eo⟩ := lm_r hW hI2 hb2 hz2 hσ
    refine r_istore C1 dL_law_307 (by decide) rfl ?_
    refine r_aload_n C1 dL_law_309 rfl ?_
    refine r_runI (fun aH aL aj a1 a2 a3 => run_V C1 hfl (kX5_thrown (μ := σ) hM) lm_X5_thrown ml_L_82 im_X5_thrown se_X5_thrown hM.2.1 rfl (Nat.le_of_ble_eq_true rfl) dL_law_310 rfl (Nat.le_of_ble_eq_true rfl) a1 a2 a3) ?_
    rw [t0]
    refine r_iload C1 dL_law_313 rfl ?_
    refine r_icmp_eq (tgt := 320) C1 dL_law_315 (by decide) (by decide) (by decide) (fun _ => ?_) (fun c => absurd rfl c)
    refine r_iload C1 dL_law_320 rfl ?_
    refine r_if_ne (tgt := 337) C1 dL_law_322 (by decide) (by decide) (fun _ => ?_) (fun c => absurd c (by decide))
    refine r_goto (tgt := 1392) C1 dL_law_337 (by decide) ?_
    refine r_fgt (ls' := [vR b, vR q, vR m, vR o, vI i, vU, vU, vU, vU]) rfl (fun j a h1 h2 => ?_) (kk σ (K) (by omega) hL2)
    exact fg_9 h1 h2
set_option maxRecDepth 20000 in
set_option maxHeartbeats 2000000 in
theorem kL_flip {X : Cx} {b L q m o : Nat} {B : Int → Int} {μ : Mem} {K i : Int} (C : Ok X RL cL_law 9 10) (hW : LW X b L q m o) (R1 : xk X + 1 ≤ (xR X).cells) (R2 : xn X + 6 ≤ (xR X).slots) (hK : K + 1300 ≤ 1000000) (hL : LI (xV X) q m b B K μ) (hi0 : 0 ≤ i) (hi3 : i + 3 ≤ (L : Int)) (hLL : L ≤ 1536) (hB : ∀ j, inR (B j))
    (kk : ∀ (ν : Mem) (K' : Int), K' ≤ K + 1300 → LI (xV X) q m b B K' ν → RR (X1 X) ν 1392 [vR b, vR q, vR m, vR o, vI i, vU, vU, vU, vU] []) : RR X μ 340 [vR b, vR q, vR m, vR o, vI i, vU, vU, vU, vU] [] := by
  obtain ⟨⟨hM, So, Bo, S4, Sb⟩, hord, hfl, hE⟩ := id hW
  obtain ⟨w, tx, sv, kp, ln, hI, hm, hb, hz⟩ := hL
  have hsv : 0 ≤ sv ∧ sv ≤ 6 := hI.2.2.2.1.1
  have hkp := hI.2.2.1.1
  have hln : 0 ≤ ln ∧ ln ≤ 60 := hI.2.2.2.2.1.2.1
  have hvw := hI.2.1.1
  have hx := hB (i + 1)
  have hy := hB (i + 2)
  have hK20 : K + 20 ≤ 1000000 := by omega
  have C1 : Ok (X1 X) RL cL_law 9 10 := ok_1 C R1 R2
  refine r_aload_n C dL_law_340 rfl ?_
  refine r_aload_n C dL_law_341 rfl ?_
  refine r_iload C dL_law_342 rfl ?_
  refine r_iconst C dL_law_344 ?_
  refine r_iadd C dL_law_345 ?_
  refine r_iald C Sb (by omega) (by omega) dL_law_346 ?_
  rw [hb]
  refine r_aload_n C dL_law_347 rfl ?_
  by_cases h : 0 ≤ B (i + 1) ∧ B (i + 1) < w 3
  · refine r_runI1 (fun aH aL aj a1 a2 a3 => run_LW C hfl hE (hL_flip_0 (kX4_flip_0 hI hK20 hx h) (by decide) S4 So Bo) lk_flip ml_L_92 sm_L_flip dL_law_348 rfl (Nat.le_of_ble_eq_true rfl) R1 R2 a1 a2 a3) (fun ν hν => ?_)
    obtain ⟨ρ, ⟨hI1, hf⟩, hν⟩ := hν
    have eo1 := congrArg (fun f : Mem => f o 0) hν
    simp only [wr_s, s1_s] at eo1
    obtain ⟨hI2, ⟨n1, n2, n3, n4, n5⟩, hb2, hz2⟩ := lm_v hν hW hI1 (lm_x hW hf hm hb hz)
    have hv : veW K (ν (m + 1)) := by rw [n1]; exact hvw
    have s1 : 0 ≤ ν m 2 := by rw [n3]; exact hsv.1
    have s2 : ν m 2 ≤ 6 := by rw [n3]; exact hsv.2
    have k5 := kX5_flip_0 hM hv s1 s2 hx (by rw [n1]; exact h)
    simp only [n1, n2, n3, n4, n5] at k5
    refine r_istore C1 dL_law_351 (by decide) rfl ?_
    refine r_aload_n C1 dL_law_353 rfl ?_
    refine r_aload_n C1 dL_law_354 rfl ?_
    refine r_iload C1 dL_law_355 rfl ?_
    refine r_iconst C1 dL_law_357 ?_
    refine r_iadd C1 dL_law_358 ?_
    refine r_iald C1 Sb (by omega) (by omega) dL_law_359 ?_
    rw [hb2]
    refine r_runIr (fun aH aL aj a1 a2 a3 => run_V C1 hfl k5 lm_X5_flip ml_L_94 im_X5_flip se_X5_flip hM.2.1 rfl (Nat.le_of_ble_eq_true rfl) dL_law_360 rfl (Nat.le_of_ble_eq_true rfl) a1 a2 a3) (fun σ hσ => ?_)
    obtain ⟨hL2, t0, eo⟩ := lm_r hW hI2 hb2 hz2 hσ
    refine r_istore C1 dL_law_363 (by decide) rfl ?_
    refine r_aload_n C1 dL_law_365 rfl ?_
    refine r_runI (fun aH aL aj a1 a2 a3 => run_V C1 hfl (kX5_thrown (μ := σ) hM) lm_X5_thrown ml_L_82 im_X5_thrown se_X5_thrown hM.2.1 rfl (Nat.le_of_ble_eq_true rfl) dL_law_366 rfl (Nat.le_of_ble_eq_true rfl) a1 a2 a3) ?_
    rw [t0]
    refine r_iload C1 dL_law_369 rfl ?_
    refine r_icmp_eq (tgt := 376) C1 dL_law_371 (by decide) (by decide) (by decide) (fun _ => ?_) (fun c => absurd rfl c)
    refine r_iload C1 dL_law_376 rfl ?_
    refine r_if_ne (tgt := 393) C1 dL_law_378 (by decide) (by decide) (fun c => absurd rfl c) (fun _ => ?_)
    refine r_aload_n C1 dL_law_381 rfl ?_
    refine r_iconst C1 dL_law_382 ?_
    refine r_lald C1 So (by decide) (by decide) dL_law_383 ?_
    refine r_iload C1 dL_law_384 rfl ?_
    refine r_i2l0 C1 dL_law_386 ?_
    refine r_lcmp0 C1 dL_law_387 (by rw [eo, eo1]) ?_
    refine r_if_eq (tgt := 393) C1 dL_law_388 (by decide) (by decide) (fun _ => ?_) (fun c => absurd rfl c)
    refine r_goto (tgt := 1392) C1 dL_law_393 (by decide) ?_
    refine r_fgt (ls' := [vR b, vR q, vR m, vR o, vI i, vU, vU, vU, vU]) rfl (fun j a h1 h2 => ?_) (kk σ (K + 20) (by omega) hL2)
    exact fg_9 h1 h2
  · refine r_runI1 (fun aH aL aj a1 a2 a3 => run_LW C hfl hE (hL_flip_1 (kX4_flip_1 hI hx h) S4) lk_flip ml_L_92 sm_L_flip dL_law_348 rfl (Nat.le_of_ble_eq_true rfl) R1 R2 a1 a2 a3) (fun ν hν => ?_)
    obtain ⟨hI2, hf⟩ := hν
    obtain ⟨⟨n1, n2, n3, n4, n5⟩, hb2, hz2⟩ := lm_x hW hf hm hb hz
    have hv : veW K (ν (m + 1)) := by rw [n1]; exact hvw
    have s1 : 0 ≤ ν m 2 := by rw [n3]; exact hsv.1
    have s2 : ν m 2 ≤ 6 := by rw [n3]; exact hsv.2
    have k5 := kX5_flip_1 hM hv hx (by rw [n1]; exact h)
    simp only [n1, n2, n3, n4, n5] at k5
    refine r_istore C1 dL_law_351 (by decide) rfl ?_
    refine r_aload_n C1 dL_law_353 rfl ?_
    refine r_aload_n C1 dL_law_354 rfl ?_
    refine r_iload C1 dL_law_355 rfl ?_
    refine r_iconst C1 dL_law_357 ?_
    refine r_iadd C1 dL_law_358 ?_
    refine r_iald C1 Sb (by omega) (by omega) dL_law_359 ?_
    rw [hb2]
    refine r_runIr (fun aH aL aj a1 a2 a3 => run_V C1 hfl k5 lm_X5_flip ml_L_94 im_X5_flip se_X5_flip hM.2.1 rfl (Nat.le_of_ble_eq_true rfl) dL_law_360 rfl (Nat.le_of_ble_eq_true rfl) a1 a2 a3) (fun σ hσ => ?_)
    obtain ⟨hL2, t0, eo⟩ := lm_r hW hI2 hb2 hz2 hσ
    refine r_istore C1 dL_law_363 (by decide) rfl ?_
    refine r_aload_n C1 dL_law_365 rfl ?_
    refine r_runI (fun aH aL aj a1 a2 a3 => run_V C1 hfl (kX5_thrown (μ := σ) hM) lm_X5_thrown ml_L_82 im_X5_thrown se_X5_thrown hM.2.1 rfl (Nat.le_of_ble_eq_true rfl) dL_law_366 rfl (Nat.le_of_ble_eq_true rfl) a1 a2 a3) ?_
    rw [t0]
    refine r_iload C1 dL_law_369 rfl ?_
    refine r_icmp_eq (tgt := 376) C1 dL_law_371 (by decide) (by decide) (by decide) (fun _ => ?_) (fun c => absurd rfl c)
    refine r_iload C1 dL_law_376 rfl ?_
    refine r_if_ne (tgt := 393) C1 dL_law_378 (by decide) (by decide) (fun _ => ?_) (fun c => absurd c (by decide))
    refine r_goto (tgt := 1392) C1 dL_law_393 (by decide) ?_
    refine r_fgt (ls' := [vR b, vR q, vR m, vR o, vI i, vU, vU, vU, vU]) rfl (fun j a h1 h2 => ?_) (kk σ (K) (by omega) hL2)
    exact fg_9 h1 h2
set_option maxRecDepth 20000 in
set_option maxHeartbeats 2000000 in
theorem kL_move {X : Cx} {b L q m o : Nat} {B : Int → Int} {μ : Mem} {K i : Int} (C : Ok X RL cL_law 9 10) (hW : LW X b L q m o) (R1 : xk X + 1 ≤ (xR X).cells) (R2 : xn X + 6 ≤ (xR X).slots) (hK : K + 1300 ≤ 1000000) (hL : LI (xV X) q m b B K μ) (hi0 : 0 ≤ i) (hi3 : i + 3 ≤ (L : Int)) (hLL : L ≤ 1536) (hB : ∀ j, inR (B j))
    (kk : ∀ (ν : Mem) (K' : Int), K' ≤ K + 1300 → LI (xV X) q m b B K' ν → RR (X1 X) ν 1392 [vR b, vR q, vR m, vR o, vI i, vU, vU, vU, vU] []) : RR X μ 396 [vR b, vR q, vR m, vR o, vI i, vU, vU, vU, vU] [] := by
  obtain ⟨⟨hM, So, Bo, S4, Sb⟩, hord, hfl, hE⟩ := id hW
  obtain ⟨w, tx, sv, kp, ln, hI, hm, hb, hz⟩ := hL
  have hsv : 0 ≤ sv ∧ sv ≤ 6 := hI.2.2.2.1.1
  have hkp := hI.2.2.1.1
  have hln : 0 ≤ ln ∧ ln ≤ 60 := hI.2.2.2.2.1.2.1
  have hvw := hI.2.1.1
  have hx := hB (i + 1)
  have hy := hB (i + 2)
  have hK20 : K + 20 ≤ 1000000 := by omega
  have C1 : Ok (X1 X) RL cL_law 9 10 := ok_1 C R1 R2
  refine r_aload_n C dL_law_396 rfl ?_
  refine r_aload_n C dL_law_397 rfl ?_
  refine r_iload C dL_law_398 rfl ?_
  refine r_iconst C dL_law_400 ?_
  refine r_iadd C dL_law_401 ?_
  refine r_iald C Sb (by omega) (by omega) dL_law_402 ?_
  rw [hb]
  refine r_aload_n C dL_law_403 rfl ?_
  refine r_iload C dL_law_404 rfl ?_
  refine r_iconst C dL_law_406 ?_
  refine r_iadd C dL_law_407 ?_
  refine r_iald C Sb (by omega) (by omega) dL_law_408 ?_
  rw [hb]
  refine r_aload_n C dL_law_409 rfl ?_
  by_cases h : 0 ≤ B (i + 1) ∧ B (i + 1) < w 3
  · by_cases h2 : 0 ≤ B (i + 2) ∧ B (i + 2) < w 3
    · refine r_runI1 (fun aH aL aj a1 a2 a3 => run_LW C hfl hE (hL_move_0 (kX4_move_0 hI hK20 hx hy h h2) (by decide) S4 So Bo) lk_move ml_L_95 sm_L_move dL_law_410 rfl (Nat.le_of_ble_eq_true rfl) R1 R2 a1 a2 a3) (fun ν hν => ?_)
      obtain ⟨ρ, ⟨hI1, hf⟩, hν⟩ := hν
      have eo1 := congrArg (fun f : Mem => f o 0) hν
      simp only [wr_s, s1_s] at eo1
      obtain ⟨hI2, ⟨n1, n2, n3, n4, n5⟩, hb2, hz2⟩ := lm_v hν hW hI1 (lm_x hW hf hm hb hz)
      have hv : veW K (ν (m + 1)) := by rw [n1]; exact hvw
      have s1 : 0 ≤ ν m 2 := by rw [n3]; exact hsv.1
      have s2 : ν m 2 ≤ 6 := by rw [n3]; exact hsv.2
      have k5 := kX5_move_0 hM hv s1 s2 hx hy (by rw [n1]; exact h) (by rw [n1]; exact h2)
      simp only [n1, n2, n3, n4, n5] at k5
      refine r_istore C1 dL_law_413 (by decide) rfl ?_
      refine r_aload_n C1 dL_law_415 rfl ?_
      refine r_aload_n C1 dL_law_416 rfl ?_
      refine r_iload C1 dL_law_417 rfl ?_
      refine r_iconst C1 dL_law_419 ?_
      refine r_iadd C1 dL_law_420 ?_
      refine r_iald C1 Sb (by omega) (by omega) dL_law_421 ?_
      rw [hb2]
      refine r_aload_n C1 dL_law_422 rfl ?_
      refine r_iload C1 dL_law_423 rfl ?_
      refine r_iconst C1 dL_law_425 ?_
      refine r_iadd C1 dL_law_426 ?_
      refine r_iald C1 Sb (by omega) (by omega) dL_law_427 ?_
      rw [hb2]
      refine r_runIr (fun aH aL aj a1 a2 a3 => run_V C1 hfl k5 lm_X5_move ml_L_97 im_X5_move se_X5_move hM.2.1 rfl (Nat.le_of_ble_eq_true rfl) dL_law_428 rfl (Nat.le_of_ble_eq_true rfl) a1 a2 a3) (fun σ hσ => ?_)
      obtain ⟨hL2, t0, eo⟩ := lm_r hW hI2 hb2 hz2 hσ
      refine r_istore C1 dL_law_431 (by decide) rfl ?_
      refine r_aload_n C1 dL_law_433 rfl ?_
      refine r_runI (fun aH aL aj a1 a2 a3 => run_V C1 hfl (kX5_thrown (μ := σ) hM) lm_X5_thrown ml_L_82 im_X5_thrown se_X5_thrown hM.2.1 rfl (Nat.le_of_ble_eq_true rfl) dL_law_434 rfl (Nat.le_of_ble_eq_true rfl) a1 a2 a3) ?_
      rw [t0]
      refine r_iload C1 dL_law_437 rfl ?_
      refine r_icmp_eq (tgt := 444) C1 dL_law_439 (by decide) (by decide) (by decide) (fun _ => ?_) (fun c => absurd rfl c)
      refine r_iload C1 dL_law_444 rfl ?_
      refine r_if_ne (tgt := 461) C1 dL_law_446 (by decide) (by decide) (fun c => absurd rfl c) (fun _ => ?_)
      refine r_aload_n C1 dL_law_449 rfl ?_
      refine r_iconst C1 dL_law_450 ?_
      refine r_lald C1 So (by decide) (by decide) dL_law_451 ?_
      refine r_iload C1 dL_law_452 rfl ?_
      refine r_i2l0 C1 dL_law_454 ?_
      refine r_lcmp0 C1 dL_law_455 (by rw [eo, eo1]) ?_
      refine r_if_eq (tgt := 461) C1 dL_law_456 (by decide) (by decide) (fun _ => ?_) (fun c => absurd rfl c)
      refine r_goto (tgt := 1392) C1 dL_law_461 (by decide) ?_
      refine r_fgt (ls' := [vR b, vR q, vR m, vR o, vI i, vU, vU, vU, vU]) rfl (fun j a h1 h2 => ?_) (kk σ (K + 20) (by omega) hL2)
      exact fg_9 h1 h2
    · refine r_runI1 (fun aH aL aj a1 a2 a3 => run_LW C hfl hE (hL_move_1 (kX4_move_1 hI hx hy (fun z => h2 z.2)) S4) lk_move ml_L_95 sm_L_move dL_law_410 rfl (Nat.le_of_ble_eq_true rfl) R1 R2 a1 a2 a3) (fun ν hν => ?_)
      obtain ⟨hI2, hf⟩ := hν
      obtain ⟨⟨n1, n2, n3, n4, n5⟩, hb2, hz2⟩ := lm_x hW hf hm hb hz
      have hv : veW K (ν (m + 1)) := by rw [n1]; exact hvw
      have s1 : 0 ≤ ν m 2 := by rw [n3]; exact hsv.1
      have s2 : ν m 2 ≤ 6 := by rw [n3]; exact hsv.2
      have k5 := kX5_move_1b hM hv hx hy (by rw [n1]; exact h) (by rw [n1]; exact h2)
      simp only [n1, n2, n3, n4, n5] at k5
      refine r_istore C1 dL_law_413 (by decide) rfl ?_
      refine r_aload_n C1 dL_law_415 rfl ?_
      refine r_aload_n C1 dL_law_416 rfl ?_
      refine r_iload C1 dL_law_417 rfl ?_
      refine r_iconst C1 dL_law_419 ?_
      refine r_iadd C1 dL_law_420 ?_
      refine r_iald C1 Sb (by omega) (by omega) dL_law_421 ?_
      rw [hb2]
      refine r_aload_n C1 dL_law_422 rfl ?_
      refine r_iload C1 dL_law_423 rfl ?_
      refine r_iconst C1 dL_law_425 ?_
      refine r_iadd C1 dL_law_426 ?_
      refine r_iald C1 Sb (by omega) (by omega) dL_law_427 ?_
      rw [hb2]
      refine r_runIr (fun aH aL aj a1 a2 a3 => run_V C1 hfl k5 lm_X5_move ml_L_97 im_X5_move se_X5_move hM.2.1 rfl (Nat.le_of_ble_eq_true rfl) dL_law_428 rfl (Nat.le_of_ble_eq_true rfl) a1 a2 a3) (fun σ hσ => ?_)
      obtain ⟨hL2, t0, eo⟩ := lm_r hW hI2 hb2 hz2 hσ
      refine r_istore C1 dL_law_431 (by decide) rfl ?_
      refine r_aload_n C1 dL_law_433 rfl ?_
      refine r_runI (fun aH aL aj a1 a2 a3 => run_V C1 hfl (kX5_thrown (μ := σ) hM) lm_X5_thrown ml_L_82 im_X5_thrown se_X5_thrown hM.2.1 rfl (Nat.le_of_ble_eq_true rfl) dL_law_434 rfl (Nat.le_of_ble_eq_true rfl) a1 a2 a3) ?_
      rw [t0]
      refine r_iload C1 dL_law_437 rfl ?_
      refine r_icmp_eq (tgt := 444) C1 dL_law_439 (by decide) (by decide) (by decide) (fun _ => ?_) (fun c => absurd rfl c)
      refine r_iload C1 dL_law_444 rfl ?_
      refine r_if_ne (tgt := 461) C1 dL_law_446 (by decide) (by decide) (fun _ => ?_) (fun c => absurd c (by decide))
      refine r_goto (tgt := 1392) C1 dL_law_461 (by decide) ?_
      refine r_fgt (ls' := [vR b, vR q, vR m, vR o, vI i, vU, vU, vU, vU]) rfl (fun j a h1 h2 => ?_) (kk σ (K) (by omega) hL2)
      exact fg_9 h1 h2
  · refine r_runI1 (fun aH aL aj a1 a2 a3 => run_LW C hfl hE (hL_move_1 (kX4_move_1 hI hx hy (fun z => h z.1)) S4) lk_move ml_L_95 sm_L_move dL_law_410 rfl (Nat.le_of_ble_eq_true rfl) R1 R2 a1 a2 a3) (fun ν hν => ?_)
    obtain ⟨hI2, hf⟩ := hν
    obtain ⟨⟨n1, n2, n3, n4, n5⟩, hb2, hz2⟩ := lm_x hW hf hm hb hz
    have hv : veW K (ν (m + 1)) := by rw [n1]; exact hvw
    have s1 : 0 ≤ ν m 2 := by rw [n3]; exact hsv.1
    have s2 : ν m 2 ≤ 6 := by rw [n3]; exact hsv.2
    have k5 := kX5_move_1 hM hv hx hy (by rw [n1]; exact h)
    simp only [n1, n2, n3, n4, n5] at k5
    refine r_istore C1 dL_law_413 (by decide) rfl ?_
    refine r_aload_n C1 dL_law_415 rfl ?_
    refine r_aload_n C1 dL_law_416 rfl ?_
    refine r_iload C1 dL_law_417 rfl ?_
    refine r_iconst C1 dL_law_419 ?_
    refine r_iadd C1 dL_law_420 ?_
    refine r_iald C1 Sb (by omega) (by omega) dL_law_421 ?_
    rw [hb2]
    refine r_aload_n C1 dL_law_422 rfl ?_
    refine r_iload C1 dL_law_423 rfl ?_
    refine r_iconst C1 dL_law_425 ?_
    refine r_iadd C1 dL_law_426 ?_
    refine r_iald C1 Sb (by omega) (by omega) dL_law_427 ?_
    rw [hb2]
    refine r_runIr (fun aH aL aj a1 a2 a3 => run_V C1 hfl k5 lm_X5_move ml_L_97 im_X5_move se_X5_move hM.2.1 rfl (Nat.le_of_ble_eq_true rfl) dL_law_428 rfl (Nat.le_of_ble_eq_true rfl) a1 a2 a3) (fun σ hσ => ?_)
    obtain ⟨hL2, t0, eo⟩ := lm_r hW hI2 hb2 hz2 hσ
    refine r_istore C1 dL_law_431 (by decide) rfl ?_
    refine r_aload_n C1 dL_law_433 rfl ?_
    refine r_runI (fun aH aL aj a1 a2 a3 => run_V C1 hfl (kX5_thrown (μ := σ) hM) lm_X5_thrown ml_L_82 im_X5_thrown se_X5_thrown hM.2.1 rfl (Nat.le_of_ble_eq_true rfl) dL_law_434 rfl (Nat.le_of_ble_eq_true rfl) a1 a2 a3) ?_
    rw [t0]
    refine r_iload C1 dL_law_437 rfl ?_
    refine r_icmp_eq (tgt := 444) C1 dL_law_439 (by decide) (by decide) (by decide) (fun _ => ?_) (fun c => absurd rfl c)
    refine r_iload C1 dL_law_444 rfl ?_
    refine r_if_ne (tgt := 461) C1 dL_law_446 (by decide) (by decide) (fun _ => ?_) (fun c => absurd c (by decide))
    refine r_goto (tgt := 1392) C1 dL_law_461 (by decide) ?_
    refine r_fgt (ls' := [vR b, vR q, vR m, vR o, vI i, vU, vU, vU, vU]) rfl (fun j a h1 h2 => ?_) (kk σ (K) (by omega) hL2)
    exact fg_9 h1 h2
set_option maxRecDepth 20000 in
set_option maxHeartbeats 2000000 in
theorem kL_bind {X : Cx} {b L q m o : Nat} {B : Int → Int} {μ : Mem} {K i : Int} (C : Ok X RL cL_law 9 10) (hW : LW X b L q m o) (R1 : xk X + 1 ≤ (xR X).cells) (R2 : xn X + 6 ≤ (xR X).slots) (hK : K + 1300 ≤ 1000000) (hL : LI (xV X) q m b B K μ) (hi0 : 0 ≤ i) (hi3 : i + 3 ≤ (L : Int)) (hLL : L ≤ 1536) (hB : ∀ j, inR (B j))
    (kk : ∀ (ν : Mem) (K' : Int), K' ≤ K + 1300 → LI (xV X) q m b B K' ν → RR (X1 X) ν 1392 [vR b, vR q, vR m, vR o, vI i, vU, vU, vU, vU] []) : RR X μ 464 [vR b, vR q, vR m, vR o, vI i, vU, vU, vU, vU] [] := by
  obtain ⟨⟨hM, So, Bo, S4, Sb⟩, hord, hfl, hE⟩ := id hW
  obtain ⟨w, tx, sv, kp, ln, hI, hm, hb, hz⟩ := hL
  have hsv : 0 ≤ sv ∧ sv ≤ 6 := hI.2.2.2.1.1
  have hkp := hI.2.2.1.1
  have hln : 0 ≤ ln ∧ ln ≤ 60 := hI.2.2.2.2.1.2.1
  have hvw := hI.2.1.1
  have hx := hB (i + 1)
  have hy := hB (i + 2)
  have hK20 : K + 20 ≤ 1000000 := by omega
  have C1 : Ok (X1 X) RL cL_law 9 10 := ok_1 C R1 R2
  refine r_aload_n C dL_law_464 rfl ?_
  refine r_aload_n C dL_law_465 rfl ?_
  by_cases h : flt (w 0) (vN w) (vD w) (w 3) = 0
  · refine r_runI1 (fun aH aL aj a1 a2 a3 => run_LW C hfl hE (hL_bind_0 (kX4_bind_0 hI hK20 h) (by decide) S4 So Bo) lk_bind ml_L_98 sm_L_bind dL_law_466 rfl (Nat.le_of_ble_eq_true rfl) R1 R2 a1 a2 a3) (fun ν hν => ?_)
    obtain ⟨ρ, ⟨hI1, hf⟩, hν⟩ := hν
    have eo1 := congrArg (fun f : Mem => f o 0) hν
    simp only [wr_s, s1_s] at eo1
    obtain ⟨hI2, ⟨n1, n2, n3, n4, n5⟩, hb2, hz2⟩ := lm_v hν hW hI1 (lm_x hW hf hm hb hz)
    have hv : veW K (ν (m + 1)) := by rw [n1]; exact hvw
    have s1 : 0 ≤ ν m 2 := by rw [n3]; exact hsv.1
    have s2 : ν m 2 ≤ 6 := by rw [n3]; exact hsv.2
    have k5 := kX5_bind_0 hM hv s1 s2 (by rw [n1]; exact h)
    simp only [n1, n2, n3, n4, n5] at k5
    refine r_istore C1 dL_law_469 (by decide) rfl ?_
    refine r_aload_n C1 dL_law_471 rfl ?_
    refine r_runIr (fun aH aL aj a1 a2 a3 => run_V C1 hfl k5 lm_X5_bind ml_L_101 im_X5_bind se_X5_bind hM.2.1 rfl (Nat.le_of_ble_eq_true rfl) dL_law_472 rfl (Nat.le_of_ble_eq_true rfl) a1 a2 a3) (fun σ hσ => ?_)
    obtain ⟨hL2, t0, eo⟩ := lm_r hW hI2 hb2 hz2 hσ
    refine r_istore C1 dL_law_475 (by decide) rfl ?_
    refine r_aload_n C1 dL_law_477 rfl ?_
    refine r_runI (fun aH aL aj a1 a2 a3 => run_V C1 hfl (kX5_thrown (μ := σ) hM) lm_X5_thrown ml_L_82 im_X5_thrown se_X5_thrown hM.2.1 rfl (Nat.le_of_ble_eq_true rfl) dL_law_478 rfl (Nat.le_of_ble_eq_true rfl) a1 a2 a3) ?_
    rw [t0]
    refine r_iload C1 dL_law_481 rfl ?_
    refine r_icmp_eq (tgt := 488) C1 dL_law_483 (by decide) (by decide) (by decide) (fun _ => ?_) (fun c => absurd rfl c)
    refine r_iload C1 dL_law_488 rfl ?_
    refine r_if_ne (tgt := 505) C1 dL_law_490 (by decide) (by decide) (fun c => absurd rfl c) (fun _ => ?_)
    refine r_aload_n C1 dL_law_493 rfl ?_
    refine r_iconst C1 dL_law_494 ?_
    refine r_lald C1 So (by decide) (by decide) dL_law_495 ?_
    refine r_iload C1 dL_law_496 rfl ?_
    refine r_i2l0 C1 dL_law_498 ?_
    refine r_lcmp0 C1 dL_law_499 (by rw [eo, eo1]) ?_
    refine r_if_eq (tgt := 505) C1 dL_law_500 (by decide) (by decide) (fun _ => ?_) (fun c => absurd rfl c)
    refine r_goto (tgt := 1392) C1 dL_law_505 (by decide) ?_
    refine r_fgt (ls' := [vR b, vR q, vR m, vR o, vI i, vU, vU, vU, vU]) rfl (fun j a h1 h2 => ?_) (kk σ (K + 20) (by omega) hL2)
    exact fg_9 h1 h2
  · refine r_runI1 (fun aH aL aj a1 a2 a3 => run_LW C hfl hE (hL_bind_1 (kX4_bind_1 hI h) S4) lk_bind ml_L_98 sm_L_bind dL_law_466 rfl (Nat.le_of_ble_eq_true rfl) R1 R2 a1 a2 a3) (fun ν hν => ?_)
    obtain ⟨hI2, hf⟩ := hν
    obtain ⟨⟨n1, n2, n3, n4, n5⟩, hb2, hz2⟩ := lm_x hW hf hm hb hz
    have hv : veW K (ν (m + 1)) := by rw [n1]; exact hvw
    have s1 : 0 ≤ ν m 2 := by rw [n3]; exact hsv.1
    have s2 : ν m 2 ≤ 6 := by rw [n3]; exact hsv.2
    have k5 := kX5_bind_1 hM hv (by rw [n1]; exact h)
    simp only [n1, n2, n3, n4, n5] at k5
    refine r_istore C1 dL_law_469 (by decide) rfl ?_
    refine r_aload_n C1 dL_law_471 rfl ?_
    refine r_runIr (fun aH aL aj a1 a2 a3 => run_V C1 hfl k5 lm_X5_bind ml_L_101 im_X5_bind se_X5_bind hM.2.1 rfl (Nat.le_of_ble_eq_true rfl) dL_law_472 rfl (Nat.le_of_ble_eq_true rfl) a1 a2 a3) (fun σ hσ => ?_)
    obtain ⟨hL2, t0, eo⟩ := lm_r hW hI2 hb2 hz2 hσ
    refine r_istore C1 dL_law_475 (by decide) rfl ?_
    refine r_aload_n C1 dL_law_477 rfl ?_
    refine r_runI (fun aH aL aj a1 a2 a3 => run_V C1 hfl (kX5_thrown (μ := σ) hM) lm_X5_thrown ml_L_82 im_X5_thrown se_X5_thrown hM.2.1 rfl (Nat.le_of_ble_eq_true rfl) dL_law_478 rfl (Nat.le_of_ble_eq_true rfl) a1 a2 a3) ?_
    rw [t0]
    refine r_iload C1 dL_law_481 rfl ?_
    refine r_icmp_eq (tgt := 488) C1 dL_law_483 (by decide) (by decide) (by decide) (fun _ => ?_) (fun c => absurd rfl c)
    refine r_iload C1 dL_law_488 rfl ?_
    refine r_if_ne (tgt := 505) C1 dL_law_490 (by decide) (by decide) (fun _ => ?_) (fun c => absurd c (by decide))
    refine r_goto (tgt := 1392) C1 dL_law_505 (by decide) ?_
    refine r_fgt (ls' := [vR b, vR q, vR m, vR o, vI i, vU, vU, vU, vU]) rfl (fun j a h1 h2 => ?_) (kk σ (K) (by omega) hL2)
    exact fg_9 h1 h2
set_option maxRecDepth 20000 in
set_option maxHeartbeats 2000000 in
theorem kL_print {X : Cx} {b L q m o : Nat} {B : Int → Int} {μ : Mem} {K i : Int} (C : Ok X RL cL_law 9 10) (hW : LW X b L q m o) (R1 : xk X + 1 ≤ (xR X).cells) (R2 : xn X + 6 ≤ (xR X).slots) (hK : K + 1300 ≤ 1000000) (hL : LI (xV X) q m b B K μ) (hi0 : 0 ≤ i) (hi3 : i + 3 ≤ (L : Int)) (hLL : L ≤ 1536) (hB : ∀ j, inR (B j))
    (kk : ∀ (ν : Mem) (K' : Int), K' ≤ K + 1300 → LI (xV X) q m b B K' ν → RR (X1 X) ν 1392 [vR b, vR q, vR m, vR o, vI i, vU, vU, vU, vU] []) : RR X μ 508 [vR b, vR q, vR m, vR o, vI i, vU, vU, vU, vU] [] := by
  obtain ⟨⟨hM, So, Bo, S4, Sb⟩, hord, hfl, hE⟩ := id hW
  obtain ⟨w, tx, sv, kp, ln, hI, hm, hb, hz⟩ := hL
  have hsv : 0 ≤ sv ∧ sv ≤ 6 := hI.2.2.2.1.1
  have hkp := hI.2.2.1.1
  have hln : 0 ≤ ln ∧ ln ≤ 60 := hI.2.2.2.2.1.2.1
  have hvw := hI.2.1.1
  have hx := hB (i + 1)
  have hy := hB (i + 2)
  have hK20 : K + 20 ≤ 1000000 := by omega
  have C1 : Ok (X1 X) RL cL_law 9 10 := ok_1 C R1 R2
  refine r_aload_n C dL_law_508 rfl ?_
  refine r_aload_n C dL_law_509 rfl ?_
  refine r_iload C dL_law_510 rfl ?_
  refine r_iconst C dL_law_512 ?_
  refine r_iadd C dL_law_513 ?_
  refine r_iald C Sb (by omega) (by omega) dL_law_514 ?_
  rw [hb]
  refine r_aload_n C dL_law_515 rfl ?_
  refine r_iload C dL_law_516 rfl ?_
  refine r_iconst C dL_law_518 ?_
  refine r_iadd C dL_law_519 ?_
  refine r_iald C Sb (by omega) (by omega) dL_law_520 ?_
  rw [hb]
  refine r_aload_n C dL_law_521 rfl ?_
  by_cases h : 0 ≤ B (i + 1) ∧ B (i + 1) < 16
  · by_cases h2 : 1 ≤ B (i + 2) ∧ B (i + 2) ≤ 20
    · by_cases h3 : w (6 + B (i + 1)) + B (i + 2) ≤ 99
      · refine r_runI1 (fun aH aL aj a1 a2 a3 => run_LW C hfl hE (hL_print_0 (kX4_print_0 hI hK20 hx hy h h2 h3) (by decide) S4 So Bo) lk_print ml_L_102 sm_L_print dL_law_522 rfl (Nat.le_of_ble_eq_true rfl) R1 R2 a1 a2 a3) (fun ν hν => ?_)
        obtain ⟨ρ, ⟨hI1, hf⟩, hν⟩ := hν
        have eo1 := congrArg (fun f : Mem => f o 0) hν
        simp only [wr_s, s1_s] at eo1
        obtain ⟨hI2, ⟨n1, n2, n3, n4, n5⟩, hb2, hz2⟩ := lm_v hν hW hI1 (lm_x hW hf hm hb hz)
        have hv : veW K (ν (m + 1)) := by rw [n1]; exact hvw
        have s1 : 0 ≤ ν m 2 := by rw [n3]; exact hsv.1
        have s2 : ν m 2 ≤ 6 := by rw [n3]; exact hsv.2
        have k5 := kX5_print_0 hM hv s1 s2 hx hy h h2 (by rw [n1]; exact h3)
        simp only [n1, n2, n3, n4, n5] at k5
        refine r_istore C1 dL_law_525 (by decide) rfl ?_
        refine r_aload_n C1 dL_law_527 rfl ?_
        refine r_aload_n C1 dL_law_528 rfl ?_
        refine r_iload C1 dL_law_529 rfl ?_
        refine r_iconst C1 dL_law_531 ?_
        refine r_iadd C1 dL_law_532 ?_
        refine r_iald C1 Sb (by omega) (by omega) dL_law_533 ?_
        rw [hb2]
        refine r_aload_n C1 dL_law_534 rfl ?_
        refine r_iload C1 dL_law_535 rfl ?_
        refine r_iconst C1 dL_law_537 ?_
        refine r_iadd C1 dL_law_538 ?_
        refine r_iald C1 Sb (by omega) (by omega) dL_law_539 ?_
        rw [hb2]
        refine r_runIr (fun aH aL aj a1 a2 a3 => run_V C1 hfl k5 lm_X5_print ml_L_104 im_X5_print se_X5_print hM.2.1 rfl (Nat.le_of_ble_eq_true rfl) dL_law_540 rfl (Nat.le_of_ble_eq_true rfl) a1 a2 a3) (fun σ hσ => ?_)
        obtain ⟨hL2, t0, eo⟩ := lm_r hW hI2 hb2 hz2 hσ
        refine r_istore C1 dL_law_543 (by decide) rfl ?_
        refine r_aload_n C1 dL_law_545 rfl ?_
        refine r_runI (fun aH aL aj a1 a2 a3 => run_V C1 hfl (kX5_thrown (μ := σ) hM) lm_X5_thrown ml_L_82 im_X5_thrown se_X5_thrown hM.2.1 rfl (Nat.le_of_ble_eq_true rfl) dL_law_546 rfl (Nat.le_of_ble_eq_true rfl) a1 a2 a3) ?_
        rw [t0]
        refine r_iload C1 dL_law_549 rfl ?_
        refine r_icmp_eq (tgt := 556) C1 dL_law_551 (by decide) (by decide) (by decide) (fun _ => ?_) (fun c => absurd rfl c)
        refine r_iload C1 dL_law_556 rfl ?_
        refine r_if_ne (tgt := 573) C1 dL_law_558 (by decide) (by decide) (fun c => absurd rfl c) (fun _ => ?_)
        refine r_aload_n C1 dL_law_561 rfl ?_
        refine r_iconst C1 dL_law_562 ?_
        refine r_lald C1 So (by decide) (by decide) dL_law_563 ?_
        refine r_iload C1 dL_law_564 rfl ?_
        refine r_i2l0 C1 dL_law_566 ?_
        refine r_lcmp0 C1 dL_law_567 (by rw [eo, eo1]) ?_
        refine r_if_eq (tgt := 573) C1 dL_law_568 (by decide) (by decide) (fun _ => ?_) (fun c => absurd rfl c)
        refine r_goto (tgt := 1392) C1 dL_law_573 (by decide) ?_
        refine r_fgt (ls' := [vR b, vR q, vR m, vR o, vI i, vU, vU, vU, vU]) rfl (fun j a h1 h2 => ?_) (kk σ (K + 20) (by omega) hL2)
        exact fg_9 h1 h2
      · refine r_runI1 (fun aH aL aj a1 a2 a3 => run_LW C hfl hE (hL_print_3 (kX4_print_3 hI hx hy h h2 h3) S4) lk_print ml_L_102 sm_L_print dL_law_522 rfl (Nat.le_of_ble_eq_true rfl) R1 R2 a1 a2 a3) (fun ν hν => ?_)
        obtain ⟨hI2, hf⟩ := hν
        obtain ⟨⟨n1, n2, n3, n4, n5⟩, hb2, hz2⟩ := lm_x hW hf hm hb hz
        have hv : veW K (ν (m + 1)) := by rw [n1]; exact hvw
        have s1 : 0 ≤ ν m 2 := by rw [n3]; exact hsv.1
        have s2 : ν m 2 ≤ 6 := by rw [n3]; exact hsv.2
        have k5 := kX5_print_3 hM hv hx hy h h2 (by rw [n1]; exact h3)
        simp only [n1, n2, n3, n4, n5] at k5
        refine r_istore C1 dL_law_525 (by decide) rfl ?_
        refine r_aload_n C1 dL_law_527 rfl ?_
        refine r_aload_n C1 dL_law_528 rfl ?_
        refine r_iload C1 dL_law_529 rfl ?_
        refine r_iconst C1 dL_law_531 ?_
        refine r_iadd C1 dL_law_532 ?_
        refine r_iald C1 Sb (by omega) (by omega) dL_law_533 ?_
        rw [hb2]
        refine r_aload_n C1 dL_law_534 rfl ?_
        refine r_iload C1 dL_law_535 rfl ?_
        refine r_iconst C1 dL_law_537 ?_
        refine r_iadd C1 dL_law_538 ?_
        refine r_iald C1 Sb (by omega) (by omega) dL_law_539 ?_
        rw [hb2]
        refine r_runIr (fun aH aL aj a1 a2 a3 => run_V C1 hfl k5 lm_X5_print ml_L_104 im_X5_print se_X5_print hM.2.1 rfl (Nat.le_of_ble_eq_true rfl) dL_law_540 rfl (Nat.le_of_ble_eq_true rfl) a1 a2 a3) (fun σ hσ => ?_)
        obtain ⟨hL2, t0, eo⟩ := lm_r hW hI2 hb2 hz2 hσ
        refine r_istore C1 dL_law_543 (by decide) rfl ?_
        refine r_aload_n C1 dL_law_545 rfl ?_
        refine r_runI (fun aH aL aj a1 a2 a3 => run_V C1 hfl (kX5_thrown (μ := σ) hM) lm_X5_thrown ml_L_82 im_X5_thrown se_X5_thrown hM.2.1 rfl (Nat.le_of_ble_eq_true rfl) dL_law_546 rfl (Nat.le_of_ble_eq_true rfl) a1 a2 a3) ?_
        rw [t0]
        refine r_iload C1 dL_law_549 rfl ?_
        refine r_icmp_eq (tgt := 556) C1 dL_law_551 (by decide) (by decide) (by decide) (fun _ => ?_) (fun c => absurd rfl c)
        refine r_iload C1 dL_law_556 rfl ?_
        refine r_if_ne (tgt := 573) C1 dL_law_558 (by decide) (by decide) (fun _ => ?_) (fun c => absurd c (by decide))
        refine r_goto (tgt := 1392) C1 dL_law_573 (by decide) ?_
        refine r_fgt (ls' := [vR b, vR q, vR m, vR o, vI i, vU, vU, vU, vU]) rfl (fun j a h1 h2 => ?_) (kk σ (K) (by omega) hL2)
        exact fg_9 h1 h2
    · refine r_runI1 (fun aH aL aj a1 a2 a3 => run_LW C hfl hE (hL_print_2 (kX4_print_2 hI hx hy h h2) S4) lk_print ml_L_102 sm_L_print dL_law_522 rfl (Nat.le_of_ble_eq_true rfl) R1 R2 a1 a2 a3) (fun ν hν => ?_)
      obtain ⟨hI2, hf⟩ := hν
      obtain ⟨⟨n1, n2, n3, n4, n5⟩, hb2, hz2⟩ := lm_x hW hf hm hb hz
      have hv : veW K (ν (m + 1)) := by rw [n1]; exact hvw
      have s1 : 0 ≤ ν m 2 := by rw [n3]; exact hsv.1
      have s2 : ν m 2 ≤ 6 := by rw [n3]; exact hsv.2
      have k5 := kX5_print_2 hM hv hx hy h h2
      simp only [n1, n2, n3, n4, n5] at k5
      refine r_istore C1 dL_law_525 (by decide) rfl ?_
      refine r_aload_n C1 dL_law_527 rfl ?_
      refine r_aload_n C1 dL_law_528 rfl ?_
      refine r_iload C1 dL_law_529 rfl ?_
      refine r_iconst C1 dL_law_531 ?_
      refine r_iadd C1 dL_law_532 ?_
      refine r_iald C1 Sb (by omega) (by omega) dL_law_533 ?_
      rw [hb2]
      refine r_aload_n C1 dL_law_534 rfl ?_
      refine r_iload C1 dL_law_535 rfl ?_
      refine r_iconst C1 dL_law_537 ?_
      refine r_iadd C1 dL_law_538 ?_
      refine r_iald C1 Sb (by omega) (by omega) dL_law_539 ?_
      rw [hb2]
      refine r_runIr (fun aH aL aj a1 a2 a3 => run_V C1 hfl k5 lm_X5_print ml_L_104 im_X5_print se_X5_print hM.2.1 rfl (Nat.le_of_ble_eq_true rfl) dL_law_540 rfl (Nat.le_of_ble_eq_true rfl) a1 a2 a3) (fun σ hσ => ?_)
      obtain ⟨hL2, t0, eo⟩ := lm_r hW hI2 hb2 hz2 hσ
      refine r_istore C1 dL_law_543 (by decide) rfl ?_
      refine r_aload_n C1 dL_law_545 rfl ?_
      refine r_runI (fun aH aL aj a1 a2 a3 => run_V C1 hfl (kX5_thrown (μ := σ) hM) lm_X5_thrown ml_L_82 im_X5_thrown se_X5_thrown hM.2.1 rfl (Nat.le_of_ble_eq_true rfl) dL_law_546 rfl (Nat.le_of_ble_eq_true rfl) a1 a2 a3) ?_
      rw [t0]
      refine r_iload C1 dL_law_549 rfl ?_
      refine r_icmp_eq (tgt := 556) C1 dL_law_551 (by decide) (by decide) (by decide) (fun _ => ?_) (fun c => absurd rfl c)
      refine r_iload C1 dL_law_556 rfl ?_
      refine r_if_ne (tgt := 573) C1 dL_law_558 (by decide) (by decide) (fun _ => ?_) (fun c => absurd c (by decide))
      refine r_goto (tgt := 1392) C1 dL_law_573 (by decide) ?_
      refine r_fgt (ls' := [vR b, vR q, vR m, vR o, vI i, vU, vU, vU, vU]) rfl (fun j a h1 h2 => ?_) (kk σ (K) (by omega) hL2)
      exact fg_9 h1 h2
  · refine r_runI1 (fun aH aL aj a1 a2 a3 => run_LW C hfl hE (hL_print_1 (kX4_print_1 hI hx hy h) S4) lk_print ml_L_102 sm_L_print dL_law_522 rfl (Nat.le_of_ble_eq_true rfl) R1 R2 a1 a2 a3) (fun ν hν => ?_)
    obtain ⟨hI2, hf⟩ := hν
    obtain ⟨⟨n1, n2, n3, n4, n5⟩, hb2, hz2⟩ := lm_x hW hf hm hb hz
    have hv : veW K (ν (m + 1)) := by rw [n1]; exact hvw
    have s1 : 0 ≤ ν m 2 := by rw [n3]; exact hsv.1
    have s2 : ν m 2 ≤ 6 := by rw [n3]; exact hsv.2
    have k5 := kX5_print_1 hM hv hx hy h
    simp only [n1, n2, n3, n4, n5] at k5
    refine r_istore C1 dL_law_525 (by decide) rfl ?_
    refine r_aload_n C1 dL_law_527 rfl ?_
    refine r_aload_n C1 dL_law_528 rfl ?_
    refine r_iload C1 dL_law_529 rfl ?_
    refine r_iconst C1 dL_law_531 ?_
    refine r_iadd C1 dL_law_532 ?_
    refine r_iald C1 Sb (by omega) (by omega) dL_law_533 ?_
    rw [hb2]
    refine r_aload_n C1 dL_law_534 rfl ?_
    refine r_iload C1 dL_law_535 rfl ?_
    refine r_iconst C1 dL_law_537 ?_
    refine r_iadd C1 dL_law_538 ?_
    refine r_iald C1 Sb (by omega) (by omega) dL_law_539 ?_
    rw [hb2]
    refine r_runIr (fun aH aL aj a1 a2 a3 => run_V C1 hfl k5 lm_X5_print ml_L_104 im_X5_print se_X5_print hM.2.1 rfl (Nat.le_of_ble_eq_true rfl) dL_law_540 rfl (Nat.le_of_ble_eq_true rfl) a1 a2 a3) (fun σ hσ => ?_)
    obtain ⟨hL2, t0, eo⟩ := lm_r hW hI2 hb2 hz2 hσ
    refine r_istore C1 dL_law_543 (by decide) rfl ?_
    refine r_aload_n C1 dL_law_545 rfl ?_
    refine r_runI (fun aH aL aj a1 a2 a3 => run_V C1 hfl (kX5_thrown (μ := σ) hM) lm_X5_thrown ml_L_82 im_X5_thrown se_X5_thrown hM.2.1 rfl (Nat.le_of_ble_eq_true rfl) dL_law_546 rfl (Nat.le_of_ble_eq_true rfl) a1 a2 a3) ?_
    rw [t0]
    refine r_iload C1 dL_law_549 rfl ?_
    refine r_icmp_eq (tgt := 556) C1 dL_law_551 (by decide) (by decide) (by decide) (fun _ => ?_) (fun c => absurd rfl c)
    refine r_iload C1 dL_law_556 rfl ?_
    refine r_if_ne (tgt := 573) C1 dL_law_558 (by decide) (by decide) (fun _ => ?_) (fun c => absurd c (by decide))
    refine r_goto (tgt := 1392) C1 dL_law_573 (by decide) ?_
    refine r_fgt (ls' := [vR b, vR q, vR m, vR o, vI i, vU, vU, vU, vU]) rfl (fun j a h1 h2 => ?_) (kk σ (K) (by omega) hL2)
    exact fg_9 h1 h2
set_option maxRecDepth 20000 in
set_option maxHeartbeats 2000000 in
theorem kL_punch {X : Cx} {b L q m o : Nat} {B : Int → Int} {μ : Mem} {K i : Int} (C : Ok X RL cL_law 9 10) (hW : LW X b L q m o) (R1 : xk X + 1 ≤ (xR X).cells) (R2 : xn X + 6 ≤ (xR X).slots) (hK : K + 1300 ≤ 1000000) (hL : LI (xV X) q m b B K μ) (hi0 : 0 ≤ i) (hi3 : i + 3 ≤ (L : Int)) (hLL : L ≤ 1536) (hB : ∀ j, inR (B j))
    (kk : ∀ (ν : Mem) (K' : Int), K' ≤ K + 1300 → LI (xV X) q m b B K' ν → RR (X1 X) ν 1392 [vR b, vR q, vR m, vR o, vI i, vU, vU, vU, vU] []) : RR X μ 576 [vR b, vR q, vR m, vR o, vI i, vU, vU, vU, vU] [] := by
  obtain ⟨⟨hM, So, Bo, S4, Sb⟩, hord, hfl, hE⟩ := id hW
  obtain ⟨w, tx, sv, kp, ln, hI, hm, hb, hz⟩ := hL
  have hsv : 0 ≤ sv ∧ sv ≤ 6 := hI.2.2.2.1.1
  have hkp := hI.2.2.1.1
  have hln : 0 ≤ ln ∧ ln ≤ 60 := hI.2.2.2.2.1.2.1
  have hvw := hI.2.1.1
  have hx := hB (i + 1)
  have hy := hB (i + 2)
  have hK20 : K + 20 ≤ 1000000 := by omega
  have C1 : Ok (X1 X) RL cL_law 9 10 := ok_1 C R1 R2
  refine r_aload_n C dL_law_576 rfl ?_
  refine r_aload_n C dL_law_577 rfl ?_
  refine r_iload C dL_law_578 rfl ?_
  refine r_iconst C dL_law_580 ?_
  refine r_iadd C dL_law_581 ?_
  refine r_iald C Sb (by omega) (by omega) dL_law_582 ?_
  rw [hb]
  refine r_aload_n C dL_law_583 rfl ?_
  refine r_iload C dL_law_584 rfl ?_
  refine r_iconst C dL_law_586 ?_
  refine r_iadd C dL_law_587 ?_
  refine r_iald C Sb (by omega) (by omega) dL_law_588 ?_
  rw [hb]
  refine r_aload_n C dL_law_589 rfl ?_
  by_cases h : 0 ≤ B (i + 1) ∧ B (i + 1) < 16
  · by_cases h2 : 1 ≤ B (i + 2) ∧ B (i + 2) ≤ 31
    · refine r_runI1 (fun aH aL aj a1 a2 a3 => run_LW C hfl hE (hL_punch_0 (kX4_punch_0 hI hK20 hx hy h h2) (by decide) S4 So Bo) lk_punch ml_L_105 sm_L_punch dL_law_590 rfl (Nat.le_of_ble_eq_true rfl) R1 R2 a1 a2 a3) (fun ν hν => ?_)
      obtain ⟨ρ, ⟨hI1, hf⟩, hν⟩ := hν
      have eo1 := congrArg (fun f : Mem => f o 0) hν
      simp only [wr_s, s1_s] at eo1
      obtain ⟨hI2, ⟨n1, n2, n3, n4, n5⟩, hb2, hz2⟩ := lm_v hν hW hI1 (lm_x hW hf hm hb hz)
      have hv : veW K (ν (m + 1)) := by rw [n1]; exact hvw
      have s1 : 0 ≤ ν m 2 := by rw [n3]; exact hsv.1
      have s2 : ν m 2 ≤ 6 := by rw [n3]; exact hsv.2
      have k5 := kX5_punch_0 hM hv s1 s2 hx hy h h2
      simp only [n1, n2, n3, n4, n5] at k5
      refine r_istore C1 dL_law_593 (by decide) rfl ?_
      refine r_aload_n C1 dL_law_595 rfl ?_
      refine r_aload_n C1 dL_law_596 rfl ?_
      refine r_iload C1 dL_law_597 rfl ?_
      refine r_iconst C1 dL_law_599 ?_
      refine r_iadd C1 dL_law_600 ?_
      refine r_iald C1 Sb (by omega) (by omega) dL_law_601 ?_
      rw [hb2]
      refine r_aload_n C1 dL_law_602 rfl ?_
      refine r_iload C1 dL_law_603 rfl ?_
      refine r_iconst C1 dL_law_605 ?_
      refine r_iadd C1 dL_law_606 ?_
      refine r_iald C1 Sb (by omega) (by omega) dL_law_607 ?_
      rw [hb2]
      refine r_runIr (fun aH aL aj a1 a2 a3 => run_V C1 hfl k5 lm_X5_punch ml_L_107 im_X5_punch se_X5_punch hM.2.1 rfl (Nat.le_of_ble_eq_true rfl) dL_law_608 rfl (Nat.le_of_ble_eq_true rfl) a1 a2 a3) (fun σ hσ => ?_)
      obtain ⟨hL2, t0, eo⟩ := lm_r hW hI2 hb2 hz2 hσ
      refine r_istore C1 dL_law_611 (by decide) rfl ?_
      refine r_aload_n C1 dL_law_613 rfl ?_
      refine r_runI (fun aH aL aj a1 a2 a3 => run_V C1 hfl (kX5_thrown (μ := σ) hM) lm_X5_thrown ml_L_82 im_X5_thrown se_X5_thrown hM.2.1 rfl (Nat.le_of_ble_eq_true rfl) dL_law_614 rfl (Nat.le_of_ble_eq_true rfl) a1 a2 a3) ?_
      rw [t0]
      refine r_iload C1 dL_law_617 rfl ?_
      refine r_icmp_eq (tgt := 624) C1 dL_law_619 (by decide) (by decide) (by decide) (fun _ => ?_) (fun c => absurd rfl c)
      refine r_iload C1 dL_law_624 rfl ?_
      refine r_if_ne (tgt := 641) C1 dL_law_626 (by decide) (by decide) (fun c => absurd rfl c) (fun _ => ?_)
      refine r_aload_n C1 dL_law_629 rfl ?_
      refine r_iconst C1 dL_law_630 ?_
      refine r_lald C1 So (by decide) (by decide) dL_law_631 ?_
      refine r_iload C1 dL_law_632 rfl ?_
      refine r_i2l0 C1 dL_law_634 ?_
      refine r_lcmp0 C1 dL_law_635 (by rw [eo, eo1]) ?_
      refine r_if_eq (tgt := 641) C1 dL_law_636 (by decide) (by decide) (fun _ => ?_) (fun c => absurd rfl c)
      refine r_goto (tgt := 1392) C1 dL_law_641 (by decide) ?_
      refine r_fgt (ls' := [vR b, vR q, vR m, vR o, vI i, vU, vU, vU, vU]) rfl (fun j a h1 h2 => ?_) (kk σ (K + 20) (by omega) hL2)
      exact fg_9 h1 h2
    · refine r_runI1 (fun aH aL aj a1 a2 a3 => run_LW C hfl hE (hL_punch_2 (kX4_punch_2 hI hx hy h h2) S4) lk_punch ml_L_105 sm_L_punch dL_law_590 rfl (Nat.le_of_ble_eq_true rfl) R1 R2 a1 a2 a3) (fun ν hν => ?_)
      obtain ⟨hI2, hf⟩ := hν
      obtain ⟨⟨n1, n2, n3, n4, n5⟩, hb2, hz2⟩ := lm_x hW hf hm hb hz
      have hv : veW K (ν (m + 1)) := by rw [n1]; exact hvw
      have s1 : 0 ≤ ν m 2 := by rw [n3]; exact hsv.1
      have s2 : ν m 2 ≤ 6 := by rw [n3]; exact hsv.2
      have k5 := kX5_punch_2 hM hv hx hy h h2
      simp only [n1, n2, n3, n4, n5] at k5
      refine r_istore C1 dL_law_593 (by decide) rfl ?_
      refine r_aload_n C1 dL_law_595 rfl ?_
      refine r_aload_n C1 dL_law_596 rfl ?_
      refine r_iload C1 dL_law_597 rfl ?_
      refine r_iconst C1 dL_law_599 ?_
      refine r_iadd C1 dL_law_600 ?_
      refine r_iald C1 Sb (by omega) (by omega) dL_law_601 ?_
      rw [hb2]
      refine r_aload_n C1 dL_law_602 rfl ?_
      refine r_iload C1 dL_law_603 rfl ?_
      refine r_iconst C1 dL_law_605 ?_
      refine r_iadd C1 dL_law_606 ?_
      refine r_iald C1 Sb (by omega) (by omega) dL_law_607 ?_
      rw [hb2]
      refine r_runIr (fun aH aL aj a1 a2 a3 => run_V C1 hfl k5 lm_X5_punch ml_L_107 im_X5_punch se_X5_punch hM.2.1 rfl (Nat.le_of_ble_eq_true rfl) dL_law_608 rfl (Nat.le_of_ble_eq_true rfl) a1 a2 a3) (fun σ hσ => ?_)
      obtain ⟨hL2, t0, eo⟩ := lm_r hW hI2 hb2 hz2 hσ
      refine r_istore C1 dL_law_611 (by decide) rfl ?_
      refine r_aload_n C1 dL_law_613 rfl ?_
      refine r_runI (fun aH aL aj a1 a2 a3 => run_V C1 hfl (kX5_thrown (μ := σ) hM) lm_X5_thrown ml_L_82 im_X5_thrown se_X5_thrown hM.2.1 rfl (Nat.le_of_ble_eq_true rfl) dL_law_614 rfl (Nat.le_of_ble_eq_true rfl) a1 a2 a3) ?_
      rw [t0]
      refine r_iload C1 dL_law_617 rfl ?_
      refine r_icmp_eq (tgt := 624) C1 dL_law_619 (by decide) (by decide) (by decide) (fun _ => ?_) (fun c => absurd rfl c)
      refine r_iload C1 dL_law_624 rfl ?_
      refine r_if_ne (tgt := 641) C1 dL_law_626 (by decide) (by decide) (fun _ => ?_) (fun c => absurd c (by decide))
      refine r_goto (tgt := 1392) C1 dL_law_641 (by decide) ?_
      refine r_fgt (ls' := [vR b, vR q, vR m, vR o, vI i, vU, vU, vU, vU]) rfl (fun j a h1 h2 => ?_) (kk σ (K) (by omega) hL2)
      exact fg_9 h1 h2
  · refine r_runI1 (fun aH aL aj a1 a2 a3 => run_LW C hfl hE (hL_punch_1 (kX4_punch_1 hI hx hy h) S4) lk_punch ml_L_105 sm_L_punch dL_law_590 rfl (Nat.le_of_ble_eq_true rfl) R1 R2 a1 a2 a3) (fun ν hν => ?_)
    obtain ⟨hI2, hf⟩ := hν
    obtain ⟨⟨n1, n2, n3, n4, n5⟩, hb2, hz2⟩ := lm_x hW hf hm hb hz
    have hv : veW K (ν (m + 1)) := by rw [n1]; exact hvw
    have s1 : 0 ≤ ν m 2 := by rw [n3]; exact hsv.1
    have s2 : ν m 2 ≤ 6 := by rw [n3]; exact hsv.2
    have k5 := kX5_punch_1 hM hv hx hy h
    simp only [n1, n2, n3, n4, n5] at k5
    refine r_istore C1 dL_law_593 (by decide) rfl ?_
    refine r_aload_n C1 dL_law_595 rfl ?_
    refine r_aload_n C1 dL_law_596 rfl ?_
    refine r_iload C1 dL_law_597 rfl ?_
    refine r_iconst C1 dL_law_599 ?_
    refine r_iadd C1 dL_law_600 ?_
    refine r_iald C1 Sb (by omega) (by omega) dL_law_601 ?_
    rw [hb2]
    refine r_aload_n C1 dL_law_602 rfl ?_
    refine r_iload C1 dL_law_603 rfl ?_
    refine r_iconst C1 dL_law_605 ?_
    refine r_iadd C1 dL_law_606 ?_
    refine r_iald C1 Sb (by omega) (by omega) dL_law_607 ?_
    rw [hb2]
    refine r_runIr (fun aH aL aj a1 a2 a3 => run_V C1 hfl k5 lm_X5_punch ml_L_107 im_X5_punch se_X5_punch hM.2.1 rfl (Nat.le_of_ble_eq_true rfl) dL_law_608 rfl (Nat.le_of_ble_eq_true rfl) a1 a2 a3) (fun σ hσ => ?_)
    obtain ⟨hL2, t0, eo⟩ := lm_r hW hI2 hb2 hz2 hσ
    refine r_istore C1 dL_law_611 (by decide) rfl ?_
    refine r_aload_n C1 dL_law_613 rfl ?_
    refine r_runI (fun aH aL aj a1 a2 a3 => run_V C1 hfl (kX5_thrown (μ := σ) hM) lm_X5_thrown ml_L_82 im_X5_thrown se_X5_thrown hM.2.1 rfl (Nat.le_of_ble_eq_true rfl) dL_law_614 rfl (Nat.le_of_ble_eq_true rfl) a1 a2 a3) ?_
    rw [t0]
    refine r_iload C1 dL_law_617 rfl ?_
    refine r_icmp_eq (tgt := 624) C1 dL_law_619 (by decide) (by decide) (by decide) (fun _ => ?_) (fun c => absurd rfl c)
    refine r_iload C1 dL_law_624 rfl ?_
    refine r_if_ne (tgt := 641) C1 dL_law_626 (by decide) (by decide) (fun _ => ?_) (fun c => absurd c (by decide))
    refine r_goto (tgt := 1392) C1 dL_law_641 (by decide) ?_
    refine r_fgt (ls' := [vR b, vR q, vR m, vR o, vI i, vU, vU, vU, vU]) rfl (fun j a h1 h2 => ?_) (kk σ (K) (by omega) hL2)
    exact fg_9 h1 h2
set_option maxRecDepth 20000 in
set_option maxHeartbeats 2000000 in
theorem kL_set {X : Cx} {b L q m o : Nat} {B : Int → Int} {μ : Mem} {K i : Int} (C : Ok X RL cL_law 9 10) (hW : LW X b L q m o) (R1 : xk X + 1 ≤ (xR X).cells) (R2 : xn X + 6 ≤ (xR X).slots) (hK : K + 1300 ≤ 1000000) (hL : LI (xV X) q m b B K μ) (hi0 : 0 ≤ i) (hi3 : i + 3 ≤ (L : Int)) (hLL : L ≤ 1536) (hB : ∀ j, inR (B j))
    (kk : ∀ (ν : Mem) (K' : Int), K' ≤ K + 1300 → LI (xV X) q m b B K' ν → RR (X1 X) ν 1392 [vR b, vR q, vR m, vR o, vI i, vU, vU, vU, vU] []) : RR X μ 644 [vR b, vR q, vR m, vR o, vI i, vU, vU, vU, vU] [] := by
  obtain ⟨⟨hM, So, Bo, S4, Sb⟩, hord, hfl, hE⟩ := id hW
  obtain ⟨w, tx, sv, kp, ln, hI, hm, hb, hz⟩ := hL
  have hsv : 0 ≤ sv ∧ sv ≤ 6 := hI.2.2.2.1.1
  have hkp := hI.2.2.1.1
  have hln : 0 ≤ ln ∧ ln ≤ 60 := hI.2.2.2.2.1.2.1
  have hvw := hI.2.1.1
  have hx := hB (i + 1)
  have hy := hB (i + 2)
  have hK20 : K + 20 ≤ 1000000 := by omega
  have C1 : Ok (X1 X) RL cL_law 9 10 := ok_1 C R1 R2
  refine r_aload_n C dL_law_644 rfl ?_
  refine r_aload_n C dL_law_645 rfl ?_
  refine r_iload C dL_law_646 rfl ?_
  refine r_iconst C dL_law_648 ?_
  refine r_iadd C dL_law_649 ?_
  refine r_iald C Sb (by omega) (by omega) dL_law_650 ?_
  rw [hb]
  refine r_aload_n C dL_law_651 rfl ?_
  refine r_iload C dL_law_652 rfl ?_
  refine r_iconst C dL_law_654 ?_
  refine r_iadd C dL_law_655 ?_
  refine r_iald C Sb (by omega) (by omega) dL_law_656 ?_
  rw [hb]
  refine r_aload_n C dL_law_657 rfl ?_
  by_cases h : 0 ≤ B (i + 1) ∧ B (i + 1) < 3
  · by_cases e0 : B (i + 1) = 0
    · by_cases c0 : 1 ≤ B (i + 2) ∧ B (i + 2) ≤ 16
      · refine r_runI1 (fun aH aL aj a1 a2 a3 => run_LW C hfl hE (hL_set_0 (kX4_set_0 hI hK20 hx hy hz (by omega) (by rw [e0]; exact c0)) (by decide) S4 So Bo) lk_set ml_L_108 sm_L_set dL_law_658 rfl (Nat.le_of_ble_eq_true rfl) R1 R2 a1 a2 a3) (fun ν hν => ?_)
        obtain ⟨ρ, ⟨hI1, hf⟩, hν⟩ := hν
        have eo1 := congrArg (fun f : Mem => f o 0) hν
        simp only [wr_s, s1_s] at eo1
        obtain ⟨hI2, ⟨n1, n2, n3, n4, n5⟩, hb2, hz2⟩ := lm_v hν hW hI1 (lm_x hW hf hm hb hz)
        have hv : veW K (ν (m + 1)) := by rw [n1]; exact hvw
        have s1 : 0 ≤ ν m 2 := by rw [n3]; exact hsv.1
        have s2 : ν m 2 ≤ 6 := by rw [n3]; exact hsv.2
        have k5 := kX5_set_0_0 hM hv s1 s2 hx hy e0 c0
        simp only [n1, n2, n3, n4, n5] at k5
        refine r_istore C1 dL_law_661 (by decide) rfl ?_
        refine r_aload_n C1 dL_law_663 rfl ?_
        refine r_aload_n C1 dL_law_664 rfl ?_
        refine r_iload C1 dL_law_665 rfl ?_
        refine r_iconst C1 dL_law_667 ?_
        refine r_iadd C1 dL_law_668 ?_
        refine r_iald C1 Sb (by omega) (by omega) dL_law_669 ?_
        rw [hb2]
        refine r_aload_n C1 dL_law_670 rfl ?_
        refine r_iload C1 dL_law_671 rfl ?_
        refine r_iconst C1 dL_law_673 ?_
        refine r_iadd C1 dL_law_674 ?_
        refine r_iald C1 Sb (by omega) (by omega) dL_law_675 ?_
        rw [hb2]
        refine r_runIr (fun aH aL aj a1 a2 a3 => run_V C1 hfl k5 lm_X5_set ml_L_110 im_X5_set se_X5_set hM.2.1 rfl (Nat.le_of_ble_eq_true rfl) dL_law_676 rfl (Nat.le_of_ble_eq_true rfl) a1 a2 a3) (fun σ hσ => ?_)
        obtain ⟨hL2, t0, eo⟩ := lm_r hW hI2 hb2 hz2 hσ
        refine r_istore C1 dL_law_679 (by decide) rfl ?_
        refine r_aload_n C1 dL_law_681 rfl ?_
        refine r_runI (fun aH aL aj a1 a2 a3 => run_V C1 hfl (kX5_thrown (μ := σ) hM) lm_X5_thrown ml_L_82 im_X5_thrown se_X5_thrown hM.2.1 rfl (Nat.le_of_ble_eq_true rfl) dL_law_682 rfl (Nat.le_of_ble_eq_true rfl) a1 a2 a3) ?_
        rw [t0]
        refine r_iload C1 dL_law_685 rfl ?_
        refine r_icmp_eq (tgt := 692) C1 dL_law_687 (by decide) (by decide) (by decide) (fun _ => ?_) (fun c => absurd rfl c)
        refine r_iload C1 dL_law_692 rfl ?_
        refine r_if_ne (tgt := 709) C1 dL_law_694 (by decide) (by decide) (fun c => absurd rfl c) (fun _ => ?_)
        refine r_aload_n C1 dL_law_697 rfl ?_
        refine r_iconst C1 dL_law_698 ?_
        refine r_lald C1 So (by decide) (by decide) dL_law_699 ?_
        refine r_iload C1 dL_law_700 rfl ?_
        refine r_i2l0 C1 dL_law_702 ?_
        refine r_lcmp0 C1 dL_law_703 (by rw [eo, eo1]) ?_
        refine r_if_eq (tgt := 709) C1 dL_law_704 (by decide) (by decide) (fun _ => ?_) (fun c => absurd rfl c)
        refine r_goto (tgt := 1392) C1 dL_law_709 (by decide) ?_
        refine r_fgt (ls' := [vR b, vR q, vR m, vR o, vI i, vU, vU, vU, vU]) rfl (fun j a h1 h2 => ?_) (kk σ (K + 20) (by omega) hL2)
        exact fg_9 h1 h2
      · refine r_runI1 (fun aH aL aj a1 a2 a3 => run_LW C hfl hE (hL_set_2 (kX4_set_2 hI hx hy hz (by omega) (by rw [e0]; exact c0)) S4) lk_set ml_L_108 sm_L_set dL_law_658 rfl (Nat.le_of_ble_eq_true rfl) R1 R2 a1 a2 a3) (fun ν hν => ?_)
        obtain ⟨hI2, hf⟩ := hν
        obtain ⟨⟨n1, n2, n3, n4, n5⟩, hb2, hz2⟩ := lm_x hW hf hm hb hz
        have hv : veW K (ν (m + 1)) := by rw [n1]; exact hvw
        have s1 : 0 ≤ ν m 2 := by rw [n3]; exact hsv.1
        have s2 : ν m 2 ≤ 6 := by rw [n3]; exact hsv.2
        have k5 := kX5_set_2_0 hM hv hx hy e0 c0
        simp only [n1, n2, n3, n4, n5] at k5
        refine r_istore C1 dL_law_661 (by decide) rfl ?_
        refine r_aload_n C1 dL_law_663 rfl ?_
        refine r_aload_n C1 dL_law_664 rfl ?_
        refine r_iload C1 dL_law_665 rfl ?_
        refine r_iconst C1 dL_law_667 ?_
        refine r_iadd C1 dL_law_668 ?_
        refine r_iald C1 Sb (by omega) (by omega) dL_law_669 ?_
        rw [hb2]
        refine r_aload_n C1 dL_law_670 rfl ?_
        refine r_iload C1 dL_law_671 rfl ?_
        refine r_iconst C1 dL_law_673 ?_
        refine r_iadd C1 dL_law_674 ?_
        refine r_iald C1 Sb (by omega) (by omega) dL_law_675 ?_
        rw [hb2]
        refine r_runIr (fun aH aL aj a1 a2 a3 => run_V C1 hfl k5 lm_X5_set ml_L_110 im_X5_set se_X5_set hM.2.1 rfl (Nat.le_of_ble_eq_true rfl) dL_law_676 rfl (Nat.le_of_ble_eq_true rfl) a1 a2 a3) (fun σ hσ => ?_)
        obtain ⟨hL2, t0, eo⟩ := lm_r hW hI2 hb2 hz2 hσ
        refine r_istore C1 dL_law_679 (by decide) rfl ?_
        refine r_aload_n C1 dL_law_681 rfl ?_
        refine r_runI (fun aH aL aj a1 a2 a3 => run_V C1 hfl (kX5_thrown (μ := σ) hM) lm_X5_thrown ml_L_82 im_X5_thrown se_X5_thrown hM.2.1 rfl (Nat.le_of_ble_eq_true rfl) dL_law_682 rfl (Nat.le_of_ble_eq_true rfl) a1 a2 a3) ?_
        rw [t0]
        refine r_iload C1 dL_law_685 rfl ?_
        refine r_icmp_eq (tgt := 692) C1 dL_law_687 (by decide) (by decide) (by decide) (fun _ => ?_) (fun c => absurd rfl c)
        refine r_iload C1 dL_law_692 rfl ?_
        refine r_if_ne (tgt := 709) C1 dL_law_694 (by decide) (by decide) (fun _ => ?_) (fun c => absurd c (by decide))
        refine r_goto (tgt := 1392) C1 dL_law_709 (by decide) ?_
        refine r_fgt (ls' := [vR b, vR q, vR m, vR o, vI i, vU, vU, vU, vU]) rfl (fun j a h1 h2 => ?_) (kk σ (K) (by omega) hL2)
        exact fg_9 h1 h2
    · by_cases e1 : B (i + 1) = 1
      · by_cases c1 : 2 ≤ B (i + 2) ∧ B (i + 2) ≤ 8
        · refine r_runI1 (fun aH aL aj a1 a2 a3 => run_LW C hfl hE (hL_set_0 (kX4_set_0 hI hK20 hx hy hz (by omega) (by rw [e1]; exact c1)) (by decide) S4 So Bo) lk_set ml_L_108 sm_L_set dL_law_658 rfl (Nat.le_of_ble_eq_true rfl) R1 R2 a1 a2 a3) (fun ν hν => ?_)
          obtain ⟨ρ, ⟨hI1, hf⟩, hν⟩ := hν
          have eo1 := congrArg (fun f : Mem => f o 0) hν
          simp only [wr_s, s1_s] at eo1
          obtain ⟨hI2, ⟨n1, n2, n3, n4, n5⟩, hb2, hz2⟩ := lm_v hν hW hI1 (lm_x hW hf hm hb hz)
          have hv : veW K (ν (m + 1)) := by rw [n1]; exact hvw
          have s1 : 0 ≤ ν m 2 := by rw [n3]; exact hsv.1
          have s2 : ν m 2 ≤ 6 := by rw [n3]; exact hsv.2
          have k5 := kX5_set_0_1 hM hv s1 s2 hx hy e1 c1
          simp only [n1, n2, n3, n4, n5] at k5
          refine r_istore C1 dL_law_661 (by decide) rfl ?_
          refine r_aload_n C1 dL_law_663 rfl ?_
          refine r_aload_n C1 dL_law_664 rfl ?_
          refine r_iload C1 dL_law_665 rfl ?_
          refine r_iconst C1 dL_law_667 ?_
          refine r_iadd C1 dL_law_668 ?_
          refine r_iald C1 Sb (by omega) (by omega) dL_law_669 ?_
          rw [hb2]
          refine r_aload_n C1 dL_law_670 rfl ?_
          refine r_iload C1 dL_law_671 rfl ?_
          refine r_iconst C1 dL_law_673 ?_
          refine r_iadd C1 dL_law_674 ?_
          refine r_iald C1 Sb (by omega) (by omega) dL_law_675 ?_
          rw [hb2]
          refine r_runIr (fun aH aL aj a1 a2 a3 => run_V C1 hfl k5 lm_X5_set ml_L_110 im_X5_set se_X5_set hM.2.1 rfl (Nat.le_of_ble_eq_true rfl) dL_law_676 rfl (Nat.le_of_ble_eq_true rfl) a1 a2 a3) (fun σ hσ => ?_)
          obtain ⟨hL2, t0, eo⟩ := lm_r hW hI2 hb2 hz2 hσ
          refine r_istore C1 dL_law_679 (by decide) rfl ?_
          refine r_aload_n C1 dL_law_681 rfl ?_
          refine r_runI (fun aH aL aj a1 a2 a3 => run_V C1 hfl (kX5_thrown (μ := σ) hM) lm_X5_thrown ml_L_82 im_X5_thrown se_X5_thrown hM.2.1 rfl (Nat.le_of_ble_eq_true rfl) dL_law_682 rfl (Nat.le_of_ble_eq_true rfl) a1 a2 a3) ?_
          rw [t0]
          refine r_iload C1 dL_law_685 rfl ?_
          refine r_icmp_eq (tgt := 692) C1 dL_law_687 (by decide) (by decide) (by decide) (fun _ => ?_) (fun c => absurd rfl c)
          refine r_iload C1 dL_law_692 rfl ?_
          refine r_if_ne (tgt := 709) C1 dL_law_694 (by decide) (by decide) (fun c => absurd rfl c) (fun _ => ?_)
          refine r_aload_n C1 dL_law_697 rfl ?_
          refine r_iconst C1 dL_law_698 ?_
          refine r_lald C1 So (by decide) (by decide) dL_law_699 ?_
          refine r_iload C1 dL_law_700 rfl ?_
          refine r_i2l0 C1 dL_law_702 ?_
          refine r_lcmp0 C1 dL_law_703 (by rw [eo, eo1]) ?_
          refine r_if_eq (tgt := 709) C1 dL_law_704 (by decide) (by decide) (fun _ => ?_) (fun c => absurd rfl c)
          refine r_goto (tgt := 1392) C1 dL_law_709 (by decide) ?_
          refine r_fgt (ls' := [vR b, vR q, vR m, vR o, vI i, vU, vU, vU, vU]) rfl (fun j a h1 h2 => ?_) (kk σ (K + 20) (by omega) hL2)
          exact fg_9 h1 h2
        · refine r_runI1 (fun aH aL aj a1 a2 a3 => run_LW C hfl hE (hL_set_2 (kX4_set_2 hI hx hy hz (by omega) (by rw [e1]; exact c1)) S4) lk_set ml_L_108 sm_L_set dL_law_658 rfl (Nat.le_of_ble_eq_true rfl) R1 R2 a1 a2 a3) (fun ν hν => ?_)
          obtain ⟨hI2, hf⟩ := hν
          obtain ⟨⟨n1, n2, n3, n4, n5⟩, hb2, hz2⟩ := lm_x hW hf hm hb hz
          have hv : veW K (ν (m + 1)) := by rw [n1]; exact hvw
          have s1 : 0 ≤ ν m 2 := by rw [n3]; exact hsv.1
          have s2 : ν m 2 ≤ 6 := by rw [n3]; exact hsv.2
          have k5 := kX5_set_2_1 hM hv hx hy e1 c1
          simp only [n1, n2, n3, n4, n5] at k5
          refine r_istore C1 dL_law_661 (by decide) rfl ?_
          refine r_aload_n C1 dL_law_663 rfl ?_
          refine r_aload_n C1 dL_law_664 rfl ?_
          refine r_iload C1 dL_law_665 rfl ?_
          refine r_iconst C1 dL_law_667 ?_
          refine r_iadd C1 dL_law_668 ?_
          refine r_iald C1 Sb (by omega) (by omega) dL_law_669 ?_
          rw [hb2]
          refine r_aload_n C1 dL_law_670 rfl ?_
          refine r_iload C1 dL_law_671 rfl ?_
          refine r_iconst C1 dL_law_673 ?_
          refine r_iadd C1 dL_law_674 ?_
          refine r_iald C1 Sb (by omega) (by omega) dL_law_675 ?_
          rw [hb2]
          refine r_runIr (fun aH aL aj a1 a2 a3 => run_V C1 hfl k5 lm_X5_set ml_L_110 im_X5_set se_X5_set hM.2.1 rfl (Nat.le_of_ble_eq_true rfl) dL_law_676 rfl (Nat.le_of_ble_eq_true rfl) a1 a2 a3) (fun σ hσ => ?_)
          obtain ⟨hL2, t0, eo⟩ := lm_r hW hI2 hb2 hz2 hσ
          refine r_istore C1 dL_law_679 (by decide) rfl ?_
          refine r_aload_n C1 dL_law_681 rfl ?_
          refine r_runI (fun aH aL aj a1 a2 a3 => run_V C1 hfl (kX5_thrown (μ := σ) hM) lm_X5_thrown ml_L_82 im_X5_thrown se_X5_thrown hM.2.1 rfl (Nat.le_of_ble_eq_true rfl) dL_law_682 rfl (Nat.le_of_ble_eq_true rfl) a1 a2 a3) ?_
          rw [t0]
          refine r_iload C1 dL_law_685 rfl ?_
          refine r_icmp_eq (tgt := 692) C1 dL_law_687 (by decide) (by decide) (by decide) (fun _ => ?_) (fun c => absurd rfl c)
          refine r_iload C1 dL_law_692 rfl ?_
          refine r_if_ne (tgt := 709) C1 dL_law_694 (by decide) (by decide) (fun _ => ?_) (fun c => absurd c (by decide))
          refine r_goto (tgt := 1392) C1 dL_law_709 (by decide) ?_
          refine r_fgt (ls' := [vR b, vR q, vR m, vR o, vI i, vU, vU, vU, vU]) rfl (fun j a h1 h2 => ?_) (kk σ (K) (by omega) hL2)
          exact fg_9 h1 h2
      · by_cases e2 : B (i + 1) = 2
        · by_cases c2 : 1 ≤ B (i + 2) ∧ B (i + 2) ≤ 9
          · refine r_runI1 (fun aH aL aj a1 a2 a3 => run_LW C hfl hE (hL_set_0 (kX4_set_0 hI hK20 hx hy hz (by omega) (by rw [e2]; exact c2)) (by decide) S4 So Bo) lk_set ml_L_108 sm_L_set dL_law_658 rfl (Nat.le_of_ble_eq_true rfl) R1 R2 a1 a2 a3) (fun ν hν => ?_)
            obtain ⟨ρ, ⟨hI1, hf⟩, hν⟩ := hν
            have eo1 := congrArg (fun f : Mem => f o 0) hν
            simp only [wr_s, s1_s] at eo1
            obtain ⟨hI2, ⟨n1, n2, n3, n4, n5⟩, hb2, hz2⟩ := lm_v hν hW hI1 (lm_x hW hf hm hb hz)
            have hv : veW K (ν (m + 1)) := by rw [n1]; exact hvw
            have s1 : 0 ≤ ν m 2 := by rw [n3]; exact hsv.1
            have s2 : ν m 2 ≤ 6 := by rw [n3]; exact hsv.2
            have k5 := kX5_set_0_2 hM hv s1 s2 hx hy e2 c2
            simp only [n1, n2, n3, n4, n5] at k5
            refine r_istore C1 dL_law_661 (by decide) rfl ?_
            refine r_aload_n C1 dL_law_663 rfl ?_
            refine r_aload_n C1 dL_law_664 rfl ?_
            refine r_iload C1 dL_law_665 rfl ?_
            refine r_iconst C1 dL_law_667 ?_
            refine r_iadd C1 dL_law_668 ?_
            refine r_iald C1 Sb (by omega) (by omega) dL_law_669 ?_
            rw [hb2]
            refine r_aload_n C1 dL_law_670 rfl ?_
            refine r_iload C1 dL_law_671 rfl ?_
            refine r_iconst C1 dL_law_673 ?_
            refine r_iadd C1 dL_law_674 ?_
            refine r_iald C1 Sb (by omega) (by omega) dL_law_675 ?_
            rw [hb2]
            refine r_runIr (fun aH aL aj a1 a2 a3 => run_V C1 hfl k5 lm_X5_set ml_L_110 im_X5_set se_X5_set hM.2.1 rfl (Nat.le_of_ble_eq_true rfl) dL_law_676 rfl (Nat.le_of_ble_eq_true rfl) a1 a2 a3) (fun σ hσ => ?_)
            obtain ⟨hL2, t0, eo⟩ := lm_r hW hI2 hb2 hz2 hσ
            refine r_istore C1 dL_law_679 (by decide) rfl ?_
            refine r_aload_n C1 dL_law_681 rfl ?_
            refine r_runI (fun aH aL aj a1 a2 a3 => run_V C1 hfl (kX5_thrown (μ := σ) hM) lm_X5_thrown ml_L_82 im_X5_thrown se_X5_thrown hM.2.1 rfl (Nat.le_of_ble_eq_true rfl) dL_law_682 rfl (Nat.le_of_ble_eq_true rfl) a1 a2 a3) ?_
            rw [t0]
            refine r_iload C1 dL_law_685 rfl ?_
            refine r_icmp_eq (tgt := 692) C1 dL_law_687 (by decide) (by decide) (by decide) (fun _ => ?_) (fun c => absurd rfl c)
            refine r_iload C1 dL_law_692 rfl ?_
            refine r_if_ne (tgt := 709) C1 dL_law_694 (by decide) (by decide) (fun c => absurd rfl c) (fun _ => ?_)
            refine r_aload_n C1 dL_law_697 rfl ?_
            refine r_iconst C1 dL_law_698 ?_
            refine r_lald C1 So (by decide) (by decide) dL_law_699 ?_
            refine r_iload C1 dL_law_700 rfl ?_
            refine r_i2l0 C1 dL_law_702 ?_
            refine r_lcmp0 C1 dL_law_703 (by rw [eo, eo1]) ?_
            refine r_if_eq (tgt := 709) C1 dL_law_704 (by decide) (by decide) (fun _ => ?_) (fun c => absurd rfl c)
            refine r_goto (tgt := 1392) C1 dL_law_709 (by decide) ?_
            refine r_fgt (ls' := [vR b, vR q, vR m, vR o, vI i, vU, vU, vU, vU]) rfl (fun j a h1 h2 => ?_) (kk σ (K + 20) (by omega) hL2)
            exact fg_9 h1 h2
          · refine r_runI1 (fun aH aL aj a1 a2 a3 => run_LW C hfl hE (hL_set_2 (kX4_set_2 hI hx hy hz (by omega) (by rw [e2]; exact c2)) S4) lk_set ml_L_108 sm_L_set dL_law_658 rfl (Nat.le_of_ble_eq_true rfl) R1 R2 a1 a2 a3) (fun ν hν => ?_)
            obtain ⟨hI2, hf⟩ := hν
            obtain ⟨⟨n1, n2, n3, n4, n5⟩, hb2, hz2⟩ := lm_x hW hf hm hb hz
            have hv : veW K (ν (m + 1)) := by rw [n1]; exact hvw
            have s1 : 0 ≤ ν m 2 := by rw [n3]; exact hsv.1
            have s2 : ν m 2 ≤ 6 := by rw [n3]; exact hsv.2
            have k5 := kX5_set_2_2 hM hv hx hy e2 c2
            simp only [n1, n2, n3, n4, n5] at k5
            refine r_istore C1 dL_law_661 (by decide) rfl ?_
            refine r_aload_n C1 dL_law_663 rfl ?_
            refine r_aload_n C1 dL_law_664 rfl ?_
            refine r_iload C1 dL_law_665 rfl ?_
            refine r_iconst C1 dL_law_667 ?_
            refine r_iadd C1 dL_law_668 ?_
            refine r_iald C1 Sb (by omega) (by omega) dL_law_669 ?_
            rw [hb2]
            refine r_aload_n C1 dL_law_670 rfl ?_
            refine r_iload C1 dL_law_671 rfl ?_
            refine r_iconst C1 dL_law_673 ?_
            refine r_iadd C1 dL_law_674 ?_
            refine r_iald C1 Sb (by omega) (by omega) dL_law_675 ?_
            rw [hb2]
            refine r_runIr (fun aH aL aj a1 a2 a3 => run_V C1 hfl k5 lm_X5_set ml_L_110 im_X5_set se_X5_set hM.2.1 rfl (Nat.le_of_ble_eq_true rfl) dL_law_676 rfl (Nat.le_of_ble_eq_true rfl) a1 a2 a3) (fun σ hσ => ?_)
            obtain ⟨hL2, t0, eo⟩ := lm_r hW hI2 hb2 hz2 hσ
            refine r_istore C1 dL_law_679 (by decide) rfl ?_
            refine r_aload_n C1 dL_law_681 rfl ?_
            refine r_runI (fun aH aL aj a1 a2 a3 => run_V C1 hfl (kX5_thrown (μ := σ) hM) lm_X5_thrown ml_L_82 im_X5_thrown se_X5_thrown hM.2.1 rfl (Nat.le_of_ble_eq_true rfl) dL_law_682 rfl (Nat.le_of_ble_eq_true rfl) a1 a2 a3) ?_
            rw [t0]
            refine r_iload C1 dL_law_685 rfl ?_
            refine r_icmp_eq (tgt := 692) C1 dL_law_687 (by decide) (by decide) (by decide) (fun _ => ?_) (fun c => absurd rfl c)
            refine r_iload C1 dL_law_692 rfl ?_
            refine r_if_ne (tgt := 709) C1 dL_law_694 (by decide) (by decide) (fun _ => ?_) (fun c => absurd c (by decide))
            refine r_goto (tgt := 1392) C1 dL_law_709 (by decide) ?_
            refine r_fgt (ls' := [vR b, vR q, vR m, vR o, vI i, vU, vU, vU, vU]) rfl (fun j a h1 h2 => ?_) (kk σ (K) (by omega) hL2)
            exact fg_9 h1 h2
        · exact absurd h (by omega)
  · refine r_runI1 (fun aH aL aj a1 a2 a3 => run_LW C hfl hE (hL_set_1 (kX4_set_1 hI hx hy h) S4) lk_set ml_L_108 sm_L_set dL_law_658 rfl (Nat.le_of_ble_eq_true rfl) R1 R2 a1 a2 a3) (fun ν hν => ?_)
    obtain ⟨hI2, hf⟩ := hν
    obtain ⟨⟨n1, n2, n3, n4, n5⟩, hb2, hz2⟩ := lm_x hW hf hm hb hz
    have hv : veW K (ν (m + 1)) := by rw [n1]; exact hvw
    have s1 : 0 ≤ ν m 2 := by rw [n3]; exact hsv.1
    have s2 : ν m 2 ≤ 6 := by rw [n3]; exact hsv.2
    have k5 := kX5_set_1 hM hv hx hy h
    simp only [n1, n2, n3, n4, n5] at k5
    refine r_istore C1 dL_law_661 (by decide) rfl ?_
    refine r_aload_n C1 dL_law_663 rfl ?_
    refine r_aload_n C1 dL_law_664 rfl ?_
    refine r_iload C1 dL_law_665 rfl ?_
    refine r_iconst C1 dL_law_667 ?_
    refine r_iadd C1 dL_law_668 ?_
    refine r_iald C1 Sb (by omega) (by omega) dL_law_669 ?_
    rw [hb2]
    refine r_aload_n C1 dL_law_670 rfl ?_
    refine r_iload C1 dL_law_671 rfl ?_
    refine r_iconst C1 dL_law_673 ?_
    refine r_iadd C1 dL_law_674 ?_
    refine r_iald C1 Sb (by omega) (by omega) dL_law_675 ?_
    rw [hb2]
    refine r_runIr (fun aH aL aj a1 a2 a3 => run_V C1 hfl k5 lm_X5_set ml_L_110 im_X5_set se_X5_set hM.2.1 rfl (Nat.le_of_ble_eq_true rfl) dL_law_676 rfl (Nat.le_of_ble_eq_true rfl) a1 a2 a3) (fun σ hσ => ?_)
    obtain ⟨hL2, t0, eo⟩ := lm_r hW hI2 hb2 hz2 hσ
    refine r_istore C1 dL_law_679 (by decide) rfl ?_
    refine r_aload_n C1 dL_law_681 rfl ?_
    refine r_runI (fun aH aL aj a1 a2 a3 => run_V C1 hfl (kX5_thrown (μ := σ) hM) lm_X5_thrown ml_L_82 im_X5_thrown se_X5_thrown hM.2.1 rfl (Nat.le_of_ble_eq_true rfl) dL_law_682 rfl (Nat.le_of_ble_eq_true rfl) a1 a2 a3) ?_
    rw [t0]
    refine r_iload C1 dL_law_685 rfl ?_
    refine r_icmp_eq (tgt := 692) C1 dL_law_687 (by decide) (by decide) (by decide) (fun _ => ?_) (fun c => absurd rfl c)
    refine r_iload C1 dL_law_692 rfl ?_
    refine r_if_ne (tgt := 709) C1 dL_law_694 (by decide) (by decide) (fun _ => ?_) (fun c => absurd c (by decide))
    refine r_goto (tgt := 1392) C1 dL_law_709 (by decide) ?_
    refine r_fgt (ls' := [vR b, vR q, vR m, vR o, vI i, vU, vU, vU, vU]) rfl (fun j a h1 h2 => ?_) (kk σ (K) (by omega) hL2)
    exact fg_9 h1 h2
set_option maxRecDepth 20000 in
set_option maxHeartbeats 2000000 in
theorem kL_append {X : Cx} {b L q m o : Nat} {B : Int → Int} {μ : Mem} {K i : Int} (C : Ok X RL cL_law 9 10) (hW : LW X b L q m o) (R1 : xk X + 1 ≤ (xR X).cells) (R2 : xn X + 6 ≤ (xR X).slots) (hK : K + 1300 ≤ 1000000) (hL : LI (xV X) q m b B K μ) (hi0 : 0 ≤ i) (hi3 : i + 3 ≤ (L : Int)) (hLL : L ≤ 1536) (hB : ∀ j, inR (B j))
    (kk : ∀ (ν : Mem) (K' : Int), K' ≤ K + 1300 → LI (xV X) q m b B K' ν → RR (X1 X) ν 1392 [vR b, vR q, vR m, vR o, vI i, vU, vU, vU, vU] []) : RR X μ 712 [vR b, vR q, vR m, vR o, vI i, vU, vU, vU, vU] [] := by
  obtain ⟨⟨hM, So, Bo, S4, Sb⟩, hord, hfl, hE⟩ := id hW
  obtain ⟨w, tx, sv, kp, ln, hI, hm, hb, hz⟩ := hL
  have hsv : 0 ≤ sv ∧ sv ≤ 6 := hI.2.2.2.1.1
  have hkp := hI.2.2.1.1
  have hln : 0 ≤ ln ∧ ln ≤ 60 := hI.2.2.2.2.1.2.1
  have hvw := hI.2.1.1
  have hx := hB (i + 1)
  have hy := hB (i + 2)
  have hK20 : K + 20 ≤ 1000000 := by omega
  have C1 : Ok (X1 X) RL cL_law 9 10 := ok_1 C R1 R2
  refine r_aload_n C dL_law_712 rfl ?_
  refine r_aload_n C dL_law_713 rfl ?_
  refine r_iload C dL_law_714 rfl ?_
  refine r_iconst C dL_law_716 ?_
  refine r_iadd C dL_law_717 ?_
  refine r_iald C Sb (by omega) (by omega) dL_law_718 ?_
  rw [hb]
  refine r_aload_n C dL_law_719 rfl ?_
  by_cases h : 33 ≤ B (i + 1) ∧ B (i + 1) ≤ 126
  · by_cases h2 : ln < 60
    · refine r_runI1 (fun aH aL aj a1 a2 a3 => run_LW C hfl hE (hL_append_0 (kX4_append_0 hI hx h h2) (by decide) S4 So Bo) lk_append ml_L_111 sm_L_append dL_law_720 rfl (Nat.le_of_ble_eq_true rfl) R1 R2 a1 a2 a3) (fun ν hν => ?_)
      obtain ⟨ρ, ⟨hI1, hf⟩, hν⟩ := hν
      have eo1 := congrArg (fun f : Mem => f o 0) hν
      simp only [wr_s, s1_s] at eo1
      obtain ⟨hI2, ⟨n1, n2, n3, n4, n5⟩, hb2, hz2⟩ := lm_v hν hW hI1 (lm_x hW hf hm hb hz)
      have hv : veW K (ν (m + 1)) := by rw [n1]; exact hvw
      have s1 : 0 ≤ ν m 2 := by rw [n3]; exact hsv.1
      have s2 : ν m 2 ≤ 6 := by rw [n3]; exact hsv.2
      have k5 := kX5_append_0 hM hv (by rw [n5]; exact hln) hx h (by rw [n5]; exact h2)
      simp only [n1, n2, n3, n4, n5] at k5
      refine r_istore C1 dL_law_723 (by decide) rfl ?_
      refine r_aload_n C1 dL_law_725 rfl ?_
      refine r_aload_n C1 dL_law_726 rfl ?_
      refine r_iload C1 dL_law_727 rfl ?_
      refine r_iconst C1 dL_law_729 ?_
      refine r_iadd C1 dL_law_730 ?_
      refine r_iald C1 Sb (by omega) (by omega) dL_law_731 ?_
      rw [hb2]
      refine r_runIr (fun aH aL aj a1 a2 a3 => run_V C1 hfl k5 lm_X5_append ml_L_113 im_X5_append se_X5_append hM.2.1 rfl (Nat.le_of_ble_eq_true rfl) dL_law_732 rfl (Nat.le_of_ble_eq_true rfl) a1 a2 a3) (fun σ hσ => ?_)
      obtain ⟨hL2, t0, eo⟩ := lm_r hW hI2 hb2 hz2 hσ
      refine r_istore C1 dL_law_735 (by decide) rfl ?_
      refine r_aload_n C1 dL_law_737 rfl ?_
      refine r_runI (fun aH aL aj a1 a2 a3 => run_V C1 hfl (kX5_thrown (μ := σ) hM) lm_X5_thrown ml_L_82 im_X5_thrown se_X5_thrown hM.2.1 rfl (Nat.le_of_ble_eq_true rfl) dL_law_738 rfl (Nat.le_of_ble_eq_true rfl) a1 a2 a3) ?_
      rw [t0]
      refine r_iload C1 dL_law_741 rfl ?_
      refine r_icmp_eq (tgt := 748) C1 dL_law_743 (by decide) (by decide) (by decide) (fun _ => ?_) (fun c => absurd rfl c)
      refine r_iload C1 dL_law_748 rfl ?_
      refine r_if_ne (tgt := 765) C1 dL_law_750 (by decide) (by decide) (fun c => absurd rfl c) (fun _ => ?_)
      refine r_aload_n C1 dL_law_753 rfl ?_
      refine r_iconst C1 dL_law_754 ?_
      refine r_lald C1 So (by decide) (by decide) dL_law_755 ?_
      refine r_iload C1 dL_law_756 rfl ?_
      refine r_i2l0 C1 dL_law_758 ?_
      refine r_lcmp0 C1 dL_law_759 (by rw [eo, eo1]) ?_
      refine r_if_eq (tgt := 765) C1 dL_law_760 (by decide) (by decide) (fun _ => ?_) (fun c => absurd rfl c)
      refine r_goto (tgt := 1392) C1 dL_law_765 (by decide) ?_
      refine r_fgt (ls' := [vR b, vR q, vR m, vR o, vI i, vU, vU, vU, vU]) rfl (fun j a h1 h2 => ?_) (kk σ (K) (by omega) hL2)
      exact fg_9 h1 h2
    · refine r_runI1 (fun aH aL aj a1 a2 a3 => run_LW C hfl hE (hL_append_2 (kX4_append_2 hI hx h h2) S4) lk_append ml_L_111 sm_L_append dL_law_720 rfl (Nat.le_of_ble_eq_true rfl) R1 R2 a1 a2 a3) (fun ν hν => ?_)
      obtain ⟨hI2, hf⟩ := hν
      obtain ⟨⟨n1, n2, n3, n4, n5⟩, hb2, hz2⟩ := lm_x hW hf hm hb hz
      have hv : veW K (ν (m + 1)) := by rw [n1]; exact hvw
      have s1 : 0 ≤ ν m 2 := by rw [n3]; exact hsv.1
      have s2 : ν m 2 ≤ 6 := by rw [n3]; exact hsv.2
      have k5 := kX5_append_2 hM hv (by rw [n5]; exact hln) hx h (by rw [n5]; omega)
      simp only [n1, n2, n3, n4, n5] at k5
      refine r_istore C1 dL_law_723 (by decide) rfl ?_
      refine r_aload_n C1 dL_law_725 rfl ?_
      refine r_aload_n C1 dL_law_726 rfl ?_
      refine r_iload C1 dL_law_727 rfl ?_
      refine r_iconst C1 dL_law_729 ?_
      refine r_iadd C1 dL_law_730 ?_
      refine r_iald C1 Sb (by omega) (by omega) dL_law_731 ?_
      rw [hb2]
      refine r_runIr (fun aH aL aj a1 a2 a3 => run_V C1 hfl k5 lm_X5_append ml_L_113 im_X5_append se_X5_append hM.2.1 rfl (Nat.le_of_ble_eq_true rfl) dL_law_732 rfl (Nat.le_of_ble_eq_true rfl) a1 a2 a3) (fun σ hσ => ?_)
      obtain ⟨hL2, t0, eo⟩ := lm_r hW hI2 hb2 hz2 hσ
      refine r_istore C1 dL_law_735 (by decide) rfl ?_
      refine r_aload_n C1 dL_law_737 rfl ?_
      refine r_runI (fun aH aL aj a1 a2 a3 => run_V C1 hfl (kX5_thrown (μ := σ) hM) lm_X5_thrown ml_L_82 im_X5_thrown se_X5_thrown hM.2.1 rfl (Nat.le_of_ble_eq_true rfl) dL_law_738 rfl (Nat.le_of_ble_eq_true rfl) a1 a2 a3) ?_
      rw [t0]
      refine r_iload C1 dL_law_741 rfl ?_
      refine r_icmp_eq (tgt := 748) C1 dL_law_743 (by decide) (by decide) (by decide) (fun _ => ?_) (fun c => absurd rfl c)
      refine r_iload C1 dL_law_748 rfl ?_
      refine r_if_ne (tgt := 765) C1 dL_law_750 (by decide) (by decide) (fun _ => ?_) (fun c => absurd c (by decide))
      refine r_goto (tgt := 1392) C1 dL_law_765 (by decide) ?_
      refine r_fgt (ls' := [vR b, vR q, vR m, vR o, vI i, vU, vU, vU, vU]) rfl (fun j a h1 h2 => ?_) (kk σ (K) (by omega) hL2)
      exact fg_9 h1 h2
  · refine r_runI1 (fun aH aL aj a1 a2 a3 => run_LW C hfl hE (hL_append_1 (kX4_append_1 hI hx h) S4) lk_append ml_L_111 sm_L_append dL_law_720 rfl (Nat.le_of_ble_eq_true rfl) R1 R2 a1 a2 a3) (fun ν hν => ?_)
    obtain ⟨hI2, hf⟩ := hν
    obtain ⟨⟨n1, n2, n3, n4, n5⟩, hb2, hz2⟩ := lm_x hW hf hm hb hz
    have hv : veW K (ν (m + 1)) := by rw [n1]; exact hvw
    have s1 : 0 ≤ ν m 2 := by rw [n3]; exact hsv.1
    have s2 : ν m 2 ≤ 6 := by rw [n3]; exact hsv.2
    have k5 := kX5_append_1 hM hv (by rw [n5]; exact hln) hx h
    simp only [n1, n2, n3, n4, n5] at k5
    refine r_istore C1 dL_law_723 (by decide) rfl ?_
    refine r_aload_n C1 dL_law_725 rfl ?_
    refine r_aload_n C1 dL_law_726 rfl ?_
    refine r_iload C1 dL_law_727 rfl ?_
    refine r_iconst C1 dL_law_729 ?_
    refine r_iadd C1 dL_law_730 ?_
    refine r_iald C1 Sb (by omega) (by omega) dL_law_731 ?_
    rw [hb2]
    refine r_runIr (fun aH aL aj a1 a2 a3 => run_V C1 hfl k5 lm_X5_append ml_L_113 im_X5_append se_X5_append hM.2.1 rfl (Nat.le_of_ble_eq_true rfl) dL_law_732 rfl (Nat.le_of_ble_eq_true rfl) a1 a2 a3) (fun σ hσ => ?_)
    obtain ⟨hL2, t0, eo⟩ := lm_r hW hI2 hb2 hz2 hσ
    refine r_istore C1 dL_law_735 (by decide) rfl ?_
    refine r_aload_n C1 dL_law_737 rfl ?_
    refine r_runI (fun aH aL aj a1 a2 a3 => run_V C1 hfl (kX5_thrown (μ := σ) hM) lm_X5_thrown ml_L_82 im_X5_thrown se_X5_thrown hM.2.1 rfl (Nat.le_of_ble_eq_true rfl) dL_law_738 rfl (Nat.le_of_ble_eq_true rfl) a1 a2 a3) ?_
    rw [t0]
    refine r_iload C1 dL_law_741 rfl ?_
    refine r_icmp_eq (tgt := 748) C1 dL_law_743 (by decide) (by decide) (by decide) (fun _ => ?_) (fun c => absurd rfl c)
    refine r_iload C1 dL_law_748 rfl ?_
    refine r_if_ne (tgt := 765) C1 dL_law_750 (by decide) (by decide) (fun _ => ?_) (fun c => absurd c (by decide))
    refine r_goto (tgt := 1392) C1 dL_law_765 (by decide) ?_
    refine r_fgt (ls' := [vR b, vR q, vR m, vR o, vI i, vU, vU, vU, vU]) rfl (fun j a h1 h2 => ?_) (kk σ (K) (by omega) hL2)
    exact fg_9 h1 h2
set_option maxRecDepth 20000 in
set_option maxHeartbeats 2000000 in
theorem kL_work {X : Cx} {b L q m o : Nat} {B : Int → Int} {μ : Mem} {K i : Int} (C : Ok X RL cL_law 9 10) (hW : LW X b L q m o) (R1 : xk X + 1 ≤ (xR X).cells) (R2 : xn X + 6 ≤ (xR X).slots) (hK : K + 1300 ≤ 1000000) (hL : LI (xV X) q m b B K μ) (hi0 : 0 ≤ i) (hi3 : i + 3 ≤ (L : Int)) (hLL : L ≤ 1536) (hB : ∀ j, inR (B j))
    (kk : ∀ (ν : Mem) (K' : Int), K' ≤ K + 1300 → LI (xV X) q m b B K' ν → RR (X1 X) ν 1392 [vR b, vR q, vR m, vR o, vI i, vU, vU, vU, vU] []) : RR X μ 794 [vR b, vR q, vR m, vR o, vI i, vU, vU, vU, vU] [] := by
  obtain ⟨⟨hM, So, Bo, S4, Sb⟩, hord, hfl, hE⟩ := id hW
  obtain ⟨w, tx, sv, kp, ln, hI, hm, hb, hz⟩ := hL
  have hsv : 0 ≤ sv ∧ sv ≤ 6 := hI.2.2.2.1.1
  have hkp := hI.2.2.1.1
  have hln : 0 ≤ ln ∧ ln ≤ 60 := hI.2.2.2.2.1.2.1
  have hvw := hI.2.1.1
  have hx := hB (i + 1)
  have hy := hB (i + 2)
  have hK20 : K + 20 ≤ 1000000 := by omega
  have C1 : Ok (X1 X) RL cL_law 9 10 := ok_1 C R1 R2
  refine r_aload_n C dL_law_794 rfl ?_
  refine r_aload_n C dL_law_795 rfl ?_
  by_cases h : (wk tx ln 0 0).1 = 1
  · refine r_runI1 (fun aH aL aj a1 a2 a3 => run_LW C hfl hE (hL_work_0 (kX4_work_0 hI hK h) (by decide) S4 So Bo) lk_work ml_L_122 sm_L_work dL_law_796 rfl (Nat.le_of_ble_eq_true rfl) R1 R2 a1 a2 a3) (fun ν hν => ?_)
    obtain ⟨ρ, ⟨hI1, hf⟩, hν⟩ := hν
    have eo1 := congrArg (fun f : Mem => f o 0) hν
    simp only [wr_s, s1_s] at eo1
    obtain ⟨hI2, ⟨n1, n2, n3, n4, n5⟩, hb2, hz2⟩ := lm_v hν hW hI1 (lm_x hW hf hm hb hz)
    have hv : veW K (ν (m + 1)) := by rw [n1]; exact hvw
    have s1 : 0 ≤ ν m 2 := by rw [n3]; exact hsv.1
    have s2 : ν m 2 ≤ 6 := by rw [n3]; exact hsv.2
    have k5 := kX5_work_0 hM hv s1 s2 (bu_of hI n2 n5) hK (by rw [n2, n5]; exact h)
    simp only [n1, n2, n3, n4, n5] at k5
    refine r_istore C1 dL_law_799 (by decide) rfl ?_
    refine r_aload_n C1 dL_law_801 rfl ?_
    refine r_runIr (fun aH aL aj a1 a2 a3 => run_V C1 hfl k5 lm_X5_work ml_L_124 im_X5_work se_X5_work hM.2.1 rfl (Nat.le_of_ble_eq_true rfl) dL_law_802 rfl (Nat.le_of_ble_eq_true rfl) a1 a2 a3) (fun σ hσ => ?_)
    obtain ⟨hL2, t0, eo⟩ := lm_r hW hI2 hb2 hz2 hσ.1
    refine r_istore C1 dL_law_805 (by decide) rfl ?_
    refine r_aload_n C1 dL_law_807 rfl ?_
    refine r_runI (fun aH aL aj a1 a2 a3 => run_V C1 hfl (kX5_thrown (μ := σ) hM) lm_X5_thrown ml_L_82 im_X5_thrown se_X5_thrown hM.2.1 rfl (Nat.le_of_ble_eq_true rfl) dL_law_808 rfl (Nat.le_of_ble_eq_true rfl) a1 a2 a3) ?_
    rw [t0]
    refine r_iload C1 dL_law_811 rfl ?_
    refine r_icmp_eq (tgt := 818) C1 dL_law_813 (by decide) (by decide) (by decide) (fun _ => ?_) (fun c => absurd rfl c)
    refine r_iload C1 dL_law_818 rfl ?_
    refine r_if_ne (tgt := 835) C1 dL_law_820 (by decide) (by decide) (fun c => absurd rfl c) (fun _ => ?_)
    refine r_aload_n C1 dL_law_823 rfl ?_
    refine r_iconst C1 dL_law_824 ?_
    refine r_lald C1 So (by decide) (by decide) dL_law_825 ?_
    refine r_iload C1 dL_law_826 rfl ?_
    refine r_i2l0 C1 dL_law_828 ?_
    refine r_lcmp0 C1 dL_law_829 (by rw [eo, eo1]) ?_
    refine r_if_eq (tgt := 835) C1 dL_law_830 (by decide) (by decide) (fun _ => ?_) (fun c => absurd rfl c)
    refine r_goto (tgt := 1392) C1 dL_law_835 (by decide) ?_
    refine r_fgt (ls' := [vR b, vR q, vR m, vR o, vI i, vU, vU, vU, vU]) rfl (fun j a h1 h2 => ?_) (kk σ (K + 1300) (by omega) hL2)
    exact fg_9 h1 h2
  · refine r_runI1 (fun aH aL aj a1 a2 a3 => run_LW C hfl hE (hL_work_1 (kX4_work_1 hI ((wk_01 tx ln 0 0).resolve_right h)) S4) lk_work ml_L_122 sm_L_work dL_law_796 rfl (Nat.le_of_ble_eq_true rfl) R1 R2 a1 a2 a3) (fun ν hν => ?_)
    obtain ⟨hI2, hf⟩ := hν
    obtain ⟨⟨n1, n2, n3, n4, n5⟩, hb2, hz2⟩ := lm_x hW hf hm hb hz
    have hv : veW K (ν (m + 1)) := by rw [n1]; exact hvw
    have s1 : 0 ≤ ν m 2 := by rw [n3]; exact hsv.1
    have s2 : ν m 2 ≤ 6 := by rw [n3]; exact hsv.2
    have k5 := kX5_work_1 hM hv (bu_of hI n2 n5) (by rw [n2, n5]; exact (wk_01 tx ln 0 0).resolve_right h)
    simp only [n1, n2, n3, n4, n5] at k5
    refine r_istore C1 dL_law_799 (by decide) rfl ?_
    refine r_aload_n C1 dL_law_801 rfl ?_
    refine r_runIr (fun aH aL aj a1 a2 a3 => run_V C1 hfl k5 lm_X5_work ml_L_124 im_X5_work se_X5_work hM.2.1 rfl (Nat.le_of_ble_eq_true rfl) dL_law_802 rfl (Nat.le_of_ble_eq_true rfl) a1 a2 a3) (fun σ hσ => ?_)
    obtain ⟨hL2, t0, eo⟩ := lm_r hW hI2 hb2 hz2 hσ
    refine r_istore C1 dL_law_805 (by decide) rfl ?_
    refine r_aload_n C1 dL_law_807 rfl ?_
    refine r_runI (fun aH aL aj a1 a2 a3 => run_V C1 hfl (kX5_thrown (μ := σ) hM) lm_X5_thrown ml_L_82 im_X5_thrown se_X5_thrown hM.2.1 rfl (Nat.le_of_ble_eq_true rfl) dL_law_808 rfl (Nat.le_of_ble_eq_true rfl) a1 a2 a3) ?_
    rw [t0]
    refine r_iload C1 dL_law_811 rfl ?_
    refine r_icmp_eq (tgt := 818) C1 dL_law_813 (by decide) (by decide) (by decide) (fun _ => ?_) (fun c => absurd rfl c)
    refine r_iload C1 dL_law_818 rfl ?_
    refine r_if_ne (tgt := 835) C1 dL_law_820 (by decide) (by decide) (fun _ => ?_) (fun c => absurd c (by decide))
    refine r_goto (tgt := 1392) C1 dL_law_835 (by decide) ?_
    refine r_fgt (ls' := [vR b, vR q, vR m, vR o, vI i, vU, vU, vU, vU]) rfl (fun j a h1 h2 => ?_) (kk σ (K) (by omega) hL2)
    exact fg_9 h1 h2
set_option maxRecDepth 20000 in
set_option maxHeartbeats 2000000 in
theorem kL_goBack {X : Cx} {b L q m o : Nat} {B : Int → Int} {μ : Mem} {K i : Int} (C : Ok X RL cL_law 9 10) (hW : LW X b L q m o) (R1 : xk X + 1 ≤ (xR X).cells) (R2 : xn X + 6 ≤ (xR X).slots) (hK : K + 1300 ≤ 1000000) (hL : LI (xV X) q m b B K μ) (hi0 : 0 ≤ i) (hi3 : i + 3 ≤ (L : Int)) (hLL : L ≤ 1536) (hB : ∀ j, inR (B j))
    (kk : ∀ (ν : Mem) (K' : Int), K' ≤ K + 1300 → LI (xV X) q m b B K' ν → RR (X1 X) ν 1392 [vR b, vR q, vR m, vR o, vI i, vU, vU, vU, vU] []) : RR X μ 851 [vR b, vR q, vR m, vR o, vI i, vU, vU, vU, vU] [] := by
  obtain ⟨⟨hM, So, Bo, S4, Sb⟩, hord, hfl, hE⟩ := id hW
  obtain ⟨w, tx, sv, kp, ln, hI, hm, hb, hz⟩ := hL
  have hsv : 0 ≤ sv ∧ sv ≤ 6 := hI.2.2.2.1.1
  have hkp := hI.2.2.1.1
  have hln : 0 ≤ ln ∧ ln ≤ 60 := hI.2.2.2.2.1.2.1
  have hvw := hI.2.1.1
  have hx := hB (i + 1)
  have hy := hB (i + 2)
  have hK20 : K + 20 ≤ 1000000 := by omega
  have C1 : Ok (X1 X) RL cL_law 9 10 := ok_1 C R1 R2
  refine r_aload_n C dL_law_851 rfl ?_
  refine r_aload_n C dL_law_852 rfl ?_
  by_cases h : kp = 1
  · refine r_runI1 (fun aH aL aj a1 a2 a3 => run_LW C hfl hE (hL_goBack_0 (kX4_goBack_0 hI hK20 h) (by decide) S4 So Bo) lk_goBack ml_L_129 sm_L_goBack dL_law_853 rfl (Nat.le_of_ble_eq_true rfl) R1 R2 a1 a2 a3) (fun ν hν => ?_)
    obtain ⟨ρ, ⟨hI1, hf⟩, hν⟩ := hν
    have eo1 := congrArg (fun f : Mem => f o 0) hν
    simp only [wr_s, s1_s] at eo1
    obtain ⟨hI2, ⟨n1, n2, n3, n4, n5⟩, hb2, hz2⟩ := lm_v hν hW hI1 (lm_x hW hf hm hb hz)
    have hv : veW K (ν (m + 1)) := by rw [n1]; exact hvw
    have s1 : 0 ≤ ν m 2 := by rw [n3]; exact hsv.1
    have s2 : ν m 2 ≤ 6 := by rw [n3]; exact hsv.2
    have k5 := kX5_goBack_0 hM hv s1 s2 (by rw [n4]; exact h)
    simp only [n1, n2, n3, n4, n5] at k5
    refine r_istore C1 dL_law_856 (by decide) rfl ?_
    refine r_aload_n C1 dL_law_858 rfl ?_
    refine r_runIr (fun aH aL aj a1 a2 a3 => run_V C1 hfl k5 lm_X5_goBack ml_L_131 im_X5_goBack se_X5_goBack hM.2.1 rfl (Nat.le_of_ble_eq_true rfl) dL_law_859 rfl (Nat.le_of_ble_eq_true rfl) a1 a2 a3) (fun σ hσ => ?_)
    obtain ⟨hL2, t0, eo⟩ := lm_r hW hI2 hb2 hz2 hσ
    refine r_istore C1 dL_law_862 (by decide) rfl ?_
    refine r_aload_n C1 dL_law_864 rfl ?_
    refine r_runI (fun aH aL aj a1 a2 a3 => run_V C1 hfl (kX5_thrown (μ := σ) hM) lm_X5_thrown ml_L_82 im_X5_thrown se_X5_thrown hM.2.1 rfl (Nat.le_of_ble_eq_true rfl) dL_law_865 rfl (Nat.le_of_ble_eq_true rfl) a1 a2 a3) ?_
    rw [t0]
    refine r_iload C1 dL_law_868 rfl ?_
    refine r_icmp_eq (tgt := 875) C1 dL_law_870 (by decide) (by decide) (by decide) (fun _ => ?_) (fun c => absurd rfl c)
    refine r_iload C1 dL_law_875 rfl ?_
    refine r_if_ne (tgt := 892) C1 dL_law_877 (by decide) (by decide) (fun c => absurd rfl c) (fun _ => ?_)
    refine r_aload_n C1 dL_law_880 rfl ?_
    refine r_iconst C1 dL_law_881 ?_
    refine r_lald C1 So (by decide) (by decide) dL_law_882 ?_
    refine r_iload C1 dL_law_883 rfl ?_
    refine r_i2l0 C1 dL_law_885 ?_
    refine r_lcmp0 C1 dL_law_886 (by rw [eo, eo1]) ?_
    refine r_if_eq (tgt := 892) C1 dL_law_887 (by decide) (by decide) (fun _ => ?_) (fun c => absurd rfl c)
    refine r_goto (tgt := 1392) C1 dL_law_892 (by decide) ?_
    refine r_fgt (ls' := [vR b, vR q, vR m, vR o, vI i, vU, vU, vU, vU]) rfl (fun j a h1 h2 => ?_) (kk σ (K + 20) (by omega) hL2)
    exact fg_9 h1 h2
  · refine r_runI1 (fun aH aL aj a1 a2 a3 => run_LW C hfl hE (hL_goBack_1 (kX4_goBack_1 hI (hkp.resolve_right h)) S4) lk_goBack ml_L_129 sm_L_goBack dL_law_853 rfl (Nat.le_of_ble_eq_true rfl) R1 R2 a1 a2 a3) (fun ν hν => ?_)
    obtain ⟨hI2, hf⟩ := hν
    obtain ⟨⟨n1, n2, n3, n4, n5⟩, hb2, hz2⟩ := lm_x hW hf hm hb hz
    have hv : veW K (ν (m + 1)) := by rw [n1]; exact hvw
    have s1 : 0 ≤ ν m 2 := by rw [n3]; exact hsv.1
    have s2 : ν m 2 ≤ 6 := by rw [n3]; exact hsv.2
    have k5 := kX5_goBack_1 hM hv (by rw [n4]; exact hkp.resolve_right h)
    simp only [n1, n2, n3, n4, n5] at k5
    refine r_istore C1 dL_law_856 (by decide) rfl ?_
    refine r_aload_n C1 dL_law_858 rfl ?_
    refine r_runIr (fun aH aL aj a1 a2 a3 => run_V C1 hfl k5 lm_X5_goBack ml_L_131 im_X5_goBack se_X5_goBack hM.2.1 rfl (Nat.le_of_ble_eq_true rfl) dL_law_859 rfl (Nat.le_of_ble_eq_true rfl) a1 a2 a3) (fun σ hσ => ?_)
    obtain ⟨hL2, t0, eo⟩ := lm_r hW hI2 hb2 hz2 hσ
    refine r_istore C1 dL_law_862 (by decide) rfl ?_
    refine r_aload_n C1 dL_law_864 rfl ?_
    refine r_runI (fun aH aL aj a1 a2 a3 => run_V C1 hfl (kX5_thrown (μ := σ) hM) lm_X5_thrown ml_L_82 im_X5_thrown se_X5_thrown hM.2.1 rfl (Nat.le_of_ble_eq_true rfl) dL_law_865 rfl (Nat.le_of_ble_eq_true rfl) a1 a2 a3) ?_
    rw [t0]
    refine r_iload C1 dL_law_868 rfl ?_
    refine r_icmp_eq (tgt := 875) C1 dL_law_870 (by decide) (by decide) (by decide) (fun _ => ?_) (fun c => absurd rfl c)
    refine r_iload C1 dL_law_875 rfl ?_
    refine r_if_ne (tgt := 892) C1 dL_law_877 (by decide) (by decide) (fun _ => ?_) (fun c => absurd c (by decide))
    refine r_goto (tgt := 1392) C1 dL_law_892 (by decide) ?_
    refine r_fgt (ls' := [vR b, vR q, vR m, vR o, vI i, vU, vU, vU, vU]) rfl (fun j a h1 h2 => ?_) (kk σ (K) (by omega) hL2)
    exact fg_9 h1 h2
set_option maxRecDepth 20000 in
set_option maxHeartbeats 2000000 in
theorem kL_undo {X : Cx} {b L q m o : Nat} {B : Int → Int} {μ : Mem} {K i : Int} (C : Ok X RL cL_law 9 10) (hW : LW X b L q m o) (R1 : xk X + 1 ≤ (xR X).cells) (R2 : xn X + 6 ≤ (xR X).slots) (hK : K + 1300 ≤ 1000000) (hL : LI (xV X) q m b B K μ) (hi0 : 0 ≤ i) (hi3 : i + 3 ≤ (L : Int)) (hLL : L ≤ 1536) (hB : ∀ j, inR (B j))
    (kk : ∀ (ν : Mem) (K' : Int), K' ≤ K + 1300 → LI (xV X) q m b B K' ν → RR (X1 X) ν 1392 [vR b, vR q, vR m, vR o, vI i, vU, vU, vU, vU] []) : RR X μ 895 [vR b, vR q, vR m, vR o, vI i, vU, vU, vU, vU] [] := by
  obtain ⟨⟨hM, So, Bo, S4, Sb⟩, hord, hfl, hE⟩ := id hW
  obtain ⟨w, tx, sv, kp, ln, hI, hm, hb, hz⟩ := hL
  have hsv : 0 ≤ sv ∧ sv ≤ 6 := hI.2.2.2.1.1
  have hkp := hI.2.2.1.1
  have hln : 0 ≤ ln ∧ ln ≤ 60 := hI.2.2.2.2.1.2.1
  have hvw := hI.2.1.1
  have hx := hB (i + 1)
  have hy := hB (i + 2)
  have hK20 : K + 20 ≤ 1000000 := by omega
  have C1 : Ok (X1 X) RL cL_law 9 10 := ok_1 C R1 R2
  refine r_aload_n C dL_law_895 rfl ?_
  refine r_aload_n C dL_law_896 rfl ?_
  by_cases h : 0 < sv
  · refine r_runI1 (fun aH aL aj a1 a2 a3 => run_LW C hfl hE (hL_undo_0 (kX4_undo_0 hI h) (by decide) S4 So Bo) lk_undo ml_L_132 sm_L_undo dL_law_897 rfl (Nat.le_of_ble_eq_true rfl) R1 R2 a1 a2 a3) (fun ν hν => ?_)
    obtain ⟨ρ, ⟨hI1, hf⟩, hν⟩ := hν
    have eo1 := congrArg (fun f : Mem => f o 0) hν
    simp only [wr_s, s1_s] at eo1
    obtain ⟨hI2, ⟨n1, n2, n3, n4, n5⟩, hb2, hz2⟩ := lm_v hν hW hI1 (lm_x hW hf hm hb hz)
    have hv : veW K (ν (m + 1)) := by rw [n1]; exact hvw
    have s1 : 0 ≤ ν m 2 := by rw [n3]; exact hsv.1
    have s2 : ν m 2 ≤ 6 := by rw [n3]; exact hsv.2
    have k5 := kX5_undo_0 hM hv s1 s2 (by rw [n3]; exact h)
    simp only [n1, n2, n3, n4, n5] at k5
    refine r_istore C1 dL_law_900 (by decide) rfl ?_
    refine r_aload_n C1 dL_law_902 rfl ?_
    refine r_runIr (fun aH aL aj a1 a2 a3 => run_V C1 hfl k5 lm_X5_undo ml_L_134 im_X5_undo se_X5_undo hM.2.1 rfl (Nat.le_of_ble_eq_true rfl) dL_law_903 rfl (Nat.le_of_ble_eq_true rfl) a1 a2 a3) (fun σ hσ => ?_)
    obtain ⟨hL2, t0, eo⟩ := lm_r hW hI2 hb2 hz2 hσ
    refine r_istore C1 dL_law_906 (by decide) rfl ?_
    refine r_aload_n C1 dL_law_908 rfl ?_
    refine r_runI (fun aH aL aj a1 a2 a3 => run_V C1 hfl (kX5_thrown (μ := σ) hM) lm_X5_thrown ml_L_82 im_X5_thrown se_X5_thrown hM.2.1 rfl (Nat.le_of_ble_eq_true rfl) dL_law_909 rfl (Nat.le_of_ble_eq_true rfl) a1 a2 a3) ?_
    rw [t0]
    refine r_iload C1 dL_law_912 rfl ?_
    refine r_icmp_eq (tgt := 919) C1 dL_law_914 (by decide) (by decide) (by decide) (fun _ => ?_) (fun c => absurd rfl c)
    refine r_iload C1 dL_law_919 rfl ?_
    refine r_if_ne (tgt := 936) C1 dL_law_921 (by decide) (by decide) (fun c => absurd rfl c) (fun _ => ?_)
    refine r_aload_n C1 dL_law_924 rfl ?_
    refine r_iconst C1 dL_law_925 ?_
    refine r_lald C1 So (by decide) (by decide) dL_law_926 ?_
    refine r_iload C1 dL_law_927 rfl ?_
    refine r_i2l0 C1 dL_law_929 ?_
    refine r_lcmp0 C1 dL_law_930 (by rw [eo, eo1]) ?_
    refine r_if_eq (tgt := 936) C1 dL_law_931 (by decide) (by decide) (fun _ => ?_) (fun c => absurd rfl c)
    refine r_goto (tgt := 1392) C1 dL_law_936 (by decide) ?_
    refine r_fgt (ls' := [vR b, vR q, vR m, vR o, vI i, vU, vU, vU, vU]) rfl (fun j a h1 h2 => ?_) (kk σ (K) (by omega) hL2)
    exact fg_9 h1 h2
  · refine r_runI1 (fun aH aL aj a1 a2 a3 => run_LW C hfl hE (hL_undo_1 (kX4_undo_1 hI (by omega)) S4) lk_undo ml_L_132 sm_L_undo dL_law_897 rfl (Nat.le_of_ble_eq_true rfl) R1 R2 a1 a2 a3) (fun ν hν => ?_)
    obtain ⟨hI2, hf⟩ := hν
    obtain ⟨⟨n1, n2, n3, n4, n5⟩, hb2, hz2⟩ := lm_x hW hf hm hb hz
    have hv : veW K (ν (m + 1)) := by rw [n1]; exact hvw
    have s1 : 0 ≤ ν m 2 := by rw [n3]; exact hsv.1
    have s2 : ν m 2 ≤ 6 := by rw [n3]; exact hsv.2
    have k5 := kX5_undo_1 hM hv (by rw [n3]; omega)
    simp only [n1, n2, n3, n4, n5] at k5
    refine r_istore C1 dL_law_900 (by decide) rfl ?_
    refine r_aload_n C1 dL_law_902 rfl ?_
    refine r_runIr (fun aH aL aj a1 a2 a3 => run_V C1 hfl k5 lm_X5_undo ml_L_134 im_X5_undo se_X5_undo hM.2.1 rfl (Nat.le_of_ble_eq_true rfl) dL_law_903 rfl (Nat.le_of_ble_eq_true rfl) a1 a2 a3) (fun σ hσ => ?_)
    obtain ⟨hL2, t0, eo⟩ := lm_r hW hI2 hb2 hz2 hσ
    refine r_istore C1 dL_law_906 (by decide) rfl ?_
    refine r_aload_n C1 dL_law_908 rfl ?_
    refine r_runI (fun aH aL aj a1 a2 a3 => run_V C1 hfl (kX5_thrown (μ := σ) hM) lm_X5_thrown ml_L_82 im_X5_thrown se_X5_thrown hM.2.1 rfl (Nat.le_of_ble_eq_true rfl) dL_law_909 rfl (Nat.le_of_ble_eq_true rfl) a1 a2 a3) ?_
    rw [t0]
    refine r_iload C1 dL_law_912 rfl ?_
    refine r_icmp_eq (tgt := 919) C1 dL_law_914 (by decide) (by decide) (by decide) (fun _ => ?_) (fun c => absurd rfl c)
    refine r_iload C1 dL_law_919 rfl ?_
    refine r_if_ne (tgt := 936) C1 dL_law_921 (by decide) (by decide) (fun _ => ?_) (fun c => absurd c (by decide))
    refine r_goto (tgt := 1392) C1 dL_law_936 (by decide) ?_
    refine r_fgt (ls' := [vR b, vR q, vR m, vR o, vI i, vU, vU, vU, vU]) rfl (fun j a h1 h2 => ?_) (kk σ (K) (by omega) hL2)
    exact fg_9 h1 h2
set_option maxRecDepth 20000 in
set_option maxHeartbeats 2000000 in
theorem kL_sheet {X : Cx} {b L q m o : Nat} {B : Int → Int} {μ : Mem} {K i : Int} (C : Ok X RL cL_law 9 10) (hW : LW X b L q m o) (R1 : xk X + 1 ≤ (xR X).cells) (R2 : xn X + 6 ≤ (xR X).slots) (hK : K + 1300 ≤ 1000000) (hL : LI (xV X) q m b B K μ) (hi0 : 0 ≤ i) (hi3 : i + 3 ≤ (L : Int)) (hLL : L ≤ 1536) (hB : ∀ j, inR (B j))
    (kk : ∀ (ν : Mem) (K' : Int), K' ≤ K + 1300 → LI (xV X) q m b B K' ν → RR (X1 X) ν 1392 [vR b, vR q, vR m, vR o, vI i, vU, vU, vU, vU] []) : RR X μ 939 [vR b, vR q, vR m, vR o, vI i, vU, vU, vU, vU] [] := by
  obtain ⟨⟨hM, So, Bo, S4, Sb⟩, hord, hfl, hE⟩ := id hW
  obtain ⟨w, tx, sv, kp, ln, hI, hm, hb, hz⟩ := hL
  have hsv : 0 ≤ sv ∧ sv ≤ 6 := hI.2.2.2.1.1
  have hkp := hI.2.2.1.1
  have hln : 0 ≤ ln ∧ ln ≤ 60 := hI.2.2.2.2.1.2.1
  have hvw := hI.2.1.1
  have hx := hB (i + 1)
  have hy := hB (i + 2)
  have hK20 : K + 20 ≤ 1000000 := by omega
  have C1 : Ok (X1 X) RL cL_law 9 10 := ok_1 C R1 R2
  refine r_aload_n C dL_law_939 rfl ?_
  refine r_aload_n C dL_law_940 rfl ?_
  refine r_iload C dL_law_941 rfl ?_
  refine r_iconst C dL_law_943 ?_
  refine r_iadd C dL_law_944 ?_
  refine r_iald C Sb (by omega) (by omega) dL_law_945 ?_
  rw [hb]
  refine r_aload_n C dL_law_946 rfl ?_
  refine r_iload C dL_law_947 rfl ?_
  refine r_iconst C dL_law_949 ?_
  refine r_iadd C dL_law_950 ?_
  refine r_iald C Sb (by omega) (by omega) dL_law_951 ?_
  rw [hb]
  refine r_aload_n C dL_law_952 rfl ?_
  by_cases h : 0 ≤ B (i + 1)
  · by_cases h2 : 0 ≤ B (i + 2) ∧ B (i + 2) ≤ 5
    · by_cases h3 : B (i + 1) < w 3
      · refine r_runI1 (fun aH aL aj a1 a2 a3 => run_LW C hfl hE (hL_sheet_0 (kX4_sheet_0 hI hx hy h h2 h3) (by decide) S4 So Bo) lk_sheet ml_L_135 sm_L_sheet dL_law_953 rfl (Nat.le_of_ble_eq_true rfl) R1 R2 a1 a2 a3) (fun ν hν => ?_)
        obtain ⟨ρ, ⟨hI1, hf⟩, hν⟩ := hν
        have eo1 := congrArg (fun f : Mem => f o 0) hν
        simp only [wr_s, s1_s] at eo1
        obtain ⟨hI2, ⟨n1, n2, n3, n4, n5⟩, hb2, hz2⟩ := lm_v hν hW hI1 (lm_x hW hf hm hb hz)
        have hv : veW K (ν (m + 1)) := by rw [n1]; exact hvw
        have s1 : 0 ≤ ν m 2 := by rw [n3]; exact hsv.1
        have s2 : ν m 2 ≤ 6 := by rw [n3]; exact hsv.2
        have k5 := kX5_sheet_0 hM hv hx hy h h2 (by rw [n1]; exact h3)
        simp only [n1, n2, n3, n4, n5] at k5
        refine r_istore C1 dL_law_956 (by decide) rfl ?_
        refine r_aload_n C1 dL_law_958 rfl ?_
        refine r_aload_n C1 dL_law_959 rfl ?_
        refine r_iload C1 dL_law_960 rfl ?_
        refine r_iconst C1 dL_law_962 ?_
        refine r_iadd C1 dL_law_963 ?_
        refine r_iald C1 Sb (by omega) (by omega) dL_law_964 ?_
        rw [hb2]
        refine r_aload_n C1 dL_law_965 rfl ?_
        refine r_iload C1 dL_law_966 rfl ?_
        refine r_iconst C1 dL_law_968 ?_
        refine r_iadd C1 dL_law_969 ?_
        refine r_iald C1 Sb (by omega) (by omega) dL_law_970 ?_
        rw [hb2]
        refine r_runIr (fun aH aL aj a1 a2 a3 => run_V C1 hfl k5 lm_X5_sheet ml_L_137 im_X5_sheet se_X5_sheet hM.2.1 rfl (Nat.le_of_ble_eq_true rfl) dL_law_971 rfl (Nat.le_of_ble_eq_true rfl) a1 a2 a3) (fun σ hσ => ?_)
        obtain ⟨hL2, t0, eo⟩ := lm_r hW hI2 hb2 hz2 hσ
        refine r_istore C1 dL_law_974 (by decide) rfl ?_
        refine r_aload_n C1 dL_law_976 rfl ?_
        refine r_runI (fun aH aL aj a1 a2 a3 => run_V C1 hfl (kX5_thrown (μ := σ) hM) lm_X5_thrown ml_L_82 im_X5_thrown se_X5_thrown hM.2.1 rfl (Nat.le_of_ble_eq_true rfl) dL_law_977 rfl (Nat.le_of_ble_eq_true rfl) a1 a2 a3) ?_
        rw [t0]
        refine r_iload C1 dL_law_980 rfl ?_
        refine r_icmp_eq (tgt := 987) C1 dL_law_982 (by decide) (by decide) (by decide) (fun _ => ?_) (fun c => absurd rfl c)
        refine r_iload C1 dL_law_987 rfl ?_
        refine r_if_ne (tgt := 1004) C1 dL_law_989 (by decide) (by decide) (fun c => absurd rfl c) (fun _ => ?_)
        refine r_aload_n C1 dL_law_992 rfl ?_
        refine r_iconst C1 dL_law_993 ?_
        refine r_lald C1 So (by decide) (by decide) dL_law_994 ?_
        refine r_iload C1 dL_law_995 rfl ?_
        refine r_i2l0 C1 dL_law_997 ?_
        refine r_lcmp0 C1 dL_law_998 (by rw [eo, eo1]) ?_
        refine r_if_eq (tgt := 1004) C1 dL_law_999 (by decide) (by decide) (fun _ => ?_) (fun c => absurd rfl c)
        refine r_goto (tgt := 1392) C1 dL_law_1004 (by decide) ?_
        refine r_fgt (ls' := [vR b, vR q, vR m, vR o, vI i, vU, vU, vU, vU]) rfl (fun j a h1 h2 => ?_) (kk σ (K) (by omega) hL2)
        exact fg_9 h1 h2
      · refine r_runI1 (fun aH aL aj a1 a2 a3 => run_LW C hfl hE (hL_sheet_0 (kX4_sheet_3 hI hx hy h h2 h3) (by decide) S4 So Bo) lk_sheet ml_L_135 sm_L_sheet dL_law_953 rfl (Nat.le_of_ble_eq_true rfl) R1 R2 a1 a2 a3) (fun ν hν => ?_)
        obtain ⟨ρ, ⟨hI1, hf⟩, hν⟩ := hν
        have eo1 := congrArg (fun f : Mem => f o 0) hν
        simp only [wr_s, s1_s] at eo1
        obtain ⟨hI2, ⟨n1, n2, n3, n4, n5⟩, hb2, hz2⟩ := lm_v hν hW hI1 (lm_x hW hf hm hb hz)
        have hv : veW K (ν (m + 1)) := by rw [n1]; exact hvw
        have s1 : 0 ≤ ν m 2 := by rw [n3]; exact hsv.1
        have s2 : ν m 2 ≤ 6 := by rw [n3]; exact hsv.2
        have k5 := kX5_sheet_3 hM hv hx hy h h2 (by rw [n1]; exact h3)
        simp only [n1, n2, n3, n4, n5] at k5
        refine r_istore C1 dL_law_956 (by decide) rfl ?_
        refine r_aload_n C1 dL_law_958 rfl ?_
        refine r_aload_n C1 dL_law_959 rfl ?_
        refine r_iload C1 dL_law_960 rfl ?_
        refine r_iconst C1 dL_law_962 ?_
        refine r_iadd C1 dL_law_963 ?_
        refine r_iald C1 Sb (by omega) (by omega) dL_law_964 ?_
        rw [hb2]
        refine r_aload_n C1 dL_law_965 rfl ?_
        refine r_iload C1 dL_law_966 rfl ?_
        refine r_iconst C1 dL_law_968 ?_
        refine r_iadd C1 dL_law_969 ?_
        refine r_iald C1 Sb (by omega) (by omega) dL_law_970 ?_
        rw [hb2]
        refine r_runIr (fun aH aL aj a1 a2 a3 => run_V C1 hfl k5 lm_X5_sheet ml_L_137 im_X5_sheet se_X5_sheet hM.2.1 rfl (Nat.le_of_ble_eq_true rfl) dL_law_971 rfl (Nat.le_of_ble_eq_true rfl) a1 a2 a3) (fun σ hσ => ?_)
        obtain ⟨hL2, t0, eo⟩ := lm_r hW hI2 hb2 hz2 hσ
        refine r_istore C1 dL_law_974 (by decide) rfl ?_
        refine r_aload_n C1 dL_law_976 rfl ?_
        refine r_runI (fun aH aL aj a1 a2 a3 => run_V C1 hfl (kX5_thrown (μ := σ) hM) lm_X5_thrown ml_L_82 im_X5_thrown se_X5_thrown hM.2.1 rfl (Nat.le_of_ble_eq_true rfl) dL_law_977 rfl (Nat.le_of_ble_eq_true rfl) a1 a2 a3) ?_
        rw [t0]
        refine r_iload C1 dL_law_980 rfl ?_
        refine r_icmp_eq (tgt := 987) C1 dL_law_982 (by decide) (by decide) (by decide) (fun _ => ?_) (fun c => absurd rfl c)
        refine r_iload C1 dL_law_987 rfl ?_
        refine r_if_ne (tgt := 1004) C1 dL_law_989 (by decide) (by decide) (fun c => absurd rfl c) (fun _ => ?_)
        refine r_aload_n C1 dL_law_992 rfl ?_
        refine r_iconst C1 dL_law_993 ?_
        refine r_lald C1 So (by decide) (by decide) dL_law_994 ?_
        refine r_iload C1 dL_law_995 rfl ?_
        refine r_i2l0 C1 dL_law_997 ?_
        refine r_lcmp0 C1 dL_law_998 (by rw [eo, eo1]) ?_
        refine r_if_eq (tgt := 1004) C1 dL_law_999 (by decide) (by decide) (fun _ => ?_) (fun c => absurd rfl c)
        refine r_goto (tgt := 1392) C1 dL_law_1004 (by decide) ?_
        refine r_fgt (ls' := [vR b, vR q, vR m, vR o, vI i, vU, vU, vU, vU]) rfl (fun j a h1 h2 => ?_) (kk σ (K) (by omega) hL2)
        exact fg_9 h1 h2
    · refine r_runI1 (fun aH aL aj a1 a2 a3 => run_LW C hfl hE (hL_sheet_2 (kX4_sheet_2 hI hx hy h h2) S4) lk_sheet ml_L_135 sm_L_sheet dL_law_953 rfl (Nat.le_of_ble_eq_true rfl) R1 R2 a1 a2 a3) (fun ν hν => ?_)
      obtain ⟨hI2, hf⟩ := hν
      obtain ⟨⟨n1, n2, n3, n4, n5⟩, hb2, hz2⟩ := lm_x hW hf hm hb hz
      have hv : veW K (ν (m + 1)) := by rw [n1]; exact hvw
      have s1 : 0 ≤ ν m 2 := by rw [n3]; exact hsv.1
      have s2 : ν m 2 ≤ 6 := by rw [n3]; exact hsv.2
      have k5 := kX5_sheet_2 hM hv hx hy h h2
      simp only [n1, n2, n3, n4, n5] at k5
      refine r_istore C1 dL_law_956 (by decide) rfl ?_
      refine r_aload_n C1 dL_law_958 rfl ?_
      refine r_aload_n C1 dL_law_959 rfl ?_
      refine r_iload C1 dL_law_960 rfl ?_
      refine r_iconst C1 dL_law_962 ?_
      refine r_iadd C1 dL_law_963 ?_
      refine r_iald C1 Sb (by omega) (by omega) dL_law_964 ?_
      rw [hb2]
      refine r_aload_n C1 dL_law_965 rfl ?_
      refine r_iload C1 dL_law_966 rfl ?_
      refine r_iconst C1 dL_law_968 ?_
      refine r_iadd C1 dL_law_969 ?_
      refine r_iald C1 Sb (by omega) (by omega) dL_law_970 ?_
      rw [hb2]
      refine r_runIr (fun aH aL aj a1 a2 a3 => run_V C1 hfl k5 lm_X5_sheet ml_L_137 im_X5_sheet se_X5_sheet hM.2.1 rfl (Nat.le_of_ble_eq_true rfl) dL_law_971 rfl (Nat.le_of_ble_eq_true rfl) a1 a2 a3) (fun σ hσ => ?_)
      obtain ⟨hL2, t0, eo⟩ := lm_r hW hI2 hb2 hz2 hσ
      refine r_istore C1 dL_law_974 (by decide) rfl ?_
      refine r_aload_n C1 dL_law_976 rfl ?_
      refine r_runI (fun aH aL aj a1 a2 a3 => run_V C1 hfl (kX5_thrown (μ := σ) hM) lm_X5_thrown ml_L_82 im_X5_thrown se_X5_thrown hM.2.1 rfl (Nat.le_of_ble_eq_true rfl) dL_law_977 rfl (Nat.le_of_ble_eq_true rfl) a1 a2 a3) ?_
      rw [t0]
      refine r_iload C1 dL_law_980 rfl ?_
      refine r_icmp_eq (tgt := 987) C1 dL_law_982 (by decide) (by decide) (by decide) (fun _ => ?_) (fun c => absurd rfl c)
      refine r_iload C1 dL_law_987 rfl ?_
      refine r_if_ne (tgt := 1004) C1 dL_law_989 (by decide) (by decide) (fun _ => ?_) (fun c => absurd c (by decide))
      refine r_goto (tgt := 1392) C1 dL_law_1004 (by decide) ?_
      refine r_fgt (ls' := [vR b, vR q, vR m, vR o, vI i, vU, vU, vU, vU]) rfl (fun j a h1 h2 => ?_) (kk σ (K) (by omega) hL2)
      exact fg_9 h1 h2
  · refine r_runI1 (fun aH aL aj a1 a2 a3 => run_LW C hfl hE (hL_sheet_1 (kX4_sheet_1 hI hx hy (by omega)) S4) lk_sheet ml_L_135 sm_L_sheet dL_law_953 rfl (Nat.le_of_ble_eq_true rfl) R1 R2 a1 a2 a3) (fun ν hν => ?_)
    obtain ⟨hI2, hf⟩ := hν
    obtain ⟨⟨n1, n2, n3, n4, n5⟩, hb2, hz2⟩ := lm_x hW hf hm hb hz
    have hv : veW K (ν (m + 1)) := by rw [n1]; exact hvw
    have s1 : 0 ≤ ν m 2 := by rw [n3]; exact hsv.1
    have s2 : ν m 2 ≤ 6 := by rw [n3]; exact hsv.2
    have k5 := kX5_sheet_1 hM hv hx hy (by omega)
    simp only [n1, n2, n3, n4, n5] at k5
    refine r_istore C1 dL_law_956 (by decide) rfl ?_
    refine r_aload_n C1 dL_law_958 rfl ?_
    refine r_aload_n C1 dL_law_959 rfl ?_
    refine r_iload C1 dL_law_960 rfl ?_
    refine r_iconst C1 dL_law_962 ?_
    refine r_iadd C1 dL_law_963 ?_
    refine r_iald C1 Sb (by omega) (by omega) dL_law_964 ?_
    rw [hb2]
    refine r_aload_n C1 dL_law_965 rfl ?_
    refine r_iload C1 dL_law_966 rfl ?_
    refine r_iconst C1 dL_law_968 ?_
    refine r_iadd C1 dL_law_969 ?_
    refine r_iald C1 Sb (by omega) (by omega) dL_law_970 ?_
    rw [hb2]
    refine r_runIr (fun aH aL aj a1 a2 a3 => run_V C1 hfl k5 lm_X5_sheet ml_L_137 im_X5_sheet se_X5_sheet hM.2.1 rfl (Nat.le_of_ble_eq_true rfl) dL_law_971 rfl (Nat.le_of_ble_eq_true rfl) a1 a2 a3) (fun σ hσ => ?_)
    obtain ⟨hL2, t0, eo⟩ := lm_r hW hI2 hb2 hz2 hσ
    refine r_istore C1 dL_law_974 (by decide) rfl ?_
    refine r_aload_n C1 dL_law_976 rfl ?_
    refine r_runI (fun aH aL aj a1 a2 a3 => run_V C1 hfl (kX5_thrown (μ := σ) hM) lm_X5_thrown ml_L_82 im_X5_thrown se_X5_thrown hM.2.1 rfl (Nat.le_of_ble_eq_true rfl) dL_law_977 rfl (Nat.le_of_ble_eq_true rfl) a1 a2 a3) ?_
    rw [t0]
    refine r_iload C1 dL_law_980 rfl ?_
    refine r_icmp_eq (tgt := 987) C1 dL_law_982 (by decide) (by decide) (by decide) (fun _ => ?_) (fun c => absurd rfl c)
    refine r_iload C1 dL_law_987 rfl ?_
    refine r_if_ne (tgt := 1004) C1 dL_law_989 (by decide) (by decide) (fun _ => ?_) (fun c => absurd c (by decide))
    refine r_goto (tgt := 1392) C1 dL_law_1004 (by decide) ?_
    refine r_fgt (ls' := [vR b, vR q, vR m, vR o, vI i, vU, vU, vU, vU]) rfl (fun j a h1 h2 => ?_) (kk σ (K) (by omega) hL2)
    exact fg_9 h1 h2
set_option maxRecDepth 20000 in
set_option maxHeartbeats 2000000 in
theorem kL_bin {X : Cx} {b L q m o : Nat} {B : Int → Int} {μ : Mem} {K i : Int} (C : Ok X RL cL_law 9 10) (hW : LW X b L q m o) (R1 : xk X + 1 ≤ (xR X).cells) (R2 : xn X + 6 ≤ (xR X).slots) (hK : K + 1300 ≤ 1000000) (hL : LI (xV X) q m b B K μ) (hi0 : 0 ≤ i) (hi3 : i + 3 ≤ (L : Int)) (hLL : L ≤ 1536) (hB : ∀ j, inR (B j))
    (kk : ∀ (ν : Mem) (K' : Int), K' ≤ K + 1300 → LI (xV X) q m b B K' ν → RR (X1 X) ν 1392 [vR b, vR q, vR m, vR o, vI i, vU, vU, vU, vU] []) : RR X μ 1007 [vR b, vR q, vR m, vR o, vI i, vU, vU, vU, vU] [] := by
  obtain ⟨⟨hM, So, Bo, S4, Sb⟩, hord, hfl, hE⟩ := id hW
  obtain ⟨w, tx, sv, kp, ln, hI, hm, hb, hz⟩ := hL
  have hsv : 0 ≤ sv ∧ sv ≤ 6 := hI.2.2.2.1.1
  have hkp := hI.2.2.1.1
  have hln : 0 ≤ ln ∧ ln ≤ 60 := hI.2.2.2.2.1.2.1
  have hvw := hI.2.1.1
  have hx := hB (i + 1)
  have hy := hB (i + 2)
  have hK20 : K + 20 ≤ 1000000 := by omega
  have C1 : Ok (X1 X) RL cL_law 9 10 := ok_1 C R1 R2
  refine r_aload_n C dL_law_1007 rfl ?_
  refine r_aload_n C dL_law_1008 rfl ?_
  refine r_iload C dL_law_1009 rfl ?_
  refine r_iconst C dL_law_1011 ?_
  refine r_iadd C dL_law_1012 ?_
  refine r_iald C Sb (by omega) (by omega) dL_law_1013 ?_
  rw [hb]
  refine r_aload_n C dL_law_1014 rfl ?_
  refine r_iload C dL_law_1015 rfl ?_
  refine r_iconst C dL_law_1017 ?_
  refine r_iadd C dL_law_1018 ?_
  refine r_iald C Sb (by omega) (by omega) dL_law_1019 ?_
  rw [hb]
  refine r_aload_n C dL_law_1020 rfl ?_
  by_cases h : 0 ≤ B (i + 1) ∧ B (i + 1) < 16
  · by_cases h2 : 0 ≤ B (i + 2) ∧ B (i + 2) ≤ 4
    · refine r_runI1 (fun aH aL aj a1 a2 a3 => run_LW C hfl hE (hL_bin_0 (kX4_bin_0 hI hx hy h h2) (by decide) S4 So Bo) lk_bin ml_L_138 sm_L_bin dL_law_1021 rfl (Nat.le_of_ble_eq_true rfl) R1 R2 a1 a2 a3) (fun ν hν => ?_)
      obtain ⟨ρ, ⟨hI1, hf⟩, hν⟩ := hν
      have eo1 := congrArg (fun f : Mem => f o 0) hν
      simp only [wr_s, s1_s] at eo1
      obtain ⟨hI2, ⟨n1, n2, n3, n4, n5⟩, hb2, hz2⟩ := lm_v hν hW hI1 (lm_x hW hf hm hb hz)
      have hv : veW K (ν (m + 1)) := by rw [n1]; exact hvw
      have s1 : 0 ≤ ν m 2 := by rw [n3]; exact hsv.1
      have s2 : ν m 2 ≤ 6 := by rw [n3]; exact hsv.2
      have k5 := kX5_bin_0 hM hv hx hy h h2
      simp only [n1, n2, n3, n4, n5] at k5
      refine r_istore C1 dL_law_1024 (by decide) rfl ?_
      refine r_aload_n C1 dL_law_1026 rfl ?_
      refine r_aload_n C1 dL_law_1027 rfl ?_
      refine r_iload C1 dL_law_1028 rfl ?_
      refine r_iconst C1 dL_law_1030 ?_
      refine r_iadd C1 dL_law_1031 ?_
      refine r_iald C1 Sb (by omega) (by omega) dL_law_1032 ?_
      rw [hb2]
      refine r_aload_n C1 dL_law_1033 rfl ?_
      refine r_iload C1 dL_law_1034 rfl ?_
      refine r_iconst C1 dL_law_1036 ?_
      refine r_iadd C1 dL_law_1037 ?_
      refine r_iald C1 Sb (by omega) (by omega) dL_law_1038 ?_
      rw [hb2]
      refine r_runIr (fun aH aL aj a1 a2 a3 => run_V C1 hfl k5 lm_X5_bin ml_L_140 im_X5_bin se_X5_bin hM.2.1 rfl (Nat.le_of_ble_eq_true rfl) dL_law_1039 rfl (Nat.le_of_ble_eq_true rfl) a1 a2 a3) (fun σ hσ => ?_)
      obtain ⟨hL2, t0, eo⟩ := lm_r hW hI2 hb2 hz2 hσ
      refine r_istore C1 dL_law_1042 (by decide) rfl ?_
      refine r_aload_n C1 dL_law_1044 rfl ?_
      refine r_runI (fun aH aL aj a1 a2 a3 => run_V C1 hfl (kX5_thrown (μ := σ) hM) lm_X5_thrown ml_L_82 im_X5_thrown se_X5_thrown hM.2.1 rfl (Nat.le_of_ble_eq_true rfl) dL_law_1045 rfl (Nat.le_of_ble_eq_true rfl) a1 a2 a3) ?_
      rw [t0]
      refine r_iload C1 dL_law_1048 rfl ?_
      refine r_icmp_eq (tgt := 1055) C1 dL_law_1050 (by decide) (by decide) (by decide) (fun _ => ?_) (fun c => absurd rfl c)
      refine r_iload C1 dL_law_1055 rfl ?_
      refine r_if_ne (tgt := 1072) C1 dL_law_1057 (by decide) (by decide) (fun c => absurd rfl c) (fun _ => ?_)
      refine r_aload_n C1 dL_law_1060 rfl ?_
      refine r_iconst C1 dL_law_1061 ?_
      refine r_lald C1 So (by decide) (by decide) dL_law_1062 ?_
      refine r_iload C1 dL_law_1063 rfl ?_
      refine r_i2l0 C1 dL_law_1065 ?_
      refine r_lcmp0 C1 dL_law_1066 (by rw [eo, eo1]) ?_
      refine r_if_eq (tgt := 1072) C1 dL_law_1067 (by decide) (by decide) (fun _ => ?_) (fun c => absurd rfl c)
      refine r_goto (tgt := 1392) C1 dL_law_1072 (by decide) ?_
      refine r_fgt (ls' := [vR b, vR q, vR m, vR o, vI i, vU, vU, vU, vU]) rfl (fun j a h1 h2 => ?_) (kk σ (K) (by omega) hL2)
      exact fg_9 h1 h2
    · refine r_runI1 (fun aH aL aj a1 a2 a3 => run_LW C hfl hE (hL_bin_2 (kX4_bin_2 hI hx hy h h2) S4) lk_bin ml_L_138 sm_L_bin dL_law_1021 rfl (Nat.le_of_ble_eq_true rfl) R1 R2 a1 a2 a3) (fun ν hν => ?_)
      obtain ⟨hI2, hf⟩ := hν
      obtain ⟨⟨n1, n2, n3, n4, n5⟩, hb2, hz2⟩ := lm_x hW hf hm hb hz
      have hv : veW K (ν (m + 1)) := by rw [n1]; exact hvw
      have s1 : 0 ≤ ν m 2 := by rw [n3]; exact hsv.1
      have s2 : ν m 2 ≤ 6 := by rw [n3]; exact hsv.2
      have k5 := kX5_bin_2 hM hv hx hy h h2
      simp only [n1, n2, n3, n4, n5] at k5
      refine r_istore C1 dL_law_1024 (by decide) rfl ?_
      refine r_aload_n C1 dL_law_1026 rfl ?_
      refine r_aload_n C1 dL_law_1027 rfl ?_
      refine r_iload C1 dL_law_1028 rfl ?_
      refine r_iconst C1 dL_law_1030 ?_
      refine r_iadd C1 dL_law_1031 ?_
      refine r_iald C1 Sb (by omega) (by omega) dL_law_1032 ?_
      rw [hb2]
      refine r_aload_n C1 dL_law_1033 rfl ?_
      refine r_iload C1 dL_law_1034 rfl ?_
      refine r_iconst C1 dL_law_1036 ?_
      refine r_iadd C1 dL_law_1037 ?_
      refine r_iald C1 Sb (by omega) (by omega) dL_law_1038 ?_
      rw [hb2]
      refine r_runIr (fun aH aL aj a1 a2 a3 => run_V C1 hfl k5 lm_X5_bin ml_L_140 im_X5_bin se_X5_bin hM.2.1 rfl (Nat.le_of_ble_eq_true rfl) dL_law_1039 rfl (Nat.le_of_ble_eq_true rfl) a1 a2 a3) (fun σ hσ => ?_)
      obtain ⟨hL2, t0, eo⟩ := lm_r hW hI2 hb2 hz2 hσ
      refine r_istore C1 dL_law_1042 (by decide) rfl ?_
      refine r_aload_n C1 dL_law_1044 rfl ?_
      refine r_runI (fun aH aL aj a1 a2 a3 => run_V C1 hfl (kX5_thrown (μ := σ) hM) lm_X5_thrown ml_L_82 im_X5_thrown se_X5_thrown hM.2.1 rfl (Nat.le_of_ble_eq_true rfl) dL_law_1045 rfl (Nat.le_of_ble_eq_true rfl) a1 a2 a3) ?_
      rw [t0]
      refine r_iload C1 dL_law_1048 rfl ?_
      refine r_icmp_eq (tgt := 1055) C1 dL_law_1050 (by decide) (by decide) (by decide) (fun _ => ?_) (fun c => absurd rfl c)
      refine r_iload C1 dL_law_1055 rfl ?_
      refine r_if_ne (tgt := 1072) C1 dL_law_1057 (by decide) (by decide) (fun _ => ?_) (fun c => absurd c (by decide))
      refine r_goto (tgt := 1392) C1 dL_law_1072 (by decide) ?_
      refine r_fgt (ls' := [vR b, vR q, vR m, vR o, vI i, vU, vU, vU, vU]) rfl (fun j a h1 h2 => ?_) (kk σ (K) (by omega) hL2)
      exact fg_9 h1 h2
  · refine r_runI1 (fun aH aL aj a1 a2 a3 => run_LW C hfl hE (hL_bin_1 (kX4_bin_1 hI hx hy h) S4) lk_bin ml_L_138 sm_L_bin dL_law_1021 rfl (Nat.le_of_ble_eq_true rfl) R1 R2 a1 a2 a3) (fun ν hν => ?_)
    obtain ⟨hI2, hf⟩ := hν
    obtain ⟨⟨n1, n2, n3, n4, n5⟩, hb2, hz2⟩ := lm_x hW hf hm hb hz
    have hv : veW K (ν (m + 1)) := by rw [n1]; exact hvw
    have s1 : 0 ≤ ν m 2 := by rw [n3]; exact hsv.1
    have s2 : ν m 2 ≤ 6 := by rw [n3]; exact hsv.2
    have k5 := kX5_bin_1 hM hv hx hy h
    simp only [n1, n2, n3, n4, n5] at k5
    refine r_istore C1 dL_law_1024 (by decide) rfl ?_
    refine r_aload_n C1 dL_law_1026 rfl ?_
    refine r_aload_n C1 dL_law_1027 rfl ?_
    refine r_iload C1 dL_law_1028 rfl ?_
    refine r_iconst C1 dL_law_1030 ?_
    refine r_iadd C1 dL_law_1031 ?_
    refine r_iald C1 Sb (by omega) (by omega) dL_law_1032 ?_
    rw [hb2]
    refine r_aload_n C1 dL_law_1033 rfl ?_
    refine r_iload C1 dL_law_1034 rfl ?_
    refine r_iconst C1 dL_law_1036 ?_
    refine r_iadd C1 dL_law_1037 ?_
    refine r_iald C1 Sb (by omega) (by omega) dL_law_1038 ?_
    rw [hb2]
    refine r_runIr (fun aH aL aj a1 a2 a3 => run_V C1 hfl k5 lm_X5_bin ml_L_140 im_X5_bin se_X5_bin hM.2.1 rfl (Nat.le_of_ble_eq_true rfl) dL_law_1039 rfl (Nat.le_of_ble_eq_true rfl) a1 a2 a3) (fun σ hσ => ?_)
    obtain ⟨hL2, t0, eo⟩ := lm_r hW hI2 hb2 hz2 hσ
    refine r_istore C1 dL_law_1042 (by decide) rfl ?_
    refine r_aload_n C1 dL_law_1044 rfl ?_
    refine r_runI (fun aH aL aj a1 a2 a3 => run_V C1 hfl (kX5_thrown (μ := σ) hM) lm_X5_thrown ml_L_82 im_X5_thrown se_X5_thrown hM.2.1 rfl (Nat.le_of_ble_eq_true rfl) dL_law_1045 rfl (Nat.le_of_ble_eq_true rfl) a1 a2 a3) ?_
    rw [t0]
    refine r_iload C1 dL_law_1048 rfl ?_
    refine r_icmp_eq (tgt := 1055) C1 dL_law_1050 (by decide) (by decide) (by decide) (fun _ => ?_) (fun c => absurd rfl c)
    refine r_iload C1 dL_law_1055 rfl ?_
    refine r_if_ne (tgt := 1072) C1 dL_law_1057 (by decide) (by decide) (fun _ => ?_) (fun c => absurd c (by decide))
    refine r_goto (tgt := 1392) C1 dL_law_1072 (by decide) ?_
    refine r_fgt (ls' := [vR b, vR q, vR m, vR o, vI i, vU, vU, vU, vU]) rfl (fun j a h1 h2 => ?_) (kk σ (K) (by omega) hL2)
    exact fg_9 h1 h2
set_option maxRecDepth 20000 in
set_option maxHeartbeats 2000000 in
theorem kL_count {X : Cx} {b L q m o : Nat} {B : Int → Int} {μ : Mem} {K i : Int} (C : Ok X RL cL_law 9 10) (hW : LW X b L q m o) (R1 : xk X + 1 ≤ (xR X).cells) (R2 : xn X + 6 ≤ (xR X).slots) (hK : K + 1300 ≤ 1000000) (hL : LI (xV X) q m b B K μ) (hi0 : 0 ≤ i) (hi3 : i + 3 ≤ (L : Int)) (hLL : L ≤ 1536) (hB : ∀ j, inR (B j))
    (kk : ∀ (ν : Mem) (K' : Int), K' ≤ K + 1300 → LI (xV X) q m b B K' ν → RR (X1 X) ν 1392 [vR b, vR q, vR m, vR o, vI i, vU, vU, vU, vU] []) : RR X μ 1075 [vR b, vR q, vR m, vR o, vI i, vU, vU, vU, vU] [] := by
  obtain ⟨⟨hM, So, Bo, S4, Sb⟩, hord, hfl, hE⟩ := id hW
  obtain ⟨w, tx, sv, kp, ln, hI, hm, hb, hz⟩ := hL
  have hsv : 0 ≤ sv ∧ sv ≤ 6 := hI.2.2.2.1.1
  have hkp := hI.2.2.1.1
  have hln : 0 ≤ ln ∧ ln ≤ 60 := hI.2.2.2.2.1.2.1
  have hvw := hI.2.1.1
  have hx := hB (i + 1)
  have hy := hB (i + 2)
  have hK20 : K + 20 ≤ 1000000 := by omega
  have C1 : Ok (X1 X) RL cL_law 9 10 := ok_1 C R1 R2
  refine r_aload_n C dL_law_1075 rfl ?_
  refine r_aload_n C dL_law_1076 rfl ?_
  refine r_iload C dL_law_1077 rfl ?_
  refine r_iconst C dL_law_1079 ?_
  refine r_iadd C dL_law_1080 ?_
  refine r_iald C Sb (by omega) (by omega) dL_law_1081 ?_
  rw [hb]
  refine r_aload_n C dL_law_1082 rfl ?_
  by_cases h : 0 ≤ B (i + 1) ∧ B (i + 1) ≤ 15
  · refine r_runI1 (fun aH aL aj a1 a2 a3 => run_LW C hfl hE (hL_count_0 (kX4_count_0 hI hx h) (by decide) S4 So Bo) lk_count ml_L_141 sm_L_count dL_law_1083 rfl (Nat.le_of_ble_eq_true rfl) R1 R2 a1 a2 a3) (fun ν hν => ?_)
    obtain ⟨ρ, ⟨hI1, hf⟩, hν⟩ := hν
    have eo1 := congrArg (fun f : Mem => f o 0) hν
    simp only [wr_s, s1_s] at eo1
    obtain ⟨hI2, ⟨n1, n2, n3, n4, n5⟩, hb2, hz2⟩ := lm_v hν hW hI1 (lm_x hW hf hm hb hz)
    have hv : veW K (ν (m + 1)) := by rw [n1]; exact hvw
    have s1 : 0 ≤ ν m 2 := by rw [n3]; exact hsv.1
    have s2 : ν m 2 ≤ 6 := by rw [n3]; exact hsv.2
    have k5 := kX5_count_0 hM hv hx h
    simp only [n1, n2, n3, n4, n5] at k5
    refine r_istore C1 dL_law_1086 (by decide) rfl ?_
    refine r_aload_n C1 dL_law_1088 rfl ?_
    refine r_aload_n C1 dL_law_1089 rfl ?_
    refine r_iload C1 dL_law_1090 rfl ?_
    refine r_iconst C1 dL_law_1092 ?_
    refine r_iadd C1 dL_law_1093 ?_
    refine r_iald C1 Sb (by omega) (by omega) dL_law_1094 ?_
    rw [hb2]
    refine r_runIr (fun aH aL aj a1 a2 a3 => run_V C1 hfl k5 lm_X5_count ml_L_143 im_X5_count se_X5_count hM.2.1 rfl (Nat.le_of_ble_eq_true rfl) dL_law_1095 rfl (Nat.le_of_ble_eq_true rfl) a1 a2 a3) (fun σ hσ => ?_)
    obtain ⟨hL2, t0, eo⟩ := lm_r hW hI2 hb2 hz2 hσ
    refine r_istore C1 dL_law_1098 (by decide) rfl ?_
    refine r_aload_n C1 dL_law_1100 rfl ?_
    refine r_runI (fun aH aL aj a1 a2 a3 => run_V C1 hfl (kX5_thrown (μ := σ) hM) lm_X5_thrown ml_L_82 im_X5_thrown se_X5_thrown hM.2.1 rfl (Nat.le_of_ble_eq_true rfl) dL_law_1101 rfl (Nat.le_of_ble_eq_true rfl) a1 a2 a3) ?_
    rw [t0]
    refine r_iload C1 dL_law_1104 rfl ?_
    refine r_icmp_eq (tgt := 1111) C1 dL_law_1106 (by decide) (by decide) (by decide) (fun _ => ?_) (fun c => absurd rfl c)
    refine r_iload C1 dL_law_1111 rfl ?_
    refine r_if_ne (tgt := 1128) C1 dL_law_1113 (by decide) (by decide) (fun c => absurd rfl c) (fun _ => ?_)
    refine r_aload_n C1 dL_law_1116 rfl ?_
    refine r_iconst C1 dL_law_1117 ?_
    refine r_lald C1 So (by decide) (by decide) dL_law_1118 ?_
    refine r_iload C1 dL_law_1119 rfl ?_
    refine r_i2l0 C1 dL_law_1121 ?_
    refine r_lcmp0 C1 dL_law_1122 (by rw [eo, eo1]) ?_
    refine r_if_eq (tgt := 1128) C1 dL_law_1123 (by decide) (by decide) (fun _ => ?_) (fun c => absurd rfl c)
    refine r_goto (tgt := 1392) C1 dL_law_1128 (by decide) ?_
    refine r_fgt (ls' := [vR b, vR q, vR m, vR o, vI i, vU, vU, vU, vU]) rfl (fun j a h1 h2 => ?_) (kk σ (K) (by omega) hL2)
    exact fg_9 h1 h2
  · refine r_runI1 (fun aH aL aj a1 a2 a3 => run_LW C hfl hE (hL_count_1 (kX4_count_1 hI hx h) S4) lk_count ml_L_141 sm_L_count dL_law_1083 rfl (Nat.le_of_ble_eq_true rfl) R1 R2 a1 a2 a3) (fun ν hν => ?_)
    obtain ⟨hI2, hf⟩ := hν
    obtain ⟨⟨n1, n2, n3, n4, n5⟩, hb2, hz2⟩ := lm_x hW hf hm hb hz
    have hv : veW K (ν (m + 1)) := by rw [n1]; exact hvw
    have s1 : 0 ≤ ν m 2 := by rw [n3]; exact hsv.1
    have s2 : ν m 2 ≤ 6 := by rw [n3]; exact hsv.2
    have k5 := kX5_count_1 hM hv hx h
    simp only [n1, n2, n3, n4, n5] at k5
    refine r_istore C1 dL_law_1086 (by decide) rfl ?_
    refine r_aload_n C1 dL_law_1088 rfl ?_
    refine r_aload_n C1 dL_law_1089 rfl ?_
    refine r_iload C1 dL_law_1090 rfl ?_
    refine r_iconst C1 dL_law_1092 ?_
    refine r_iadd C1 dL_law_1093 ?_
    refine r_iald C1 Sb (by omega) (by omega) dL_law_1094 ?_
    rw [hb2]
    refine r_runIr (fun aH aL aj a1 a2 a3 => run_V C1 hfl k5 lm_X5_count ml_L_143 im_X5_count se_X5_count hM.2.1 rfl (Nat.le_of_ble_eq_true rfl) dL_law_1095 rfl (Nat.le_of_ble_eq_true rfl) a1 a2 a3) (fun σ hσ => ?_)
    obtain ⟨hL2, t0, eo⟩ := lm_r hW hI2 hb2 hz2 hσ
    refine r_istore C1 dL_law_1098 (by decide) rfl ?_
    refine r_aload_n C1 dL_law_1100 rfl ?_
    refine r_runI (fun aH aL aj a1 a2 a3 => run_V C1 hfl (kX5_thrown (μ := σ) hM) lm_X5_thrown ml_L_82 im_X5_thrown se_X5_thrown hM.2.1 rfl (Nat.le_of_ble_eq_true rfl) dL_law_1101 rfl (Nat.le_of_ble_eq_true rfl) a1 a2 a3) ?_
    rw [t0]
    refine r_iload C1 dL_law_1104 rfl ?_
    refine r_icmp_eq (tgt := 1111) C1 dL_law_1106 (by decide) (by decide) (by decide) (fun _ => ?_) (fun c => absurd rfl c)
    refine r_iload C1 dL_law_1111 rfl ?_
    refine r_if_ne (tgt := 1128) C1 dL_law_1113 (by decide) (by decide) (fun _ => ?_) (fun c => absurd c (by decide))
    refine r_goto (tgt := 1392) C1 dL_law_1128 (by decide) ?_
    refine r_fgt (ls' := [vR b, vR q, vR m, vR o, vI i, vU, vU, vU, vU]) rfl (fun j a h1 h2 => ?_) (kk σ (K) (by omega) hL2)
    exact fg_9 h1 h2
set_option maxRecDepth 20000 in
set_option maxHeartbeats 2000000 in
theorem kL_setting {X : Cx} {b L q m o : Nat} {B : Int → Int} {μ : Mem} {K i : Int} (C : Ok X RL cL_law 9 10) (hW : LW X b L q m o) (R1 : xk X + 1 ≤ (xR X).cells) (R2 : xn X + 6 ≤ (xR X).slots) (hK : K + 1300 ≤ 1000000) (hL : LI (xV X) q m b B K μ) (hi0 : 0 ≤ i) (hi3 : i + 3 ≤ (L : Int)) (hLL : L ≤ 1536) (hB : ∀ j, inR (B j))
    (kk : ∀ (ν : Mem) (K' : Int), K' ≤ K + 1300 → LI (xV X) q m b B K' ν → RR (X1 X) ν 1392 [vR b, vR q, vR m, vR o, vI i, vU, vU, vU, vU] []) : RR X μ 1131 [vR b, vR q, vR m, vR o, vI i, vU, vU, vU, vU] [] := by
  obtain ⟨⟨hM, So, Bo, S4, Sb⟩, hord, hfl, hE⟩ := id hW
  obtain ⟨w, tx, sv, kp, ln, hI, hm, hb, hz⟩ := hL
  have hsv : 0 ≤ sv ∧ sv ≤ 6 := hI.2.2.2.1.1
  have hkp := hI.2.2.1.1
  have hln : 0 ≤ ln ∧ ln ≤ 60 := hI.2.2.2.2.1.2.1
  have hvw := hI.2.1.1
  have hx := hB (i + 1)
  have hy := hB (i + 2)
  have hK20 : K + 20 ≤ 1000000 := by omega
  have C1 : Ok (X1 X) RL cL_law 9 10 := ok_1 C R1 R2
  refine r_aload_n C dL_law_1131 rfl ?_
  refine r_aload_n C dL_law_1132 rfl ?_
  refine r_iload C dL_law_1133 rfl ?_
  refine r_iconst C dL_law_1135 ?_
  refine r_iadd C dL_law_1136 ?_
  refine r_iald C Sb (by omega) (by omega) dL_law_1137 ?_
  rw [hb]
  refine r_aload_n C dL_law_1138 rfl ?_
  by_cases h : 0 ≤ B (i + 1) ∧ B (i + 1) < 3
  · refine r_runI1 (fun aH aL aj a1 a2 a3 => run_LW C hfl hE (hL_setting_0 (kX4_setting_0 hI hx h) (by decide) S4 So Bo) lk_setting ml_L_144 sm_L_setting dL_law_1139 rfl (Nat.le_of_ble_eq_true rfl) R1 R2 a1 a2 a3) (fun ν hν => ?_)
    obtain ⟨ρ, ⟨hI1, hf⟩, hν⟩ := hν
    have eo1 := congrArg (fun f : Mem => f o 0) hν
    simp only [wr_s, s1_s] at eo1
    obtain ⟨hI2, ⟨n1, n2, n3, n4, n5⟩, hb2, hz2⟩ := lm_v hν hW hI1 (lm_x hW hf hm hb hz)
    have hv : veW K (ν (m + 1)) := by rw [n1]; exact hvw
    have s1 : 0 ≤ ν m 2 := by rw [n3]; exact hsv.1
    have s2 : ν m 2 ≤ 6 := by rw [n3]; exact hsv.2
    have k5 := kX5_setting_0 hM hv hx h
    simp only [n1, n2, n3, n4, n5] at k5
    refine r_istore C1 dL_law_1142 (by decide) rfl ?_
    refine r_aload_n C1 dL_law_1144 rfl ?_
    refine r_aload_n C1 dL_law_1145 rfl ?_
    refine r_iload C1 dL_law_1146 rfl ?_
    refine r_iconst C1 dL_law_1148 ?_
    refine r_iadd C1 dL_law_1149 ?_
    refine r_iald C1 Sb (by omega) (by omega) dL_law_1150 ?_
    rw [hb2]
    refine r_runIr (fun aH aL aj a1 a2 a3 => run_V C1 hfl k5 lm_X5_setting ml_L_146 im_X5_setting se_X5_setting hM.2.1 rfl (Nat.le_of_ble_eq_true rfl) dL_law_1151 rfl (Nat.le_of_ble_eq_true rfl) a1 a2 a3) (fun σ hσ => ?_)
    obtain ⟨hL2, t0, eo⟩ := lm_r hW hI2 hb2 hz2 hσ
    refine r_istore C1 dL_law_1154 (by decide) rfl ?_
    refine r_aload_n C1 dL_law_1156 rfl ?_
    refine r_runI (fun aH aL aj a1 a2 a3 => run_V C1 hfl (kX5_thrown (μ := σ) hM) lm_X5_thrown ml_L_82 im_X5_thrown se_X5_thrown hM.2.1 rfl (Nat.le_of_ble_eq_true rfl) dL_law_1157 rfl (Nat.le_of_ble_eq_true rfl) a1 a2 a3) ?_
    rw [t0]
    refine r_iload C1 dL_law_1160 rfl ?_
    refine r_icmp_eq (tgt := 1167) C1 dL_law_1162 (by decide) (by decide) (by decide) (fun _ => ?_) (fun c => absurd rfl c)
    refine r_iload C1 dL_law_1167 rfl ?_
    refine r_if_ne (tgt := 1184) C1 dL_law_1169 (by decide) (by decide) (fun c => absurd rfl c) (fun _ => ?_)
    refine r_aload_n C1 dL_law_1172 rfl ?_
    refine r_iconst C1 dL_law_1173 ?_
    refine r_lald C1 So (by decide) (by decide) dL_law_1174 ?_
    refine r_iload C1 dL_law_1175 rfl ?_
    refine r_i2l0 C1 dL_law_1177 ?_
    refine r_lcmp0 C1 dL_law_1178 (by rw [eo, eo1]) ?_
    refine r_if_eq (tgt := 1184) C1 dL_law_1179 (by decide) (by decide) (fun _ => ?_) (fun c => absurd rfl c)
    refine r_goto (tgt := 1392) C1 dL_law_1184 (by decide) ?_
    refine r_fgt (ls' := [vR b, vR q, vR m, vR o, vI i, vU, vU, vU, vU]) rfl (fun j a h1 h2 => ?_) (kk σ (K) (by omega) hL2)
    exact fg_9 h1 h2
  · refine r_runI1 (fun aH aL aj a1 a2 a3 => run_LW C hfl hE (hL_setting_1 (kX4_setting_1 hI hx h) S4) lk_setting ml_L_144 sm_L_setting dL_law_1139 rfl (Nat.le_of_ble_eq_true rfl) R1 R2 a1 a2 a3) (fun ν hν => ?_)
    obtain ⟨hI2, hf⟩ := hν
    obtain ⟨⟨n1, n2, n3, n4, n5⟩, hb2, hz2⟩ := lm_x hW hf hm hb hz
    have hv : veW K (ν (m + 1)) := by rw [n1]; exact hvw
    have s1 : 0 ≤ ν m 2 := by rw [n3]; exact hsv.1
    have s2 : ν m 2 ≤ 6 := by rw [n3]; exact hsv.2
    have k5 := kX5_setting_1 hM hv hx h
    simp only [n1, n2, n3, n4, n5] at k5
    refine r_istore C1 dL_law_1142 (by decide) rfl ?_
    refine r_aload_n C1 dL_law_1144 rfl ?_
    refine r_aload_n C1 dL_law_1145 rfl ?_
    refine r_iload C1 dL_law_1146 rfl ?_
    refine r_iconst C1 dL_law_1148 ?_
    refine r_iadd C1 dL_law_1149 ?_
    refine r_iald C1 Sb (by omega) (by omega) dL_law_1150 ?_
    rw [hb2]
    refine r_runIr (fun aH aL aj a1 a2 a3 => run_V C1 hfl k5 lm_X5_setting ml_L_146 im_X5_setting se_X5_setting hM.2.1 rfl (Nat.le_of_ble_eq_true rfl) dL_law_1151 rfl (Nat.le_of_ble_eq_true rfl) a1 a2 a3) (fun σ hσ => ?_)
    obtain ⟨hL2, t0, eo⟩ := lm_r hW hI2 hb2 hz2 hσ
    refine r_istore C1 dL_law_1154 (by decide) rfl ?_
    refine r_aload_n C1 dL_law_1156 rfl ?_
    refine r_runI (fun aH aL aj a1 a2 a3 => run_V C1 hfl (kX5_thrown (μ := σ) hM) lm_X5_thrown ml_L_82 im_X5_thrown se_X5_thrown hM.2.1 rfl (Nat.le_of_ble_eq_true rfl) dL_law_1157 rfl (Nat.le_of_ble_eq_true rfl) a1 a2 a3) ?_
    rw [t0]
    refine r_iload C1 dL_law_1160 rfl ?_
    refine r_icmp_eq (tgt := 1167) C1 dL_law_1162 (by decide) (by decide) (by decide) (fun _ => ?_) (fun c => absurd rfl c)
    refine r_iload C1 dL_law_1167 rfl ?_
    refine r_if_ne (tgt := 1184) C1 dL_law_1169 (by decide) (by decide) (fun _ => ?_) (fun c => absurd c (by decide))
    refine r_goto (tgt := 1392) C1 dL_law_1184 (by decide) ?_
    refine r_fgt (ls' := [vR b, vR q, vR m, vR o, vI i, vU, vU, vU, vU]) rfl (fun j a h1 h2 => ?_) (kk σ (K) (by omega) hL2)
    exact fg_9 h1 h2
set_option maxRecDepth 20000 in
set_option maxHeartbeats 2000000 in
theorem kL_ifPulled {X : Cx} {b L q m o : Nat} {B : Int → Int} {μ : Mem} {K i : Int} (C : Ok X RL cL_law 9 10) (hW : LW X b L q m o) (R1 : xk X + 1 ≤ (xR X).cells) (R2 : xn X + 6 ≤ (xR X).slots) (hK : K + 1300 ≤ 1000000) (hL : LI (xV X) q m b B K μ) (hi0 : 0 ≤ i) (hi3 : i + 3 ≤ (L : Int)) (hLL : L ≤ 1536) (hB : ∀ j, inR (B j))
    (kk : ∀ (ν : Mem) (K' : Int), K' ≤ K + 1300 → LI (xV X) q m b B K' ν → RR (X1 X) ν 1392 [vR b, vR q, vR m, vR o, vI i, vU, vU, vU, vU] []) : RR X μ 1200 [vR b, vR q, vR m, vR o, vI i, vU, vU, vU, vU] [] := by
  obtain ⟨⟨hM, So, Bo, S4, Sb⟩, hord, hfl, hE⟩ := id hW
  obtain ⟨w, tx, sv, kp, ln, hI, hm, hb, hz⟩ := hL
  have hsv : 0 ≤ sv ∧ sv ≤ 6 := hI.2.2.2.1.1
  have hkp := hI.2.2.1.1
  have hln : 0 ≤ ln ∧ ln ≤ 60 := hI.2.2.2.2.1.2.1
  have hvw := hI.2.1.1
  have hx := hB (i + 1)
  have hy := hB (i + 2)
  have hK20 : K + 20 ≤ 1000000 := by omega
  have C1 : Ok (X1 X) RL cL_law 9 10 := ok_1 C R1 R2
  refine r_aload_n C dL_law_1200 rfl ?_
  refine r_aload_n C dL_law_1201 rfl ?_
  refine r_iload C dL_law_1202 rfl ?_
  refine r_iconst C dL_law_1204 ?_
  refine r_iadd C dL_law_1205 ?_
  refine r_iald C Sb (by omega) (by omega) dL_law_1206 ?_
  rw [hb]
  refine r_aload_n C dL_law_1207 rfl ?_
  refine r_iload C dL_law_1208 rfl ?_
  refine r_iconst C dL_law_1210 ?_
  refine r_iadd C dL_law_1211 ?_
  refine r_iald C Sb (by omega) (by omega) dL_law_1212 ?_
  rw [hb]
  refine r_aload_n C dL_law_1213 rfl ?_
  by_cases h : 0 ≤ B (i + 1) ∧ B (i + 1) < w 3
  · by_cases h2 : 0 ≤ B (i + 2) ∧ B (i + 2) ≤ 3
    · refine r_runI1 (fun aH aL aj a1 a2 a3 => run_LW C hfl hE (hL_ifPulled_0 (kX4_ifPulled_0 hI hx hy h h2) (by decide) S4 So Bo) lk_ifPulled ml_L_151 sm_L_ifPulled dL_law_1214 rfl (Nat.le_of_ble_eq_true rfl) R1 R2 a1 a2 a3) (fun ν hν => ?_)
      obtain ⟨ρ, ⟨hI1, hf⟩, hν⟩ := hν
      have eo1 := congrArg (fun f : Mem => f o 0) hν
      simp only [wr_s, s1_s] at eo1
      obtain ⟨hI2, ⟨n1, n2, n3, n4, n5⟩, hb2, hz2⟩ := lm_v hν hW hI1 (lm_x hW hf hm hb hz)
      have hv : veW K (ν (m + 1)) := by rw [n1]; exact hvw
      have s1 : 0 ≤ ν m 2 := by rw [n3]; exact hsv.1
      have s2 : ν m 2 ≤ 6 := by rw [n3]; exact hsv.2
      have k5 := kX5_ifPulled_0 hM hv hx hy (by rw [n1]; exact h) h2
      simp only [n1, n2, n3, n4, n5] at k5
      refine r_istore C1 dL_law_1217 (by decide) rfl ?_
      refine r_aload_n C1 dL_law_1219 rfl ?_
      refine r_aload_n C1 dL_law_1220 rfl ?_
      refine r_iload C1 dL_law_1221 rfl ?_
      refine r_iconst C1 dL_law_1223 ?_
      refine r_iadd C1 dL_law_1224 ?_
      refine r_iald C1 Sb (by omega) (by omega) dL_law_1225 ?_
      rw [hb2]
      refine r_aload_n C1 dL_law_1226 rfl ?_
      refine r_iload C1 dL_law_1227 rfl ?_
      refine r_iconst C1 dL_law_1229 ?_
      refine r_iadd C1 dL_law_1230 ?_
      refine r_iald C1 Sb (by omega) (by omega) dL_law_1231 ?_
      rw [hb2]
      refine r_runIr (fun aH aL aj a1 a2 a3 => run_V C1 hfl k5 lm_X5_ifPulled ml_L_153 im_X5_ifPulled se_X5_ifPulled hM.2.1 rfl (Nat.le_of_ble_eq_true rfl) dL_law_1232 rfl (Nat.le_of_ble_eq_true rfl) a1 a2 a3) (fun σ hσ => ?_)
      obtain ⟨hL2, t0, eo⟩ := lm_r hW hI2 hb2 hz2 hσ
      refine r_istore C1 dL_law_1235 (by decide) rfl ?_
      refine r_aload_n C1 dL_law_1237 rfl ?_
      refine r_runI (fun aH aL aj a1 a2 a3 => run_V C1 hfl (kX5_thrown (μ := σ) hM) lm_X5_thrown ml_L_82 im_X5_thrown se_X5_thrown hM.2.1 rfl (Nat.le_of_ble_eq_true rfl) dL_law_1238 rfl (Nat.le_of_ble_eq_true rfl) a1 a2 a3) ?_
      rw [t0]
      refine r_iload C1 dL_law_1241 rfl ?_
      refine r_icmp_eq (tgt := 1248) C1 dL_law_1243 (by decide) (by decide) (by decide) (fun _ => ?_) (fun c => absurd rfl c)
      refine r_iload C1 dL_law_1248 rfl ?_
      refine r_if_ne (tgt := 1265) C1 dL_law_1250 (by decide) (by decide) (fun c => absurd rfl c) (fun _ => ?_)
      refine r_aload_n C1 dL_law_1253 rfl ?_
      refine r_iconst C1 dL_law_1254 ?_
      refine r_lald C1 So (by decide) (by decide) dL_law_1255 ?_
      refine r_iload C1 dL_law_1256 rfl ?_
      refine r_i2l0 C1 dL_law_1258 ?_
      refine r_lcmp0 C1 dL_law_1259 (by rw [eo, eo1]) ?_
      refine r_if_eq (tgt := 1265) C1 dL_law_1260 (by decide) (by decide) (fun _ => ?_) (fun c => absurd rfl c)
      refine r_goto (tgt := 1392) C1 dL_law_1265 (by decide) ?_
      refine r_fgt (ls' := [vR b, vR q, vR m, vR o, vI i, vU, vU, vU, vU]) rfl (fun j a h1 h2 => ?_) (kk σ (K) (by omega) hL2)
      exact fg_9 h1 h2
    · refine r_runI1 (fun aH aL aj a1 a2 a3 => run_LW C hfl hE (hL_ifPulled_2 (kX4_ifPulled_2 hI hx hy h h2) S4) lk_ifPulled ml_L_151 sm_L_ifPulled dL_law_1214 rfl (Nat.le_of_ble_eq_true rfl) R1 R2 a1 a2 a3) (fun ν hν => ?_)
      obtain ⟨hI2, hf⟩ := hν
      obtain ⟨⟨n1, n2, n3, n4, n5⟩, hb2, hz2⟩ := lm_x hW hf hm hb hz
      have hv : veW K (ν (m + 1)) := by rw [n1]; exact hvw
      have s1 : 0 ≤ ν m 2 := by rw [n3]; exact hsv.1
      have s2 : ν m 2 ≤ 6 := by rw [n3]; exact hsv.2
      have k5 := kX5_ifPulled_2 hM hv hx hy (by rw [n1]; exact h) h2
      simp only [n1, n2, n3, n4, n5] at k5
      refine r_istore C1 dL_law_1217 (by decide) rfl ?_
      refine r_aload_n C1 dL_law_1219 rfl ?_
      refine r_aload_n C1 dL_law_1220 rfl ?_
      refine r_iload C1 dL_law_1221 rfl ?_
      refine r_iconst C1 dL_law_1223 ?_
      refine r_iadd C1 dL_law_1224 ?_
      refine r_iald C1 Sb (by omega) (by omega) dL_law_1225 ?_
      rw [hb2]
      refine r_aload_n C1 dL_law_1226 rfl ?_
      refine r_iload C1 dL_law_1227 rfl ?_
      refine r_iconst C1 dL_law_1229 ?_
      refine r_iadd C1 dL_law_1230 ?_
      refine r_iald C1 Sb (by omega) (by omega) dL_law_1231 ?_
      rw [hb2]
      refine r_runIr (fun aH aL aj a1 a2 a3 => run_V C1 hfl k5 lm_X5_ifPulled ml_L_153 im_X5_ifPulled se_X5_ifPulled hM.2.1 rfl (Nat.le_of_ble_eq_true rfl) dL_law_1232 rfl (Nat.le_of_ble_eq_true rfl) a1 a2 a3) (fun σ hσ => ?_)
      obtain ⟨hL2, t0, eo⟩ := lm_r hW hI2 hb2 hz2 hσ
      refine r_istore C1 dL_law_1235 (by decide) rfl ?_
      refine r_aload_n C1 dL_law_1237 rfl ?_
      refine r_runI (fun aH aL aj a1 a2 a3 => run_V C1 hfl (kX5_thrown (μ := σ) hM) lm_X5_thrown ml_L_82 im_X5_thrown se_X5_thrown hM.2.1 rfl (Nat.le_of_ble_eq_true rfl) dL_law_1238 rfl (Nat.le_of_ble_eq_true rfl) a1 a2 a3) ?_
      rw [t0]
      refine r_iload C1 dL_law_1241 rfl ?_
      refine r_icmp_eq (tgt := 1248) C1 dL_law_1243 (by decide) (by decide) (by decide) (fun _ => ?_) (fun c => absurd rfl c)
      refine r_iload C1 dL_law_1248 rfl ?_
      refine r_if_ne (tgt := 1265) C1 dL_law_1250 (by decide) (by decide) (fun _ => ?_) (fun c => absurd c (by decide))
      refine r_goto (tgt := 1392) C1 dL_law_1265 (by decide) ?_
      refine r_fgt (ls' := [vR b, vR q, vR m, vR o, vI i, vU, vU, vU, vU]) rfl (fun j a h1 h2 => ?_) (kk σ (K) (by omega) hL2)
      exact fg_9 h1 h2
  · refine r_runI1 (fun aH aL aj a1 a2 a3 => run_LW C hfl hE (hL_ifPulled_1 (kX4_ifPulled_1 hI hx hy h) S4) lk_ifPulled ml_L_151 sm_L_ifPulled dL_law_1214 rfl (Nat.le_of_ble_eq_true rfl) R1 R2 a1 a2 a3) (fun ν hν => ?_)
    obtain ⟨hI2, hf⟩ := hν
    obtain ⟨⟨n1, n2, n3, n4, n5⟩, hb2, hz2⟩ := lm_x hW hf hm hb hz
    have hv : veW K (ν (m + 1)) := by rw [n1]; exact hvw
    have s1 : 0 ≤ ν m 2 := by rw [n3]; exact hsv.1
    have s2 : ν m 2 ≤ 6 := by rw [n3]; exact hsv.2
    have k5 := kX5_ifPulled_1 hM hv hx hy (by rw [n1]; exact h)
    simp only [n1, n2, n3, n4, n5] at k5
    refine r_istore C1 dL_law_1217 (by decide) rfl ?_
    refine r_aload_n C1 dL_law_1219 rfl ?_
    refine r_aload_n C1 dL_law_1220 rfl ?_
    refine r_iload C1 dL_law_1221 rfl ?_
    refine r_iconst C1 dL_law_1223 ?_
    refine r_iadd C1 dL_law_1224 ?_
    refine r_iald C1 Sb (by omega) (by omega) dL_law_1225 ?_
    rw [hb2]
    refine r_aload_n C1 dL_law_1226 rfl ?_
    refine r_iload C1 dL_law_1227 rfl ?_
    refine r_iconst C1 dL_law_1229 ?_
    refine r_iadd C1 dL_law_1230 ?_
    refine r_iald C1 Sb (by omega) (by omega) dL_law_1231 ?_
    rw [hb2]
    refine r_runIr (fun aH aL aj a1 a2 a3 => run_V C1 hfl k5 lm_X5_ifPulled ml_L_153 im_X5_ifPulled se_X5_ifPulled hM.2.1 rfl (Nat.le_of_ble_eq_true rfl) dL_law_1232 rfl (Nat.le_of_ble_eq_true rfl) a1 a2 a3) (fun σ hσ => ?_)
    obtain ⟨hL2, t0, eo⟩ := lm_r hW hI2 hb2 hz2 hσ
    refine r_istore C1 dL_law_1235 (by decide) rfl ?_
    refine r_aload_n C1 dL_law_1237 rfl ?_
    refine r_runI (fun aH aL aj a1 a2 a3 => run_V C1 hfl (kX5_thrown (μ := σ) hM) lm_X5_thrown ml_L_82 im_X5_thrown se_X5_thrown hM.2.1 rfl (Nat.le_of_ble_eq_true rfl) dL_law_1238 rfl (Nat.le_of_ble_eq_true rfl) a1 a2 a3) ?_
    rw [t0]
    refine r_iload C1 dL_law_1241 rfl ?_
    refine r_icmp_eq (tgt := 1248) C1 dL_law_1243 (by decide) (by decide) (by decide) (fun _ => ?_) (fun c => absurd rfl c)
    refine r_iload C1 dL_law_1248 rfl ?_
    refine r_if_ne (tgt := 1265) C1 dL_law_1250 (by decide) (by decide) (fun _ => ?_) (fun c => absurd c (by decide))
    refine r_goto (tgt := 1392) C1 dL_law_1265 (by decide) ?_
    refine r_fgt (ls' := [vR b, vR q, vR m, vR o, vI i, vU, vU, vU, vU]) rfl (fun j a h1 h2 => ?_) (kk σ (K) (by omega) hL2)
    exact fg_9 h1 h2
