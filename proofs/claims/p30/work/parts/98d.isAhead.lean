theorem kA_count0 {V : Wo} {K : Int} {q : Nat} {μ0 μ : Mem} {u z : Int → Int} {sv : Int} {st : List (Int → Int)} (h : CA V K q μ0 u z sv st μ) {a : Int} (ha : 0 ≤ a ∧ a ≤ 14) : Con V 5 yX4_count cX4_count 2 (some .int) [vR q, vI a] μ (QIr V (coT u 0 a) (CA V K q μ0 u z sv st)) :=
  con_mI (kA_count h (by omega)) (coT_sv ha.1 (by omega)) (fun _ g => g)
set_option maxRecDepth 20000 in
set_option maxHeartbeats 2000000 in
theorem kL_isAhead_c {V : Wo} {μ : Mem} {q : Nat} {K : Int} {μ0 : Mem} {u z : Int → Int} {sv p r : Int} (N : CA V K q μ0 u z sv [] μ) (hp : 0 ≤ p ∧ p < u 3) (hr : 0 ≤ r ∧ r < u 3) (hK : K + 140 ≤ 1000000) : Con V 7 yL_isAhead cL_isAhead 20 (some .boolean) [vR q, vI p, vI r] (μ) (QIr V (1) ((fun ν => ∃ s, CA V (K + 140) q μ0 u z s [] ν))) := by
  refine con_of (ls0 := [vR q, vI p, vI r, vU, vU, vU, vU, vU, vU, vU, vU, vU, vU, vU, vU, vU, vU, vU, vU, vU]) (by decide +kernel) rfl (Nat.le_of_ble_eq_true rfl) (Nat.le_of_ble_eq_true rfl) (fun X hV C hF => ?_)
  subst hV
  have C : Ok X RL cL_isAhead 20 7 := C
  have hv := ca_u N
  have h3 := veW_3 hv
  have hsv := ca_s N
  have hE := hd_e (sv := 0) hv
  have hpb := pl_b hv hp.1 hp.2 0
  have hs0 := (hd_s hv hp.1 hp.2).1
  have rn := nmT_r hv
  have rf := fiT_r u
  have w0 := woT_r (w := 0) hv hp.1 hp.2
  have w1 := woT_r (w := 1) hv hp.1 hp.2
  have w2 := woT_r (w := 2) hv hp.1 hp.2
  have w3 := woT_r (w := 3) hv hp.1 hp.2
  have hb4 := hv.2.2.2.2.2.1
  have hb1 := hv.2.2.1
  have hb0 := hv.2.1
  have hcp : ∀ i, 0 ≤ i → i < 16 → 0 ≤ u (6 + i) ∧ u (6 + i) ≤ 1000000 := fun i i0 i1 => by
    have g1 := hv.2.2.2.2.2.2.2.1 i i0 (by omega)
    have g2 := hv.1
    omega
  refine r_aload_n C dL_isAhead_0 rfl ?_
  refine r_runLr (fun aH aL aj a1 a2 a3 => run_S C hF.2.2.1 (kL_looks_c N) lm_L_looks ml_L_75 sm_L_looks (Nat.le_of_ble_eq_true rfl) dL_isAhead_1 rfl (Nat.le_of_ble_eq_true rfl) a1 a2 a3) (fun ν N => ?_)
  refine r_lstore_n C dL_isAhead_4 (by decide) rfl ?_
  refine r_aload_n C dL_isAhead_5 rfl ?_
  refine r_iconst C dL_isAhead_6 ?_
  refine r_runIr (fun aH aL aj a1 a2 a3 => run_V C hF.2.2.1 (kA_count0 N (by omega)) lm_X4_count ml_L_13 im_X4_count se_X4_count (ca_q N) rfl (Nat.le_of_ble_eq_true rfl) dL_isAhead_7 rfl (Nat.le_of_ble_eq_true rfl) a1 a2 a3) (fun ν N => ?_)
  rw [coT_0]
  refine r_istore C dL_isAhead_10 (by decide) rfl ?_
  refine r_aload_n C dL_isAhead_12 rfl ?_
  refine r_bipush C dL_isAhead_13 rfl ?_
  refine r_runIr (fun aH aL aj a1 a2 a3 => run_V C hF.2.2.1 (kA_count0 N (by omega)) lm_X4_count ml_L_13 im_X4_count se_X4_count (ca_q N) rfl (Nat.le_of_ble_eq_true rfl) dL_isAhead_15 rfl (Nat.le_of_ble_eq_true rfl) a1 a2 a3) (fun ν N => ?_)
  refine r_istore C dL_isAhead_18 (by decide) rfl ?_
  refine r_aload_n C dL_isAhead_20 rfl ?_
  refine r_runIr (fun aH aL aj a1 a2 a3 => run_V C hF.2.2.1 (kA_nextMove N) lm_X4_nextMove ml_L_79 im_X4_nextMove se_X4_nextMove (ca_q N) rfl (Nat.le_of_ble_eq_true rfl) dL_isAhead_21 rfl (Nat.le_of_ble_eq_true rfl) a1 a2 a3) (fun ν N => ?_)
  refine r_istore C dL_isAhead_24 (by decide) rfl ?_
  refine r_aload_n C dL_isAhead_26 rfl ?_
  refine r_runIr (fun aH aL aj a1 a2 a3 => run_V C hF.2.2.1 (kA_fits N) lm_X4_fits ml_L_34 im_X4_fits se_X4_fits (ca_q N) rfl (Nat.le_of_ble_eq_true rfl) dL_isAhead_27 rfl (Nat.le_of_ble_eq_true rfl) a1 a2 a3) (fun ν N => ?_)
  refine r_istore C dL_isAhead_30 (by decide) rfl ?_
  refine r_aload_n C dL_isAhead_32 rfl ?_
  refine r_iload_n C dL_isAhead_33 rfl ?_
  refine r_iconst C dL_isAhead_34 ?_
  refine r_runIr (fun aH aL aj a1 a2 a3 => run_V C hF.2.2.1 (kA_sheet N (by omega) (by omega)) lm_X4_sheet ml_L_19 im_X4_sheet se_X4_sheet (ca_q N) rfl (Nat.le_of_ble_eq_true rfl) dL_isAhead_35 rfl (Nat.le_of_ble_eq_true rfl) a1 a2 a3) (fun ν N => ?_)
  refine r_istore C dL_isAhead_38 (by decide) rfl ?_
  refine r_aload_n C dL_isAhead_40 rfl ?_
  refine r_iload_n C dL_isAhead_41 rfl ?_
  refine r_iconst C dL_isAhead_42 ?_
  refine r_runIr (fun aH aL aj a1 a2 a3 => run_V C hF.2.2.1 (kA_ifPulled N (by omega) (by omega)) lm_X4_ifPulled ml_L_82 im_X4_ifPulled se_X4_ifPulled (ca_q N) rfl (Nat.le_of_ble_eq_true rfl) dL_isAhead_43 rfl (Nat.le_of_ble_eq_true rfl) a1 a2 a3) (fun ν N => ?_)
  refine r_istore C dL_isAhead_46 (by decide) rfl ?_
  refine r_aload_n C dL_isAhead_48 rfl ?_
  refine r_iload_n C dL_isAhead_49 rfl ?_
  refine r_iconst C dL_isAhead_50 ?_
  refine r_runIr (fun aH aL aj a1 a2 a3 => run_V C hF.2.2.1 (kA_ifPulled N (by omega) (by omega)) lm_X4_ifPulled ml_L_82 im_X4_ifPulled se_X4_ifPulled (ca_q N) rfl (Nat.le_of_ble_eq_true rfl) dL_isAhead_51 rfl (Nat.le_of_ble_eq_true rfl) a1 a2 a3) (fun ν N => ?_)
  refine r_istore C dL_isAhead_54 (by decide) rfl ?_
  refine r_aload_n C dL_isAhead_56 rfl ?_
  refine r_iload_n C dL_isAhead_57 rfl ?_
  refine r_iconst C dL_isAhead_58 ?_
  refine r_runIr (fun aH aL aj a1 a2 a3 => run_V C hF.2.2.1 (kA_ifPulled N (by omega) (by omega)) lm_X4_ifPulled ml_L_82 im_X4_ifPulled se_X4_ifPulled (ca_q N) rfl (Nat.le_of_ble_eq_true rfl) dL_isAhead_59 rfl (Nat.le_of_ble_eq_true rfl) a1 a2 a3) (fun ν N => ?_)
  refine r_istore C dL_isAhead_62 (by decide) rfl ?_
  refine r_aload_n C dL_isAhead_64 rfl ?_
  refine r_iload_n C dL_isAhead_65 rfl ?_
  refine r_iconst C dL_isAhead_66 ?_
  refine r_runIr (fun aH aL aj a1 a2 a3 => run_V C hF.2.2.1 (kA_ifPulled N (by omega) (by omega)) lm_X4_ifPulled ml_L_82 im_X4_ifPulled se_X4_ifPulled (ca_q N) rfl (Nat.le_of_ble_eq_true rfl) dL_isAhead_67 rfl (Nat.le_of_ble_eq_true rfl) a1 a2 a3) (fun ν N => ?_)
  refine r_istore C dL_isAhead_70 (by decide) rfl ?_
  refine jn (A := ∀ (ν : Mem), CA (xV X) K q μ0 u z sv [] ν → RR X ν 119 [vR q, vI p, vI r, vV (.long (lkH u)), vU, vI (u 3), vI (coT u 0 6), vI (nmT u), vI (fiT u), vI (ofS u p 0), vI (woT u p 0), vI (woT u p 1), vI (woT u p 2), vI (woT u p 3), vI 1, vU, vU, vU, vU, vU] []) ?_ (fun K119 => ?_)
  · intro ν N
    refine r_aload_n C dL_isAhead_119 rfl ?_
    refine r_iload_n C dL_isAhead_120 rfl ?_
    refine r_iload_n C dL_isAhead_121 rfl ?_
    refine r_runIr (fun aH aL aj a1 a2 a3 => run_V C hF.2.2.1 (kA_move N (by decide) (by omega) hp hr) lm_X4_move ml_L_53 im_X4_move se_X4_move (ca_q N) rfl (Nat.le_of_ble_eq_true rfl) dL_isAhead_122 rfl (Nat.le_of_ble_eq_true rfl) a1 a2 a3) (fun ν N => ?_)
    rw [mv_c u hp.1 hr.1 0]
    have q1 := coT_r (w := 1) (sv := 0) (ca_u N) (by decide)
    have m3 := (mv_o u hp.1 hr.1).2
    refine r_istore C dL_isAhead_125 (by decide) rfl ?_
    refine r_iload C dL_isAhead_127 rfl ?_
    refine r_if_eq (tgt := 185) C dL_isAhead_129 (by decide) (by omega) (fun c129 => absurd c129 (by omega)) (fun c129 => ?_)
    refine r_iload C dL_isAhead_132 rfl ?_
    refine r_aload_n C dL_isAhead_134 rfl ?_
    refine r_iconst C dL_isAhead_135 ?_
    refine r_runIr (fun aH aL aj a1 a2 a3 => run_V C hF.2.2.1 (kA_count0 N (by omega)) lm_X4_count ml_L_13 im_X4_count se_X4_count (ca_q N) rfl (Nat.le_of_ble_eq_true rfl) dL_isAhead_136 rfl (Nat.le_of_ble_eq_true rfl) a1 a2 a3) (fun ν N => ?_)
    skip
    refine r_icmp_ne (tgt := 185) C dL_isAhead_139 (by decide) (by omega) (by omega) (fun c139 => absurd c139 (by omega)) (fun c139 => ?_)
    refine r_aload_n C dL_isAhead_142 rfl ?_
    refine r_iload_n C dL_isAhead_143 rfl ?_
    refine r_iconst C dL_isAhead_144 ?_
    refine r_runIr (fun aH aL aj a1 a2 a3 => run_V C hF.2.2.1 (kA_sheet N (by omega) (by omega)) lm_X4_sheet ml_L_19 im_X4_sheet se_X4_sheet (ca_q N) rfl (Nat.le_of_ble_eq_true rfl) dL_isAhead_145 rfl (Nat.le_of_ble_eq_true rfl) a1 a2 a3) (fun ν N => ?_)
    rw [mv_s hv hp.1 hp.2 hr.1 hr.2]
    refine r_iload C dL_isAhead_148 rfl ?_
    refine r_icmp_ne (tgt := 185) C dL_isAhead_150 (by decide) (by omega) (by omega) (fun c150 => absurd c150 (by omega)) (fun c150 => ?_)
    refine r_aload_n C dL_isAhead_153 rfl ?_
    refine r_iload_n C dL_isAhead_154 rfl ?_
    refine r_iload_n C dL_isAhead_155 rfl ?_
    refine r_runIr (fun aH aL aj a1 a2 a3 => run_V C hF.2.2.1 (kA_move N (Nat.le_of_ble_eq_true rfl) (by omega) (by omega) (by omega)) lm_X4_move ml_L_53 im_X4_move se_X4_move (ca_q N) rfl (Nat.le_of_ble_eq_true rfl) dL_isAhead_156 rfl (Nat.le_of_ble_eq_true rfl) a1 a2 a3) (fun ν N => ?_)
    rw [mv_c (mMov u p r) hr.1 hp.1 0]
    have q2 := coT_r (w := 1) (sv := 0) (ca_u N) (by decide)
    refine r_aload_n C dL_isAhead_159 rfl ?_
    refine r_iconst C dL_isAhead_160 ?_
    refine r_runIr (fun aH aL aj a1 a2 a3 => run_V C hF.2.2.1 (kA_count0 N (by omega)) lm_X4_count ml_L_13 im_X4_count se_X4_count (ca_q N) rfl (Nat.le_of_ble_eq_true rfl) dL_isAhead_161 rfl (Nat.le_of_ble_eq_true rfl) a1 a2 a3) (fun ν N => ?_)
    skip
    refine r_icmp_ne (tgt := 185) C dL_isAhead_164 (by decide) (by omega) (by omega) (fun c164 => absurd c164 (by omega)) (fun c164 => ?_)
    refine r_aload_n C dL_isAhead_167 rfl ?_
    refine r_runIr (fun aH aL aj a1 a2 a3 => run_V C hF.2.2.1 (kA_undo N) lm_X4_undo ml_L_85 im_X4_undo se_X4_undo (ca_q N) rfl (Nat.le_of_ble_eq_true rfl) dL_isAhead_168 rfl (Nat.le_of_ble_eq_true rfl) a1 a2 a3) (fun ν N => ?_)
    have g := ca_s N
    refine r_if_lt (tgt := 185) C dL_isAhead_171 (by decide) (by omega) (fun c171 => absurd c171 (by omega)) (fun c171 => ?_)
    refine r_aload_n C dL_isAhead_174 rfl ?_
    refine r_runIr (fun aH aL aj a1 a2 a3 => run_V C hF.2.2.1 (kA_undo N) lm_X4_undo ml_L_85 im_X4_undo se_X4_undo (ca_q N) rfl (Nat.le_of_ble_eq_true rfl) dL_isAhead_175 rfl (Nat.le_of_ble_eq_true rfl) a1 a2 a3) (fun ν N => ?_)
    have g := ca_s N
    refine r_if_lt (tgt := 185) C dL_isAhead_178 (by decide) (by omega) (fun c178 => absurd c178 (by omega)) (fun c178 => ?_)
    refine r_iconst C dL_isAhead_181 ?_
    refine r_goto (tgt := 186) C dL_isAhead_182 (by decide) ?_
    refine r_istore C dL_isAhead_186 (by decide) rfl ?_
    refine r_iload C dL_isAhead_188 rfl ?_
    refine r_if_eq (tgt := 201) C dL_isAhead_190 (by decide) (by omega) (fun c190 => absurd c190 (by omega)) (fun c190 => ?_)
    refine r_aload_n C dL_isAhead_193 rfl ?_
    refine r_iload_n C dL_isAhead_194 rfl ?_
    refine r_runIr (fun aH aL aj a1 a2 a3 => run_V C hF.2.2.1 (kA_pull N (by decide) (by omega) hp) lm_X4_pull ml_L_47 im_X4_pull se_X4_pull (ca_q N) rfl (Nat.le_of_ble_eq_true rfl) dL_isAhead_195 rfl (Nat.le_of_ble_eq_true rfl) a1 a2 a3) (fun ν N => ?_)
    rw [← ofS_0 u p]
    have hpl := pl_c hv hp.1 hp.2
    refine r_goto (tgt := 202) C dL_isAhead_198 (by decide) ?_
    refine r_istore C dL_isAhead_202 (by decide) rfl ?_
    refine r_iload C dL_isAhead_204 rfl ?_
    refine r_if_eq (tgt := 281) C dL_isAhead_206 (by decide) (by omega) (fun c206 => absurd c206 (by omega)) (fun c206 => ?_)
    refine r_iload C dL_isAhead_209 rfl ?_
    refine r_iload C dL_isAhead_211 rfl ?_
    refine r_icmp_ne (tgt := 281) C dL_isAhead_213 (by decide) (by omega) (by omega) (fun c213 => absurd c213 (by omega)) (fun c213 => ?_)
    refine r_aload_n C dL_isAhead_216 rfl ?_
    refine r_iconst C dL_isAhead_217 ?_
    refine r_runIr (fun aH aL aj a1 a2 a3 => run_V C hF.2.2.1 (kA_count0 N (by omega)) lm_X4_count ml_L_13 im_X4_count se_X4_count (ca_q N) rfl (Nat.le_of_ble_eq_true rfl) dL_isAhead_218 rfl (Nat.le_of_ble_eq_true rfl) a1 a2 a3) (fun ν N => ?_)
    rw [(hpl _).1]
    refine r_iload C dL_isAhead_221 rfl ?_
    refine r_iconst C dL_isAhead_223 ?_
    refine r_isub C dL_isAhead_224 ?_
    refine r_icmp_ne (tgt := 281) C dL_isAhead_225 (by decide) (by omega) (by omega) (fun c225 => absurd c225 (by omega)) (fun c225 => ?_)
    refine r_aload_n C dL_isAhead_228 rfl ?_
    refine r_iconst C dL_isAhead_229 ?_
    refine r_runIr (fun aH aL aj a1 a2 a3 => run_V C hF.2.2.1 (kA_count0 N (by omega)) lm_X4_count ml_L_13 im_X4_count se_X4_count (ca_q N) rfl (Nat.le_of_ble_eq_true rfl) dL_isAhead_230 rfl (Nat.le_of_ble_eq_true rfl) a1 a2 a3) (fun ν N => ?_)
    rw [(hpl _).2.1]
    refine r_iload C dL_isAhead_233 rfl ?_
    refine r_icmp_ne (tgt := 281) C dL_isAhead_235 (by decide) (by omega) (by omega) (fun c235 => absurd c235 (by omega)) (fun c235 => ?_)
    refine r_aload_n C dL_isAhead_238 rfl ?_
    refine r_iconst C dL_isAhead_239 ?_
    refine r_runIr (fun aH aL aj a1 a2 a3 => run_V C hF.2.2.1 (kA_count0 N (by omega)) lm_X4_count ml_L_13 im_X4_count se_X4_count (ca_q N) rfl (Nat.le_of_ble_eq_true rfl) dL_isAhead_240 rfl (Nat.le_of_ble_eq_true rfl) a1 a2 a3) (fun ν N => ?_)
    rw [(hpl _).2.2.1]
    refine r_iload C dL_isAhead_243 rfl ?_
    refine r_icmp_ne (tgt := 281) C dL_isAhead_245 (by decide) (by omega) (by omega) (fun c245 => absurd c245 (by omega)) (fun c245 => ?_)
    refine r_aload_n C dL_isAhead_248 rfl ?_
    refine r_bipush C dL_isAhead_249 rfl ?_
    refine r_runIr (fun aH aL aj a1 a2 a3 => run_V C hF.2.2.1 (kA_count0 N (by omega)) lm_X4_count ml_L_13 im_X4_count se_X4_count (ca_q N) rfl (Nat.le_of_ble_eq_true rfl) dL_isAhead_251 rfl (Nat.le_of_ble_eq_true rfl) a1 a2 a3) (fun ν N => ?_)
    rw [(hpl _).2.2.2.1]
    refine r_iload C dL_isAhead_254 rfl ?_
    refine r_icmp_ne (tgt := 281) C dL_isAhead_256 (by decide) (by omega) (by omega) (fun c256 => absurd c256 (by omega)) (fun c256 => ?_)
    refine r_aload_n C dL_isAhead_259 rfl ?_
    refine r_bipush C dL_isAhead_260 rfl ?_
    refine r_runIr (fun aH aL aj a1 a2 a3 => run_V C hF.2.2.1 (kA_count0 N (by omega)) lm_X4_count ml_L_13 im_X4_count se_X4_count (ca_q N) rfl (Nat.le_of_ble_eq_true rfl) dL_isAhead_262 rfl (Nat.le_of_ble_eq_true rfl) a1 a2 a3) (fun ν N => ?_)
    rw [(hpl _).2.2.2.2]
    refine r_iload C dL_isAhead_265 rfl ?_
    refine r_icmp_ne (tgt := 281) C dL_isAhead_267 (by decide) (by omega) (by omega) (fun c267 => absurd c267 (by omega)) (fun c267 => ?_)
    refine r_aload_n C dL_isAhead_270 rfl ?_
    refine r_runIr (fun aH aL aj a1 a2 a3 => run_V C hF.2.2.1 (kA_undo N) lm_X4_undo ml_L_85 im_X4_undo se_X4_undo (ca_q N) rfl (Nat.le_of_ble_eq_true rfl) dL_isAhead_271 rfl (Nat.le_of_ble_eq_true rfl) a1 a2 a3) (fun ν N => ?_)
    have g := ca_s N
    refine r_if_lt (tgt := 281) C dL_isAhead_274 (by decide) (by omega) (fun c274 => absurd c274 (by omega)) (fun c274 => ?_)
    refine r_iconst C dL_isAhead_277 ?_
    refine r_goto (tgt := 282) C dL_isAhead_278 (by decide) ?_
    refine r_istore C dL_isAhead_282 (by decide) rfl ?_
    refine jn (A := ∀ (ν : Mem) (s : Int) (a : Int) (b : Int), CA (xV X) (K + 80) q μ0 u z s [] ν → RR X ν 343 [vR q, vI p, vI r, vV (.long (lkH u)), vU, vI (u 3), vI (coT u 0 6), vI (nmT u), vI (fiT u), vI (ofS u p 0), vI (woT u p 0), vI (woT u p 1), vI (woT u p 2), vI (woT u p 3), vI 1, vI a, vI b, vU, vU, vU] []) ?_ (fun K343 => ?_)
    · intro ν s a b N
      refine jn (A := ∀ (ν : Mem) (s : Int) (a : Int) (b : Int), CA (xV X) (K + 100) q μ0 u z s [] ν → RR X ν 400 [vR q, vI p, vI r, vV (.long (lkH u)), vU, vI (u 3), vI (coT u 0 6), vI (nmT u), vI (fiT u), vI (ofS u p 0), vI (woT u p 0), vI (woT u p 1), vI (woT u p 2), vI (woT u p 3), vI 1, vI a, vI b, vU, vU, vU] []) ?_ (fun K400 => ?_)
      · intro ν s a b N
        refine jn (A := ∀ (ν : Mem) (s : Int) (a : AV) (b : AV) (c : AV) (d : AV) (e : AV), CA (xV X) (K + 140) q μ0 u z s [] ν → RR X ν 540 [vR q, vI p, vI r, vV (.long (lkH u)), vU, vI (u 3), vI (coT u 0 6), vI (nmT u), vI (fiT u), vI (ofS u p 0), vI (woT u p 0), vI (woT u p 1), vI (woT u p 2), vI (woT u p 3), vI 1, a, b, c, d, e] []) ?_ (fun K540 => ?_)
        · intro ν s a b c d e N
          refine r_iload C dL_isAhead_540 rfl ?_
          refine r_if_eq (tgt := 558) C dL_isAhead_542 (by decide) (by omega) (fun c542 => absurd c542 (by omega)) (fun c542 => ?_)
          refine r_aload_n C dL_isAhead_545 rfl ?_
          refine r_runLr (fun aH aL aj a1 a2 a3 => run_S C hF.2.2.1 (kL_looks_c N) lm_L_looks ml_L_75 sm_L_looks (Nat.le_of_ble_eq_true rfl) dL_isAhead_546 rfl (Nat.le_of_ble_eq_true rfl) a1 a2 a3) (fun ν N => ?_)
          refine r_lload_n C dL_isAhead_549 rfl ?_
          refine r_lcmp0 C dL_isAhead_550 rfl ?_
          refine r_if_ne (tgt := 558) C dL_isAhead_551 (by decide) (by omega) (fun c551 => absurd c551 (by omega)) (fun c551 => ?_)
          refine r_iconst C dL_isAhead_554 ?_
          refine r_goto (tgt := 559) C dL_isAhead_555 (by decide) ?_
          exact r_zretr C hF dL_isAhead_559 (by omega) rfl ⟨_, N⟩
        · skip
          refine r_iload C dL_isAhead_400 rfl ?_
          refine r_if_eq (tgt := 413) C dL_isAhead_402 (by decide) (by omega) (fun c402 => absurd c402 (by omega)) (fun c402 => ?_)
          refine r_aload_n C dL_isAhead_405 rfl ?_
          refine r_iload_n C dL_isAhead_406 rfl ?_
          refine r_runIr (fun aH aL aj a1 a2 a3 => run_V C hF.2.2.1 (kA_flip N (by decide) (by omega) hp) lm_X4_flip ml_L_50 im_X4_flip se_X4_flip (ca_q N) rfl (Nat.le_of_ble_eq_true rfl) dL_isAhead_407 rfl (Nat.le_of_ble_eq_true rfl) a1 a2 a3) (fun ν N => ?_)
          obtain ⟨fa, fb, fc, fd⟩ := fl_c hv hp.1 hp.2
          rw [fa]
          refine r_goto (tgt := 414) C dL_isAhead_410 (by decide) ?_
          refine r_istore C dL_isAhead_414 (by decide) rfl ?_
          refine r_iload C dL_isAhead_416 rfl ?_
          refine r_if_eq (tgt := 458) C dL_isAhead_418 (by decide) (by omega) (fun c418 => absurd c418 (by omega)) (fun c418 => ?_)
          refine r_iload C dL_isAhead_421 rfl ?_
          refine r_aload_n C dL_isAhead_423 rfl ?_
          refine r_iload_n C dL_isAhead_424 rfl ?_
          refine r_iconst C dL_isAhead_425 ?_
          refine r_runIr (fun aH aL aj a1 a2 a3 => run_V C hF.2.2.1 (kA_sheet N (by omega) (by omega)) lm_X4_sheet ml_L_19 im_X4_sheet se_X4_sheet (ca_q N) rfl (Nat.le_of_ble_eq_true rfl) dL_isAhead_426 rfl (Nat.le_of_ble_eq_true rfl) a1 a2 a3) (fun ν N => ?_)
          refine r_icmp_ne (tgt := 458) C dL_isAhead_429 (by decide) (by omega) (by omega) (fun c429 => absurd c429 (by omega)) (fun c429 => ?_)
          refine r_iload C dL_isAhead_432 rfl ?_
          refine r_if_lt (tgt := 458) C dL_isAhead_434 (by decide) (by omega) (fun c434 => absurd c434 (by omega)) (fun c434 => ?_)
          refine r_iload C dL_isAhead_437 rfl ?_
          refine r_aload_n C dL_isAhead_439 rfl ?_
          refine r_iconst C dL_isAhead_440 ?_
          refine r_runIr (fun aH aL aj a1 a2 a3 => run_V C hF.2.2.1 (kA_setting N (by omega)) lm_X4_setting ml_L_26 im_X4_setting se_X4_setting (ca_q N) rfl (Nat.le_of_ble_eq_true rfl) dL_isAhead_441 rfl (Nat.le_of_ble_eq_true rfl) a1 a2 a3) (fun ν N => ?_)
          rw [fb]
          refine r_icmp_ge (tgt := 458) C dL_isAhead_444 (by decide) (by omega) (by omega) (fun c444 => absurd c444 (by omega)) (fun c444 => ?_)
          refine r_aload_n C dL_isAhead_447 rfl ?_
          refine r_runIr (fun aH aL aj a1 a2 a3 => run_V C hF.2.2.1 (kA_undo N) lm_X4_undo ml_L_85 im_X4_undo se_X4_undo (ca_q N) rfl (Nat.le_of_ble_eq_true rfl) dL_isAhead_448 rfl (Nat.le_of_ble_eq_true rfl) a1 a2 a3) (fun ν N => ?_)
          have g := ca_s N
          refine r_if_lt (tgt := 458) C dL_isAhead_451 (by decide) (by omega) (fun c451 => absurd c451 (by omega)) (fun c451 => ?_)
          refine r_iconst C dL_isAhead_454 ?_
          refine r_goto (tgt := 459) C dL_isAhead_455 (by decide) ?_
          refine r_istore C dL_isAhead_459 (by decide) rfl ?_
          refine r_iload C dL_isAhead_461 rfl ?_
          refine r_if_eq (tgt := 540) C dL_isAhead_463 (by decide) (by omega) (fun c463 => absurd c463 (by omega)) (fun c463 => ?_)
          refine r_aload_n C dL_isAhead_466 rfl ?_
          refine r_iconst C dL_isAhead_467 ?_
          refine r_runIr (fun aH aL aj a1 a2 a3 => run_V C hF.2.2.1 (kA_count0 N (by omega)) lm_X4_count ml_L_13 im_X4_count se_X4_count (ca_q N) rfl (Nat.le_of_ble_eq_true rfl) dL_isAhead_468 rfl (Nat.le_of_ble_eq_true rfl) a1 a2 a3) (fun ν N => ?_)
          skip
          have q2 := flt_r (u 0) (vN u) (vD u) (u 3)
          rw [← coT_2 u 0] at q2
          refine r_if_ne (tgt := 540) C dL_isAhead_471 (by decide) (by omega) (fun c471 => ?_) (fun c471 => ?_)
          · skip
            exact K540 _ _ _ _ _ _ _ (ca_mono N (by omega) (by omega))
          · have h12 : coT u 0 12 = u 4 := rfl
            have c2 : coT u 0 2 = 0 := c471
            refine r_aload_n C dL_isAhead_474 rfl ?_
            refine r_bipush C dL_isAhead_475 rfl ?_
            refine r_runIr (fun aH aL aj a1 a2 a3 => run_V C hF.2.2.1 (kA_count0 N (by omega)) lm_X4_count ml_L_13 im_X4_count se_X4_count (ca_q N) rfl (Nat.le_of_ble_eq_true rfl) dL_isAhead_477 rfl (Nat.le_of_ble_eq_true rfl) a1 a2 a3) (fun ν N => ?_)
            skip
            refine r_istore C dL_isAhead_480 (by decide) rfl ?_
            refine r_aload_n C dL_isAhead_482 rfl ?_
            refine r_bipush C dL_isAhead_483 rfl ?_
            refine r_runIr (fun aH aL aj a1 a2 a3 => run_V C hF.2.2.1 (kA_count0 N (by omega)) lm_X4_count ml_L_13 im_X4_count se_X4_count (ca_q N) rfl (Nat.le_of_ble_eq_true rfl) dL_isAhead_485 rfl (Nat.le_of_ble_eq_true rfl) a1 a2 a3) (fun ν N => ?_)
            skip
            have q13 := coT_r (w := 13) (sv := 0) hv (by decide)
            refine r_istore C dL_isAhead_488 (by decide) rfl ?_
            refine r_aload_n C dL_isAhead_490 rfl ?_
            refine r_runIr (fun aH aL aj a1 a2 a3 => run_V C hF.2.2.1 (kA_bind N (by decide) (by omega) c471) lm_X4_bind ml_L_56 im_X4_bind se_X4_bind (ca_q N) rfl (Nat.le_of_ble_eq_true rfl) dL_isAhead_491 rfl (Nat.le_of_ble_eq_true rfl) a1 a2 a3) (fun ν N => ?_)
            have q := coT_r (w := 13) (sv := 0) (ca_u N) (by decide)
            rw [(bd_c hv 0 c2 0).2.2] at q
            refine r_iload C dL_isAhead_494 rfl ?_
            refine r_iconst C dL_isAhead_496 ?_
            refine r_iadd C dL_isAhead_497 ?_
            refine r_icmp_ne (tgt := 537) C dL_isAhead_498 (by decide) (by omega) (by omega) (fun c498 => absurd c498 (by omega)) (fun c498 => ?_)
            refine r_aload_n C dL_isAhead_501 rfl ?_
            refine r_iconst C dL_isAhead_502 ?_
            refine r_runIr (fun aH aL aj a1 a2 a3 => run_V C hF.2.2.1 (kA_count0 N (by omega)) lm_X4_count ml_L_13 im_X4_count se_X4_count (ca_q N) rfl (Nat.le_of_ble_eq_true rfl) dL_isAhead_503 rfl (Nat.le_of_ble_eq_true rfl) a1 a2 a3) (fun ν N => ?_)
            rw [(bd_c hv 0 c2 _).1]
            refine r_if_ne (tgt := 537) C dL_isAhead_506 (by decide) (by omega) (fun c506 => absurd c506 (by omega)) (fun c506 => ?_)
            refine r_aload_n C dL_isAhead_509 rfl ?_
            refine r_bipush C dL_isAhead_510 rfl ?_
            refine r_runIr (fun aH aL aj a1 a2 a3 => run_V C hF.2.2.1 (kA_count0 N (by omega)) lm_X4_count ml_L_13 im_X4_count se_X4_count (ca_q N) rfl (Nat.le_of_ble_eq_true rfl) dL_isAhead_512 rfl (Nat.le_of_ble_eq_true rfl) a1 a2 a3) (fun ν N => ?_)
            rw [(bd_c hv 0 c2 _).2.2]
            refine r_iload C dL_isAhead_515 rfl ?_
            refine r_aload_n C dL_isAhead_517 rfl ?_
            refine r_iconst C dL_isAhead_518 ?_
            refine r_runIr (fun aH aL aj a1 a2 a3 => run_V C hF.2.2.1 (kA_setting N (by omega)) lm_X4_setting ml_L_26 im_X4_setting se_X4_setting (ca_q N) rfl (Nat.le_of_ble_eq_true rfl) dL_isAhead_519 rfl (Nat.le_of_ble_eq_true rfl) a1 a2 a3) (fun ν N => ?_)
            rw [(bd_c hv 0 c2 0).2.1]
            refine r_iadd C dL_isAhead_522 ?_
            refine r_icmp_ne (tgt := 537) C dL_isAhead_523 (by decide) (by omega) (by omega) (fun c523 => absurd c523 (by omega)) (fun c523 => ?_)
            refine r_aload_n C dL_isAhead_526 rfl ?_
            refine r_runIr (fun aH aL aj a1 a2 a3 => run_V C hF.2.2.1 (kA_undo N) lm_X4_undo ml_L_85 im_X4_undo se_X4_undo (ca_q N) rfl (Nat.le_of_ble_eq_true rfl) dL_isAhead_527 rfl (Nat.le_of_ble_eq_true rfl) a1 a2 a3) (fun ν N => ?_)
            have g := ca_s N
            refine r_if_lt (tgt := 537) C dL_isAhead_530 (by decide) (by omega) (fun c530 => absurd c530 (by omega)) (fun c530 => ?_)
            refine r_iconst C dL_isAhead_533 ?_
            refine r_goto (tgt := 538) C dL_isAhead_534 (by decide) ?_
            refine r_istore C dL_isAhead_538 (by decide) rfl ?_
            exact K540 _ _ _ _ _ _ _ (ca_mono N (by omega) (by omega))
      · skip
        refine r_iload C dL_isAhead_343 rfl ?_
        refine r_if_eq (tgt := 400) C dL_isAhead_345 (by decide) (by omega) (fun c345 => absurd c345 (by omega)) (fun c345 => ?_)
        refine r_iload C dL_isAhead_348 rfl ?_
        refine r_if_lt (tgt := 400) C dL_isAhead_350 (by decide) (fiT_r u) (fun c350 => ?_) (fun c350 => ?_)
        · skip
          exact K400 _ _ _ _ (ca_mono N (by omega) (by omega))
        · obtain ⟨f1, f2, f3, f4⟩ := fiT_f (u := u) (by omega)
          have i3 : mIns u (u 3) (fiT u) 3 = u 3 + 1 := by rw [mIns_lo h3.1 (by decide), if_pos rfl]
          have hc1 := hcp (fiT u) (by omega) (by omega)
          refine r_aload_n C dL_isAhead_353 rfl ?_
          refine r_iload C dL_isAhead_354 rfl ?_
          refine r_iconst C dL_isAhead_356 ?_
          refine r_runIr (fun aH aL aj a1 a2 a3 => run_V C hF.2.2.1 (kA_bin N (by omega) (by omega)) lm_X4_bin ml_L_23 im_X4_bin se_X4_bin (ca_q N) rfl (Nat.le_of_ble_eq_true rfl) dL_isAhead_357 rfl (Nat.le_of_ble_eq_true rfl) a1 a2 a3) (fun ν N => ?_)
          rw [ofB_0]
          refine r_if_le (tgt := 397) C dL_isAhead_360 (by decide) (by omega) (fun c360 => absurd c360 (by omega)) (fun c360 => ?_)
          refine r_aload_n C dL_isAhead_363 rfl ?_
          refine r_iload C dL_isAhead_364 rfl ?_
          refine r_runIr (fun aH aL aj a1 a2 a3 => run_V C hF.2.2.1 (kA_gather N (by decide) (by omega) (by omega) (by omega)) lm_X4_gather ml_L_65 im_X4_gather se_X4_gather (ca_q N) rfl (Nat.le_of_ble_eq_true rfl) dL_isAhead_366 rfl (Nat.le_of_ble_eq_true rfl) a1 a2 a3) (fun ν N => ?_)
          refine r_iload C dL_isAhead_369 rfl ?_
          refine r_iconst C dL_isAhead_371 ?_
          refine r_iadd C dL_isAhead_372 ?_
          refine r_icmp_ne (tgt := 397) C dL_isAhead_373 (by decide) (by omega) (by omega) (fun c373 => absurd c373 (by omega)) (fun c373 => ?_)
          refine r_aload_n C dL_isAhead_376 rfl ?_
          refine r_iload C dL_isAhead_377 rfl ?_
          refine r_iconst C dL_isAhead_379 ?_
          refine r_runIr (fun aH aL aj a1 a2 a3 => run_V C hF.2.2.1 (kA_sheet N (by omega) (by omega)) lm_X4_sheet ml_L_19 im_X4_sheet se_X4_sheet (ca_q N) rfl (Nat.le_of_ble_eq_true rfl) dL_isAhead_380 rfl (Nat.le_of_ble_eq_true rfl) a1 a2 a3) (fun ν N => ?_)
          rw [ft_c hv (by omega)]
          refine r_if_ne (tgt := 397) C dL_isAhead_383 (by decide) (by omega) (fun c383 => absurd c383 (by omega)) (fun c383 => ?_)
          refine r_aload_n C dL_isAhead_386 rfl ?_
          refine r_runIr (fun aH aL aj a1 a2 a3 => run_V C hF.2.2.1 (kA_undo N) lm_X4_undo ml_L_85 im_X4_undo se_X4_undo (ca_q N) rfl (Nat.le_of_ble_eq_true rfl) dL_isAhead_387 rfl (Nat.le_of_ble_eq_true rfl) a1 a2 a3) (fun ν N => ?_)
          have g := ca_s N
          refine r_if_lt (tgt := 397) C dL_isAhead_390 (by decide) (by omega) (fun c390 => absurd c390 (by omega)) (fun c390 => ?_)
          refine r_iconst C dL_isAhead_393 ?_
          refine r_goto (tgt := 398) C dL_isAhead_394 (by decide) ?_
          refine r_istore C dL_isAhead_398 (by decide) rfl ?_
          exact K400 _ _ _ _ (ca_mono N (by omega) (by omega))
    · skip
      refine r_iload C dL_isAhead_284 rfl ?_
      refine r_if_eq (tgt := 343) C dL_isAhead_286 (by decide) (by omega) (fun c286 => absurd c286 (by omega)) (fun c286 => ?_)
      refine r_iload C dL_isAhead_289 rfl ?_
      refine r_if_lt (tgt := 343) C dL_isAhead_291 (by decide) (nmT_r hv) (fun c291 => ?_) (fun c291 => ?_)
      · skip
        exact K343 _ _ _ _ (ca_mono N (by omega) (by omega))
      · obtain ⟨x1, x2, x3, x4, x5⟩ := (nx_c hv 0).resolve_left (fun w => by have := w.1; omega)
        refine r_aload_n C dL_isAhead_294 rfl ?_
        refine r_iload C dL_isAhead_295 rfl ?_
        refine r_bipush C dL_isAhead_297 rfl ?_
        refine r_idiv C dL_isAhead_299 (by omega) (by omega) ?_
        refine r_iload C dL_isAhead_300 rfl ?_
        refine r_bipush C dL_isAhead_302 rfl ?_
        refine r_irem C dL_isAhead_304 (by omega) (by omega) ?_
        refine r_runIr (fun aH aL aj a1 a2 a3 => run_V C hF.2.2.1 (kA_move N (by decide) (by omega) x3 x4) lm_X4_move ml_L_53 im_X4_move se_X4_move (ca_q N) rfl (Nat.le_of_ble_eq_true rfl) dL_isAhead_305 rfl (Nat.le_of_ble_eq_true rfl) a1 a2 a3) (fun ν N => ?_)
        rw [mv_c u x3.1 x4.1 0]
        have q3 := coT_r (w := 1) (sv := 0) (ca_u N) (by decide)
        refine r_aload_n C dL_isAhead_308 rfl ?_
        refine r_iconst C dL_isAhead_309 ?_
        refine r_runIr (fun aH aL aj a1 a2 a3 => run_V C hF.2.2.1 (kA_count0 N (by omega)) lm_X4_count ml_L_13 im_X4_count se_X4_count (ca_q N) rfl (Nat.le_of_ble_eq_true rfl) dL_isAhead_310 rfl (Nat.le_of_ble_eq_true rfl) a1 a2 a3) (fun ν N => ?_)
        skip
        refine r_icmp_ne (tgt := 340) C dL_isAhead_313 (by decide) (by omega) (by omega) (fun c313 => absurd c313 (by omega)) (fun c313 => ?_)
        refine r_aload_n C dL_isAhead_316 rfl ?_
        refine r_bipush C dL_isAhead_317 rfl ?_
        refine r_runIr (fun aH aL aj a1 a2 a3 => run_V C hF.2.2.1 (kA_count0 N (by omega)) lm_X4_count ml_L_13 im_X4_count se_X4_count (ca_q N) rfl (Nat.le_of_ble_eq_true rfl) dL_isAhead_319 rfl (Nat.le_of_ble_eq_true rfl) a1 a2 a3) (fun ν N => ?_)
        rw [x5]
        refine r_iload C dL_isAhead_322 rfl ?_
        refine r_iconst C dL_isAhead_324 ?_
        refine r_isub C dL_isAhead_325 ?_
        refine r_icmp_ne (tgt := 340) C dL_isAhead_326 (by decide) (by omega) (by omega) (fun c326 => absurd c326 (by omega)) (fun c326 => ?_)
        refine r_aload_n C dL_isAhead_329 rfl ?_
        refine r_runIr (fun aH aL aj a1 a2 a3 => run_V C hF.2.2.1 (kA_undo N) lm_X4_undo ml_L_85 im_X4_undo se_X4_undo (ca_q N) rfl (Nat.le_of_ble_eq_true rfl) dL_isAhead_330 rfl (Nat.le_of_ble_eq_true rfl) a1 a2 a3) (fun ν N => ?_)
        have g := ca_s N
        refine r_if_lt (tgt := 340) C dL_isAhead_333 (by decide) (by omega) (fun c333 => absurd c333 (by omega)) (fun c333 => ?_)
        refine r_iconst C dL_isAhead_336 ?_
        refine r_goto (tgt := 341) C dL_isAhead_337 (by decide) ?_
        refine r_istore C dL_isAhead_341 (by decide) rfl ?_
        exact K343 _ _ _ _ (ca_mono N (by omega) (by omega))
  · skip
    rcases nx_c hv 0 with ⟨x1, x2⟩ | ⟨x1, x2, x3, x4, x5⟩
    · skip
      refine r_iload C dL_isAhead_72 rfl ?_
      refine r_iload C dL_isAhead_74 rfl ?_
      refine r_iconst C dL_isAhead_76 ?_
      refine r_iadd C dL_isAhead_77 ?_
      refine r_icmp_gt (tgt := 116) C dL_isAhead_78 (by decide) (by omega) (by omega) (fun c78 => absurd c78 (by omega)) (fun c78 => ?_)
      refine r_iload C dL_isAhead_81 rfl ?_
      refine r_iload C dL_isAhead_83 rfl ?_
      refine r_icmp_gt (tgt := 116) C dL_isAhead_85 (by decide) (by omega) (by omega) (fun c85 => absurd c85 (by omega)) (fun c85 => ?_)
      refine r_iload C dL_isAhead_88 rfl ?_
      refine r_iconst C dL_isAhead_90 ?_
      refine r_icmp_ne (tgt := 98) C dL_isAhead_91 (by decide) (by omega) (by omega) (fun c91 => absurd c91 (by omega)) (fun c91 => ?_)
      refine r_iconst C dL_isAhead_94 ?_
      refine r_goto (tgt := 99) C dL_isAhead_95 (by decide) ?_
      refine r_iload C dL_isAhead_99 rfl ?_
      refine r_if_ne (tgt := 108) C dL_isAhead_101 (by decide) (by omega) (fun c101 => absurd c101 (by omega)) (fun c101 => ?_)
      refine r_iconst C dL_isAhead_104 ?_
      refine r_goto (tgt := 109) C dL_isAhead_105 (by decide) ?_
      refine r_icmp_ne (tgt := 116) C dL_isAhead_109 (by decide) (by omega) (by omega) (fun c109 => absurd c109 (by omega)) (fun c109 => ?_)
      refine r_iconst C dL_isAhead_112 ?_
      refine r_goto (tgt := 117) C dL_isAhead_113 (by decide) ?_
      refine r_istore C dL_isAhead_117 (by decide) rfl ?_
      exact K119 _ N
    · skip
      refine r_iload C dL_isAhead_72 rfl ?_
      refine r_iload C dL_isAhead_74 rfl ?_
      refine r_iconst C dL_isAhead_76 ?_
      refine r_iadd C dL_isAhead_77 ?_
      refine r_icmp_gt (tgt := 116) C dL_isAhead_78 (by decide) (by omega) (by omega) (fun c78 => absurd c78 (by omega)) (fun c78 => ?_)
      refine r_iload C dL_isAhead_81 rfl ?_
      refine r_iload C dL_isAhead_83 rfl ?_
      refine r_icmp_gt (tgt := 116) C dL_isAhead_85 (by decide) (by omega) (by omega) (fun c85 => absurd c85 (by omega)) (fun c85 => ?_)
      refine r_iload C dL_isAhead_88 rfl ?_
      refine r_iconst C dL_isAhead_90 ?_
      refine r_icmp_ne (tgt := 98) C dL_isAhead_91 (by decide) (by omega) (by omega) (fun c91 => ?_) (fun c91 => absurd c91 (by omega))
      refine r_iconst C dL_isAhead_98 ?_
      refine r_iload C dL_isAhead_99 rfl ?_
      refine r_if_ne (tgt := 108) C dL_isAhead_101 (by decide) (by omega) (fun c101 => ?_) (fun c101 => absurd c101 (by omega))
      refine r_iconst C dL_isAhead_108 ?_
      refine r_icmp_ne (tgt := 116) C dL_isAhead_109 (by decide) (by omega) (by omega) (fun c109 => absurd c109 (by omega)) (fun c109 => ?_)
      refine r_iconst C dL_isAhead_112 ?_
      refine r_goto (tgt := 117) C dL_isAhead_113 (by decide) ?_
      refine r_istore C dL_isAhead_117 (by decide) rfl ?_
      exact K119 _ N
