/-! the law's loop -/
theorem fgl_e : fgl [] [] := trivial
theorem fgl_k (a : AV) {l' l : List AV} (h : fgl l' l) : fgl (a :: l') (a :: l) := ⟨Or.inr rfl, h⟩
theorem fgl_u (b : AV) {l' l : List AV} (h : fgl l' l) : fgl (vU :: l') (b :: l) := ⟨Or.inl rfl, h⟩
set_option maxRecDepth 20000 in
set_option maxHeartbeats 2000000 in
theorem law_loop {X : Cx} {b L q : Nat} {μ0 : Mem} (C : Ok X RL cL_law 13 11) (hF : True ∧ True ∧ (xl X).flags = flags0 ∧ True) (hb : woS (xV X) b = some (.inr (0, L))) (hL : L < 1000) (hZ : ZS (xV X) μ0) (hZ1 : (woZ (xV X)).1 < q ∧ (woZ (xV X)).2.1 < q) (hend : ∀ (ν : Mem) (ls : List AV), RR X ν 284 ls [vI 1]) {ν : Mem} {u z : Int → Int} {s : Int} (N : CA (xV X) 300 q μ0 u z s [] ν) (hcu : Cs u) (hcz : Cs z) : RR X ν 30 [vR b, vR q, vI 1, vI 0, vU, vU, vU, vU, vU, vU, vU, vU, vU] [] := by
  refine loop_up (F := fun t => ∀ (ν : Mem) (u z : Int → Int) (s : Int), CA (xV X) (300 + 300 * t) q μ0 u z s [] ν → Cs u → Cs z → RR X ν 30 [vR b, vR q, vI 1, vI t, vU, vU, vU, vU, vU, vU, vU, vU, vU] []) (a := 0) (b := 60) (by decide) ?_ ?_ _ _ _ _ (ca_mono N (by decide) (by decide)) hcu hcz
  · intro ν u z s N hcu hcz
    show RR X _ _ [vR b, vR q, vI 1, vI 60, vU, vU, vU, vU, vU, vU, vU, vU, vU] []
    refine r_iload_n C dL_law_30 rfl ?_
    refine r_bipush C dL_law_31 rfl ?_
    refine r_icmp_ge (tgt := 283) C dL_law_33 (by decide) (by omega) (by omega) (fun c33 => ?_) (fun c33 => absurd c33 (by omega))
    refine r_iload_n C dL_law_283 rfl ?_
    exact hend _ _
  · intro t h0 h1 K2 ν u z s N hcu hcz
    have hvu := ca_u N
    have hvz := ca_z N
    have hsv := ca_s N
    show RR X _ _ [vR b, vR q, vI 1, vI t, vU, vU, vU, vU, vU, vU, vU, vU, vU] []
    refine r_iload_n C dL_law_30 rfl ?_
    refine r_bipush C dL_law_31 rfl ?_
    refine r_icmp_ge (tgt := 283) C dL_law_33 (by decide) (by omega) (by omega) (fun c33 => absurd c33 (by omega)) (fun c33 => ?_)
    refine r_iload_n C dL_law_36 rfl ?_
    refine r_if_eq (tgt := 283) C dL_law_37 (by decide) (by omega) (fun c37 => absurd c37 (by omega)) (fun c37 => ?_)
    refine r_aload_n C dL_law_40 rfl ?_
    refine r_iconst C dL_law_41 ?_
    refine r_iload_n C dL_law_42 rfl ?_
    refine r_imul C dL_law_43 ?_
    refine r_runI (fun aH aL aj a1 a2 a3 => run_S C hF.2.2.1 (kL_cell_c hb (by omega) hL) lm_L_cell ml_L_96 sm_L_cell (Nat.le_of_ble_eq_true rfl) dL_law_44 rfl (Nat.le_of_ble_eq_true rfl) a1 a2 a3) ?_
    generalize ceT (ν b) L (2 * t) = x
    refine r_istore C dL_law_47 (by decide) rfl ?_
    refine r_aload_n C dL_law_49 rfl ?_
    refine r_iconst C dL_law_50 ?_
    refine r_iload_n C dL_law_51 rfl ?_
    refine r_imul C dL_law_52 ?_
    refine r_iconst C dL_law_53 ?_
    refine r_iadd C dL_law_54 ?_
    refine r_runI (fun aH aL aj a1 a2 a3 => run_S C hF.2.2.1 (kL_cell_c hb (by omega) hL) lm_L_cell ml_L_96 sm_L_cell (Nat.le_of_ble_eq_true rfl) dL_law_55 rfl (Nat.le_of_ble_eq_true rfl) a1 a2 a3) ?_
    generalize ceT (ν b) L (2 * t + 1) = y
    refine r_istore C dL_law_58 (by decide) rfl ?_
    refine r_aload_n C dL_law_60 rfl ?_
    refine r_runLr (fun aH aL aj a1 a2 a3 => run_S C hF.2.2.1 (kL_looks_c N) lm_L_looks ml_L_75 sm_L_looks (Nat.le_of_ble_eq_true rfl) dL_law_61 rfl (Nat.le_of_ble_eq_true rfl) a1 a2 a3) (fun ν N => ?_)
    refine r_lstore C dL_law_64 (by decide) rfl ?_
    refine r_aload_n C dL_law_66 rfl ?_
    refine r_bipush C dL_law_67 rfl ?_
    refine r_runIr (fun aH aL aj a1 a2 a3 => run_V C hF.2.2.1 (kA_count N (by omega)) lm_X4_count ml_L_13 im_X4_count se_X4_count (ca_q N) rfl (Nat.le_of_ble_eq_true rfl) dL_law_69 rfl (Nat.le_of_ble_eq_true rfl) a1 a2 a3) (fun ν N => ?_)
    rw [coT_15]
    refine r_istore C dL_law_72 (by decide) rfl ?_
    refine r_aload_n C dL_law_74 rfl ?_
    refine r_iload C dL_law_75 rfl ?_
    refine r_iload C dL_law_77 rfl ?_
    refine r_runIr (fun aH aL aj a1 a2 a3 => run_S C hF.2.2.1 (kL_act_c N hZ hZ1 (by omega)) lm_L_act ml_L_100 sm_L_act (Nat.le_of_ble_eq_true rfl) dL_law_79 rfl (Nat.le_of_ble_eq_true rfl) a1 a2 a3) (fun ν N => ?_)
    have hp := acT_p x y hcu hcz hvu hvz
    refine r_istore C dL_law_82 (by decide) rfl ?_
    refine jn (A := ∀ (ν : Mem), CA (xV X) (300 + 300 * t + 20) q μ0 (acT u z x y).2 z (sv1 s) [u] ν → RR X ν 120 [vR b, vR q, vI 1, vI t, vI x, vI y, vV (.long (lkH u)), vU, vI s, vI (acT u z x y).1, vU, vU, vU] []) ?_ (fun K120 => ?_)
    · intro ν N
      have g5 := ca_s N
      refine jn (A := ∀ (ν : Mem) (s2 : Int), CA (xV X) (300 + 300 * t + 40) q μ0 (acT u z x y).2 z s2 [u] ν → RR X ν 198 [vR b, vR q, vI 1, vI t, vI x, vI y, vU, vU, vU, vU, vU, vU, vU] []) ?_ (fun K198 => ?_)
      · intro ν s2 N
        have hcU := hp.1
        generalize (acT u z x y).2 = U at N hcU ⊢
        have hvU := ca_u N
        have h3 := veW_3 hvU
        refine r_aload_n C dL_law_198 rfl ?_
        refine r_iconst C dL_law_199 ?_
        refine r_runIr (fun aH aL aj a1 a2 a3 => run_V C hF.2.2.1 (kA_count N (by omega)) lm_X4_count ml_L_13 im_X4_count se_X4_count (ca_q N) rfl (Nat.le_of_ble_eq_true rfl) dL_law_200 rfl (Nat.le_of_ble_eq_true rfl) a1 a2 a3) (fun ν N => ?_)
        rw [coT_0]
        refine r_istore C dL_law_203 (by decide) rfl ?_
        refine r_iload_n C dL_law_205 rfl ?_
        refine r_if_eq (tgt := 275) C dL_law_206 (by decide) (by omega) (fun c206 => absurd c206 (by omega)) (fun c206 => ?_)
        refine r_aload_n C dL_law_209 rfl ?_
        refine r_runIr (fun aH aL aj a1 a2 a3 => run_S C hF.2.2.1 (kL_holds_c N hcU) lm_L_holds ml_L_92 sm_L_holds (Nat.le_of_ble_eq_true rfl) dL_law_210 rfl (Nat.le_of_ble_eq_true rfl) a1 a2 a3) (fun ν N => ?_)
        refine r_if_eq (tgt := 275) C dL_law_213 (by decide) (by omega) (fun c213 => absurd c213 (by omega)) (fun c213 => ?_)
        refine jn (A := ∀ (ν : Mem) (s3 : Int), CA (xV X) (300 + 300 * t + 180) q μ0 U z s3 [] ν → RR X ν 253 [vR b, vR q, vI 1, vI t, vI x, vI y, vU, vU, vU, vU, vI (U 3), vU, vU] []) ?_ (fun K253 => ?_)
        · intro ν s3 N
          refine r_iload_n C dL_law_253 rfl ?_
          refine r_bipush C dL_law_254 rfl ?_
          refine r_irem C dL_law_256 (by omega) (by omega) ?_
          refine r_bipush C dL_law_257 rfl ?_
          refine r_icmp_ne (tgt := 271) C dL_law_259 (by decide) (by omega) (by omega) (fun c259 => ?_) (fun c259 => ?_)
          · skip
            refine r_iconst C dL_law_271 ?_
            refine r_goto (tgt := 276) C dL_law_272 (by decide) ?_
            refine r_istore_n C dL_law_276 (by decide) rfl ?_
            refine r_iinc C dL_law_277 rfl (by decide) rfl ?_
            refine r_goto (tgt := 30) C dL_law_280 (by decide) ?_
            exact r_fg (fgl_k _ (fgl_k _ (fgl_k _ (fgl_k _ (fgl_u _ (fgl_u _ (fgl_u _ (fgl_u _ (fgl_u _ (fgl_u _ (fgl_u _ (fgl_u _ (fgl_u _ fgl_e))))))))))))) (K2 _ U z _ (ca_mono N (by omega) (by omega)) hcU hcz)
          · skip
            refine r_aload_n C dL_law_262 rfl ?_
            refine r_runIr (fun aH aL aj a1 a2 a3 => run_V C hF.2.2.1 (kA_keep N) lm_X4_keep ml_L_89 im_X4_keep se_X4_keep (ca_q N) rfl (Nat.le_of_ble_eq_true rfl) dL_law_263 rfl (Nat.le_of_ble_eq_true rfl) a1 a2 a3) (fun ν N => ?_)
            refine r_iload C dL_law_266 rfl ?_
            refine r_icmp_ne (tgt := 275) C dL_law_268 (by decide) (by omega) (by omega) (fun c268 => absurd c268 (by omega)) (fun c268 => ?_)
            refine r_iconst C dL_law_271 ?_
            refine r_goto (tgt := 276) C dL_law_272 (by decide) ?_
            refine r_istore_n C dL_law_276 (by decide) rfl ?_
            refine r_iinc C dL_law_277 rfl (by decide) rfl ?_
            refine r_goto (tgt := 30) C dL_law_280 (by decide) ?_
            exact r_fg (fgl_k _ (fgl_k _ (fgl_k _ (fgl_k _ (fgl_u _ (fgl_u _ (fgl_u _ (fgl_u _ (fgl_u _ (fgl_u _ (fgl_u _ (fgl_u _ (fgl_u _ fgl_e))))))))))))) (K2 _ U U _ (ca_mono N (by omega) (by omega)) hcU hcU)
        · skip
          refine r_iload_n C dL_law_216 rfl ?_
          refine r_iconst C dL_law_217 ?_
          refine r_irem C dL_law_218 (by omega) (by omega) ?_
          refine r_iconst C dL_law_219 ?_
          refine r_icmp_ne (tgt := 253) C dL_law_220 (by decide) (by omega) (by omega) (fun c220 => ?_) (fun c220 => ?_)
          · skip
            exact r_fg (fgl_k _ (fgl_k _ (fgl_k _ (fgl_k _ (fgl_k _ (fgl_k _ (fgl_k _ (fgl_k _ (fgl_k _ (fgl_k _ (fgl_k _ (fgl_k _ (fgl_k _ fgl_e))))))))))))) (K253 _ _ (ca_mono (ca_drop N) (by omega) (by omega)))
          · skip
            refine r_iload C dL_law_223 rfl ?_
            refine r_if_eq (tgt := 253) C dL_law_225 (by decide) (by omega) (fun c225 => ?_) (fun c225 => ?_)
            · skip
              exact r_fg (fgl_k _ (fgl_k _ (fgl_k _ (fgl_k _ (fgl_k _ (fgl_k _ (fgl_k _ (fgl_k _ (fgl_k _ (fgl_k _ (fgl_k _ (fgl_k _ (fgl_k _ fgl_e))))))))))))) (K253 _ _ (ca_mono (ca_drop N) (by omega) (by omega)))
            · have hn3 : 0 < U 3 := by omega
              refine r_aload_n C dL_law_228 rfl ?_
              refine r_iload C dL_law_229 rfl ?_
              refine r_iconst C dL_law_231 ?_
              refine r_ishr C dL_law_232 ?_
              refine r_iload C dL_law_233 rfl ?_
              refine r_runI (fun aH aL aj a1 a2 a3 => run_S C hF.2.2.1 (kL_up_c (by omega)) lm_L_up ml_L_29 sm_L_up (Nat.le_of_ble_eq_true rfl) dL_law_235 rfl (Nat.le_of_ble_eq_true rfl) a1 a2 a3) ?_
              refine r_iload C dL_law_238 rfl ?_
              refine r_iconst C dL_law_240 ?_
              refine r_ishr C dL_law_241 ?_
              refine r_iload C dL_law_242 rfl ?_
              refine r_runI (fun aH aL aj a1 a2 a3 => run_S C hF.2.2.1 (kL_up_c (by omega)) lm_L_up ml_L_29 sm_L_up (Nat.le_of_ble_eq_true rfl) dL_law_244 rfl (Nat.le_of_ble_eq_true rfl) a1 a2 a3) ?_
              refine r_runIr (fun aH aL aj a1 a2 a3 => run_SW C hF.2.2.1 (kL_isAhead_c (ca_drop N) (upT_r _ hn3) (upT_r _ hn3) (by omega)) lw_L_isAhead ml_L_104 sm_L_isAhead (Nat.le_of_ble_eq_true rfl) dL_law_247 rfl (Nat.le_of_ble_eq_true rfl) a1 a2 a3) (fun ν N9 => ?_)
              obtain ⟨s9, N⟩ := N9
              refine r_if_eq (tgt := 275) C dL_law_250 (by decide) (by omega) (fun c250 => absurd c250 (by omega)) (fun c250 => ?_)
              exact r_fg (fgl_k _ (fgl_k _ (fgl_k _ (fgl_k _ (fgl_k _ (fgl_k _ (fgl_k _ (fgl_k _ (fgl_k _ (fgl_k _ (fgl_k _ (fgl_k _ (fgl_k _ fgl_e))))))))))))) (K253 _ _ (ca_mono N (by omega) (by omega)))
      · skip
        refine r_iload_n C dL_law_120 rfl ?_
        refine r_if_eq (tgt := 198) C dL_law_121 (by decide) (by omega) (fun c121 => absurd c121 (by omega)) (fun c121 => ?_)
        refine r_iload C dL_law_124 rfl ?_
        refine r_bipush C dL_law_126 rfl ?_
        refine r_ishr C dL_law_128 ?_
        refine r_iconst C dL_law_129 ?_
        refine r_iand C dL_law_130 ?_
        refine r_if_ne (tgt := 198) C dL_law_131 (by decide) (by have := and3 (iShr x 8); omega) (fun c131 => ?_) (fun c131 => ?_)
        · skip
          exact r_fg (fgl_k _ (fgl_k _ (fgl_k _ (fgl_k _ (fgl_k _ (fgl_k _ (fgl_u _ (fgl_u _ (fgl_u _ (fgl_u _ (fgl_u _ (fgl_u _ (fgl_u _ fgl_e))))))))))))) (K198 _ _ (ca_mono N (by omega) (by omega)))
        · skip
          refine r_aload_n C dL_law_134 rfl ?_
          refine r_runLr (fun aH aL aj a1 a2 a3 => run_S C hF.2.2.1 (kL_looks_c N) lm_L_looks ml_L_75 sm_L_looks (Nat.le_of_ble_eq_true rfl) dL_law_135 rfl (Nat.le_of_ble_eq_true rfl) a1 a2 a3) (fun ν N => ?_)
          refine r_lstore C dL_law_138 (by decide) rfl ?_
          refine r_aload_n C dL_law_140 rfl ?_
          refine r_bipush C dL_law_141 rfl ?_
          refine r_runIr (fun aH aL aj a1 a2 a3 => run_V C hF.2.2.1 (kA_count N (by omega)) lm_X4_count ml_L_13 im_X4_count se_X4_count (ca_q N) rfl (Nat.le_of_ble_eq_true rfl) dL_law_143 rfl (Nat.le_of_ble_eq_true rfl) a1 a2 a3) (fun ν N => ?_)
          rw [coT_15]
          refine r_iconst C dL_law_146 ?_
          refine r_isub C dL_law_147 ?_
          refine r_istore C dL_law_148 (by decide) rfl ?_
          refine r_aload_n C dL_law_150 rfl ?_
          refine r_runIr (fun aH aL aj a1 a2 a3 => run_V C hF.2.2.1 (kA_undo N) lm_X4_undo ml_L_85 im_X4_undo se_X4_undo (ca_q N) rfl (Nat.le_of_ble_eq_true rfl) dL_law_151 rfl (Nat.le_of_ble_eq_true rfl) a1 a2 a3) (fun ν N => ?_)
          have g6 := ca_s N
          refine r_iload C dL_law_154 rfl ?_
          refine r_icmp_ne (tgt := 196) C dL_law_156 (by decide) (by omega) (by omega) (fun c156 => absurd c156 (by omega)) (fun c156 => ?_)
          refine r_aload_n C dL_law_159 rfl ?_
          refine r_runLr (fun aH aL aj a1 a2 a3 => run_S C hF.2.2.1 (kL_looks_c N) lm_L_looks ml_L_75 sm_L_looks (Nat.le_of_ble_eq_true rfl) dL_law_160 rfl (Nat.le_of_ble_eq_true rfl) a1 a2 a3) (fun ν N => ?_)
          refine r_lload C dL_law_163 rfl ?_
          refine r_lcmp0 C dL_law_165 rfl ?_
          refine r_if_ne (tgt := 196) C dL_law_166 (by decide) (by omega) (fun c166 => absurd c166 (by omega)) (fun c166 => ?_)
          refine r_aload_n C dL_law_169 rfl ?_
          refine r_iload C dL_law_170 rfl ?_
          refine r_iload C dL_law_172 rfl ?_
          refine r_runIr (fun aH aL aj a1 a2 a3 => run_S C hF.2.2.1 (kL_act_c N hZ hZ1 (by omega)) lm_L_act ml_L_100 sm_L_act (Nat.le_of_ble_eq_true rfl) dL_law_174 rfl (Nat.le_of_ble_eq_true rfl) a1 a2 a3) (fun ν N => ?_)
          refine r_iload C dL_law_177 rfl ?_
          refine r_icmp_ne (tgt := 196) C dL_law_179 (by decide) (by omega) (by omega) (fun c179 => absurd c179 (by omega)) (fun c179 => ?_)
          refine r_aload_n C dL_law_182 rfl ?_
          refine r_runLr (fun aH aL aj a1 a2 a3 => run_S C hF.2.2.1 (kL_looks_c N) lm_L_looks ml_L_75 sm_L_looks (Nat.le_of_ble_eq_true rfl) dL_law_183 rfl (Nat.le_of_ble_eq_true rfl) a1 a2 a3) (fun ν N => ?_)
          refine r_lload C dL_law_186 rfl ?_
          refine r_lcmp0 C dL_law_188 rfl ?_
          refine r_if_ne (tgt := 196) C dL_law_189 (by decide) (by omega) (fun c189 => absurd c189 (by omega)) (fun c189 => ?_)
          refine r_iconst C dL_law_192 ?_
          refine r_goto (tgt := 197) C dL_law_193 (by decide) ?_
          refine r_istore_n C dL_law_197 (by decide) rfl ?_
          exact r_fg (fgl_k _ (fgl_k _ (fgl_k _ (fgl_k _ (fgl_k _ (fgl_k _ (fgl_u _ (fgl_u _ (fgl_u _ (fgl_u _ (fgl_u _ (fgl_u _ (fgl_u _ fgl_e))))))))))))) (K198 _ _ (ca_mono N (by omega) (by omega)))
    · skip
      refine r_iload C dL_law_84 rfl ?_
      refine r_if_lt (tgt := 118) C dL_law_86 (by decide) (by omega) (fun c86 => absurd c86 (by omega)) (fun c86 => ?_)
      refine r_aload_n C dL_law_89 rfl ?_
      refine r_bipush C dL_law_90 rfl ?_
      refine r_runIr (fun aH aL aj a1 a2 a3 => run_V C hF.2.2.1 (kA_count N (by omega)) lm_X4_count ml_L_13 im_X4_count se_X4_count (ca_q N) rfl (Nat.le_of_ble_eq_true rfl) dL_law_92 rfl (Nat.le_of_ble_eq_true rfl) a1 a2 a3) (fun ν N => ?_)
      rw [coT_15]
      refine r_iload C dL_law_95 rfl ?_
      refine r_bipush C dL_law_97 rfl ?_
      refine r_icmp_ge (tgt := 109) C dL_law_99 (by decide) (by omega) (by omega) (fun c99 => ?_) (fun c99 => ?_)
      · have e6 : sv1 s = s := if_neg (by omega)
        refine r_bipush C dL_law_109 rfl ?_
        refine r_icmp_ne (tgt := 118) C dL_law_111 (by decide) (by omega) (by omega) (fun c111 => absurd c111 (by omega)) (fun c111 => ?_)
        refine r_iconst C dL_law_114 ?_
        refine r_goto (tgt := 119) C dL_law_115 (by decide) ?_
        refine r_istore_n C dL_law_119 (by decide) rfl ?_
        exact K120 _ N
      · have e6 : sv1 s = s + 1 := if_pos (by omega)
        refine r_iload C dL_law_102 rfl ?_
        refine r_iconst C dL_law_104 ?_
        refine r_iadd C dL_law_105 ?_
        refine r_goto (tgt := 111) C dL_law_106 (by decide) ?_
        refine r_icmp_ne (tgt := 118) C dL_law_111 (by decide) (by omega) (by omega) (fun c111 => absurd c111 (by omega)) (fun c111 => ?_)
        refine r_iconst C dL_law_114 ?_
        refine r_goto (tgt := 119) C dL_law_115 (by decide) ?_
        refine r_istore_n C dL_law_119 (by decide) rfl ?_
        exact K120 _ N
