/-! the digest -/
theorem r_sk {X : Cx} {ν : Mem} {pc : Nat} {h h1 : Int64} {x a b c : AV} (e : h = h1) (k : RR X ν pc [x, vV (.long h1), a, b, c] []) : RR X ν pc [x, vV (.long h), a, b, c] [] := by rw [e]; exact k
theorem ob5_at {w : Int → Int} {k j : Int} (h0 : 0 ≤ j) (h1 : j < 5) : ob5 w (5 * k + j) = ofB w k j := by
  unfold ob5
  rw [show (5 * k + j) / 5 = k by omega, show (5 * k + j) % 5 = j by omega]
set_option maxRecDepth 20000 in
set_option maxHeartbeats 2000000 in
theorem kX4_digest_c {V : Wo} {μ : Mem} {q : Nat} {K : Int} {w tx : Int → Int} {sv kp ln : Int} (hC : CI V K q μ w tx sv kp ln) : Con V 6 yX4_digest cX4_digest 5 (some .long) [vR q] (μ) (QLr V (dgT w tx sv kp ln) ((fun ν => CI V (K) q ν (w) (tx) (sv) (kp) (ln) ∧ ∀ r, (r < q ∨ q + 112 < r) → ν r = μ r))) := by
  refine con_of (ls0 := [vR q, vU, vU, vU, vU]) (by decide +kernel) rfl (Nat.le_of_ble_eq_true rfl) (Nat.le_of_ble_eq_true rfl) (fun X hV C hF => ?_)
  subst hV
  have C : Ok X RX4 cX4_digest 5 6 := C
  have hS := hC.1
  have hW := CI_SpW hC
  obtain ⟨P0, P1, PN, PS, PT, PH, PR, PB⟩ := id hS
  obtain ⟨QN, QH, Q6, Q7, QB, QR, QA⟩ := id hW
  obtain ⟨-, ⟨cv, ce⟩, ⟨ck1, ck2, ck3⟩, ⟨cs1, cs2, cs3, cs4, cs5, cs6⟩, ⟨cb1, cb2, cb3, cb4⟩, cr⟩ := id hC
  obtain ⟨v0, v1, v2, v3, v4, v5, v6, v7, v8, v9, v10⟩ := id cv
  obtain ⟨e1, e2, e3, e4, e5, e6, e7, e8, e9, e10⟩ := id ce
  obtain ⟨hK, WB, Wc, Wi, Wp, Wh, Ws0, Ws1, Ws2, Wbk, Wls⟩ := id QN
  have cs2d := (chkD_e (chk_sh cv)).2.2.2
  have cm2d := (chkF_e (chk_me cv)).2.2.2.2.2
  have cm3d := (chkF_e (chk_me cv)).2.2.2.1
  refine r_ldc2 C dX4_digest_0 kl_X4_279  ?_
  refine r_lstore_n C dX4_digest_3 (by decide) rfl ?_
  refine r_iconst C dX4_digest_4 ?_
  refine r_istore_n C dX4_digest_5 (by decide) rfl ?_
  have N := cu0 hC
  refine r_sk (h1 := hs (coT w sv) 3853 0) (hs_0 _ _).symm ?_
  refine loop_up (F := fun k => ∀ (ν : Mem) (z : AV), CU (xV X) K q w tx sv kp ln μ ν → RR X ν 6 [vR q, vV (.long (hs (coT w sv) 3853 k)), vU, vI k, z] []) (a := 0) (b := 16) (by omega) ?_ ?_ _ _ N
  · intro ν z N
    show RR X _ _ [vR q, vV (.long (hs (coT w sv) 3853 16)), vU, vI (16), z] []
    refine r_iload_n C dX4_digest_6 rfl ?_
    refine r_bipush C dX4_digest_7 rfl ?_
    refine r_icmp_ge (tgt := 29) C dX4_digest_9 (by decide) (by omega) (by omega) (fun c9 => ?_) (fun c9 => absurd c9 (by omega))
    refine r_iconst C dX4_digest_29 ?_
    refine r_istore_n C dX4_digest_30 (by decide) rfl ?_
    refine r_sk (h1 := hs w (hs (coT w sv) 3853 16) 0) (hs_0 _ _).symm ?_
    refine loop_up (F := fun k => ∀ (ν : Mem) (z : AV), CU (xV X) K q w tx sv kp ln μ ν → RR X ν 31 [vR q, vV (.long (hs w (hs (coT w sv) 3853 16) k)), vU, vI k, z] []) (a := 0) (b := 3) (by omega) ?_ ?_ _ _ N
    · intro ν z N
      show RR X _ _ [vR q, vV (.long (hs w (hs (coT w sv) 3853 16) 3)), vU, vI (3), z] []
      refine r_iload_n C dX4_digest_31 rfl ?_
      refine r_iconst C dX4_digest_32 ?_
      refine r_icmp_ge (tgt := 59) C dX4_digest_33 (by decide) (by omega) (by omega) (fun c33 => ?_) (fun c33 => absurd c33 (by omega))
      refine r_iconst C dX4_digest_59 ?_
      refine r_istore_n C dX4_digest_60 (by decide) rfl ?_
      refine r_sk (h1 := hk w (hs w (hs (coT w sv) 3853 16) 3) 0) rfl ?_
      refine loop_up (F := fun k => ∀ (ν : Mem) (z : AV), CU (xV X) K q w tx sv kp ln μ ν → RR X ν 61 [vR q, vV (.long (hk w (hs w (hs (coT w sv) 3853 16) 3) k)), vU, vI k, z] []) (a := 0) (b := (w 3)) v4.1 ?_ ?_ _ _ N
      · intro ν z N
        show RR X _ _ [vR q, vV (.long (hk w (hs w (hs (coT w sv) 3853 16) 3) (w 3))), vU, vI ((w 3)), z] []
        refine r_iload_n C dX4_digest_61 rfl ?_
        refine r_aload_n C dX4_digest_62 rfl ?_
        refine gf_X4_10 C P1 dX4_digest_63 ?_
        refine gf_X4_71 C PN.2.1 dX4_digest_66 ?_
        refine gf_X4_75 C PN.2.2.1.2.1 dX4_digest_69 ?_
        rw [N.1.2.1.2.2.1]
        refine r_icmp_ge (tgt := 138) C dX4_digest_72 (by decide) (by omega) (by omega) (fun c72 => ?_) (fun c72 => absurd c72 (by omega))
        refine r_iconst C dX4_digest_138 ?_
        refine r_istore_n C dX4_digest_139 (by decide) rfl ?_
        refine r_sk (h1 := hs (ob5 w) (hk w (hs w (hs (coT w sv) 3853 16) 3) (w 3)) (5 * 0)) rfl ?_
        refine loop_up (F := fun k => ∀ (ν : Mem) (z : AV), CU (xV X) K q w tx sv kp ln μ ν → RR X ν 140 [vR q, vV (.long (hs (ob5 w) (hk w (hs w (hs (coT w sv) 3853 16) 3) (w 3)) (5 * k))), vU, vI k, z] []) (a := 0) (b := 16) (by omega) ?_ ?_ _ _ N
        · intro ν z N
          show RR X _ _ [vR q, vV (.long (hs (ob5 w) (hk w (hs w (hs (coT w sv) 3853 16) 3) (w 3)) 80)), vU, vI (16), z] []
          refine r_iload_n C dX4_digest_140 rfl ?_
          refine r_bipush C dX4_digest_141 rfl ?_
          refine r_icmp_ge (tgt := 180) C dX4_digest_143 (by decide) (by omega) (by omega) (fun c143 => ?_) (fun c143 => absurd c143 (by omega))
          refine r_lload_n C dX4_digest_180 rfl ?_
          refine r_aload_n C dX4_digest_181 rfl ?_
          refine r_runIr (fun aH aL aj a1 a2 a3 => run_V C hF.2.2.1 (kX4_nextMove_c N.1) lm_X4_nextMove ml_X4_297 im_X4_nextMove se_X4_nextMove P1 rfl (Nat.le_of_ble_eq_true rfl) dX4_digest_182 rfl (Nat.le_of_ble_eq_true rfl) a1 a2 a3) (fun ν R => ?_)
          replace N := cuT N R
          refine r_i2l C dX4_digest_185 (nmT_r cv) ?_
          refine r_runL (fun aH aL aj a1 a2 a3 => run_S C hF.2.2.1 (kX4_hashWith) lm_X4_hashWith ml_X4_284 sm_X4_hashWith (Nat.le_of_ble_eq_true rfl) dX4_digest_186 rfl (Nat.le_of_ble_eq_true rfl) a1 a2 a3) ?_
          refine r_lstore_n C dX4_digest_189 (by decide) rfl ?_
          refine r_lload_n C dX4_digest_190 rfl ?_
          refine r_aload_n C dX4_digest_191 rfl ?_
          refine r_runIr (fun aH aL aj a1 a2 a3 => run_V C hF.2.2.1 (kX4_fits_c N.1) lm_X4_fits ml_X4_300 im_X4_fits se_X4_fits P1 rfl (Nat.le_of_ble_eq_true rfl) dX4_digest_192 rfl (Nat.le_of_ble_eq_true rfl) a1 a2 a3) (fun ν R => ?_)
          replace N := cuT N R
          refine r_i2l C dX4_digest_195 (fiT_r w) ?_
          refine r_runL (fun aH aL aj a1 a2 a3 => run_S C hF.2.2.1 (kX4_hashWith) lm_X4_hashWith ml_X4_284 sm_X4_hashWith (Nat.le_of_ble_eq_true rfl) dX4_digest_196 rfl (Nat.le_of_ble_eq_true rfl) a1 a2 a3) ?_
          refine r_lstore_n C dX4_digest_199 (by decide) rfl ?_
          refine r_lload_n C dX4_digest_200 rfl ?_
          refine r_aload_n C dX4_digest_201 rfl ?_
          refine r_runIr (fun aH aL aj a1 a2 a3 => run_V C hF.2.2.1 (kX4_books_c N.1) lm_X4_books ml_X4_303 im_X4_books se_X4_books P1 rfl (Nat.le_of_ble_eq_true rfl) dX4_digest_202 rfl (Nat.le_of_ble_eq_true rfl) a1 a2 a3) (fun ν R => ?_)
          replace N := cuT N R
          refine r_i2l C dX4_digest_205 (poT_r cv) ?_
          refine r_runL (fun aH aL aj a1 a2 a3 => run_S C hF.2.2.1 (kX4_hashWith) lm_X4_hashWith ml_X4_284 sm_X4_hashWith (Nat.le_of_ble_eq_true rfl) dX4_digest_206 rfl (Nat.le_of_ble_eq_true rfl) a1 a2 a3) ?_
          refine r_lstore_n C dX4_digest_209 (by decide) rfl ?_
          refine r_lload_n C dX4_digest_210 rfl ?_
          refine r_aload_n C dX4_digest_211 rfl ?_
          refine r_runDr (fun aH aL aj a1 a2 a3 => run_V C hF.2.2.1 (kX4_stairShare_c N.1) lm_X4_stairShare ml_X4_306 im_X4_stairShare se_X4_stairShare P1 rfl (Nat.le_of_ble_eq_true rfl) dX4_digest_212 rfl (Nat.le_of_ble_eq_true rfl) a1 a2 a3) (fun ν R => ?_)
          replace N := cuT N R
          refine r_runL (fun aH aL aj a1 a2 a3 => run_S C hF.2.2.1 (kX4_bitsOfDouble cs2d) lm_X4_bitsOfDouble ml_X4_310 sm_X4_bitsOfDouble (Nat.le_of_ble_eq_true rfl) dX4_digest_215 rfl (Nat.le_of_ble_eq_true rfl) a1 a2 a3) ?_
          refine r_runL (fun aH aL aj a1 a2 a3 => run_S C hF.2.2.1 (kX4_hashWith) lm_X4_hashWith ml_X4_284 sm_X4_hashWith (Nat.le_of_ble_eq_true rfl) dX4_digest_218 rfl (Nat.le_of_ble_eq_true rfl) a1 a2 a3) ?_
          refine r_lstore_n C dX4_digest_221 (by decide) rfl ?_
          refine r_lload_n C dX4_digest_222 rfl ?_
          refine r_aload_n C dX4_digest_223 rfl ?_
          refine r_runFr (fun aH aL aj a1 a2 a3 => run_V C hF.2.2.1 (kX4_meanThread_c N.1) lm_X4_meanThread ml_X4_314 im_X4_meanThread se_X4_meanThread P1 rfl (Nat.le_of_ble_eq_true rfl) dX4_digest_224 rfl (Nat.le_of_ble_eq_true rfl) a1 a2 a3) (fun ν R => ?_)
          replace N := cuT N R
          refine r_runI (fun aH aL aj a1 a2 a3 => run_S C hF.2.2.1 (kX4_bitsOfFloat cm2d) lm_X4_bitsOfFloat ml_X4_318 sm_X4_bitsOfFloat (Nat.le_of_ble_eq_true rfl) dX4_digest_227 rfl (Nat.le_of_ble_eq_true rfl) a1 a2 a3) ?_
          refine r_i2l C dX4_digest_230 cm3d ?_
          refine r_runL (fun aH aL aj a1 a2 a3 => run_S C hF.2.2.1 (kX4_hashWith) lm_X4_hashWith ml_X4_284 sm_X4_hashWith (Nat.le_of_ble_eq_true rfl) dX4_digest_231 rfl (Nat.le_of_ble_eq_true rfl) a1 a2 a3) ?_
          refine r_lstore_n C dX4_digest_234 (by decide) rfl ?_
          refine r_lload_n C dX4_digest_235 rfl ?_
          refine r_aload_n C dX4_digest_236 rfl ?_
          refine gf_X4_44 C P1 dX4_digest_237 ?_
          rw [N.1.2.2.1.2.1]
          refine r_if_eq (tgt := 247) C dX4_digest_240 (by decide) (by omega) (fun c240 => ?_) (fun c240 => ?_)
          · skip
            refine r_lconst C dX4_digest_247 ?_
            refine r_runL (fun aH aL aj a1 a2 a3 => run_S C hF.2.2.1 (kX4_hashWith) lm_X4_hashWith ml_X4_284 sm_X4_hashWith (Nat.le_of_ble_eq_true rfl) dX4_digest_248 rfl (Nat.le_of_ble_eq_true rfl) a1 a2 a3) ?_
            refine r_lstore_n C dX4_digest_251 (by decide) rfl ?_
            refine r_aload_n C dX4_digest_252 rfl ?_
            refine r_lload_n C dX4_digest_253 rfl ?_
            refine r_runLr (fun aH aL aj a1 a2 a3 => run_V C hF.2.2.1 (kX4_hashWithBuffer_c N.1) lm_X4_hashWithBuffer ml_X4_322 im_X4_hashWithBuffer se_X4_hashWithBuffer P1 rfl (Nat.le_of_ble_eq_true rfl) dX4_digest_254 rfl (Nat.le_of_ble_eq_true rfl) a1 a2 a3) (fun ν R => ?_)
            replace N := cuT N R
            exact r_lretr C hF dX4_digest_257 (congrArg (fun z : Int64 => hs tx (31 * (31 * (31 * (31 * (31 * (31 * (31 * hd1 w sv + Int64.ofInt (nmT w)) + Int64.ofInt (fiT w)) + Int64.ofInt (poT w)) + bD (shT w)) + Int64.ofInt (bF (meT w))) + z) + Int64.ofInt ln) ln) (show Int64.ofNat 0 = Int64.ofInt kp by rw [c240]; rfl)) N
          · skip
            refine r_lconst C dX4_digest_243 ?_
            refine r_goto (tgt := 248) C dX4_digest_244 (by decide) ?_
            refine r_runL (fun aH aL aj a1 a2 a3 => run_S C hF.2.2.1 (kX4_hashWith) lm_X4_hashWith ml_X4_284 sm_X4_hashWith (Nat.le_of_ble_eq_true rfl) dX4_digest_248 rfl (Nat.le_of_ble_eq_true rfl) a1 a2 a3) ?_
            refine r_lstore_n C dX4_digest_251 (by decide) rfl ?_
            refine r_aload_n C dX4_digest_252 rfl ?_
            refine r_lload_n C dX4_digest_253 rfl ?_
            refine r_runLr (fun aH aL aj a1 a2 a3 => run_V C hF.2.2.1 (kX4_hashWithBuffer_c N.1) lm_X4_hashWithBuffer ml_X4_322 im_X4_hashWithBuffer se_X4_hashWithBuffer P1 rfl (Nat.le_of_ble_eq_true rfl) dX4_digest_254 rfl (Nat.le_of_ble_eq_true rfl) a1 a2 a3) (fun ν R => ?_)
            replace N := cuT N R
            exact r_lretr C hF dX4_digest_257 (congrArg (fun z : Int64 => hs tx (31 * (31 * (31 * (31 * (31 * (31 * (31 * hd1 w sv + Int64.ofInt (nmT w)) + Int64.ofInt (fiT w)) + Int64.ofInt (poT w)) + bD (shT w)) + Int64.ofInt (bF (meT w))) + z) + Int64.ofInt ln) ln) (show Int64.ofNat 1 = Int64.ofInt kp by rw [show kp = 1 by omega]; rfl)) N
        · intro k h0 h1 K2 ν z N
          show RR X _ _ [vR q, vV (.long (hs (ob5 w) (hk w (hs w (hs (coT w sv) 3853 16) 3) (w 3)) (5 * k))), vU, vI k, z] []
          refine r_iload_n C dX4_digest_140 rfl ?_
          refine r_bipush C dX4_digest_141 rfl ?_
          refine r_icmp_ge (tgt := 180) C dX4_digest_143 (by decide) (by omega) (by omega) (fun c143 => absurd c143 (by omega)) (fun c143 => ?_)
          refine r_iconst C dX4_digest_146 ?_
          refine r_istore C dX4_digest_147 (by decide) rfl ?_
          refine r_sk (h1 := hs (ob5 w) (hk w (hs w (hs (coT w sv) 3853 16) 3) (w 3)) (5 * k + 0)) (by rw [Int.add_zero]) ?_
          refine loop_up (F := fun w1 => ∀ (ν : Mem), CU (xV X) K q w tx sv kp ln μ ν → RR X ν 149 [vR q, vV (.long (hs (ob5 w) (hk w (hs w (hs (coT w sv) 3853 16) 3) (w 3)) (5 * k + w1))), vU, vI k, vI w1] []) (a := 0) (b := 5) (by omega) ?_ ?_ _ N
          · intro ν N
            show RR X _ _ [vR q, vV (.long (hs (ob5 w) (hk w (hs w (hs (coT w sv) 3853 16) 3) (w 3)) (5 * k + 5))), vU, vI k, vI 5] []
            refine r_iload C dX4_digest_149 rfl ?_
            refine r_iconst C dX4_digest_151 ?_
            refine r_icmp_ge (tgt := 174) C dX4_digest_152 (by decide) (by omega) (by omega) (fun c152 => ?_) (fun c152 => absurd c152 (by omega))
            refine r_iinc C dX4_digest_174 rfl (by decide) rfl ?_
            refine r_goto (tgt := 140) C dX4_digest_177 (by decide) ?_
            refine r_sk ?_ (K2 _ _ N)
            rw [show 5 * (k + 1) = 5 * k + 5 by omega]
          · intro w1 g0 g1 K3 ν N
            show RR X _ _ [vR q, vV (.long (hs (ob5 w) (hk w (hs w (hs (coT w sv) 3853 16) 3) (w 3)) (5 * k + w1))), vU, vI k, vI w1] []
            refine r_iload C dX4_digest_149 rfl ?_
            refine r_iconst C dX4_digest_151 ?_
            refine r_icmp_ge (tgt := 174) C dX4_digest_152 (by decide) (by omega) (by omega) (fun c152 => absurd c152 (by omega)) (fun c152 => ?_)
            refine r_lload_n C dX4_digest_155 rfl ?_
            refine r_aload_n C dX4_digest_156 rfl ?_
            refine r_iload_n C dX4_digest_157 rfl ?_
            refine r_iload C dX4_digest_158 rfl ?_
            refine r_runIr (fun aH aL aj a1 a2 a3 => run_V C hF.2.2.1 (kX4_bin_0 N.1 (x := k) (a := w1) (by omega) (by omega) (by omega) (by omega)) lm_X4_bin ml_X4_294 im_X4_bin se_X4_bin P1 rfl (Nat.le_of_ble_eq_true rfl) dX4_digest_160 rfl (Nat.le_of_ble_eq_true rfl) a1 a2 a3) (fun ν R => ?_)
            replace N := cuT N R
            refine r_i2l C dX4_digest_163 (ofB_r cv h0 (by omega)) ?_
            refine r_runL (fun aH aL aj a1 a2 a3 => run_S C hF.2.2.1 (kX4_hashWith) lm_X4_hashWith ml_X4_284 sm_X4_hashWith (Nat.le_of_ble_eq_true rfl) dX4_digest_164 rfl (Nat.le_of_ble_eq_true rfl) a1 a2 a3) ?_
            refine r_lstore_n C dX4_digest_167 (by decide) rfl ?_
            refine r_iinc C dX4_digest_168 rfl (by decide) rfl ?_
            refine r_goto (tgt := 149) C dX4_digest_171 (by decide) ?_
            refine r_sk ?_ (K3 _ N)
            rw [show 5 * k + (w1 + 1) = 5 * k + w1 + 1 by omega, hs_s _ _ (by omega), ob5_at g0 g1]
      · intro k h0 h1 K2 ν z N
        show RR X _ _ [vR q, vV (.long (hk w (hs w (hs (coT w sv) 3853 16) 3) k)), vU, vI k, z] []
        refine r_iload_n C dX4_digest_61 rfl ?_
        refine r_aload_n C dX4_digest_62 rfl ?_
        refine gf_X4_10 C P1 dX4_digest_63 ?_
        refine gf_X4_71 C PN.2.1 dX4_digest_66 ?_
        refine gf_X4_75 C PN.2.2.1.2.1 dX4_digest_69 ?_
        rw [N.1.2.1.2.2.1]
        refine r_icmp_ge (tgt := 138) C dX4_digest_72 (by decide) (by omega) (by omega) (fun c72 => absurd c72 (by omega)) (fun c72 => ?_)
        refine r_iconst C dX4_digest_75 ?_
        refine r_istore C dX4_digest_76 (by decide) rfl ?_
        refine r_sk (h1 := hs (ofS w k) (hk w (hs w (hs (coT w sv) 3853 16) 3) k) 0) (hs_0 _ _).symm ?_
        refine loop_up (F := fun w1 => ∀ (ν : Mem), CU (xV X) K q w tx sv kp ln μ ν → RR X ν 78 [vR q, vV (.long (hs (ofS w k) (hk w (hs w (hs (coT w sv) 3853 16) 3) k) w1)), vU, vI k, vI w1] []) (a := 0) (b := 6) (by omega) ?_ ?_ _ N
        · intro ν N
          show RR X _ _ [vR q, vV (.long (hs (ofS w k) (hk w (hs w (hs (coT w sv) 3853 16) 3) k) 6)), vU, vI k, vI 6] []
          refine r_iload C dX4_digest_78 rfl ?_
          refine r_bipush C dX4_digest_80 rfl ?_
          refine r_icmp_ge (tgt := 104) C dX4_digest_82 (by decide) (by omega) (by omega) (fun c82 => ?_) (fun c82 => absurd c82 (by omega))
          refine r_iconst C dX4_digest_104 ?_
          refine r_istore C dX4_digest_105 (by decide) rfl ?_
          refine r_sk (h1 := hs (woT w k) (hs (ofS w k) (hk w (hs w (hs (coT w sv) 3853 16) 3) k) 6) 0) (hs_0 _ _).symm ?_
          refine loop_up (F := fun w1 => ∀ (ν : Mem), CU (xV X) K q w tx sv kp ln μ ν → RR X ν 107 [vR q, vV (.long (hs (woT w k) (hs (ofS w k) (hk w (hs w (hs (coT w sv) 3853 16) 3) k) 6) w1)), vU, vI k, vI w1] []) (a := 0) (b := 4) (by omega) ?_ ?_ _ N
          · intro ν N
            show RR X _ _ [vR q, vV (.long (hs (woT w k) (hs (ofS w k) (hk w (hs w (hs (coT w sv) 3853 16) 3) k) 6) 4)), vU, vI k, vI 4] []
            refine r_iload C dX4_digest_107 rfl ?_
            refine r_iconst C dX4_digest_109 ?_
            refine r_icmp_ge (tgt := 132) C dX4_digest_110 (by decide) (by omega) (by omega) (fun c110 => ?_) (fun c110 => absurd c110 (by omega))
            refine r_iinc C dX4_digest_132 rfl (by decide) rfl ?_
            refine r_goto (tgt := 61) C dX4_digest_135 (by decide) ?_
            refine r_sk ?_ (K2 _ _ N)
            rw [hk_s _ _ h0]
          · intro w1 g0 g1 K3 ν N
            show RR X _ _ [vR q, vV (.long (hs (woT w k) (hs (ofS w k) (hk w (hs w (hs (coT w sv) 3853 16) 3) k) 6) w1)), vU, vI k, vI w1] []
            refine r_iload C dX4_digest_107 rfl ?_
            refine r_iconst C dX4_digest_109 ?_
            refine r_icmp_ge (tgt := 132) C dX4_digest_110 (by decide) (by omega) (by omega) (fun c110 => absurd c110 (by omega)) (fun c110 => ?_)
            refine r_lload_n C dX4_digest_113 rfl ?_
            refine r_aload_n C dX4_digest_114 rfl ?_
            refine r_iload_n C dX4_digest_115 rfl ?_
            refine r_iload C dX4_digest_116 rfl ?_
            refine r_runIr (fun aH aL aj a1 a2 a3 => run_V C hF.2.2.1 (kX4_ifPulled_0 N.1 (p := k) (a := w1) (by omega) (by omega) ⟨h0, h1⟩ (by omega)) lm_X4_ifPulled ml_X4_291 im_X4_ifPulled se_X4_ifPulled P1 rfl (Nat.le_of_ble_eq_true rfl) dX4_digest_118 rfl (Nat.le_of_ble_eq_true rfl) a1 a2 a3) (fun ν R => ?_)
            replace N := cuT N R
            refine r_i2l C dX4_digest_121 (woT_r cv h0 h1) ?_
            refine r_runL (fun aH aL aj a1 a2 a3 => run_S C hF.2.2.1 (kX4_hashWith) lm_X4_hashWith ml_X4_284 sm_X4_hashWith (Nat.le_of_ble_eq_true rfl) dX4_digest_122 rfl (Nat.le_of_ble_eq_true rfl) a1 a2 a3) ?_
            refine r_lstore_n C dX4_digest_125 (by decide) rfl ?_
            refine r_iinc C dX4_digest_126 rfl (by decide) rfl ?_
            refine r_goto (tgt := 107) C dX4_digest_129 (by decide) ?_
            refine r_sk ?_ (K3 _ N)
            rw [hs_s _ _ g0]
        · intro w1 g0 g1 K3 ν N
          show RR X _ _ [vR q, vV (.long (hs (ofS w k) (hk w (hs w (hs (coT w sv) 3853 16) 3) k) w1)), vU, vI k, vI w1] []
          refine r_iload C dX4_digest_78 rfl ?_
          refine r_bipush C dX4_digest_80 rfl ?_
          refine r_icmp_ge (tgt := 104) C dX4_digest_82 (by decide) (by omega) (by omega) (fun c82 => absurd c82 (by omega)) (fun c82 => ?_)
          refine r_lload_n C dX4_digest_85 rfl ?_
          refine r_aload_n C dX4_digest_86 rfl ?_
          refine r_iload_n C dX4_digest_87 rfl ?_
          refine r_iload C dX4_digest_88 rfl ?_
          refine r_runIr (fun aH aL aj a1 a2 a3 => run_V C hF.2.2.1 (kX4_sheet_0 N.1 (k := k) (a := w1) (by omega) (by omega) h0 (by omega) h1) lm_X4_sheet ml_X4_288 im_X4_sheet se_X4_sheet P1 rfl (Nat.le_of_ble_eq_true rfl) dX4_digest_90 rfl (Nat.le_of_ble_eq_true rfl) a1 a2 a3) (fun ν R => ?_)
          replace N := cuT N R
          refine r_i2l C dX4_digest_93 (ofS_r cv h0 h1) ?_
          refine r_runL (fun aH aL aj a1 a2 a3 => run_S C hF.2.2.1 (kX4_hashWith) lm_X4_hashWith ml_X4_284 sm_X4_hashWith (Nat.le_of_ble_eq_true rfl) dX4_digest_94 rfl (Nat.le_of_ble_eq_true rfl) a1 a2 a3) ?_
          refine r_lstore_n C dX4_digest_97 (by decide) rfl ?_
          refine r_iinc C dX4_digest_98 rfl (by decide) rfl ?_
          refine r_goto (tgt := 78) C dX4_digest_101 (by decide) ?_
          refine r_sk ?_ (K3 _ N)
          rw [hs_s _ _ g0]
    · intro k h0 h1 K2 ν z N
      show RR X _ _ [vR q, vV (.long (hs w (hs (coT w sv) 3853 16) k)), vU, vI k, z] []
      refine r_iload_n C dX4_digest_31 rfl ?_
      refine r_iconst C dX4_digest_32 ?_
      refine r_icmp_ge (tgt := 59) C dX4_digest_33 (by decide) (by omega) (by omega) (fun c33 => absurd c33 (by omega)) (fun c33 => ?_)
      refine r_lload_n C dX4_digest_36 rfl ?_
      refine r_aload_n C dX4_digest_37 rfl ?_
      refine gf_X4_10 C P1 dX4_digest_38 ?_
      refine gf_X4_164 C PN.2.1 dX4_digest_41 ?_
      refine r_iload_n C dX4_digest_44 rfl ?_
      refine r_runI (fun aH aL aj a1 a2 a3 => run_S C hF.2.2.1 (kX4_at PN.2.2.2.2.2.2.2 (by decide) h0 (by omega)) lm_X4_at ml_X4_130 sm_X4_at (Nat.le_of_ble_eq_true rfl) dX4_digest_45 rfl (Nat.le_of_ble_eq_true rfl) a1 a2 a3) ?_
      rw [N.1.2.1.2.1 k h0 h1]
      refine r_i2l C dX4_digest_48 (by rcases (by omega : k = 0 ∨ k = 1 ∨ k = 2) with e | e | e <;> rw [e] <;> omega) ?_
      refine r_runL (fun aH aL aj a1 a2 a3 => run_S C hF.2.2.1 (kX4_hashWith) lm_X4_hashWith ml_X4_284 sm_X4_hashWith (Nat.le_of_ble_eq_true rfl) dX4_digest_49 rfl (Nat.le_of_ble_eq_true rfl) a1 a2 a3) ?_
      refine r_lstore_n C dX4_digest_52 (by decide) rfl ?_
      refine r_iinc C dX4_digest_53 rfl (by decide) rfl ?_
      refine r_goto (tgt := 31) C dX4_digest_56 (by decide) ?_
      refine r_sk ?_ (K2 _ _ N)
      rw [hs_s _ _ h0]
  · intro k h0 h1 K2 ν z N
    show RR X _ _ [vR q, vV (.long (hs (coT w sv) 3853 k)), vU, vI k, z] []
    refine r_iload_n C dX4_digest_6 rfl ?_
    refine r_bipush C dX4_digest_7 rfl ?_
    refine r_icmp_ge (tgt := 29) C dX4_digest_9 (by decide) (by omega) (by omega) (fun c9 => absurd c9 (by omega)) (fun c9 => ?_)
    refine r_lload_n C dX4_digest_12 rfl ?_
    refine r_aload_n C dX4_digest_13 rfl ?_
    refine r_iload_n C dX4_digest_14 rfl ?_
    refine r_runIr (fun aH aL aj a1 a2 a3 => run_V C hF.2.2.1 (kX4_count_0 N.1 (a := k) (by omega) (by omega)) lm_X4_count ml_X4_281 im_X4_count se_X4_count P1 rfl (Nat.le_of_ble_eq_true rfl) dX4_digest_15 rfl (Nat.le_of_ble_eq_true rfl) a1 a2 a3) (fun ν R => ?_)
    replace N := cuT N R
    refine r_i2l C dX4_digest_18 (coT_r cv cs1) ?_
    refine r_runL (fun aH aL aj a1 a2 a3 => run_S C hF.2.2.1 (kX4_hashWith) lm_X4_hashWith ml_X4_284 sm_X4_hashWith (Nat.le_of_ble_eq_true rfl) dX4_digest_19 rfl (Nat.le_of_ble_eq_true rfl) a1 a2 a3) ?_
    refine r_lstore_n C dX4_digest_22 (by decide) rfl ?_
    refine r_iinc C dX4_digest_23 rfl (by decide) rfl ?_
    refine r_goto (tgt := 6) C dX4_digest_26 (by decide) ?_
    refine r_sk ?_ (K2 _ _ N)
    rw [hs_s _ _ h0]
