set_option maxRecDepth 20000 in
set_option maxHeartbeats 2000000 in
theorem kX5_bits {V : Wo} {μ : Mem} {x : UInt64} {y : Int64} (h : mBits x = some y) : Con V 0 yX5_bits cX5_bits 6 (some .long) [vV (.double x)] (μ) (QL V (y) (μ)) := by
  refine con_of (ls0 := [vV (.double x), vU, vU, vU, vU, vU]) (by decide +kernel) rfl (Nat.le_of_ble_eq_true rfl) (Nat.le_of_ble_eq_true rfl) (fun X hV C hF => ?_)
  subst hV
  have C : Ok X RX5 cX5_bits 6 0 := C
  refine r_dload_n C dX5_bits_0 rfl ?_
  refine r_dconst0 C dX5_bits_1 ?_
  refine r_dcmp C dX5_bits_2 ?_
  rw [show (Op.cmpValue (FP.dcmp x FP.dconst0) .l).toInt = cD x FP.dconst0 .l from rfl]
  refine r_if_ne (tgt := 8) C dX5_bits_3 (by decide) (cD_r _ _ _) (fun c3 => ?_) (fun c3 => ?_)
  · obtain ⟨r1, p1, h1, h2⟩ := mBits_1 h c3
    have hf := if_so h2
    refine r_dload_n C dX5_bits_8 rfl ?_
    refine r_dstore_n C dX5_bits_9 (by decide) rfl ?_
    refine r_ldc2 C dX5_bits_10 kl_X5_221  ?_
    refine r_lstore C dX5_bits_13 (by decide) rfl ?_
    suffices hQ : ∀ (n : Nat) (r : UInt64) (p : Int64), mDn n r p = some (r1, p1) → RR X μ 15 [vV (.double x), vU, vV (.double r), vU, vV (.long p), vU] [] from hQ 8 x 1023 h1
    refine loop_k ?_ ?_
    · intro r p hr
      cases hr
    · intro n K2 r p hr
      show RR X _ _ [vV (.double x), vU, vV (.double r), vU, vV (.long p), vU] []
      refine r_dload_n C dX5_bits_15 rfl ?_
      refine r_dconst1 C dX5_bits_16 ?_
      refine r_dcmp C dX5_bits_17 ?_
      rw [show (Op.cmpValue (FP.dcmp r FP.dconst1) .g).toInt = cD r FP.dconst1 .g from rfl]
      refine r_if_ge (tgt := 36) C dX5_bits_18 (by decide) (cD_r _ _ _) (fun c18 => ?_) (fun c18 => ?_)
      · have e := mDn_0 hr c18
        obtain ⟨rfl, rfl⟩ := Prod.mk.inj e
        refine r_lload C dX5_bits_36 rfl ?_
        refine r_ldc2 C dX5_bits_38 kl_X5_225  ?_
        refine r_lmul C dX5_bits_41 ?_
        refine r_dload_n C dX5_bits_42 rfl ?_
        refine r_dconst1 C dX5_bits_43 ?_
        refine r_dsub C dX5_bits_44 hf.1.1 ?_
        refine r_ldc2d C dX5_bits_45 kd_X5_227  ?_
        refine r_dmul C dX5_bits_48 hf.1.2 ?_
        refine r_d2l C dX5_bits_49 ?_
        refine r_ladd C dX5_bits_50 ?_
        exact r_lret C hF dX5_bits_51 hf.2 rfl
      · have hk := mDn_1 hr (by omega)
        refine r_dload_n C dX5_bits_21 rfl ?_
        refine r_ldc2d C dX5_bits_22 kd_X5_223  ?_
        refine r_dmul C dX5_bits_25 hk.1 ?_
        refine r_dstore_n C dX5_bits_26 (by decide) rfl ?_
        refine r_lload C dX5_bits_27 rfl ?_
        refine r_lconst C dX5_bits_29 ?_
        refine r_lsub C dX5_bits_30 ?_
        refine r_lstore C dX5_bits_31 (by decide) rfl ?_
        refine r_goto (tgt := 15) C dX5_bits_33 (by decide) ?_
        exact K2 _ _ hk.2
  · skip
    refine r_lconst C dX5_bits_6 ?_
    exact r_lret C hF dX5_bits_7 (mBits_0 h c3) rfl
set_option maxRecDepth 20000 in
set_option maxHeartbeats 2000000 in
theorem kX5_floatBits {V : Wo} {μ : Mem} {x : UInt32} {y : Int} (h : mfBits x = some y) : Con V 0 yX5_floatBits cX5_floatBits 3 (some .int) [vV (.float x)] (μ) (QI V (y) (μ)) := by
  refine con_of (ls0 := [vV (.float x), vU, vU]) (by decide +kernel) rfl (Nat.le_of_ble_eq_true rfl) (Nat.le_of_ble_eq_true rfl) (fun X hV C hF => ?_)
  subst hV
  have C : Ok X RX5 cX5_floatBits 3 0 := C
  refine r_fload_n C dX5_floatBits_0 rfl ?_
  refine r_fconst0 C dX5_floatBits_1 ?_
  refine r_fcmp C dX5_floatBits_2 ?_
  rw [show (Op.cmpValue (FP.fcmp x FP.fconst0) .l).toInt = cF x FP.fconst0 .l from rfl]
  refine r_if_ne (tgt := 8) C dX5_floatBits_3 (by decide) (cF_r _ _ _) (fun c3 => ?_) (fun c3 => ?_)
  · obtain ⟨r1, e1, r2, e2, h1, h2, h3⟩ := mfBits_1 h c3
    have hf := if_so h3
    refine r_fload_n C dX5_floatBits_8 rfl ?_
    refine r_fstore_n C dX5_floatBits_9 (by decide) rfl ?_
    refine r_bipush C dX5_floatBits_10 rfl ?_
    refine r_istore_n C dX5_floatBits_12 (by decide) rfl ?_
    suffices hQ : ∀ (n : Nat) (r : UInt32) (e : Int), mfUp n r e = some (r1, e1) → RR X μ 13 [vV (.float x), vV (.float r), vI e] [] from hQ 8 x 127 h1
    refine loop_k ?_ ?_
    · intro r e hr
      cases hr
    · intro n K2 r e hr
      show RR X _ _ [vV (.float x), vV (.float r), vI e] []
      refine r_fload_n C dX5_floatBits_13 rfl ?_
      refine r_fconst2 C dX5_floatBits_14 ?_
      refine r_fcmp C dX5_floatBits_15 ?_
      rw [show (Op.cmpValue (FP.fcmp r FP.fconst2) .l).toInt = cF r FP.fconst2 .l from rfl]
      refine r_if_lt (tgt := 29) C dX5_floatBits_16 (by decide) (cF_r _ _ _) (fun c16 => ?_) (fun c16 => ?_)
      · have ee := mfUp_0 hr c16
        obtain ⟨rfl, rfl⟩ := Prod.mk.inj ee
        suffices hQ : ∀ (n : Nat) (r : UInt32) (e : Int), mfDn n r e = some (r2, e2) → RR X μ 29 [vV (.float x), vV (.float r), vI e] [] from hQ 8 _ _ h2
        refine loop_k ?_ ?_
        · intro r e hr
          cases hr
        · intro n K2 r e hr
          show RR X _ _ [vV (.float x), vV (.float r), vI e] []
          refine r_fload_n C dX5_floatBits_29 rfl ?_
          refine r_fconst1 C dX5_floatBits_30 ?_
          refine r_fcmp C dX5_floatBits_31 ?_
          rw [show (Op.cmpValue (FP.fcmp r FP.fconst1) .g).toInt = cF r FP.fconst1 .g from rfl]
          refine r_if_ge (tgt := 45) C dX5_floatBits_32 (by decide) (cF_r _ _ _) (fun c32 => ?_) (fun c32 => ?_)
          · have ee := mfDn_0 hr c32
            obtain ⟨rfl, rfl⟩ := Prod.mk.inj ee
            refine r_iload_n C dX5_floatBits_45 rfl ?_
            refine r_ldc (x := 8388608) C  kc_X5_229 rfl dX5_floatBits_46 ?_
            refine r_imul C dX5_floatBits_48 ?_
            refine r_fload_n C dX5_floatBits_49 rfl ?_
            refine r_fconst1 C dX5_floatBits_50 ?_
            refine r_fsub C dX5_floatBits_51 hf.1.1 ?_
            refine r_ldcf C dX5_floatBits_52 kf_X5_230  ?_
            refine r_fmul C dX5_floatBits_54 hf.1.2 ?_
            refine r_f2i C dX5_floatBits_55 ?_
            refine r_iadd C dX5_floatBits_56 ?_
            exact r_iret C hF dX5_floatBits_57 hf.2 rfl
          · have hk := mfDn_1 hr (by omega)
            refine r_fload_n C dX5_floatBits_35 rfl ?_
            refine r_fconst2 C dX5_floatBits_36 ?_
            refine r_fmul C dX5_floatBits_37 hk.1 ?_
            refine r_fstore_n C dX5_floatBits_38 (by decide) rfl ?_
            refine r_iinc C dX5_floatBits_39 rfl (by decide) rfl ?_
            refine r_goto (tgt := 29) C dX5_floatBits_42 (by decide) ?_
            exact K2 _ _ hk.2
      · have hk := mfUp_1 hr (by omega)
        refine r_fload_n C dX5_floatBits_19 rfl ?_
        refine r_fconst2 C dX5_floatBits_20 ?_
        refine r_fdiv C dX5_floatBits_21 hk.1 ?_
        refine r_fstore_n C dX5_floatBits_22 (by decide) rfl ?_
        refine r_iinc C dX5_floatBits_23 rfl (by decide) rfl ?_
        refine r_goto (tgt := 13) C dX5_floatBits_26 (by decide) ?_
        exact K2 _ _ hk.2
  · skip
    refine r_iconst C dX5_floatBits_6 ?_
    exact r_iret C hF dX5_floatBits_7 (mfBits_0 h c3) rfl
set_option maxRecDepth 20000 in
set_option maxHeartbeats 2000000 in
theorem kX4_bitsOfDouble {V : Wo} {μ : Mem} {x : UInt64} {y : Int64} (h : cBits x = some y) : Con V 0 yX4_bitsOfDouble cX4_bitsOfDouble 7 (some .long) [vV (.double x)] (μ) (QL V (y) (μ)) := by
  refine con_of (ls0 := [vV (.double x), vU, vU, vU, vU, vU, vU]) (by decide +kernel) rfl (Nat.le_of_ble_eq_true rfl) (Nat.le_of_ble_eq_true rfl) (fun X hV C hF => ?_)
  subst hV
  have C : Ok X RX4 cX4_bitsOfDouble 7 0 := C
  refine r_dload_n C dX4_bitsOfDouble_0 rfl ?_
  refine r_dconst0 C dX4_bitsOfDouble_1 ?_
  refine r_dcmp C dX4_bitsOfDouble_2 ?_
  rw [show (Op.cmpValue (FP.dcmp x FP.dconst0) .l).toInt = cD x FP.dconst0 .l from rfl]
  refine r_if_gt (tgt := 8) C dX4_bitsOfDouble_3 (by decide) (cD_r _ _ _) (fun c3 => ?_) (fun c3 => ?_)
  · obtain ⟨r1, e1, r2, e2, h1, h2, h3⟩ := cBits_1 h (by omega)
    have hf := if_so h3
    refine r_dload_n C dX4_bitsOfDouble_8 rfl ?_
    refine r_dstore_n C dX4_bitsOfDouble_9 (by decide) rfl ?_
    refine r_iconst C dX4_bitsOfDouble_10 ?_
    refine r_istore C dX4_bitsOfDouble_11 (by decide) rfl ?_
    suffices hQ : ∀ (n : Nat) (r : UInt64) (e : Int), -100000 + 2000 * (n : Int) ≤ e → e ≤ 100000 - 2000 * (n : Int) → cUp n r e = some (r1, e1) → RR X μ 13 [vV (.double x), vU, vV (.double r), vU, vI e, vU, vU] [] from hQ 8 x 0 (by omega) (by omega) h1
    refine loop_k ?_ ?_
    · intro r e b1 b2 hr
      cases hr
    · intro n K2 r e b1 b2 hr
      show RR X _ _ [vV (.double x), vU, vV (.double r), vU, vI e, vU, vU] []
      refine r_dload_n C dX4_bitsOfDouble_13 rfl ?_
      refine r_ldc2d C dX4_bitsOfDouble_14 kd_X4_350  ?_
      refine r_dcmp C dX4_bitsOfDouble_17 ?_
      rw [show (Op.cmpValue (FP.dcmp r d2) .l).toInt = cD r d2 .l from rfl]
      refine r_if_lt (tgt := 41) C dX4_bitsOfDouble_18 (by decide) (cD_r _ _ _) (fun c18 => ?_) (fun c18 => ?_)
      · have ee := cUp_0 hr c18
        obtain ⟨rfl, rfl⟩ := Prod.mk.inj ee
        suffices hQ : ∀ (n : Nat) (r : UInt64) (e : Int), -200000 + 2000 * (n : Int) ≤ e → e ≤ 200000 - 2000 * (n : Int) → cDn n r e = some (r2, e2) → RR X μ 41 [vV (.double x), vU, vV (.double r), vU, vI e, vU, vU] [] from hQ 8 _ _ (by omega) (by omega) h2
        refine loop_k ?_ ?_
        · intro r e b1 b2 hr
          cases hr
        · intro n K2 r e b1 b2 hr
          show RR X _ _ [vV (.double x), vU, vV (.double r), vU, vI e, vU, vU] []
          refine r_dload_n C dX4_bitsOfDouble_41 rfl ?_
          refine r_dconst1 C dX4_bitsOfDouble_42 ?_
          refine r_dcmp C dX4_bitsOfDouble_43 ?_
          rw [show (Op.cmpValue (FP.dcmp r FP.dconst1) .g).toInt = cD r FP.dconst1 .g from rfl]
          refine r_if_ge (tgt := 67) C dX4_bitsOfDouble_44 (by decide) (cD_r _ _ _) (fun c44 => ?_) (fun c44 => ?_)
          · have ee := cDn_0 hr c44
            obtain ⟨rfl, rfl⟩ := Prod.mk.inj ee
            refine r_dload_n C dX4_bitsOfDouble_67 rfl ?_
            refine r_dconst1 C dX4_bitsOfDouble_68 ?_
            refine r_dsub C dX4_bitsOfDouble_69 hf.1.1.1 ?_
            refine r_ldc2d C dX4_bitsOfDouble_70 kd_X4_352  ?_
            refine r_dmul C dX4_bitsOfDouble_73 hf.1.1.2 ?_
            refine r_d2l C dX4_bitsOfDouble_74 ?_
            refine r_lstore C dX4_bitsOfDouble_75 (by decide) rfl ?_
            refine r_iload C dX4_bitsOfDouble_77 rfl ?_
            refine r_sipush C dX4_bitsOfDouble_79 rfl ?_
            refine r_iadd C dX4_bitsOfDouble_82 ?_
            refine r_i2l C dX4_bitsOfDouble_83 (by have := hf.1.2; omega) ?_
            refine r_bipush C dX4_bitsOfDouble_84 rfl ?_
            refine r_lshl C dX4_bitsOfDouble_86 ?_
            refine r_lload C dX4_bitsOfDouble_87 rfl ?_
            refine r_ladd C dX4_bitsOfDouble_89 ?_
            exact r_lret C hF dX4_bitsOfDouble_90 hf.2 rfl
          · have hk := cDn_1 hr (by omega)
            refine r_iload C dX4_bitsOfDouble_47 rfl ?_
            refine r_sipush C dX4_bitsOfDouble_49 rfl ?_
            refine r_icmp_le (tgt := 67) C dX4_bitsOfDouble_52 (by decide) (by omega) (by omega) (fun c52 => absurd c52 (by have := hk.1.1; omega)) (fun c52 => ?_)
            refine r_dload_n C dX4_bitsOfDouble_55 rfl ?_
            refine r_ldc2d C dX4_bitsOfDouble_56 kd_X4_350  ?_
            refine r_dmul C dX4_bitsOfDouble_59 hk.1.2 ?_
            refine r_dstore_n C dX4_bitsOfDouble_60 (by decide) rfl ?_
            refine r_iinc C dX4_bitsOfDouble_61 rfl (by decide) rfl ?_
            refine r_goto (tgt := 41) C dX4_bitsOfDouble_64 (by decide) ?_
            exact K2 _ _ (by omega) (by omega) hk.2
      · have hk := cUp_1 hr (by omega)
        refine r_iload C dX4_bitsOfDouble_21 rfl ?_
        refine r_sipush C dX4_bitsOfDouble_23 rfl ?_
        refine r_icmp_ge (tgt := 41) C dX4_bitsOfDouble_26 (by decide) (by omega) (by omega) (fun c26 => absurd c26 (by have := hk.1.1; omega)) (fun c26 => ?_)
        refine r_dload_n C dX4_bitsOfDouble_29 rfl ?_
        refine r_ldc2d C dX4_bitsOfDouble_30 kd_X4_350  ?_
        refine r_ddiv C dX4_bitsOfDouble_33 hk.1.2 ?_
        refine r_dstore_n C dX4_bitsOfDouble_34 (by decide) rfl ?_
        refine r_iinc C dX4_bitsOfDouble_35 rfl (by decide) rfl ?_
        refine r_goto (tgt := 13) C dX4_bitsOfDouble_38 (by decide) ?_
        exact K2 _ _ (by omega) (by omega) hk.2
  · skip
    refine r_lconst C dX4_bitsOfDouble_6 ?_
    exact r_lret C hF dX4_bitsOfDouble_7 (cBits_0 h (by omega)) rfl
set_option maxRecDepth 20000 in
set_option maxHeartbeats 2000000 in
theorem kX4_bitsOfFloat {V : Wo} {μ : Mem} {x : UInt32} {y : Int} (h : cfBits x = some y) : Con V 1 yX4_bitsOfFloat cX4_bitsOfFloat 3 (some .int) [vV (.float x)] (μ) (QI V (y) (μ)) := by
  refine con_of (ls0 := [vV (.float x), vU, vU]) (by decide +kernel) rfl (Nat.le_of_ble_eq_true rfl) (Nat.le_of_ble_eq_true rfl) (fun X hV C hF => ?_)
  subst hV
  have C : Ok X RX4 cX4_bitsOfFloat 3 1 := C
  refine r_fload_n C dX4_bitsOfFloat_0 rfl ?_
  refine r_fconst0 C dX4_bitsOfFloat_1 ?_
  refine r_fcmp C dX4_bitsOfFloat_2 ?_
  rw [show (Op.cmpValue (FP.fcmp x FP.fconst0) .l).toInt = cF x FP.fconst0 .l from rfl]
  refine r_if_gt (tgt := 8) C dX4_bitsOfFloat_3 (by decide) (cF_r _ _ _) (fun c3 => ?_) (fun c3 => ?_)
  · have hc := cfBits_1 h (by omega)
    obtain ⟨b, hb1, hb2⟩ := hc.2
    have hb := And.intro hb2 (And.intro hb1 hb1)
    refine r_fload_n C dX4_bitsOfFloat_8 rfl ?_
    refine r_f2d C dX4_bitsOfFloat_9 hc.1 ?_
    refine r_runL (fun aH aL aj a1 a2 a3 => run_S C hF.2.2.1 (kX4_bitsOfDouble hb.2.1) lm_X4_bitsOfDouble ml_X4_310 sm_X4_bitsOfDouble (Nat.le_of_ble_eq_true rfl) dX4_bitsOfFloat_10 rfl (Nat.le_of_ble_eq_true rfl) a1 a2 a3) ?_
    refine r_lstore_n C dX4_bitsOfFloat_13 (by decide) rfl ?_
    refine r_lload_n C dX4_bitsOfFloat_14 rfl ?_
    refine r_bipush C dX4_bitsOfFloat_15 rfl ?_
    refine r_lshr C dX4_bitsOfFloat_17 ?_
    refine r_ldc2 C dX4_bitsOfFloat_18 kl_X4_354  ?_
    refine r_lsub C dX4_bitsOfFloat_21 ?_
    refine r_l2i C dX4_bitsOfFloat_22 ?_
    exact r_iret C hF dX4_bitsOfFloat_23 hb.1 rfl
  · skip
    refine r_iconst C dX4_bitsOfFloat_6 ?_
    exact r_iret C hF dX4_bitsOfFloat_7 (cfBits_0 h (by omega)) rfl
set_option maxRecDepth 20000 in
set_option maxHeartbeats 2000000 in
theorem kX4_hashWith {V : Wo} {μ : Mem} {x y : Int64} : Con V 0 yX4_hashWith cX4_hashWith 4 (some .long) [vV (.long x), vV (.long y)] (μ) (QL V (31 * x + y) (μ)) := by
  refine con_of (ls0 := [vV (.long x), vU, vV (.long y), vU]) (by decide +kernel) rfl (Nat.le_of_ble_eq_true rfl) (Nat.le_of_ble_eq_true rfl) (fun X hV C hF => ?_)
  subst hV
  have C : Ok X RX4 cX4_hashWith 4 0 := C
  refine r_ldc2 C dX4_hashWith_0 kl_X4_348  ?_
  refine r_lload_n C dX4_hashWith_3 rfl ?_
  refine r_lmul C dX4_hashWith_4 ?_
  refine r_lload_n C dX4_hashWith_5 rfl ?_
  refine r_ladd C dX4_hashWith_6 ?_
  exact r_lret C hF dX4_hashWith_7 rfl rfl
set_option maxRecDepth 20000 in
set_option maxHeartbeats 2000000 in
theorem kX5_mix {V : Wo} {μ : Mem} {q : Nat} (hM : MoS V q) {y : Int64} : Con V 0 yX5_mix cX5_mix 3 (none) [vR q, vV (.long y)] (μ) (QV V (wr μ q (s1 (μ q) 14 (31 * Int64.ofInt (μ q 14) + y).toInt))) := by
  refine con_of (ls0 := [vR q, vV (.long y), vU]) (by decide +kernel) rfl (Nat.le_of_ble_eq_true rfl) (Nat.le_of_ble_eq_true rfl) (fun X hV C hF => ?_)
  subst hV
  have C : Ok X RX5 cX5_mix 3 0 := C
  obtain ⟨M0, M1, Ms, Mt, Mr, Md, Ml⟩ := id hM
  refine r_aload_n C dX5_mix_0 rfl ?_
  refine r_ldc2 C dX5_mix_1 kl_X5_215  ?_
  refine r_aload_n C dX5_mix_4 rfl ?_
  refine gf_X5_217 C M1 dX5_mix_5 ?_
  refine r_lmul C dX5_mix_8 ?_
  refine r_lload_n C dX5_mix_9 rfl ?_
  refine r_ladd C dX5_mix_10 ?_
  refine pf_X5_217 C M1 M0 dX5_mix_11 ?_
  exact r_vret C hF dX5_mix_14 rfl
