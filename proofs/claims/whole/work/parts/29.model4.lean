set_option maxRecDepth 20000 in
set_option maxHeartbeats 2000000 in
theorem kX5_save {V : Wo} {μ : Mem} {q : Nat} (hM : MoS V q) (hs : 0 ≤ μ q 2) (hs2 : μ q 2 ≤ 6) : Con V 1 yX5_save cX5_save 2 (none) [vR q] (μ) (QV V (mSaM μ q)) := by
  refine con_of (ls0 := [vR q, vU]) (by decide +kernel) rfl (Nat.le_of_ble_eq_true rfl) (Nat.le_of_ble_eq_true rfl) (fun X hV C hF => ?_)
  subst hV
  have C : Ok X RX5 cX5_save 2 1 := C
  obtain ⟨M0, M1, Ms, Mt, Mr, Md, Ml⟩ := id hM
  have n01 : q ≠ q + 1 := by omega
  have n10 : q + 1 ≠ q := by omega
  by_cases h6 : μ q 2 = 6
  · skip
    refine r_iconst C dX5_save_0 ?_
    refine r_istore_n C dX5_save_1 (by decide) rfl ?_
    refine r_eq (μ' := wr μ (q + 1) (sh5 (μ (q + 1)) 1)) ?_ (by rw [sh5_1, wr_self])
    refine loop_up (F := fun i => RR X (wr μ (q + 1) (sh5 (μ (q + 1)) i)) 2 [vR q, vI i] []) (a := 1) (b := 6) (by omega) ?_ ?_
    · show RR X _ _ [vR q, vI 6] []
      refine r_iload_n C dX5_save_2 rfl ?_
      refine r_bipush C dX5_save_3 rfl ?_
      refine r_icmp_ge (tgt := 31) C dX5_save_5 (by decide) (by omega) (by omega) (fun c5 => ?_) (fun c5 => absurd c5 (by omega))
      refine r_aload_n C dX5_save_31 rfl ?_
      refine r_dup C dX5_save_32 rfl ?_
      refine gf_X5_81 C M1 dX5_save_33 ?_
      refine r_aload_n C dX5_save_36 rfl ?_
      refine gf_X5_81 C M1 dX5_save_37 ?_
      refine r_bipush C dX5_save_40 rfl ?_
      simp (disch := omega) only [wr_n]
      refine r_icmp_ge (tgt := 49) C dX5_save_42 (by decide) (by omega) (by omega) (fun c42 => ?_) (fun c42 => absurd c42 (by omega))
      refine r_iconst C dX5_save_49 ?_
      refine r_iadd C dX5_save_50 ?_
      rw [Int.add_zero]
      skip
      refine pf_X5_81 C M1 M0 dX5_save_51 ?_
      refine r_aload_n C dX5_save_54 rfl ?_
      refine r_iconst C dX5_save_55 ?_
      refine r_aload_n C dX5_save_56 rfl ?_
      refine gf_X5_81 C M1 dX5_save_57 ?_
      simp (disch := omega) only [wr_s, wr_n, s1_s]
      refine r_runV (fun aH aL aj a1 a2 a3 => run_V C hF.2.2.1 (kX5_copies hM (f := 0) (t := μ q 2) (by omega) (by omega) (by omega) (by omega) (by omega)) lm_X5_copies ml_X5_84 im_X5_copies se_X5_copies M1 rfl (Nat.le_of_ble_eq_true rfl) dX5_save_60 rfl (Nat.le_of_ble_eq_true rfl) a1 a2 a3) ?_
      exact r_vret C hF dX5_save_63 (by
            unfold mSaM mSav
            rw [if_pos h6, if_neg (show ¬ μ q 2 < 6 by omega)]
            simp (disch := omega) only [wr_s, wr_n]
            rw [wr_sav, h6])
    · intro i h0 h1 K2
      show RR X _ _ [vR q, vI i] []
      refine r_iload_n C dX5_save_2 rfl ?_
      refine r_bipush C dX5_save_3 rfl ?_
      refine r_icmp_ge (tgt := 31) C dX5_save_5 (by decide) (by omega) (by omega) (fun c5 => absurd c5 (by omega)) (fun c5 => ?_)
      refine r_aload_n C dX5_save_8 rfl ?_
      refine gf_X5_81 C M1 dX5_save_9 ?_
      refine r_bipush C dX5_save_12 rfl ?_
      rw [wr_n _ _ n01]
      refine r_icmp_ne (tgt := 31) C dX5_save_14 (by decide) (by omega) (by omega) (fun c14 => absurd c14 (by omega)) (fun c14 => ?_)
      refine r_aload_n C dX5_save_17 rfl ?_
      refine r_iload_n C dX5_save_18 rfl ?_
      refine r_iconst C dX5_save_19 ?_
      refine r_iadd C dX5_save_20 ?_
      refine r_iload_n C dX5_save_21 rfl ?_
      refine r_runV (fun aH aL aj a1 a2 a3 => run_V C hF.2.2.1 (kX5_copies hM (f := i + 1) (t := i) (by omega) (by omega) (by omega) (by omega) (by omega)) lm_X5_copies ml_X5_84 im_X5_copies se_X5_copies M1 rfl (Nat.le_of_ble_eq_true rfl) dX5_save_22 rfl (Nat.le_of_ble_eq_true rfl) a1 a2 a3) ?_
      refine r_iinc C dX5_save_25 rfl (by decide) rfl ?_
      refine r_goto (tgt := 2) C dX5_save_28 (by decide) ?_
      refine r_eq K2 ?_
      simp only [wr_s, wr_ww]
      rw [sh5_s _ h0]
  · skip
    refine r_iconst C dX5_save_0 ?_
    refine r_istore_n C dX5_save_1 (by decide) rfl ?_
    refine r_iload_n C dX5_save_2 rfl ?_
    refine r_bipush C dX5_save_3 rfl ?_
    refine r_icmp_ge (tgt := 31) C dX5_save_5 (by decide) (by omega) (by omega) (fun c5 => absurd c5 (by omega)) (fun c5 => ?_)
    refine r_aload_n C dX5_save_8 rfl ?_
    refine gf_X5_81 C M1 dX5_save_9 ?_
    refine r_bipush C dX5_save_12 rfl ?_
    refine r_icmp_ne (tgt := 31) C dX5_save_14 (by decide) (by omega) (by omega) (fun c14 => ?_) (fun c14 => absurd c14 (by omega))
    refine r_aload_n C dX5_save_31 rfl ?_
    refine r_dup C dX5_save_32 rfl ?_
    refine gf_X5_81 C M1 dX5_save_33 ?_
    refine r_aload_n C dX5_save_36 rfl ?_
    refine gf_X5_81 C M1 dX5_save_37 ?_
    refine r_bipush C dX5_save_40 rfl ?_
    refine r_icmp_ge (tgt := 49) C dX5_save_42 (by decide) (by omega) (by omega) (fun c42 => absurd c42 (by omega)) (fun c42 => ?_)
    refine r_iconst C dX5_save_45 ?_
    refine r_goto (tgt := 50) C dX5_save_46 (by decide) ?_
    refine r_iadd C dX5_save_50 ?_
    skip
    refine pf_X5_81 C M1 M0 dX5_save_51 ?_
    refine r_aload_n C dX5_save_54 rfl ?_
    refine r_iconst C dX5_save_55 ?_
    refine r_aload_n C dX5_save_56 rfl ?_
    refine gf_X5_81 C M1 dX5_save_57 ?_
    simp (disch := omega) only [wr_s, wr_n, s1_s]
    refine r_runV (fun aH aL aj a1 a2 a3 => run_V C hF.2.2.1 (kX5_copies hM (f := 0) (t := μ q 2 + 1) (by omega) (by omega) (by omega) (by omega) (by omega)) lm_X5_copies ml_X5_84 im_X5_copies se_X5_copies M1 rfl (Nat.le_of_ble_eq_true rfl) dX5_save_60 rfl (Nat.le_of_ble_eq_true rfl) a1 a2 a3) ?_
    exact r_vret C hF dX5_save_63 (by
          unfold mSaM mSav
          rw [if_neg h6, if_pos (show μ q 2 < 6 by omega)]
          simp (disch := omega) only [wr_s, wr_n]
          skip)
set_option maxRecDepth 20000 in
set_option maxHeartbeats 2000000 in
theorem kX5_canBind {V : Wo} {μ : Mem} {q : Nat} (hM : MoS V q) {K : Int} (hv : veW K (μ (q + 1))) : Con V 4 yX5_canBind cX5_canBind 1 (some .boolean) [vR q] (μ) (QI V (b01 (flt ((μ (q + 1)) 0) (vN (μ (q + 1))) (vD (μ (q + 1))) ((μ (q + 1)) 3) = 0)) (lay μ q (-1) ((μ (q + 1)) 3))) := by
  refine con_of (ls0 := [vR q]) (by decide +kernel) rfl (Nat.le_of_ble_eq_true rfl) (Nat.le_of_ble_eq_true rfl) (fun X hV C hF => ?_)
  subst hV
  have C : Ok X RX5 cX5_canBind 1 4 := C
  obtain ⟨M0, M1, Ms, Mt, Mr, Md, Ml⟩ := id hM
  obtain ⟨v0, v1, v2, v3, v4, v5, v6, v7, v8, v9, v10⟩ := id hv
  have hL := (lay_W (μ := μ) (q := q) (p := -1) (by omega) hv).1
  have hvl : veW K (lay μ q (-1) ((μ (q + 1)) 3) (q + 1)) := by rw [lay_1]; exact hv
  have efl : flt (lay μ q (-1) ((μ (q + 1)) 3) (q + 1) 0) (lay μ q (-1) ((μ (q + 1)) 3) (q + 3)) (lay μ q (-1) ((μ (q + 1)) 3) (q + 4)) (lay μ q (-1) ((μ (q + 1)) 3) q 12) = flt ((μ (q + 1)) 0) (vN (μ (q + 1))) (vD (μ (q + 1))) ((μ (q + 1)) 3) := by
    rw [lay_1, lay_q12, lc_m1]
    exact flt_cong lay_N lay_D
  refine r_aload_n C dX5_canBind_0 rfl ?_
  refine r_iconst C dX5_canBind_1 ?_
  refine r_runV (fun aH aL aj a1 a2 a3 => run_V C hF.2.2.1 (kX5_laysOut hM hv (by omega) (by omega)) lm_X5_laysOut ml_X5_71 im_X5_laysOut se_X5_laysOut M1 rfl (Nat.le_of_ble_eq_true rfl) dX5_canBind_2 rfl (Nat.le_of_ble_eq_true rfl) a1 a2 a3) ?_
  refine r_aload_n C dX5_canBind_5 rfl ?_
  refine r_runI (fun aH aL aj a1 a2 a3 => run_V C hF.2.2.1 (kX5_fault hM hvl hL) lm_X5_fault ml_X5_78 im_X5_fault se_X5_fault M1 rfl (Nat.le_of_ble_eq_true rfl) dX5_canBind_6 rfl (Nat.le_of_ble_eq_true rfl) a1 a2 a3) ?_
  rw [efl]
  refine r_if_ne (tgt := 16) C dX5_canBind_9 (by decide) (by have := flt_r (((μ (q + 1)) 0)) ((vN (μ (q + 1)))) ((vD (μ (q + 1)))) (((μ (q + 1)) 3)); omega) (fun c9 => ?_) (fun c9 => ?_)
  · skip
    refine r_iconst C dX5_canBind_16 ?_
    exact r_zret C hF dX5_canBind_17 (by omega) (b01_f c9).symm rfl
  · skip
    refine r_iconst C dX5_canBind_12 ?_
    refine r_goto (tgt := 17) C dX5_canBind_13 (by decide) ?_
    exact r_zret C hF dX5_canBind_17 (by omega) (b01_t c9).symm rfl
set_option maxRecDepth 20000 in
set_option maxHeartbeats 2000000 in
theorem kX5_gather_1 {V : Wo} {μ : Mem} {q : Nat} (hM : MoS V q) {K : Int} (hv : veW K (μ (q + 1))) {x : Int} (hr : inR x) (h : ¬ (0 ≤ x ∧ x < 16)) : Con V 2 yX5_gather cX5_gather 3 (some .int) [vR q, vI x] (μ) (QIr V (0) ((fun ν => MR q μ ν 1 (μ q 2) (μ q 3) (μ q 5) (μ (q + 1)) (μ (q + 2))))) := by
  refine con_of (ls0 := [vR q, vI x, vU]) (by decide +kernel) rfl (Nat.le_of_ble_eq_true rfl) (Nat.le_of_ble_eq_true rfl) (fun X hV C hF => ?_)
  subst hV
  have C : Ok X RX5 cX5_gather 3 2 := C
  obtain ⟨M0, M1, Ms, Mt, Mr, Md, Ml⟩ := id hM
  obtain ⟨v0, v1, v2, v3, v4, v5, v6, v7, v8, v9, v10⟩ := id hv
  refine r_iload_n C dX5_gather_0 rfl ?_
  refine r_runI (fun aH aL aj a1 a2 a3 => run_S C hF.2.2.1 (kX5_isBin (x := x) (by omega)) lm_X5_isBin ml_X5_88 sm_X5_isBin (Nat.le_of_ble_eq_true rfl) dX5_gather_1 rfl (Nat.le_of_ble_eq_true rfl) a1 a2 a3) ?_
  rw [b01_f (by omega)]
  refine r_istore_n C dX5_gather_4 (by decide) rfl ?_
  refine r_aload_n C dX5_gather_5 rfl ?_
  refine r_iload_n C dX5_gather_6 rfl ?_
  refine r_if_ne (tgt := 14) C dX5_gather_7 (by decide) (by omega) (fun c7 => absurd c7 (by omega)) (fun c7 => ?_)
  refine r_iconst C dX5_gather_10 ?_
  refine r_goto (tgt := 27) C dX5_gather_11 (by decide) ?_
  refine r_runI (fun aH aL aj a1 a2 a3 => run_V C hF.2.2.1 (kX5_holds hM (x := 1) (by omega)) lm_X5_holds ml_X5_94 im_X5_holds se_X5_holds M1 rfl (Nat.le_of_ble_eq_true rfl) dX5_gather_27 rfl (Nat.le_of_ble_eq_true rfl) a1 a2 a3) ?_
  rw [b01_f (show ¬ (1 : Int) = 0 by omega)]
  refine r_if_ne (tgt := 35) C dX5_gather_30 (by decide) (by omega) (fun c30 => absurd c30 (by omega)) (fun c30 => ?_)
  refine r_iconst C dX5_gather_33 ?_
  exact r_iretr C hF dX5_gather_34 rfl (MR_th μ q _)
set_option maxRecDepth 20000 in
set_option maxHeartbeats 2000000 in
theorem kX5_gather_2 {V : Wo} {μ : Mem} {q : Nat} (hM : MoS V q) {K : Int} (hv : veW K (μ (q + 1))) {x : Int} (hr : inR x) (h : 0 ≤ x ∧ x < 16) (hc : ¬ (0 < (μ (q + 1)) (6 + x) ∧ (μ (q + 1)) 3 < 20)) : Con V 2 yX5_gather cX5_gather 3 (some .int) [vR q, vI x] (μ) (QIr V (0) ((fun ν => MR q μ ν 2 (μ q 2) (μ q 3) (μ q 5) (μ (q + 1)) (μ (q + 2))))) := by
  refine con_of (ls0 := [vR q, vI x, vU]) (by decide +kernel) rfl (Nat.le_of_ble_eq_true rfl) (Nat.le_of_ble_eq_true rfl) (fun X hV C hF => ?_)
  subst hV
  have C : Ok X RX5 cX5_gather 3 2 := C
  obtain ⟨M0, M1, Ms, Mt, Mr, Md, Ml⟩ := id hM
  obtain ⟨v0, v1, v2, v3, v4, v5, v6, v7, v8, v9, v10⟩ := id hv
  refine r_iload_n C dX5_gather_0 rfl ?_
  refine r_runI (fun aH aL aj a1 a2 a3 => run_S C hF.2.2.1 (kX5_isBin (x := x) (by omega)) lm_X5_isBin ml_X5_88 sm_X5_isBin (Nat.le_of_ble_eq_true rfl) dX5_gather_1 rfl (Nat.le_of_ble_eq_true rfl) a1 a2 a3) ?_
  rw [b01_t (by omega)]
  refine r_istore_n C dX5_gather_4 (by decide) rfl ?_
  refine r_aload_n C dX5_gather_5 rfl ?_
  refine r_iload_n C dX5_gather_6 rfl ?_
  refine r_if_ne (tgt := 14) C dX5_gather_7 (by decide) (by omega) (fun c7 => ?_) (fun c7 => absurd c7 (by omega))
  refine r_aload_n C dX5_gather_14 rfl ?_
  refine r_iload_n C dX5_gather_15 rfl ?_
  refine r_runI (fun aH aL aj a1 a2 a3 => run_V C hF.2.2.1 (kX5_canGather hM hv (x := x) (by omega) (by omega)) lm_X5_canGather ml_X5_91 im_X5_canGather se_X5_canGather M1 rfl (Nat.le_of_ble_eq_true rfl) dX5_gather_16 rfl (Nat.le_of_ble_eq_true rfl) a1 a2 a3) ?_
  rw [b01_f (by omega)]
  refine r_if_ne (tgt := 26) C dX5_gather_19 (by decide) (by omega) (fun c19 => absurd c19 (by omega)) (fun c19 => ?_)
  refine r_iconst C dX5_gather_22 ?_
  refine r_goto (tgt := 27) C dX5_gather_23 (by decide) ?_
  refine r_runI (fun aH aL aj a1 a2 a3 => run_V C hF.2.2.1 (kX5_holds hM (x := 2) (by omega)) lm_X5_holds ml_X5_94 im_X5_holds se_X5_holds M1 rfl (Nat.le_of_ble_eq_true rfl) dX5_gather_27 rfl (Nat.le_of_ble_eq_true rfl) a1 a2 a3) ?_
  rw [b01_f (show ¬ (2 : Int) = 0 by omega)]
  refine r_if_ne (tgt := 35) C dX5_gather_30 (by decide) (by omega) (fun c30 => absurd c30 (by omega)) (fun c30 => ?_)
  refine r_iconst C dX5_gather_33 ?_
  exact r_iretr C hF dX5_gather_34 rfl (MR_th μ q _)
set_option maxRecDepth 20000 in
set_option maxHeartbeats 2000000 in
theorem kX5_gather_0 {V : Wo} {μ : Mem} {q : Nat} (hM : MoS V q) {K : Int} (hv : veW K (μ (q + 1))) (hs : 0 ≤ μ q 2) (hs2 : μ q 2 ≤ 6) {x : Int} (hr : inR x) (h : 0 ≤ x ∧ x < 16) (hc : 0 < (μ (q + 1)) (6 + x) ∧ (μ (q + 1)) 3 < 20) : Con V 2 yX5_gather cX5_gather 3 (some .int) [vR q, vI x] (μ) (QIr V ((μ (q + 1)) 3 + 1) ((fun ν => MR q μ ν 0 (sv1 (μ q 2)) (μ q 3) (μ q 5) (mIns (mSav (μ (q + 1)) (μ q 2)) ((μ (q + 1)) 3) x) (μ (q + 2))))) := by
  refine con_of (ls0 := [vR q, vI x, vU]) (by decide +kernel) rfl (Nat.le_of_ble_eq_true rfl) (Nat.le_of_ble_eq_true rfl) (fun X hV C hF => ?_)
  subst hV
  have C : Ok X RX5 cX5_gather 3 2 := C
  obtain ⟨M0, M1, Ms, Mt, Mr, Md, Ml⟩ := id hM
  obtain ⟨v0, v1, v2, v3, v4, v5, v6, v7, v8, v9, v10⟩ := id hv
  have e1 : mS μ q (q + 1) = mSav (μ (q + 1)) (μ q 2) := mS_1 μ q
  have hv2 : veW K (mS μ q (q + 1)) := by rw [e1]; exact veW_sav hv hs
  have el : ∀ j, j < 110 → mS μ q (q + 1) j = (μ (q + 1)) j := fun j hj => by rw [e1]; exact mSav_lo hs hj
  have e3 := el 3 (by omega)
  refine r_iload_n C dX5_gather_0 rfl ?_
  refine r_runI (fun aH aL aj a1 a2 a3 => run_S C hF.2.2.1 (kX5_isBin (x := x) (by omega)) lm_X5_isBin ml_X5_88 sm_X5_isBin (Nat.le_of_ble_eq_true rfl) dX5_gather_1 rfl (Nat.le_of_ble_eq_true rfl) a1 a2 a3) ?_
  rw [b01_t (by omega)]
  refine r_istore_n C dX5_gather_4 (by decide) rfl ?_
  refine r_aload_n C dX5_gather_5 rfl ?_
  refine r_iload_n C dX5_gather_6 rfl ?_
  refine r_if_ne (tgt := 14) C dX5_gather_7 (by decide) (by omega) (fun c7 => ?_) (fun c7 => absurd c7 (by omega))
  refine r_aload_n C dX5_gather_14 rfl ?_
  refine r_iload_n C dX5_gather_15 rfl ?_
  refine r_runI (fun aH aL aj a1 a2 a3 => run_V C hF.2.2.1 (kX5_canGather hM hv (x := x) (by omega) (by omega)) lm_X5_canGather ml_X5_91 im_X5_canGather se_X5_canGather M1 rfl (Nat.le_of_ble_eq_true rfl) dX5_gather_16 rfl (Nat.le_of_ble_eq_true rfl) a1 a2 a3) ?_
  rw [b01_t (by omega)]
  refine r_if_ne (tgt := 26) C dX5_gather_19 (by decide) (by omega) (fun c19 => ?_) (fun c19 => absurd c19 (by omega))
  refine r_iconst C dX5_gather_26 ?_
  refine r_runI (fun aH aL aj a1 a2 a3 => run_V C hF.2.2.1 (kX5_holds hM (x := 0) (by omega)) lm_X5_holds ml_X5_94 im_X5_holds se_X5_holds M1 rfl (Nat.le_of_ble_eq_true rfl) dX5_gather_27 rfl (Nat.le_of_ble_eq_true rfl) a1 a2 a3) ?_
  rw [b01_t rfl]
  refine r_if_ne (tgt := 35) C dX5_gather_30 (by decide) (by omega) (fun c30 => ?_) (fun c30 => absurd c30 (by omega))
  refine r_aload_n C dX5_gather_35 rfl ?_
  refine r_runV (fun aH aL aj a1 a2 a3 => run_V C hF.2.2.1 (kX5_save (μ := wr μ q (s1 (μ q) 0 0)) hM (by rw [wr_s, s1_n _ _ (by omega)]; exact hs) (by rw [wr_s, s1_n _ _ (by omega)]; exact hs2)) lm_X5_save ml_X5_97 im_X5_save se_X5_save M1 rfl (Nat.le_of_ble_eq_true rfl) dX5_gather_36 rfl (Nat.le_of_ble_eq_true rfl) a1 a2 a3) ?_
  rw [mS_of]
  refine r_aload_n C dX5_gather_39 rfl ?_
  refine r_aload_n C dX5_gather_40 rfl ?_
  refine gf_X5_7 C M1 dX5_gather_41 ?_
  refine r_iconst C dX5_gather_44 ?_
  refine r_iald C Ms (by omega) (by omega) dX5_gather_45 ?_
  rw [e3]
  refine r_iload_n C dX5_gather_46 rfl ?_
  refine r_runI (fun aH aL aj a1 a2 a3 => run_V C hF.2.2.1 (kX5_inserts hM hv2 (p := (μ (q + 1)) 3) (by omega) (by omega) (by omega) (by omega) (by omega)) lm_X5_inserts ml_X5_100 im_X5_inserts se_X5_inserts M1 rfl (Nat.le_of_ble_eq_true rfl) dX5_gather_47 rfl (Nat.le_of_ble_eq_true rfl) a1 a2 a3) ?_
  exact r_iretr C hF dX5_gather_50 (by rw [e3]) (by rw [e1]; exact MR_mS μ q _)
set_option maxRecDepth 20000 in
set_option maxHeartbeats 2000000 in
theorem kX5_insert_1 {V : Wo} {μ : Mem} {q : Nat} (hM : MoS V q) {K : Int} (hv : veW K (μ (q + 1))) {p : Int} (hr0 : inR p) {x : Int} (hr : inR x) (h : ¬ (0 ≤ p ∧ p ≤ (μ (q + 1)) 3)) : Con V 2 yX5_insert cX5_insert 4 (some .int) [vR q, vI p, vI x] (μ) (QIr V (0) ((fun ν => MR q μ ν 1 (μ q 2) (μ q 3) (μ q 5) (μ (q + 1)) (μ (q + 2))))) := by
  refine con_of (ls0 := [vR q, vI p, vI x, vU]) (by decide +kernel) rfl (Nat.le_of_ble_eq_true rfl) (Nat.le_of_ble_eq_true rfl) (fun X hV C hF => ?_)
  subst hV
  have C : Ok X RX5 cX5_insert 4 2 := C
  obtain ⟨M0, M1, Ms, Mt, Mr, Md, Ml⟩ := id hM
  obtain ⟨v0, v1, v2, v3, v4, v5, v6, v7, v8, v9, v10⟩ := id hv
  refine r_iload_n C dX5_insert_0 rfl ?_
  refine r_iconst C dX5_insert_1 ?_
  refine r_aload_n C dX5_insert_2 rfl ?_
  refine gf_X5_7 C M1 dX5_insert_3 ?_
  refine r_iconst C dX5_insert_6 ?_
  refine r_iald C Ms (by omega) (by omega) dX5_insert_7 ?_
  refine r_runI (fun aH aL aj a1 a2 a3 => run_S C hF.2.2.1 (kX5_in (v := p) (l := 0) (u := (μ (q + 1)) 3) (by omega) (by omega) (by omega)) lm_X5_in ml_X5_29 sm_X5_in (Nat.le_of_ble_eq_true rfl) dX5_insert_8 rfl (Nat.le_of_ble_eq_true rfl) a1 a2 a3) ?_
  rw [b01_f (by omega)]
  refine r_if_eq (tgt := 25) C dX5_insert_11 (by decide) (by omega) (fun c11 => ?_) (fun c11 => absurd c11 (by omega))
  refine r_iconst C dX5_insert_25 ?_
  refine r_istore_n C dX5_insert_26 (by decide) rfl ?_
  refine r_aload_n C dX5_insert_27 rfl ?_
  refine r_iload_n C dX5_insert_28 rfl ?_
  refine r_if_ne (tgt := 36) C dX5_insert_29 (by decide) (by omega) (fun c29 => absurd c29 (by omega)) (fun c29 => ?_)
  refine r_iconst C dX5_insert_32 ?_
  refine r_goto (tgt := 49) C dX5_insert_33 (by decide) ?_
  refine r_runI (fun aH aL aj a1 a2 a3 => run_V C hF.2.2.1 (kX5_holds hM (x := 1) (by omega)) lm_X5_holds ml_X5_94 im_X5_holds se_X5_holds M1 rfl (Nat.le_of_ble_eq_true rfl) dX5_insert_49 rfl (Nat.le_of_ble_eq_true rfl) a1 a2 a3) ?_
  rw [b01_f (show ¬ (1 : Int) = 0 by omega)]
  refine r_if_ne (tgt := 57) C dX5_insert_52 (by decide) (by omega) (fun c52 => absurd c52 (by omega)) (fun c52 => ?_)
  refine r_iconst C dX5_insert_55 ?_
  exact r_iretr C hF dX5_insert_56 rfl (MR_th μ q _)
set_option maxRecDepth 20000 in
set_option maxHeartbeats 2000000 in
theorem kX5_insert_1b {V : Wo} {μ : Mem} {q : Nat} (hM : MoS V q) {K : Int} (hv : veW K (μ (q + 1))) {p : Int} (hr0 : inR p) {x : Int} (hr : inR x) (h0 : 0 ≤ p ∧ p ≤ (μ (q + 1)) 3) (h : ¬ (0 ≤ x ∧ x < 16)) : Con V 2 yX5_insert cX5_insert 4 (some .int) [vR q, vI p, vI x] (μ) (QIr V (0) ((fun ν => MR q μ ν 1 (μ q 2) (μ q 3) (μ q 5) (μ (q + 1)) (μ (q + 2))))) := by
  refine con_of (ls0 := [vR q, vI p, vI x, vU]) (by decide +kernel) rfl (Nat.le_of_ble_eq_true rfl) (Nat.le_of_ble_eq_true rfl) (fun X hV C hF => ?_)
  subst hV
  have C : Ok X RX5 cX5_insert 4 2 := C
  obtain ⟨M0, M1, Ms, Mt, Mr, Md, Ml⟩ := id hM
  obtain ⟨v0, v1, v2, v3, v4, v5, v6, v7, v8, v9, v10⟩ := id hv
  refine r_iload_n C dX5_insert_0 rfl ?_
  refine r_iconst C dX5_insert_1 ?_
  refine r_aload_n C dX5_insert_2 rfl ?_
  refine gf_X5_7 C M1 dX5_insert_3 ?_
  refine r_iconst C dX5_insert_6 ?_
  refine r_iald C Ms (by omega) (by omega) dX5_insert_7 ?_
  refine r_runI (fun aH aL aj a1 a2 a3 => run_S C hF.2.2.1 (kX5_in (v := p) (l := 0) (u := (μ (q + 1)) 3) (by omega) (by omega) (by omega)) lm_X5_in ml_X5_29 sm_X5_in (Nat.le_of_ble_eq_true rfl) dX5_insert_8 rfl (Nat.le_of_ble_eq_true rfl) a1 a2 a3) ?_
  rw [b01_t (by omega)]
  refine r_if_eq (tgt := 25) C dX5_insert_11 (by decide) (by omega) (fun c11 => absurd c11 (by omega)) (fun c11 => ?_)
  refine r_iload_n C dX5_insert_14 rfl ?_
  refine r_runI (fun aH aL aj a1 a2 a3 => run_S C hF.2.2.1 (kX5_isBin (x := x) (by omega)) lm_X5_isBin ml_X5_88 sm_X5_isBin (Nat.le_of_ble_eq_true rfl) dX5_insert_15 rfl (Nat.le_of_ble_eq_true rfl) a1 a2 a3) ?_
  rw [b01_f (by omega)]
  refine r_if_eq (tgt := 25) C dX5_insert_18 (by decide) (by omega) (fun c18 => ?_) (fun c18 => absurd c18 (by omega))
  refine r_iconst C dX5_insert_25 ?_
  refine r_istore_n C dX5_insert_26 (by decide) rfl ?_
  refine r_aload_n C dX5_insert_27 rfl ?_
  refine r_iload_n C dX5_insert_28 rfl ?_
  refine r_if_ne (tgt := 36) C dX5_insert_29 (by decide) (by omega) (fun c29 => absurd c29 (by omega)) (fun c29 => ?_)
  refine r_iconst C dX5_insert_32 ?_
  refine r_goto (tgt := 49) C dX5_insert_33 (by decide) ?_
  refine r_runI (fun aH aL aj a1 a2 a3 => run_V C hF.2.2.1 (kX5_holds hM (x := 1) (by omega)) lm_X5_holds ml_X5_94 im_X5_holds se_X5_holds M1 rfl (Nat.le_of_ble_eq_true rfl) dX5_insert_49 rfl (Nat.le_of_ble_eq_true rfl) a1 a2 a3) ?_
  rw [b01_f (show ¬ (1 : Int) = 0 by omega)]
  refine r_if_ne (tgt := 57) C dX5_insert_52 (by decide) (by omega) (fun c52 => absurd c52 (by omega)) (fun c52 => ?_)
  refine r_iconst C dX5_insert_55 ?_
  exact r_iretr C hF dX5_insert_56 rfl (MR_th μ q _)
set_option maxRecDepth 20000 in
set_option maxHeartbeats 2000000 in
theorem kX5_insert_2 {V : Wo} {μ : Mem} {q : Nat} (hM : MoS V q) {K : Int} (hv : veW K (μ (q + 1))) {p : Int} (hr0 : inR p) {x : Int} (hr : inR x) (h0 : 0 ≤ p ∧ p ≤ (μ (q + 1)) 3) (h : 0 ≤ x ∧ x < 16) (hc : ¬ (0 < (μ (q + 1)) (6 + x) ∧ (μ (q + 1)) 3 < 20)) : Con V 2 yX5_insert cX5_insert 4 (some .int) [vR q, vI p, vI x] (μ) (QIr V (0) ((fun ν => MR q μ ν 2 (μ q 2) (μ q 3) (μ q 5) (μ (q + 1)) (μ (q + 2))))) := by
  refine con_of (ls0 := [vR q, vI p, vI x, vU]) (by decide +kernel) rfl (Nat.le_of_ble_eq_true rfl) (Nat.le_of_ble_eq_true rfl) (fun X hV C hF => ?_)
  subst hV
  have C : Ok X RX5 cX5_insert 4 2 := C
  obtain ⟨M0, M1, Ms, Mt, Mr, Md, Ml⟩ := id hM
  obtain ⟨v0, v1, v2, v3, v4, v5, v6, v7, v8, v9, v10⟩ := id hv
  refine r_iload_n C dX5_insert_0 rfl ?_
  refine r_iconst C dX5_insert_1 ?_
  refine r_aload_n C dX5_insert_2 rfl ?_
  refine gf_X5_7 C M1 dX5_insert_3 ?_
  refine r_iconst C dX5_insert_6 ?_
  refine r_iald C Ms (by omega) (by omega) dX5_insert_7 ?_
  refine r_runI (fun aH aL aj a1 a2 a3 => run_S C hF.2.2.1 (kX5_in (v := p) (l := 0) (u := (μ (q + 1)) 3) (by omega) (by omega) (by omega)) lm_X5_in ml_X5_29 sm_X5_in (Nat.le_of_ble_eq_true rfl) dX5_insert_8 rfl (Nat.le_of_ble_eq_true rfl) a1 a2 a3) ?_
  rw [b01_t (by omega)]
  refine r_if_eq (tgt := 25) C dX5_insert_11 (by decide) (by omega) (fun c11 => absurd c11 (by omega)) (fun c11 => ?_)
  refine r_iload_n C dX5_insert_14 rfl ?_
  refine r_runI (fun aH aL aj a1 a2 a3 => run_S C hF.2.2.1 (kX5_isBin (x := x) (by omega)) lm_X5_isBin ml_X5_88 sm_X5_isBin (Nat.le_of_ble_eq_true rfl) dX5_insert_15 rfl (Nat.le_of_ble_eq_true rfl) a1 a2 a3) ?_
  rw [b01_t (by omega)]
  refine r_if_eq (tgt := 25) C dX5_insert_18 (by decide) (by omega) (fun c18 => absurd c18 (by omega)) (fun c18 => ?_)
  refine r_iconst C dX5_insert_21 ?_
  refine r_goto (tgt := 26) C dX5_insert_22 (by decide) ?_
  refine r_istore_n C dX5_insert_26 (by decide) rfl ?_
  refine r_aload_n C dX5_insert_27 rfl ?_
  refine r_iload_n C dX5_insert_28 rfl ?_
  refine r_if_ne (tgt := 36) C dX5_insert_29 (by decide) (by omega) (fun c29 => ?_) (fun c29 => absurd c29 (by omega))
  refine r_aload_n C dX5_insert_36 rfl ?_
  refine r_iload_n C dX5_insert_37 rfl ?_
  refine r_runI (fun aH aL aj a1 a2 a3 => run_V C hF.2.2.1 (kX5_canGather hM hv (x := x) (by omega) (by omega)) lm_X5_canGather ml_X5_91 im_X5_canGather se_X5_canGather M1 rfl (Nat.le_of_ble_eq_true rfl) dX5_insert_38 rfl (Nat.le_of_ble_eq_true rfl) a1 a2 a3) ?_
  rw [b01_f (by omega)]
  refine r_if_ne (tgt := 48) C dX5_insert_41 (by decide) (by omega) (fun c41 => absurd c41 (by omega)) (fun c41 => ?_)
  refine r_iconst C dX5_insert_44 ?_
  refine r_goto (tgt := 49) C dX5_insert_45 (by decide) ?_
  refine r_runI (fun aH aL aj a1 a2 a3 => run_V C hF.2.2.1 (kX5_holds hM (x := 2) (by omega)) lm_X5_holds ml_X5_94 im_X5_holds se_X5_holds M1 rfl (Nat.le_of_ble_eq_true rfl) dX5_insert_49 rfl (Nat.le_of_ble_eq_true rfl) a1 a2 a3) ?_
  rw [b01_f (show ¬ (2 : Int) = 0 by omega)]
  refine r_if_ne (tgt := 57) C dX5_insert_52 (by decide) (by omega) (fun c52 => absurd c52 (by omega)) (fun c52 => ?_)
  refine r_iconst C dX5_insert_55 ?_
  exact r_iretr C hF dX5_insert_56 rfl (MR_th μ q _)
set_option maxRecDepth 20000 in
set_option maxHeartbeats 2000000 in
theorem kX5_insert_0 {V : Wo} {μ : Mem} {q : Nat} (hM : MoS V q) {K : Int} (hv : veW K (μ (q + 1))) (hs : 0 ≤ μ q 2) (hs2 : μ q 2 ≤ 6) {p : Int} (hr0 : inR p) {x : Int} (hr : inR x) (h0 : 0 ≤ p ∧ p ≤ (μ (q + 1)) 3) (h : 0 ≤ x ∧ x < 16) (hc : 0 < (μ (q + 1)) (6 + x) ∧ (μ (q + 1)) 3 < 20) : Con V 2 yX5_insert cX5_insert 4 (some .int) [vR q, vI p, vI x] (μ) (QIr V ((μ (q + 1)) 3 + 1) ((fun ν => MR q μ ν 0 (sv1 (μ q 2)) (μ q 3) (μ q 5) (mIns (mSav (μ (q + 1)) (μ q 2)) p x) (μ (q + 2))))) := by
  refine con_of (ls0 := [vR q, vI p, vI x, vU]) (by decide +kernel) rfl (Nat.le_of_ble_eq_true rfl) (Nat.le_of_ble_eq_true rfl) (fun X hV C hF => ?_)
  subst hV
  have C : Ok X RX5 cX5_insert 4 2 := C
  obtain ⟨M0, M1, Ms, Mt, Mr, Md, Ml⟩ := id hM
  obtain ⟨v0, v1, v2, v3, v4, v5, v6, v7, v8, v9, v10⟩ := id hv
  have e1 : mS μ q (q + 1) = mSav (μ (q + 1)) (μ q 2) := mS_1 μ q
  have hv2 : veW K (mS μ q (q + 1)) := by rw [e1]; exact veW_sav hv hs
  have el : ∀ j, j < 110 → mS μ q (q + 1) j = (μ (q + 1)) j := fun j hj => by rw [e1]; exact mSav_lo hs hj
  have e3 := el 3 (by omega)
  refine r_iload_n C dX5_insert_0 rfl ?_
  refine r_iconst C dX5_insert_1 ?_
  refine r_aload_n C dX5_insert_2 rfl ?_
  refine gf_X5_7 C M1 dX5_insert_3 ?_
  refine r_iconst C dX5_insert_6 ?_
  refine r_iald C Ms (by omega) (by omega) dX5_insert_7 ?_
  refine r_runI (fun aH aL aj a1 a2 a3 => run_S C hF.2.2.1 (kX5_in (v := p) (l := 0) (u := (μ (q + 1)) 3) (by omega) (by omega) (by omega)) lm_X5_in ml_X5_29 sm_X5_in (Nat.le_of_ble_eq_true rfl) dX5_insert_8 rfl (Nat.le_of_ble_eq_true rfl) a1 a2 a3) ?_
  rw [b01_t (by omega)]
  refine r_if_eq (tgt := 25) C dX5_insert_11 (by decide) (by omega) (fun c11 => absurd c11 (by omega)) (fun c11 => ?_)
  refine r_iload_n C dX5_insert_14 rfl ?_
  refine r_runI (fun aH aL aj a1 a2 a3 => run_S C hF.2.2.1 (kX5_isBin (x := x) (by omega)) lm_X5_isBin ml_X5_88 sm_X5_isBin (Nat.le_of_ble_eq_true rfl) dX5_insert_15 rfl (Nat.le_of_ble_eq_true rfl) a1 a2 a3) ?_
  rw [b01_t (by omega)]
  refine r_if_eq (tgt := 25) C dX5_insert_18 (by decide) (by omega) (fun c18 => absurd c18 (by omega)) (fun c18 => ?_)
  refine r_iconst C dX5_insert_21 ?_
  refine r_goto (tgt := 26) C dX5_insert_22 (by decide) ?_
  refine r_istore_n C dX5_insert_26 (by decide) rfl ?_
  refine r_aload_n C dX5_insert_27 rfl ?_
  refine r_iload_n C dX5_insert_28 rfl ?_
  refine r_if_ne (tgt := 36) C dX5_insert_29 (by decide) (by omega) (fun c29 => ?_) (fun c29 => absurd c29 (by omega))
  refine r_aload_n C dX5_insert_36 rfl ?_
  refine r_iload_n C dX5_insert_37 rfl ?_
  refine r_runI (fun aH aL aj a1 a2 a3 => run_V C hF.2.2.1 (kX5_canGather hM hv (x := x) (by omega) (by omega)) lm_X5_canGather ml_X5_91 im_X5_canGather se_X5_canGather M1 rfl (Nat.le_of_ble_eq_true rfl) dX5_insert_38 rfl (Nat.le_of_ble_eq_true rfl) a1 a2 a3) ?_
  rw [b01_t (by omega)]
  refine r_if_ne (tgt := 48) C dX5_insert_41 (by decide) (by omega) (fun c41 => ?_) (fun c41 => absurd c41 (by omega))
  refine r_iconst C dX5_insert_48 ?_
  refine r_runI (fun aH aL aj a1 a2 a3 => run_V C hF.2.2.1 (kX5_holds hM (x := 0) (by omega)) lm_X5_holds ml_X5_94 im_X5_holds se_X5_holds M1 rfl (Nat.le_of_ble_eq_true rfl) dX5_insert_49 rfl (Nat.le_of_ble_eq_true rfl) a1 a2 a3) ?_
  rw [b01_t rfl]
  refine r_if_ne (tgt := 57) C dX5_insert_52 (by decide) (by omega) (fun c52 => ?_) (fun c52 => absurd c52 (by omega))
  refine r_aload_n C dX5_insert_57 rfl ?_
  refine r_runV (fun aH aL aj a1 a2 a3 => run_V C hF.2.2.1 (kX5_save (μ := wr μ q (s1 (μ q) 0 0)) hM (by rw [wr_s, s1_n _ _ (by omega)]; exact hs) (by rw [wr_s, s1_n _ _ (by omega)]; exact hs2)) lm_X5_save ml_X5_97 im_X5_save se_X5_save M1 rfl (Nat.le_of_ble_eq_true rfl) dX5_insert_58 rfl (Nat.le_of_ble_eq_true rfl) a1 a2 a3) ?_
  rw [mS_of]
  refine r_aload_n C dX5_insert_61 rfl ?_
  refine r_iload_n C dX5_insert_62 rfl ?_
  refine r_iload_n C dX5_insert_63 rfl ?_
  refine r_runI (fun aH aL aj a1 a2 a3 => run_V C hF.2.2.1 (kX5_inserts hM hv2 (p := p) (by omega) (by omega) (by omega) (by omega) (by omega)) lm_X5_inserts ml_X5_100 im_X5_inserts se_X5_inserts M1 rfl (Nat.le_of_ble_eq_true rfl) dX5_insert_64 rfl (Nat.le_of_ble_eq_true rfl) a1 a2 a3) ?_
  exact r_iretr C hF dX5_insert_67 (by rw [e3]) (by rw [e1]; exact MR_mS μ q _)
set_option maxRecDepth 20000 in
set_option maxHeartbeats 2000000 in
theorem kX5_pull_1 {V : Wo} {μ : Mem} {q : Nat} (hM : MoS V q) {K : Int} (hv : veW K (μ (q + 1))) {p : Int} (hr0 : inR p) (h : ¬ (0 ≤ p ∧ p < (μ (q + 1)) 3)) : Con V 2 yX5_pull cX5_pull 2 (some .int) [vR q, vI p] (μ) (QIr V (0) ((fun ν => MR q μ ν 1 (μ q 2) (μ q 3) (μ q 5) (μ (q + 1)) (μ (q + 2))))) := by
  refine con_of (ls0 := [vR q, vI p]) (by decide +kernel) rfl (Nat.le_of_ble_eq_true rfl) (Nat.le_of_ble_eq_true rfl) (fun X hV C hF => ?_)
  subst hV
  have C : Ok X RX5 cX5_pull 2 2 := C
  obtain ⟨M0, M1, Ms, Mt, Mr, Md, Ml⟩ := id hM
  obtain ⟨v0, v1, v2, v3, v4, v5, v6, v7, v8, v9, v10⟩ := id hv
  refine r_aload_n C dX5_pull_0 rfl ?_
  refine r_aload_n C dX5_pull_1 rfl ?_
  refine r_iload_n C dX5_pull_2 rfl ?_
  refine r_runI (fun aH aL aj a1 a2 a3 => run_V C hF.2.2.1 (kX5_isPlace hM hv (x := p) (by omega)) lm_X5_isPlace ml_X5_103 im_X5_isPlace se_X5_isPlace M1 rfl (Nat.le_of_ble_eq_true rfl) dX5_pull_3 rfl (Nat.le_of_ble_eq_true rfl) a1 a2 a3) ?_
  rw [b01_f (by omega)]
  refine r_if_eq (tgt := 13) C dX5_pull_6 (by decide) (by omega) (fun c6 => ?_) (fun c6 => absurd c6 (by omega))
  refine r_iconst C dX5_pull_13 ?_
  refine r_runI (fun aH aL aj a1 a2 a3 => run_V C hF.2.2.1 (kX5_holds hM (x := 1) (by omega)) lm_X5_holds ml_X5_94 im_X5_holds se_X5_holds M1 rfl (Nat.le_of_ble_eq_true rfl) dX5_pull_14 rfl (Nat.le_of_ble_eq_true rfl) a1 a2 a3) ?_
  rw [b01_f (show ¬ (1 : Int) = 0 by omega)]
  refine r_if_ne (tgt := 22) C dX5_pull_17 (by decide) (by omega) (fun c17 => absurd c17 (by omega)) (fun c17 => ?_)
  refine r_iconst C dX5_pull_20 ?_
  exact r_iretr C hF dX5_pull_21 rfl (MR_th μ q _)
set_option maxRecDepth 20000 in
set_option maxHeartbeats 2000000 in
theorem kX5_pull_0 {V : Wo} {μ : Mem} {q : Nat} (hM : MoS V q) {K : Int} (hv : veW K (μ (q + 1))) (hs : 0 ≤ μ q 2) (hs2 : μ q 2 ≤ 6) {p : Int} (hr0 : inR p) (h : 0 ≤ p ∧ p < (μ (q + 1)) 3) : Con V 2 yX5_pull cX5_pull 2 (some .int) [vR q, vI p] (μ) (QIr V ((μ (q + 1)) (70 + p)) ((fun ν => MR q μ ν 0 (sv1 (μ q 2)) (μ q 3) (μ q 5) (mPul (mSav (μ (q + 1)) (μ q 2)) p) (μ (q + 2))))) := by
  refine con_of (ls0 := [vR q, vI p]) (by decide +kernel) rfl (Nat.le_of_ble_eq_true rfl) (Nat.le_of_ble_eq_true rfl) (fun X hV C hF => ?_)
  subst hV
  have C : Ok X RX5 cX5_pull 2 2 := C
  obtain ⟨M0, M1, Ms, Mt, Mr, Md, Ml⟩ := id hM
  obtain ⟨v0, v1, v2, v3, v4, v5, v6, v7, v8, v9, v10⟩ := id hv
  have e1 : mS μ q (q + 1) = mSav (μ (q + 1)) (μ q 2) := mS_1 μ q
  have hv2 : veW K (mS μ q (q + 1)) := by rw [e1]; exact veW_sav hv hs
  have el : ∀ j, j < 110 → mS μ q (q + 1) j = (μ (q + 1)) j := fun j hj => by rw [e1]; exact mSav_lo hs hj
  have e3 := el 3 (by omega)
  refine r_aload_n C dX5_pull_0 rfl ?_
  refine r_aload_n C dX5_pull_1 rfl ?_
  refine r_iload_n C dX5_pull_2 rfl ?_
  refine r_runI (fun aH aL aj a1 a2 a3 => run_V C hF.2.2.1 (kX5_isPlace hM hv (x := p) (by omega)) lm_X5_isPlace ml_X5_103 im_X5_isPlace se_X5_isPlace M1 rfl (Nat.le_of_ble_eq_true rfl) dX5_pull_3 rfl (Nat.le_of_ble_eq_true rfl) a1 a2 a3) ?_
  rw [b01_t (by omega)]
  refine r_if_eq (tgt := 13) C dX5_pull_6 (by decide) (by omega) (fun c6 => absurd c6 (by omega)) (fun c6 => ?_)
  refine r_iconst C dX5_pull_9 ?_
  refine r_goto (tgt := 14) C dX5_pull_10 (by decide) ?_
  refine r_runI (fun aH aL aj a1 a2 a3 => run_V C hF.2.2.1 (kX5_holds hM (x := 0) (by omega)) lm_X5_holds ml_X5_94 im_X5_holds se_X5_holds M1 rfl (Nat.le_of_ble_eq_true rfl) dX5_pull_14 rfl (Nat.le_of_ble_eq_true rfl) a1 a2 a3) ?_
  rw [b01_t rfl]
  refine r_if_ne (tgt := 22) C dX5_pull_17 (by decide) (by omega) (fun c17 => ?_) (fun c17 => absurd c17 (by omega))
  refine r_aload_n C dX5_pull_22 rfl ?_
  refine r_runV (fun aH aL aj a1 a2 a3 => run_V C hF.2.2.1 (kX5_save (μ := wr μ q (s1 (μ q) 0 0)) hM (by rw [wr_s, s1_n _ _ (by omega)]; exact hs) (by rw [wr_s, s1_n _ _ (by omega)]; exact hs2)) lm_X5_save ml_X5_97 im_X5_save se_X5_save M1 rfl (Nat.le_of_ble_eq_true rfl) dX5_pull_23 rfl (Nat.le_of_ble_eq_true rfl) a1 a2 a3) ?_
  rw [mS_of]
  refine r_aload_n C dX5_pull_26 rfl ?_
  refine r_iload_n C dX5_pull_27 rfl ?_
  refine r_runI (fun aH aL aj a1 a2 a3 => run_V C hF.2.2.1 (kX5_pulls hM hv2 (p := p) (by omega) (by omega)) lm_X5_pulls ml_X5_106 im_X5_pulls se_X5_pulls M1 rfl (Nat.le_of_ble_eq_true rfl) dX5_pull_28 rfl (Nat.le_of_ble_eq_true rfl) a1 a2 a3) ?_
  exact r_iretr C hF dX5_pull_31 (by rw [el (70 + p) (by omega)]) (by rw [e1]; exact MR_mS μ q _)
set_option maxRecDepth 20000 in
set_option maxHeartbeats 2000000 in
theorem kX5_flip_1 {V : Wo} {μ : Mem} {q : Nat} (hM : MoS V q) {K : Int} (hv : veW K (μ (q + 1))) {p : Int} (hr0 : inR p) (h : ¬ (0 ≤ p ∧ p < (μ (q + 1)) 3)) : Con V 2 yX5_flip cX5_flip 2 (some .int) [vR q, vI p] (μ) (QIr V (0) ((fun ν => MR q μ ν 1 (μ q 2) (μ q 3) (μ q 5) (μ (q + 1)) (μ (q + 2))))) := by
  refine con_of (ls0 := [vR q, vI p]) (by decide +kernel) rfl (Nat.le_of_ble_eq_true rfl) (Nat.le_of_ble_eq_true rfl) (fun X hV C hF => ?_)
  subst hV
  have C : Ok X RX5 cX5_flip 2 2 := C
  obtain ⟨M0, M1, Ms, Mt, Mr, Md, Ml⟩ := id hM
  obtain ⟨v0, v1, v2, v3, v4, v5, v6, v7, v8, v9, v10⟩ := id hv
  refine r_aload_n C dX5_flip_0 rfl ?_
  refine r_aload_n C dX5_flip_1 rfl ?_
  refine r_iload_n C dX5_flip_2 rfl ?_
  refine r_runI (fun aH aL aj a1 a2 a3 => run_V C hF.2.2.1 (kX5_isPlace hM hv (x := p) (by omega)) lm_X5_isPlace ml_X5_103 im_X5_isPlace se_X5_isPlace M1 rfl (Nat.le_of_ble_eq_true rfl) dX5_flip_3 rfl (Nat.le_of_ble_eq_true rfl) a1 a2 a3) ?_
  rw [b01_f (by omega)]
  refine r_if_eq (tgt := 13) C dX5_flip_6 (by decide) (by omega) (fun c6 => ?_) (fun c6 => absurd c6 (by omega))
  refine r_iconst C dX5_flip_13 ?_
  refine r_runI (fun aH aL aj a1 a2 a3 => run_V C hF.2.2.1 (kX5_holds hM (x := 1) (by omega)) lm_X5_holds ml_X5_94 im_X5_holds se_X5_holds M1 rfl (Nat.le_of_ble_eq_true rfl) dX5_flip_14 rfl (Nat.le_of_ble_eq_true rfl) a1 a2 a3) ?_
  rw [b01_f (show ¬ (1 : Int) = 0 by omega)]
  refine r_if_ne (tgt := 22) C dX5_flip_17 (by decide) (by omega) (fun c17 => absurd c17 (by omega)) (fun c17 => ?_)
  refine r_iconst C dX5_flip_20 ?_
  exact r_iretr C hF dX5_flip_21 rfl (MR_th μ q _)
set_option maxRecDepth 20000 in
set_option maxHeartbeats 2000000 in
theorem kX5_flip_0 {V : Wo} {μ : Mem} {q : Nat} (hM : MoS V q) {K : Int} (hv : veW K (μ (q + 1))) (hs : 0 ≤ μ q 2) (hs2 : μ q 2 ≤ 6) {p : Int} (hr0 : inR p) (h : 0 ≤ p ∧ p < (μ (q + 1)) 3) : Con V 2 yX5_flip cX5_flip 2 (some .int) [vR q, vI p] (μ) (QIr V (mk ((μ (q + 1)) 1) ((μ (q + 1)) (70 + p)) (1 - (μ (q + 1)) (90 + p))) ((fun ν => MR q μ ν 0 (sv1 (μ q 2)) (μ q 3) (μ q 5) (mFli (mSav (μ (q + 1)) (μ q 2)) p) (μ (q + 2))))) := by
  refine con_of (ls0 := [vR q, vI p]) (by decide +kernel) rfl (Nat.le_of_ble_eq_true rfl) (Nat.le_of_ble_eq_true rfl) (fun X hV C hF => ?_)
  subst hV
  have C : Ok X RX5 cX5_flip 2 2 := C
  obtain ⟨M0, M1, Ms, Mt, Mr, Md, Ml⟩ := id hM
  obtain ⟨v0, v1, v2, v3, v4, v5, v6, v7, v8, v9, v10⟩ := id hv
  have e1 : mS μ q (q + 1) = mSav (μ (q + 1)) (μ q 2) := mS_1 μ q
  have hv2 : veW K (mS μ q (q + 1)) := by rw [e1]; exact veW_sav hv hs
  have el : ∀ j, j < 110 → mS μ q (q + 1) j = (μ (q + 1)) j := fun j hj => by rw [e1]; exact mSav_lo hs hj
  have e3 := el 3 (by omega)
  refine r_aload_n C dX5_flip_0 rfl ?_
  refine r_aload_n C dX5_flip_1 rfl ?_
  refine r_iload_n C dX5_flip_2 rfl ?_
  refine r_runI (fun aH aL aj a1 a2 a3 => run_V C hF.2.2.1 (kX5_isPlace hM hv (x := p) (by omega)) lm_X5_isPlace ml_X5_103 im_X5_isPlace se_X5_isPlace M1 rfl (Nat.le_of_ble_eq_true rfl) dX5_flip_3 rfl (Nat.le_of_ble_eq_true rfl) a1 a2 a3) ?_
  rw [b01_t (by omega)]
  refine r_if_eq (tgt := 13) C dX5_flip_6 (by decide) (by omega) (fun c6 => absurd c6 (by omega)) (fun c6 => ?_)
  refine r_iconst C dX5_flip_9 ?_
  refine r_goto (tgt := 14) C dX5_flip_10 (by decide) ?_
  refine r_runI (fun aH aL aj a1 a2 a3 => run_V C hF.2.2.1 (kX5_holds hM (x := 0) (by omega)) lm_X5_holds ml_X5_94 im_X5_holds se_X5_holds M1 rfl (Nat.le_of_ble_eq_true rfl) dX5_flip_14 rfl (Nat.le_of_ble_eq_true rfl) a1 a2 a3) ?_
  rw [b01_t rfl]
  refine r_if_ne (tgt := 22) C dX5_flip_17 (by decide) (by omega) (fun c17 => ?_) (fun c17 => absurd c17 (by omega))
  refine r_aload_n C dX5_flip_22 rfl ?_
  refine r_runV (fun aH aL aj a1 a2 a3 => run_V C hF.2.2.1 (kX5_save (μ := wr μ q (s1 (μ q) 0 0)) hM (by rw [wr_s, s1_n _ _ (by omega)]; exact hs) (by rw [wr_s, s1_n _ _ (by omega)]; exact hs2)) lm_X5_save ml_X5_97 im_X5_save se_X5_save M1 rfl (Nat.le_of_ble_eq_true rfl) dX5_flip_23 rfl (Nat.le_of_ble_eq_true rfl) a1 a2 a3) ?_
  rw [mS_of]
  refine r_aload_n C dX5_flip_26 rfl ?_
  refine r_iload_n C dX5_flip_27 rfl ?_
  refine r_runI (fun aH aL aj a1 a2 a3 => run_V C hF.2.2.1 (kX5_flips hM hv2 (p := p) (by omega) (by omega)) lm_X5_flips ml_X5_109 im_X5_flips se_X5_flips M1 rfl (Nat.le_of_ble_eq_true rfl) dX5_flip_28 rfl (Nat.le_of_ble_eq_true rfl) a1 a2 a3) ?_
  exact r_iretr C hF dX5_flip_31 (by rw [el 1 (by omega), el (70 + p) (by omega), el (90 + p) (by omega)]) (by rw [e1]; exact MR_mS μ q _)
set_option maxRecDepth 20000 in
set_option maxHeartbeats 2000000 in
theorem kX5_move_1 {V : Wo} {μ : Mem} {q : Nat} (hM : MoS V q) {K : Int} (hv : veW K (μ (q + 1))) {p : Int} (hr0 : inR p) {r : Int} (hr1 : inR r) (h : ¬ (0 ≤ p ∧ p < (μ (q + 1)) 3)) : Con V 4 yX5_move cX5_move 3 (some .int) [vR q, vI p, vI r] (μ) (QIr V (0) ((fun ν => MR q μ ν 1 (μ q 2) (μ q 3) (μ q 5) (μ (q + 1)) (μ (q + 2))))) := by
  refine con_of (ls0 := [vR q, vI p, vI r]) (by decide +kernel) rfl (Nat.le_of_ble_eq_true rfl) (Nat.le_of_ble_eq_true rfl) (fun X hV C hF => ?_)
  subst hV
  have C : Ok X RX5 cX5_move 3 4 := C
  obtain ⟨M0, M1, Ms, Mt, Mr, Md, Ml⟩ := id hM
  obtain ⟨v0, v1, v2, v3, v4, v5, v6, v7, v8, v9, v10⟩ := id hv
  refine r_aload_n C dX5_move_0 rfl ?_
  refine r_aload_n C dX5_move_1 rfl ?_
  refine r_iload_n C dX5_move_2 rfl ?_
  refine r_runI (fun aH aL aj a1 a2 a3 => run_V C hF.2.2.1 (kX5_isPlace hM hv (x := p) (by omega)) lm_X5_isPlace ml_X5_103 im_X5_isPlace se_X5_isPlace M1 rfl (Nat.le_of_ble_eq_true rfl) dX5_move_3 rfl (Nat.le_of_ble_eq_true rfl) a1 a2 a3) ?_
  rw [b01_f (by omega)]
  refine r_if_eq (tgt := 21) C dX5_move_6 (by decide) (by omega) (fun c6 => ?_) (fun c6 => absurd c6 (by omega))
  refine r_iconst C dX5_move_21 ?_
  refine r_runI (fun aH aL aj a1 a2 a3 => run_V C hF.2.2.1 (kX5_holds hM (x := 1) (by omega)) lm_X5_holds ml_X5_94 im_X5_holds se_X5_holds M1 rfl (Nat.le_of_ble_eq_true rfl) dX5_move_22 rfl (Nat.le_of_ble_eq_true rfl) a1 a2 a3) ?_
  rw [b01_f (show ¬ (1 : Int) = 0 by omega)]
  refine r_if_ne (tgt := 30) C dX5_move_25 (by decide) (by omega) (fun c25 => absurd c25 (by omega)) (fun c25 => ?_)
  refine r_iconst C dX5_move_28 ?_
  exact r_iretr C hF dX5_move_29 rfl (MR_th μ q _)
set_option maxRecDepth 20000 in
set_option maxHeartbeats 2000000 in
theorem kX5_move_1b {V : Wo} {μ : Mem} {q : Nat} (hM : MoS V q) {K : Int} (hv : veW K (μ (q + 1))) {p : Int} (hr0 : inR p) {r : Int} (hr1 : inR r) (h : 0 ≤ p ∧ p < (μ (q + 1)) 3) (h2 : ¬ (0 ≤ r ∧ r < (μ (q + 1)) 3)) : Con V 4 yX5_move cX5_move 3 (some .int) [vR q, vI p, vI r] (μ) (QIr V (0) ((fun ν => MR q μ ν 1 (μ q 2) (μ q 3) (μ q 5) (μ (q + 1)) (μ (q + 2))))) := by
  refine con_of (ls0 := [vR q, vI p, vI r]) (by decide +kernel) rfl (Nat.le_of_ble_eq_true rfl) (Nat.le_of_ble_eq_true rfl) (fun X hV C hF => ?_)
  subst hV
  have C : Ok X RX5 cX5_move 3 4 := C
  obtain ⟨M0, M1, Ms, Mt, Mr, Md, Ml⟩ := id hM
  obtain ⟨v0, v1, v2, v3, v4, v5, v6, v7, v8, v9, v10⟩ := id hv
  refine r_aload_n C dX5_move_0 rfl ?_
  refine r_aload_n C dX5_move_1 rfl ?_
  refine r_iload_n C dX5_move_2 rfl ?_
  refine r_runI (fun aH aL aj a1 a2 a3 => run_V C hF.2.2.1 (kX5_isPlace hM hv (x := p) (by omega)) lm_X5_isPlace ml_X5_103 im_X5_isPlace se_X5_isPlace M1 rfl (Nat.le_of_ble_eq_true rfl) dX5_move_3 rfl (Nat.le_of_ble_eq_true rfl) a1 a2 a3) ?_
  rw [b01_t (by omega)]
  refine r_if_eq (tgt := 21) C dX5_move_6 (by decide) (by omega) (fun c6 => absurd c6 (by omega)) (fun c6 => ?_)
  refine r_aload_n C dX5_move_9 rfl ?_
  refine r_iload_n C dX5_move_10 rfl ?_
  refine r_runI (fun aH aL aj a1 a2 a3 => run_V C hF.2.2.1 (kX5_isPlace hM hv (x := r) (by omega)) lm_X5_isPlace ml_X5_103 im_X5_isPlace se_X5_isPlace M1 rfl (Nat.le_of_ble_eq_true rfl) dX5_move_11 rfl (Nat.le_of_ble_eq_true rfl) a1 a2 a3) ?_
  rw [b01_f (by omega)]
  refine r_if_eq (tgt := 21) C dX5_move_14 (by decide) (by omega) (fun c14 => ?_) (fun c14 => absurd c14 (by omega))
  refine r_iconst C dX5_move_21 ?_
  refine r_runI (fun aH aL aj a1 a2 a3 => run_V C hF.2.2.1 (kX5_holds hM (x := 1) (by omega)) lm_X5_holds ml_X5_94 im_X5_holds se_X5_holds M1 rfl (Nat.le_of_ble_eq_true rfl) dX5_move_22 rfl (Nat.le_of_ble_eq_true rfl) a1 a2 a3) ?_
  rw [b01_f (show ¬ (1 : Int) = 0 by omega)]
  refine r_if_ne (tgt := 30) C dX5_move_25 (by decide) (by omega) (fun c25 => absurd c25 (by omega)) (fun c25 => ?_)
  refine r_iconst C dX5_move_28 ?_
  exact r_iretr C hF dX5_move_29 rfl (MR_th μ q _)
set_option maxRecDepth 20000 in
set_option maxHeartbeats 2000000 in
theorem kX5_move_0 {V : Wo} {μ : Mem} {q : Nat} (hM : MoS V q) {K : Int} (hv : veW K (μ (q + 1))) (hs : 0 ≤ μ q 2) (hs2 : μ q 2 ≤ 6) {p : Int} (hr0 : inR p) {r : Int} (hr1 : inR r) (h : 0 ≤ p ∧ p < (μ (q + 1)) 3) (h2 : 0 ≤ r ∧ r < (μ (q + 1)) 3) : Con V 4 yX5_move cX5_move 3 (some .int) [vR q, vI p, vI r] (μ) (QIr V (brks ((μ (q + 1)) 1) (vN (mMov (mSav (μ (q + 1)) (μ q 2)) p r)) (vD (mMov (mSav (μ (q + 1)) (μ q 2)) p r)) ((μ (q + 1)) 3)) ((fun ν => MR q μ ν 0 (sv1 (μ q 2)) (μ q 3) (μ q 5) (mMov (mSav (μ (q + 1)) (μ q 2)) p r) (μ (q + 2))))) := by
  refine con_of (ls0 := [vR q, vI p, vI r]) (by decide +kernel) rfl (Nat.le_of_ble_eq_true rfl) (Nat.le_of_ble_eq_true rfl) (fun X hV C hF => ?_)
  subst hV
  have C : Ok X RX5 cX5_move 3 4 := C
  obtain ⟨M0, M1, Ms, Mt, Mr, Md, Ml⟩ := id hM
  obtain ⟨v0, v1, v2, v3, v4, v5, v6, v7, v8, v9, v10⟩ := id hv
  have e1 : mS μ q (q + 1) = mSav (μ (q + 1)) (μ q 2) := mS_1 μ q
  have hv2 : veW K (mS μ q (q + 1)) := by rw [e1]; exact veW_sav hv hs
  have el : ∀ j, j < 110 → mS μ q (q + 1) j = (μ (q + 1)) j := fun j hj => by rw [e1]; exact mSav_lo hs hj
  have e3 := el 3 (by omega)
  refine r_aload_n C dX5_move_0 rfl ?_
  refine r_aload_n C dX5_move_1 rfl ?_
  refine r_iload_n C dX5_move_2 rfl ?_
  refine r_runI (fun aH aL aj a1 a2 a3 => run_V C hF.2.2.1 (kX5_isPlace hM hv (x := p) (by omega)) lm_X5_isPlace ml_X5_103 im_X5_isPlace se_X5_isPlace M1 rfl (Nat.le_of_ble_eq_true rfl) dX5_move_3 rfl (Nat.le_of_ble_eq_true rfl) a1 a2 a3) ?_
  rw [b01_t (by omega)]
  refine r_if_eq (tgt := 21) C dX5_move_6 (by decide) (by omega) (fun c6 => absurd c6 (by omega)) (fun c6 => ?_)
  refine r_aload_n C dX5_move_9 rfl ?_
  refine r_iload_n C dX5_move_10 rfl ?_
  refine r_runI (fun aH aL aj a1 a2 a3 => run_V C hF.2.2.1 (kX5_isPlace hM hv (x := r) (by omega)) lm_X5_isPlace ml_X5_103 im_X5_isPlace se_X5_isPlace M1 rfl (Nat.le_of_ble_eq_true rfl) dX5_move_11 rfl (Nat.le_of_ble_eq_true rfl) a1 a2 a3) ?_
  rw [b01_t (by omega)]
  refine r_if_eq (tgt := 21) C dX5_move_14 (by decide) (by omega) (fun c14 => absurd c14 (by omega)) (fun c14 => ?_)
  refine r_iconst C dX5_move_17 ?_
  refine r_goto (tgt := 22) C dX5_move_18 (by decide) ?_
  refine r_runI (fun aH aL aj a1 a2 a3 => run_V C hF.2.2.1 (kX5_holds hM (x := 0) (by omega)) lm_X5_holds ml_X5_94 im_X5_holds se_X5_holds M1 rfl (Nat.le_of_ble_eq_true rfl) dX5_move_22 rfl (Nat.le_of_ble_eq_true rfl) a1 a2 a3) ?_
  rw [b01_t rfl]
  refine r_if_ne (tgt := 30) C dX5_move_25 (by decide) (by omega) (fun c25 => ?_) (fun c25 => absurd c25 (by omega))
  refine r_aload_n C dX5_move_30 rfl ?_
  refine r_runV (fun aH aL aj a1 a2 a3 => run_V C hF.2.2.1 (kX5_save (μ := wr μ q (s1 (μ q) 0 0)) hM (by rw [wr_s, s1_n _ _ (by omega)]; exact hs) (by rw [wr_s, s1_n _ _ (by omega)]; exact hs2)) lm_X5_save ml_X5_97 im_X5_save se_X5_save M1 rfl (Nat.le_of_ble_eq_true rfl) dX5_move_31 rfl (Nat.le_of_ble_eq_true rfl) a1 a2 a3) ?_
  rw [mS_of]
  refine r_aload_n C dX5_move_34 rfl ?_
  refine r_iload_n C dX5_move_35 rfl ?_
  refine r_iload_n C dX5_move_36 rfl ?_
  refine r_runI (fun aH aL aj a1 a2 a3 => run_V C hF.2.2.1 (kX5_moves hM hv2 (p := p) (r := r) (by omega) (by omega) (by omega) (by omega)) lm_X5_moves ml_X5_112 im_X5_moves se_X5_moves M1 rfl (Nat.le_of_ble_eq_true rfl) dX5_move_37 rfl (Nat.le_of_ble_eq_true rfl) a1 a2 a3) ?_
  exact r_iretr C hF dX5_move_40 (by
        rw [e3, el 1 (by omega), brks_cong lay_N lay_D, wr_s, e1]) (by rw [e3, e1]; exact MR_lay (MR_mS μ q _))
set_option maxRecDepth 20000 in
set_option maxHeartbeats 2000000 in
theorem kX5_bind_1 {V : Wo} {μ : Mem} {q : Nat} (hM : MoS V q) {K : Int} (hv : veW K (μ (q + 1))) (h : ¬ flt ((μ (q + 1)) 0) (vN (μ (q + 1))) (vD (μ (q + 1))) ((μ (q + 1)) 3) = 0) : Con V 5 yX5_bind cX5_bind 1 (some .int) [vR q] (μ) (QIr V (0) ((fun ν => MR q μ ν 1 (μ q 2) (μ q 3) (μ q 5) (μ (q + 1)) (μ (q + 2))))) := by
  refine con_of (ls0 := [vR q]) (by decide +kernel) rfl (Nat.le_of_ble_eq_true rfl) (Nat.le_of_ble_eq_true rfl) (fun X hV C hF => ?_)
  subst hV
  have C : Ok X RX5 cX5_bind 1 5 := C
  obtain ⟨M0, M1, Ms, Mt, Mr, Md, Ml⟩ := id hM
  obtain ⟨v0, v1, v2, v3, v4, v5, v6, v7, v8, v9, v10⟩ := id hv
  have ml2 : (lay μ q (-1) ((μ (q + 1)) 3)) q 2 = μ q 2 := by rw [lay_q, s1_n _ _ (by omega)]
  have ml3 : (lay μ q (-1) ((μ (q + 1)) 3)) q 3 = μ q 3 := by rw [lay_q, s1_n _ _ (by omega)]
  have ml5 : (lay μ q (-1) ((μ (q + 1)) 3)) q 5 = μ q 5 := by rw [lay_q, s1_n _ _ (by omega)]
  have mlt : (lay μ q (-1) ((μ (q + 1)) 3)) (q + 2) = μ (q + 2) := lay_o _ _ _ (by omega) (by omega) (by omega)
  refine r_aload_n C dX5_bind_0 rfl ?_
  refine r_aload_n C dX5_bind_1 rfl ?_
  refine r_runI (fun aH aL aj a1 a2 a3 => run_V C hF.2.2.1 (kX5_canBind hM hv) lm_X5_canBind ml_X5_115 im_X5_canBind se_X5_canBind M1 rfl (Nat.le_of_ble_eq_true rfl) dX5_bind_2 rfl (Nat.le_of_ble_eq_true rfl) a1 a2 a3) ?_
  rw [b01_f h]
  refine r_if_eq (tgt := 12) C dX5_bind_5 (by decide) (by omega) (fun c5 => ?_) (fun c5 => absurd c5 (by omega))
  refine r_iconst C dX5_bind_12 ?_
  refine r_runI (fun aH aL aj a1 a2 a3 => run_V C hF.2.2.1 (kX5_holds hM (x := 1) (by omega)) lm_X5_holds ml_X5_94 im_X5_holds se_X5_holds M1 rfl (Nat.le_of_ble_eq_true rfl) dX5_bind_13 rfl (Nat.le_of_ble_eq_true rfl) a1 a2 a3) ?_
  rw [b01_f (show ¬ (1 : Int) = 0 by omega)]
  refine r_if_ne (tgt := 21) C dX5_bind_16 (by decide) (by omega) (fun c16 => absurd c16 (by omega)) (fun c16 => ?_)
  refine r_iconst C dX5_bind_19 ?_
  exact r_iretr C hF dX5_bind_20 rfl (MR_tr (MU_lay μ q (-1) ((μ (q + 1)) 3)).1 (MR_c (MR_th (lay μ q (-1) ((μ (q + 1)) 3)) q 1) rfl ml2 ml3 ml5 (lay_1 ..) mlt))
set_option maxRecDepth 20000 in
set_option maxHeartbeats 2000000 in
theorem kX5_bind_0 {V : Wo} {μ : Mem} {q : Nat} (hM : MoS V q) {K : Int} (hv : veW K (μ (q + 1))) (hs : 0 ≤ μ q 2) (hs2 : μ q 2 ≤ 6) (h : flt ((μ (q + 1)) 0) (vN (μ (q + 1))) (vD (μ (q + 1))) ((μ (q + 1)) 3) = 0) : Con V 5 yX5_bind cX5_bind 1 (some .int) [vR q] (μ) (QIr V ((μ (q + 1)) 4 + 1) ((fun ν => MR q μ ν 0 (sv1 (μ q 2)) (μ q 3) (μ q 5) (mBin (mSav (μ (q + 1)) (μ q 2))) (μ (q + 2))))) := by
  refine con_of (ls0 := [vR q]) (by decide +kernel) rfl (Nat.le_of_ble_eq_true rfl) (Nat.le_of_ble_eq_true rfl) (fun X hV C hF => ?_)
  subst hV
  have C : Ok X RX5 cX5_bind 1 5 := C
  obtain ⟨M0, M1, Ms, Mt, Mr, Md, Ml⟩ := id hM
  obtain ⟨v0, v1, v2, v3, v4, v5, v6, v7, v8, v9, v10⟩ := id hv
  have ml2 : (lay μ q (-1) ((μ (q + 1)) 3)) q 2 = μ q 2 := by rw [lay_q, s1_n _ _ (by omega)]
  have ml3 : (lay μ q (-1) ((μ (q + 1)) 3)) q 3 = μ q 3 := by rw [lay_q, s1_n _ _ (by omega)]
  have ml5 : (lay μ q (-1) ((μ (q + 1)) 3)) q 5 = μ q 5 := by rw [lay_q, s1_n _ _ (by omega)]
  have mlt : (lay μ q (-1) ((μ (q + 1)) 3)) (q + 2) = μ (q + 2) := lay_o _ _ _ (by omega) (by omega) (by omega)
  have e1 : mS (lay μ q (-1) ((μ (q + 1)) 3)) q (q + 1) = mSav (μ (q + 1)) (μ q 2) := by rw [mS_1, lay_1, ml2]
  have hv2 : veW K (mS (lay μ q (-1) ((μ (q + 1)) 3)) q (q + 1)) := by rw [e1]; exact veW_sav hv hs
  have el : ∀ j, j < 110 → mS (lay μ q (-1) ((μ (q + 1)) 3)) q (q + 1) j = (μ (q + 1)) j := fun j hj => by rw [e1]; exact mSav_lo hs hj
  refine r_aload_n C dX5_bind_0 rfl ?_
  refine r_aload_n C dX5_bind_1 rfl ?_
  refine r_runI (fun aH aL aj a1 a2 a3 => run_V C hF.2.2.1 (kX5_canBind hM hv) lm_X5_canBind ml_X5_115 im_X5_canBind se_X5_canBind M1 rfl (Nat.le_of_ble_eq_true rfl) dX5_bind_2 rfl (Nat.le_of_ble_eq_true rfl) a1 a2 a3) ?_
  rw [b01_t h]
  refine r_if_eq (tgt := 12) C dX5_bind_5 (by decide) (by omega) (fun c5 => absurd c5 (by omega)) (fun c5 => ?_)
  refine r_iconst C dX5_bind_8 ?_
  refine r_goto (tgt := 13) C dX5_bind_9 (by decide) ?_
  refine r_runI (fun aH aL aj a1 a2 a3 => run_V C hF.2.2.1 (kX5_holds hM (x := 0) (by omega)) lm_X5_holds ml_X5_94 im_X5_holds se_X5_holds M1 rfl (Nat.le_of_ble_eq_true rfl) dX5_bind_13 rfl (Nat.le_of_ble_eq_true rfl) a1 a2 a3) ?_
  rw [b01_t rfl]
  refine r_if_ne (tgt := 21) C dX5_bind_16 (by decide) (by omega) (fun c16 => ?_) (fun c16 => absurd c16 (by omega))
  refine r_aload_n C dX5_bind_21 rfl ?_
  refine r_runV (fun aH aL aj a1 a2 a3 => run_V C hF.2.2.1 (kX5_save (μ := wr (lay μ q (-1) ((μ (q + 1)) 3)) q (s1 ((lay μ q (-1) ((μ (q + 1)) 3)) q) 0 0)) hM (by rw [wr_s, s1_n _ _ (by omega)]; rw [ml2]; exact hs) (by rw [wr_s, s1_n _ _ (by omega)]; rw [ml2]; exact hs2)) lm_X5_save ml_X5_97 im_X5_save se_X5_save M1 rfl (Nat.le_of_ble_eq_true rfl) dX5_bind_22 rfl (Nat.le_of_ble_eq_true rfl) a1 a2 a3) ?_
  rw [mS_of]
  refine r_aload_n C dX5_bind_25 rfl ?_
  refine r_runI (fun aH aL aj a1 a2 a3 => run_V C hF.2.2.1 (kX5_binds hM hv2) lm_X5_binds ml_X5_119 im_X5_binds se_X5_binds M1 rfl (Nat.le_of_ble_eq_true rfl) dX5_bind_26 rfl (Nat.le_of_ble_eq_true rfl) a1 a2 a3) ?_
  exact r_iretr C hF dX5_bind_29 (by rw [el 4 (by omega)]) (by rw [e1]; exact MR_tr (MU_lay μ q (-1) ((μ (q + 1)) 3)).1 (MR_c (MR_mS (lay μ q (-1) ((μ (q + 1)) 3)) q _) rfl (by rw [ml2]) ml3 ml5 rfl mlt))
set_option maxRecDepth 20000 in
set_option maxHeartbeats 2000000 in
theorem kX5_print_1 {V : Wo} {μ : Mem} {q : Nat} (hM : MoS V q) {K : Int} (hv : veW K (μ (q + 1))) {x : Int} (hr : inR x) {c : Int} (hc : inR c) (h : ¬ (0 ≤ x ∧ x < 16)) : Con V 2 yX5_print cX5_print 4 (some .int) [vR q, vI x, vI c] (μ) (QIr V (0) ((fun ν => MR q μ ν 1 (μ q 2) (μ q 3) (μ q 5) (μ (q + 1)) (μ (q + 2))))) := by
  refine con_of (ls0 := [vR q, vI x, vI c, vU]) (by decide +kernel) rfl (Nat.le_of_ble_eq_true rfl) (Nat.le_of_ble_eq_true rfl) (fun X hV C hF => ?_)
  subst hV
  have C : Ok X RX5 cX5_print 4 2 := C
  obtain ⟨M0, M1, Ms, Mt, Mr, Md, Ml⟩ := id hM
  obtain ⟨v0, v1, v2, v3, v4, v5, v6, v7, v8, v9, v10⟩ := id hv
  refine r_iload_n C dX5_print_0 rfl ?_
  refine r_runI (fun aH aL aj a1 a2 a3 => run_S C hF.2.2.1 (kX5_isBin (x := x) (by omega)) lm_X5_isBin ml_X5_88 sm_X5_isBin (Nat.le_of_ble_eq_true rfl) dX5_print_1 rfl (Nat.le_of_ble_eq_true rfl) a1 a2 a3) ?_
  rw [b01_f (by omega)]
  refine r_istore_n C dX5_print_4 (by decide) rfl ?_
  refine r_aload_n C dX5_print_5 rfl ?_
  refine r_iload_n C dX5_print_6 rfl ?_
  refine r_if_ne (tgt := 14) C dX5_print_7 (by decide) (by omega) (fun c7 => absurd c7 (by omega)) (fun c7 => ?_)
  refine r_iconst C dX5_print_10 ?_
  refine r_goto (tgt := 49) C dX5_print_11 (by decide) ?_
  refine r_runI (fun aH aL aj a1 a2 a3 => run_V C hF.2.2.1 (kX5_holds hM (x := 1) (by omega)) lm_X5_holds ml_X5_94 im_X5_holds se_X5_holds M1 rfl (Nat.le_of_ble_eq_true rfl) dX5_print_49 rfl (Nat.le_of_ble_eq_true rfl) a1 a2 a3) ?_
  rw [b01_f (show ¬ (1 : Int) = 0 by omega)]
  refine r_if_ne (tgt := 57) C dX5_print_52 (by decide) (by omega) (fun c52 => absurd c52 (by omega)) (fun c52 => ?_)
  refine r_iconst C dX5_print_55 ?_
  exact r_iretr C hF dX5_print_56 rfl (MR_th μ q _)
set_option maxRecDepth 20000 in
set_option maxHeartbeats 2000000 in
theorem kX5_print_2 {V : Wo} {μ : Mem} {q : Nat} (hM : MoS V q) {K : Int} (hv : veW K (μ (q + 1))) {x : Int} (hr : inR x) {c : Int} (hc : inR c) (h : 0 ≤ x ∧ x < 16) (h2 : ¬ (1 ≤ c ∧ c ≤ 20)) : Con V 2 yX5_print cX5_print 4 (some .int) [vR q, vI x, vI c] (μ) (QIr V (0) ((fun ν => MR q μ ν 2 (μ q 2) (μ q 3) (μ q 5) (μ (q + 1)) (μ (q + 2))))) := by
  refine con_of (ls0 := [vR q, vI x, vI c, vU]) (by decide +kernel) rfl (Nat.le_of_ble_eq_true rfl) (Nat.le_of_ble_eq_true rfl) (fun X hV C hF => ?_)
  subst hV
  have C : Ok X RX5 cX5_print 4 2 := C
  obtain ⟨M0, M1, Ms, Mt, Mr, Md, Ml⟩ := id hM
  obtain ⟨v0, v1, v2, v3, v4, v5, v6, v7, v8, v9, v10⟩ := id hv
  refine r_iload_n C dX5_print_0 rfl ?_
  refine r_runI (fun aH aL aj a1 a2 a3 => run_S C hF.2.2.1 (kX5_isBin (x := x) (by omega)) lm_X5_isBin ml_X5_88 sm_X5_isBin (Nat.le_of_ble_eq_true rfl) dX5_print_1 rfl (Nat.le_of_ble_eq_true rfl) a1 a2 a3) ?_
  rw [b01_t (by omega)]
  refine r_istore_n C dX5_print_4 (by decide) rfl ?_
  refine r_aload_n C dX5_print_5 rfl ?_
  refine r_iload_n C dX5_print_6 rfl ?_
  refine r_if_ne (tgt := 14) C dX5_print_7 (by decide) (by omega) (fun c7 => ?_) (fun c7 => absurd c7 (by omega))
  refine r_iload_n C dX5_print_14 rfl ?_
  refine r_iconst C dX5_print_15 ?_
  refine r_bipush C dX5_print_16 rfl ?_
  refine r_runI (fun aH aL aj a1 a2 a3 => run_S C hF.2.2.1 (kX5_in (v := c) (l := 1) (u := 20) (by omega) (by omega) (by omega)) lm_X5_in ml_X5_29 sm_X5_in (Nat.le_of_ble_eq_true rfl) dX5_print_18 rfl (Nat.le_of_ble_eq_true rfl) a1 a2 a3) ?_
  rw [b01_f (by omega)]
  refine r_if_ne (tgt := 28) C dX5_print_21 (by decide) (by omega) (fun c21 => absurd c21 (by omega)) (fun c21 => ?_)
  refine r_iconst C dX5_print_24 ?_
  refine r_goto (tgt := 49) C dX5_print_25 (by decide) ?_
  refine r_runI (fun aH aL aj a1 a2 a3 => run_V C hF.2.2.1 (kX5_holds hM (x := 2) (by omega)) lm_X5_holds ml_X5_94 im_X5_holds se_X5_holds M1 rfl (Nat.le_of_ble_eq_true rfl) dX5_print_49 rfl (Nat.le_of_ble_eq_true rfl) a1 a2 a3) ?_
  rw [b01_f (show ¬ (2 : Int) = 0 by omega)]
  refine r_if_ne (tgt := 57) C dX5_print_52 (by decide) (by omega) (fun c52 => absurd c52 (by omega)) (fun c52 => ?_)
  refine r_iconst C dX5_print_55 ?_
  exact r_iretr C hF dX5_print_56 rfl (MR_th μ q _)
set_option maxRecDepth 20000 in
set_option maxHeartbeats 2000000 in
theorem kX5_print_3 {V : Wo} {μ : Mem} {q : Nat} (hM : MoS V q) {K : Int} (hv : veW K (μ (q + 1))) {x : Int} (hr : inR x) {c : Int} (hc : inR c) (h : 0 ≤ x ∧ x < 16) (h2 : 1 ≤ c ∧ c ≤ 20) (h3 : ¬ (μ (q + 1)) (6 + x) + c ≤ 99) : Con V 2 yX5_print cX5_print 4 (some .int) [vR q, vI x, vI c] (μ) (QIr V (0) ((fun ν => MR q μ ν 3 (μ q 2) (μ q 3) (μ q 5) (μ (q + 1)) (μ (q + 2))))) := by
  refine con_of (ls0 := [vR q, vI x, vI c, vU]) (by decide +kernel) rfl (Nat.le_of_ble_eq_true rfl) (Nat.le_of_ble_eq_true rfl) (fun X hV C hF => ?_)
  subst hV
  have C : Ok X RX5 cX5_print 4 2 := C
  obtain ⟨M0, M1, Ms, Mt, Mr, Md, Ml⟩ := id hM
  obtain ⟨v0, v1, v2, v3, v4, v5, v6, v7, v8, v9, v10⟩ := id hv
  have h7 := v7 x h.1 (by omega)
  refine r_iload_n C dX5_print_0 rfl ?_
  refine r_runI (fun aH aL aj a1 a2 a3 => run_S C hF.2.2.1 (kX5_isBin (x := x) (by omega)) lm_X5_isBin ml_X5_88 sm_X5_isBin (Nat.le_of_ble_eq_true rfl) dX5_print_1 rfl (Nat.le_of_ble_eq_true rfl) a1 a2 a3) ?_
  rw [b01_t (by omega)]
  refine r_istore_n C dX5_print_4 (by decide) rfl ?_
  refine r_aload_n C dX5_print_5 rfl ?_
  refine r_iload_n C dX5_print_6 rfl ?_
  refine r_if_ne (tgt := 14) C dX5_print_7 (by decide) (by omega) (fun c7 => ?_) (fun c7 => absurd c7 (by omega))
  refine r_iload_n C dX5_print_14 rfl ?_
  refine r_iconst C dX5_print_15 ?_
  refine r_bipush C dX5_print_16 rfl ?_
  refine r_runI (fun aH aL aj a1 a2 a3 => run_S C hF.2.2.1 (kX5_in (v := c) (l := 1) (u := 20) (by omega) (by omega) (by omega)) lm_X5_in ml_X5_29 sm_X5_in (Nat.le_of_ble_eq_true rfl) dX5_print_18 rfl (Nat.le_of_ble_eq_true rfl) a1 a2 a3) ?_
  rw [b01_t (by omega)]
  refine r_if_ne (tgt := 28) C dX5_print_21 (by decide) (by omega) (fun c21 => ?_) (fun c21 => absurd c21 (by omega))
  refine r_aload_n C dX5_print_28 rfl ?_
  refine gf_X5_7 C M1 dX5_print_29 ?_
  refine r_bipush C dX5_print_32 rfl ?_
  refine r_iload_n C dX5_print_34 rfl ?_
  refine r_iadd C dX5_print_35 ?_
  refine r_iald C Ms (by omega) (by omega) dX5_print_36 ?_
  refine r_iload_n C dX5_print_37 rfl ?_
  refine r_iadd C dX5_print_38 ?_
  refine r_bipush C dX5_print_39 rfl ?_
  refine r_icmp_le (tgt := 48) C dX5_print_41 (by decide) (by omega) (by omega) (fun c41 => absurd c41 (by omega)) (fun c41 => ?_)
  refine r_iconst C dX5_print_44 ?_
  refine r_goto (tgt := 49) C dX5_print_45 (by decide) ?_
  refine r_runI (fun aH aL aj a1 a2 a3 => run_V C hF.2.2.1 (kX5_holds hM (x := 3) (by omega)) lm_X5_holds ml_X5_94 im_X5_holds se_X5_holds M1 rfl (Nat.le_of_ble_eq_true rfl) dX5_print_49 rfl (Nat.le_of_ble_eq_true rfl) a1 a2 a3) ?_
  rw [b01_f (show ¬ (3 : Int) = 0 by omega)]
  refine r_if_ne (tgt := 57) C dX5_print_52 (by decide) (by omega) (fun c52 => absurd c52 (by omega)) (fun c52 => ?_)
  refine r_iconst C dX5_print_55 ?_
  exact r_iretr C hF dX5_print_56 rfl (MR_th μ q _)
set_option maxRecDepth 20000 in
set_option maxHeartbeats 2000000 in
theorem kX5_print_0 {V : Wo} {μ : Mem} {q : Nat} (hM : MoS V q) {K : Int} (hv : veW K (μ (q + 1))) (hs : 0 ≤ μ q 2) (hs2 : μ q 2 ≤ 6) {x : Int} (hr : inR x) {c : Int} (hc : inR c) (h : 0 ≤ x ∧ x < 16) (h2 : 1 ≤ c ∧ c ≤ 20) (h3 : (μ (q + 1)) (6 + x) + c ≤ 99) : Con V 2 yX5_print cX5_print 4 (some .int) [vR q, vI x, vI c] (μ) (QIr V ((μ (q + 1)) (6 + x) + c) ((fun ν => MR q μ ν 0 (sv1 (μ q 2)) (μ q 3) (μ q 5) (s1 (s1 (mSav (μ (q + 1)) (μ q 2)) (6 + x) ((μ (q + 1)) (6 + x) + c)) (38 + x) ((μ (q + 1)) (38 + x) + c)) (μ (q + 2))))) := by
  refine con_of (ls0 := [vR q, vI x, vI c, vU]) (by decide +kernel) rfl (Nat.le_of_ble_eq_true rfl) (Nat.le_of_ble_eq_true rfl) (fun X hV C hF => ?_)
  subst hV
  have C : Ok X RX5 cX5_print 4 2 := C
  obtain ⟨M0, M1, Ms, Mt, Mr, Md, Ml⟩ := id hM
  obtain ⟨v0, v1, v2, v3, v4, v5, v6, v7, v8, v9, v10⟩ := id hv
  have h7 := v7 x h.1 (by omega)
  have e1 : mS μ q (q + 1) = mSav (μ (q + 1)) (μ q 2) := mS_1 μ q
  have hv2 : veW K (mS μ q (q + 1)) := by rw [e1]; exact veW_sav hv hs
  have el : ∀ j, j < 110 → mS μ q (q + 1) j = (μ (q + 1)) j := fun j hj => by rw [e1]; exact mSav_lo hs hj
  have e3 := el 3 (by omega)
  refine r_iload_n C dX5_print_0 rfl ?_
  refine r_runI (fun aH aL aj a1 a2 a3 => run_S C hF.2.2.1 (kX5_isBin (x := x) (by omega)) lm_X5_isBin ml_X5_88 sm_X5_isBin (Nat.le_of_ble_eq_true rfl) dX5_print_1 rfl (Nat.le_of_ble_eq_true rfl) a1 a2 a3) ?_
  rw [b01_t (by omega)]
  refine r_istore_n C dX5_print_4 (by decide) rfl ?_
  refine r_aload_n C dX5_print_5 rfl ?_
  refine r_iload_n C dX5_print_6 rfl ?_
  refine r_if_ne (tgt := 14) C dX5_print_7 (by decide) (by omega) (fun c7 => ?_) (fun c7 => absurd c7 (by omega))
  refine r_iload_n C dX5_print_14 rfl ?_
  refine r_iconst C dX5_print_15 ?_
  refine r_bipush C dX5_print_16 rfl ?_
  refine r_runI (fun aH aL aj a1 a2 a3 => run_S C hF.2.2.1 (kX5_in (v := c) (l := 1) (u := 20) (by omega) (by omega) (by omega)) lm_X5_in ml_X5_29 sm_X5_in (Nat.le_of_ble_eq_true rfl) dX5_print_18 rfl (Nat.le_of_ble_eq_true rfl) a1 a2 a3) ?_
  rw [b01_t (by omega)]
  refine r_if_ne (tgt := 28) C dX5_print_21 (by decide) (by omega) (fun c21 => ?_) (fun c21 => absurd c21 (by omega))
  refine r_aload_n C dX5_print_28 rfl ?_
  refine gf_X5_7 C M1 dX5_print_29 ?_
  refine r_bipush C dX5_print_32 rfl ?_
  refine r_iload_n C dX5_print_34 rfl ?_
  refine r_iadd C dX5_print_35 ?_
  refine r_iald C Ms (by omega) (by omega) dX5_print_36 ?_
  refine r_iload_n C dX5_print_37 rfl ?_
  refine r_iadd C dX5_print_38 ?_
  refine r_bipush C dX5_print_39 rfl ?_
  refine r_icmp_le (tgt := 48) C dX5_print_41 (by decide) (by omega) (by omega) (fun c41 => ?_) (fun c41 => absurd c41 (by omega))
  refine r_iconst C dX5_print_48 ?_
  refine r_runI (fun aH aL aj a1 a2 a3 => run_V C hF.2.2.1 (kX5_holds hM (x := 0) (by omega)) lm_X5_holds ml_X5_94 im_X5_holds se_X5_holds M1 rfl (Nat.le_of_ble_eq_true rfl) dX5_print_49 rfl (Nat.le_of_ble_eq_true rfl) a1 a2 a3) ?_
  rw [b01_t rfl]
  refine r_if_ne (tgt := 57) C dX5_print_52 (by decide) (by omega) (fun c52 => ?_) (fun c52 => absurd c52 (by omega))
  refine r_aload_n C dX5_print_57 rfl ?_
  refine r_runV (fun aH aL aj a1 a2 a3 => run_V C hF.2.2.1 (kX5_save (μ := wr μ q (s1 (μ q) 0 0)) hM (by rw [wr_s, s1_n _ _ (by omega)]; exact hs) (by rw [wr_s, s1_n _ _ (by omega)]; exact hs2)) lm_X5_save ml_X5_97 im_X5_save se_X5_save M1 rfl (Nat.le_of_ble_eq_true rfl) dX5_print_58 rfl (Nat.le_of_ble_eq_true rfl) a1 a2 a3) ?_
  rw [mS_of]
  refine r_aload_n C dX5_print_61 rfl ?_
  refine gf_X5_7 C M1 dX5_print_62 ?_
  refine r_bipush C dX5_print_65 rfl ?_
  refine r_iload_n C dX5_print_67 rfl ?_
  refine r_iadd C dX5_print_68 ?_
  refine r_dup2 C dX5_print_69 rfl rfl ?_
  refine r_iald C Ms (by omega) (by omega) dX5_print_70 ?_
  refine r_iload_n C dX5_print_71 rfl ?_
  refine r_iadd C dX5_print_72 ?_
  refine r_iast C Ms (by omega) (by omega) (by omega) dX5_print_73 ?_
  refine r_aload_n C dX5_print_74 rfl ?_
  refine gf_X5_7 C M1 dX5_print_75 ?_
  refine r_bipush C dX5_print_78 rfl ?_
  refine r_iload_n C dX5_print_80 rfl ?_
  refine r_iadd C dX5_print_81 ?_
  refine r_dup2 C dX5_print_82 rfl rfl ?_
  refine r_iald C Ms (by omega) (by omega) dX5_print_83 ?_
  refine r_iload_n C dX5_print_84 rfl ?_
  refine r_iadd C dX5_print_85 ?_
  refine r_iast C Ms (by omega) (by omega) (by omega) dX5_print_86 ?_
  refine r_aload_n C dX5_print_87 rfl ?_
  refine gf_X5_7 C M1 dX5_print_88 ?_
  refine r_bipush C dX5_print_91 rfl ?_
  refine r_iload_n C dX5_print_93 rfl ?_
  refine r_iadd C dX5_print_94 ?_
  refine r_iald C Ms (by omega) (by omega) dX5_print_95 ?_
  simp (disch := omega) only [wr_s, wr_ww, s1_n, s1_s]
  rw [e1, mSav_lo hs (show 6 + x < 110 by omega), mSav_lo hs (show 38 + x < 110 by omega)]
  exact r_iretr C hF dX5_print_96 rfl (MR_mS μ q _)
set_option maxRecDepth 20000 in
set_option maxHeartbeats 2000000 in
theorem kX5_changed {V : Wo} {μ : Mem} {q : Nat} (hM : MoS V q) {K : Int} (hv : veW K (μ (q + 1))) (hs : 0 ≤ μ q 2) (hs2 : μ q 2 ≤ 6) {p x : Int} (hp : 0 ≤ p) (hp2 : p < 110) : Con V 2 yX5_changed cX5_changed 4 (some .int) [vR q, vI p, vI x] (μ) (QI V ((μ (q + 1)) p) (wr (mSaM μ q) (q + 1) (s1 (mSav (μ (q + 1)) (μ q 2)) p x))) := by
  refine con_of (ls0 := [vR q, vI p, vI x, vU]) (by decide +kernel) rfl (Nat.le_of_ble_eq_true rfl) (Nat.le_of_ble_eq_true rfl) (fun X hV C hF => ?_)
  subst hV
  have C : Ok X RX5 cX5_changed 4 2 := C
  obtain ⟨M0, M1, Ms, Mt, Mr, Md, Ml⟩ := id hM
  obtain ⟨v0, v1, v2, v3, v4, v5, v6, v7, v8, v9, v10⟩ := id hv
  refine r_aload_n C dX5_changed_0 rfl ?_
  refine r_runV (fun aH aL aj a1 a2 a3 => run_V C hF.2.2.1 (kX5_save hM hs hs2) lm_X5_save ml_X5_97 im_X5_save se_X5_save M1 rfl (Nat.le_of_ble_eq_true rfl) dX5_changed_1 rfl (Nat.le_of_ble_eq_true rfl) a1 a2 a3) ?_
  refine r_aload_n C dX5_changed_4 rfl ?_
  refine gf_X5_7 C M1 dX5_changed_5 ?_
  refine r_iload_n C dX5_changed_8 rfl ?_
  refine r_iald C Ms (by omega) (by omega) dX5_changed_9 ?_
  rw [show mSaM μ q (q + 1) = mSav (μ (q + 1)) (μ q 2) from wr_s .., mSav_lo hs hp2]
  refine r_istore_n C dX5_changed_10 (by decide) rfl ?_
  refine r_aload_n C dX5_changed_11 rfl ?_
  refine gf_X5_7 C M1 dX5_changed_12 ?_
  refine r_iload_n C dX5_changed_15 rfl ?_
  refine r_iload_n C dX5_changed_16 rfl ?_
  refine r_iast C Ms (by omega) (by omega) (by omega) dX5_changed_17 ?_
  refine r_iload_n C dX5_changed_18 rfl ?_
  exact r_iret C hF dX5_changed_19 rfl (by rw [show mSaM μ q (q + 1) = mSav (μ (q + 1)) (μ q 2) from wr_s ..])
set_option maxRecDepth 20000 in
set_option maxHeartbeats 2000000 in
theorem kX5_punch_1 {V : Wo} {μ : Mem} {q : Nat} (hM : MoS V q) {K : Int} (hv : veW K (μ (q + 1))) {x : Int} (hr : inR x) {c : Int} (hc : inR c) (h : ¬ (0 ≤ x ∧ x < 16)) : Con V 3 yX5_punch cX5_punch 3 (some .int) [vR q, vI x, vI c] (μ) (QIr V (0) ((fun ν => MR q μ ν 1 (μ q 2) (μ q 3) (μ q 5) (μ (q + 1)) (μ (q + 2))))) := by
  refine con_of (ls0 := [vR q, vI x, vI c]) (by decide +kernel) rfl (Nat.le_of_ble_eq_true rfl) (Nat.le_of_ble_eq_true rfl) (fun X hV C hF => ?_)
  subst hV
  have C : Ok X RX5 cX5_punch 3 3 := C
  obtain ⟨M0, M1, Ms, Mt, Mr, Md, Ml⟩ := id hM
  obtain ⟨v0, v1, v2, v3, v4, v5, v6, v7, v8, v9, v10⟩ := id hv
  refine r_aload_n C dX5_punch_0 rfl ?_
  refine r_iload_n C dX5_punch_1 rfl ?_
  refine r_runI (fun aH aL aj a1 a2 a3 => run_S C hF.2.2.1 (kX5_isBin (x := x) (by omega)) lm_X5_isBin ml_X5_88 sm_X5_isBin (Nat.le_of_ble_eq_true rfl) dX5_punch_2 rfl (Nat.le_of_ble_eq_true rfl) a1 a2 a3) ?_
  rw [b01_f (by omega)]
  refine r_if_ne (tgt := 12) C dX5_punch_5 (by decide) (by omega) (fun c5 => absurd c5 (by omega)) (fun c5 => ?_)
  refine r_iconst C dX5_punch_8 ?_
  refine r_goto (tgt := 27) C dX5_punch_9 (by decide) ?_
  refine r_runI (fun aH aL aj a1 a2 a3 => run_V C hF.2.2.1 (kX5_holds hM (x := 1) (by omega)) lm_X5_holds ml_X5_94 im_X5_holds se_X5_holds M1 rfl (Nat.le_of_ble_eq_true rfl) dX5_punch_27 rfl (Nat.le_of_ble_eq_true rfl) a1 a2 a3) ?_
  rw [b01_f (show ¬ (1 : Int) = 0 by omega)]
  refine r_if_eq (tgt := 45) C dX5_punch_30 (by decide) (by omega) (fun c30 => ?_) (fun c30 => absurd c30 (by omega))
  refine r_iconst C dX5_punch_45 ?_
  exact r_iretr C hF dX5_punch_46 rfl (MR_th μ q _)
set_option maxRecDepth 20000 in
set_option maxHeartbeats 2000000 in
theorem kX5_punch_2 {V : Wo} {μ : Mem} {q : Nat} (hM : MoS V q) {K : Int} (hv : veW K (μ (q + 1))) {x : Int} (hr : inR x) {c : Int} (hc : inR c) (h : 0 ≤ x ∧ x < 16) (h2 : ¬ (1 ≤ c ∧ c ≤ 31)) : Con V 3 yX5_punch cX5_punch 3 (some .int) [vR q, vI x, vI c] (μ) (QIr V (0) ((fun ν => MR q μ ν 2 (μ q 2) (μ q 3) (μ q 5) (μ (q + 1)) (μ (q + 2))))) := by
  refine con_of (ls0 := [vR q, vI x, vI c]) (by decide +kernel) rfl (Nat.le_of_ble_eq_true rfl) (Nat.le_of_ble_eq_true rfl) (fun X hV C hF => ?_)
  subst hV
  have C : Ok X RX5 cX5_punch 3 3 := C
  obtain ⟨M0, M1, Ms, Mt, Mr, Md, Ml⟩ := id hM
  obtain ⟨v0, v1, v2, v3, v4, v5, v6, v7, v8, v9, v10⟩ := id hv
  refine r_aload_n C dX5_punch_0 rfl ?_
  refine r_iload_n C dX5_punch_1 rfl ?_
  refine r_runI (fun aH aL aj a1 a2 a3 => run_S C hF.2.2.1 (kX5_isBin (x := x) (by omega)) lm_X5_isBin ml_X5_88 sm_X5_isBin (Nat.le_of_ble_eq_true rfl) dX5_punch_2 rfl (Nat.le_of_ble_eq_true rfl) a1 a2 a3) ?_
  rw [b01_t (by omega)]
  refine r_if_ne (tgt := 12) C dX5_punch_5 (by decide) (by omega) (fun c5 => ?_) (fun c5 => absurd c5 (by omega))
  refine r_iload_n C dX5_punch_12 rfl ?_
  refine r_iconst C dX5_punch_13 ?_
  refine r_bipush C dX5_punch_14 rfl ?_
  refine r_runI (fun aH aL aj a1 a2 a3 => run_S C hF.2.2.1 (kX5_in (v := c) (l := 1) (u := 31) (by omega) (by omega) (by omega)) lm_X5_in ml_X5_29 sm_X5_in (Nat.le_of_ble_eq_true rfl) dX5_punch_16 rfl (Nat.le_of_ble_eq_true rfl) a1 a2 a3) ?_
  rw [b01_f (by omega)]
  refine r_if_ne (tgt := 26) C dX5_punch_19 (by decide) (by omega) (fun c19 => absurd c19 (by omega)) (fun c19 => ?_)
  refine r_iconst C dX5_punch_22 ?_
  refine r_goto (tgt := 27) C dX5_punch_23 (by decide) ?_
  refine r_runI (fun aH aL aj a1 a2 a3 => run_V C hF.2.2.1 (kX5_holds hM (x := 2) (by omega)) lm_X5_holds ml_X5_94 im_X5_holds se_X5_holds M1 rfl (Nat.le_of_ble_eq_true rfl) dX5_punch_27 rfl (Nat.le_of_ble_eq_true rfl) a1 a2 a3) ?_
  rw [b01_f (show ¬ (2 : Int) = 0 by omega)]
  refine r_if_eq (tgt := 45) C dX5_punch_30 (by decide) (by omega) (fun c30 => ?_) (fun c30 => absurd c30 (by omega))
  refine r_iconst C dX5_punch_45 ?_
  exact r_iretr C hF dX5_punch_46 rfl (MR_th μ q _)
set_option maxRecDepth 20000 in
set_option maxHeartbeats 2000000 in
theorem kX5_punch_0 {V : Wo} {μ : Mem} {q : Nat} (hM : MoS V q) {K : Int} (hv : veW K (μ (q + 1))) (hs : 0 ≤ μ q 2) (hs2 : μ q 2 ≤ 6) {x : Int} (hr : inR x) {c : Int} (hc : inR c) (h : 0 ≤ x ∧ x < 16) (h2 : 1 ≤ c ∧ c ≤ 31) : Con V 3 yX5_punch cX5_punch 3 (some .int) [vR q, vI x, vI c] (μ) (QIr V ((μ (q + 1)) (54 + x)) ((fun ν => MR q μ ν 0 (sv1 (μ q 2)) (μ q 3) (μ q 5) (s1 (mSav (μ (q + 1)) (μ q 2)) (54 + x) c) (μ (q + 2))))) := by
  refine con_of (ls0 := [vR q, vI x, vI c]) (by decide +kernel) rfl (Nat.le_of_ble_eq_true rfl) (Nat.le_of_ble_eq_true rfl) (fun X hV C hF => ?_)
  subst hV
  have C : Ok X RX5 cX5_punch 3 3 := C
  obtain ⟨M0, M1, Ms, Mt, Mr, Md, Ml⟩ := id hM
  obtain ⟨v0, v1, v2, v3, v4, v5, v6, v7, v8, v9, v10⟩ := id hv
  refine r_aload_n C dX5_punch_0 rfl ?_
  refine r_iload_n C dX5_punch_1 rfl ?_
  refine r_runI (fun aH aL aj a1 a2 a3 => run_S C hF.2.2.1 (kX5_isBin (x := x) (by omega)) lm_X5_isBin ml_X5_88 sm_X5_isBin (Nat.le_of_ble_eq_true rfl) dX5_punch_2 rfl (Nat.le_of_ble_eq_true rfl) a1 a2 a3) ?_
  rw [b01_t (by omega)]
  refine r_if_ne (tgt := 12) C dX5_punch_5 (by decide) (by omega) (fun c5 => ?_) (fun c5 => absurd c5 (by omega))
  refine r_iload_n C dX5_punch_12 rfl ?_
  refine r_iconst C dX5_punch_13 ?_
  refine r_bipush C dX5_punch_14 rfl ?_
  refine r_runI (fun aH aL aj a1 a2 a3 => run_S C hF.2.2.1 (kX5_in (v := c) (l := 1) (u := 31) (by omega) (by omega) (by omega)) lm_X5_in ml_X5_29 sm_X5_in (Nat.le_of_ble_eq_true rfl) dX5_punch_16 rfl (Nat.le_of_ble_eq_true rfl) a1 a2 a3) ?_
  rw [b01_t (by omega)]
  refine r_if_ne (tgt := 26) C dX5_punch_19 (by decide) (by omega) (fun c19 => ?_) (fun c19 => absurd c19 (by omega))
  refine r_iconst C dX5_punch_26 ?_
  refine r_runI (fun aH aL aj a1 a2 a3 => run_V C hF.2.2.1 (kX5_holds hM (x := 0) (by omega)) lm_X5_holds ml_X5_94 im_X5_holds se_X5_holds M1 rfl (Nat.le_of_ble_eq_true rfl) dX5_punch_27 rfl (Nat.le_of_ble_eq_true rfl) a1 a2 a3) ?_
  rw [b01_t rfl]
  refine r_if_eq (tgt := 45) C dX5_punch_30 (by decide) (by omega) (fun c30 => absurd c30 (by omega)) (fun c30 => ?_)
  refine r_aload_n C dX5_punch_33 rfl ?_
  refine r_bipush C dX5_punch_34 rfl ?_
  refine r_iload_n C dX5_punch_36 rfl ?_
  refine r_iadd C dX5_punch_37 ?_
  refine r_iload_n C dX5_punch_38 rfl ?_
  refine r_runI (fun aH aL aj a1 a2 a3 => run_V C hF.2.2.1 (kX5_changed (μ := wr μ q (s1 (μ q) 0 0)) hM (K := K) (by rw [wr_n _ _ (by omega)]; exact hv) (by rw [wr_s, s1_n _ _ (by omega)]; exact hs) (by rw [wr_s, s1_n _ _ (by omega)]; exact hs2) (p := 54 + x) (x := c) (by omega) (by omega)) lm_X5_changed ml_X5_122 im_X5_changed se_X5_changed M1 rfl (Nat.le_of_ble_eq_true rfl) dX5_punch_39 rfl (Nat.le_of_ble_eq_true rfl) a1 a2 a3) ?_
  rw [mS_of, wr_n μ _ (show q + 1 ≠ q by omega), wr_s μ q, s1_n (μ q) 0 (show (2 : Int) ≠ 0 by omega)]
  refine r_goto (tgt := 46) C dX5_punch_42 (by decide) ?_
  exact r_iretr C hF dX5_punch_46 rfl (MR_mS μ q _)
set_option maxRecDepth 20000 in
set_option maxHeartbeats 2000000 in
theorem kX5_set_2_0 {V : Wo} {μ : Mem} {q : Nat} (hM : MoS V q) {K : Int} (hv : veW K (μ (q + 1))) {x : Int} (hr : inR x) {c : Int} (hc : inR c) (h : x = 0) (h2 : ¬ (1 ≤ c ∧ c ≤ 16)) : Con V 3 yX5_set cX5_set 5 (some .int) [vR q, vI x, vI c] (μ) (QIr V (0) ((fun ν => MR q μ ν 2 (μ q 2) (μ q 3) (μ q 5) (μ (q + 1)) (μ (q + 2))))) := by
  refine con_of (ls0 := [vR q, vI x, vI c, vU, vU]) (by decide +kernel) rfl (Nat.le_of_ble_eq_true rfl) (Nat.le_of_ble_eq_true rfl) (fun X hV C hF => ?_)
  subst hV
  have C : Ok X RX5 cX5_set 5 3 := C
  obtain ⟨M0, M1, Ms, Mt, Mr, Md, Ml⟩ := id hM
  obtain ⟨v0, v1, v2, v3, v4, v5, v6, v7, v8, v9, v10⟩ := id hv
  refine r_iload_n C dX5_set_0 rfl ?_
  refine r_iconst C dX5_set_1 ?_
  refine r_iconst C dX5_set_2 ?_
  refine r_runI (fun aH aL aj a1 a2 a3 => run_S C hF.2.2.1 (kX5_in (v := x) (l := 0) (u := 2) (by omega) (by omega) (by omega)) lm_X5_in ml_X5_29 sm_X5_in (Nat.le_of_ble_eq_true rfl) dX5_set_3 rfl (Nat.le_of_ble_eq_true rfl) a1 a2 a3) ?_
  rw [b01_t (by omega)]
  refine r_istore_n C dX5_set_6 (by decide) rfl ?_
  refine r_iload_n C dX5_set_7 rfl ?_
  refine r_iload_n C dX5_set_8 rfl ?_
  refine r_iconst C dX5_set_9 ?_
  refine r_icmp_ne (tgt := 17) C dX5_set_10 (by decide) (by omega) (by omega) (fun c10 => ?_) (fun c10 => absurd c10 (by omega))
  refine r_iconst C dX5_set_17 ?_
  refine r_iload_n C dX5_set_18 rfl ?_
  refine r_if_ne (tgt := 27) C dX5_set_19 (by decide) (by omega) (fun c19 => absurd c19 (by omega)) (fun c19 => ?_)
  refine r_bipush C dX5_set_22 rfl ?_
  refine r_goto (tgt := 39) C dX5_set_24 (by decide) ?_
  refine r_runI (fun aH aL aj a1 a2 a3 => run_S C hF.2.2.1 (kX5_in (v := c) (l := 1) (u := 16) (by omega) (by omega) (by omega)) lm_X5_in ml_X5_29 sm_X5_in (Nat.le_of_ble_eq_true rfl) dX5_set_39 rfl (Nat.le_of_ble_eq_true rfl) a1 a2 a3) ?_
  rw [b01_f (by omega)]
  refine r_istore C dX5_set_42 (by decide) rfl ?_
  refine r_aload_n C dX5_set_44 rfl ?_
  refine r_iload_n C dX5_set_45 rfl ?_
  refine r_if_ne (tgt := 53) C dX5_set_46 (by decide) (by omega) (fun c46 => ?_) (fun c46 => absurd c46 (by omega))
  refine r_iload C dX5_set_53 rfl ?_
  refine r_if_ne (tgt := 62) C dX5_set_55 (by decide) (by omega) (fun c55 => absurd c55 (by omega)) (fun c55 => ?_)
  refine r_iconst C dX5_set_58 ?_
  refine r_goto (tgt := 63) C dX5_set_59 (by decide) ?_
  refine r_runI (fun aH aL aj a1 a2 a3 => run_V C hF.2.2.1 (kX5_holds hM (x := 2) (by omega)) lm_X5_holds ml_X5_94 im_X5_holds se_X5_holds M1 rfl (Nat.le_of_ble_eq_true rfl) dX5_set_63 rfl (Nat.le_of_ble_eq_true rfl) a1 a2 a3) ?_
  rw [b01_f (show ¬ (2 : Int) = 0 by omega)]
  refine r_if_eq (tgt := 80) C dX5_set_66 (by decide) (by omega) (fun c66 => ?_) (fun c66 => absurd c66 (by omega))
  refine r_iconst C dX5_set_80 ?_
  exact r_iretr C hF dX5_set_81 rfl (MR_th μ q _)
set_option maxRecDepth 20000 in
set_option maxHeartbeats 2000000 in
theorem kX5_set_0_0 {V : Wo} {μ : Mem} {q : Nat} (hM : MoS V q) {K : Int} (hv : veW K (μ (q + 1))) (hs : 0 ≤ μ q 2) (hs2 : μ q 2 ≤ 6) {x : Int} (hr : inR x) {c : Int} (hc : inR c) (h : x = 0) (h2 : 1 ≤ c ∧ c ≤ 16) : Con V 3 yX5_set cX5_set 5 (some .int) [vR q, vI x, vI c] (μ) (QIr V ((μ (q + 1)) x) ((fun ν => MR q μ ν 0 (sv1 (μ q 2)) (μ q 3) (μ q 5) (s1 (mSav (μ (q + 1)) (μ q 2)) x c) (μ (q + 2))))) := by
  refine con_of (ls0 := [vR q, vI x, vI c, vU, vU]) (by decide +kernel) rfl (Nat.le_of_ble_eq_true rfl) (Nat.le_of_ble_eq_true rfl) (fun X hV C hF => ?_)
  subst hV
  have C : Ok X RX5 cX5_set 5 3 := C
  obtain ⟨M0, M1, Ms, Mt, Mr, Md, Ml⟩ := id hM
  obtain ⟨v0, v1, v2, v3, v4, v5, v6, v7, v8, v9, v10⟩ := id hv
  refine r_iload_n C dX5_set_0 rfl ?_
  refine r_iconst C dX5_set_1 ?_
  refine r_iconst C dX5_set_2 ?_
  refine r_runI (fun aH aL aj a1 a2 a3 => run_S C hF.2.2.1 (kX5_in (v := x) (l := 0) (u := 2) (by omega) (by omega) (by omega)) lm_X5_in ml_X5_29 sm_X5_in (Nat.le_of_ble_eq_true rfl) dX5_set_3 rfl (Nat.le_of_ble_eq_true rfl) a1 a2 a3) ?_
  rw [b01_t (by omega)]
  refine r_istore_n C dX5_set_6 (by decide) rfl ?_
  refine r_iload_n C dX5_set_7 rfl ?_
  refine r_iload_n C dX5_set_8 rfl ?_
  refine r_iconst C dX5_set_9 ?_
  refine r_icmp_ne (tgt := 17) C dX5_set_10 (by decide) (by omega) (by omega) (fun c10 => ?_) (fun c10 => absurd c10 (by omega))
  refine r_iconst C dX5_set_17 ?_
  refine r_iload_n C dX5_set_18 rfl ?_
  refine r_if_ne (tgt := 27) C dX5_set_19 (by decide) (by omega) (fun c19 => absurd c19 (by omega)) (fun c19 => ?_)
  refine r_bipush C dX5_set_22 rfl ?_
  refine r_goto (tgt := 39) C dX5_set_24 (by decide) ?_
  refine r_runI (fun aH aL aj a1 a2 a3 => run_S C hF.2.2.1 (kX5_in (v := c) (l := 1) (u := 16) (by omega) (by omega) (by omega)) lm_X5_in ml_X5_29 sm_X5_in (Nat.le_of_ble_eq_true rfl) dX5_set_39 rfl (Nat.le_of_ble_eq_true rfl) a1 a2 a3) ?_
  rw [b01_t (by omega)]
  refine r_istore C dX5_set_42 (by decide) rfl ?_
  refine r_aload_n C dX5_set_44 rfl ?_
  refine r_iload_n C dX5_set_45 rfl ?_
  refine r_if_ne (tgt := 53) C dX5_set_46 (by decide) (by omega) (fun c46 => ?_) (fun c46 => absurd c46 (by omega))
  refine r_iload C dX5_set_53 rfl ?_
  refine r_if_ne (tgt := 62) C dX5_set_55 (by decide) (by omega) (fun c55 => ?_) (fun c55 => absurd c55 (by omega))
  refine r_iconst C dX5_set_62 ?_
  refine r_runI (fun aH aL aj a1 a2 a3 => run_V C hF.2.2.1 (kX5_holds hM (x := 0) (by omega)) lm_X5_holds ml_X5_94 im_X5_holds se_X5_holds M1 rfl (Nat.le_of_ble_eq_true rfl) dX5_set_63 rfl (Nat.le_of_ble_eq_true rfl) a1 a2 a3) ?_
  rw [b01_t rfl]
  refine r_if_eq (tgt := 80) C dX5_set_66 (by decide) (by omega) (fun c66 => absurd c66 (by omega)) (fun c66 => ?_)
  refine r_aload_n C dX5_set_69 rfl ?_
  refine r_iconst C dX5_set_70 ?_
  refine r_iload_n C dX5_set_71 rfl ?_
  refine r_iadd C dX5_set_72 ?_
  refine r_iload_n C dX5_set_73 rfl ?_
  refine r_runI (fun aH aL aj a1 a2 a3 => run_V C hF.2.2.1 (kX5_changed (μ := wr μ q (s1 (μ q) 0 0)) hM (K := K) (by rw [wr_n _ _ (by omega)]; exact hv) (by rw [wr_s, s1_n _ _ (by omega)]; exact hs) (by rw [wr_s, s1_n _ _ (by omega)]; exact hs2) (p := 0 + x) (x := c) (by omega) (by omega)) lm_X5_changed ml_X5_122 im_X5_changed se_X5_changed M1 rfl (Nat.le_of_ble_eq_true rfl) dX5_set_74 rfl (Nat.le_of_ble_eq_true rfl) a1 a2 a3) ?_
  rw [mS_of, wr_n μ _ (show q + 1 ≠ q by omega), wr_s μ q, s1_n (μ q) 0 (show (2 : Int) ≠ 0 by omega)]
  refine r_goto (tgt := 81) C dX5_set_77 (by decide) ?_
  exact r_iretr C hF dX5_set_81 (by rw [Int.zero_add]) (by rw [Int.zero_add]; exact MR_mS μ q _)
set_option maxRecDepth 20000 in
set_option maxHeartbeats 2000000 in
theorem kX5_set_2_1 {V : Wo} {μ : Mem} {q : Nat} (hM : MoS V q) {K : Int} (hv : veW K (μ (q + 1))) {x : Int} (hr : inR x) {c : Int} (hc : inR c) (h : x = 1) (h2 : ¬ (2 ≤ c ∧ c ≤ 8)) : Con V 3 yX5_set cX5_set 5 (some .int) [vR q, vI x, vI c] (μ) (QIr V (0) ((fun ν => MR q μ ν 2 (μ q 2) (μ q 3) (μ q 5) (μ (q + 1)) (μ (q + 2))))) := by
  refine con_of (ls0 := [vR q, vI x, vI c, vU, vU]) (by decide +kernel) rfl (Nat.le_of_ble_eq_true rfl) (Nat.le_of_ble_eq_true rfl) (fun X hV C hF => ?_)
  subst hV
  have C : Ok X RX5 cX5_set 5 3 := C
  obtain ⟨M0, M1, Ms, Mt, Mr, Md, Ml⟩ := id hM
  obtain ⟨v0, v1, v2, v3, v4, v5, v6, v7, v8, v9, v10⟩ := id hv
  refine r_iload_n C dX5_set_0 rfl ?_
  refine r_iconst C dX5_set_1 ?_
  refine r_iconst C dX5_set_2 ?_
  refine r_runI (fun aH aL aj a1 a2 a3 => run_S C hF.2.2.1 (kX5_in (v := x) (l := 0) (u := 2) (by omega) (by omega) (by omega)) lm_X5_in ml_X5_29 sm_X5_in (Nat.le_of_ble_eq_true rfl) dX5_set_3 rfl (Nat.le_of_ble_eq_true rfl) a1 a2 a3) ?_
  rw [b01_t (by omega)]
  refine r_istore_n C dX5_set_6 (by decide) rfl ?_
  refine r_iload_n C dX5_set_7 rfl ?_
  refine r_iload_n C dX5_set_8 rfl ?_
  refine r_iconst C dX5_set_9 ?_
  refine r_icmp_ne (tgt := 17) C dX5_set_10 (by decide) (by omega) (by omega) (fun c10 => absurd c10 (by omega)) (fun c10 => ?_)
  refine r_iconst C dX5_set_13 ?_
  refine r_goto (tgt := 18) C dX5_set_14 (by decide) ?_
  refine r_iload_n C dX5_set_18 rfl ?_
  refine r_if_ne (tgt := 27) C dX5_set_19 (by decide) (by omega) (fun c19 => ?_) (fun c19 => absurd c19 (by omega))
  refine r_iload_n C dX5_set_27 rfl ?_
  refine r_iconst C dX5_set_28 ?_
  refine r_icmp_ne (tgt := 37) C dX5_set_29 (by decide) (by omega) (by omega) (fun c29 => absurd c29 (by omega)) (fun c29 => ?_)
  refine r_bipush C dX5_set_32 rfl ?_
  refine r_goto (tgt := 39) C dX5_set_34 (by decide) ?_
  refine r_runI (fun aH aL aj a1 a2 a3 => run_S C hF.2.2.1 (kX5_in (v := c) (l := 2) (u := 8) (by omega) (by omega) (by omega)) lm_X5_in ml_X5_29 sm_X5_in (Nat.le_of_ble_eq_true rfl) dX5_set_39 rfl (Nat.le_of_ble_eq_true rfl) a1 a2 a3) ?_
  rw [b01_f (by omega)]
  refine r_istore C dX5_set_42 (by decide) rfl ?_
  refine r_aload_n C dX5_set_44 rfl ?_
  refine r_iload_n C dX5_set_45 rfl ?_
  refine r_if_ne (tgt := 53) C dX5_set_46 (by decide) (by omega) (fun c46 => ?_) (fun c46 => absurd c46 (by omega))
  refine r_iload C dX5_set_53 rfl ?_
  refine r_if_ne (tgt := 62) C dX5_set_55 (by decide) (by omega) (fun c55 => absurd c55 (by omega)) (fun c55 => ?_)
  refine r_iconst C dX5_set_58 ?_
  refine r_goto (tgt := 63) C dX5_set_59 (by decide) ?_
  refine r_runI (fun aH aL aj a1 a2 a3 => run_V C hF.2.2.1 (kX5_holds hM (x := 2) (by omega)) lm_X5_holds ml_X5_94 im_X5_holds se_X5_holds M1 rfl (Nat.le_of_ble_eq_true rfl) dX5_set_63 rfl (Nat.le_of_ble_eq_true rfl) a1 a2 a3) ?_
  rw [b01_f (show ¬ (2 : Int) = 0 by omega)]
  refine r_if_eq (tgt := 80) C dX5_set_66 (by decide) (by omega) (fun c66 => ?_) (fun c66 => absurd c66 (by omega))
  refine r_iconst C dX5_set_80 ?_
  exact r_iretr C hF dX5_set_81 rfl (MR_th μ q _)
set_option maxRecDepth 20000 in
set_option maxHeartbeats 2000000 in
theorem kX5_set_0_1 {V : Wo} {μ : Mem} {q : Nat} (hM : MoS V q) {K : Int} (hv : veW K (μ (q + 1))) (hs : 0 ≤ μ q 2) (hs2 : μ q 2 ≤ 6) {x : Int} (hr : inR x) {c : Int} (hc : inR c) (h : x = 1) (h2 : 2 ≤ c ∧ c ≤ 8) : Con V 3 yX5_set cX5_set 5 (some .int) [vR q, vI x, vI c] (μ) (QIr V ((μ (q + 1)) x) ((fun ν => MR q μ ν 0 (sv1 (μ q 2)) (μ q 3) (μ q 5) (s1 (mSav (μ (q + 1)) (μ q 2)) x c) (μ (q + 2))))) := by
  refine con_of (ls0 := [vR q, vI x, vI c, vU, vU]) (by decide +kernel) rfl (Nat.le_of_ble_eq_true rfl) (Nat.le_of_ble_eq_true rfl) (fun X hV C hF => ?_)
  subst hV
  have C : Ok X RX5 cX5_set 5 3 := C
  obtain ⟨M0, M1, Ms, Mt, Mr, Md, Ml⟩ := id hM
  obtain ⟨v0, v1, v2, v3, v4, v5, v6, v7, v8, v9, v10⟩ := id hv
  refine r_iload_n C dX5_set_0 rfl ?_
  refine r_iconst C dX5_set_1 ?_
  refine r_iconst C dX5_set_2 ?_
  refine r_runI (fun aH aL aj a1 a2 a3 => run_S C hF.2.2.1 (kX5_in (v := x) (l := 0) (u := 2) (by omega) (by omega) (by omega)) lm_X5_in ml_X5_29 sm_X5_in (Nat.le_of_ble_eq_true rfl) dX5_set_3 rfl (Nat.le_of_ble_eq_true rfl) a1 a2 a3) ?_
  rw [b01_t (by omega)]
  refine r_istore_n C dX5_set_6 (by decide) rfl ?_
  refine r_iload_n C dX5_set_7 rfl ?_
  refine r_iload_n C dX5_set_8 rfl ?_
  refine r_iconst C dX5_set_9 ?_
  refine r_icmp_ne (tgt := 17) C dX5_set_10 (by decide) (by omega) (by omega) (fun c10 => absurd c10 (by omega)) (fun c10 => ?_)
  refine r_iconst C dX5_set_13 ?_
  refine r_goto (tgt := 18) C dX5_set_14 (by decide) ?_
  refine r_iload_n C dX5_set_18 rfl ?_
  refine r_if_ne (tgt := 27) C dX5_set_19 (by decide) (by omega) (fun c19 => ?_) (fun c19 => absurd c19 (by omega))
  refine r_iload_n C dX5_set_27 rfl ?_
  refine r_iconst C dX5_set_28 ?_
  refine r_icmp_ne (tgt := 37) C dX5_set_29 (by decide) (by omega) (by omega) (fun c29 => absurd c29 (by omega)) (fun c29 => ?_)
  refine r_bipush C dX5_set_32 rfl ?_
  refine r_goto (tgt := 39) C dX5_set_34 (by decide) ?_
  refine r_runI (fun aH aL aj a1 a2 a3 => run_S C hF.2.2.1 (kX5_in (v := c) (l := 2) (u := 8) (by omega) (by omega) (by omega)) lm_X5_in ml_X5_29 sm_X5_in (Nat.le_of_ble_eq_true rfl) dX5_set_39 rfl (Nat.le_of_ble_eq_true rfl) a1 a2 a3) ?_
  rw [b01_t (by omega)]
  refine r_istore C dX5_set_42 (by decide) rfl ?_
  refine r_aload_n C dX5_set_44 rfl ?_
  refine r_iload_n C dX5_set_45 rfl ?_
  refine r_if_ne (tgt := 53) C dX5_set_46 (by decide) (by omega) (fun c46 => ?_) (fun c46 => absurd c46 (by omega))
  refine r_iload C dX5_set_53 rfl ?_
  refine r_if_ne (tgt := 62) C dX5_set_55 (by decide) (by omega) (fun c55 => ?_) (fun c55 => absurd c55 (by omega))
  refine r_iconst C dX5_set_62 ?_
  refine r_runI (fun aH aL aj a1 a2 a3 => run_V C hF.2.2.1 (kX5_holds hM (x := 0) (by omega)) lm_X5_holds ml_X5_94 im_X5_holds se_X5_holds M1 rfl (Nat.le_of_ble_eq_true rfl) dX5_set_63 rfl (Nat.le_of_ble_eq_true rfl) a1 a2 a3) ?_
  rw [b01_t rfl]
  refine r_if_eq (tgt := 80) C dX5_set_66 (by decide) (by omega) (fun c66 => absurd c66 (by omega)) (fun c66 => ?_)
  refine r_aload_n C dX5_set_69 rfl ?_
  refine r_iconst C dX5_set_70 ?_
  refine r_iload_n C dX5_set_71 rfl ?_
  refine r_iadd C dX5_set_72 ?_
  refine r_iload_n C dX5_set_73 rfl ?_
  refine r_runI (fun aH aL aj a1 a2 a3 => run_V C hF.2.2.1 (kX5_changed (μ := wr μ q (s1 (μ q) 0 0)) hM (K := K) (by rw [wr_n _ _ (by omega)]; exact hv) (by rw [wr_s, s1_n _ _ (by omega)]; exact hs) (by rw [wr_s, s1_n _ _ (by omega)]; exact hs2) (p := 0 + x) (x := c) (by omega) (by omega)) lm_X5_changed ml_X5_122 im_X5_changed se_X5_changed M1 rfl (Nat.le_of_ble_eq_true rfl) dX5_set_74 rfl (Nat.le_of_ble_eq_true rfl) a1 a2 a3) ?_
  rw [mS_of, wr_n μ _ (show q + 1 ≠ q by omega), wr_s μ q, s1_n (μ q) 0 (show (2 : Int) ≠ 0 by omega)]
  refine r_goto (tgt := 81) C dX5_set_77 (by decide) ?_
  exact r_iretr C hF dX5_set_81 (by rw [Int.zero_add]) (by rw [Int.zero_add]; exact MR_mS μ q _)
set_option maxRecDepth 20000 in
set_option maxHeartbeats 2000000 in
theorem kX5_set_2_2 {V : Wo} {μ : Mem} {q : Nat} (hM : MoS V q) {K : Int} (hv : veW K (μ (q + 1))) {x : Int} (hr : inR x) {c : Int} (hc : inR c) (h : x = 2) (h2 : ¬ (1 ≤ c ∧ c ≤ 9)) : Con V 3 yX5_set cX5_set 5 (some .int) [vR q, vI x, vI c] (μ) (QIr V (0) ((fun ν => MR q μ ν 2 (μ q 2) (μ q 3) (μ q 5) (μ (q + 1)) (μ (q + 2))))) := by
  refine con_of (ls0 := [vR q, vI x, vI c, vU, vU]) (by decide +kernel) rfl (Nat.le_of_ble_eq_true rfl) (Nat.le_of_ble_eq_true rfl) (fun X hV C hF => ?_)
  subst hV
  have C : Ok X RX5 cX5_set 5 3 := C
  obtain ⟨M0, M1, Ms, Mt, Mr, Md, Ml⟩ := id hM
  obtain ⟨v0, v1, v2, v3, v4, v5, v6, v7, v8, v9, v10⟩ := id hv
  refine r_iload_n C dX5_set_0 rfl ?_
  refine r_iconst C dX5_set_1 ?_
  refine r_iconst C dX5_set_2 ?_
  refine r_runI (fun aH aL aj a1 a2 a3 => run_S C hF.2.2.1 (kX5_in (v := x) (l := 0) (u := 2) (by omega) (by omega) (by omega)) lm_X5_in ml_X5_29 sm_X5_in (Nat.le_of_ble_eq_true rfl) dX5_set_3 rfl (Nat.le_of_ble_eq_true rfl) a1 a2 a3) ?_
  rw [b01_t (by omega)]
  refine r_istore_n C dX5_set_6 (by decide) rfl ?_
  refine r_iload_n C dX5_set_7 rfl ?_
  refine r_iload_n C dX5_set_8 rfl ?_
  refine r_iconst C dX5_set_9 ?_
  refine r_icmp_ne (tgt := 17) C dX5_set_10 (by decide) (by omega) (by omega) (fun c10 => ?_) (fun c10 => absurd c10 (by omega))
  refine r_iconst C dX5_set_17 ?_
  refine r_iload_n C dX5_set_18 rfl ?_
  refine r_if_ne (tgt := 27) C dX5_set_19 (by decide) (by omega) (fun c19 => ?_) (fun c19 => absurd c19 (by omega))
  refine r_iload_n C dX5_set_27 rfl ?_
  refine r_iconst C dX5_set_28 ?_
  refine r_icmp_ne (tgt := 37) C dX5_set_29 (by decide) (by omega) (by omega) (fun c29 => ?_) (fun c29 => absurd c29 (by omega))
  refine r_bipush C dX5_set_37 rfl ?_
  refine r_runI (fun aH aL aj a1 a2 a3 => run_S C hF.2.2.1 (kX5_in (v := c) (l := 1) (u := 9) (by omega) (by omega) (by omega)) lm_X5_in ml_X5_29 sm_X5_in (Nat.le_of_ble_eq_true rfl) dX5_set_39 rfl (Nat.le_of_ble_eq_true rfl) a1 a2 a3) ?_
  rw [b01_f (by omega)]
  refine r_istore C dX5_set_42 (by decide) rfl ?_
  refine r_aload_n C dX5_set_44 rfl ?_
  refine r_iload_n C dX5_set_45 rfl ?_
  refine r_if_ne (tgt := 53) C dX5_set_46 (by decide) (by omega) (fun c46 => ?_) (fun c46 => absurd c46 (by omega))
  refine r_iload C dX5_set_53 rfl ?_
  refine r_if_ne (tgt := 62) C dX5_set_55 (by decide) (by omega) (fun c55 => absurd c55 (by omega)) (fun c55 => ?_)
  refine r_iconst C dX5_set_58 ?_
  refine r_goto (tgt := 63) C dX5_set_59 (by decide) ?_
  refine r_runI (fun aH aL aj a1 a2 a3 => run_V C hF.2.2.1 (kX5_holds hM (x := 2) (by omega)) lm_X5_holds ml_X5_94 im_X5_holds se_X5_holds M1 rfl (Nat.le_of_ble_eq_true rfl) dX5_set_63 rfl (Nat.le_of_ble_eq_true rfl) a1 a2 a3) ?_
  rw [b01_f (show ¬ (2 : Int) = 0 by omega)]
  refine r_if_eq (tgt := 80) C dX5_set_66 (by decide) (by omega) (fun c66 => ?_) (fun c66 => absurd c66 (by omega))
  refine r_iconst C dX5_set_80 ?_
  exact r_iretr C hF dX5_set_81 rfl (MR_th μ q _)
set_option maxRecDepth 20000 in
set_option maxHeartbeats 2000000 in
theorem kX5_set_0_2 {V : Wo} {μ : Mem} {q : Nat} (hM : MoS V q) {K : Int} (hv : veW K (μ (q + 1))) (hs : 0 ≤ μ q 2) (hs2 : μ q 2 ≤ 6) {x : Int} (hr : inR x) {c : Int} (hc : inR c) (h : x = 2) (h2 : 1 ≤ c ∧ c ≤ 9) : Con V 3 yX5_set cX5_set 5 (some .int) [vR q, vI x, vI c] (μ) (QIr V ((μ (q + 1)) x) ((fun ν => MR q μ ν 0 (sv1 (μ q 2)) (μ q 3) (μ q 5) (s1 (mSav (μ (q + 1)) (μ q 2)) x c) (μ (q + 2))))) := by
  refine con_of (ls0 := [vR q, vI x, vI c, vU, vU]) (by decide +kernel) rfl (Nat.le_of_ble_eq_true rfl) (Nat.le_of_ble_eq_true rfl) (fun X hV C hF => ?_)
  subst hV
  have C : Ok X RX5 cX5_set 5 3 := C
  obtain ⟨M0, M1, Ms, Mt, Mr, Md, Ml⟩ := id hM
  obtain ⟨v0, v1, v2, v3, v4, v5, v6, v7, v8, v9, v10⟩ := id hv
  refine r_iload_n C dX5_set_0 rfl ?_
  refine r_iconst C dX5_set_1 ?_
  refine r_iconst C dX5_set_2 ?_
  refine r_runI (fun aH aL aj a1 a2 a3 => run_S C hF.2.2.1 (kX5_in (v := x) (l := 0) (u := 2) (by omega) (by omega) (by omega)) lm_X5_in ml_X5_29 sm_X5_in (Nat.le_of_ble_eq_true rfl) dX5_set_3 rfl (Nat.le_of_ble_eq_true rfl) a1 a2 a3) ?_
  rw [b01_t (by omega)]
  refine r_istore_n C dX5_set_6 (by decide) rfl ?_
  refine r_iload_n C dX5_set_7 rfl ?_
  refine r_iload_n C dX5_set_8 rfl ?_
  refine r_iconst C dX5_set_9 ?_
  refine r_icmp_ne (tgt := 17) C dX5_set_10 (by decide) (by omega) (by omega) (fun c10 => ?_) (fun c10 => absurd c10 (by omega))
  refine r_iconst C dX5_set_17 ?_
  refine r_iload_n C dX5_set_18 rfl ?_
  refine r_if_ne (tgt := 27) C dX5_set_19 (by decide) (by omega) (fun c19 => ?_) (fun c19 => absurd c19 (by omega))
  refine r_iload_n C dX5_set_27 rfl ?_
  refine r_iconst C dX5_set_28 ?_
  refine r_icmp_ne (tgt := 37) C dX5_set_29 (by decide) (by omega) (by omega) (fun c29 => ?_) (fun c29 => absurd c29 (by omega))
  refine r_bipush C dX5_set_37 rfl ?_
  refine r_runI (fun aH aL aj a1 a2 a3 => run_S C hF.2.2.1 (kX5_in (v := c) (l := 1) (u := 9) (by omega) (by omega) (by omega)) lm_X5_in ml_X5_29 sm_X5_in (Nat.le_of_ble_eq_true rfl) dX5_set_39 rfl (Nat.le_of_ble_eq_true rfl) a1 a2 a3) ?_
  rw [b01_t (by omega)]
  refine r_istore C dX5_set_42 (by decide) rfl ?_
  refine r_aload_n C dX5_set_44 rfl ?_
  refine r_iload_n C dX5_set_45 rfl ?_
  refine r_if_ne (tgt := 53) C dX5_set_46 (by decide) (by omega) (fun c46 => ?_) (fun c46 => absurd c46 (by omega))
  refine r_iload C dX5_set_53 rfl ?_
  refine r_if_ne (tgt := 62) C dX5_set_55 (by decide) (by omega) (fun c55 => ?_) (fun c55 => absurd c55 (by omega))
  refine r_iconst C dX5_set_62 ?_
  refine r_runI (fun aH aL aj a1 a2 a3 => run_V C hF.2.2.1 (kX5_holds hM (x := 0) (by omega)) lm_X5_holds ml_X5_94 im_X5_holds se_X5_holds M1 rfl (Nat.le_of_ble_eq_true rfl) dX5_set_63 rfl (Nat.le_of_ble_eq_true rfl) a1 a2 a3) ?_
  rw [b01_t rfl]
  refine r_if_eq (tgt := 80) C dX5_set_66 (by decide) (by omega) (fun c66 => absurd c66 (by omega)) (fun c66 => ?_)
  refine r_aload_n C dX5_set_69 rfl ?_
  refine r_iconst C dX5_set_70 ?_
  refine r_iload_n C dX5_set_71 rfl ?_
  refine r_iadd C dX5_set_72 ?_
  refine r_iload_n C dX5_set_73 rfl ?_
  refine r_runI (fun aH aL aj a1 a2 a3 => run_V C hF.2.2.1 (kX5_changed (μ := wr μ q (s1 (μ q) 0 0)) hM (K := K) (by rw [wr_n _ _ (by omega)]; exact hv) (by rw [wr_s, s1_n _ _ (by omega)]; exact hs) (by rw [wr_s, s1_n _ _ (by omega)]; exact hs2) (p := 0 + x) (x := c) (by omega) (by omega)) lm_X5_changed ml_X5_122 im_X5_changed se_X5_changed M1 rfl (Nat.le_of_ble_eq_true rfl) dX5_set_74 rfl (Nat.le_of_ble_eq_true rfl) a1 a2 a3) ?_
  rw [mS_of, wr_n μ _ (show q + 1 ≠ q by omega), wr_s μ q, s1_n (μ q) 0 (show (2 : Int) ≠ 0 by omega)]
  refine r_goto (tgt := 81) C dX5_set_77 (by decide) ?_
  exact r_iretr C hF dX5_set_81 (by rw [Int.zero_add]) (by rw [Int.zero_add]; exact MR_mS μ q _)
set_option maxRecDepth 20000 in
set_option maxHeartbeats 2000000 in
theorem kX5_set_1 {V : Wo} {μ : Mem} {q : Nat} (hM : MoS V q) {K : Int} (hv : veW K (μ (q + 1))) {x : Int} (hr : inR x) {c : Int} (hc : inR c) (h : ¬ (0 ≤ x ∧ x < 3)) : Con V 3 yX5_set cX5_set 5 (some .int) [vR q, vI x, vI c] (μ) (QIr V (0) ((fun ν => MR q μ ν 1 (μ q 2) (μ q 3) (μ q 5) (μ (q + 1)) (μ (q + 2))))) := by
  refine con_of (ls0 := [vR q, vI x, vI c, vU, vU]) (by decide +kernel) rfl (Nat.le_of_ble_eq_true rfl) (Nat.le_of_ble_eq_true rfl) (fun X hV C hF => ?_)
  subst hV
  have C : Ok X RX5 cX5_set 5 3 := C
  obtain ⟨M0, M1, Ms, Mt, Mr, Md, Ml⟩ := id hM
  obtain ⟨v0, v1, v2, v3, v4, v5, v6, v7, v8, v9, v10⟩ := id hv
  refine r_iload_n C dX5_set_0 rfl ?_
  refine r_iconst C dX5_set_1 ?_
  refine r_iconst C dX5_set_2 ?_
  refine r_runI (fun aH aL aj a1 a2 a3 => run_S C hF.2.2.1 (kX5_in (v := x) (l := 0) (u := 2) (by omega) (by omega) (by omega)) lm_X5_in ml_X5_29 sm_X5_in (Nat.le_of_ble_eq_true rfl) dX5_set_3 rfl (Nat.le_of_ble_eq_true rfl) a1 a2 a3) ?_
  rw [b01_f (by omega)]
  refine r_istore_n C dX5_set_6 (by decide) rfl ?_
  refine r_iload_n C dX5_set_7 rfl ?_
  refine r_iload_n C dX5_set_8 rfl ?_
  refine r_iconst C dX5_set_9 ?_
  refine r_icmp_ne (tgt := 17) C dX5_set_10 (by decide) (by omega) (by omega) (fun c10 => ?_) (fun c10 => absurd c10 (by omega))
  refine r_iconst C dX5_set_17 ?_
  refine r_iload_n C dX5_set_18 rfl ?_
  refine r_if_ne (tgt := 27) C dX5_set_19 (by decide) (by omega) (fun c19 => ?_) (fun c19 => absurd c19 (by omega))
  refine r_iload_n C dX5_set_27 rfl ?_
  refine r_iconst C dX5_set_28 ?_
  refine r_icmp_ne (tgt := 37) C dX5_set_29 (by decide) (by omega) (by omega) (fun c29 => ?_) (fun c29 => absurd c29 (by omega))
  refine r_bipush C dX5_set_37 rfl ?_
  refine r_runI (fun aH aL aj a1 a2 a3 => run_S C hF.2.2.1 (kX5_in (v := c) (l := 1) (u := 9) (by omega) (by omega) (by omega)) lm_X5_in ml_X5_29 sm_X5_in (Nat.le_of_ble_eq_true rfl) dX5_set_39 rfl (Nat.le_of_ble_eq_true rfl) a1 a2 a3) ?_
  refine r_istore C dX5_set_42 (by decide) rfl ?_
  refine r_aload_n C dX5_set_44 rfl ?_
  refine r_iload_n C dX5_set_45 rfl ?_
  refine r_if_ne (tgt := 53) C dX5_set_46 (by decide) (by omega) (fun c46 => absurd c46 (by omega)) (fun c46 => ?_)
  refine r_iconst C dX5_set_49 ?_
  refine r_goto (tgt := 63) C dX5_set_50 (by decide) ?_
  refine r_runI (fun aH aL aj a1 a2 a3 => run_V C hF.2.2.1 (kX5_holds hM (x := 1) (by omega)) lm_X5_holds ml_X5_94 im_X5_holds se_X5_holds M1 rfl (Nat.le_of_ble_eq_true rfl) dX5_set_63 rfl (Nat.le_of_ble_eq_true rfl) a1 a2 a3) ?_
  rw [b01_f (show ¬ (1 : Int) = 0 by omega)]
  refine r_if_eq (tgt := 80) C dX5_set_66 (by decide) (by omega) (fun c66 => ?_) (fun c66 => absurd c66 (by omega))
  refine r_iconst C dX5_set_80 ?_
  exact r_iretr C hF dX5_set_81 rfl (MR_th μ q _)
set_option maxRecDepth 20000 in
set_option maxHeartbeats 2000000 in
theorem kX5_append_1 {V : Wo} {μ : Mem} {q : Nat} (hM : MoS V q) {K : Int} (hv : veW K (μ (q + 1))) (hb : 0 ≤ μ q 5 ∧ μ q 5 ≤ 60) {c : Int} (hc : inR c) (h : ¬ (33 ≤ c ∧ c ≤ 126)) : Con V 1 yX5_append cX5_append 2 (some .int) [vR q, vI c] (μ) (QIr V (0) ((fun ν => MR q μ ν 1 (μ q 2) (μ q 3) (μ q 5) (μ (q + 1)) (μ (q + 2))))) := by
  refine con_of (ls0 := [vR q, vI c]) (by decide +kernel) rfl (Nat.le_of_ble_eq_true rfl) (Nat.le_of_ble_eq_true rfl) (fun X hV C hF => ?_)
  subst hV
  have C : Ok X RX5 cX5_append 2 1 := C
  obtain ⟨M0, M1, Ms, Mt, Mr, Md, Ml⟩ := id hM
  obtain ⟨v0, v1, v2, v3, v4, v5, v6, v7, v8, v9, v10⟩ := id hv
  refine r_aload_n C dX5_append_0 rfl ?_
  refine r_iload_n C dX5_append_1 rfl ?_
  refine r_bipush C dX5_append_2 rfl ?_
  refine r_bipush C dX5_append_4 rfl ?_
  refine r_runI (fun aH aL aj a1 a2 a3 => run_S C hF.2.2.1 (kX5_in (v := c) (l := 33) (u := 126) (by omega) (by omega) (by omega)) lm_X5_in ml_X5_29 sm_X5_in (Nat.le_of_ble_eq_true rfl) dX5_append_6 rfl (Nat.le_of_ble_eq_true rfl) a1 a2 a3) ?_
  rw [b01_f (by omega)]
  refine r_if_ne (tgt := 16) C dX5_append_9 (by decide) (by omega) (fun c9 => absurd c9 (by omega)) (fun c9 => ?_)
  refine r_iconst C dX5_append_12 ?_
  refine r_goto (tgt := 30) C dX5_append_13 (by decide) ?_
  refine r_runI (fun aH aL aj a1 a2 a3 => run_V C hF.2.2.1 (kX5_holds hM (x := 1) (by omega)) lm_X5_holds ml_X5_94 im_X5_holds se_X5_holds M1 rfl (Nat.le_of_ble_eq_true rfl) dX5_append_30 rfl (Nat.le_of_ble_eq_true rfl) a1 a2 a3) ?_
  rw [b01_f (show ¬ (1 : Int) = 0 by omega)]
  refine r_if_ne (tgt := 38) C dX5_append_33 (by decide) (by omega) (fun c33 => absurd c33 (by omega)) (fun c33 => ?_)
  refine r_iconst C dX5_append_36 ?_
  exact r_iretr C hF dX5_append_37 rfl (MR_th μ q _)
set_option maxRecDepth 20000 in
set_option maxHeartbeats 2000000 in
theorem kX5_append_2 {V : Wo} {μ : Mem} {q : Nat} (hM : MoS V q) {K : Int} (hv : veW K (μ (q + 1))) (hb : 0 ≤ μ q 5 ∧ μ q 5 ≤ 60) {c : Int} (hc : inR c) (h : 33 ≤ c ∧ c ≤ 126) (h2 : μ q 5 = 60) : Con V 1 yX5_append cX5_append 2 (some .int) [vR q, vI c] (μ) (QIr V (0) ((fun ν => MR q μ ν 2 (μ q 2) (μ q 3) (μ q 5) (μ (q + 1)) (μ (q + 2))))) := by
  refine con_of (ls0 := [vR q, vI c]) (by decide +kernel) rfl (Nat.le_of_ble_eq_true rfl) (Nat.le_of_ble_eq_true rfl) (fun X hV C hF => ?_)
  subst hV
  have C : Ok X RX5 cX5_append 2 1 := C
  obtain ⟨M0, M1, Ms, Mt, Mr, Md, Ml⟩ := id hM
  obtain ⟨v0, v1, v2, v3, v4, v5, v6, v7, v8, v9, v10⟩ := id hv
  refine r_aload_n C dX5_append_0 rfl ?_
  refine r_iload_n C dX5_append_1 rfl ?_
  refine r_bipush C dX5_append_2 rfl ?_
  refine r_bipush C dX5_append_4 rfl ?_
  refine r_runI (fun aH aL aj a1 a2 a3 => run_S C hF.2.2.1 (kX5_in (v := c) (l := 33) (u := 126) (by omega) (by omega) (by omega)) lm_X5_in ml_X5_29 sm_X5_in (Nat.le_of_ble_eq_true rfl) dX5_append_6 rfl (Nat.le_of_ble_eq_true rfl) a1 a2 a3) ?_
  rw [b01_t (by omega)]
  refine r_if_ne (tgt := 16) C dX5_append_9 (by decide) (by omega) (fun c9 => ?_) (fun c9 => absurd c9 (by omega))
  refine r_aload_n C dX5_append_16 rfl ?_
  refine gf_X5_125 C M1 dX5_append_17 ?_
  refine r_bipush C dX5_append_20 rfl ?_
  refine r_icmp_ne (tgt := 29) C dX5_append_22 (by decide) (by omega) (by omega) (fun c22 => absurd c22 (by omega)) (fun c22 => ?_)
  refine r_iconst C dX5_append_25 ?_
  refine r_goto (tgt := 30) C dX5_append_26 (by decide) ?_
  refine r_runI (fun aH aL aj a1 a2 a3 => run_V C hF.2.2.1 (kX5_holds hM (x := 2) (by omega)) lm_X5_holds ml_X5_94 im_X5_holds se_X5_holds M1 rfl (Nat.le_of_ble_eq_true rfl) dX5_append_30 rfl (Nat.le_of_ble_eq_true rfl) a1 a2 a3) ?_
  rw [b01_f (show ¬ (2 : Int) = 0 by omega)]
  refine r_if_ne (tgt := 38) C dX5_append_33 (by decide) (by omega) (fun c33 => absurd c33 (by omega)) (fun c33 => ?_)
  refine r_iconst C dX5_append_36 ?_
  exact r_iretr C hF dX5_append_37 rfl (MR_th μ q _)
set_option maxRecDepth 20000 in
set_option maxHeartbeats 2000000 in
theorem kX5_append_0 {V : Wo} {μ : Mem} {q : Nat} (hM : MoS V q) {K : Int} (hv : veW K (μ (q + 1))) (hb : 0 ≤ μ q 5 ∧ μ q 5 ≤ 60) {c : Int} (hc : inR c) (h : 33 ≤ c ∧ c ≤ 126) (h2 : μ q 5 < 60) : Con V 1 yX5_append cX5_append 2 (some .int) [vR q, vI c] (μ) (QIr V (μ q 5 + 1) ((fun ν => MR q μ ν 0 (μ q 2) (μ q 3) (μ q 5 + 1) (μ (q + 1)) (s1 (μ (q + 2)) (μ q 5) c)))) := by
  refine con_of (ls0 := [vR q, vI c]) (by decide +kernel) rfl (Nat.le_of_ble_eq_true rfl) (Nat.le_of_ble_eq_true rfl) (fun X hV C hF => ?_)
  subst hV
  have C : Ok X RX5 cX5_append 2 1 := C
  obtain ⟨M0, M1, Ms, Mt, Mr, Md, Ml⟩ := id hM
  obtain ⟨v0, v1, v2, v3, v4, v5, v6, v7, v8, v9, v10⟩ := id hv
  refine r_aload_n C dX5_append_0 rfl ?_
  refine r_iload_n C dX5_append_1 rfl ?_
  refine r_bipush C dX5_append_2 rfl ?_
  refine r_bipush C dX5_append_4 rfl ?_
  refine r_runI (fun aH aL aj a1 a2 a3 => run_S C hF.2.2.1 (kX5_in (v := c) (l := 33) (u := 126) (by omega) (by omega) (by omega)) lm_X5_in ml_X5_29 sm_X5_in (Nat.le_of_ble_eq_true rfl) dX5_append_6 rfl (Nat.le_of_ble_eq_true rfl) a1 a2 a3) ?_
  rw [b01_t (by omega)]
  refine r_if_ne (tgt := 16) C dX5_append_9 (by decide) (by omega) (fun c9 => ?_) (fun c9 => absurd c9 (by omega))
  refine r_aload_n C dX5_append_16 rfl ?_
  refine gf_X5_125 C M1 dX5_append_17 ?_
  refine r_bipush C dX5_append_20 rfl ?_
  refine r_icmp_ne (tgt := 29) C dX5_append_22 (by decide) (by omega) (by omega) (fun c22 => ?_) (fun c22 => absurd c22 (by omega))
  refine r_iconst C dX5_append_29 ?_
  refine r_runI (fun aH aL aj a1 a2 a3 => run_V C hF.2.2.1 (kX5_holds hM (x := 0) (by omega)) lm_X5_holds ml_X5_94 im_X5_holds se_X5_holds M1 rfl (Nat.le_of_ble_eq_true rfl) dX5_append_30 rfl (Nat.le_of_ble_eq_true rfl) a1 a2 a3) ?_
  rw [b01_t rfl]
  refine r_if_ne (tgt := 38) C dX5_append_33 (by decide) (by omega) (fun c33 => ?_) (fun c33 => absurd c33 (by omega))
  refine r_aload_n C dX5_append_38 rfl ?_
  refine gf_X5_13 C M1 dX5_append_39 ?_
  refine r_aload_n C dX5_append_42 rfl ?_
  refine gf_X5_125 C M1 dX5_append_43 ?_
  simp (disch := omega) only [wr_s, s1_n]
  refine r_iload_n C dX5_append_46 rfl ?_
  refine r_iast C Mt (by omega) (by omega) (by omega) dX5_append_47 ?_
  refine r_aload_n C dX5_append_48 rfl ?_
  refine r_dup C dX5_append_49 rfl ?_
  refine gf_X5_125 C M1 dX5_append_50 ?_
  refine r_iconst C dX5_append_53 ?_
  refine r_iadd C dX5_append_54 ?_
  simp (disch := omega) only [wr_s, wr_n, s1_n]
  refine pf_X5_125 C M1 M0 dX5_append_55 ?_
  refine r_aload_n C dX5_append_58 rfl ?_
  refine gf_X5_125 C M1 dX5_append_59 ?_
  simp (disch := omega) only [wr_s, wr_n, s1_s]
  exact r_iretr C hF dX5_append_62 rfl (MR_app μ q c)
set_option maxRecDepth 20000 in
set_option maxHeartbeats 2000000 in
theorem kX5_clearBuffer {V : Wo} {μ : Mem} {q : Nat} (hM : MoS V q) : Con V 0 yX5_clearBuffer cX5_clearBuffer 2 (some .int) [vR q] (μ) (QIr V (μ q 5) ((fun ν => MR q μ ν 0 (μ q 2) (μ q 3) 0 (μ (q + 1)) (μ (q + 2))))) := by
  refine con_of (ls0 := [vR q, vU]) (by decide +kernel) rfl (Nat.le_of_ble_eq_true rfl) (Nat.le_of_ble_eq_true rfl) (fun X hV C hF => ?_)
  subst hV
  have C : Ok X RX5 cX5_clearBuffer 2 0 := C
  obtain ⟨M0, M1, Ms, Mt, Mr, Md, Ml⟩ := id hM
  refine r_aload_n C dX5_clearBuffer_0 rfl ?_
  refine r_iconst C dX5_clearBuffer_1 ?_
  refine pf_X5_25 C M1 M0 dX5_clearBuffer_2 ?_
  refine r_aload_n C dX5_clearBuffer_5 rfl ?_
  refine gf_X5_125 C M1 dX5_clearBuffer_6 ?_
  simp (disch := omega) only [wr_s, s1_n]
  refine r_istore_n C dX5_clearBuffer_9 (by decide) rfl ?_
  refine r_aload_n C dX5_clearBuffer_10 rfl ?_
  refine r_iconst C dX5_clearBuffer_11 ?_
  refine pf_X5_125 C M1 M0 dX5_clearBuffer_12 ?_
  refine r_iload_n C dX5_clearBuffer_15 rfl ?_
  simp (disch := omega) only [wr_s, wr_ww]
  exact r_iretr C hF dX5_clearBuffer_16 rfl (MR_clr μ q)
set_option maxRecDepth 20000 in
set_option maxHeartbeats 2000000 in
theorem kX5_keep {V : Wo} {μ : Mem} {q : Nat} (hM : MoS V q) {K : Int} (hv : veW K (μ (q + 1))) : Con V 1 yX5_keep cX5_keep 1 (some .int) [vR q] (μ) (QIr V ((μ (q + 1)) 3) ((fun ν => MR q μ ν 0 (μ q 2) 1 (μ q 5) (cpV (μ (q + 1)) 0 7 110) (μ (q + 2))))) := by
  refine con_of (ls0 := [vR q]) (by decide +kernel) rfl (Nat.le_of_ble_eq_true rfl) (Nat.le_of_ble_eq_true rfl) (fun X hV C hF => ?_)
  subst hV
  have C : Ok X RX5 cX5_keep 1 1 := C
  obtain ⟨M0, M1, Ms, Mt, Mr, Md, Ml⟩ := id hM
  obtain ⟨v0, v1, v2, v3, v4, v5, v6, v7, v8, v9, v10⟩ := id hv
  refine r_aload_n C dX5_keep_0 rfl ?_
  refine r_iconst C dX5_keep_1 ?_
  refine pf_X5_25 C M1 M0 dX5_keep_2 ?_
  refine r_aload_n C dX5_keep_5 rfl ?_
  refine r_iconst C dX5_keep_6 ?_
  refine r_bipush C dX5_keep_7 rfl ?_
  refine r_runV (fun aH aL aj a1 a2 a3 => run_V C hF.2.2.1 (kX5_copies hM (f := 0) (t := 7) (by omega) (by omega) (by omega) (by omega) (by omega)) lm_X5_copies ml_X5_84 im_X5_copies se_X5_copies M1 rfl (Nat.le_of_ble_eq_true rfl) dX5_keep_9 rfl (Nat.le_of_ble_eq_true rfl) a1 a2 a3) ?_
  simp (disch := omega) only [wr_n]
  refine r_aload_n C dX5_keep_12 rfl ?_
  refine r_iconst C dX5_keep_13 ?_
  refine pf_X5_158 C M1 M0 (by omega) dX5_keep_14 ?_
  refine r_aload_n C dX5_keep_17 rfl ?_
  refine gf_X5_7 C M1 dX5_keep_18 ?_
  refine r_iconst C dX5_keep_21 ?_
  refine r_iald C Ms (by omega) (by omega) dX5_keep_22 ?_
  simp (disch := omega) only [wr_n, wr_s]
  rw [cpV_lo (by omega) (by omega)]
  exact r_iretr C hF dX5_keep_23 rfl (MR_kp μ q)
set_option maxRecDepth 20000 in
set_option maxHeartbeats 2000000 in
theorem kX5_goBack_1 {V : Wo} {μ : Mem} {q : Nat} (hM : MoS V q) {K : Int} (hv : veW K (μ (q + 1))) (h : μ q 3 = 0) : Con V 2 yX5_goBack cX5_goBack 1 (some .int) [vR q] (μ) (QIr V (0) ((fun ν => MR q μ ν 1 (μ q 2) (μ q 3) (μ q 5) (μ (q + 1)) (μ (q + 2))))) := by
  refine con_of (ls0 := [vR q]) (by decide +kernel) rfl (Nat.le_of_ble_eq_true rfl) (Nat.le_of_ble_eq_true rfl) (fun X hV C hF => ?_)
  subst hV
  have C : Ok X RX5 cX5_goBack 1 2 := C
  obtain ⟨M0, M1, Ms, Mt, Mr, Md, Ml⟩ := id hM
  obtain ⟨v0, v1, v2, v3, v4, v5, v6, v7, v8, v9, v10⟩ := id hv
  refine r_aload_n C dX5_goBack_0 rfl ?_
  refine r_aload_n C dX5_goBack_1 rfl ?_
  refine gf_X5_158 C M1 dX5_goBack_2 ?_
  refine r_if_eq (tgt := 12) C dX5_goBack_5 (by decide) (by omega) (fun c5 => ?_) (fun c5 => absurd c5 (by omega))
  refine r_iconst C dX5_goBack_12 ?_
  refine r_runI (fun aH aL aj a1 a2 a3 => run_V C hF.2.2.1 (kX5_holds hM (x := 1) (by omega)) lm_X5_holds ml_X5_94 im_X5_holds se_X5_holds M1 rfl (Nat.le_of_ble_eq_true rfl) dX5_goBack_13 rfl (Nat.le_of_ble_eq_true rfl) a1 a2 a3) ?_
  rw [b01_f (show ¬ (1 : Int) = 0 by omega)]
  refine r_if_ne (tgt := 21) C dX5_goBack_16 (by decide) (by omega) (fun c16 => absurd c16 (by omega)) (fun c16 => ?_)
  refine r_iconst C dX5_goBack_19 ?_
  exact r_iretr C hF dX5_goBack_20 rfl (MR_th μ q _)
set_option maxRecDepth 20000 in
set_option maxHeartbeats 2000000 in
theorem kX5_goBack_0 {V : Wo} {μ : Mem} {q : Nat} (hM : MoS V q) {K : Int} (hv : veW K (μ (q + 1))) (hs : 0 ≤ μ q 2) (hs2 : μ q 2 ≤ 6) (h : μ q 3 = 1) : Con V 2 yX5_goBack cX5_goBack 1 (some .int) [vR q] (μ) (QIr V ((μ (q + 1)) 773) ((fun ν => MR q μ ν 0 (sv1 (μ q 2)) (μ q 3) (μ q 5) (cpV (mSav (μ (q + 1)) (μ q 2)) 7 0 110) (μ (q + 2))))) := by
  refine con_of (ls0 := [vR q]) (by decide +kernel) rfl (Nat.le_of_ble_eq_true rfl) (Nat.le_of_ble_eq_true rfl) (fun X hV C hF => ?_)
  subst hV
  have C : Ok X RX5 cX5_goBack 1 2 := C
  obtain ⟨M0, M1, Ms, Mt, Mr, Md, Ml⟩ := id hM
  obtain ⟨v0, v1, v2, v3, v4, v5, v6, v7, v8, v9, v10⟩ := id hv
  have e1 : mS μ q (q + 1) = mSav (μ (q + 1)) (μ q 2) := mS_1 μ q
  have hv2 : veW K (mS μ q (q + 1)) := by rw [e1]; exact veW_sav hv hs
  have el : ∀ j, j < 110 → mS μ q (q + 1) j = (μ (q + 1)) j := fun j hj => by rw [e1]; exact mSav_lo hs hj
  have e3 := el 3 (by omega)
  refine r_aload_n C dX5_goBack_0 rfl ?_
  refine r_aload_n C dX5_goBack_1 rfl ?_
  refine gf_X5_158 C M1 dX5_goBack_2 ?_
  refine r_if_eq (tgt := 12) C dX5_goBack_5 (by decide) (by omega) (fun c5 => absurd c5 (by omega)) (fun c5 => ?_)
  refine r_iconst C dX5_goBack_8 ?_
  refine r_goto (tgt := 13) C dX5_goBack_9 (by decide) ?_
  refine r_runI (fun aH aL aj a1 a2 a3 => run_V C hF.2.2.1 (kX5_holds hM (x := 0) (by omega)) lm_X5_holds ml_X5_94 im_X5_holds se_X5_holds M1 rfl (Nat.le_of_ble_eq_true rfl) dX5_goBack_13 rfl (Nat.le_of_ble_eq_true rfl) a1 a2 a3) ?_
  rw [b01_t rfl]
  refine r_if_ne (tgt := 21) C dX5_goBack_16 (by decide) (by omega) (fun c16 => ?_) (fun c16 => absurd c16 (by omega))
  refine r_aload_n C dX5_goBack_21 rfl ?_
  refine r_runV (fun aH aL aj a1 a2 a3 => run_V C hF.2.2.1 (kX5_save (μ := wr μ q (s1 (μ q) 0 0)) hM (by rw [wr_s, s1_n _ _ (by omega)]; exact hs) (by rw [wr_s, s1_n _ _ (by omega)]; exact hs2)) lm_X5_save ml_X5_97 im_X5_save se_X5_save M1 rfl (Nat.le_of_ble_eq_true rfl) dX5_goBack_22 rfl (Nat.le_of_ble_eq_true rfl) a1 a2 a3) ?_
  rw [mS_of]
  refine r_aload_n C dX5_goBack_25 rfl ?_
  refine r_bipush C dX5_goBack_26 rfl ?_
  refine r_iconst C dX5_goBack_28 ?_
  refine r_runV (fun aH aL aj a1 a2 a3 => run_V C hF.2.2.1 (kX5_copies hM (f := 7) (t := 0) (by omega) (by omega) (by omega) (by omega) (by omega)) lm_X5_copies ml_X5_84 im_X5_copies se_X5_copies M1 rfl (Nat.le_of_ble_eq_true rfl) dX5_goBack_29 rfl (Nat.le_of_ble_eq_true rfl) a1 a2 a3) ?_
  refine r_aload_n C dX5_goBack_32 rfl ?_
  refine gf_X5_7 C M1 dX5_goBack_33 ?_
  refine r_iconst C dX5_goBack_36 ?_
  refine r_iald C Ms (by omega) (by omega) dX5_goBack_37 ?_
  rw [wr_s, e1, cpV_7 hs hs2]
  exact r_iretr C hF dX5_goBack_38 rfl (MR_mS μ q _)
set_option maxRecDepth 20000 in
set_option maxHeartbeats 2000000 in
theorem kX5_undo_1 {V : Wo} {μ : Mem} {q : Nat} (hM : MoS V q) {K : Int} (hv : veW K (μ (q + 1))) (h : μ q 2 = 0) : Con V 1 yX5_undo cX5_undo 1 (some .int) [vR q] (μ) (QIr V (0) ((fun ν => MR q μ ν 1 (μ q 2) (μ q 3) (μ q 5) (μ (q + 1)) (μ (q + 2))))) := by
  refine con_of (ls0 := [vR q]) (by decide +kernel) rfl (Nat.le_of_ble_eq_true rfl) (Nat.le_of_ble_eq_true rfl) (fun X hV C hF => ?_)
  subst hV
  have C : Ok X RX5 cX5_undo 1 1 := C
  obtain ⟨M0, M1, Ms, Mt, Mr, Md, Ml⟩ := id hM
  obtain ⟨v0, v1, v2, v3, v4, v5, v6, v7, v8, v9, v10⟩ := id hv
  refine r_aload_n C dX5_undo_0 rfl ?_
  refine r_aload_n C dX5_undo_1 rfl ?_
  refine gf_X5_81 C M1 dX5_undo_2 ?_
  refine r_if_le (tgt := 12) C dX5_undo_5 (by decide) (by omega) (fun c5 => ?_) (fun c5 => absurd c5 (by omega))
  refine r_iconst C dX5_undo_12 ?_
  refine r_runI (fun aH aL aj a1 a2 a3 => run_V C hF.2.2.1 (kX5_holds hM (x := 1) (by omega)) lm_X5_holds ml_X5_94 im_X5_holds se_X5_holds M1 rfl (Nat.le_of_ble_eq_true rfl) dX5_undo_13 rfl (Nat.le_of_ble_eq_true rfl) a1 a2 a3) ?_
  rw [b01_f (show ¬ (1 : Int) = 0 by omega)]
  refine r_if_ne (tgt := 21) C dX5_undo_16 (by decide) (by omega) (fun c16 => absurd c16 (by omega)) (fun c16 => ?_)
  refine r_iconst C dX5_undo_19 ?_
  exact r_iretr C hF dX5_undo_20 rfl (MR_th μ q _)
set_option maxRecDepth 20000 in
set_option maxHeartbeats 2000000 in
theorem kX5_undo_0 {V : Wo} {μ : Mem} {q : Nat} (hM : MoS V q) {K : Int} (hv : veW K (μ (q + 1))) (hs : 0 ≤ μ q 2) (hs2 : μ q 2 ≤ 6) (h : 0 < μ q 2) : Con V 1 yX5_undo cX5_undo 1 (some .int) [vR q] (μ) (QIr V (μ q 2 - 1) ((fun ν => MR q μ ν 0 (μ q 2 - 1) (μ q 3) (μ q 5) (cpV (μ (q + 1)) (μ q 2) 0 110) (μ (q + 2))))) := by
  refine con_of (ls0 := [vR q]) (by decide +kernel) rfl (Nat.le_of_ble_eq_true rfl) (Nat.le_of_ble_eq_true rfl) (fun X hV C hF => ?_)
  subst hV
  have C : Ok X RX5 cX5_undo 1 1 := C
  obtain ⟨M0, M1, Ms, Mt, Mr, Md, Ml⟩ := id hM
  obtain ⟨v0, v1, v2, v3, v4, v5, v6, v7, v8, v9, v10⟩ := id hv
  refine r_aload_n C dX5_undo_0 rfl ?_
  refine r_aload_n C dX5_undo_1 rfl ?_
  refine gf_X5_81 C M1 dX5_undo_2 ?_
  refine r_if_le (tgt := 12) C dX5_undo_5 (by decide) (by omega) (fun c5 => absurd c5 (by omega)) (fun c5 => ?_)
  refine r_iconst C dX5_undo_8 ?_
  refine r_goto (tgt := 13) C dX5_undo_9 (by decide) ?_
  refine r_runI (fun aH aL aj a1 a2 a3 => run_V C hF.2.2.1 (kX5_holds hM (x := 0) (by omega)) lm_X5_holds ml_X5_94 im_X5_holds se_X5_holds M1 rfl (Nat.le_of_ble_eq_true rfl) dX5_undo_13 rfl (Nat.le_of_ble_eq_true rfl) a1 a2 a3) ?_
  rw [b01_t rfl]
  refine r_if_ne (tgt := 21) C dX5_undo_16 (by decide) (by omega) (fun c16 => ?_) (fun c16 => absurd c16 (by omega))
  refine r_aload_n C dX5_undo_21 rfl ?_
  refine r_aload_n C dX5_undo_22 rfl ?_
  refine gf_X5_81 C M1 dX5_undo_23 ?_
  simp (disch := omega) only [wr_s, s1_n]
  refine r_iconst C dX5_undo_26 ?_
  refine r_runV (fun aH aL aj a1 a2 a3 => run_V C hF.2.2.1 (kX5_copies hM (f := μ q 2) (t := 0) (by omega) (by omega) (by omega) (by omega) (by omega)) lm_X5_copies ml_X5_84 im_X5_copies se_X5_copies M1 rfl (Nat.le_of_ble_eq_true rfl) dX5_undo_27 rfl (Nat.le_of_ble_eq_true rfl) a1 a2 a3) ?_
  refine r_aload_n C dX5_undo_30 rfl ?_
  refine r_dup C dX5_undo_31 rfl ?_
  refine gf_X5_81 C M1 dX5_undo_32 ?_
  refine r_iconst C dX5_undo_35 ?_
  refine r_isub C dX5_undo_36 ?_
  simp (disch := omega) only [wr_s, wr_n, s1_n]
  refine pf_X5_81 C M1 M0 dX5_undo_37 ?_
  refine r_aload_n C dX5_undo_40 rfl ?_
  refine gf_X5_81 C M1 dX5_undo_41 ?_
  simp (disch := omega) only [wr_s, s1_s]
  exact r_iretr C hF dX5_undo_44 rfl (by rw [wr_n (wr μ q (s1 (μ q) 0 0)) _ (show q ≠ q + 1 by omega), wr_s μ q]; exact MR_und μ q)
