set_option maxRecDepth 20000 in
set_option maxHeartbeats 2000000 in
theorem kL_holds_c {V : Wo} {μ : Mem} {q : Nat} {K : Int} {μ0 : Mem} {u z : Int → Int} {sv : Int} {st : List (Int → Int)} (N : CA V K q μ0 u z sv st μ) (hc : Cs u) : Con V 6 yL_holds cL_holds 13 (some .boolean) [vR q] (μ) (QIr V (1) (CA V K q μ0 u z sv st)) := by
  refine con_of (ls0 := [vR q, vU, vU, vU, vU, vU, vU, vU, vU, vU, vU, vU, vU]) (by decide +kernel) rfl (Nat.le_of_ble_eq_true rfl) (Nat.le_of_ble_eq_true rfl) (fun X hV C hF => ?_)
  subst hV
  have C : Ok X RL cL_holds 13 6 := C
  have hv := ca_u N
  have h3 := veW_3 hv
  have hsv := ca_s N
  have hE := hd_e (sv := sv) hv
  have r4 := coT_r (w := 4) hv hsv
  have r10 := coT_r (w := 10) hv hsv
  have r13 := coT_r (w := 13) hv hsv
  obtain ⟨u0, u1, u2⟩ := (⟨hv.2.1, hv.2.2.1, hv.2.2.2.1⟩ : (1 ≤ u 0 ∧ u 0 ≤ 16) ∧ (2 ≤ u 1 ∧ u 1 ≤ 8) ∧ (1 ≤ u 2 ∧ u 2 ≤ 9))
  refine r_aload_n C dL_holds_0 rfl ?_
  refine r_iconst C dL_holds_1 ?_
  refine r_runIr (fun aH aL aj a1 a2 a3 => run_V C hF.2.2.1 (kA_count N (by omega)) lm_X4_count ml_L_13 im_X4_count se_X4_count (ca_q N) rfl (Nat.le_of_ble_eq_true rfl) dL_holds_2 rfl (Nat.le_of_ble_eq_true rfl) a1 a2 a3) (fun ν N => ?_)
  rw [coT_0]
  refine r_istore_n C dL_holds_5 (by decide) rfl ?_
  refine r_iconst C dL_holds_6 ?_
  refine r_istore_n C dL_holds_7 (by decide) rfl ?_
  refine r_iconst C dL_holds_8 ?_
  refine r_istore_n C dL_holds_9 (by decide) rfl ?_
  refine r_iconst C dL_holds_10 ?_
  refine r_istore C dL_holds_11 (by decide) rfl ?_
  refine r_iconst C dL_holds_13 ?_
  refine r_istore C dL_holds_14 (by decide) rfl ?_
  refine r_iconst C dL_holds_16 ?_
  refine r_istore C dL_holds_17 (by decide) rfl ?_
  refine r_iconst C dL_holds_19 ?_
  refine r_istore C dL_holds_20 (by decide) rfl ?_
  refine r_iconst C dL_holds_22 ?_
  refine r_istore C dL_holds_23 (by decide) rfl ?_
  refine r_iload_n C dL_holds_25 rfl ?_
  refine r_if_lt (tgt := 39) C dL_holds_26 (by decide) (by omega) (fun c26 => absurd c26 (by omega)) (fun c26 => ?_)
  refine r_iload_n C dL_holds_29 rfl ?_
  refine r_bipush C dL_holds_30 rfl ?_
  refine r_icmp_gt (tgt := 39) C dL_holds_32 (by decide) (by omega) (by omega) (fun c32 => absurd c32 (by omega)) (fun c32 => ?_)
  refine r_iconst C dL_holds_35 ?_
  refine r_goto (tgt := 40) C dL_holds_36 (by decide) ?_
  refine r_istore C dL_holds_40 (by decide) rfl ?_
  refine r_iconst C dL_holds_42 ?_
  refine r_istore C dL_holds_43 (by decide) rfl ?_
  refine r_loc (ls' := [vR q, vI (u 3), vI (smS u 3 0), vI (smS u 5 0), vI (smS u 4 0), vI (lsN u 0), vI (0), vI (0), vI (-1), vI 1, vI 0, vU, vU]) ?_ rfl
  refine loop_up (F := fun k => ∀ (ν : Mem) (a b : AV), CA (xV X) K q μ0 u z sv st ν → RR X ν 45 [vR q, vI (u 3), vI (smS u 3 k), vI (smS u 5 k), vI (smS u 4 k), vI (lsN u k), vI (0), vI (0), vI (-1), vI 1, vI k, a, b] []) (a := 0) (b := u 3) h3.1 ?_ ?_ _ _ _ N
  · intro ν a b N
    show RR X _ _ [vR q, vI (u 3), vI (smS u 3 (u 3)), vI (smS u 5 (u 3)), vI (smS u 4 (u 3)), vI (lsN u (u 3)), vI (0), vI (0), vI (-1), vI 1, vI (u 3), a, b] []
    rw [smS_3 u sv, smS_4 u sv, smS_5 u sv, lsN_e u sv]
    refine r_iload C dL_holds_45 rfl ?_
    refine r_iload_n C dL_holds_47 rfl ?_
    refine r_icmp_ge (tgt := 241) C dL_holds_48 (by decide) (by omega) (by omega) (fun c48 => ?_) (fun c48 => absurd c48 (by omega))
    refine r_bipush C dL_holds_241 rfl ?_
    refine r_istore C dL_holds_243 (by decide) rfl ?_
    refine jn (A := ∀ (ν : Mem) (a b : AV), CA (xV X) K q μ0 u z sv st ν → RR X ν 245 [vR q, vI (u 3), vI (coT u sv 1), vI (coT u sv 8), vI (coT u sv 9), vI (coT u sv 11), vI (dnB u 1 16), vI (dnB u 2 16), vI (msD u 16), vI 1, vI (16 - 1), a, b] []) ?_ (fun K245 => r_loc (K245 _ _ _ N) (by rw [dnB_16, dnB_16, msD_16 hv]; first | done | rfl))
    refine loop_dn (F := fun i => ∀ (ν : Mem) (a b : AV), CA (xV X) K q μ0 u z sv st ν → RR X ν 245 [vR q, vI (u 3), vI (coT u sv 1), vI (coT u sv 8), vI (coT u sv 9), vI (coT u sv 11), vI (dnB u 1 i), vI (dnB u 2 i), vI (msD u i), vI 1, vI (i - 1), a, b] []) (a := 0) (b := 16) (by decide) ?_ ?_
    · intro ν a b N
      show RR X _ _ [vR q, vI (u 3), vI (coT u sv 1), vI (coT u sv 8), vI (coT u sv 9), vI (coT u sv 11), vI (dnB u 1 0), vI (dnB u 2 0), vI (msD u 0), vI 1, vI (0 - 1), a, b] []
      refine r_iload C dL_holds_245 rfl ?_
      refine r_if_lt (tgt := 396) C dL_holds_247 (by decide) (by omega) (fun c247 => ?_) (fun c247 => absurd c247 (by omega))
      have q1 := dnB_1 hv
      have q2 := dnB_2 u sv
      have q3 := msD_0 u sv
      refine r_aload_n C dL_holds_396 rfl ?_
      refine r_iconst C dL_holds_397 ?_
      refine r_runIr (fun aH aL aj a1 a2 a3 => run_V C hF.2.2.1 (kA_count N (by omega)) lm_X4_count ml_L_13 im_X4_count se_X4_count (ca_q N) rfl (Nat.le_of_ble_eq_true rfl) dL_holds_398 rfl (Nat.le_of_ble_eq_true rfl) a1 a2 a3) (fun ν N => ?_)
      refine r_istore C dL_holds_401 (by decide) rfl ?_
      refine r_aload_n C dL_holds_403 rfl ?_
      refine r_iconst C dL_holds_404 ?_
      refine r_runIr (fun aH aL aj a1 a2 a3 => run_V C hF.2.2.1 (kA_count N (by omega)) lm_X4_count ml_L_13 im_X4_count se_X4_count (ca_q N) rfl (Nat.le_of_ble_eq_true rfl) dL_holds_405 rfl (Nat.le_of_ble_eq_true rfl) a1 a2 a3) (fun ν N => ?_)
      refine r_istore C dL_holds_408 (by decide) rfl ?_
      refine jn (A := ∀ (ν : Mem) (b : AV), CA (xV X) K q μ0 u z sv st ν → RR X ν 518 [vR q, vI (u 3), vI (coT u sv 1), vI (coT u sv 8), vI (coT u sv 9), vI (coT u sv 11), vI (dnB u 1 0), vI (dnB u 2 0), vI (msD u 0), vI 1, vI (coT u sv 2), vI (coT u sv 3), b] []) ?_ (fun K518 => ?_)
      · intro ν b N
        refine jn (A := ∀ (ν : Mem) (b : AV), CA (xV X) K q μ0 u z sv st ν → RR X ν 585 [vR q, vI (u 3), vI (coT u sv 1), vI (coT u sv 8), vI (coT u sv 9), vI (coT u sv 11), vI (dnB u 1 0), vI (dnB u 2 0), vI (msD u 0), vI 1, vI (coT u sv 2), vI (coT u sv 3), b] []) ?_ (fun K585 => ?_)
        · intro ν b N
          refine jn (A := ∀ (ν : Mem) (b : AV), CA (xV X) K q μ0 u z sv st ν → RR X ν 671 [vR q, vI (u 3), vI (coT u sv 1), vI (coT u sv 8), vI (coT u sv 9), vI (coT u sv 11), vI (dnB u 1 0), vI (dnB u 2 0), vI (msD u 0), vI 1, vI (coT u sv 2), vI (coT u sv 3), b] []) ?_ (fun K671 => ?_)
          · intro ν b N
            rcases (by omega : coT u sv 6 = 0 ∨ coT u sv 6 ≠ 0) with g6 | g6
            · have g8 := (hE.2.2.1).mp g6
              rcases (by omega : u 3 = 0 ∨ u 3 ≠ 0) with n0 | n0
              · have hdz : (Op.cmpValue (FP.dcmp (shT u) FP.dconst1) .l).toInt = 0 := by
                  have e : shT u = FP.dconst1 := if_pos n0
                  have g := (chkD_e (chk_sh hv)).2
                  rw [e] at g ⊢
                  exact g
                refine r_iload C dL_holds_671 rfl ?_
                refine r_if_eq (tgt := 868) C dL_holds_673 (by decide) (by omega) (fun c673 => absurd c673 (by omega)) (fun c673 => ?_)
                refine r_iload_n C dL_holds_676 rfl ?_
                refine r_aload_n C dL_holds_677 rfl ?_
                refine r_iconst C dL_holds_678 ?_
                refine r_runIr (fun aH aL aj a1 a2 a3 => run_V C hF.2.2.1 (kA_count N (by omega)) lm_X4_count ml_L_13 im_X4_count se_X4_count (ca_q N) rfl (Nat.le_of_ble_eq_true rfl) dL_holds_679 rfl (Nat.le_of_ble_eq_true rfl) a1 a2 a3) (fun ν N => ?_)
                refine r_icmp_ne (tgt := 868) C dL_holds_682 (by decide) (by omega) (by omega) (fun c682 => absurd c682 (by omega)) (fun c682 => ?_)
                refine r_iload_n C dL_holds_685 rfl ?_
                refine r_aload_n C dL_holds_686 rfl ?_
                refine r_bipush C dL_holds_687 rfl ?_
                refine r_runIr (fun aH aL aj a1 a2 a3 => run_V C hF.2.2.1 (kA_count N (by omega)) lm_X4_count ml_L_13 im_X4_count se_X4_count (ca_q N) rfl (Nat.le_of_ble_eq_true rfl) dL_holds_689 rfl (Nat.le_of_ble_eq_true rfl) a1 a2 a3) (fun ν N => ?_)
                refine r_icmp_ne (tgt := 868) C dL_holds_692 (by decide) (by omega) (by omega) (fun c692 => absurd c692 (by omega)) (fun c692 => ?_)
                refine r_iload C dL_holds_695 rfl ?_
                refine r_aload_n C dL_holds_697 rfl ?_
                refine r_bipush C dL_holds_698 rfl ?_
                refine r_runIr (fun aH aL aj a1 a2 a3 => run_V C hF.2.2.1 (kA_count N (by omega)) lm_X4_count ml_L_13 im_X4_count se_X4_count (ca_q N) rfl (Nat.le_of_ble_eq_true rfl) dL_holds_700 rfl (Nat.le_of_ble_eq_true rfl) a1 a2 a3) (fun ν N => ?_)
                refine r_icmp_ne (tgt := 868) C dL_holds_703 (by decide) (by omega) (by omega) (fun c703 => absurd c703 (by omega)) (fun c703 => ?_)
                refine r_iload C dL_holds_706 rfl ?_
                refine r_aload_n C dL_holds_708 rfl ?_
                refine r_bipush C dL_holds_709 rfl ?_
                refine r_runIr (fun aH aL aj a1 a2 a3 => run_V C hF.2.2.1 (kA_count N (by omega)) lm_X4_count ml_L_13 im_X4_count se_X4_count (ca_q N) rfl (Nat.le_of_ble_eq_true rfl) dL_holds_711 rfl (Nat.le_of_ble_eq_true rfl) a1 a2 a3) (fun ν N => ?_)
                refine r_icmp_ne (tgt := 868) C dL_holds_714 (by decide) (by omega) (by omega) (fun c714 => absurd c714 (by omega)) (fun c714 => ?_)
                refine r_iload C dL_holds_717 rfl ?_
                refine r_iload_n C dL_holds_719 rfl ?_
                refine r_icmp_ne (tgt := 868) C dL_holds_720 (by decide) (by omega) (by omega) (fun c720 => absurd c720 (by omega)) (fun c720 => ?_)
                refine r_iload C dL_holds_723 rfl ?_
                refine r_aload_n C dL_holds_725 rfl ?_
                refine r_bipush C dL_holds_726 rfl ?_
                refine r_runIr (fun aH aL aj a1 a2 a3 => run_V C hF.2.2.1 (kA_count N (by omega)) lm_X4_count ml_L_13 im_X4_count se_X4_count (ca_q N) rfl (Nat.le_of_ble_eq_true rfl) dL_holds_728 rfl (Nat.le_of_ble_eq_true rfl) a1 a2 a3) (fun ν N => ?_)
                refine r_icmp_ne (tgt := 868) C dL_holds_731 (by decide) (by omega) (by omega) (fun c731 => absurd c731 (by omega)) (fun c731 => ?_)
                refine r_iload C dL_holds_734 rfl ?_
                refine r_aload_n C dL_holds_736 rfl ?_
                refine r_iconst C dL_holds_737 ?_
                refine r_runIr (fun aH aL aj a1 a2 a3 => run_V C hF.2.2.1 (kA_count N (by omega)) lm_X4_count ml_L_13 im_X4_count se_X4_count (ca_q N) rfl (Nat.le_of_ble_eq_true rfl) dL_holds_738 rfl (Nat.le_of_ble_eq_true rfl) a1 a2 a3) (fun ν N => ?_)
                refine r_icmp_ne (tgt := 868) C dL_holds_741 (by decide) (by omega) (by omega) (fun c741 => absurd c741 (by omega)) (fun c741 => ?_)
                refine r_aload_n C dL_holds_744 rfl ?_
                refine r_bipush C dL_holds_745 rfl ?_
                refine r_runIr (fun aH aL aj a1 a2 a3 => run_V C hF.2.2.1 (kA_count N (by omega)) lm_X4_count ml_L_13 im_X4_count se_X4_count (ca_q N) rfl (Nat.le_of_ble_eq_true rfl) dL_holds_747 rfl (Nat.le_of_ble_eq_true rfl) a1 a2 a3) (fun ν N => ?_)
                refine r_aload_n C dL_holds_750 rfl ?_
                refine r_bipush C dL_holds_751 rfl ?_
                refine r_runIr (fun aH aL aj a1 a2 a3 => run_V C hF.2.2.1 (kA_count N (by omega)) lm_X4_count ml_L_13 im_X4_count se_X4_count (ca_q N) rfl (Nat.le_of_ble_eq_true rfl) dL_holds_753 rfl (Nat.le_of_ble_eq_true rfl) a1 a2 a3) (fun ν N => ?_)
                refine r_icmp_ne (tgt := 868) C dL_holds_756 (by decide) (by omega) (by omega) (fun c756 => absurd c756 (by omega)) (fun c756 => ?_)
                refine r_aload_n C dL_holds_759 rfl ?_
                refine r_bipush C dL_holds_760 rfl ?_
                refine r_runIr (fun aH aL aj a1 a2 a3 => run_V C hF.2.2.1 (kA_count N (by omega)) lm_X4_count ml_L_13 im_X4_count se_X4_count (ca_q N) rfl (Nat.le_of_ble_eq_true rfl) dL_holds_762 rfl (Nat.le_of_ble_eq_true rfl) a1 a2 a3) (fun ν N => ?_)
                refine r_if_lt (tgt := 868) C dL_holds_765 (by decide) (by omega) (fun c765 => absurd c765 (by omega)) (fun c765 => ?_)
                refine r_aload_n C dL_holds_768 rfl ?_
                refine r_bipush C dL_holds_769 rfl ?_
                refine r_runIr (fun aH aL aj a1 a2 a3 => run_V C hF.2.2.1 (kA_count N (by omega)) lm_X4_count ml_L_13 im_X4_count se_X4_count (ca_q N) rfl (Nat.le_of_ble_eq_true rfl) dL_holds_771 rfl (Nat.le_of_ble_eq_true rfl) a1 a2 a3) (fun ν N => ?_)
                refine r_iload_n C dL_holds_774 rfl ?_
                refine r_icmp_gt (tgt := 868) C dL_holds_775 (by decide) (by omega) (by omega) (fun c775 => absurd c775 (by omega)) (fun c775 => ?_)
                refine r_aload_n C dL_holds_778 rfl ?_
                refine r_bipush C dL_holds_779 rfl ?_
                refine r_runIr (fun aH aL aj a1 a2 a3 => run_V C hF.2.2.1 (kA_count N (by omega)) lm_X4_count ml_L_13 im_X4_count se_X4_count (ca_q N) rfl (Nat.le_of_ble_eq_true rfl) dL_holds_781 rfl (Nat.le_of_ble_eq_true rfl) a1 a2 a3) (fun ν N => ?_)
                refine r_if_ne (tgt := 791) C dL_holds_784 (by decide) (by omega) (fun c784 => absurd c784 (by omega)) (fun c784 => ?_)
                refine r_iconst C dL_holds_787 ?_
                refine r_goto (tgt := 792) C dL_holds_788 (by decide) ?_
                refine r_iload_n C dL_holds_792 rfl ?_
                refine r_if_ne (tgt := 800) C dL_holds_793 (by decide) (by omega) (fun c793 => absurd c793 (by omega)) (fun c793 => ?_)
                refine r_iconst C dL_holds_796 ?_
                refine r_goto (tgt := 801) C dL_holds_797 (by decide) ?_
                refine r_icmp_ne (tgt := 868) C dL_holds_801 (by decide) (by omega) (by omega) (fun c801 => absurd c801 (by omega)) (fun c801 => ?_)
                refine r_aload_n C dL_holds_804 rfl ?_
                refine r_bipush C dL_holds_805 rfl ?_
                refine r_runIr (fun aH aL aj a1 a2 a3 => run_V C hF.2.2.1 (kA_count N (by omega)) lm_X4_count ml_L_13 im_X4_count se_X4_count (ca_q N) rfl (Nat.le_of_ble_eq_true rfl) dL_holds_807 rfl (Nat.le_of_ble_eq_true rfl) a1 a2 a3) (fun ν N => ?_)
                refine r_iload_n C dL_holds_810 rfl ?_
                refine r_icmp_gt (tgt := 868) C dL_holds_811 (by decide) (by omega) (by omega) (fun c811 => absurd c811 (by omega)) (fun c811 => ?_)
                refine r_aload_n C dL_holds_814 rfl ?_
                refine r_bipush C dL_holds_815 rfl ?_
                refine r_runIr (fun aH aL aj a1 a2 a3 => run_V C hF.2.2.1 (kA_count N (by omega)) lm_X4_count ml_L_13 im_X4_count se_X4_count (ca_q N) rfl (Nat.le_of_ble_eq_true rfl) dL_holds_817 rfl (Nat.le_of_ble_eq_true rfl) a1 a2 a3) (fun ν N => ?_)
                refine r_aload_n C dL_holds_820 rfl ?_
                refine r_iconst C dL_holds_821 ?_
                refine r_runIr (fun aH aL aj a1 a2 a3 => run_V C hF.2.2.1 (kA_setting N (by omega)) lm_X4_setting ml_L_26 im_X4_setting se_X4_setting (ca_q N) rfl (Nat.le_of_ble_eq_true rfl) dL_holds_822 rfl (Nat.le_of_ble_eq_true rfl) a1 a2 a3) (fun ν N => ?_)
                refine r_iload C dL_holds_825 rfl ?_
                refine r_imul C dL_holds_827 ?_
                refine r_icmp_lt (tgt := 868) C dL_holds_828 (by decide) (by omega) (by omega) (fun c828 => absurd c828 (by omega)) (fun c828 => ?_)
                refine r_aload_n C dL_holds_831 rfl ?_
                refine r_iload_n C dL_holds_832 rfl ?_
                refine r_iconst C dL_holds_833 ?_
                refine r_runIr (fun aH aL aj a1 a2 a3 => run_V C hF.2.2.1 (kA_sheet_n N (by omega) (by decide)) lm_X4_sheet ml_L_19 im_X4_sheet se_X4_sheet (ca_q N) rfl (Nat.le_of_ble_eq_true rfl) dL_holds_834 rfl (Nat.le_of_ble_eq_true rfl) a1 a2 a3) (fun ν N => ?_)
                refine r_iconst C dL_holds_837 ?_
                refine r_icmp_ne (tgt := 868) C dL_holds_838 (by decide) (by omega) (by omega) (fun c838 => absurd c838 (by omega)) (fun c838 => ?_)
                refine r_aload_n C dL_holds_841 rfl ?_
                refine r_runDr (fun aH aL aj a1 a2 a3 => run_V C hF.2.2.1 (kA_stairShare N) lm_X4_stairShare ml_L_71 im_X4_stairShare se_X4_stairShare (ca_q N) rfl (Nat.le_of_ble_eq_true rfl) dL_holds_842 rfl (Nat.le_of_ble_eq_true rfl) a1 a2 a3) (fun ν N => ?_)
                refine r_iload_n C dL_holds_845 rfl ?_
                refine r_if_ne (tgt := 853) C dL_holds_846 (by decide) (by omega) (fun c846 => absurd c846 (by omega)) (fun c846 => ?_)
                refine r_dconst1 C dL_holds_849 ?_
                refine r_goto (tgt := 860) C dL_holds_850 (by decide) ?_
                refine r_dcmp C dL_holds_860 ?_
                refine r_if_ne (tgt := 868) C dL_holds_861 (by decide) (cmp_r _) (fun c861 => absurd c861 (fun h => h hdz)) (fun c861 => ?_)
                refine r_iconst C dL_holds_864 ?_
                refine r_goto (tgt := 869) C dL_holds_865 (by decide) ?_
                exact r_zretr C hF dL_holds_869 (by omega) rfl N
              · have esh : shT u = FP.ddiv (FP.i2d (Int32.ofInt (u 3 - coT u sv 1))) (FP.i2d (Int32.ofInt (u 3))) := if_neg n0
                have hok := (chkD_e (chk_sh hv)).1
                have hdz : (Op.cmpValue (FP.dcmp (shT u) (FP.ddiv (FP.i2d (Int32.ofInt (u 3 - coT u sv 1))) (FP.i2d (Int32.ofInt (u 3))))) .l).toInt = 0 := by
                  rw [← esh]
                  exact (chkD_e (chk_sh hv)).2
                rw [esh] at hok
                refine r_iload C dL_holds_671 rfl ?_
                refine r_if_eq (tgt := 868) C dL_holds_673 (by decide) (by omega) (fun c673 => absurd c673 (by omega)) (fun c673 => ?_)
                refine r_iload_n C dL_holds_676 rfl ?_
                refine r_aload_n C dL_holds_677 rfl ?_
                refine r_iconst C dL_holds_678 ?_
                refine r_runIr (fun aH aL aj a1 a2 a3 => run_V C hF.2.2.1 (kA_count N (by omega)) lm_X4_count ml_L_13 im_X4_count se_X4_count (ca_q N) rfl (Nat.le_of_ble_eq_true rfl) dL_holds_679 rfl (Nat.le_of_ble_eq_true rfl) a1 a2 a3) (fun ν N => ?_)
                refine r_icmp_ne (tgt := 868) C dL_holds_682 (by decide) (by omega) (by omega) (fun c682 => absurd c682 (by omega)) (fun c682 => ?_)
                refine r_iload_n C dL_holds_685 rfl ?_
                refine r_aload_n C dL_holds_686 rfl ?_
                refine r_bipush C dL_holds_687 rfl ?_
                refine r_runIr (fun aH aL aj a1 a2 a3 => run_V C hF.2.2.1 (kA_count N (by omega)) lm_X4_count ml_L_13 im_X4_count se_X4_count (ca_q N) rfl (Nat.le_of_ble_eq_true rfl) dL_holds_689 rfl (Nat.le_of_ble_eq_true rfl) a1 a2 a3) (fun ν N => ?_)
                refine r_icmp_ne (tgt := 868) C dL_holds_692 (by decide) (by omega) (by omega) (fun c692 => absurd c692 (by omega)) (fun c692 => ?_)
                refine r_iload C dL_holds_695 rfl ?_
                refine r_aload_n C dL_holds_697 rfl ?_
                refine r_bipush C dL_holds_698 rfl ?_
                refine r_runIr (fun aH aL aj a1 a2 a3 => run_V C hF.2.2.1 (kA_count N (by omega)) lm_X4_count ml_L_13 im_X4_count se_X4_count (ca_q N) rfl (Nat.le_of_ble_eq_true rfl) dL_holds_700 rfl (Nat.le_of_ble_eq_true rfl) a1 a2 a3) (fun ν N => ?_)
                refine r_icmp_ne (tgt := 868) C dL_holds_703 (by decide) (by omega) (by omega) (fun c703 => absurd c703 (by omega)) (fun c703 => ?_)
                refine r_iload C dL_holds_706 rfl ?_
                refine r_aload_n C dL_holds_708 rfl ?_
                refine r_bipush C dL_holds_709 rfl ?_
                refine r_runIr (fun aH aL aj a1 a2 a3 => run_V C hF.2.2.1 (kA_count N (by omega)) lm_X4_count ml_L_13 im_X4_count se_X4_count (ca_q N) rfl (Nat.le_of_ble_eq_true rfl) dL_holds_711 rfl (Nat.le_of_ble_eq_true rfl) a1 a2 a3) (fun ν N => ?_)
                refine r_icmp_ne (tgt := 868) C dL_holds_714 (by decide) (by omega) (by omega) (fun c714 => absurd c714 (by omega)) (fun c714 => ?_)
                refine r_iload C dL_holds_717 rfl ?_
                refine r_iload_n C dL_holds_719 rfl ?_
                refine r_icmp_ne (tgt := 868) C dL_holds_720 (by decide) (by omega) (by omega) (fun c720 => absurd c720 (by omega)) (fun c720 => ?_)
                refine r_iload C dL_holds_723 rfl ?_
                refine r_aload_n C dL_holds_725 rfl ?_
                refine r_bipush C dL_holds_726 rfl ?_
                refine r_runIr (fun aH aL aj a1 a2 a3 => run_V C hF.2.2.1 (kA_count N (by omega)) lm_X4_count ml_L_13 im_X4_count se_X4_count (ca_q N) rfl (Nat.le_of_ble_eq_true rfl) dL_holds_728 rfl (Nat.le_of_ble_eq_true rfl) a1 a2 a3) (fun ν N => ?_)
                refine r_icmp_ne (tgt := 868) C dL_holds_731 (by decide) (by omega) (by omega) (fun c731 => absurd c731 (by omega)) (fun c731 => ?_)
                refine r_iload C dL_holds_734 rfl ?_
                refine r_aload_n C dL_holds_736 rfl ?_
                refine r_iconst C dL_holds_737 ?_
                refine r_runIr (fun aH aL aj a1 a2 a3 => run_V C hF.2.2.1 (kA_count N (by omega)) lm_X4_count ml_L_13 im_X4_count se_X4_count (ca_q N) rfl (Nat.le_of_ble_eq_true rfl) dL_holds_738 rfl (Nat.le_of_ble_eq_true rfl) a1 a2 a3) (fun ν N => ?_)
                refine r_icmp_ne (tgt := 868) C dL_holds_741 (by decide) (by omega) (by omega) (fun c741 => absurd c741 (by omega)) (fun c741 => ?_)
                refine r_aload_n C dL_holds_744 rfl ?_
                refine r_bipush C dL_holds_745 rfl ?_
                refine r_runIr (fun aH aL aj a1 a2 a3 => run_V C hF.2.2.1 (kA_count N (by omega)) lm_X4_count ml_L_13 im_X4_count se_X4_count (ca_q N) rfl (Nat.le_of_ble_eq_true rfl) dL_holds_747 rfl (Nat.le_of_ble_eq_true rfl) a1 a2 a3) (fun ν N => ?_)
                refine r_aload_n C dL_holds_750 rfl ?_
                refine r_bipush C dL_holds_751 rfl ?_
                refine r_runIr (fun aH aL aj a1 a2 a3 => run_V C hF.2.2.1 (kA_count N (by omega)) lm_X4_count ml_L_13 im_X4_count se_X4_count (ca_q N) rfl (Nat.le_of_ble_eq_true rfl) dL_holds_753 rfl (Nat.le_of_ble_eq_true rfl) a1 a2 a3) (fun ν N => ?_)
                refine r_icmp_ne (tgt := 868) C dL_holds_756 (by decide) (by omega) (by omega) (fun c756 => absurd c756 (by omega)) (fun c756 => ?_)
                refine r_aload_n C dL_holds_759 rfl ?_
                refine r_bipush C dL_holds_760 rfl ?_
                refine r_runIr (fun aH aL aj a1 a2 a3 => run_V C hF.2.2.1 (kA_count N (by omega)) lm_X4_count ml_L_13 im_X4_count se_X4_count (ca_q N) rfl (Nat.le_of_ble_eq_true rfl) dL_holds_762 rfl (Nat.le_of_ble_eq_true rfl) a1 a2 a3) (fun ν N => ?_)
                refine r_if_lt (tgt := 868) C dL_holds_765 (by decide) (by omega) (fun c765 => absurd c765 (by omega)) (fun c765 => ?_)
                refine r_aload_n C dL_holds_768 rfl ?_
                refine r_bipush C dL_holds_769 rfl ?_
                refine r_runIr (fun aH aL aj a1 a2 a3 => run_V C hF.2.2.1 (kA_count N (by omega)) lm_X4_count ml_L_13 im_X4_count se_X4_count (ca_q N) rfl (Nat.le_of_ble_eq_true rfl) dL_holds_771 rfl (Nat.le_of_ble_eq_true rfl) a1 a2 a3) (fun ν N => ?_)
                refine r_iload_n C dL_holds_774 rfl ?_
                refine r_icmp_gt (tgt := 868) C dL_holds_775 (by decide) (by omega) (by omega) (fun c775 => absurd c775 (by omega)) (fun c775 => ?_)
                refine r_aload_n C dL_holds_778 rfl ?_
                refine r_bipush C dL_holds_779 rfl ?_
                refine r_runIr (fun aH aL aj a1 a2 a3 => run_V C hF.2.2.1 (kA_count N (by omega)) lm_X4_count ml_L_13 im_X4_count se_X4_count (ca_q N) rfl (Nat.le_of_ble_eq_true rfl) dL_holds_781 rfl (Nat.le_of_ble_eq_true rfl) a1 a2 a3) (fun ν N => ?_)
                refine r_if_ne (tgt := 791) C dL_holds_784 (by decide) (by omega) (fun c784 => absurd c784 (by omega)) (fun c784 => ?_)
                refine r_iconst C dL_holds_787 ?_
                refine r_goto (tgt := 792) C dL_holds_788 (by decide) ?_
                refine r_iload_n C dL_holds_792 rfl ?_
                refine r_if_ne (tgt := 800) C dL_holds_793 (by decide) (by omega) (fun c793 => absurd c793 (by omega)) (fun c793 => ?_)
                refine r_iconst C dL_holds_796 ?_
                refine r_goto (tgt := 801) C dL_holds_797 (by decide) ?_
                refine r_icmp_ne (tgt := 868) C dL_holds_801 (by decide) (by omega) (by omega) (fun c801 => absurd c801 (by omega)) (fun c801 => ?_)
                refine r_aload_n C dL_holds_804 rfl ?_
                refine r_bipush C dL_holds_805 rfl ?_
                refine r_runIr (fun aH aL aj a1 a2 a3 => run_V C hF.2.2.1 (kA_count N (by omega)) lm_X4_count ml_L_13 im_X4_count se_X4_count (ca_q N) rfl (Nat.le_of_ble_eq_true rfl) dL_holds_807 rfl (Nat.le_of_ble_eq_true rfl) a1 a2 a3) (fun ν N => ?_)
                refine r_iload_n C dL_holds_810 rfl ?_
                refine r_icmp_gt (tgt := 868) C dL_holds_811 (by decide) (by omega) (by omega) (fun c811 => absurd c811 (by omega)) (fun c811 => ?_)
                refine r_aload_n C dL_holds_814 rfl ?_
                refine r_bipush C dL_holds_815 rfl ?_
                refine r_runIr (fun aH aL aj a1 a2 a3 => run_V C hF.2.2.1 (kA_count N (by omega)) lm_X4_count ml_L_13 im_X4_count se_X4_count (ca_q N) rfl (Nat.le_of_ble_eq_true rfl) dL_holds_817 rfl (Nat.le_of_ble_eq_true rfl) a1 a2 a3) (fun ν N => ?_)
                refine r_aload_n C dL_holds_820 rfl ?_
                refine r_iconst C dL_holds_821 ?_
                refine r_runIr (fun aH aL aj a1 a2 a3 => run_V C hF.2.2.1 (kA_setting N (by omega)) lm_X4_setting ml_L_26 im_X4_setting se_X4_setting (ca_q N) rfl (Nat.le_of_ble_eq_true rfl) dL_holds_822 rfl (Nat.le_of_ble_eq_true rfl) a1 a2 a3) (fun ν N => ?_)
                refine r_iload C dL_holds_825 rfl ?_
                refine r_imul C dL_holds_827 ?_
                refine r_icmp_lt (tgt := 868) C dL_holds_828 (by decide) (by omega) (by omega) (fun c828 => absurd c828 (by omega)) (fun c828 => ?_)
                refine r_aload_n C dL_holds_831 rfl ?_
                refine r_iload_n C dL_holds_832 rfl ?_
                refine r_iconst C dL_holds_833 ?_
                refine r_runIr (fun aH aL aj a1 a2 a3 => run_V C hF.2.2.1 (kA_sheet_n N (by omega) (by decide)) lm_X4_sheet ml_L_19 im_X4_sheet se_X4_sheet (ca_q N) rfl (Nat.le_of_ble_eq_true rfl) dL_holds_834 rfl (Nat.le_of_ble_eq_true rfl) a1 a2 a3) (fun ν N => ?_)
                refine r_iconst C dL_holds_837 ?_
                refine r_icmp_ne (tgt := 868) C dL_holds_838 (by decide) (by omega) (by omega) (fun c838 => absurd c838 (by omega)) (fun c838 => ?_)
                refine r_aload_n C dL_holds_841 rfl ?_
                refine r_runDr (fun aH aL aj a1 a2 a3 => run_V C hF.2.2.1 (kA_stairShare N) lm_X4_stairShare ml_L_71 im_X4_stairShare se_X4_stairShare (ca_q N) rfl (Nat.le_of_ble_eq_true rfl) dL_holds_842 rfl (Nat.le_of_ble_eq_true rfl) a1 a2 a3) (fun ν N => ?_)
                refine r_iload_n C dL_holds_845 rfl ?_
                refine r_if_ne (tgt := 853) C dL_holds_846 (by decide) (by omega) (fun c846 => ?_) (fun c846 => absurd c846 (by omega))
                refine r_iload_n C dL_holds_853 rfl ?_
                refine r_iload_n C dL_holds_854 rfl ?_
                refine r_isub C dL_holds_855 ?_
                refine r_i2d C dL_holds_856 ?_
                refine r_iload_n C dL_holds_857 rfl ?_
                refine r_i2d C dL_holds_858 ?_
                refine r_ddiv C dL_holds_859 hok ?_
                refine r_dcmp C dL_holds_860 ?_
                refine r_if_ne (tgt := 868) C dL_holds_861 (by decide) (cmp_r _) (fun c861 => absurd c861 (fun h => h hdz)) (fun c861 => ?_)
                refine r_iconst C dL_holds_864 ?_
                refine r_goto (tgt := 869) C dL_holds_865 (by decide) ?_
                exact r_zretr C hF dL_holds_869 (by omega) rfl N
            · have g8 : coT u sv 8 ≠ 0 := fun w => g6 ((hE.2.2.1).mpr w)
              rcases (by omega : u 3 = 0 ∨ u 3 ≠ 0) with n0 | n0
              · have hdz : (Op.cmpValue (FP.dcmp (shT u) FP.dconst1) .l).toInt = 0 := by
                  have e : shT u = FP.dconst1 := if_pos n0
                  have g := (chkD_e (chk_sh hv)).2
                  rw [e] at g ⊢
                  exact g
                refine r_iload C dL_holds_671 rfl ?_
                refine r_if_eq (tgt := 868) C dL_holds_673 (by decide) (by omega) (fun c673 => absurd c673 (by omega)) (fun c673 => ?_)
                refine r_iload_n C dL_holds_676 rfl ?_
                refine r_aload_n C dL_holds_677 rfl ?_
                refine r_iconst C dL_holds_678 ?_
                refine r_runIr (fun aH aL aj a1 a2 a3 => run_V C hF.2.2.1 (kA_count N (by omega)) lm_X4_count ml_L_13 im_X4_count se_X4_count (ca_q N) rfl (Nat.le_of_ble_eq_true rfl) dL_holds_679 rfl (Nat.le_of_ble_eq_true rfl) a1 a2 a3) (fun ν N => ?_)
                refine r_icmp_ne (tgt := 868) C dL_holds_682 (by decide) (by omega) (by omega) (fun c682 => absurd c682 (by omega)) (fun c682 => ?_)
                refine r_iload_n C dL_holds_685 rfl ?_
                refine r_aload_n C dL_holds_686 rfl ?_
                refine r_bipush C dL_holds_687 rfl ?_
                refine r_runIr (fun aH aL aj a1 a2 a3 => run_V C hF.2.2.1 (kA_count N (by omega)) lm_X4_count ml_L_13 im_X4_count se_X4_count (ca_q N) rfl (Nat.le_of_ble_eq_true rfl) dL_holds_689 rfl (Nat.le_of_ble_eq_true rfl) a1 a2 a3) (fun ν N => ?_)
                refine r_icmp_ne (tgt := 868) C dL_holds_692 (by decide) (by omega) (by omega) (fun c692 => absurd c692 (by omega)) (fun c692 => ?_)
                refine r_iload C dL_holds_695 rfl ?_
                refine r_aload_n C dL_holds_697 rfl ?_
                refine r_bipush C dL_holds_698 rfl ?_
                refine r_runIr (fun aH aL aj a1 a2 a3 => run_V C hF.2.2.1 (kA_count N (by omega)) lm_X4_count ml_L_13 im_X4_count se_X4_count (ca_q N) rfl (Nat.le_of_ble_eq_true rfl) dL_holds_700 rfl (Nat.le_of_ble_eq_true rfl) a1 a2 a3) (fun ν N => ?_)
                refine r_icmp_ne (tgt := 868) C dL_holds_703 (by decide) (by omega) (by omega) (fun c703 => absurd c703 (by omega)) (fun c703 => ?_)
                refine r_iload C dL_holds_706 rfl ?_
                refine r_aload_n C dL_holds_708 rfl ?_
                refine r_bipush C dL_holds_709 rfl ?_
                refine r_runIr (fun aH aL aj a1 a2 a3 => run_V C hF.2.2.1 (kA_count N (by omega)) lm_X4_count ml_L_13 im_X4_count se_X4_count (ca_q N) rfl (Nat.le_of_ble_eq_true rfl) dL_holds_711 rfl (Nat.le_of_ble_eq_true rfl) a1 a2 a3) (fun ν N => ?_)
                refine r_icmp_ne (tgt := 868) C dL_holds_714 (by decide) (by omega) (by omega) (fun c714 => absurd c714 (by omega)) (fun c714 => ?_)
                refine r_iload C dL_holds_717 rfl ?_
                refine r_iload_n C dL_holds_719 rfl ?_
                refine r_icmp_ne (tgt := 868) C dL_holds_720 (by decide) (by omega) (by omega) (fun c720 => absurd c720 (by omega)) (fun c720 => ?_)
                refine r_iload C dL_holds_723 rfl ?_
                refine r_aload_n C dL_holds_725 rfl ?_
                refine r_bipush C dL_holds_726 rfl ?_
                refine r_runIr (fun aH aL aj a1 a2 a3 => run_V C hF.2.2.1 (kA_count N (by omega)) lm_X4_count ml_L_13 im_X4_count se_X4_count (ca_q N) rfl (Nat.le_of_ble_eq_true rfl) dL_holds_728 rfl (Nat.le_of_ble_eq_true rfl) a1 a2 a3) (fun ν N => ?_)
                refine r_icmp_ne (tgt := 868) C dL_holds_731 (by decide) (by omega) (by omega) (fun c731 => absurd c731 (by omega)) (fun c731 => ?_)
                refine r_iload C dL_holds_734 rfl ?_
                refine r_aload_n C dL_holds_736 rfl ?_
                refine r_iconst C dL_holds_737 ?_
                refine r_runIr (fun aH aL aj a1 a2 a3 => run_V C hF.2.2.1 (kA_count N (by omega)) lm_X4_count ml_L_13 im_X4_count se_X4_count (ca_q N) rfl (Nat.le_of_ble_eq_true rfl) dL_holds_738 rfl (Nat.le_of_ble_eq_true rfl) a1 a2 a3) (fun ν N => ?_)
                refine r_icmp_ne (tgt := 868) C dL_holds_741 (by decide) (by omega) (by omega) (fun c741 => absurd c741 (by omega)) (fun c741 => ?_)
                refine r_aload_n C dL_holds_744 rfl ?_
                refine r_bipush C dL_holds_745 rfl ?_
                refine r_runIr (fun aH aL aj a1 a2 a3 => run_V C hF.2.2.1 (kA_count N (by omega)) lm_X4_count ml_L_13 im_X4_count se_X4_count (ca_q N) rfl (Nat.le_of_ble_eq_true rfl) dL_holds_747 rfl (Nat.le_of_ble_eq_true rfl) a1 a2 a3) (fun ν N => ?_)
                refine r_aload_n C dL_holds_750 rfl ?_
                refine r_bipush C dL_holds_751 rfl ?_
                refine r_runIr (fun aH aL aj a1 a2 a3 => run_V C hF.2.2.1 (kA_count N (by omega)) lm_X4_count ml_L_13 im_X4_count se_X4_count (ca_q N) rfl (Nat.le_of_ble_eq_true rfl) dL_holds_753 rfl (Nat.le_of_ble_eq_true rfl) a1 a2 a3) (fun ν N => ?_)
                refine r_icmp_ne (tgt := 868) C dL_holds_756 (by decide) (by omega) (by omega) (fun c756 => absurd c756 (by omega)) (fun c756 => ?_)
                refine r_aload_n C dL_holds_759 rfl ?_
                refine r_bipush C dL_holds_760 rfl ?_
                refine r_runIr (fun aH aL aj a1 a2 a3 => run_V C hF.2.2.1 (kA_count N (by omega)) lm_X4_count ml_L_13 im_X4_count se_X4_count (ca_q N) rfl (Nat.le_of_ble_eq_true rfl) dL_holds_762 rfl (Nat.le_of_ble_eq_true rfl) a1 a2 a3) (fun ν N => ?_)
                refine r_if_lt (tgt := 868) C dL_holds_765 (by decide) (by omega) (fun c765 => absurd c765 (by omega)) (fun c765 => ?_)
                refine r_aload_n C dL_holds_768 rfl ?_
                refine r_bipush C dL_holds_769 rfl ?_
                refine r_runIr (fun aH aL aj a1 a2 a3 => run_V C hF.2.2.1 (kA_count N (by omega)) lm_X4_count ml_L_13 im_X4_count se_X4_count (ca_q N) rfl (Nat.le_of_ble_eq_true rfl) dL_holds_771 rfl (Nat.le_of_ble_eq_true rfl) a1 a2 a3) (fun ν N => ?_)
                refine r_iload_n C dL_holds_774 rfl ?_
                refine r_icmp_gt (tgt := 868) C dL_holds_775 (by decide) (by omega) (by omega) (fun c775 => absurd c775 (by omega)) (fun c775 => ?_)
                refine r_aload_n C dL_holds_778 rfl ?_
                refine r_bipush C dL_holds_779 rfl ?_
                refine r_runIr (fun aH aL aj a1 a2 a3 => run_V C hF.2.2.1 (kA_count N (by omega)) lm_X4_count ml_L_13 im_X4_count se_X4_count (ca_q N) rfl (Nat.le_of_ble_eq_true rfl) dL_holds_781 rfl (Nat.le_of_ble_eq_true rfl) a1 a2 a3) (fun ν N => ?_)
                refine r_if_ne (tgt := 791) C dL_holds_784 (by decide) (by omega) (fun c784 => ?_) (fun c784 => absurd c784 (by omega))
                refine r_iconst C dL_holds_791 ?_
                refine r_iload_n C dL_holds_792 rfl ?_
                refine r_if_ne (tgt := 800) C dL_holds_793 (by decide) (by omega) (fun c793 => ?_) (fun c793 => absurd c793 (by omega))
                refine r_iconst C dL_holds_800 ?_
                refine r_icmp_ne (tgt := 868) C dL_holds_801 (by decide) (by omega) (by omega) (fun c801 => absurd c801 (by omega)) (fun c801 => ?_)
                refine r_aload_n C dL_holds_804 rfl ?_
                refine r_bipush C dL_holds_805 rfl ?_
                refine r_runIr (fun aH aL aj a1 a2 a3 => run_V C hF.2.2.1 (kA_count N (by omega)) lm_X4_count ml_L_13 im_X4_count se_X4_count (ca_q N) rfl (Nat.le_of_ble_eq_true rfl) dL_holds_807 rfl (Nat.le_of_ble_eq_true rfl) a1 a2 a3) (fun ν N => ?_)
                refine r_iload_n C dL_holds_810 rfl ?_
                refine r_icmp_gt (tgt := 868) C dL_holds_811 (by decide) (by omega) (by omega) (fun c811 => absurd c811 (by omega)) (fun c811 => ?_)
                refine r_aload_n C dL_holds_814 rfl ?_
                refine r_bipush C dL_holds_815 rfl ?_
                refine r_runIr (fun aH aL aj a1 a2 a3 => run_V C hF.2.2.1 (kA_count N (by omega)) lm_X4_count ml_L_13 im_X4_count se_X4_count (ca_q N) rfl (Nat.le_of_ble_eq_true rfl) dL_holds_817 rfl (Nat.le_of_ble_eq_true rfl) a1 a2 a3) (fun ν N => ?_)
                refine r_aload_n C dL_holds_820 rfl ?_
                refine r_iconst C dL_holds_821 ?_
                refine r_runIr (fun aH aL aj a1 a2 a3 => run_V C hF.2.2.1 (kA_setting N (by omega)) lm_X4_setting ml_L_26 im_X4_setting se_X4_setting (ca_q N) rfl (Nat.le_of_ble_eq_true rfl) dL_holds_822 rfl (Nat.le_of_ble_eq_true rfl) a1 a2 a3) (fun ν N => ?_)
                refine r_iload C dL_holds_825 rfl ?_
                refine r_imul C dL_holds_827 ?_
                refine r_icmp_lt (tgt := 868) C dL_holds_828 (by decide) (by omega) (by omega) (fun c828 => absurd c828 (by omega)) (fun c828 => ?_)
                refine r_aload_n C dL_holds_831 rfl ?_
                refine r_iload_n C dL_holds_832 rfl ?_
                refine r_iconst C dL_holds_833 ?_
                refine r_runIr (fun aH aL aj a1 a2 a3 => run_V C hF.2.2.1 (kA_sheet_n N (by omega) (by decide)) lm_X4_sheet ml_L_19 im_X4_sheet se_X4_sheet (ca_q N) rfl (Nat.le_of_ble_eq_true rfl) dL_holds_834 rfl (Nat.le_of_ble_eq_true rfl) a1 a2 a3) (fun ν N => ?_)
                refine r_iconst C dL_holds_837 ?_
                refine r_icmp_ne (tgt := 868) C dL_holds_838 (by decide) (by omega) (by omega) (fun c838 => absurd c838 (by omega)) (fun c838 => ?_)
                refine r_aload_n C dL_holds_841 rfl ?_
                refine r_runDr (fun aH aL aj a1 a2 a3 => run_V C hF.2.2.1 (kA_stairShare N) lm_X4_stairShare ml_L_71 im_X4_stairShare se_X4_stairShare (ca_q N) rfl (Nat.le_of_ble_eq_true rfl) dL_holds_842 rfl (Nat.le_of_ble_eq_true rfl) a1 a2 a3) (fun ν N => ?_)
                refine r_iload_n C dL_holds_845 rfl ?_
                refine r_if_ne (tgt := 853) C dL_holds_846 (by decide) (by omega) (fun c846 => absurd c846 (by omega)) (fun c846 => ?_)
                refine r_dconst1 C dL_holds_849 ?_
                refine r_goto (tgt := 860) C dL_holds_850 (by decide) ?_
                refine r_dcmp C dL_holds_860 ?_
                refine r_if_ne (tgt := 868) C dL_holds_861 (by decide) (cmp_r _) (fun c861 => absurd c861 (fun h => h hdz)) (fun c861 => ?_)
                refine r_iconst C dL_holds_864 ?_
                refine r_goto (tgt := 869) C dL_holds_865 (by decide) ?_
                exact r_zretr C hF dL_holds_869 (by omega) rfl N
              · have esh : shT u = FP.ddiv (FP.i2d (Int32.ofInt (u 3 - coT u sv 1))) (FP.i2d (Int32.ofInt (u 3))) := if_neg n0
                have hok := (chkD_e (chk_sh hv)).1
                have hdz : (Op.cmpValue (FP.dcmp (shT u) (FP.ddiv (FP.i2d (Int32.ofInt (u 3 - coT u sv 1))) (FP.i2d (Int32.ofInt (u 3))))) .l).toInt = 0 := by
                  rw [← esh]
                  exact (chkD_e (chk_sh hv)).2
                rw [esh] at hok
                refine r_iload C dL_holds_671 rfl ?_
                refine r_if_eq (tgt := 868) C dL_holds_673 (by decide) (by omega) (fun c673 => absurd c673 (by omega)) (fun c673 => ?_)
                refine r_iload_n C dL_holds_676 rfl ?_
                refine r_aload_n C dL_holds_677 rfl ?_
                refine r_iconst C dL_holds_678 ?_
                refine r_runIr (fun aH aL aj a1 a2 a3 => run_V C hF.2.2.1 (kA_count N (by omega)) lm_X4_count ml_L_13 im_X4_count se_X4_count (ca_q N) rfl (Nat.le_of_ble_eq_true rfl) dL_holds_679 rfl (Nat.le_of_ble_eq_true rfl) a1 a2 a3) (fun ν N => ?_)
                refine r_icmp_ne (tgt := 868) C dL_holds_682 (by decide) (by omega) (by omega) (fun c682 => absurd c682 (by omega)) (fun c682 => ?_)
                refine r_iload_n C dL_holds_685 rfl ?_
                refine r_aload_n C dL_holds_686 rfl ?_
                refine r_bipush C dL_holds_687 rfl ?_
                refine r_runIr (fun aH aL aj a1 a2 a3 => run_V C hF.2.2.1 (kA_count N (by omega)) lm_X4_count ml_L_13 im_X4_count se_X4_count (ca_q N) rfl (Nat.le_of_ble_eq_true rfl) dL_holds_689 rfl (Nat.le_of_ble_eq_true rfl) a1 a2 a3) (fun ν N => ?_)
                refine r_icmp_ne (tgt := 868) C dL_holds_692 (by decide) (by omega) (by omega) (fun c692 => absurd c692 (by omega)) (fun c692 => ?_)
                refine r_iload C dL_holds_695 rfl ?_
                refine r_aload_n C dL_holds_697 rfl ?_
                refine r_bipush C dL_holds_698 rfl ?_
                refine r_runIr (fun aH aL aj a1 a2 a3 => run_V C hF.2.2.1 (kA_count N (by omega)) lm_X4_count ml_L_13 im_X4_count se_X4_count (ca_q N) rfl (Nat.le_of_ble_eq_true rfl) dL_holds_700 rfl (Nat.le_of_ble_eq_true rfl) a1 a2 a3) (fun ν N => ?_)
                refine r_icmp_ne (tgt := 868) C dL_holds_703 (by decide) (by omega) (by omega) (fun c703 => absurd c703 (by omega)) (fun c703 => ?_)
                refine r_iload C dL_holds_706 rfl ?_
                refine r_aload_n C dL_holds_708 rfl ?_
                refine r_bipush C dL_holds_709 rfl ?_
                refine r_runIr (fun aH aL aj a1 a2 a3 => run_V C hF.2.2.1 (kA_count N (by omega)) lm_X4_count ml_L_13 im_X4_count se_X4_count (ca_q N) rfl (Nat.le_of_ble_eq_true rfl) dL_holds_711 rfl (Nat.le_of_ble_eq_true rfl) a1 a2 a3) (fun ν N => ?_)
                refine r_icmp_ne (tgt := 868) C dL_holds_714 (by decide) (by omega) (by omega) (fun c714 => absurd c714 (by omega)) (fun c714 => ?_)
                refine r_iload C dL_holds_717 rfl ?_
                refine r_iload_n C dL_holds_719 rfl ?_
                refine r_icmp_ne (tgt := 868) C dL_holds_720 (by decide) (by omega) (by omega) (fun c720 => absurd c720 (by omega)) (fun c720 => ?_)
                refine r_iload C dL_holds_723 rfl ?_
                refine r_aload_n C dL_holds_725 rfl ?_
                refine r_bipush C dL_holds_726 rfl ?_
                refine r_runIr (fun aH aL aj a1 a2 a3 => run_V C hF.2.2.1 (kA_count N (by omega)) lm_X4_count ml_L_13 im_X4_count se_X4_count (ca_q N) rfl (Nat.le_of_ble_eq_true rfl) dL_holds_728 rfl (Nat.le_of_ble_eq_true rfl) a1 a2 a3) (fun ν N => ?_)
                refine r_icmp_ne (tgt := 868) C dL_holds_731 (by decide) (by omega) (by omega) (fun c731 => absurd c731 (by omega)) (fun c731 => ?_)
                refine r_iload C dL_holds_734 rfl ?_
                refine r_aload_n C dL_holds_736 rfl ?_
                refine r_iconst C dL_holds_737 ?_
                refine r_runIr (fun aH aL aj a1 a2 a3 => run_V C hF.2.2.1 (kA_count N (by omega)) lm_X4_count ml_L_13 im_X4_count se_X4_count (ca_q N) rfl (Nat.le_of_ble_eq_true rfl) dL_holds_738 rfl (Nat.le_of_ble_eq_true rfl) a1 a2 a3) (fun ν N => ?_)
                refine r_icmp_ne (tgt := 868) C dL_holds_741 (by decide) (by omega) (by omega) (fun c741 => absurd c741 (by omega)) (fun c741 => ?_)
                refine r_aload_n C dL_holds_744 rfl ?_
                refine r_bipush C dL_holds_745 rfl ?_
                refine r_runIr (fun aH aL aj a1 a2 a3 => run_V C hF.2.2.1 (kA_count N (by omega)) lm_X4_count ml_L_13 im_X4_count se_X4_count (ca_q N) rfl (Nat.le_of_ble_eq_true rfl) dL_holds_747 rfl (Nat.le_of_ble_eq_true rfl) a1 a2 a3) (fun ν N => ?_)
                refine r_aload_n C dL_holds_750 rfl ?_
                refine r_bipush C dL_holds_751 rfl ?_
                refine r_runIr (fun aH aL aj a1 a2 a3 => run_V C hF.2.2.1 (kA_count N (by omega)) lm_X4_count ml_L_13 im_X4_count se_X4_count (ca_q N) rfl (Nat.le_of_ble_eq_true rfl) dL_holds_753 rfl (Nat.le_of_ble_eq_true rfl) a1 a2 a3) (fun ν N => ?_)
                refine r_icmp_ne (tgt := 868) C dL_holds_756 (by decide) (by omega) (by omega) (fun c756 => absurd c756 (by omega)) (fun c756 => ?_)
                refine r_aload_n C dL_holds_759 rfl ?_
                refine r_bipush C dL_holds_760 rfl ?_
                refine r_runIr (fun aH aL aj a1 a2 a3 => run_V C hF.2.2.1 (kA_count N (by omega)) lm_X4_count ml_L_13 im_X4_count se_X4_count (ca_q N) rfl (Nat.le_of_ble_eq_true rfl) dL_holds_762 rfl (Nat.le_of_ble_eq_true rfl) a1 a2 a3) (fun ν N => ?_)
                refine r_if_lt (tgt := 868) C dL_holds_765 (by decide) (by omega) (fun c765 => absurd c765 (by omega)) (fun c765 => ?_)
                refine r_aload_n C dL_holds_768 rfl ?_
                refine r_bipush C dL_holds_769 rfl ?_
                refine r_runIr (fun aH aL aj a1 a2 a3 => run_V C hF.2.2.1 (kA_count N (by omega)) lm_X4_count ml_L_13 im_X4_count se_X4_count (ca_q N) rfl (Nat.le_of_ble_eq_true rfl) dL_holds_771 rfl (Nat.le_of_ble_eq_true rfl) a1 a2 a3) (fun ν N => ?_)
                refine r_iload_n C dL_holds_774 rfl ?_
                refine r_icmp_gt (tgt := 868) C dL_holds_775 (by decide) (by omega) (by omega) (fun c775 => absurd c775 (by omega)) (fun c775 => ?_)
                refine r_aload_n C dL_holds_778 rfl ?_
                refine r_bipush C dL_holds_779 rfl ?_
                refine r_runIr (fun aH aL aj a1 a2 a3 => run_V C hF.2.2.1 (kA_count N (by omega)) lm_X4_count ml_L_13 im_X4_count se_X4_count (ca_q N) rfl (Nat.le_of_ble_eq_true rfl) dL_holds_781 rfl (Nat.le_of_ble_eq_true rfl) a1 a2 a3) (fun ν N => ?_)
                refine r_if_ne (tgt := 791) C dL_holds_784 (by decide) (by omega) (fun c784 => ?_) (fun c784 => absurd c784 (by omega))
                refine r_iconst C dL_holds_791 ?_
                refine r_iload_n C dL_holds_792 rfl ?_
                refine r_if_ne (tgt := 800) C dL_holds_793 (by decide) (by omega) (fun c793 => ?_) (fun c793 => absurd c793 (by omega))
                refine r_iconst C dL_holds_800 ?_
                refine r_icmp_ne (tgt := 868) C dL_holds_801 (by decide) (by omega) (by omega) (fun c801 => absurd c801 (by omega)) (fun c801 => ?_)
                refine r_aload_n C dL_holds_804 rfl ?_
                refine r_bipush C dL_holds_805 rfl ?_
                refine r_runIr (fun aH aL aj a1 a2 a3 => run_V C hF.2.2.1 (kA_count N (by omega)) lm_X4_count ml_L_13 im_X4_count se_X4_count (ca_q N) rfl (Nat.le_of_ble_eq_true rfl) dL_holds_807 rfl (Nat.le_of_ble_eq_true rfl) a1 a2 a3) (fun ν N => ?_)
                refine r_iload_n C dL_holds_810 rfl ?_
                refine r_icmp_gt (tgt := 868) C dL_holds_811 (by decide) (by omega) (by omega) (fun c811 => absurd c811 (by omega)) (fun c811 => ?_)
                refine r_aload_n C dL_holds_814 rfl ?_
                refine r_bipush C dL_holds_815 rfl ?_
                refine r_runIr (fun aH aL aj a1 a2 a3 => run_V C hF.2.2.1 (kA_count N (by omega)) lm_X4_count ml_L_13 im_X4_count se_X4_count (ca_q N) rfl (Nat.le_of_ble_eq_true rfl) dL_holds_817 rfl (Nat.le_of_ble_eq_true rfl) a1 a2 a3) (fun ν N => ?_)
                refine r_aload_n C dL_holds_820 rfl ?_
                refine r_iconst C dL_holds_821 ?_
                refine r_runIr (fun aH aL aj a1 a2 a3 => run_V C hF.2.2.1 (kA_setting N (by omega)) lm_X4_setting ml_L_26 im_X4_setting se_X4_setting (ca_q N) rfl (Nat.le_of_ble_eq_true rfl) dL_holds_822 rfl (Nat.le_of_ble_eq_true rfl) a1 a2 a3) (fun ν N => ?_)
                refine r_iload C dL_holds_825 rfl ?_
                refine r_imul C dL_holds_827 ?_
                refine r_icmp_lt (tgt := 868) C dL_holds_828 (by decide) (by omega) (by omega) (fun c828 => absurd c828 (by omega)) (fun c828 => ?_)
                refine r_aload_n C dL_holds_831 rfl ?_
                refine r_iload_n C dL_holds_832 rfl ?_
                refine r_iconst C dL_holds_833 ?_
                refine r_runIr (fun aH aL aj a1 a2 a3 => run_V C hF.2.2.1 (kA_sheet_n N (by omega) (by decide)) lm_X4_sheet ml_L_19 im_X4_sheet se_X4_sheet (ca_q N) rfl (Nat.le_of_ble_eq_true rfl) dL_holds_834 rfl (Nat.le_of_ble_eq_true rfl) a1 a2 a3) (fun ν N => ?_)
                refine r_iconst C dL_holds_837 ?_
                refine r_icmp_ne (tgt := 868) C dL_holds_838 (by decide) (by omega) (by omega) (fun c838 => absurd c838 (by omega)) (fun c838 => ?_)
                refine r_aload_n C dL_holds_841 rfl ?_
                refine r_runDr (fun aH aL aj a1 a2 a3 => run_V C hF.2.2.1 (kA_stairShare N) lm_X4_stairShare ml_L_71 im_X4_stairShare se_X4_stairShare (ca_q N) rfl (Nat.le_of_ble_eq_true rfl) dL_holds_842 rfl (Nat.le_of_ble_eq_true rfl) a1 a2 a3) (fun ν N => ?_)
                refine r_iload_n C dL_holds_845 rfl ?_
                refine r_if_ne (tgt := 853) C dL_holds_846 (by decide) (by omega) (fun c846 => ?_) (fun c846 => absurd c846 (by omega))
                refine r_iload_n C dL_holds_853 rfl ?_
                refine r_iload_n C dL_holds_854 rfl ?_
                refine r_isub C dL_holds_855 ?_
                refine r_i2d C dL_holds_856 ?_
                refine r_iload_n C dL_holds_857 rfl ?_
                refine r_i2d C dL_holds_858 ?_
                refine r_ddiv C dL_holds_859 hok ?_
                refine r_dcmp C dL_holds_860 ?_
                refine r_if_ne (tgt := 868) C dL_holds_861 (by decide) (cmp_r _) (fun c861 => absurd c861 (fun h => h hdz)) (fun c861 => ?_)
                refine r_iconst C dL_holds_864 ?_
                refine r_goto (tgt := 869) C dL_holds_865 (by decide) ?_
                exact r_zretr C hF dL_holds_869 (by omega) rfl N
          · skip
            rcases hd_fl (sv := sv) hv with ⟨d1, d2, d3⟩ | ⟨d1, d2, d3, d4, d5⟩ | ⟨d1, d2, d3, d4⟩ | ⟨d1, d2, d3⟩ | ⟨d1, d2, d3, d4⟩ | ⟨d1, d2, d3, d4⟩ | ⟨d1, d2, d3, d4, d5, d6⟩
            · skip
              refine r_iload C dL_holds_585 rfl ?_
              refine r_if_eq (tgt := 668) C dL_holds_587 (by decide) (by omega) (fun c587 => absurd c587 (by omega)) (fun c587 => ?_)
              refine r_iload C dL_holds_590 rfl ?_
              refine r_if_ne (tgt := 617) C dL_holds_592 (by decide) (by omega) (fun c592 => ?_) (fun c592 => absurd c592 (by omega))
              refine r_iload C dL_holds_617 rfl ?_
              refine r_bipush C dL_holds_619 rfl ?_
              refine r_icmp_ne (tgt := 643) C dL_holds_621 (by decide) (by omega) (by omega) (fun c621 => ?_) (fun c621 => absurd c621 (by omega))
              refine r_iload C dL_holds_643 rfl ?_
              refine r_iconst C dL_holds_645 ?_
              refine r_icmp_ne (tgt := 664) C dL_holds_646 (by decide) (by omega) (by omega) (fun c646 => ?_) (fun c646 => absurd c646 (by omega))
              refine r_iconst C dL_holds_664 ?_
              refine r_goto (tgt := 669) C dL_holds_665 (by decide) ?_
              refine r_istore C dL_holds_669 (by decide) rfl ?_
              exact K671 _ _ N
            · skip
              refine r_iload C dL_holds_585 rfl ?_
              refine r_if_eq (tgt := 668) C dL_holds_587 (by decide) (by omega) (fun c587 => absurd c587 (by omega)) (fun c587 => ?_)
              refine r_iload C dL_holds_590 rfl ?_
              refine r_if_ne (tgt := 617) C dL_holds_592 (by decide) (by omega) (fun c592 => ?_) (fun c592 => absurd c592 (by omega))
              refine r_iload C dL_holds_617 rfl ?_
              refine r_bipush C dL_holds_619 rfl ?_
              refine r_icmp_ne (tgt := 643) C dL_holds_621 (by decide) (by omega) (by omega) (fun c621 => ?_) (fun c621 => absurd c621 (by omega))
              refine r_iload C dL_holds_643 rfl ?_
              refine r_iconst C dL_holds_645 ?_
              refine r_icmp_ne (tgt := 664) C dL_holds_646 (by decide) (by omega) (by omega) (fun c646 => ?_) (fun c646 => absurd c646 (by omega))
              refine r_iconst C dL_holds_664 ?_
              refine r_goto (tgt := 669) C dL_holds_665 (by decide) ?_
              refine r_istore C dL_holds_669 (by decide) rfl ?_
              exact K671 _ _ N
            · have hk := (hd_s hv (k := coT u sv 3) d3.1 d3.2).1
              refine r_iload C dL_holds_585 rfl ?_
              refine r_if_eq (tgt := 668) C dL_holds_587 (by decide) (by omega) (fun c587 => absurd c587 (by omega)) (fun c587 => ?_)
              refine r_iload C dL_holds_590 rfl ?_
              refine r_if_ne (tgt := 617) C dL_holds_592 (by decide) (by omega) (fun c592 => ?_) (fun c592 => absurd c592 (by omega))
              refine r_iload C dL_holds_617 rfl ?_
              refine r_bipush C dL_holds_619 rfl ?_
              refine r_icmp_ne (tgt := 643) C dL_holds_621 (by decide) (by omega) (by omega) (fun c621 => ?_) (fun c621 => absurd c621 (by omega))
              refine r_iload C dL_holds_643 rfl ?_
              refine r_iconst C dL_holds_645 ?_
              refine r_icmp_ne (tgt := 664) C dL_holds_646 (by decide) (by omega) (by omega) (fun c646 => absurd c646 (by omega)) (fun c646 => ?_)
              refine r_aload_n C dL_holds_649 rfl ?_
              refine r_iload C dL_holds_650 rfl ?_
              refine r_iconst C dL_holds_652 ?_
              refine r_runIr (fun aH aL aj a1 a2 a3 => run_V C hF.2.2.1 (kA_sheet N (by omega) (by omega)) lm_X4_sheet ml_L_19 im_X4_sheet se_X4_sheet (ca_q N) rfl (Nat.le_of_ble_eq_true rfl) dL_holds_653 rfl (Nat.le_of_ble_eq_true rfl) a1 a2 a3) (fun ν N => ?_)
              refine r_aload_n C dL_holds_656 rfl ?_
              refine r_iconst C dL_holds_657 ?_
              refine r_runIr (fun aH aL aj a1 a2 a3 => run_V C hF.2.2.1 (kA_setting N (by omega)) lm_X4_setting ml_L_26 im_X4_setting se_X4_setting (ca_q N) rfl (Nat.le_of_ble_eq_true rfl) dL_holds_658 rfl (Nat.le_of_ble_eq_true rfl) a1 a2 a3) (fun ν N => ?_)
              refine r_icmp_lt (tgt := 668) C dL_holds_661 (by decide) (by omega) (by omega) (fun c661 => absurd c661 (by omega)) (fun c661 => ?_)
              refine r_iconst C dL_holds_664 ?_
              refine r_goto (tgt := 669) C dL_holds_665 (by decide) ?_
              refine r_istore C dL_holds_669 (by decide) rfl ?_
              exact K671 _ _ N
            · skip
              refine r_iload C dL_holds_585 rfl ?_
              refine r_if_eq (tgt := 668) C dL_holds_587 (by decide) (by omega) (fun c587 => absurd c587 (by omega)) (fun c587 => ?_)
              refine r_iload C dL_holds_590 rfl ?_
              refine r_if_ne (tgt := 617) C dL_holds_592 (by decide) (by omega) (fun c592 => ?_) (fun c592 => absurd c592 (by omega))
              refine r_iload C dL_holds_617 rfl ?_
              refine r_bipush C dL_holds_619 rfl ?_
              refine r_icmp_ne (tgt := 643) C dL_holds_621 (by decide) (by omega) (by omega) (fun c621 => ?_) (fun c621 => absurd c621 (by omega))
              refine r_iload C dL_holds_643 rfl ?_
              refine r_iconst C dL_holds_645 ?_
              refine r_icmp_ne (tgt := 664) C dL_holds_646 (by decide) (by omega) (by omega) (fun c646 => ?_) (fun c646 => absurd c646 (by omega))
              refine r_iconst C dL_holds_664 ?_
              refine r_goto (tgt := 669) C dL_holds_665 (by decide) ?_
              refine r_istore C dL_holds_669 (by decide) rfl ?_
              exact K671 _ _ N
            · skip
              refine r_iload C dL_holds_585 rfl ?_
              refine r_if_eq (tgt := 668) C dL_holds_587 (by decide) (by omega) (fun c587 => absurd c587 (by omega)) (fun c587 => ?_)
              refine r_iload C dL_holds_590 rfl ?_
              refine r_if_ne (tgt := 617) C dL_holds_592 (by decide) (by omega) (fun c592 => ?_) (fun c592 => absurd c592 (by omega))
              refine r_iload C dL_holds_617 rfl ?_
              refine r_bipush C dL_holds_619 rfl ?_
              refine r_icmp_ne (tgt := 643) C dL_holds_621 (by decide) (by omega) (by omega) (fun c621 => ?_) (fun c621 => absurd c621 (by omega))
              refine r_iload C dL_holds_643 rfl ?_
              refine r_iconst C dL_holds_645 ?_
              refine r_icmp_ne (tgt := 664) C dL_holds_646 (by decide) (by omega) (by omega) (fun c646 => ?_) (fun c646 => absurd c646 (by omega))
              refine r_iconst C dL_holds_664 ?_
              refine r_goto (tgt := 669) C dL_holds_665 (by decide) ?_
              refine r_istore C dL_holds_669 (by decide) rfl ?_
              exact K671 _ _ N
            · have hk := (hd_s hv (k := coT u sv 3) (by omega) d3.2).1
              have hk2 := (hd_s hv (k := coT u sv 3 - 1) (by omega) (by omega)).1
              refine r_iload C dL_holds_585 rfl ?_
              refine r_if_eq (tgt := 668) C dL_holds_587 (by decide) (by omega) (fun c587 => absurd c587 (by omega)) (fun c587 => ?_)
              refine r_iload C dL_holds_590 rfl ?_
              refine r_if_ne (tgt := 617) C dL_holds_592 (by decide) (by omega) (fun c592 => ?_) (fun c592 => absurd c592 (by omega))
              refine r_iload C dL_holds_617 rfl ?_
              refine r_bipush C dL_holds_619 rfl ?_
              refine r_icmp_ne (tgt := 643) C dL_holds_621 (by decide) (by omega) (by omega) (fun c621 => absurd c621 (by omega)) (fun c621 => ?_)
              refine r_aload_n C dL_holds_624 rfl ?_
              refine r_iload C dL_holds_625 rfl ?_
              refine r_iconst C dL_holds_627 ?_
              refine r_runIr (fun aH aL aj a1 a2 a3 => run_V C hF.2.2.1 (kA_sheet N (by omega) (by omega)) lm_X4_sheet ml_L_19 im_X4_sheet se_X4_sheet (ca_q N) rfl (Nat.le_of_ble_eq_true rfl) dL_holds_628 rfl (Nat.le_of_ble_eq_true rfl) a1 a2 a3) (fun ν N => ?_)
              refine r_aload_n C dL_holds_631 rfl ?_
              refine r_iload C dL_holds_632 rfl ?_
              refine r_iconst C dL_holds_634 ?_
              refine r_isub C dL_holds_635 ?_
              refine r_iconst C dL_holds_636 ?_
              refine r_runIr (fun aH aL aj a1 a2 a3 => run_V C hF.2.2.1 (kA_sheet N (by omega) (by omega)) lm_X4_sheet ml_L_19 im_X4_sheet se_X4_sheet (ca_q N) rfl (Nat.le_of_ble_eq_true rfl) dL_holds_637 rfl (Nat.le_of_ble_eq_true rfl) a1 a2 a3) (fun ν N => ?_)
              refine r_icmp_ge (tgt := 668) C dL_holds_640 (by decide) (by omega) (by omega) (fun c640 => absurd c640 (by omega)) (fun c640 => ?_)
              refine r_iload C dL_holds_643 rfl ?_
              refine r_iconst C dL_holds_645 ?_
              refine r_icmp_ne (tgt := 664) C dL_holds_646 (by decide) (by omega) (by omega) (fun c646 => ?_) (fun c646 => absurd c646 (by omega))
              refine r_iconst C dL_holds_664 ?_
              refine r_goto (tgt := 669) C dL_holds_665 (by decide) ?_
              refine r_istore C dL_holds_669 (by decide) rfl ?_
              exact K671 _ _ N
            · skip
              refine r_iload C dL_holds_585 rfl ?_
              refine r_if_eq (tgt := 668) C dL_holds_587 (by decide) (by omega) (fun c587 => absurd c587 (by omega)) (fun c587 => ?_)
              refine r_iload C dL_holds_590 rfl ?_
              refine r_if_ne (tgt := 617) C dL_holds_592 (by decide) (by omega) (fun c592 => absurd c592 (by omega)) (fun c592 => ?_)
              refine r_iload_n C dL_holds_595 rfl ?_
              refine r_aload_n C dL_holds_596 rfl ?_
              refine r_iconst C dL_holds_597 ?_
              refine r_runIr (fun aH aL aj a1 a2 a3 => run_V C hF.2.2.1 (kA_setting N (by omega)) lm_X4_setting ml_L_26 im_X4_setting se_X4_setting (ca_q N) rfl (Nat.le_of_ble_eq_true rfl) dL_holds_598 rfl (Nat.le_of_ble_eq_true rfl) a1 a2 a3) (fun ν N => ?_)
              refine r_icmp_ne (tgt := 668) C dL_holds_601 (by decide) (by omega) (by omega) (fun c601 => absurd c601 (by omega)) (fun c601 => ?_)
              refine r_iload_n C dL_holds_604 rfl ?_
              refine r_if_ne (tgt := 668) C dL_holds_605 (by decide) (by omega) (fun c605 => absurd c605 (by omega)) (fun c605 => ?_)
              refine r_aload_n C dL_holds_608 rfl ?_
              refine r_bipush C dL_holds_609 rfl ?_
              refine r_runIr (fun aH aL aj a1 a2 a3 => run_V C hF.2.2.1 (kA_count N (by omega)) lm_X4_count ml_L_13 im_X4_count se_X4_count (ca_q N) rfl (Nat.le_of_ble_eq_true rfl) dL_holds_611 rfl (Nat.le_of_ble_eq_true rfl) a1 a2 a3) (fun ν N => ?_)
              refine r_if_ne (tgt := 668) C dL_holds_614 (by decide) (by omega) (fun c614 => absurd c614 (by omega)) (fun c614 => ?_)
              refine r_iload C dL_holds_617 rfl ?_
              refine r_bipush C dL_holds_619 rfl ?_
              refine r_icmp_ne (tgt := 643) C dL_holds_621 (by decide) (by omega) (by omega) (fun c621 => ?_) (fun c621 => absurd c621 (by omega))
              refine r_iload C dL_holds_643 rfl ?_
              refine r_iconst C dL_holds_645 ?_
              refine r_icmp_ne (tgt := 664) C dL_holds_646 (by decide) (by omega) (by omega) (fun c646 => ?_) (fun c646 => absurd c646 (by omega))
              refine r_iconst C dL_holds_664 ?_
              refine r_goto (tgt := 669) C dL_holds_665 (by decide) ?_
              refine r_istore C dL_holds_669 (by decide) rfl ?_
              exact K671 _ _ N
        · skip
          rcases hd_fl (sv := sv) hv with ⟨d1, d2, d3⟩ | ⟨d1, d2, d3, d4, d5⟩ | ⟨d1, d2, d3, d4⟩ | ⟨d1, d2, d3⟩ | ⟨d1, d2, d3, d4⟩ | ⟨d1, d2, d3, d4⟩ | ⟨d1, d2, d3, d4, d5, d6⟩
          · skip
            refine r_iload C dL_holds_518 rfl ?_
            refine r_if_eq (tgt := 585) C dL_holds_520 (by decide) (by omega) (fun c520 => absurd c520 (by omega)) (fun c520 => ?_)
            refine r_iload C dL_holds_523 rfl ?_
            refine r_iconst C dL_holds_525 ?_
            refine r_icmp_ne (tgt := 585) C dL_holds_526 (by decide) (by omega) (by omega) (fun c526 => ?_) (fun c526 => absurd c526 (by omega))
            exact K585 _ _ N
          · skip
            refine r_iload C dL_holds_518 rfl ?_
            refine r_if_eq (tgt := 585) C dL_holds_520 (by decide) (by omega) (fun c520 => absurd c520 (by omega)) (fun c520 => ?_)
            refine r_iload C dL_holds_523 rfl ?_
            refine r_iconst C dL_holds_525 ?_
            refine r_icmp_ne (tgt := 585) C dL_holds_526 (by decide) (by omega) (by omega) (fun c526 => absurd c526 (by omega)) (fun c526 => ?_)
            refine r_aload_n C dL_holds_529 rfl ?_
            refine r_iload C dL_holds_530 rfl ?_
            refine r_iconst C dL_holds_532 ?_
            refine r_runIr (fun aH aL aj a1 a2 a3 => run_V C hF.2.2.1 (kA_sheet N (by omega) (by omega)) lm_X4_sheet ml_L_19 im_X4_sheet se_X4_sheet (ca_q N) rfl (Nat.le_of_ble_eq_true rfl) dL_holds_533 rfl (Nat.le_of_ble_eq_true rfl) a1 a2 a3) (fun ν N => ?_)
            refine r_iconst C dL_holds_536 ?_
            refine r_icmp_ne (tgt := 544) C dL_holds_537 (by decide) (by omega) (by omega) (fun c537 => absurd c537 (by omega)) (fun c537 => ?_)
            refine r_iconst C dL_holds_540 ?_
            refine r_goto (tgt := 545) C dL_holds_541 (by decide) ?_
            refine r_istore C dL_holds_545 (by decide) rfl ?_
            refine r_iconst C dL_holds_547 ?_
            refine r_istore C dL_holds_548 (by decide) rfl ?_
            refine loop_up (F := fun i => ∀ (ν : Mem), CA (xV X) K q μ0 u z sv st ν → RR X ν 550 [vR q, vI (u 3), vI (coT u sv 1), vI (coT u sv 8), vI (coT u sv 9), vI (coT u sv 11), vI (dnB u 1 0), vI (dnB u 2 0), vI (msD u 0), vI 1, vI (coT u sv 2), vI (coT u sv 3), vI i] []) (a := 0) (b := coT u sv 3) d3.1 ?_ ?_ _ N
            · intro ν N
              show RR X _ _ [vR q, vI (u 3), vI (coT u sv 1), vI (coT u sv 8), vI (coT u sv 9), vI (coT u sv 11), vI (dnB u 1 0), vI (dnB u 2 0), vI (msD u 0), vI 1, vI (coT u sv 2), vI (coT u sv 3), vI (coT u sv 3)] []
              refine r_iload C dL_holds_550 rfl ?_
              refine r_iload C dL_holds_552 rfl ?_
              refine r_icmp_ge (tgt := 585) C dL_holds_554 (by decide) (by omega) (by omega) (fun c554 => ?_) (fun c554 => absurd c554 (by omega))
              exact K585 _ _ N
            · intro i i0 i1 K2 ν N
              have d6 := d5 i i0 i1
              show RR X _ _ [vR q, vI (u 3), vI (coT u sv 1), vI (coT u sv 8), vI (coT u sv 9), vI (coT u sv 11), vI (dnB u 1 0), vI (dnB u 2 0), vI (msD u 0), vI 1, vI (coT u sv 2), vI (coT u sv 3), vI i] []
              refine r_iload C dL_holds_550 rfl ?_
              refine r_iload C dL_holds_552 rfl ?_
              refine r_icmp_ge (tgt := 585) C dL_holds_554 (by decide) (by omega) (by omega) (fun c554 => absurd c554 (by omega)) (fun c554 => ?_)
              refine r_iload C dL_holds_557 rfl ?_
              refine r_if_eq (tgt := 576) C dL_holds_559 (by decide) (by omega) (fun c559 => absurd c559 (by omega)) (fun c559 => ?_)
              refine r_aload_n C dL_holds_562 rfl ?_
              refine r_iload C dL_holds_563 rfl ?_
              refine r_iconst C dL_holds_565 ?_
              refine r_runIr (fun aH aL aj a1 a2 a3 => run_V C hF.2.2.1 (kA_sheet N (by omega) (by omega)) lm_X4_sheet ml_L_19 im_X4_sheet se_X4_sheet (ca_q N) rfl (Nat.le_of_ble_eq_true rfl) dL_holds_566 rfl (Nat.le_of_ble_eq_true rfl) a1 a2 a3) (fun ν N => ?_)
              refine r_if_ne (tgt := 576) C dL_holds_569 (by decide) (by omega) (fun c569 => absurd c569 (by omega)) (fun c569 => ?_)
              refine r_iconst C dL_holds_572 ?_
              refine r_goto (tgt := 577) C dL_holds_573 (by decide) ?_
              refine r_istore C dL_holds_577 (by decide) rfl ?_
              refine r_iinc C dL_holds_579 rfl (by decide) rfl ?_
              refine r_goto (tgt := 550) C dL_holds_582 (by decide) ?_
              exact K2 _ N
          · skip
            refine r_iload C dL_holds_518 rfl ?_
            refine r_if_eq (tgt := 585) C dL_holds_520 (by decide) (by omega) (fun c520 => absurd c520 (by omega)) (fun c520 => ?_)
            refine r_iload C dL_holds_523 rfl ?_
            refine r_iconst C dL_holds_525 ?_
            refine r_icmp_ne (tgt := 585) C dL_holds_526 (by decide) (by omega) (by omega) (fun c526 => ?_) (fun c526 => absurd c526 (by omega))
            exact K585 _ _ N
          · skip
            refine r_iload C dL_holds_518 rfl ?_
            refine r_if_eq (tgt := 585) C dL_holds_520 (by decide) (by omega) (fun c520 => absurd c520 (by omega)) (fun c520 => ?_)
            refine r_iload C dL_holds_523 rfl ?_
            refine r_iconst C dL_holds_525 ?_
            refine r_icmp_ne (tgt := 585) C dL_holds_526 (by decide) (by omega) (by omega) (fun c526 => ?_) (fun c526 => absurd c526 (by omega))
            exact K585 _ _ N
          · skip
            refine r_iload C dL_holds_518 rfl ?_
            refine r_if_eq (tgt := 585) C dL_holds_520 (by decide) (by omega) (fun c520 => absurd c520 (by omega)) (fun c520 => ?_)
            refine r_iload C dL_holds_523 rfl ?_
            refine r_iconst C dL_holds_525 ?_
            refine r_icmp_ne (tgt := 585) C dL_holds_526 (by decide) (by omega) (by omega) (fun c526 => ?_) (fun c526 => absurd c526 (by omega))
            exact K585 _ _ N
          · skip
            refine r_iload C dL_holds_518 rfl ?_
            refine r_if_eq (tgt := 585) C dL_holds_520 (by decide) (by omega) (fun c520 => absurd c520 (by omega)) (fun c520 => ?_)
            refine r_iload C dL_holds_523 rfl ?_
            refine r_iconst C dL_holds_525 ?_
            refine r_icmp_ne (tgt := 585) C dL_holds_526 (by decide) (by omega) (by omega) (fun c526 => ?_) (fun c526 => absurd c526 (by omega))
            exact K585 _ _ N
          · skip
            refine r_iload C dL_holds_518 rfl ?_
            refine r_if_eq (tgt := 585) C dL_holds_520 (by decide) (by omega) (fun c520 => absurd c520 (by omega)) (fun c520 => ?_)
            refine r_iload C dL_holds_523 rfl ?_
            refine r_iconst C dL_holds_525 ?_
            refine r_icmp_ne (tgt := 585) C dL_holds_526 (by decide) (by omega) (by omega) (fun c526 => ?_) (fun c526 => absurd c526 (by omega))
            exact K585 _ _ N
      · skip
        rcases hd_fl (sv := sv) hv with ⟨d1, d2, d3⟩ | ⟨d1, d2, d3, d4, d5⟩ | ⟨d1, d2, d3, d4⟩ | ⟨d1, d2, d3⟩ | ⟨d1, d2, d3, d4⟩ | ⟨d1, d2, d3, d4⟩ | ⟨d1, d2, d3, d4, d5, d6⟩
        · skip
          have h5 : coT u sv 5 = b01 (0 < coT u sv 2 ∧ coT u sv 1 = 0) := rfl
          rcases (by omega : coT u sv 1 = 0 ∨ coT u sv 1 ≠ 0) with bz | bz
          · rw [b01_t ⟨by omega, bz⟩] at h5
            refine r_iload C dL_holds_410 rfl ?_
            refine r_if_eq (tgt := 515) C dL_holds_412 (by decide) (by omega) (fun c412 => absurd c412 (by omega)) (fun c412 => ?_)
            refine r_iload C dL_holds_415 rfl ?_
            refine r_iconst C dL_holds_417 ?_
            refine r_icmp_ne (tgt := 425) C dL_holds_418 (by decide) (by omega) (by omega) (fun c418 => absurd c418 (by omega)) (fun c418 => ?_)
            refine r_iconst C dL_holds_421 ?_
            refine r_goto (tgt := 426) C dL_holds_422 (by decide) ?_
            refine r_iload C dL_holds_426 rfl ?_
            refine r_iconst C dL_holds_428 ?_
            refine r_icmp_lt (tgt := 438) C dL_holds_429 (by decide) (by omega) (by omega) (fun c429 => ?_) (fun c429 => absurd c429 (by omega))
            refine r_iconst C dL_holds_438 ?_
            refine r_goto (tgt := 443) C dL_holds_439 (by decide) ?_
            refine r_icmp_ne (tgt := 515) C dL_holds_443 (by decide) (by omega) (by omega) (fun c443 => absurd c443 (by omega)) (fun c443 => ?_)
            refine r_iload C dL_holds_446 rfl ?_
            refine r_iconst C dL_holds_448 ?_
            refine r_icmp_ne (tgt := 457) C dL_holds_449 (by decide) (by omega) (by omega) (fun c449 => ?_) (fun c449 => absurd c449 (by omega))
            refine r_iload C dL_holds_457 rfl ?_
            refine r_iconst C dL_holds_459 ?_
            refine r_icmp_ne (tgt := 467) C dL_holds_460 (by decide) (by omega) (by omega) (fun c460 => absurd c460 (by omega)) (fun c460 => ?_)
            refine r_iconst C dL_holds_463 ?_
            refine r_goto (tgt := 468) C dL_holds_464 (by decide) ?_
            refine r_iload_n C dL_holds_468 rfl ?_
            refine r_if_ne (tgt := 476) C dL_holds_469 (by decide) (by omega) (fun c469 => absurd c469 (by omega)) (fun c469 => ?_)
            refine r_iconst C dL_holds_472 ?_
            refine r_goto (tgt := 477) C dL_holds_473 (by decide) ?_
            refine r_icmp_ne (tgt := 515) C dL_holds_477 (by decide) (by omega) (by omega) (fun c477 => absurd c477 (by omega)) (fun c477 => ?_)
            refine r_aload_n C dL_holds_480 rfl ?_
            refine r_iconst C dL_holds_481 ?_
            refine r_runIr (fun aH aL aj a1 a2 a3 => run_V C hF.2.2.1 (kA_count N (by omega)) lm_X4_count ml_L_13 im_X4_count se_X4_count (ca_q N) rfl (Nat.le_of_ble_eq_true rfl) dL_holds_482 rfl (Nat.le_of_ble_eq_true rfl) a1 a2 a3) (fun ν N => ?_)
            refine r_iconst C dL_holds_485 ?_
            refine r_icmp_ne (tgt := 493) C dL_holds_486 (by decide) (by omega) (by omega) (fun c486 => absurd c486 (by omega)) (fun c486 => ?_)
            refine r_iconst C dL_holds_489 ?_
            refine r_goto (tgt := 494) C dL_holds_490 (by decide) ?_
            refine r_iload C dL_holds_494 rfl ?_
            refine r_if_eq (tgt := 507) C dL_holds_496 (by decide) (by omega) (fun c496 => absurd c496 (by omega)) (fun c496 => ?_)
            refine r_iload_n C dL_holds_499 rfl ?_
            refine r_if_ne (tgt := 507) C dL_holds_500 (by decide) (by omega) (fun c500 => absurd c500 (by omega)) (fun c500 => ?_)
            refine r_iconst C dL_holds_503 ?_
            refine r_goto (tgt := 508) C dL_holds_504 (by decide) ?_
            refine r_icmp_ne (tgt := 515) C dL_holds_508 (by decide) (by omega) (by omega) (fun c508 => absurd c508 (by omega)) (fun c508 => ?_)
            refine r_iconst C dL_holds_511 ?_
            refine r_goto (tgt := 516) C dL_holds_512 (by decide) ?_
            refine r_istore C dL_holds_516 (by decide) rfl ?_
            exact K518 _ _ N
          · rw [b01_f (fun w => bz w.2)] at h5
            refine r_iload C dL_holds_410 rfl ?_
            refine r_if_eq (tgt := 515) C dL_holds_412 (by decide) (by omega) (fun c412 => absurd c412 (by omega)) (fun c412 => ?_)
            refine r_iload C dL_holds_415 rfl ?_
            refine r_iconst C dL_holds_417 ?_
            refine r_icmp_ne (tgt := 425) C dL_holds_418 (by decide) (by omega) (by omega) (fun c418 => absurd c418 (by omega)) (fun c418 => ?_)
            refine r_iconst C dL_holds_421 ?_
            refine r_goto (tgt := 426) C dL_holds_422 (by decide) ?_
            refine r_iload C dL_holds_426 rfl ?_
            refine r_iconst C dL_holds_428 ?_
            refine r_icmp_lt (tgt := 438) C dL_holds_429 (by decide) (by omega) (by omega) (fun c429 => ?_) (fun c429 => absurd c429 (by omega))
            refine r_iconst C dL_holds_438 ?_
            refine r_goto (tgt := 443) C dL_holds_439 (by decide) ?_
            refine r_icmp_ne (tgt := 515) C dL_holds_443 (by decide) (by omega) (by omega) (fun c443 => absurd c443 (by omega)) (fun c443 => ?_)
            refine r_iload C dL_holds_446 rfl ?_
            refine r_iconst C dL_holds_448 ?_
            refine r_icmp_ne (tgt := 457) C dL_holds_449 (by decide) (by omega) (by omega) (fun c449 => ?_) (fun c449 => absurd c449 (by omega))
            refine r_iload C dL_holds_457 rfl ?_
            refine r_iconst C dL_holds_459 ?_
            refine r_icmp_ne (tgt := 467) C dL_holds_460 (by decide) (by omega) (by omega) (fun c460 => absurd c460 (by omega)) (fun c460 => ?_)
            refine r_iconst C dL_holds_463 ?_
            refine r_goto (tgt := 468) C dL_holds_464 (by decide) ?_
            refine r_iload_n C dL_holds_468 rfl ?_
            refine r_if_ne (tgt := 476) C dL_holds_469 (by decide) (by omega) (fun c469 => absurd c469 (by omega)) (fun c469 => ?_)
            refine r_iconst C dL_holds_472 ?_
            refine r_goto (tgt := 477) C dL_holds_473 (by decide) ?_
            refine r_icmp_ne (tgt := 515) C dL_holds_477 (by decide) (by omega) (by omega) (fun c477 => absurd c477 (by omega)) (fun c477 => ?_)
            refine r_aload_n C dL_holds_480 rfl ?_
            refine r_iconst C dL_holds_481 ?_
            refine r_runIr (fun aH aL aj a1 a2 a3 => run_V C hF.2.2.1 (kA_count N (by omega)) lm_X4_count ml_L_13 im_X4_count se_X4_count (ca_q N) rfl (Nat.le_of_ble_eq_true rfl) dL_holds_482 rfl (Nat.le_of_ble_eq_true rfl) a1 a2 a3) (fun ν N => ?_)
            refine r_iconst C dL_holds_485 ?_
            refine r_icmp_ne (tgt := 493) C dL_holds_486 (by decide) (by omega) (by omega) (fun c486 => ?_) (fun c486 => absurd c486 (by omega))
            refine r_iconst C dL_holds_493 ?_
            refine r_iload C dL_holds_494 rfl ?_
            refine r_if_eq (tgt := 507) C dL_holds_496 (by decide) (by omega) (fun c496 => absurd c496 (by omega)) (fun c496 => ?_)
            refine r_iload_n C dL_holds_499 rfl ?_
            refine r_if_ne (tgt := 507) C dL_holds_500 (by decide) (by omega) (fun c500 => ?_) (fun c500 => absurd c500 (by omega))
            refine r_iconst C dL_holds_507 ?_
            refine r_icmp_ne (tgt := 515) C dL_holds_508 (by decide) (by omega) (by omega) (fun c508 => absurd c508 (by omega)) (fun c508 => ?_)
            refine r_iconst C dL_holds_511 ?_
            refine r_goto (tgt := 516) C dL_holds_512 (by decide) ?_
            refine r_istore C dL_holds_516 (by decide) rfl ?_
            exact K518 _ _ N
        · skip
          have h5 : coT u sv 5 = b01 (0 < coT u sv 2 ∧ coT u sv 1 = 0) := rfl
          rcases (by omega : coT u sv 1 = 0 ∨ coT u sv 1 ≠ 0) with bz | bz
          · rw [b01_t ⟨by omega, bz⟩] at h5
            refine r_iload C dL_holds_410 rfl ?_
            refine r_if_eq (tgt := 515) C dL_holds_412 (by decide) (by omega) (fun c412 => absurd c412 (by omega)) (fun c412 => ?_)
            refine r_iload C dL_holds_415 rfl ?_
            refine r_iconst C dL_holds_417 ?_
            refine r_icmp_ne (tgt := 425) C dL_holds_418 (by decide) (by omega) (by omega) (fun c418 => ?_) (fun c418 => absurd c418 (by omega))
            refine r_iconst C dL_holds_425 ?_
            refine r_iload C dL_holds_426 rfl ?_
            refine r_iconst C dL_holds_428 ?_
            refine r_icmp_lt (tgt := 438) C dL_holds_429 (by decide) (by omega) (by omega) (fun c429 => absurd c429 (by omega)) (fun c429 => ?_)
            refine r_iload C dL_holds_432 rfl ?_
            refine r_iconst C dL_holds_434 ?_
            refine r_icmp_ne (tgt := 442) C dL_holds_435 (by decide) (by omega) (by omega) (fun c435 => ?_) (fun c435 => absurd c435 (by omega))
            refine r_iconst C dL_holds_442 ?_
            refine r_icmp_ne (tgt := 515) C dL_holds_443 (by decide) (by omega) (by omega) (fun c443 => absurd c443 (by omega)) (fun c443 => ?_)
            refine r_iload C dL_holds_446 rfl ?_
            refine r_iconst C dL_holds_448 ?_
            refine r_icmp_ne (tgt := 457) C dL_holds_449 (by decide) (by omega) (by omega) (fun c449 => ?_) (fun c449 => absurd c449 (by omega))
            refine r_iload C dL_holds_457 rfl ?_
            refine r_iconst C dL_holds_459 ?_
            refine r_icmp_ne (tgt := 467) C dL_holds_460 (by decide) (by omega) (by omega) (fun c460 => ?_) (fun c460 => absurd c460 (by omega))
            refine r_iconst C dL_holds_467 ?_
            refine r_iload_n C dL_holds_468 rfl ?_
            refine r_if_ne (tgt := 476) C dL_holds_469 (by decide) (by omega) (fun c469 => ?_) (fun c469 => absurd c469 (by omega))
            refine r_iconst C dL_holds_476 ?_
            refine r_icmp_ne (tgt := 515) C dL_holds_477 (by decide) (by omega) (by omega) (fun c477 => absurd c477 (by omega)) (fun c477 => ?_)
            refine r_aload_n C dL_holds_480 rfl ?_
            refine r_iconst C dL_holds_481 ?_
            refine r_runIr (fun aH aL aj a1 a2 a3 => run_V C hF.2.2.1 (kA_count N (by omega)) lm_X4_count ml_L_13 im_X4_count se_X4_count (ca_q N) rfl (Nat.le_of_ble_eq_true rfl) dL_holds_482 rfl (Nat.le_of_ble_eq_true rfl) a1 a2 a3) (fun ν N => ?_)
            refine r_iconst C dL_holds_485 ?_
            refine r_icmp_ne (tgt := 493) C dL_holds_486 (by decide) (by omega) (by omega) (fun c486 => absurd c486 (by omega)) (fun c486 => ?_)
            refine r_iconst C dL_holds_489 ?_
            refine r_goto (tgt := 494) C dL_holds_490 (by decide) ?_
            refine r_iload C dL_holds_494 rfl ?_
            refine r_if_eq (tgt := 507) C dL_holds_496 (by decide) (by omega) (fun c496 => absurd c496 (by omega)) (fun c496 => ?_)
            refine r_iload_n C dL_holds_499 rfl ?_
            refine r_if_ne (tgt := 507) C dL_holds_500 (by decide) (by omega) (fun c500 => absurd c500 (by omega)) (fun c500 => ?_)
            refine r_iconst C dL_holds_503 ?_
            refine r_goto (tgt := 508) C dL_holds_504 (by decide) ?_
            refine r_icmp_ne (tgt := 515) C dL_holds_508 (by decide) (by omega) (by omega) (fun c508 => absurd c508 (by omega)) (fun c508 => ?_)
            refine r_iconst C dL_holds_511 ?_
            refine r_goto (tgt := 516) C dL_holds_512 (by decide) ?_
            refine r_istore C dL_holds_516 (by decide) rfl ?_
            exact K518 _ _ N
          · rw [b01_f (fun w => bz w.2)] at h5
            refine r_iload C dL_holds_410 rfl ?_
            refine r_if_eq (tgt := 515) C dL_holds_412 (by decide) (by omega) (fun c412 => absurd c412 (by omega)) (fun c412 => ?_)
            refine r_iload C dL_holds_415 rfl ?_
            refine r_iconst C dL_holds_417 ?_
            refine r_icmp_ne (tgt := 425) C dL_holds_418 (by decide) (by omega) (by omega) (fun c418 => ?_) (fun c418 => absurd c418 (by omega))
            refine r_iconst C dL_holds_425 ?_
            refine r_iload C dL_holds_426 rfl ?_
            refine r_iconst C dL_holds_428 ?_
            refine r_icmp_lt (tgt := 438) C dL_holds_429 (by decide) (by omega) (by omega) (fun c429 => absurd c429 (by omega)) (fun c429 => ?_)
            refine r_iload C dL_holds_432 rfl ?_
            refine r_iconst C dL_holds_434 ?_
            refine r_icmp_ne (tgt := 442) C dL_holds_435 (by decide) (by omega) (by omega) (fun c435 => ?_) (fun c435 => absurd c435 (by omega))
            refine r_iconst C dL_holds_442 ?_
            refine r_icmp_ne (tgt := 515) C dL_holds_443 (by decide) (by omega) (by omega) (fun c443 => absurd c443 (by omega)) (fun c443 => ?_)
            refine r_iload C dL_holds_446 rfl ?_
            refine r_iconst C dL_holds_448 ?_
            refine r_icmp_ne (tgt := 457) C dL_holds_449 (by decide) (by omega) (by omega) (fun c449 => ?_) (fun c449 => absurd c449 (by omega))
            refine r_iload C dL_holds_457 rfl ?_
            refine r_iconst C dL_holds_459 ?_
            refine r_icmp_ne (tgt := 467) C dL_holds_460 (by decide) (by omega) (by omega) (fun c460 => ?_) (fun c460 => absurd c460 (by omega))
            refine r_iconst C dL_holds_467 ?_
            refine r_iload_n C dL_holds_468 rfl ?_
            refine r_if_ne (tgt := 476) C dL_holds_469 (by decide) (by omega) (fun c469 => ?_) (fun c469 => absurd c469 (by omega))
            refine r_iconst C dL_holds_476 ?_
            refine r_icmp_ne (tgt := 515) C dL_holds_477 (by decide) (by omega) (by omega) (fun c477 => absurd c477 (by omega)) (fun c477 => ?_)
            refine r_aload_n C dL_holds_480 rfl ?_
            refine r_iconst C dL_holds_481 ?_
            refine r_runIr (fun aH aL aj a1 a2 a3 => run_V C hF.2.2.1 (kA_count N (by omega)) lm_X4_count ml_L_13 im_X4_count se_X4_count (ca_q N) rfl (Nat.le_of_ble_eq_true rfl) dL_holds_482 rfl (Nat.le_of_ble_eq_true rfl) a1 a2 a3) (fun ν N => ?_)
            refine r_iconst C dL_holds_485 ?_
            refine r_icmp_ne (tgt := 493) C dL_holds_486 (by decide) (by omega) (by omega) (fun c486 => ?_) (fun c486 => absurd c486 (by omega))
            refine r_iconst C dL_holds_493 ?_
            refine r_iload C dL_holds_494 rfl ?_
            refine r_if_eq (tgt := 507) C dL_holds_496 (by decide) (by omega) (fun c496 => absurd c496 (by omega)) (fun c496 => ?_)
            refine r_iload_n C dL_holds_499 rfl ?_
            refine r_if_ne (tgt := 507) C dL_holds_500 (by decide) (by omega) (fun c500 => ?_) (fun c500 => absurd c500 (by omega))
            refine r_iconst C dL_holds_507 ?_
            refine r_icmp_ne (tgt := 515) C dL_holds_508 (by decide) (by omega) (by omega) (fun c508 => absurd c508 (by omega)) (fun c508 => ?_)
            refine r_iconst C dL_holds_511 ?_
            refine r_goto (tgt := 516) C dL_holds_512 (by decide) ?_
            refine r_istore C dL_holds_516 (by decide) rfl ?_
            exact K518 _ _ N
        · skip
          have h5 : coT u sv 5 = b01 (0 < coT u sv 2 ∧ coT u sv 1 = 0) := rfl
          rcases (by omega : coT u sv 1 = 0 ∨ coT u sv 1 ≠ 0) with bz | bz
          · rw [b01_t ⟨by omega, bz⟩] at h5
            refine r_iload C dL_holds_410 rfl ?_
            refine r_if_eq (tgt := 515) C dL_holds_412 (by decide) (by omega) (fun c412 => absurd c412 (by omega)) (fun c412 => ?_)
            refine r_iload C dL_holds_415 rfl ?_
            refine r_iconst C dL_holds_417 ?_
            refine r_icmp_ne (tgt := 425) C dL_holds_418 (by decide) (by omega) (by omega) (fun c418 => ?_) (fun c418 => absurd c418 (by omega))
            refine r_iconst C dL_holds_425 ?_
            refine r_iload C dL_holds_426 rfl ?_
            refine r_iconst C dL_holds_428 ?_
            refine r_icmp_lt (tgt := 438) C dL_holds_429 (by decide) (by omega) (by omega) (fun c429 => absurd c429 (by omega)) (fun c429 => ?_)
            refine r_iload C dL_holds_432 rfl ?_
            refine r_iconst C dL_holds_434 ?_
            refine r_icmp_ne (tgt := 442) C dL_holds_435 (by decide) (by omega) (by omega) (fun c435 => ?_) (fun c435 => absurd c435 (by omega))
            refine r_iconst C dL_holds_442 ?_
            refine r_icmp_ne (tgt := 515) C dL_holds_443 (by decide) (by omega) (by omega) (fun c443 => absurd c443 (by omega)) (fun c443 => ?_)
            refine r_iload C dL_holds_446 rfl ?_
            refine r_iconst C dL_holds_448 ?_
            refine r_icmp_ne (tgt := 457) C dL_holds_449 (by decide) (by omega) (by omega) (fun c449 => ?_) (fun c449 => absurd c449 (by omega))
            refine r_iload C dL_holds_457 rfl ?_
            refine r_iconst C dL_holds_459 ?_
            refine r_icmp_ne (tgt := 467) C dL_holds_460 (by decide) (by omega) (by omega) (fun c460 => ?_) (fun c460 => absurd c460 (by omega))
            refine r_iconst C dL_holds_467 ?_
            refine r_iload_n C dL_holds_468 rfl ?_
            refine r_if_ne (tgt := 476) C dL_holds_469 (by decide) (by omega) (fun c469 => ?_) (fun c469 => absurd c469 (by omega))
            refine r_iconst C dL_holds_476 ?_
            refine r_icmp_ne (tgt := 515) C dL_holds_477 (by decide) (by omega) (by omega) (fun c477 => absurd c477 (by omega)) (fun c477 => ?_)
            refine r_aload_n C dL_holds_480 rfl ?_
            refine r_iconst C dL_holds_481 ?_
            refine r_runIr (fun aH aL aj a1 a2 a3 => run_V C hF.2.2.1 (kA_count N (by omega)) lm_X4_count ml_L_13 im_X4_count se_X4_count (ca_q N) rfl (Nat.le_of_ble_eq_true rfl) dL_holds_482 rfl (Nat.le_of_ble_eq_true rfl) a1 a2 a3) (fun ν N => ?_)
            refine r_iconst C dL_holds_485 ?_
            refine r_icmp_ne (tgt := 493) C dL_holds_486 (by decide) (by omega) (by omega) (fun c486 => absurd c486 (by omega)) (fun c486 => ?_)
            refine r_iconst C dL_holds_489 ?_
            refine r_goto (tgt := 494) C dL_holds_490 (by decide) ?_
            refine r_iload C dL_holds_494 rfl ?_
            refine r_if_eq (tgt := 507) C dL_holds_496 (by decide) (by omega) (fun c496 => absurd c496 (by omega)) (fun c496 => ?_)
            refine r_iload_n C dL_holds_499 rfl ?_
            refine r_if_ne (tgt := 507) C dL_holds_500 (by decide) (by omega) (fun c500 => absurd c500 (by omega)) (fun c500 => ?_)
            refine r_iconst C dL_holds_503 ?_
            refine r_goto (tgt := 508) C dL_holds_504 (by decide) ?_
            refine r_icmp_ne (tgt := 515) C dL_holds_508 (by decide) (by omega) (by omega) (fun c508 => absurd c508 (by omega)) (fun c508 => ?_)
            refine r_iconst C dL_holds_511 ?_
            refine r_goto (tgt := 516) C dL_holds_512 (by decide) ?_
            refine r_istore C dL_holds_516 (by decide) rfl ?_
            exact K518 _ _ N
          · rw [b01_f (fun w => bz w.2)] at h5
            refine r_iload C dL_holds_410 rfl ?_
            refine r_if_eq (tgt := 515) C dL_holds_412 (by decide) (by omega) (fun c412 => absurd c412 (by omega)) (fun c412 => ?_)
            refine r_iload C dL_holds_415 rfl ?_
            refine r_iconst C dL_holds_417 ?_
            refine r_icmp_ne (tgt := 425) C dL_holds_418 (by decide) (by omega) (by omega) (fun c418 => ?_) (fun c418 => absurd c418 (by omega))
            refine r_iconst C dL_holds_425 ?_
            refine r_iload C dL_holds_426 rfl ?_
            refine r_iconst C dL_holds_428 ?_
            refine r_icmp_lt (tgt := 438) C dL_holds_429 (by decide) (by omega) (by omega) (fun c429 => absurd c429 (by omega)) (fun c429 => ?_)
            refine r_iload C dL_holds_432 rfl ?_
            refine r_iconst C dL_holds_434 ?_
            refine r_icmp_ne (tgt := 442) C dL_holds_435 (by decide) (by omega) (by omega) (fun c435 => ?_) (fun c435 => absurd c435 (by omega))
            refine r_iconst C dL_holds_442 ?_
            refine r_icmp_ne (tgt := 515) C dL_holds_443 (by decide) (by omega) (by omega) (fun c443 => absurd c443 (by omega)) (fun c443 => ?_)
            refine r_iload C dL_holds_446 rfl ?_
            refine r_iconst C dL_holds_448 ?_
            refine r_icmp_ne (tgt := 457) C dL_holds_449 (by decide) (by omega) (by omega) (fun c449 => ?_) (fun c449 => absurd c449 (by omega))
            refine r_iload C dL_holds_457 rfl ?_
            refine r_iconst C dL_holds_459 ?_
            refine r_icmp_ne (tgt := 467) C dL_holds_460 (by decide) (by omega) (by omega) (fun c460 => ?_) (fun c460 => absurd c460 (by omega))
            refine r_iconst C dL_holds_467 ?_
            refine r_iload_n C dL_holds_468 rfl ?_
            refine r_if_ne (tgt := 476) C dL_holds_469 (by decide) (by omega) (fun c469 => ?_) (fun c469 => absurd c469 (by omega))
            refine r_iconst C dL_holds_476 ?_
            refine r_icmp_ne (tgt := 515) C dL_holds_477 (by decide) (by omega) (by omega) (fun c477 => absurd c477 (by omega)) (fun c477 => ?_)
            refine r_aload_n C dL_holds_480 rfl ?_
            refine r_iconst C dL_holds_481 ?_
            refine r_runIr (fun aH aL aj a1 a2 a3 => run_V C hF.2.2.1 (kA_count N (by omega)) lm_X4_count ml_L_13 im_X4_count se_X4_count (ca_q N) rfl (Nat.le_of_ble_eq_true rfl) dL_holds_482 rfl (Nat.le_of_ble_eq_true rfl) a1 a2 a3) (fun ν N => ?_)
            refine r_iconst C dL_holds_485 ?_
            refine r_icmp_ne (tgt := 493) C dL_holds_486 (by decide) (by omega) (by omega) (fun c486 => ?_) (fun c486 => absurd c486 (by omega))
            refine r_iconst C dL_holds_493 ?_
            refine r_iload C dL_holds_494 rfl ?_
            refine r_if_eq (tgt := 507) C dL_holds_496 (by decide) (by omega) (fun c496 => absurd c496 (by omega)) (fun c496 => ?_)
            refine r_iload_n C dL_holds_499 rfl ?_
            refine r_if_ne (tgt := 507) C dL_holds_500 (by decide) (by omega) (fun c500 => ?_) (fun c500 => absurd c500 (by omega))
            refine r_iconst C dL_holds_507 ?_
            refine r_icmp_ne (tgt := 515) C dL_holds_508 (by decide) (by omega) (by omega) (fun c508 => absurd c508 (by omega)) (fun c508 => ?_)
            refine r_iconst C dL_holds_511 ?_
            refine r_goto (tgt := 516) C dL_holds_512 (by decide) ?_
            refine r_istore C dL_holds_516 (by decide) rfl ?_
            exact K518 _ _ N
        · skip
          have h5 : coT u sv 5 = b01 (0 < coT u sv 2 ∧ coT u sv 1 = 0) := rfl
          rcases (by omega : coT u sv 1 = 0 ∨ coT u sv 1 ≠ 0) with bz | bz
          · rw [b01_t ⟨by omega, bz⟩] at h5
            refine r_iload C dL_holds_410 rfl ?_
            refine r_if_eq (tgt := 515) C dL_holds_412 (by decide) (by omega) (fun c412 => absurd c412 (by omega)) (fun c412 => ?_)
            refine r_iload C dL_holds_415 rfl ?_
            refine r_iconst C dL_holds_417 ?_
            refine r_icmp_ne (tgt := 425) C dL_holds_418 (by decide) (by omega) (by omega) (fun c418 => ?_) (fun c418 => absurd c418 (by omega))
            refine r_iconst C dL_holds_425 ?_
            refine r_iload C dL_holds_426 rfl ?_
            refine r_iconst C dL_holds_428 ?_
            refine r_icmp_lt (tgt := 438) C dL_holds_429 (by decide) (by omega) (by omega) (fun c429 => absurd c429 (by omega)) (fun c429 => ?_)
            refine r_iload C dL_holds_432 rfl ?_
            refine r_iconst C dL_holds_434 ?_
            refine r_icmp_ne (tgt := 442) C dL_holds_435 (by decide) (by omega) (by omega) (fun c435 => ?_) (fun c435 => absurd c435 (by omega))
            refine r_iconst C dL_holds_442 ?_
            refine r_icmp_ne (tgt := 515) C dL_holds_443 (by decide) (by omega) (by omega) (fun c443 => absurd c443 (by omega)) (fun c443 => ?_)
            refine r_iload C dL_holds_446 rfl ?_
            refine r_iconst C dL_holds_448 ?_
            refine r_icmp_ne (tgt := 457) C dL_holds_449 (by decide) (by omega) (by omega) (fun c449 => ?_) (fun c449 => absurd c449 (by omega))
            refine r_iload C dL_holds_457 rfl ?_
            refine r_iconst C dL_holds_459 ?_
            refine r_icmp_ne (tgt := 467) C dL_holds_460 (by decide) (by omega) (by omega) (fun c460 => ?_) (fun c460 => absurd c460 (by omega))
            refine r_iconst C dL_holds_467 ?_
            refine r_iload_n C dL_holds_468 rfl ?_
            refine r_if_ne (tgt := 476) C dL_holds_469 (by decide) (by omega) (fun c469 => ?_) (fun c469 => absurd c469 (by omega))
            refine r_iconst C dL_holds_476 ?_
            refine r_icmp_ne (tgt := 515) C dL_holds_477 (by decide) (by omega) (by omega) (fun c477 => absurd c477 (by omega)) (fun c477 => ?_)
            refine r_aload_n C dL_holds_480 rfl ?_
            refine r_iconst C dL_holds_481 ?_
            refine r_runIr (fun aH aL aj a1 a2 a3 => run_V C hF.2.2.1 (kA_count N (by omega)) lm_X4_count ml_L_13 im_X4_count se_X4_count (ca_q N) rfl (Nat.le_of_ble_eq_true rfl) dL_holds_482 rfl (Nat.le_of_ble_eq_true rfl) a1 a2 a3) (fun ν N => ?_)
            refine r_iconst C dL_holds_485 ?_
            refine r_icmp_ne (tgt := 493) C dL_holds_486 (by decide) (by omega) (by omega) (fun c486 => absurd c486 (by omega)) (fun c486 => ?_)
            refine r_iconst C dL_holds_489 ?_
            refine r_goto (tgt := 494) C dL_holds_490 (by decide) ?_
            refine r_iload C dL_holds_494 rfl ?_
            refine r_if_eq (tgt := 507) C dL_holds_496 (by decide) (by omega) (fun c496 => absurd c496 (by omega)) (fun c496 => ?_)
            refine r_iload_n C dL_holds_499 rfl ?_
            refine r_if_ne (tgt := 507) C dL_holds_500 (by decide) (by omega) (fun c500 => absurd c500 (by omega)) (fun c500 => ?_)
            refine r_iconst C dL_holds_503 ?_
            refine r_goto (tgt := 508) C dL_holds_504 (by decide) ?_
            refine r_icmp_ne (tgt := 515) C dL_holds_508 (by decide) (by omega) (by omega) (fun c508 => absurd c508 (by omega)) (fun c508 => ?_)
            refine r_iconst C dL_holds_511 ?_
            refine r_goto (tgt := 516) C dL_holds_512 (by decide) ?_
            refine r_istore C dL_holds_516 (by decide) rfl ?_
            exact K518 _ _ N
          · rw [b01_f (fun w => bz w.2)] at h5
            refine r_iload C dL_holds_410 rfl ?_
            refine r_if_eq (tgt := 515) C dL_holds_412 (by decide) (by omega) (fun c412 => absurd c412 (by omega)) (fun c412 => ?_)
            refine r_iload C dL_holds_415 rfl ?_
            refine r_iconst C dL_holds_417 ?_
            refine r_icmp_ne (tgt := 425) C dL_holds_418 (by decide) (by omega) (by omega) (fun c418 => ?_) (fun c418 => absurd c418 (by omega))
            refine r_iconst C dL_holds_425 ?_
            refine r_iload C dL_holds_426 rfl ?_
            refine r_iconst C dL_holds_428 ?_
            refine r_icmp_lt (tgt := 438) C dL_holds_429 (by decide) (by omega) (by omega) (fun c429 => absurd c429 (by omega)) (fun c429 => ?_)
            refine r_iload C dL_holds_432 rfl ?_
            refine r_iconst C dL_holds_434 ?_
            refine r_icmp_ne (tgt := 442) C dL_holds_435 (by decide) (by omega) (by omega) (fun c435 => ?_) (fun c435 => absurd c435 (by omega))
            refine r_iconst C dL_holds_442 ?_
            refine r_icmp_ne (tgt := 515) C dL_holds_443 (by decide) (by omega) (by omega) (fun c443 => absurd c443 (by omega)) (fun c443 => ?_)
            refine r_iload C dL_holds_446 rfl ?_
            refine r_iconst C dL_holds_448 ?_
            refine r_icmp_ne (tgt := 457) C dL_holds_449 (by decide) (by omega) (by omega) (fun c449 => ?_) (fun c449 => absurd c449 (by omega))
            refine r_iload C dL_holds_457 rfl ?_
            refine r_iconst C dL_holds_459 ?_
            refine r_icmp_ne (tgt := 467) C dL_holds_460 (by decide) (by omega) (by omega) (fun c460 => ?_) (fun c460 => absurd c460 (by omega))
            refine r_iconst C dL_holds_467 ?_
            refine r_iload_n C dL_holds_468 rfl ?_
            refine r_if_ne (tgt := 476) C dL_holds_469 (by decide) (by omega) (fun c469 => ?_) (fun c469 => absurd c469 (by omega))
            refine r_iconst C dL_holds_476 ?_
            refine r_icmp_ne (tgt := 515) C dL_holds_477 (by decide) (by omega) (by omega) (fun c477 => absurd c477 (by omega)) (fun c477 => ?_)
            refine r_aload_n C dL_holds_480 rfl ?_
            refine r_iconst C dL_holds_481 ?_
            refine r_runIr (fun aH aL aj a1 a2 a3 => run_V C hF.2.2.1 (kA_count N (by omega)) lm_X4_count ml_L_13 im_X4_count se_X4_count (ca_q N) rfl (Nat.le_of_ble_eq_true rfl) dL_holds_482 rfl (Nat.le_of_ble_eq_true rfl) a1 a2 a3) (fun ν N => ?_)
            refine r_iconst C dL_holds_485 ?_
            refine r_icmp_ne (tgt := 493) C dL_holds_486 (by decide) (by omega) (by omega) (fun c486 => ?_) (fun c486 => absurd c486 (by omega))
            refine r_iconst C dL_holds_493 ?_
            refine r_iload C dL_holds_494 rfl ?_
            refine r_if_eq (tgt := 507) C dL_holds_496 (by decide) (by omega) (fun c496 => absurd c496 (by omega)) (fun c496 => ?_)
            refine r_iload_n C dL_holds_499 rfl ?_
            refine r_if_ne (tgt := 507) C dL_holds_500 (by decide) (by omega) (fun c500 => ?_) (fun c500 => absurd c500 (by omega))
            refine r_iconst C dL_holds_507 ?_
            refine r_icmp_ne (tgt := 515) C dL_holds_508 (by decide) (by omega) (by omega) (fun c508 => absurd c508 (by omega)) (fun c508 => ?_)
            refine r_iconst C dL_holds_511 ?_
            refine r_goto (tgt := 516) C dL_holds_512 (by decide) ?_
            refine r_istore C dL_holds_516 (by decide) rfl ?_
            exact K518 _ _ N
        · skip
          have h5 : coT u sv 5 = b01 (0 < coT u sv 2 ∧ coT u sv 1 = 0) := rfl
          rcases (by omega : coT u sv 1 = 0 ∨ coT u sv 1 ≠ 0) with bz | bz
          · rw [b01_t ⟨by omega, bz⟩] at h5
            refine r_iload C dL_holds_410 rfl ?_
            refine r_if_eq (tgt := 515) C dL_holds_412 (by decide) (by omega) (fun c412 => absurd c412 (by omega)) (fun c412 => ?_)
            refine r_iload C dL_holds_415 rfl ?_
            refine r_iconst C dL_holds_417 ?_
            refine r_icmp_ne (tgt := 425) C dL_holds_418 (by decide) (by omega) (by omega) (fun c418 => absurd c418 (by omega)) (fun c418 => ?_)
            refine r_iconst C dL_holds_421 ?_
            refine r_goto (tgt := 426) C dL_holds_422 (by decide) ?_
            refine r_iload C dL_holds_426 rfl ?_
            refine r_iconst C dL_holds_428 ?_
            refine r_icmp_lt (tgt := 438) C dL_holds_429 (by decide) (by omega) (by omega) (fun c429 => absurd c429 (by omega)) (fun c429 => ?_)
            refine r_iload C dL_holds_432 rfl ?_
            refine r_iconst C dL_holds_434 ?_
            refine r_icmp_ne (tgt := 442) C dL_holds_435 (by decide) (by omega) (by omega) (fun c435 => absurd c435 (by omega)) (fun c435 => ?_)
            refine r_iconst C dL_holds_438 ?_
            refine r_goto (tgt := 443) C dL_holds_439 (by decide) ?_
            refine r_icmp_ne (tgt := 515) C dL_holds_443 (by decide) (by omega) (by omega) (fun c443 => absurd c443 (by omega)) (fun c443 => ?_)
            refine r_iload C dL_holds_446 rfl ?_
            refine r_iconst C dL_holds_448 ?_
            refine r_icmp_ne (tgt := 457) C dL_holds_449 (by decide) (by omega) (by omega) (fun c449 => absurd c449 (by omega)) (fun c449 => ?_)
            refine r_iload C dL_holds_452 rfl ?_
            refine r_if_lt (tgt := 515) C dL_holds_454 (by decide) (by omega) (fun c454 => absurd c454 (by omega)) (fun c454 => ?_)
            refine r_iload C dL_holds_457 rfl ?_
            refine r_iconst C dL_holds_459 ?_
            refine r_icmp_ne (tgt := 467) C dL_holds_460 (by decide) (by omega) (by omega) (fun c460 => ?_) (fun c460 => absurd c460 (by omega))
            refine r_iconst C dL_holds_467 ?_
            refine r_iload_n C dL_holds_468 rfl ?_
            refine r_if_ne (tgt := 476) C dL_holds_469 (by decide) (by omega) (fun c469 => ?_) (fun c469 => absurd c469 (by omega))
            refine r_iconst C dL_holds_476 ?_
            refine r_icmp_ne (tgt := 515) C dL_holds_477 (by decide) (by omega) (by omega) (fun c477 => absurd c477 (by omega)) (fun c477 => ?_)
            refine r_aload_n C dL_holds_480 rfl ?_
            refine r_iconst C dL_holds_481 ?_
            refine r_runIr (fun aH aL aj a1 a2 a3 => run_V C hF.2.2.1 (kA_count N (by omega)) lm_X4_count ml_L_13 im_X4_count se_X4_count (ca_q N) rfl (Nat.le_of_ble_eq_true rfl) dL_holds_482 rfl (Nat.le_of_ble_eq_true rfl) a1 a2 a3) (fun ν N => ?_)
            refine r_iconst C dL_holds_485 ?_
            refine r_icmp_ne (tgt := 493) C dL_holds_486 (by decide) (by omega) (by omega) (fun c486 => absurd c486 (by omega)) (fun c486 => ?_)
            refine r_iconst C dL_holds_489 ?_
            refine r_goto (tgt := 494) C dL_holds_490 (by decide) ?_
            refine r_iload C dL_holds_494 rfl ?_
            refine r_if_eq (tgt := 507) C dL_holds_496 (by decide) (by omega) (fun c496 => absurd c496 (by omega)) (fun c496 => ?_)
            refine r_iload_n C dL_holds_499 rfl ?_
            refine r_if_ne (tgt := 507) C dL_holds_500 (by decide) (by omega) (fun c500 => absurd c500 (by omega)) (fun c500 => ?_)
            refine r_iconst C dL_holds_503 ?_
            refine r_goto (tgt := 508) C dL_holds_504 (by decide) ?_
            refine r_icmp_ne (tgt := 515) C dL_holds_508 (by decide) (by omega) (by omega) (fun c508 => absurd c508 (by omega)) (fun c508 => ?_)
            refine r_iconst C dL_holds_511 ?_
            refine r_goto (tgt := 516) C dL_holds_512 (by decide) ?_
            refine r_istore C dL_holds_516 (by decide) rfl ?_
            exact K518 _ _ N
          · rw [b01_f (fun w => bz w.2)] at h5
            refine r_iload C dL_holds_410 rfl ?_
            refine r_if_eq (tgt := 515) C dL_holds_412 (by decide) (by omega) (fun c412 => absurd c412 (by omega)) (fun c412 => ?_)
            refine r_iload C dL_holds_415 rfl ?_
            refine r_iconst C dL_holds_417 ?_
            refine r_icmp_ne (tgt := 425) C dL_holds_418 (by decide) (by omega) (by omega) (fun c418 => absurd c418 (by omega)) (fun c418 => ?_)
            refine r_iconst C dL_holds_421 ?_
            refine r_goto (tgt := 426) C dL_holds_422 (by decide) ?_
            refine r_iload C dL_holds_426 rfl ?_
            refine r_iconst C dL_holds_428 ?_
            refine r_icmp_lt (tgt := 438) C dL_holds_429 (by decide) (by omega) (by omega) (fun c429 => absurd c429 (by omega)) (fun c429 => ?_)
            refine r_iload C dL_holds_432 rfl ?_
            refine r_iconst C dL_holds_434 ?_
            refine r_icmp_ne (tgt := 442) C dL_holds_435 (by decide) (by omega) (by omega) (fun c435 => absurd c435 (by omega)) (fun c435 => ?_)
            refine r_iconst C dL_holds_438 ?_
            refine r_goto (tgt := 443) C dL_holds_439 (by decide) ?_
            refine r_icmp_ne (tgt := 515) C dL_holds_443 (by decide) (by omega) (by omega) (fun c443 => absurd c443 (by omega)) (fun c443 => ?_)
            refine r_iload C dL_holds_446 rfl ?_
            refine r_iconst C dL_holds_448 ?_
            refine r_icmp_ne (tgt := 457) C dL_holds_449 (by decide) (by omega) (by omega) (fun c449 => absurd c449 (by omega)) (fun c449 => ?_)
            refine r_iload C dL_holds_452 rfl ?_
            refine r_if_lt (tgt := 515) C dL_holds_454 (by decide) (by omega) (fun c454 => absurd c454 (by omega)) (fun c454 => ?_)
            refine r_iload C dL_holds_457 rfl ?_
            refine r_iconst C dL_holds_459 ?_
            refine r_icmp_ne (tgt := 467) C dL_holds_460 (by decide) (by omega) (by omega) (fun c460 => ?_) (fun c460 => absurd c460 (by omega))
            refine r_iconst C dL_holds_467 ?_
            refine r_iload_n C dL_holds_468 rfl ?_
            refine r_if_ne (tgt := 476) C dL_holds_469 (by decide) (by omega) (fun c469 => ?_) (fun c469 => absurd c469 (by omega))
            refine r_iconst C dL_holds_476 ?_
            refine r_icmp_ne (tgt := 515) C dL_holds_477 (by decide) (by omega) (by omega) (fun c477 => absurd c477 (by omega)) (fun c477 => ?_)
            refine r_aload_n C dL_holds_480 rfl ?_
            refine r_iconst C dL_holds_481 ?_
            refine r_runIr (fun aH aL aj a1 a2 a3 => run_V C hF.2.2.1 (kA_count N (by omega)) lm_X4_count ml_L_13 im_X4_count se_X4_count (ca_q N) rfl (Nat.le_of_ble_eq_true rfl) dL_holds_482 rfl (Nat.le_of_ble_eq_true rfl) a1 a2 a3) (fun ν N => ?_)
            refine r_iconst C dL_holds_485 ?_
            refine r_icmp_ne (tgt := 493) C dL_holds_486 (by decide) (by omega) (by omega) (fun c486 => ?_) (fun c486 => absurd c486 (by omega))
            refine r_iconst C dL_holds_493 ?_
            refine r_iload C dL_holds_494 rfl ?_
            refine r_if_eq (tgt := 507) C dL_holds_496 (by decide) (by omega) (fun c496 => absurd c496 (by omega)) (fun c496 => ?_)
            refine r_iload_n C dL_holds_499 rfl ?_
            refine r_if_ne (tgt := 507) C dL_holds_500 (by decide) (by omega) (fun c500 => ?_) (fun c500 => absurd c500 (by omega))
            refine r_iconst C dL_holds_507 ?_
            refine r_icmp_ne (tgt := 515) C dL_holds_508 (by decide) (by omega) (by omega) (fun c508 => absurd c508 (by omega)) (fun c508 => ?_)
            refine r_iconst C dL_holds_511 ?_
            refine r_goto (tgt := 516) C dL_holds_512 (by decide) ?_
            refine r_istore C dL_holds_516 (by decide) rfl ?_
            exact K518 _ _ N
        · skip
          have h5 : coT u sv 5 = b01 (0 < coT u sv 2 ∧ coT u sv 1 = 0) := rfl
          rcases (by omega : coT u sv 1 = 0 ∨ coT u sv 1 ≠ 0) with bz | bz
          · rw [b01_t ⟨by omega, bz⟩] at h5
            refine r_iload C dL_holds_410 rfl ?_
            refine r_if_eq (tgt := 515) C dL_holds_412 (by decide) (by omega) (fun c412 => absurd c412 (by omega)) (fun c412 => ?_)
            refine r_iload C dL_holds_415 rfl ?_
            refine r_iconst C dL_holds_417 ?_
            refine r_icmp_ne (tgt := 425) C dL_holds_418 (by decide) (by omega) (by omega) (fun c418 => ?_) (fun c418 => absurd c418 (by omega))
            refine r_iconst C dL_holds_425 ?_
            refine r_iload C dL_holds_426 rfl ?_
            refine r_iconst C dL_holds_428 ?_
            refine r_icmp_lt (tgt := 438) C dL_holds_429 (by decide) (by omega) (by omega) (fun c429 => absurd c429 (by omega)) (fun c429 => ?_)
            refine r_iload C dL_holds_432 rfl ?_
            refine r_iconst C dL_holds_434 ?_
            refine r_icmp_ne (tgt := 442) C dL_holds_435 (by decide) (by omega) (by omega) (fun c435 => ?_) (fun c435 => absurd c435 (by omega))
            refine r_iconst C dL_holds_442 ?_
            refine r_icmp_ne (tgt := 515) C dL_holds_443 (by decide) (by omega) (by omega) (fun c443 => absurd c443 (by omega)) (fun c443 => ?_)
            refine r_iload C dL_holds_446 rfl ?_
            refine r_iconst C dL_holds_448 ?_
            refine r_icmp_ne (tgt := 457) C dL_holds_449 (by decide) (by omega) (by omega) (fun c449 => ?_) (fun c449 => absurd c449 (by omega))
            refine r_iload C dL_holds_457 rfl ?_
            refine r_iconst C dL_holds_459 ?_
            refine r_icmp_ne (tgt := 467) C dL_holds_460 (by decide) (by omega) (by omega) (fun c460 => ?_) (fun c460 => absurd c460 (by omega))
            refine r_iconst C dL_holds_467 ?_
            refine r_iload_n C dL_holds_468 rfl ?_
            refine r_if_ne (tgt := 476) C dL_holds_469 (by decide) (by omega) (fun c469 => ?_) (fun c469 => absurd c469 (by omega))
            refine r_iconst C dL_holds_476 ?_
            refine r_icmp_ne (tgt := 515) C dL_holds_477 (by decide) (by omega) (by omega) (fun c477 => absurd c477 (by omega)) (fun c477 => ?_)
            refine r_aload_n C dL_holds_480 rfl ?_
            refine r_iconst C dL_holds_481 ?_
            refine r_runIr (fun aH aL aj a1 a2 a3 => run_V C hF.2.2.1 (kA_count N (by omega)) lm_X4_count ml_L_13 im_X4_count se_X4_count (ca_q N) rfl (Nat.le_of_ble_eq_true rfl) dL_holds_482 rfl (Nat.le_of_ble_eq_true rfl) a1 a2 a3) (fun ν N => ?_)
            refine r_iconst C dL_holds_485 ?_
            refine r_icmp_ne (tgt := 493) C dL_holds_486 (by decide) (by omega) (by omega) (fun c486 => absurd c486 (by omega)) (fun c486 => ?_)
            refine r_iconst C dL_holds_489 ?_
            refine r_goto (tgt := 494) C dL_holds_490 (by decide) ?_
            refine r_iload C dL_holds_494 rfl ?_
            refine r_if_eq (tgt := 507) C dL_holds_496 (by decide) (by omega) (fun c496 => absurd c496 (by omega)) (fun c496 => ?_)
            refine r_iload_n C dL_holds_499 rfl ?_
            refine r_if_ne (tgt := 507) C dL_holds_500 (by decide) (by omega) (fun c500 => absurd c500 (by omega)) (fun c500 => ?_)
            refine r_iconst C dL_holds_503 ?_
            refine r_goto (tgt := 508) C dL_holds_504 (by decide) ?_
            refine r_icmp_ne (tgt := 515) C dL_holds_508 (by decide) (by omega) (by omega) (fun c508 => absurd c508 (by omega)) (fun c508 => ?_)
            refine r_iconst C dL_holds_511 ?_
            refine r_goto (tgt := 516) C dL_holds_512 (by decide) ?_
            refine r_istore C dL_holds_516 (by decide) rfl ?_
            exact K518 _ _ N
          · rw [b01_f (fun w => bz w.2)] at h5
            refine r_iload C dL_holds_410 rfl ?_
            refine r_if_eq (tgt := 515) C dL_holds_412 (by decide) (by omega) (fun c412 => absurd c412 (by omega)) (fun c412 => ?_)
            refine r_iload C dL_holds_415 rfl ?_
            refine r_iconst C dL_holds_417 ?_
            refine r_icmp_ne (tgt := 425) C dL_holds_418 (by decide) (by omega) (by omega) (fun c418 => ?_) (fun c418 => absurd c418 (by omega))
            refine r_iconst C dL_holds_425 ?_
            refine r_iload C dL_holds_426 rfl ?_
            refine r_iconst C dL_holds_428 ?_
            refine r_icmp_lt (tgt := 438) C dL_holds_429 (by decide) (by omega) (by omega) (fun c429 => absurd c429 (by omega)) (fun c429 => ?_)
            refine r_iload C dL_holds_432 rfl ?_
            refine r_iconst C dL_holds_434 ?_
            refine r_icmp_ne (tgt := 442) C dL_holds_435 (by decide) (by omega) (by omega) (fun c435 => ?_) (fun c435 => absurd c435 (by omega))
            refine r_iconst C dL_holds_442 ?_
            refine r_icmp_ne (tgt := 515) C dL_holds_443 (by decide) (by omega) (by omega) (fun c443 => absurd c443 (by omega)) (fun c443 => ?_)
            refine r_iload C dL_holds_446 rfl ?_
            refine r_iconst C dL_holds_448 ?_
            refine r_icmp_ne (tgt := 457) C dL_holds_449 (by decide) (by omega) (by omega) (fun c449 => ?_) (fun c449 => absurd c449 (by omega))
            refine r_iload C dL_holds_457 rfl ?_
            refine r_iconst C dL_holds_459 ?_
            refine r_icmp_ne (tgt := 467) C dL_holds_460 (by decide) (by omega) (by omega) (fun c460 => ?_) (fun c460 => absurd c460 (by omega))
            refine r_iconst C dL_holds_467 ?_
            refine r_iload_n C dL_holds_468 rfl ?_
            refine r_if_ne (tgt := 476) C dL_holds_469 (by decide) (by omega) (fun c469 => ?_) (fun c469 => absurd c469 (by omega))
            refine r_iconst C dL_holds_476 ?_
            refine r_icmp_ne (tgt := 515) C dL_holds_477 (by decide) (by omega) (by omega) (fun c477 => absurd c477 (by omega)) (fun c477 => ?_)
            refine r_aload_n C dL_holds_480 rfl ?_
            refine r_iconst C dL_holds_481 ?_
            refine r_runIr (fun aH aL aj a1 a2 a3 => run_V C hF.2.2.1 (kA_count N (by omega)) lm_X4_count ml_L_13 im_X4_count se_X4_count (ca_q N) rfl (Nat.le_of_ble_eq_true rfl) dL_holds_482 rfl (Nat.le_of_ble_eq_true rfl) a1 a2 a3) (fun ν N => ?_)
            refine r_iconst C dL_holds_485 ?_
            refine r_icmp_ne (tgt := 493) C dL_holds_486 (by decide) (by omega) (by omega) (fun c486 => ?_) (fun c486 => absurd c486 (by omega))
            refine r_iconst C dL_holds_493 ?_
            refine r_iload C dL_holds_494 rfl ?_
            refine r_if_eq (tgt := 507) C dL_holds_496 (by decide) (by omega) (fun c496 => absurd c496 (by omega)) (fun c496 => ?_)
            refine r_iload_n C dL_holds_499 rfl ?_
            refine r_if_ne (tgt := 507) C dL_holds_500 (by decide) (by omega) (fun c500 => ?_) (fun c500 => absurd c500 (by omega))
            refine r_iconst C dL_holds_507 ?_
            refine r_icmp_ne (tgt := 515) C dL_holds_508 (by decide) (by omega) (by omega) (fun c508 => absurd c508 (by omega)) (fun c508 => ?_)
            refine r_iconst C dL_holds_511 ?_
            refine r_goto (tgt := 516) C dL_holds_512 (by decide) ?_
            refine r_istore C dL_holds_516 (by decide) rfl ?_
            exact K518 _ _ N
        · have h5 : coT u sv 5 = 0 := b01_f (by have h2 : flt (u 0) (vN u) (vD u) (u 3) = 0 := d2; omega)
          refine r_iload C dL_holds_410 rfl ?_
          refine r_if_eq (tgt := 515) C dL_holds_412 (by decide) (by omega) (fun c412 => absurd c412 (by omega)) (fun c412 => ?_)
          refine r_iload C dL_holds_415 rfl ?_
          refine r_iconst C dL_holds_417 ?_
          refine r_icmp_ne (tgt := 425) C dL_holds_418 (by decide) (by omega) (by omega) (fun c418 => absurd c418 (by omega)) (fun c418 => ?_)
          refine r_iconst C dL_holds_421 ?_
          refine r_goto (tgt := 426) C dL_holds_422 (by decide) ?_
          refine r_iload C dL_holds_426 rfl ?_
          refine r_iconst C dL_holds_428 ?_
          refine r_icmp_lt (tgt := 438) C dL_holds_429 (by decide) (by omega) (by omega) (fun c429 => ?_) (fun c429 => absurd c429 (by omega))
          refine r_iconst C dL_holds_438 ?_
          refine r_goto (tgt := 443) C dL_holds_439 (by decide) ?_
          refine r_icmp_ne (tgt := 515) C dL_holds_443 (by decide) (by omega) (by omega) (fun c443 => absurd c443 (by omega)) (fun c443 => ?_)
          refine r_iload C dL_holds_446 rfl ?_
          refine r_iconst C dL_holds_448 ?_
          refine r_icmp_ne (tgt := 457) C dL_holds_449 (by decide) (by omega) (by omega) (fun c449 => ?_) (fun c449 => absurd c449 (by omega))
          refine r_iload C dL_holds_457 rfl ?_
          refine r_iconst C dL_holds_459 ?_
          refine r_icmp_ne (tgt := 467) C dL_holds_460 (by decide) (by omega) (by omega) (fun c460 => ?_) (fun c460 => absurd c460 (by omega))
          refine r_iconst C dL_holds_467 ?_
          refine r_iload_n C dL_holds_468 rfl ?_
          refine r_if_ne (tgt := 476) C dL_holds_469 (by decide) (by omega) (fun c469 => ?_) (fun c469 => absurd c469 (by omega))
          refine r_iconst C dL_holds_476 ?_
          refine r_icmp_ne (tgt := 515) C dL_holds_477 (by decide) (by omega) (by omega) (fun c477 => absurd c477 (by omega)) (fun c477 => ?_)
          refine r_aload_n C dL_holds_480 rfl ?_
          refine r_iconst C dL_holds_481 ?_
          refine r_runIr (fun aH aL aj a1 a2 a3 => run_V C hF.2.2.1 (kA_count N (by omega)) lm_X4_count ml_L_13 im_X4_count se_X4_count (ca_q N) rfl (Nat.le_of_ble_eq_true rfl) dL_holds_482 rfl (Nat.le_of_ble_eq_true rfl) a1 a2 a3) (fun ν N => ?_)
          refine r_iconst C dL_holds_485 ?_
          refine r_icmp_ne (tgt := 493) C dL_holds_486 (by decide) (by omega) (by omega) (fun c486 => ?_) (fun c486 => absurd c486 (by omega))
          refine r_iconst C dL_holds_493 ?_
          refine r_iload C dL_holds_494 rfl ?_
          refine r_if_eq (tgt := 507) C dL_holds_496 (by decide) (by omega) (fun c496 => ?_) (fun c496 => absurd c496 (by omega))
          refine r_iconst C dL_holds_507 ?_
          refine r_icmp_ne (tgt := 515) C dL_holds_508 (by decide) (by omega) (by omega) (fun c508 => absurd c508 (by omega)) (fun c508 => ?_)
          refine r_iconst C dL_holds_511 ?_
          refine r_goto (tgt := 516) C dL_holds_512 (by decide) ?_
          refine r_istore C dL_holds_516 (by decide) rfl ?_
          exact K518 _ _ N
    · intro i h0 h1 K2 ν a b N
      have hb := hd_b hv hc (x := i - 1) (by omega) (by omega)
      show RR X _ _ [vR q, vI (u 3), vI (coT u sv 1), vI (coT u sv 8), vI (coT u sv 9), vI (coT u sv 11), vI (dnB u 1 i), vI (dnB u 2 i), vI (msD u i), vI 1, vI (i - 1), a, b] []
      refine r_iload C dL_holds_245 rfl ?_
      refine r_if_lt (tgt := 396) C dL_holds_247 (by decide) (by omega) (fun c247 => absurd c247 (by omega)) (fun c247 => ?_)
      refine r_iload C dL_holds_250 rfl ?_
      refine r_aload_n C dL_holds_252 rfl ?_
      refine r_iload C dL_holds_253 rfl ?_
      refine r_iconst C dL_holds_255 ?_
      refine r_runIr (fun aH aL aj a1 a2 a3 => run_V C hF.2.2.1 (kA_bin N (by omega) (by omega)) lm_X4_bin ml_L_23 im_X4_bin se_X4_bin (ca_q N) rfl (Nat.le_of_ble_eq_true rfl) dL_holds_256 rfl (Nat.le_of_ble_eq_true rfl) a1 a2 a3) (fun ν N => ?_)
      refine r_iadd C dL_holds_259 ?_
      refine r_istore C dL_holds_260 (by decide) rfl ?_
      refine r_iload C dL_holds_262 rfl ?_
      refine r_aload_n C dL_holds_264 rfl ?_
      refine r_iload C dL_holds_265 rfl ?_
      refine r_iconst C dL_holds_267 ?_
      refine r_runIr (fun aH aL aj a1 a2 a3 => run_V C hF.2.2.1 (kA_bin N (by omega) (by omega)) lm_X4_bin ml_L_23 im_X4_bin se_X4_bin (ca_q N) rfl (Nat.le_of_ble_eq_true rfl) dL_holds_268 rfl (Nat.le_of_ble_eq_true rfl) a1 a2 a3) (fun ν N => ?_)
      refine r_iadd C dL_holds_271 ?_
      refine r_istore C dL_holds_272 (by decide) rfl ?_
      refine jn (A := ∀ (ν : Mem), CA (xV X) K q μ0 u z sv st ν → RR X ν 301 [vR q, vI (u 3), vI (coT u sv 1), vI (coT u sv 8), vI (coT u sv 9), vI (coT u sv 11), vI (dnB u 1 i + ofB u (i - 1) 1), vI (dnB u 2 i + ofB u (i - 1) 2), vI (msD u i), vI 1, vI (i - 1), a, b] [vI (msD u (i - 1))]) ?_ (fun K301 => ?_)
      · intro ν  N
        refine r_istore C dL_holds_301 (by decide) rfl ?_
        refine r_iload C dL_holds_303 rfl ?_
        refine r_if_eq (tgt := 387) C dL_holds_305 (by decide) (by omega) (fun c305 => absurd c305 (by omega)) (fun c305 => ?_)
        refine r_aload_n C dL_holds_308 rfl ?_
        refine r_iload C dL_holds_309 rfl ?_
        refine r_iconst C dL_holds_311 ?_
        refine r_runIr (fun aH aL aj a1 a2 a3 => run_V C hF.2.2.1 (kA_bin N (by omega) (by omega)) lm_X4_bin ml_L_23 im_X4_bin se_X4_bin (ca_q N) rfl (Nat.le_of_ble_eq_true rfl) dL_holds_312 rfl (Nat.le_of_ble_eq_true rfl) a1 a2 a3) (fun ν N => ?_)
        refine r_if_lt (tgt := 387) C dL_holds_315 (by decide) (by omega) (fun c315 => absurd c315 (by omega)) (fun c315 => ?_)
        refine r_aload_n C dL_holds_318 rfl ?_
        refine r_iload C dL_holds_319 rfl ?_
        refine r_iconst C dL_holds_321 ?_
        refine r_runIr (fun aH aL aj a1 a2 a3 => run_V C hF.2.2.1 (kA_bin N (by omega) (by omega)) lm_X4_bin ml_L_23 im_X4_bin se_X4_bin (ca_q N) rfl (Nat.le_of_ble_eq_true rfl) dL_holds_322 rfl (Nat.le_of_ble_eq_true rfl) a1 a2 a3) (fun ν N => ?_)
        refine r_aload_n C dL_holds_325 rfl ?_
        refine r_iload C dL_holds_326 rfl ?_
        refine r_iconst C dL_holds_328 ?_
        refine r_runIr (fun aH aL aj a1 a2 a3 => run_V C hF.2.2.1 (kA_bin N (by omega) (by omega)) lm_X4_bin ml_L_23 im_X4_bin se_X4_bin (ca_q N) rfl (Nat.le_of_ble_eq_true rfl) dL_holds_329 rfl (Nat.le_of_ble_eq_true rfl) a1 a2 a3) (fun ν N => ?_)
        refine r_iadd C dL_holds_332 ?_
        refine r_aload_n C dL_holds_333 rfl ?_
        refine r_iload C dL_holds_334 rfl ?_
        refine r_iconst C dL_holds_336 ?_
        refine r_runIr (fun aH aL aj a1 a2 a3 => run_V C hF.2.2.1 (kA_bin N (by omega) (by omega)) lm_X4_bin ml_L_23 im_X4_bin se_X4_bin (ca_q N) rfl (Nat.le_of_ble_eq_true rfl) dL_holds_337 rfl (Nat.le_of_ble_eq_true rfl) a1 a2 a3) (fun ν N => ?_)
        refine r_iadd C dL_holds_340 ?_
        refine r_aload_n C dL_holds_341 rfl ?_
        refine r_iload C dL_holds_342 rfl ?_
        refine r_iconst C dL_holds_344 ?_
        refine r_runIr (fun aH aL aj a1 a2 a3 => run_V C hF.2.2.1 (kA_bin N (by omega) (by omega)) lm_X4_bin ml_L_23 im_X4_bin se_X4_bin (ca_q N) rfl (Nat.le_of_ble_eq_true rfl) dL_holds_345 rfl (Nat.le_of_ble_eq_true rfl) a1 a2 a3) (fun ν N => ?_)
        refine r_icmp_ne (tgt := 387) C dL_holds_348 (by decide) (by omega) (by omega) (fun c348 => absurd c348 (by omega)) (fun c348 => ?_)
        refine r_iload C dL_holds_351 rfl ?_
        refine r_aload_n C dL_holds_353 rfl ?_
        refine r_iconst C dL_holds_354 ?_
        refine r_runIr (fun aH aL aj a1 a2 a3 => run_V C hF.2.2.1 (kA_setting N (by omega)) lm_X4_setting ml_L_26 im_X4_setting se_X4_setting (ca_q N) rfl (Nat.le_of_ble_eq_true rfl) dL_holds_355 rfl (Nat.le_of_ble_eq_true rfl) a1 a2 a3) (fun ν N => ?_)
        refine r_icmp_ge (tgt := 383) C dL_holds_358 (by decide) (by omega) (by omega) (fun c358 => ?_) (fun c358 => ?_)
        · have _ := c358
          refine r_iconst C dL_holds_383 ?_
          refine r_goto (tgt := 388) C dL_holds_384 (by decide) ?_
          refine r_istore C dL_holds_388 (by decide) rfl ?_
          refine r_iinc C dL_holds_390 rfl (by decide) rfl ?_
          refine r_goto (tgt := 245) C dL_holds_393 (by decide) ?_
          refine r_loc (K2 _ _ _ N) (by rw [← dnB_s u 1 h0, ← dnB_s u 2 h0, show i - 1 - 1 = i - 1 + -1 by omega]; first | done | rfl)
        · have _ := c358
          refine r_aload_n C dL_holds_361 rfl ?_
          refine r_runIr (fun aH aL aj a1 a2 a3 => run_V C hF.2.2.1 (kA_books N) lm_X4_books ml_L_68 im_X4_books se_X4_books (ca_q N) rfl (Nat.le_of_ble_eq_true rfl) dL_holds_362 rfl (Nat.le_of_ble_eq_true rfl) a1 a2 a3) (fun ν N => ?_)
          refine r_aload_n C dL_holds_365 rfl ?_
          refine r_iload C dL_holds_366 rfl ?_
          refine r_iconst C dL_holds_368 ?_
          refine r_runIr (fun aH aL aj a1 a2 a3 => run_V C hF.2.2.1 (kA_bin N (by omega) (by omega)) lm_X4_bin ml_L_23 im_X4_bin se_X4_bin (ca_q N) rfl (Nat.le_of_ble_eq_true rfl) dL_holds_369 rfl (Nat.le_of_ble_eq_true rfl) a1 a2 a3) (fun ν N => ?_)
          refine r_aload_n C dL_holds_372 rfl ?_
          refine r_iload C dL_holds_373 rfl ?_
          refine r_iconst C dL_holds_375 ?_
          refine r_runIr (fun aH aL aj a1 a2 a3 => run_V C hF.2.2.1 (kA_bin N (by omega) (by omega)) lm_X4_bin ml_L_23 im_X4_bin se_X4_bin (ca_q N) rfl (Nat.le_of_ble_eq_true rfl) dL_holds_376 rfl (Nat.le_of_ble_eq_true rfl) a1 a2 a3) (fun ν N => ?_)
          refine r_iadd C dL_holds_379 ?_
          refine r_icmp_gt (tgt := 387) C dL_holds_380 (by decide) (poT_r hv) (by omega) (fun c380 => absurd c380 (by omega)) (fun c380 => ?_)
          refine r_iconst C dL_holds_383 ?_
          refine r_goto (tgt := 388) C dL_holds_384 (by decide) ?_
          refine r_istore C dL_holds_388 (by decide) rfl ?_
          refine r_iinc C dL_holds_390 rfl (by decide) rfl ?_
          refine r_goto (tgt := 245) C dL_holds_393 (by decide) ?_
          refine r_loc (K2 _ _ _ N) (by rw [← dnB_s u 1 h0, ← dnB_s u 2 h0, show i - 1 - 1 = i - 1 + -1 by omega]; first | done | rfl)
      · skip
        refine r_iload C dL_holds_274 rfl ?_
        refine r_aload_n C dL_holds_276 rfl ?_
        refine r_iconst C dL_holds_277 ?_
        refine r_runIr (fun aH aL aj a1 a2 a3 => run_V C hF.2.2.1 (kA_setting N (by omega)) lm_X4_setting ml_L_26 im_X4_setting se_X4_setting (ca_q N) rfl (Nat.le_of_ble_eq_true rfl) dL_holds_278 rfl (Nat.le_of_ble_eq_true rfl) a1 a2 a3) (fun ν N => ?_)
        refine r_icmp_ge (tgt := 299) C dL_holds_281 (by decide) (by omega) (by omega) (fun c281 => ?_) (fun c281 => ?_)
        · skip
          refine r_iload C dL_holds_299 rfl ?_
          rw [msD_a (by omega)] at K301
          exact K301 _ N
        · skip
          refine r_aload_n C dL_holds_284 rfl ?_
          refine r_iload C dL_holds_285 rfl ?_
          refine r_iconst C dL_holds_287 ?_
          refine r_runIr (fun aH aL aj a1 a2 a3 => run_V C hF.2.2.1 (kA_bin N (by omega) (by omega)) lm_X4_bin ml_L_23 im_X4_bin se_X4_bin (ca_q N) rfl (Nat.le_of_ble_eq_true rfl) dL_holds_288 rfl (Nat.le_of_ble_eq_true rfl) a1 a2 a3) (fun ν N => ?_)
          refine r_if_ne (tgt := 299) C dL_holds_291 (by decide) (by omega) (fun c291 => ?_) (fun c291 => ?_)
          · skip
            refine r_iload C dL_holds_299 rfl ?_
            rw [msD_b (by omega) c291] at K301
            exact K301 _ N
          · skip
            refine r_iload C dL_holds_294 rfl ?_
            refine r_goto (tgt := 301) C dL_holds_296 (by decide) ?_
            rw [msD_c (by omega) c291] at K301
            exact K301 _ N
  · intro k h0 h1 K2 ν a b N
    have hk := hd_s hv h0 h1
    show RR X _ _ [vR q, vI (u 3), vI (smS u 3 k), vI (smS u 5 k), vI (smS u 4 k), vI (lsN u k), vI (0), vI (0), vI (-1), vI 1, vI k, a, b] []
    refine r_iload C dL_holds_45 rfl ?_
    refine r_iload_n C dL_holds_47 rfl ?_
    refine r_icmp_ge (tgt := 241) C dL_holds_48 (by decide) (by omega) (by omega) (fun c48 => absurd c48 (by omega)) (fun c48 => ?_)
    refine r_aload_n C dL_holds_51 rfl ?_
    refine r_iload C dL_holds_52 rfl ?_
    refine r_iconst C dL_holds_54 ?_
    refine r_runIr (fun aH aL aj a1 a2 a3 => run_V C hF.2.2.1 (kA_sheet N (by omega) (by omega)) lm_X4_sheet ml_L_19 im_X4_sheet se_X4_sheet (ca_q N) rfl (Nat.le_of_ble_eq_true rfl) dL_holds_55 rfl (Nat.le_of_ble_eq_true rfl) a1 a2 a3) (fun ν N => ?_)
    refine r_aload_n C dL_holds_58 rfl ?_
    refine r_iconst C dL_holds_59 ?_
    refine r_runIr (fun aH aL aj a1 a2 a3 => run_V C hF.2.2.1 (kA_setting N (by omega)) lm_X4_setting ml_L_26 im_X4_setting se_X4_setting (ca_q N) rfl (Nat.le_of_ble_eq_true rfl) dL_holds_60 rfl (Nat.le_of_ble_eq_true rfl) a1 a2 a3) (fun ν N => ?_)
    refine r_irem C dL_holds_63 (by omega) (by omega) ?_
    refine r_istore C dL_holds_64 (by decide) rfl ?_
    refine r_iload_n C dL_holds_66 rfl ?_
    refine r_aload_n C dL_holds_67 rfl ?_
    refine r_iload C dL_holds_68 rfl ?_
    refine r_iconst C dL_holds_70 ?_
    refine r_runIr (fun aH aL aj a1 a2 a3 => run_V C hF.2.2.1 (kA_sheet N (by omega) (by omega)) lm_X4_sheet ml_L_19 im_X4_sheet se_X4_sheet (ca_q N) rfl (Nat.le_of_ble_eq_true rfl) dL_holds_71 rfl (Nat.le_of_ble_eq_true rfl) a1 a2 a3) (fun ν N => ?_)
    refine r_iadd C dL_holds_74 ?_
    refine r_istore_n C dL_holds_75 (by decide) rfl ?_
    refine r_iload C dL_holds_76 rfl ?_
    refine r_aload_n C dL_holds_78 rfl ?_
    refine r_iload C dL_holds_79 rfl ?_
    refine r_iconst C dL_holds_81 ?_
    refine r_runIr (fun aH aL aj a1 a2 a3 => run_V C hF.2.2.1 (kA_sheet N (by omega) (by omega)) lm_X4_sheet ml_L_19 im_X4_sheet se_X4_sheet (ca_q N) rfl (Nat.le_of_ble_eq_true rfl) dL_holds_82 rfl (Nat.le_of_ble_eq_true rfl) a1 a2 a3) (fun ν N => ?_)
    refine r_iadd C dL_holds_85 ?_
    refine r_istore C dL_holds_86 (by decide) rfl ?_
    refine r_iload_n C dL_holds_88 rfl ?_
    refine r_aload_n C dL_holds_89 rfl ?_
    refine r_iload C dL_holds_90 rfl ?_
    refine r_iconst C dL_holds_92 ?_
    refine r_runIr (fun aH aL aj a1 a2 a3 => run_V C hF.2.2.1 (kA_sheet N (by omega) (by omega)) lm_X4_sheet ml_L_19 im_X4_sheet se_X4_sheet (ca_q N) rfl (Nat.le_of_ble_eq_true rfl) dL_holds_93 rfl (Nat.le_of_ble_eq_true rfl) a1 a2 a3) (fun ν N => ?_)
    refine r_iadd C dL_holds_96 ?_
    refine r_istore_n C dL_holds_97 (by decide) rfl ?_
    refine jn (A := ∀ (ν : Mem), CA (xV X) K q μ0 u z sv st ν → RR X ν 120 [vR q, vI (u 3), vI (smS u 3 k + ofS u k 3), vI (smS u 5 k + ofS u k 5), vI (smS u 4 k + ofS u k 4), vI (lsN u k), vI (0), vI (0), vI (-1), vI 1, vI k, vI (ofS u k 0 % u 1), b] [vI (b01 (0 < k ∧ ofS u k 4 = 0)), vI (lsN u k)]) ?_ (fun K120 => ?_)
    · intro ν  N
      refine r_iadd C dL_holds_120 ?_
      refine r_istore C dL_holds_121 (by decide) rfl ?_
      refine jn (A := ∀ (ν : Mem), CA (xV X) K q μ0 u z sv st ν → RR X ν 149 [vR q, vI (u 3), vI (smS u 3 k + ofS u k 3), vI (smS u 5 k + ofS u k 5), vI (smS u 4 k + ofS u k 4), vI (lsN u k + b01 (0 < k ∧ ofS u k 4 = 0)), vI (0), vI (0), vI (-1), vI 1, vI k, vI (ofS u k 0 % u 1), b] [vI (due (u 1) (vN u) (vD u) k)]) ?_ (fun K149 => ?_)
      · intro ν  N
        refine r_istore C dL_holds_149 (by decide) rfl ?_
        rcases hd_k hv h0 h1 with ⟨m1, m2, m3, m4⟩ | ⟨m1, m2, m3, m4⟩ | ⟨m1, m2, m3, m4⟩ | ⟨m1, m2, m3, m4⟩
        · skip
          refine r_iload C dL_holds_151 rfl ?_
          refine r_if_eq (tgt := 232) C dL_holds_153 (by decide) (by omega) (fun c153 => absurd c153 (by omega)) (fun c153 => ?_)
          refine r_aload_n C dL_holds_156 rfl ?_
          refine r_iload C dL_holds_157 rfl ?_
          refine r_iconst C dL_holds_159 ?_
          refine r_runIr (fun aH aL aj a1 a2 a3 => run_V C hF.2.2.1 (kA_sheet N (by omega) (by omega)) lm_X4_sheet ml_L_19 im_X4_sheet se_X4_sheet (ca_q N) rfl (Nat.le_of_ble_eq_true rfl) dL_holds_160 rfl (Nat.le_of_ble_eq_true rfl) a1 a2 a3) (fun ν N => ?_)
          refine r_aload_n C dL_holds_163 rfl ?_
          refine r_iload C dL_holds_164 rfl ?_
          refine r_iconst C dL_holds_166 ?_
          refine r_runIr (fun aH aL aj a1 a2 a3 => run_V C hF.2.2.1 (kA_sheet N (by omega) (by omega)) lm_X4_sheet ml_L_19 im_X4_sheet se_X4_sheet (ca_q N) rfl (Nat.le_of_ble_eq_true rfl) dL_holds_167 rfl (Nat.le_of_ble_eq_true rfl) a1 a2 a3) (fun ν N => ?_)
          refine r_iconst C dL_holds_170 ?_
          refine r_icmp_ne (tgt := 187) C dL_holds_171 (by decide) (by omega) (by omega) (fun c171 => absurd c171 (by omega)) (fun c171 => ?_)
          refine r_aload_n C dL_holds_174 rfl ?_
          refine r_iconst C dL_holds_175 ?_
          refine r_runIr (fun aH aL aj a1 a2 a3 => run_V C hF.2.2.1 (kA_setting N (by omega)) lm_X4_setting ml_L_26 im_X4_setting se_X4_setting (ca_q N) rfl (Nat.le_of_ble_eq_true rfl) dL_holds_176 rfl (Nat.le_of_ble_eq_true rfl) a1 a2 a3) (fun ν N => ?_)
          refine r_iconst C dL_holds_179 ?_
          refine r_isub C dL_holds_180 ?_
          refine r_iload C dL_holds_181 rfl ?_
          refine r_isub C dL_holds_183 ?_
          refine r_goto (tgt := 189) C dL_holds_184 (by decide) ?_
          refine r_icmp_ne (tgt := 232) C dL_holds_189 (by decide) (by omega) (by omega) (fun c189 => absurd c189 (by omega)) (fun c189 => ?_)
          refine r_aload_n C dL_holds_192 rfl ?_
          refine r_iload C dL_holds_193 rfl ?_
          refine r_iconst C dL_holds_195 ?_
          refine r_runIr (fun aH aL aj a1 a2 a3 => run_V C hF.2.2.1 (kA_sheet N (by omega) (by omega)) lm_X4_sheet ml_L_19 im_X4_sheet se_X4_sheet (ca_q N) rfl (Nat.le_of_ble_eq_true rfl) dL_holds_196 rfl (Nat.le_of_ble_eq_true rfl) a1 a2 a3) (fun ν N => ?_)
          refine r_iconst C dL_holds_199 ?_
          refine r_icmp_ne (tgt := 207) C dL_holds_200 (by decide) (by omega) (by omega) (fun c200 => absurd c200 (by omega)) (fun c200 => ?_)
          refine r_iconst C dL_holds_203 ?_
          refine r_goto (tgt := 208) C dL_holds_204 (by decide) ?_
          refine r_aload_n C dL_holds_208 rfl ?_
          refine r_iload C dL_holds_209 rfl ?_
          refine r_iconst C dL_holds_211 ?_
          refine r_runIr (fun aH aL aj a1 a2 a3 => run_V C hF.2.2.1 (kA_sheet N (by omega) (by omega)) lm_X4_sheet ml_L_19 im_X4_sheet se_X4_sheet (ca_q N) rfl (Nat.le_of_ble_eq_true rfl) dL_holds_212 rfl (Nat.le_of_ble_eq_true rfl) a1 a2 a3) (fun ν N => ?_)
          refine r_iload C dL_holds_215 rfl ?_
          refine r_icmp_eq (tgt := 224) C dL_holds_217 (by decide) (by omega) (by omega) (fun c217 => absurd c217 (by omega)) (fun c217 => ?_)
          refine r_iconst C dL_holds_220 ?_
          refine r_goto (tgt := 225) C dL_holds_221 (by decide) ?_
          refine r_icmp_ne (tgt := 232) C dL_holds_225 (by decide) (by omega) (by omega) (fun c225 => absurd c225 (by omega)) (fun c225 => ?_)
          refine r_iconst C dL_holds_228 ?_
          refine r_goto (tgt := 233) C dL_holds_229 (by decide) ?_
          refine r_istore C dL_holds_233 (by decide) rfl ?_
          refine r_iinc C dL_holds_235 rfl (by decide) rfl ?_
          refine r_goto (tgt := 45) C dL_holds_238 (by decide) ?_
          refine r_loc (K2 _ _ _ N) (by rw [smS_s _ _ h0, smS_s _ _ h0, smS_s _ _ h0, lsN_s _ h0]; first | done | rfl)
        · skip
          refine r_iload C dL_holds_151 rfl ?_
          refine r_if_eq (tgt := 232) C dL_holds_153 (by decide) (by omega) (fun c153 => absurd c153 (by omega)) (fun c153 => ?_)
          refine r_aload_n C dL_holds_156 rfl ?_
          refine r_iload C dL_holds_157 rfl ?_
          refine r_iconst C dL_holds_159 ?_
          refine r_runIr (fun aH aL aj a1 a2 a3 => run_V C hF.2.2.1 (kA_sheet N (by omega) (by omega)) lm_X4_sheet ml_L_19 im_X4_sheet se_X4_sheet (ca_q N) rfl (Nat.le_of_ble_eq_true rfl) dL_holds_160 rfl (Nat.le_of_ble_eq_true rfl) a1 a2 a3) (fun ν N => ?_)
          refine r_aload_n C dL_holds_163 rfl ?_
          refine r_iload C dL_holds_164 rfl ?_
          refine r_iconst C dL_holds_166 ?_
          refine r_runIr (fun aH aL aj a1 a2 a3 => run_V C hF.2.2.1 (kA_sheet N (by omega) (by omega)) lm_X4_sheet ml_L_19 im_X4_sheet se_X4_sheet (ca_q N) rfl (Nat.le_of_ble_eq_true rfl) dL_holds_167 rfl (Nat.le_of_ble_eq_true rfl) a1 a2 a3) (fun ν N => ?_)
          refine r_iconst C dL_holds_170 ?_
          refine r_icmp_ne (tgt := 187) C dL_holds_171 (by decide) (by omega) (by omega) (fun c171 => absurd c171 (by omega)) (fun c171 => ?_)
          refine r_aload_n C dL_holds_174 rfl ?_
          refine r_iconst C dL_holds_175 ?_
          refine r_runIr (fun aH aL aj a1 a2 a3 => run_V C hF.2.2.1 (kA_setting N (by omega)) lm_X4_setting ml_L_26 im_X4_setting se_X4_setting (ca_q N) rfl (Nat.le_of_ble_eq_true rfl) dL_holds_176 rfl (Nat.le_of_ble_eq_true rfl) a1 a2 a3) (fun ν N => ?_)
          refine r_iconst C dL_holds_179 ?_
          refine r_isub C dL_holds_180 ?_
          refine r_iload C dL_holds_181 rfl ?_
          refine r_isub C dL_holds_183 ?_
          refine r_goto (tgt := 189) C dL_holds_184 (by decide) ?_
          refine r_icmp_ne (tgt := 232) C dL_holds_189 (by decide) (by omega) (by omega) (fun c189 => absurd c189 (by omega)) (fun c189 => ?_)
          refine r_aload_n C dL_holds_192 rfl ?_
          refine r_iload C dL_holds_193 rfl ?_
          refine r_iconst C dL_holds_195 ?_
          refine r_runIr (fun aH aL aj a1 a2 a3 => run_V C hF.2.2.1 (kA_sheet N (by omega) (by omega)) lm_X4_sheet ml_L_19 im_X4_sheet se_X4_sheet (ca_q N) rfl (Nat.le_of_ble_eq_true rfl) dL_holds_196 rfl (Nat.le_of_ble_eq_true rfl) a1 a2 a3) (fun ν N => ?_)
          refine r_iconst C dL_holds_199 ?_
          refine r_icmp_ne (tgt := 207) C dL_holds_200 (by decide) (by omega) (by omega) (fun c200 => ?_) (fun c200 => absurd c200 (by omega))
          refine r_iconst C dL_holds_207 ?_
          refine r_aload_n C dL_holds_208 rfl ?_
          refine r_iload C dL_holds_209 rfl ?_
          refine r_iconst C dL_holds_211 ?_
          refine r_runIr (fun aH aL aj a1 a2 a3 => run_V C hF.2.2.1 (kA_sheet N (by omega) (by omega)) lm_X4_sheet ml_L_19 im_X4_sheet se_X4_sheet (ca_q N) rfl (Nat.le_of_ble_eq_true rfl) dL_holds_212 rfl (Nat.le_of_ble_eq_true rfl) a1 a2 a3) (fun ν N => ?_)
          refine r_iload C dL_holds_215 rfl ?_
          refine r_icmp_eq (tgt := 224) C dL_holds_217 (by decide) (by omega) (by omega) (fun c217 => ?_) (fun c217 => absurd c217 (by omega))
          refine r_iconst C dL_holds_224 ?_
          refine r_icmp_ne (tgt := 232) C dL_holds_225 (by decide) (by omega) (by omega) (fun c225 => absurd c225 (by omega)) (fun c225 => ?_)
          refine r_iconst C dL_holds_228 ?_
          refine r_goto (tgt := 233) C dL_holds_229 (by decide) ?_
          refine r_istore C dL_holds_233 (by decide) rfl ?_
          refine r_iinc C dL_holds_235 rfl (by decide) rfl ?_
          refine r_goto (tgt := 45) C dL_holds_238 (by decide) ?_
          refine r_loc (K2 _ _ _ N) (by rw [smS_s _ _ h0, smS_s _ _ h0, smS_s _ _ h0, lsN_s _ h0]; first | done | rfl)
        · skip
          refine r_iload C dL_holds_151 rfl ?_
          refine r_if_eq (tgt := 232) C dL_holds_153 (by decide) (by omega) (fun c153 => absurd c153 (by omega)) (fun c153 => ?_)
          refine r_aload_n C dL_holds_156 rfl ?_
          refine r_iload C dL_holds_157 rfl ?_
          refine r_iconst C dL_holds_159 ?_
          refine r_runIr (fun aH aL aj a1 a2 a3 => run_V C hF.2.2.1 (kA_sheet N (by omega) (by omega)) lm_X4_sheet ml_L_19 im_X4_sheet se_X4_sheet (ca_q N) rfl (Nat.le_of_ble_eq_true rfl) dL_holds_160 rfl (Nat.le_of_ble_eq_true rfl) a1 a2 a3) (fun ν N => ?_)
          refine r_aload_n C dL_holds_163 rfl ?_
          refine r_iload C dL_holds_164 rfl ?_
          refine r_iconst C dL_holds_166 ?_
          refine r_runIr (fun aH aL aj a1 a2 a3 => run_V C hF.2.2.1 (kA_sheet N (by omega) (by omega)) lm_X4_sheet ml_L_19 im_X4_sheet se_X4_sheet (ca_q N) rfl (Nat.le_of_ble_eq_true rfl) dL_holds_167 rfl (Nat.le_of_ble_eq_true rfl) a1 a2 a3) (fun ν N => ?_)
          refine r_iconst C dL_holds_170 ?_
          refine r_icmp_ne (tgt := 187) C dL_holds_171 (by decide) (by omega) (by omega) (fun c171 => ?_) (fun c171 => absurd c171 (by omega))
          refine r_iload C dL_holds_187 rfl ?_
          refine r_icmp_ne (tgt := 232) C dL_holds_189 (by decide) (by omega) (by omega) (fun c189 => absurd c189 (by omega)) (fun c189 => ?_)
          refine r_aload_n C dL_holds_192 rfl ?_
          refine r_iload C dL_holds_193 rfl ?_
          refine r_iconst C dL_holds_195 ?_
          refine r_runIr (fun aH aL aj a1 a2 a3 => run_V C hF.2.2.1 (kA_sheet N (by omega) (by omega)) lm_X4_sheet ml_L_19 im_X4_sheet se_X4_sheet (ca_q N) rfl (Nat.le_of_ble_eq_true rfl) dL_holds_196 rfl (Nat.le_of_ble_eq_true rfl) a1 a2 a3) (fun ν N => ?_)
          refine r_iconst C dL_holds_199 ?_
          refine r_icmp_ne (tgt := 207) C dL_holds_200 (by decide) (by omega) (by omega) (fun c200 => absurd c200 (by omega)) (fun c200 => ?_)
          refine r_iconst C dL_holds_203 ?_
          refine r_goto (tgt := 208) C dL_holds_204 (by decide) ?_
          refine r_aload_n C dL_holds_208 rfl ?_
          refine r_iload C dL_holds_209 rfl ?_
          refine r_iconst C dL_holds_211 ?_
          refine r_runIr (fun aH aL aj a1 a2 a3 => run_V C hF.2.2.1 (kA_sheet N (by omega) (by omega)) lm_X4_sheet ml_L_19 im_X4_sheet se_X4_sheet (ca_q N) rfl (Nat.le_of_ble_eq_true rfl) dL_holds_212 rfl (Nat.le_of_ble_eq_true rfl) a1 a2 a3) (fun ν N => ?_)
          refine r_iload C dL_holds_215 rfl ?_
          refine r_icmp_eq (tgt := 224) C dL_holds_217 (by decide) (by omega) (by omega) (fun c217 => absurd c217 (by omega)) (fun c217 => ?_)
          refine r_iconst C dL_holds_220 ?_
          refine r_goto (tgt := 225) C dL_holds_221 (by decide) ?_
          refine r_icmp_ne (tgt := 232) C dL_holds_225 (by decide) (by omega) (by omega) (fun c225 => absurd c225 (by omega)) (fun c225 => ?_)
          refine r_iconst C dL_holds_228 ?_
          refine r_goto (tgt := 233) C dL_holds_229 (by decide) ?_
          refine r_istore C dL_holds_233 (by decide) rfl ?_
          refine r_iinc C dL_holds_235 rfl (by decide) rfl ?_
          refine r_goto (tgt := 45) C dL_holds_238 (by decide) ?_
          refine r_loc (K2 _ _ _ N) (by rw [smS_s _ _ h0, smS_s _ _ h0, smS_s _ _ h0, lsN_s _ h0]; first | done | rfl)
        · skip
          refine r_iload C dL_holds_151 rfl ?_
          refine r_if_eq (tgt := 232) C dL_holds_153 (by decide) (by omega) (fun c153 => absurd c153 (by omega)) (fun c153 => ?_)
          refine r_aload_n C dL_holds_156 rfl ?_
          refine r_iload C dL_holds_157 rfl ?_
          refine r_iconst C dL_holds_159 ?_
          refine r_runIr (fun aH aL aj a1 a2 a3 => run_V C hF.2.2.1 (kA_sheet N (by omega) (by omega)) lm_X4_sheet ml_L_19 im_X4_sheet se_X4_sheet (ca_q N) rfl (Nat.le_of_ble_eq_true rfl) dL_holds_160 rfl (Nat.le_of_ble_eq_true rfl) a1 a2 a3) (fun ν N => ?_)
          refine r_aload_n C dL_holds_163 rfl ?_
          refine r_iload C dL_holds_164 rfl ?_
          refine r_iconst C dL_holds_166 ?_
          refine r_runIr (fun aH aL aj a1 a2 a3 => run_V C hF.2.2.1 (kA_sheet N (by omega) (by omega)) lm_X4_sheet ml_L_19 im_X4_sheet se_X4_sheet (ca_q N) rfl (Nat.le_of_ble_eq_true rfl) dL_holds_167 rfl (Nat.le_of_ble_eq_true rfl) a1 a2 a3) (fun ν N => ?_)
          refine r_iconst C dL_holds_170 ?_
          refine r_icmp_ne (tgt := 187) C dL_holds_171 (by decide) (by omega) (by omega) (fun c171 => ?_) (fun c171 => absurd c171 (by omega))
          refine r_iload C dL_holds_187 rfl ?_
          refine r_icmp_ne (tgt := 232) C dL_holds_189 (by decide) (by omega) (by omega) (fun c189 => absurd c189 (by omega)) (fun c189 => ?_)
          refine r_aload_n C dL_holds_192 rfl ?_
          refine r_iload C dL_holds_193 rfl ?_
          refine r_iconst C dL_holds_195 ?_
          refine r_runIr (fun aH aL aj a1 a2 a3 => run_V C hF.2.2.1 (kA_sheet N (by omega) (by omega)) lm_X4_sheet ml_L_19 im_X4_sheet se_X4_sheet (ca_q N) rfl (Nat.le_of_ble_eq_true rfl) dL_holds_196 rfl (Nat.le_of_ble_eq_true rfl) a1 a2 a3) (fun ν N => ?_)
          refine r_iconst C dL_holds_199 ?_
          refine r_icmp_ne (tgt := 207) C dL_holds_200 (by decide) (by omega) (by omega) (fun c200 => ?_) (fun c200 => absurd c200 (by omega))
          refine r_iconst C dL_holds_207 ?_
          refine r_aload_n C dL_holds_208 rfl ?_
          refine r_iload C dL_holds_209 rfl ?_
          refine r_iconst C dL_holds_211 ?_
          refine r_runIr (fun aH aL aj a1 a2 a3 => run_V C hF.2.2.1 (kA_sheet N (by omega) (by omega)) lm_X4_sheet ml_L_19 im_X4_sheet se_X4_sheet (ca_q N) rfl (Nat.le_of_ble_eq_true rfl) dL_holds_212 rfl (Nat.le_of_ble_eq_true rfl) a1 a2 a3) (fun ν N => ?_)
          refine r_iload C dL_holds_215 rfl ?_
          refine r_icmp_eq (tgt := 224) C dL_holds_217 (by decide) (by omega) (by omega) (fun c217 => ?_) (fun c217 => absurd c217 (by omega))
          refine r_iconst C dL_holds_224 ?_
          refine r_icmp_ne (tgt := 232) C dL_holds_225 (by decide) (by omega) (by omega) (fun c225 => absurd c225 (by omega)) (fun c225 => ?_)
          refine r_iconst C dL_holds_228 ?_
          refine r_goto (tgt := 233) C dL_holds_229 (by decide) ?_
          refine r_istore C dL_holds_233 (by decide) rfl ?_
          refine r_iinc C dL_holds_235 rfl (by decide) rfl ?_
          refine r_goto (tgt := 45) C dL_holds_238 (by decide) ?_
          refine r_loc (K2 _ _ _ N) (by rw [smS_s _ _ h0, smS_s _ _ h0, smS_s _ _ h0, lsN_s _ h0]; first | done | rfl)
      · skip
        refine r_iload C dL_holds_123 rfl ?_
        refine r_if_ne (tgt := 132) C dL_holds_125 (by decide) (by omega) (fun c125 => ?_) (fun c125 => ?_)
        · have hd2 := hd_s hv (k := k - 1) (by omega) (by omega)
          refine r_aload_n C dL_holds_132 rfl ?_
          refine r_iload C dL_holds_133 rfl ?_
          refine r_iconst C dL_holds_135 ?_
          refine r_isub C dL_holds_136 ?_
          refine r_iconst C dL_holds_137 ?_
          refine r_runIr (fun aH aL aj a1 a2 a3 => run_V C hF.2.2.1 (kA_sheet N (by omega) (by omega)) lm_X4_sheet ml_L_19 im_X4_sheet se_X4_sheet (ca_q N) rfl (Nat.le_of_ble_eq_true rfl) dL_holds_138 rfl (Nat.le_of_ble_eq_true rfl) a1 a2 a3) (fun ν N => ?_)
          refine r_iconst C dL_holds_141 ?_
          refine r_iadd C dL_holds_142 ?_
          refine r_aload_n C dL_holds_143 rfl ?_
          refine r_iconst C dL_holds_144 ?_
          refine r_runIr (fun aH aL aj a1 a2 a3 => run_V C hF.2.2.1 (kA_setting N (by omega)) lm_X4_setting ml_L_26 im_X4_setting se_X4_setting (ca_q N) rfl (Nat.le_of_ble_eq_true rfl) dL_holds_145 rfl (Nat.le_of_ble_eq_true rfl) a1 a2 a3) (fun ν N => ?_)
          refine r_irem C dL_holds_148 (by omega) (by omega) ?_
          rw [show due (u 1) (vN u) (vD u) k = (ofS u (k - 1) 2 + 1) % u 1 from if_neg c125] at K149
          exact K149 _ N
        · skip
          refine r_iconst C dL_holds_128 ?_
          refine r_goto (tgt := 149) C dL_holds_129 (by decide) ?_
          rw [show due (u 1) (vN u) (vD u) k = 0 from if_pos c125] at K149
          exact K149 _ N
    · skip
      refine r_iload C dL_holds_98 rfl ?_
      refine r_iload C dL_holds_100 rfl ?_
      refine r_if_le (tgt := 119) C dL_holds_102 (by decide) (by omega) (fun c102 => ?_) (fun c102 => ?_)
      · skip
        refine r_iconst C dL_holds_119 ?_
        rw [show b01 (0 < k ∧ ofS u k 4 = 0) = 0 from b01_f (by omega)] at K120
        exact K120 _ N
      · skip
        refine r_aload_n C dL_holds_105 rfl ?_
        refine r_iload C dL_holds_106 rfl ?_
        refine r_iconst C dL_holds_108 ?_
        refine r_runIr (fun aH aL aj a1 a2 a3 => run_V C hF.2.2.1 (kA_sheet N (by omega) (by omega)) lm_X4_sheet ml_L_19 im_X4_sheet se_X4_sheet (ca_q N) rfl (Nat.le_of_ble_eq_true rfl) dL_holds_109 rfl (Nat.le_of_ble_eq_true rfl) a1 a2 a3) (fun ν N => ?_)
        refine r_if_ne (tgt := 119) C dL_holds_112 (by decide) (by omega) (fun c112 => ?_) (fun c112 => ?_)
        · skip
          refine r_iconst C dL_holds_119 ?_
          rw [show b01 (0 < k ∧ ofS u k 4 = 0) = 0 from b01_f (by omega)] at K120
          exact K120 _ N
        · skip
          refine r_iconst C dL_holds_115 ?_
          refine r_goto (tgt := 120) C dL_holds_116 (by decide) ?_
          rw [show b01 (0 < k ∧ ofS u k 4 = 0) = 1 from b01_t (by omega)] at K120
          exact K120 _ N
