set_option maxRecDepth 20000 in
set_option maxHeartbeats 2000000 in
theorem kX5_sign {V : Wo} {μ : Mem} {q : Nat} (hM : MoS V q) (hB : BuW μ q) (ha : 0 ≤ μ q 6) (ha2 : μ q 6 ≤ 200) : Con V 0 yX5_sign cX5_sign 1 (some .int) [vR q] (μ) (QI V (sg (μ (q + 2)) (μ q 5) (μ q 6)) (μ)) := by
  refine con_of (ls0 := [vR q]) (by decide +kernel) rfl (Nat.le_of_ble_eq_true rfl) (Nat.le_of_ble_eq_true rfl) (fun X hV C hF => ?_)
  subst hV
  have C : Ok X RX5 cX5_sign 1 0 := C
  obtain ⟨M0, M1, Ms, Mt, Mr, Md, Ml⟩ := id hM
  obtain ⟨B0, B1⟩ := id hB
  refine r_aload_n C dX5_sign_0 rfl ?_
  refine gf_X5_128 C M1 dX5_sign_1 ?_
  refine r_aload_n C dX5_sign_4 rfl ?_
  refine gf_X5_125 C M1 dX5_sign_5 ?_
  refine r_icmp_ge (tgt := 23) C dX5_sign_8 (by decide) (by omega) (by omega) (fun c8 => ?_) (fun c8 => ?_)
  · skip
    refine r_iconst C dX5_sign_23 ?_
    exact r_iret C hF dX5_sign_24 (by unfold sg; rw [if_neg (by omega)]) rfl
  · skip
    refine r_aload_n C dX5_sign_11 rfl ?_
    refine gf_X5_13 C M1 dX5_sign_12 ?_
    refine r_aload_n C dX5_sign_15 rfl ?_
    refine gf_X5_128 C M1 dX5_sign_16 ?_
    refine r_iald C Mt (by omega) (by omega) dX5_sign_19 ?_
    refine r_goto (tgt := 24) C dX5_sign_20 (by decide) ?_
    exact r_iret C hF dX5_sign_24 (by unfold sg; rw [if_pos (by omega)]) rfl
set_option maxRecDepth 20000 in
set_option maxHeartbeats 2000000 in
theorem kX5_takes {V : Wo} {μ : Mem} {q : Nat} (hM : MoS V q) (hB : BuW μ q) (ha : 0 ≤ μ q 6) (ha2 : μ q 6 ≤ 200) {c : Int} (hc : inR c) : Con V 1 yX5_takes cX5_takes 3 (some .boolean) [vR q, vI c] (μ) (QI V (b01 (sg (μ (q + 2)) (μ q 5) (μ q 6) = c)) (wr μ q (s1 (μ q) 6 ((μ q 6) + b01 (sg (μ (q + 2)) (μ q 5) (μ q 6) = c))))) := by
  refine con_of (ls0 := [vR q, vI c, vU]) (by decide +kernel) rfl (Nat.le_of_ble_eq_true rfl) (Nat.le_of_ble_eq_true rfl) (fun X hV C hF => ?_)
  subst hV
  have C : Ok X RX5 cX5_takes 3 1 := C
  obtain ⟨M0, M1, Ms, Mt, Mr, Md, Ml⟩ := id hM
  obtain ⟨B0, B1⟩ := id hB
  have hs0 := sg_r (n := (μ q 5)) B1 ha
  refine r_aload_n C dX5_takes_0 rfl ?_
  refine r_runI (fun aH aL aj a1 a2 a3 => run_V C hF.2.2.1 (kX5_sign hM hB ha ha2) lm_X5_sign ml_X5_131 im_X5_sign se_X5_sign M1 rfl (Nat.le_of_ble_eq_true rfl) dX5_takes_1 rfl (Nat.le_of_ble_eq_true rfl) a1 a2 a3) ?_
  refine r_iload_n C dX5_takes_4 rfl ?_
  refine r_icmp_ne (tgt := 12) C dX5_takes_5 (by decide) (by omega) (by omega) (fun c5 => ?_) (fun c5 => ?_)
  · skip
    refine r_iconst C dX5_takes_12 ?_
    refine r_istore_n C dX5_takes_13 (by decide) rfl ?_
    refine r_aload_n C dX5_takes_14 rfl ?_
    refine r_dup C dX5_takes_15 rfl ?_
    refine gf_X5_128 C M1 dX5_takes_16 ?_
    refine r_iload_n C dX5_takes_19 rfl ?_
    refine r_if_eq (tgt := 27) C dX5_takes_20 (by decide) (by omega) (fun c20 => ?_) (fun c20 => absurd c20 (by omega))
    refine r_iconst C dX5_takes_27 ?_
    refine r_iadd C dX5_takes_28 ?_
    refine pf_X5_128 C M1 M0 dX5_takes_29 ?_
    refine r_iload_n C dX5_takes_32 rfl ?_
    exact r_zret C hF dX5_takes_33 (by omega) (by rw [b01_f c5]) (by rw [b01_f c5])
  · skip
    refine r_iconst C dX5_takes_8 ?_
    refine r_goto (tgt := 13) C dX5_takes_9 (by decide) ?_
    refine r_istore_n C dX5_takes_13 (by decide) rfl ?_
    refine r_aload_n C dX5_takes_14 rfl ?_
    refine r_dup C dX5_takes_15 rfl ?_
    refine gf_X5_128 C M1 dX5_takes_16 ?_
    refine r_iload_n C dX5_takes_19 rfl ?_
    refine r_if_eq (tgt := 27) C dX5_takes_20 (by decide) (by omega) (fun c20 => absurd c20 (by omega)) (fun c20 => ?_)
    refine r_iconst C dX5_takes_23 ?_
    refine r_goto (tgt := 28) C dX5_takes_24 (by decide) ?_
    refine r_iadd C dX5_takes_28 ?_
    refine pf_X5_128 C M1 M0 dX5_takes_29 ?_
    refine r_iload_n C dX5_takes_32 rfl ?_
    exact r_zret C hF dX5_takes_33 (by omega) (by rw [b01_t c5]) (by rw [b01_t c5])
set_option maxRecDepth 20000 in
set_option maxHeartbeats 2000000 in
theorem kX5_number {V : Wo} {μ : Mem} {q : Nat} (hM : MoS V q) (hB : BuW μ q) (ha : 0 ≤ μ q 6) (ha2 : μ q 6 ≤ 190) {m : Int} (hm : 10 ≤ m) (hm2 : m ≤ 19) : Con V 1 yX5_number cX5_number 3 (some .int) [vR q, vI m] (μ) (QI V (nbv (μ (q + 2)) (μ q 5) m (μ q 6)) (wr μ q (s1 (μ q) 6 (nbp (μ (q + 2)) (μ q 5) m (μ q 6))))) := by
  refine con_of (ls0 := [vR q, vI m, vU]) (by decide +kernel) rfl (Nat.le_of_ble_eq_true rfl) (Nat.le_of_ble_eq_true rfl) (fun X hV C hF => ?_)
  subst hV
  have C : Ok X RX5 cX5_number 3 1 := C
  obtain ⟨M0, M1, Ms, Mt, Mr, Md, Ml⟩ := id hM
  obtain ⟨B0, B1⟩ := id hB
  have hs0 := sg_r (n := (μ q 5)) B1 ha
  have h2 := sg_r (n := (μ q 5)) B1 (show 0 ≤ (μ q 6) + 1 by omega)
  have hB1 : BuW (wr μ q (s1 (μ q) 6 ((μ q 6) + 1))) q := by
    unfold BuW
    rw [wr_s, s1_n _ _ (by omega), wr_n _ _ (by omega)]
    exact hB
  have e2 : sg ((wr μ q (s1 (μ q) 6 ((μ q 6) + 1))) (q + 2)) ((wr μ q (s1 (μ q) 6 ((μ q 6) + 1))) q 5) ((wr μ q (s1 (μ q) 6 ((μ q 6) + 1))) q 6) = sg (μ (q + 2)) (μ q 5) ((μ q 6) + 1) := by rw [wr_s, s1_s, s1_n _ _ (by omega), wr_n _ _ (by omega)]
  by_cases hd : dgt (sg (μ (q + 2)) (μ q 5) (μ q 6))
  · have hd1 := hd.1
    have hd2 := hd.2
    refine r_aload_n C dX5_number_0 rfl ?_
    refine r_runI (fun aH aL aj a1 a2 a3 => run_V C hF.2.2.1 (kX5_sign hM hB ha (by omega)) lm_X5_sign ml_X5_131 im_X5_sign se_X5_sign M1 rfl (Nat.le_of_ble_eq_true rfl) dX5_number_1 rfl (Nat.le_of_ble_eq_true rfl) a1 a2 a3) ?_
    refine r_bipush C dX5_number_4 rfl ?_
    refine r_bipush C dX5_number_6 rfl ?_
    refine r_runI (fun aH aL aj a1 a2 a3 => run_S C hF.2.2.1 (kX5_in (v := sg (μ (q + 2)) (μ q 5) (μ q 6)) (l := 48) (u := 57) (by omega) (by omega) (by omega)) lm_X5_in ml_X5_29 sm_X5_in (Nat.le_of_ble_eq_true rfl) dX5_number_8 rfl (Nat.le_of_ble_eq_true rfl) a1 a2 a3) ?_
    rw [b01_t hd]
    refine r_if_eq (tgt := 24) C dX5_number_11 (by decide) (by omega) (fun c11 => absurd c11 (by omega)) (fun c11 => ?_)
    refine r_aload_n C dX5_number_14 rfl ?_
    refine r_runI (fun aH aL aj a1 a2 a3 => run_V C hF.2.2.1 (kX5_sign hM hB ha (by omega)) lm_X5_sign ml_X5_131 im_X5_sign se_X5_sign M1 rfl (Nat.le_of_ble_eq_true rfl) dX5_number_15 rfl (Nat.le_of_ble_eq_true rfl) a1 a2 a3) ?_
    refine r_bipush C dX5_number_18 rfl ?_
    refine r_isub C dX5_number_20 ?_
    refine r_goto (tgt := 25) C dX5_number_21 (by decide) ?_
    refine r_istore_n C dX5_number_25 (by decide) rfl ?_
    refine r_aload_n C dX5_number_26 rfl ?_
    refine r_dup C dX5_number_27 rfl ?_
    refine gf_X5_128 C M1 dX5_number_28 ?_
    refine r_iload_n C dX5_number_31 rfl ?_
    refine r_iconst C dX5_number_32 ?_
    refine r_icmp_ne (tgt := 40) C dX5_number_33 (by decide) (by omega) (by omega) (fun c33 => ?_) (fun c33 => absurd c33 (by omega))
    refine r_iconst C dX5_number_40 ?_
    refine r_iadd C dX5_number_41 ?_
    refine pf_X5_128 C M1 M0 dX5_number_42 ?_
    refine r_iload_n C dX5_number_45 rfl ?_
    refine r_iconst C dX5_number_46 ?_
    refine r_icmp_ne (tgt := 90) C dX5_number_47 (by decide) (by omega) (by omega) (fun c47 => ?_) (fun c47 => ?_)
    · skip
      refine r_iload_n C dX5_number_90 rfl ?_
      exact r_iret C hF dX5_number_91 (by
            unfold nbv
            rw [if_pos hd, if_neg (fun z => by have := z.1; omega)]) (by
            unfold nbp
            rw [if_pos hd, if_neg (fun z => by have := z.1; omega)])
    · have c49 : sg (μ (q + 2)) (μ q 5) (μ q 6) = 49 := by omega
      by_cases ht : 48 ≤ sg (μ (q + 2)) (μ q 5) ((μ q 6) + 1) ∧ sg (μ (q + 2)) (μ q 5) ((μ q 6) + 1) ≤ 48 + m - 10
      · skip
        refine r_aload_n C dX5_number_50 rfl ?_
        refine r_runI (fun aH aL aj a1 a2 a3 => run_V C hF.2.2.1 ((kX5_sign (μ := (wr μ q (s1 (μ q) 6 ((μ q 6) + 1)))) hM hB1 (by rw [wr_s, s1_s]; omega) (by rw [wr_s, s1_s]; omega))) lm_X5_sign ml_X5_131 im_X5_sign se_X5_sign M1 rfl (Nat.le_of_ble_eq_true rfl) dX5_number_51 rfl (Nat.le_of_ble_eq_true rfl) a1 a2 a3) ?_
        rw [e2]
        refine r_bipush C dX5_number_54 rfl ?_
        refine r_bipush C dX5_number_56 rfl ?_
        refine r_iload_n C dX5_number_58 rfl ?_
        refine r_iadd C dX5_number_59 ?_
        refine r_bipush C dX5_number_60 rfl ?_
        refine r_isub C dX5_number_62 ?_
        refine r_runI (fun aH aL aj a1 a2 a3 => run_S C hF.2.2.1 (kX5_in (v := sg (μ (q + 2)) (μ q 5) ((μ q 6) + 1)) (l := 48) (u := 48 + m - 10) (by omega) (by omega) (by omega)) lm_X5_in ml_X5_29 sm_X5_in (Nat.le_of_ble_eq_true rfl) dX5_number_63 rfl (Nat.le_of_ble_eq_true rfl) a1 a2 a3) ?_
        rw [b01_t ht]
        refine r_if_eq (tgt := 90) C dX5_number_66 (by decide) (by omega) (fun c66 => absurd c66 (by omega)) (fun c66 => ?_)
        refine r_bipush C dX5_number_69 rfl ?_
        refine r_aload_n C dX5_number_71 rfl ?_
        refine r_runI (fun aH aL aj a1 a2 a3 => run_V C hF.2.2.1 ((kX5_sign (μ := (wr μ q (s1 (μ q) 6 ((μ q 6) + 1)))) hM hB1 (by rw [wr_s, s1_s]; omega) (by rw [wr_s, s1_s]; omega))) lm_X5_sign ml_X5_131 im_X5_sign se_X5_sign M1 rfl (Nat.le_of_ble_eq_true rfl) dX5_number_72 rfl (Nat.le_of_ble_eq_true rfl) a1 a2 a3) ?_
        rw [e2]
        refine r_iadd C dX5_number_75 ?_
        refine r_bipush C dX5_number_76 rfl ?_
        refine r_isub C dX5_number_78 ?_
        refine r_istore_n C dX5_number_79 (by decide) rfl ?_
        refine r_aload_n C dX5_number_80 rfl ?_
        refine r_dup C dX5_number_81 rfl ?_
        refine gf_X5_128 C M1 dX5_number_82 ?_
        refine r_iconst C dX5_number_85 ?_
        refine r_iadd C dX5_number_86 ?_
        refine pf_X5_128 C M1 M0 dX5_number_87 ?_
        refine r_iload_n C dX5_number_90 rfl ?_
        exact r_iret C hF dX5_number_91 (by
              unfold nbv
              rw [if_pos hd, if_pos ⟨c49, ht⟩]) (by
              unfold nbp
              rw [if_pos hd, if_pos ⟨c49, ht⟩]
              simp only [wr_s, wr_ww, s1_s, s1_ss]
              rw [show μ q 6 + 1 + 1 = μ q 6 + 2 by omega])
      · skip
        refine r_aload_n C dX5_number_50 rfl ?_
        refine r_runI (fun aH aL aj a1 a2 a3 => run_V C hF.2.2.1 ((kX5_sign (μ := (wr μ q (s1 (μ q) 6 ((μ q 6) + 1)))) hM hB1 (by rw [wr_s, s1_s]; omega) (by rw [wr_s, s1_s]; omega))) lm_X5_sign ml_X5_131 im_X5_sign se_X5_sign M1 rfl (Nat.le_of_ble_eq_true rfl) dX5_number_51 rfl (Nat.le_of_ble_eq_true rfl) a1 a2 a3) ?_
        rw [e2]
        refine r_bipush C dX5_number_54 rfl ?_
        refine r_bipush C dX5_number_56 rfl ?_
        refine r_iload_n C dX5_number_58 rfl ?_
        refine r_iadd C dX5_number_59 ?_
        refine r_bipush C dX5_number_60 rfl ?_
        refine r_isub C dX5_number_62 ?_
        refine r_runI (fun aH aL aj a1 a2 a3 => run_S C hF.2.2.1 (kX5_in (v := sg (μ (q + 2)) (μ q 5) ((μ q 6) + 1)) (l := 48) (u := 48 + m - 10) (by omega) (by omega) (by omega)) lm_X5_in ml_X5_29 sm_X5_in (Nat.le_of_ble_eq_true rfl) dX5_number_63 rfl (Nat.le_of_ble_eq_true rfl) a1 a2 a3) ?_
        rw [b01_f ht]
        refine r_if_eq (tgt := 90) C dX5_number_66 (by decide) (by omega) (fun c66 => ?_) (fun c66 => absurd c66 (by omega))
        refine r_iload_n C dX5_number_90 rfl ?_
        exact r_iret C hF dX5_number_91 (by
              unfold nbv
              rw [if_pos hd, if_neg (fun z => ht z.2)]) (by
              unfold nbp
              rw [if_pos hd, if_neg (fun z => ht z.2)])
  · skip
    refine r_aload_n C dX5_number_0 rfl ?_
    refine r_runI (fun aH aL aj a1 a2 a3 => run_V C hF.2.2.1 (kX5_sign hM hB ha (by omega)) lm_X5_sign ml_X5_131 im_X5_sign se_X5_sign M1 rfl (Nat.le_of_ble_eq_true rfl) dX5_number_1 rfl (Nat.le_of_ble_eq_true rfl) a1 a2 a3) ?_
    refine r_bipush C dX5_number_4 rfl ?_
    refine r_bipush C dX5_number_6 rfl ?_
    refine r_runI (fun aH aL aj a1 a2 a3 => run_S C hF.2.2.1 (kX5_in (v := sg (μ (q + 2)) (μ q 5) (μ q 6)) (l := 48) (u := 57) (by omega) (by omega) (by omega)) lm_X5_in ml_X5_29 sm_X5_in (Nat.le_of_ble_eq_true rfl) dX5_number_8 rfl (Nat.le_of_ble_eq_true rfl) a1 a2 a3) ?_
    rw [b01_f hd]
    refine r_if_eq (tgt := 24) C dX5_number_11 (by decide) (by omega) (fun c11 => ?_) (fun c11 => absurd c11 (by omega))
    refine r_iconst C dX5_number_24 ?_
    refine r_istore_n C dX5_number_25 (by decide) rfl ?_
    refine r_aload_n C dX5_number_26 rfl ?_
    refine r_dup C dX5_number_27 rfl ?_
    refine gf_X5_128 C M1 dX5_number_28 ?_
    refine r_iload_n C dX5_number_31 rfl ?_
    refine r_iconst C dX5_number_32 ?_
    refine r_icmp_ne (tgt := 40) C dX5_number_33 (by decide) (by omega) (by omega) (fun c33 => absurd c33 (by omega)) (fun c33 => ?_)
    refine r_iconst C dX5_number_36 ?_
    refine r_goto (tgt := 41) C dX5_number_37 (by decide) ?_
    refine r_iadd C dX5_number_41 ?_
    rw [Int.add_zero]
    refine pf_X5_128 C M1 M0 dX5_number_42 ?_
    refine r_iload_n C dX5_number_45 rfl ?_
    refine r_iconst C dX5_number_46 ?_
    refine r_icmp_ne (tgt := 90) C dX5_number_47 (by decide) (by omega) (by omega) (fun c47 => ?_) (fun c47 => absurd c47 (by omega))
    refine r_iload_n C dX5_number_90 rfl ?_
    exact r_iret C hF dX5_number_91 (by
          unfold nbv
          rw [if_neg hd]) (by
          unfold nbp
          rw [if_neg hd])
