set_option maxRecDepth 20000 in
set_option maxHeartbeats 2000000 in
theorem kX5_readsPart {V : Wo} {μ : Mem} {q : Nat} (hM : MoS V q) (hB : BuW μ q) (ha : 0 ≤ μ q 6) (ha2 : μ q 6 ≤ μ q 5) : Con V 2 yX5_readsPart cX5_readsPart 1 (some .boolean) [vR q] (μ) (QIr V (b01 (rpk (μ (q + 2)) (μ q 5) (μ q 6))) ((fun ν => MU q μ ν ∧ ν q 6 = rpa (μ (q + 2)) (μ q 5) (μ q 6) ∧ ν q 7 = sg (μ (q + 2)) (μ q 5) (μ q 6) ∧ ((sg (μ (q + 2)) (μ q 5) (μ q 6) = 103 ∨ sg (μ (q + 2)) (μ q 5) (μ q 6) = 112 ∨ sg (μ (q + 2)) (μ q 5) (μ q 6) = 102 ∨ sg (μ (q + 2)) (μ q 5) (μ q 6) = 109) → rpk (μ (q + 2)) (μ q 5) (μ q 6) → ν q 8 = rpf (μ (q + 2)) (μ q 5) (μ q 6)) ∧ (sg (μ (q + 2)) (μ q 5) (μ q 6) = 109 → rpk (μ (q + 2)) (μ q 5) (μ q 6) → ν q 9 = rps (μ (q + 2)) (μ q 5) (μ q 6))))) := by
  refine con_of (ls0 := [vR q]) (by decide +kernel) rfl (Nat.le_of_ble_eq_true rfl) (Nat.le_of_ble_eq_true rfl) (fun X hV C hF => ?_)
  subst hV
  have C : Ok X RX5 cX5_readsPart 1 2 := C
  obtain ⟨M0, M1, Ms, Mt, Mr, Md, Ml⟩ := id hM
  obtain ⟨B0, B1⟩ := id hB
  have hs0 := sg_r (n := μ q 5) B1 ha
  have hv1 := nbv_r (b := (μ (q + 2))) (n := (μ q 5)) (m := 19) (a := (μ q 6) + 1) (by omega)
  have hv2 := nbv_r (b := (μ (q + 2))) (n := (μ q 5)) (m := 19) (a := nbp (μ (q + 2)) (μ q 5) 19 ((μ q 6) + 1) + 1) (by omega)
  have hin := sg_in (b := (μ (q + 2))) (n := (μ q 5)) (a := (μ q 6))
  have hp1 : (μ q 6) < (μ q 5) → nbp (μ (q + 2)) (μ q 5) 19 ((μ q 6) + 1) ≤ (μ q 5) ∧ (μ q 6) + 1 ≤ nbp (μ (q + 2)) (μ q 5) 19 ((μ q 6) + 1) := fun z => by have := (nbp_r (b := (μ (q + 2))) (n := (μ q 5)) (m := 19) (a := (μ q 6) + 1) (by omega)).1; omega
  have hL : sg (μ (q + 2)) (μ q 5) (μ q 6) = 98 ∨ sg (μ (q + 2)) (μ q 5) (μ q 6) = 103 ∨ sg (μ (q + 2)) (μ q 5) (μ q 6) = 112 ∨ sg (μ (q + 2)) (μ q 5) (μ q 6) = 102 ∨ sg (μ (q + 2)) (μ q 5) (μ q 6) = 109 ∨ (sg (μ (q + 2)) (μ q 5) (μ q 6) ≠ 98 ∧ sg (μ (q + 2)) (μ q 5) (μ q 6) ≠ 103 ∧ sg (μ (q + 2)) (μ q 5) (μ q 6) ≠ 112 ∧ sg (μ (q + 2)) (μ q 5) (μ q 6) ≠ 102 ∧ sg (μ (q + 2)) (μ q 5) (μ q 6) ≠ 109) := by omega
  rcases hL with h | h | h | h | h | h
  · skip
    refine r_aload_n C dX5_readsPart_0 rfl ?_
    refine r_aload_n C dX5_readsPart_1 rfl ?_
    refine r_runI (fun aH aL aj a1 a2 a3 => run_V C hF.2.2.1 (kX5_sign hM hB ha (by omega)) lm_X5_sign ml_X5_131 im_X5_sign se_X5_sign M1 rfl (Nat.le_of_ble_eq_true rfl) dX5_readsPart_2 rfl (Nat.le_of_ble_eq_true rfl) a1 a2 a3) ?_
    refine pf_X5_134 C M1 M0 dX5_readsPart_5 ?_
    refine r_aload_n C dX5_readsPart_8 rfl ?_
    refine r_bipush C dX5_readsPart_9 rfl ?_
    refine r_runI (fun aH aL aj a1 a2 a3 => run_V C hF.2.2.1 (tk1 (c := 98) hM hB (by simp (disch := omega) only [s1_n]) (by simp (disch := omega) only [s1_s, s1_n]; omega) (by omega) (by simp (disch := omega) only [s1_s, s1_n]; exact h)) lm_X5_takes ml_X5_137 im_X5_takes se_X5_takes M1 rfl (Nat.le_of_ble_eq_true rfl) dX5_readsPart_11 rfl (Nat.le_of_ble_eq_true rfl) a1 a2 a3) ?_
    refine r_if_eq (tgt := 19) C dX5_readsPart_14 (by decide) (by omega) (fun c14 => absurd c14 (by omega)) (fun c14 => ?_)
    refine r_iconst C dX5_readsPart_17 ?_
    exact r_zretr C hF dX5_readsPart_18 (by omega) (b01_t (Or.inl h)).symm ⟨MU_g (by simp (disch := omega) only [s1_n]) (by simp (disch := omega) only [s1_n]) (by simp (disch := omega) only [s1_n]) (by simp (disch := omega) only [s1_n]) (by simp (disch := omega) only [s1_n]), (by
          simp (disch := omega) only [wr_s, s1_s, s1_n]
          unfold rpa
          rw [if_pos h]), (by simp (disch := omega) only [wr_s, s1_s, s1_n]), (fun z => by omega), (fun z => by omega)⟩
  · skip
    refine r_aload_n C dX5_readsPart_0 rfl ?_
    refine r_aload_n C dX5_readsPart_1 rfl ?_
    refine r_runI (fun aH aL aj a1 a2 a3 => run_V C hF.2.2.1 (kX5_sign hM hB ha (by omega)) lm_X5_sign ml_X5_131 im_X5_sign se_X5_sign M1 rfl (Nat.le_of_ble_eq_true rfl) dX5_readsPart_2 rfl (Nat.le_of_ble_eq_true rfl) a1 a2 a3) ?_
    refine pf_X5_134 C M1 M0 dX5_readsPart_5 ?_
    refine r_aload_n C dX5_readsPart_8 rfl ?_
    refine r_bipush C dX5_readsPart_9 rfl ?_
    refine r_runI (fun aH aL aj a1 a2 a3 => run_V C hF.2.2.1 (tk0 (c := 98) hM hB (by simp (disch := omega) only [s1_n]) (by simp (disch := omega) only [s1_s, s1_n]; omega) (by omega) (by simp (disch := omega) only [s1_s, s1_n]; omega)) lm_X5_takes ml_X5_137 im_X5_takes se_X5_takes M1 rfl (Nat.le_of_ble_eq_true rfl) dX5_readsPart_11 rfl (Nat.le_of_ble_eq_true rfl) a1 a2 a3) ?_
    refine r_if_eq (tgt := 19) C dX5_readsPart_14 (by decide) (by omega) (fun c14 => ?_) (fun c14 => absurd c14 (by omega))
    refine r_aload_n C dX5_readsPart_19 rfl ?_
    refine r_bipush C dX5_readsPart_20 rfl ?_
    refine r_runI (fun aH aL aj a1 a2 a3 => run_V C hF.2.2.1 (tk1 (c := 103) hM hB (by simp (disch := omega) only [s1_n]) (by simp (disch := omega) only [s1_s, s1_n]; omega) (by omega) (by simp (disch := omega) only [s1_s, s1_n]; exact h)) lm_X5_takes ml_X5_137 im_X5_takes se_X5_takes M1 rfl (Nat.le_of_ble_eq_true rfl) dX5_readsPart_22 rfl (Nat.le_of_ble_eq_true rfl) a1 a2 a3) ?_
    refine r_if_eq (tgt := 52) C dX5_readsPart_25 (by decide) (by omega) (fun c25 => absurd c25 (by omega)) (fun c25 => ?_)
    refine r_aload_n C dX5_readsPart_28 rfl ?_
    refine r_aload_n C dX5_readsPart_29 rfl ?_
    refine r_bipush C dX5_readsPart_30 rfl ?_
    refine r_runI (fun aH aL aj a1 a2 a3 => run_V C hF.2.2.1 (ngg (m := 15) hM hB (by simp (disch := omega) only [s1_n]) (by simp (disch := omega) only [s1_s, s1_n]; omega) (by omega) (by omega)) lm_X5_number ml_X5_140 im_X5_number se_X5_number M1 rfl (Nat.le_of_ble_eq_true rfl) dX5_readsPart_32 rfl (Nat.le_of_ble_eq_true rfl) a1 a2 a3) ?_
    refine pf_X5_143 C M1 M0 dX5_readsPart_35 ?_
    refine r_aload_n C dX5_readsPart_38 rfl ?_
    refine gf_X5_143 C M1 dX5_readsPart_39 ?_
    refine r_iconst C dX5_readsPart_42 ?_
    simp (disch := omega) only [wr_ww, wr_s, s1_s, s1_n]
    refine r_icmp_eq (tgt := 50) C dX5_readsPart_43 (by decide) (by have := nbv_r (b := (μ (q + 2))) (n := (μ q 5)) (m := 15) (a := (μ q 6) + 1) (by omega); omega) (by omega) (fun c43 => ?_) (fun c43 => ?_)
    · skip
      refine r_iconst C dX5_readsPart_50 ?_
      exact r_zretr C hF dX5_readsPart_51 (by omega) (b01_f (fun z => by unfold rpk at z; omega)).symm ⟨MU_g (by simp (disch := omega) only [s1_n]) (by simp (disch := omega) only [s1_n]) (by simp (disch := omega) only [s1_n]) (by simp (disch := omega) only [s1_n]) (by simp (disch := omega) only [s1_n]), (by
            simp (disch := omega) only [wr_s, s1_s, s1_n]
            unfold rpa
            rw [if_neg (by omega), if_pos h]), (by simp (disch := omega) only [wr_s, s1_s, s1_n]), (fun _ z => by unfold rpk at z; omega), (fun z => by omega)⟩
    · skip
      refine r_iconst C dX5_readsPart_46 ?_
      refine r_goto (tgt := 51) C dX5_readsPart_47 (by decide) ?_
      exact r_zretr C hF dX5_readsPart_51 (by omega) (b01_t (Or.inr (Or.inl ⟨h, c43⟩))).symm ⟨MU_g (by simp (disch := omega) only [s1_n]) (by simp (disch := omega) only [s1_n]) (by simp (disch := omega) only [s1_n]) (by simp (disch := omega) only [s1_n]) (by simp (disch := omega) only [s1_n]), (by
            simp (disch := omega) only [wr_s, s1_s, s1_n]
            unfold rpa
            rw [if_neg (by omega), if_pos h]), (by simp (disch := omega) only [wr_s, s1_s, s1_n]), (fun _ _ => by
            simp (disch := omega) only [wr_s, s1_s, s1_n]
            unfold rpf
            rw [if_pos h]), (fun z => by omega)⟩
  · skip
    refine r_aload_n C dX5_readsPart_0 rfl ?_
    refine r_aload_n C dX5_readsPart_1 rfl ?_
    refine r_runI (fun aH aL aj a1 a2 a3 => run_V C hF.2.2.1 (kX5_sign hM hB ha (by omega)) lm_X5_sign ml_X5_131 im_X5_sign se_X5_sign M1 rfl (Nat.le_of_ble_eq_true rfl) dX5_readsPart_2 rfl (Nat.le_of_ble_eq_true rfl) a1 a2 a3) ?_
    refine pf_X5_134 C M1 M0 dX5_readsPart_5 ?_
    refine r_aload_n C dX5_readsPart_8 rfl ?_
    refine r_bipush C dX5_readsPart_9 rfl ?_
    refine r_runI (fun aH aL aj a1 a2 a3 => run_V C hF.2.2.1 (tk0 (c := 98) hM hB (by simp (disch := omega) only [s1_n]) (by simp (disch := omega) only [s1_s, s1_n]; omega) (by omega) (by simp (disch := omega) only [s1_s, s1_n]; omega)) lm_X5_takes ml_X5_137 im_X5_takes se_X5_takes M1 rfl (Nat.le_of_ble_eq_true rfl) dX5_readsPart_11 rfl (Nat.le_of_ble_eq_true rfl) a1 a2 a3) ?_
    refine r_if_eq (tgt := 19) C dX5_readsPart_14 (by decide) (by omega) (fun c14 => ?_) (fun c14 => absurd c14 (by omega))
    refine r_aload_n C dX5_readsPart_19 rfl ?_
    refine r_bipush C dX5_readsPart_20 rfl ?_
    refine r_runI (fun aH aL aj a1 a2 a3 => run_V C hF.2.2.1 (tk0 (c := 103) hM hB (by simp (disch := omega) only [s1_n]) (by simp (disch := omega) only [s1_s, s1_n]; omega) (by omega) (by simp (disch := omega) only [s1_s, s1_n]; omega)) lm_X5_takes ml_X5_137 im_X5_takes se_X5_takes M1 rfl (Nat.le_of_ble_eq_true rfl) dX5_readsPart_22 rfl (Nat.le_of_ble_eq_true rfl) a1 a2 a3) ?_
    refine r_if_eq (tgt := 52) C dX5_readsPart_25 (by decide) (by omega) (fun c25 => ?_) (fun c25 => absurd c25 (by omega))
    refine r_aload_n C dX5_readsPart_52 rfl ?_
    refine r_bipush C dX5_readsPart_53 rfl ?_
    refine r_runI (fun aH aL aj a1 a2 a3 => run_V C hF.2.2.1 (tk1 (c := 112) hM hB (by simp (disch := omega) only [s1_n]) (by simp (disch := omega) only [s1_s, s1_n]; omega) (by omega) (by simp (disch := omega) only [s1_s, s1_n]; exact h)) lm_X5_takes ml_X5_137 im_X5_takes se_X5_takes M1 rfl (Nat.le_of_ble_eq_true rfl) dX5_readsPart_55 rfl (Nat.le_of_ble_eq_true rfl) a1 a2 a3) ?_
    refine r_if_ne (tgt := 70) C dX5_readsPart_58 (by decide) (by omega) (fun c58 => ?_) (fun c58 => absurd c58 (by omega))
    refine r_aload_n C dX5_readsPart_70 rfl ?_
    refine r_aload_n C dX5_readsPart_71 rfl ?_
    refine r_bipush C dX5_readsPart_72 rfl ?_
    refine r_runI (fun aH aL aj a1 a2 a3 => run_V C hF.2.2.1 (ngg (m := 19) hM hB (by simp (disch := omega) only [s1_n]) (by simp (disch := omega) only [s1_s, s1_n]; omega) (by omega) (by omega)) lm_X5_number ml_X5_140 im_X5_number se_X5_number M1 rfl (Nat.le_of_ble_eq_true rfl) dX5_readsPart_74 rfl (Nat.le_of_ble_eq_true rfl) a1 a2 a3) ?_
    refine pf_X5_143 C M1 M0 dX5_readsPart_77 ?_
    refine r_aload_n C dX5_readsPart_80 rfl ?_
    refine gf_X5_143 C M1 dX5_readsPart_81 ?_
    refine r_iconst C dX5_readsPart_84 ?_
    simp (disch := omega) only [wr_ww, wr_s, s1_s, s1_n]
    refine r_icmp_eq (tgt := 92) C dX5_readsPart_85 (by decide) (by have := nbv_r (b := (μ (q + 2))) (n := (μ q 5)) (m := 19) (a := (μ q 6) + 1) (by omega); omega) (by omega) (fun c85 => ?_) (fun c85 => ?_)
    · skip
      refine r_iconst C dX5_readsPart_92 ?_
      exact r_zretr C hF dX5_readsPart_93 (by omega) (b01_f (fun z => by unfold rpk at z; omega)).symm ⟨MU_g (by simp (disch := omega) only [s1_n]) (by simp (disch := omega) only [s1_n]) (by simp (disch := omega) only [s1_n]) (by simp (disch := omega) only [s1_n]) (by simp (disch := omega) only [s1_n]), (by
            simp (disch := omega) only [wr_s, s1_s, s1_n]
            unfold rpa
            rw [if_neg (by omega), if_neg (by omega), if_pos (by omega)]), (by simp (disch := omega) only [wr_s, s1_s, s1_n]), (fun _ z => by unfold rpk at z; omega), (fun z => by omega)⟩
    · skip
      refine r_iconst C dX5_readsPart_88 ?_
      refine r_goto (tgt := 93) C dX5_readsPart_89 (by decide) ?_
      exact r_zretr C hF dX5_readsPart_93 (by omega) (b01_t (Or.inr (Or.inr (Or.inl ⟨by omega, c85⟩)))).symm ⟨MU_g (by simp (disch := omega) only [s1_n]) (by simp (disch := omega) only [s1_n]) (by simp (disch := omega) only [s1_n]) (by simp (disch := omega) only [s1_n]) (by simp (disch := omega) only [s1_n]), (by
            simp (disch := omega) only [wr_s, s1_s, s1_n]
            unfold rpa
            rw [if_neg (by omega), if_neg (by omega), if_pos (by omega)]), (by simp (disch := omega) only [wr_s, s1_s, s1_n]), (fun _ _ => by
            simp (disch := omega) only [wr_s, s1_s, s1_n]
            unfold rpf
            rw [if_neg (by omega)]), (fun z => by omega)⟩
  · skip
    refine r_aload_n C dX5_readsPart_0 rfl ?_
    refine r_aload_n C dX5_readsPart_1 rfl ?_
    refine r_runI (fun aH aL aj a1 a2 a3 => run_V C hF.2.2.1 (kX5_sign hM hB ha (by omega)) lm_X5_sign ml_X5_131 im_X5_sign se_X5_sign M1 rfl (Nat.le_of_ble_eq_true rfl) dX5_readsPart_2 rfl (Nat.le_of_ble_eq_true rfl) a1 a2 a3) ?_
    refine pf_X5_134 C M1 M0 dX5_readsPart_5 ?_
    refine r_aload_n C dX5_readsPart_8 rfl ?_
    refine r_bipush C dX5_readsPart_9 rfl ?_
    refine r_runI (fun aH aL aj a1 a2 a3 => run_V C hF.2.2.1 (tk0 (c := 98) hM hB (by simp (disch := omega) only [s1_n]) (by simp (disch := omega) only [s1_s, s1_n]; omega) (by omega) (by simp (disch := omega) only [s1_s, s1_n]; omega)) lm_X5_takes ml_X5_137 im_X5_takes se_X5_takes M1 rfl (Nat.le_of_ble_eq_true rfl) dX5_readsPart_11 rfl (Nat.le_of_ble_eq_true rfl) a1 a2 a3) ?_
    refine r_if_eq (tgt := 19) C dX5_readsPart_14 (by decide) (by omega) (fun c14 => ?_) (fun c14 => absurd c14 (by omega))
    refine r_aload_n C dX5_readsPart_19 rfl ?_
    refine r_bipush C dX5_readsPart_20 rfl ?_
    refine r_runI (fun aH aL aj a1 a2 a3 => run_V C hF.2.2.1 (tk0 (c := 103) hM hB (by simp (disch := omega) only [s1_n]) (by simp (disch := omega) only [s1_s, s1_n]; omega) (by omega) (by simp (disch := omega) only [s1_s, s1_n]; omega)) lm_X5_takes ml_X5_137 im_X5_takes se_X5_takes M1 rfl (Nat.le_of_ble_eq_true rfl) dX5_readsPart_22 rfl (Nat.le_of_ble_eq_true rfl) a1 a2 a3) ?_
    refine r_if_eq (tgt := 52) C dX5_readsPart_25 (by decide) (by omega) (fun c25 => ?_) (fun c25 => absurd c25 (by omega))
    refine r_aload_n C dX5_readsPart_52 rfl ?_
    refine r_bipush C dX5_readsPart_53 rfl ?_
    refine r_runI (fun aH aL aj a1 a2 a3 => run_V C hF.2.2.1 (tk0 (c := 112) hM hB (by simp (disch := omega) only [s1_n]) (by simp (disch := omega) only [s1_s, s1_n]; omega) (by omega) (by simp (disch := omega) only [s1_s, s1_n]; omega)) lm_X5_takes ml_X5_137 im_X5_takes se_X5_takes M1 rfl (Nat.le_of_ble_eq_true rfl) dX5_readsPart_55 rfl (Nat.le_of_ble_eq_true rfl) a1 a2 a3) ?_
    refine r_if_ne (tgt := 70) C dX5_readsPart_58 (by decide) (by omega) (fun c58 => absurd c58 (by omega)) (fun c58 => ?_)
    refine r_aload_n C dX5_readsPart_61 rfl ?_
    refine r_bipush C dX5_readsPart_62 rfl ?_
    refine r_runI (fun aH aL aj a1 a2 a3 => run_V C hF.2.2.1 (tk1 (c := 102) hM hB (by simp (disch := omega) only [s1_n]) (by simp (disch := omega) only [s1_s, s1_n]; omega) (by omega) (by simp (disch := omega) only [s1_s, s1_n]; exact h)) lm_X5_takes ml_X5_137 im_X5_takes se_X5_takes M1 rfl (Nat.le_of_ble_eq_true rfl) dX5_readsPart_64 rfl (Nat.le_of_ble_eq_true rfl) a1 a2 a3) ?_
    refine r_if_eq (tgt := 94) C dX5_readsPart_67 (by decide) (by omega) (fun c67 => absurd c67 (by omega)) (fun c67 => ?_)
    refine r_aload_n C dX5_readsPart_70 rfl ?_
    refine r_aload_n C dX5_readsPart_71 rfl ?_
    refine r_bipush C dX5_readsPart_72 rfl ?_
    refine r_runI (fun aH aL aj a1 a2 a3 => run_V C hF.2.2.1 (ngg (m := 19) hM hB (by simp (disch := omega) only [s1_n]) (by simp (disch := omega) only [s1_s, s1_n]; omega) (by omega) (by omega)) lm_X5_number ml_X5_140 im_X5_number se_X5_number M1 rfl (Nat.le_of_ble_eq_true rfl) dX5_readsPart_74 rfl (Nat.le_of_ble_eq_true rfl) a1 a2 a3) ?_
    refine pf_X5_143 C M1 M0 dX5_readsPart_77 ?_
    refine r_aload_n C dX5_readsPart_80 rfl ?_
    refine gf_X5_143 C M1 dX5_readsPart_81 ?_
    refine r_iconst C dX5_readsPart_84 ?_
    simp (disch := omega) only [wr_ww, wr_s, s1_s, s1_n]
    refine r_icmp_eq (tgt := 92) C dX5_readsPart_85 (by decide) (by have := nbv_r (b := (μ (q + 2))) (n := (μ q 5)) (m := 19) (a := (μ q 6) + 1) (by omega); omega) (by omega) (fun c85 => ?_) (fun c85 => ?_)
    · skip
      refine r_iconst C dX5_readsPart_92 ?_
      exact r_zretr C hF dX5_readsPart_93 (by omega) (b01_f (fun z => by unfold rpk at z; omega)).symm ⟨MU_g (by simp (disch := omega) only [s1_n]) (by simp (disch := omega) only [s1_n]) (by simp (disch := omega) only [s1_n]) (by simp (disch := omega) only [s1_n]) (by simp (disch := omega) only [s1_n]), (by
            simp (disch := omega) only [wr_s, s1_s, s1_n]
            unfold rpa
            rw [if_neg (by omega), if_neg (by omega), if_pos (by omega)]), (by simp (disch := omega) only [wr_s, s1_s, s1_n]), (fun _ z => by unfold rpk at z; omega), (fun z => by omega)⟩
    · skip
      refine r_iconst C dX5_readsPart_88 ?_
      refine r_goto (tgt := 93) C dX5_readsPart_89 (by decide) ?_
      exact r_zretr C hF dX5_readsPart_93 (by omega) (b01_t (Or.inr (Or.inr (Or.inl ⟨by omega, c85⟩)))).symm ⟨MU_g (by simp (disch := omega) only [s1_n]) (by simp (disch := omega) only [s1_n]) (by simp (disch := omega) only [s1_n]) (by simp (disch := omega) only [s1_n]) (by simp (disch := omega) only [s1_n]), (by
            simp (disch := omega) only [wr_s, s1_s, s1_n]
            unfold rpa
            rw [if_neg (by omega), if_neg (by omega), if_pos (by omega)]), (by simp (disch := omega) only [wr_s, s1_s, s1_n]), (fun _ _ => by
            simp (disch := omega) only [wr_s, s1_s, s1_n]
            unfold rpf
            rw [if_neg (by omega)]), (fun z => by omega)⟩
  · skip
    refine r_aload_n C dX5_readsPart_0 rfl ?_
    refine r_aload_n C dX5_readsPart_1 rfl ?_
    refine r_runI (fun aH aL aj a1 a2 a3 => run_V C hF.2.2.1 (kX5_sign hM hB ha (by omega)) lm_X5_sign ml_X5_131 im_X5_sign se_X5_sign M1 rfl (Nat.le_of_ble_eq_true rfl) dX5_readsPart_2 rfl (Nat.le_of_ble_eq_true rfl) a1 a2 a3) ?_
    refine pf_X5_134 C M1 M0 dX5_readsPart_5 ?_
    refine r_aload_n C dX5_readsPart_8 rfl ?_
    refine r_bipush C dX5_readsPart_9 rfl ?_
    refine r_runI (fun aH aL aj a1 a2 a3 => run_V C hF.2.2.1 (tk0 (c := 98) hM hB (by simp (disch := omega) only [s1_n]) (by simp (disch := omega) only [s1_s, s1_n]; omega) (by omega) (by simp (disch := omega) only [s1_s, s1_n]; omega)) lm_X5_takes ml_X5_137 im_X5_takes se_X5_takes M1 rfl (Nat.le_of_ble_eq_true rfl) dX5_readsPart_11 rfl (Nat.le_of_ble_eq_true rfl) a1 a2 a3) ?_
    refine r_if_eq (tgt := 19) C dX5_readsPart_14 (by decide) (by omega) (fun c14 => ?_) (fun c14 => absurd c14 (by omega))
    refine r_aload_n C dX5_readsPart_19 rfl ?_
    refine r_bipush C dX5_readsPart_20 rfl ?_
    refine r_runI (fun aH aL aj a1 a2 a3 => run_V C hF.2.2.1 (tk0 (c := 103) hM hB (by simp (disch := omega) only [s1_n]) (by simp (disch := omega) only [s1_s, s1_n]; omega) (by omega) (by simp (disch := omega) only [s1_s, s1_n]; omega)) lm_X5_takes ml_X5_137 im_X5_takes se_X5_takes M1 rfl (Nat.le_of_ble_eq_true rfl) dX5_readsPart_22 rfl (Nat.le_of_ble_eq_true rfl) a1 a2 a3) ?_
    refine r_if_eq (tgt := 52) C dX5_readsPart_25 (by decide) (by omega) (fun c25 => ?_) (fun c25 => absurd c25 (by omega))
    refine r_aload_n C dX5_readsPart_52 rfl ?_
    refine r_bipush C dX5_readsPart_53 rfl ?_
    refine r_runI (fun aH aL aj a1 a2 a3 => run_V C hF.2.2.1 (tk0 (c := 112) hM hB (by simp (disch := omega) only [s1_n]) (by simp (disch := omega) only [s1_s, s1_n]; omega) (by omega) (by simp (disch := omega) only [s1_s, s1_n]; omega)) lm_X5_takes ml_X5_137 im_X5_takes se_X5_takes M1 rfl (Nat.le_of_ble_eq_true rfl) dX5_readsPart_55 rfl (Nat.le_of_ble_eq_true rfl) a1 a2 a3) ?_
    refine r_if_ne (tgt := 70) C dX5_readsPart_58 (by decide) (by omega) (fun c58 => absurd c58 (by omega)) (fun c58 => ?_)
    refine r_aload_n C dX5_readsPart_61 rfl ?_
    refine r_bipush C dX5_readsPart_62 rfl ?_
    refine r_runI (fun aH aL aj a1 a2 a3 => run_V C hF.2.2.1 (tk0 (c := 102) hM hB (by simp (disch := omega) only [s1_n]) (by simp (disch := omega) only [s1_s, s1_n]; omega) (by omega) (by simp (disch := omega) only [s1_s, s1_n]; omega)) lm_X5_takes ml_X5_137 im_X5_takes se_X5_takes M1 rfl (Nat.le_of_ble_eq_true rfl) dX5_readsPart_64 rfl (Nat.le_of_ble_eq_true rfl) a1 a2 a3) ?_
    refine r_if_eq (tgt := 94) C dX5_readsPart_67 (by decide) (by omega) (fun c67 => ?_) (fun c67 => absurd c67 (by omega))
    refine r_aload_n C dX5_readsPart_94 rfl ?_
    refine r_aload_n C dX5_readsPart_95 rfl ?_
    refine r_bipush C dX5_readsPart_96 rfl ?_
    refine r_runI (fun aH aL aj a1 a2 a3 => run_V C hF.2.2.1 (tk1 (c := 109) hM hB (by simp (disch := omega) only [s1_n]) (by simp (disch := omega) only [s1_s, s1_n]; omega) (by omega) (by simp (disch := omega) only [s1_s, s1_n]; exact h)) lm_X5_takes ml_X5_137 im_X5_takes se_X5_takes M1 rfl (Nat.le_of_ble_eq_true rfl) dX5_readsPart_98 rfl (Nat.le_of_ble_eq_true rfl) a1 a2 a3) ?_
    refine r_if_eq (tgt := 113) C dX5_readsPart_101 (by decide) (by omega) (fun c101 => absurd c101 (by omega)) (fun c101 => ?_)
    refine r_aload_n C dX5_readsPart_104 rfl ?_
    refine r_bipush C dX5_readsPart_105 rfl ?_
    refine r_runI (fun aH aL aj a1 a2 a3 => run_V C hF.2.2.1 (ngg (m := 19) hM hB (by simp (disch := omega) only [s1_n]) (by simp (disch := omega) only [s1_s, s1_n]; omega) (by omega) (by omega)) lm_X5_number ml_X5_140 im_X5_number se_X5_number M1 rfl (Nat.le_of_ble_eq_true rfl) dX5_readsPart_107 rfl (Nat.le_of_ble_eq_true rfl) a1 a2 a3) ?_
    refine r_goto (tgt := 114) C dX5_readsPart_110 (by decide) ?_
    refine pf_X5_143 C M1 M0 dX5_readsPart_114 ?_
    refine r_aload_n C dX5_readsPart_117 rfl ?_
    refine r_aload_n C dX5_readsPart_118 rfl ?_
    refine gf_X5_143 C M1 dX5_readsPart_119 ?_
    refine r_iconst C dX5_readsPart_122 ?_
    simp (disch := omega) only [wr_ww, wr_s, s1_s, s1_n]
    refine r_icmp_eq (tgt := 144) C dX5_readsPart_123 (by decide) (by omega) (by omega) (fun c123 => ?_) (fun c123 => ?_)
    · skip
      refine r_iconst C dX5_readsPart_144 ?_
      refine pf_X5_146 C M1 M0 dX5_readsPart_145 ?_
      refine r_aload_n C dX5_readsPart_148 rfl ?_
      refine gf_X5_146 C M1 dX5_readsPart_149 ?_
      refine r_iconst C dX5_readsPart_152 ?_
      simp (disch := omega) only [wr_ww, wr_s, s1_s, s1_n]
      refine r_icmp_eq (tgt := 160) C dX5_readsPart_153 (by decide) (by omega) (by omega) (fun c153 => ?_) (fun c153 => absurd c153 (by omega))
      refine r_iconst C dX5_readsPart_160 ?_
      exact r_zretr C hF dX5_readsPart_161 (by omega) (b01_f (fun z => by unfold rpk at z; omega)).symm ⟨MU_g (by simp (disch := omega) only [s1_n]) (by simp (disch := omega) only [s1_n]) (by simp (disch := omega) only [s1_n]) (by simp (disch := omega) only [s1_n]) (by simp (disch := omega) only [s1_n]), (by
            simp (disch := omega) only [wr_s, s1_s, s1_n]
            unfold rpa
            rw [if_neg (by omega), if_neg (by omega), if_neg (by omega), if_pos h, if_neg (fun z => z.1 c123)]), (by simp (disch := omega) only [wr_s, s1_s, s1_n]), (fun _ z => by unfold rpk at z; omega), (fun _ z => by unfold rpk at z; omega)⟩
    · skip
      by_cases hg : sg (μ (q + 2)) (μ q 5) (nbp (μ (q + 2)) (μ q 5) 19 ((μ q 6) + 1)) = 62
      · skip
        refine r_aload_n C dX5_readsPart_126 rfl ?_
        refine r_bipush C dX5_readsPart_127 rfl ?_
        refine r_runI (fun aH aL aj a1 a2 a3 => run_V C hF.2.2.1 (tk1 (c := 62) hM hB (by simp (disch := omega) only [s1_n]) (by simp (disch := omega) only [s1_s, s1_n]; omega) (by omega) (by simp (disch := omega) only [s1_s, s1_n]; exact hg)) lm_X5_takes ml_X5_137 im_X5_takes se_X5_takes M1 rfl (Nat.le_of_ble_eq_true rfl) dX5_readsPart_129 rfl (Nat.le_of_ble_eq_true rfl) a1 a2 a3) ?_
        refine r_if_eq (tgt := 144) C dX5_readsPart_132 (by decide) (by omega) (fun c132 => absurd c132 (by omega)) (fun c132 => ?_)
        refine r_aload_n C dX5_readsPart_135 rfl ?_
        refine r_bipush C dX5_readsPart_136 rfl ?_
        refine r_runI (fun aH aL aj a1 a2 a3 => run_V C hF.2.2.1 (ngg (m := 19) hM hB (by simp (disch := omega) only [s1_n]) (by simp (disch := omega) only [s1_s, s1_n]; omega) (by omega) (by omega)) lm_X5_number ml_X5_140 im_X5_number se_X5_number M1 rfl (Nat.le_of_ble_eq_true rfl) dX5_readsPart_138 rfl (Nat.le_of_ble_eq_true rfl) a1 a2 a3) ?_
        refine r_goto (tgt := 145) C dX5_readsPart_141 (by decide) ?_
        refine pf_X5_146 C M1 M0 dX5_readsPart_145 ?_
        refine r_aload_n C dX5_readsPart_148 rfl ?_
        refine gf_X5_146 C M1 dX5_readsPart_149 ?_
        refine r_iconst C dX5_readsPart_152 ?_
        simp (disch := omega) only [wr_ww, wr_s, s1_s, s1_n]
        refine r_icmp_eq (tgt := 160) C dX5_readsPart_153 (by decide) (by omega) (by omega) (fun c153 => ?_) (fun c153 => ?_)
        · skip
          refine r_iconst C dX5_readsPart_160 ?_
          exact r_zretr C hF dX5_readsPart_161 (by omega) (b01_f (fun z => by unfold rpk at z; omega)).symm ⟨MU_g (by simp (disch := omega) only [s1_n]) (by simp (disch := omega) only [s1_n]) (by simp (disch := omega) only [s1_n]) (by simp (disch := omega) only [s1_n]) (by simp (disch := omega) only [s1_n]), (by
                simp (disch := omega) only [wr_s, s1_s, s1_n]
                unfold rpa
                rw [if_neg (by omega), if_neg (by omega), if_neg (by omega), if_pos h, if_pos ⟨c123, hg⟩]), (by simp (disch := omega) only [wr_s, s1_s, s1_n]), (fun _ z => by unfold rpk at z; omega), (fun _ z => by unfold rpk at z; omega)⟩
        · skip
          refine r_iconst C dX5_readsPart_156 ?_
          refine r_goto (tgt := 161) C dX5_readsPart_157 (by decide) ?_
          exact r_zretr C hF dX5_readsPart_161 (by omega) (b01_t (Or.inr (Or.inr (Or.inr ⟨h, ⟨c123, hg⟩, c153⟩)))).symm ⟨MU_g (by simp (disch := omega) only [s1_n]) (by simp (disch := omega) only [s1_n]) (by simp (disch := omega) only [s1_n]) (by simp (disch := omega) only [s1_n]) (by simp (disch := omega) only [s1_n]), (by
                simp (disch := omega) only [wr_s, s1_s, s1_n]
                unfold rpa
                rw [if_neg (by omega), if_neg (by omega), if_neg (by omega), if_pos h, if_pos ⟨c123, hg⟩]), (by simp (disch := omega) only [wr_s, s1_s, s1_n]), (fun _ _ => by
                simp (disch := omega) only [wr_s, s1_s, s1_n]
                unfold rpf
                rw [if_neg (by omega)]), (fun _ _ => by
                simp (disch := omega) only [wr_s, s1_s, s1_n]
                rfl)⟩
      · skip
        refine r_aload_n C dX5_readsPart_126 rfl ?_
        refine r_bipush C dX5_readsPart_127 rfl ?_
        refine r_runI (fun aH aL aj a1 a2 a3 => run_V C hF.2.2.1 (tk0 (c := 62) hM hB (by simp (disch := omega) only [s1_n]) (by simp (disch := omega) only [s1_s, s1_n]; omega) (by omega) (by simp (disch := omega) only [s1_s, s1_n]; exact hg)) lm_X5_takes ml_X5_137 im_X5_takes se_X5_takes M1 rfl (Nat.le_of_ble_eq_true rfl) dX5_readsPart_129 rfl (Nat.le_of_ble_eq_true rfl) a1 a2 a3) ?_
        refine r_if_eq (tgt := 144) C dX5_readsPart_132 (by decide) (by omega) (fun c132 => ?_) (fun c132 => absurd c132 (by omega))
        refine r_iconst C dX5_readsPart_144 ?_
        refine pf_X5_146 C M1 M0 dX5_readsPart_145 ?_
        refine r_aload_n C dX5_readsPart_148 rfl ?_
        refine gf_X5_146 C M1 dX5_readsPart_149 ?_
        refine r_iconst C dX5_readsPart_152 ?_
        simp (disch := omega) only [wr_ww, wr_s, s1_s, s1_n]
        refine r_icmp_eq (tgt := 160) C dX5_readsPart_153 (by decide) (by omega) (by omega) (fun c153 => ?_) (fun c153 => absurd c153 (by omega))
        refine r_iconst C dX5_readsPart_160 ?_
        exact r_zretr C hF dX5_readsPart_161 (by omega) (b01_f (fun z => by unfold rpk at z; omega)).symm ⟨MU_g (by simp (disch := omega) only [s1_n]) (by simp (disch := omega) only [s1_n]) (by simp (disch := omega) only [s1_n]) (by simp (disch := omega) only [s1_n]) (by simp (disch := omega) only [s1_n]), (by
              simp (disch := omega) only [wr_s, s1_s, s1_n]
              unfold rpa
              rw [if_neg (by omega), if_neg (by omega), if_neg (by omega), if_pos h, if_neg (fun z => hg z.2)]), (by simp (disch := omega) only [wr_s, s1_s, s1_n]), (fun _ z => by unfold rpk at z; omega), (fun _ z => by unfold rpk at z; omega)⟩
  · skip
    refine r_aload_n C dX5_readsPart_0 rfl ?_
    refine r_aload_n C dX5_readsPart_1 rfl ?_
    refine r_runI (fun aH aL aj a1 a2 a3 => run_V C hF.2.2.1 (kX5_sign hM hB ha (by omega)) lm_X5_sign ml_X5_131 im_X5_sign se_X5_sign M1 rfl (Nat.le_of_ble_eq_true rfl) dX5_readsPart_2 rfl (Nat.le_of_ble_eq_true rfl) a1 a2 a3) ?_
    refine pf_X5_134 C M1 M0 dX5_readsPart_5 ?_
    refine r_aload_n C dX5_readsPart_8 rfl ?_
    refine r_bipush C dX5_readsPart_9 rfl ?_
    refine r_runI (fun aH aL aj a1 a2 a3 => run_V C hF.2.2.1 (tk0 (c := 98) hM hB (by simp (disch := omega) only [s1_n]) (by simp (disch := omega) only [s1_s, s1_n]; omega) (by omega) (by simp (disch := omega) only [s1_s, s1_n]; omega)) lm_X5_takes ml_X5_137 im_X5_takes se_X5_takes M1 rfl (Nat.le_of_ble_eq_true rfl) dX5_readsPart_11 rfl (Nat.le_of_ble_eq_true rfl) a1 a2 a3) ?_
    refine r_if_eq (tgt := 19) C dX5_readsPart_14 (by decide) (by omega) (fun c14 => ?_) (fun c14 => absurd c14 (by omega))
    refine r_aload_n C dX5_readsPart_19 rfl ?_
    refine r_bipush C dX5_readsPart_20 rfl ?_
    refine r_runI (fun aH aL aj a1 a2 a3 => run_V C hF.2.2.1 (tk0 (c := 103) hM hB (by simp (disch := omega) only [s1_n]) (by simp (disch := omega) only [s1_s, s1_n]; omega) (by omega) (by simp (disch := omega) only [s1_s, s1_n]; omega)) lm_X5_takes ml_X5_137 im_X5_takes se_X5_takes M1 rfl (Nat.le_of_ble_eq_true rfl) dX5_readsPart_22 rfl (Nat.le_of_ble_eq_true rfl) a1 a2 a3) ?_
    refine r_if_eq (tgt := 52) C dX5_readsPart_25 (by decide) (by omega) (fun c25 => ?_) (fun c25 => absurd c25 (by omega))
    refine r_aload_n C dX5_readsPart_52 rfl ?_
    refine r_bipush C dX5_readsPart_53 rfl ?_
    refine r_runI (fun aH aL aj a1 a2 a3 => run_V C hF.2.2.1 (tk0 (c := 112) hM hB (by simp (disch := omega) only [s1_n]) (by simp (disch := omega) only [s1_s, s1_n]; omega) (by omega) (by simp (disch := omega) only [s1_s, s1_n]; omega)) lm_X5_takes ml_X5_137 im_X5_takes se_X5_takes M1 rfl (Nat.le_of_ble_eq_true rfl) dX5_readsPart_55 rfl (Nat.le_of_ble_eq_true rfl) a1 a2 a3) ?_
    refine r_if_ne (tgt := 70) C dX5_readsPart_58 (by decide) (by omega) (fun c58 => absurd c58 (by omega)) (fun c58 => ?_)
    refine r_aload_n C dX5_readsPart_61 rfl ?_
    refine r_bipush C dX5_readsPart_62 rfl ?_
    refine r_runI (fun aH aL aj a1 a2 a3 => run_V C hF.2.2.1 (tk0 (c := 102) hM hB (by simp (disch := omega) only [s1_n]) (by simp (disch := omega) only [s1_s, s1_n]; omega) (by omega) (by simp (disch := omega) only [s1_s, s1_n]; omega)) lm_X5_takes ml_X5_137 im_X5_takes se_X5_takes M1 rfl (Nat.le_of_ble_eq_true rfl) dX5_readsPart_64 rfl (Nat.le_of_ble_eq_true rfl) a1 a2 a3) ?_
    refine r_if_eq (tgt := 94) C dX5_readsPart_67 (by decide) (by omega) (fun c67 => ?_) (fun c67 => absurd c67 (by omega))
    refine r_aload_n C dX5_readsPart_94 rfl ?_
    refine r_aload_n C dX5_readsPart_95 rfl ?_
    refine r_bipush C dX5_readsPart_96 rfl ?_
    refine r_runI (fun aH aL aj a1 a2 a3 => run_V C hF.2.2.1 (tk0 (c := 109) hM hB (by simp (disch := omega) only [s1_n]) (by simp (disch := omega) only [s1_s, s1_n]; omega) (by omega) (by simp (disch := omega) only [s1_s, s1_n]; omega)) lm_X5_takes ml_X5_137 im_X5_takes se_X5_takes M1 rfl (Nat.le_of_ble_eq_true rfl) dX5_readsPart_98 rfl (Nat.le_of_ble_eq_true rfl) a1 a2 a3) ?_
    refine r_if_eq (tgt := 113) C dX5_readsPart_101 (by decide) (by omega) (fun c101 => ?_) (fun c101 => absurd c101 (by omega))
    refine r_iconst C dX5_readsPart_113 ?_
    refine pf_X5_143 C M1 M0 dX5_readsPart_114 ?_
    refine r_aload_n C dX5_readsPart_117 rfl ?_
    refine r_aload_n C dX5_readsPart_118 rfl ?_
    refine gf_X5_143 C M1 dX5_readsPart_119 ?_
    refine r_iconst C dX5_readsPart_122 ?_
    simp (disch := omega) only [wr_ww, wr_s, s1_s, s1_n]
    refine r_icmp_eq (tgt := 144) C dX5_readsPart_123 (by decide) (by omega) (by omega) (fun c123 => ?_) (fun c123 => absurd c123 (by omega))
    refine r_iconst C dX5_readsPart_144 ?_
    refine pf_X5_146 C M1 M0 dX5_readsPart_145 ?_
    refine r_aload_n C dX5_readsPart_148 rfl ?_
    refine gf_X5_146 C M1 dX5_readsPart_149 ?_
    refine r_iconst C dX5_readsPart_152 ?_
    simp (disch := omega) only [wr_ww, wr_s, s1_s, s1_n]
    refine r_icmp_eq (tgt := 160) C dX5_readsPart_153 (by decide) (by omega) (by omega) (fun c153 => ?_) (fun c153 => absurd c153 (by omega))
    refine r_iconst C dX5_readsPart_160 ?_
    exact r_zretr C hF dX5_readsPart_161 (by omega) (b01_f (fun z => by unfold rpk at z; omega)).symm ⟨MU_g (by simp (disch := omega) only [s1_n]) (by simp (disch := omega) only [s1_n]) (by simp (disch := omega) only [s1_n]) (by simp (disch := omega) only [s1_n]) (by simp (disch := omega) only [s1_n]), (by
          simp (disch := omega) only [wr_s, s1_s, s1_n]
          unfold rpa
          rw [if_neg (by omega), if_neg (by omega), if_neg (by omega), if_neg (by omega)]), (by simp (disch := omega) only [wr_s, s1_s, s1_n]), (fun z => by omega), (fun z => by omega)⟩
