set_option maxRecDepth 20000 in
set_option maxHeartbeats 2000000 in
theorem kX2_start {V : Wo} {μ : Mem} {q : Nat} (hR : ReS V q) : Con V 0 yX2_start cX2_start 1 (none) [vR q] (μ) (QV V (wr μ q (rS0 (μ q)))) := by
  refine con_of (ls0 := [vR q]) (by decide +kernel) rfl (Nat.le_of_ble_eq_true rfl) (Nat.le_of_ble_eq_true rfl) (fun X hV C hF => ?_)
  subst hV
  have C : Ok X RX2 cX2_start 1 0 := C
  obtain ⟨R0, R1⟩ := id hR
  refine r_aload_n C dX2_start_0 rfl ?_
  refine r_bipush C dX2_start_1 rfl ?_
  refine pf_X2_9 C R1 R0 (ch_n (by omega) (by omega)) dX2_start_3 ?_
  refine r_aload_n C dX2_start_6 rfl ?_
  refine r_iconst C dX2_start_7 ?_
  refine pf_X2_15 C R1 R0 dX2_start_8 ?_
  refine r_aload_n C dX2_start_11 rfl ?_
  refine r_iconst C dX2_start_12 ?_
  refine pf_X2_19 C R1 R0 dX2_start_13 ?_
  refine r_aload_n C dX2_start_16 rfl ?_
  refine r_iconst C dX2_start_17 ?_
  refine pf_X2_22 C R1 R0 dX2_start_18 ?_
  refine r_aload_n C dX2_start_21 rfl ?_
  refine r_iconst C dX2_start_22 ?_
  refine pf_X2_25 C R1 R0 (Or.inl rfl) dX2_start_23 ?_
  exact r_vret C hF dX2_start_26 (by simp only [wr_ww, wr_s]; rfl)
set_option maxRecDepth 20000 in
set_option maxHeartbeats 2000000 in
theorem kX2_arrowIsDue {V : Wo} {μ : Mem} {q : Nat} (hR : ReS V q) (hf : ReW (μ q)) : Con V 0 yX2_arrowIsDue cX2_arrowIsDue 1 (some .boolean) [vR q] (μ) (QI V (b01 (μ q 0 = 109 ∧ μ q 4 = 0)) (μ)) := by
  refine con_of (ls0 := [vR q]) (by decide +kernel) rfl (Nat.le_of_ble_eq_true rfl) (Nat.le_of_ble_eq_true rfl) (fun X hV C hF => ?_)
  subst hV
  have C : Ok X RX2 cX2_arrowIsDue 1 0 := C
  obtain ⟨R0, R1⟩ := id hR
  obtain ⟨w0, w1, w2, w3, w4⟩ := id hf
  refine r_aload_n C dX2_arrowIsDue_0 rfl ?_
  refine gf_X2_9 C R1 dX2_arrowIsDue_1 ?_
  refine r_bipush C dX2_arrowIsDue_4 rfl ?_
  refine r_icmp_ne (tgt := 20) C dX2_arrowIsDue_6 (by decide) (by omega) (by omega) (fun c6 => ?_) (fun c6 => ?_)
  · have _ := c6
    refine r_iconst C dX2_arrowIsDue_20 ?_
    exact r_zret C hF dX2_arrowIsDue_21 (by omega) (by unfold b01; split <;> omega) rfl
  · have _ := c6
    refine r_aload_n C dX2_arrowIsDue_9 rfl ?_
    refine gf_X2_25 C R1 dX2_arrowIsDue_10 ?_
    refine r_if_ne (tgt := 20) C dX2_arrowIsDue_13 (by decide) (by omega) (fun c13 => ?_) (fun c13 => ?_)
    · have _ := c13
      refine r_iconst C dX2_arrowIsDue_20 ?_
      exact r_zret C hF dX2_arrowIsDue_21 (by omega) (by unfold b01; split <;> omega) rfl
    · have _ := c13
      refine r_iconst C dX2_arrowIsDue_16 ?_
      refine r_goto (tgt := 21) C dX2_arrowIsDue_17 (by decide) ?_
      exact r_zret C hF dX2_arrowIsDue_21 (by omega) (by unfold b01; split <;> omega) rfl
set_option maxRecDepth 20000 in
set_option maxHeartbeats 2000000 in
theorem kX2_isComplete {V : Wo} {μ : Mem} {q : Nat} (hR : ReS V q) (hf : ReW (μ q)) : Con V 1 yX2_isComplete cX2_isComplete 1 (some .boolean) [vR q] (μ) (QI V (b01 (μ q 3 = 3 ∨ (μ q 3 = 2 ∧ ¬ (μ q 0 = 109 ∧ μ q 4 = 0)))) (μ)) := by
  refine con_of (ls0 := [vR q]) (by decide +kernel) rfl (Nat.le_of_ble_eq_true rfl) (Nat.le_of_ble_eq_true rfl) (fun X hV C hF => ?_)
  subst hV
  have C : Ok X RX2 cX2_isComplete 1 1 := C
  obtain ⟨R0, R1⟩ := id hR
  obtain ⟨w0, w1, w2, w3, w4⟩ := id hf
  refine r_aload_n C dX2_isComplete_0 rfl ?_
  refine gf_X2_22 C R1 dX2_isComplete_1 ?_
  refine r_iconst C dX2_isComplete_4 ?_
  refine r_icmp_eq (tgt := 23) C dX2_isComplete_5 (by decide) (by omega) (by omega) (fun c5 => ?_) (fun c5 => ?_)
  · have _ := c5
    refine r_iconst C dX2_isComplete_23 ?_
    refine r_goto (tgt := 28) C dX2_isComplete_24 (by decide) ?_
    exact r_zret C hF dX2_isComplete_28 (by omega) (by unfold b01; split <;> omega) rfl
  · have _ := c5
    refine r_aload_n C dX2_isComplete_8 rfl ?_
    refine gf_X2_22 C R1 dX2_isComplete_9 ?_
    refine r_iconst C dX2_isComplete_12 ?_
    refine r_icmp_ne (tgt := 27) C dX2_isComplete_13 (by decide) (by omega) (by omega) (fun c13 => ?_) (fun c13 => ?_)
    · have _ := c13
      refine r_iconst C dX2_isComplete_27 ?_
      exact r_zret C hF dX2_isComplete_28 (by omega) (by unfold b01; split <;> omega) rfl
    · have _ := c13
      refine r_aload_n C dX2_isComplete_16 rfl ?_
      refine r_runI (fun aH aL aj a1 a2 a3 => run_V C hF.2.2.1 (kX2_arrowIsDue hR hf) lm_X2_arrowIsDue ml_X2_45 im_X2_arrowIsDue se_X2_arrowIsDue R1 rfl (Nat.le_of_ble_eq_true rfl) dX2_isComplete_17 rfl (Nat.le_of_ble_eq_true rfl) a1 a2 a3) ?_
      refine r_if_ne (tgt := 27) C dX2_isComplete_20 (by decide) (by have := b01_r (μ q 0 = 109 ∧ μ q 4 = 0); omega) (fun c20 => ?_) (fun c20 => ?_)
      · have hz : μ q 0 = 109 ∧ μ q 4 = 0 := Decidable.byContradiction (fun z => c20 (b01_f z))
        refine r_iconst C dX2_isComplete_27 ?_
        exact r_zret C hF dX2_isComplete_28 (by omega) (by unfold b01; split <;> omega) rfl
      · have hz : ¬ (μ q 0 = 109 ∧ μ q 4 = 0) := fun z => by rw [b01_t z] at c20; omega
        refine r_iconst C dX2_isComplete_23 ?_
        refine r_goto (tgt := 28) C dX2_isComplete_24 (by decide) ?_
        exact r_zret C hF dX2_isComplete_28 (by omega) (by unfold b01; split <;> omega) rfl
set_option maxRecDepth 20000 in
set_option maxHeartbeats 2000000 in
theorem kX2_acceptsLetter {V : Wo} {μ : Mem} {q : Nat} (hR : ReS V q) (hf : ReW (μ q)) {c : Int} (hc : 0 ≤ c) (hc2 : c < 128) : Con V 0 yX2_acceptsLetter cX2_acceptsLetter 2 (some .boolean) [vR q, vI c] (μ) (QI V ((nL (μ q) c).1) (wr μ q (nL (μ q) c).2)) := by
  refine con_of (ls0 := [vR q, vI c]) (by decide +kernel) rfl (Nat.le_of_ble_eq_true rfl) (Nat.le_of_ble_eq_true rfl) (fun X hV C hF => ?_)
  subst hV
  have C : Ok X RX2 cX2_acceptsLetter 2 0 := C
  obtain ⟨R0, R1⟩ := id hR
  obtain ⟨w0, w1, w2, w3, w4⟩ := id hf
  refine jn (A := (c = 103 ∨ c = 112 ∨ c = 102 ∨ c = 109 ∨ c = 98) → RR X μ 32 [vR q, vI c] []) ?_ (fun J => ?_)
  · intro hl
    refine r_aload_n C dX2_acceptsLetter_32 rfl ?_
    refine r_iload_n C dX2_acceptsLetter_33 rfl ?_
    refine r_i2c C dX2_acceptsLetter_34 (by omega) ?_
    refine pf_X2_9 C R1 R0 (ch_n hc hc2) dX2_acceptsLetter_35 ?_
    refine r_aload_n C dX2_acceptsLetter_38 rfl ?_
    refine r_iconst C dX2_acceptsLetter_39 ?_
    refine pf_X2_25 C R1 R0 (Or.inl rfl) dX2_acceptsLetter_40 ?_
    refine r_aload_n C dX2_acceptsLetter_43 rfl ?_
    refine r_iload_n C dX2_acceptsLetter_44 rfl ?_
    refine r_bipush C dX2_acceptsLetter_45 rfl ?_
    refine r_icmp_ne (tgt := 54) C dX2_acceptsLetter_47 (by decide) (by omega) (by omega) (fun c47 => ?_) (fun c47 => ?_)
    · skip
      refine r_iconst C dX2_acceptsLetter_54 ?_
      refine pf_X2_22 C R1 R0 dX2_acceptsLetter_55 ?_
      refine r_iconst C dX2_acceptsLetter_58 ?_
      exact r_zret C hF dX2_acceptsLetter_59 (Or.inr rfl) (by rw [nL_1 hl]) (by rw [nL_1 hl, if_neg c47]; simp only [wr_ww, wr_s])
    · skip
      refine r_iconst C dX2_acceptsLetter_50 ?_
      refine r_goto (tgt := 55) C dX2_acceptsLetter_51 (by decide) ?_
      refine pf_X2_22 C R1 R0 dX2_acceptsLetter_55 ?_
      refine r_iconst C dX2_acceptsLetter_58 ?_
      exact r_zret C hF dX2_acceptsLetter_59 (Or.inr rfl) (by rw [nL_1 hl]) (by rw [nL_1 hl, if_pos c47]; simp only [wr_ww, wr_s])
  · skip
    refine r_iload_n C dX2_acceptsLetter_0 rfl ?_
    refine r_bipush C dX2_acceptsLetter_1 rfl ?_
    refine r_icmp_eq (tgt := 32) C dX2_acceptsLetter_3 (by decide) (by omega) (by omega) (fun c3 => ?_) (fun c3 => ?_)
    · have _ := c3
      exact J (by omega)
    · have _ := c3
      refine r_iload_n C dX2_acceptsLetter_6 rfl ?_
      refine r_bipush C dX2_acceptsLetter_7 rfl ?_
      refine r_icmp_eq (tgt := 32) C dX2_acceptsLetter_9 (by decide) (by omega) (by omega) (fun c9 => ?_) (fun c9 => ?_)
      · have _ := c9
        exact J (by omega)
      · have _ := c9
        refine r_iload_n C dX2_acceptsLetter_12 rfl ?_
        refine r_bipush C dX2_acceptsLetter_13 rfl ?_
        refine r_icmp_eq (tgt := 32) C dX2_acceptsLetter_15 (by decide) (by omega) (by omega) (fun c15 => ?_) (fun c15 => ?_)
        · have _ := c15
          exact J (by omega)
        · have _ := c15
          refine r_iload_n C dX2_acceptsLetter_18 rfl ?_
          refine r_bipush C dX2_acceptsLetter_19 rfl ?_
          refine r_icmp_eq (tgt := 32) C dX2_acceptsLetter_21 (by decide) (by omega) (by omega) (fun c21 => ?_) (fun c21 => ?_)
          · have _ := c21
            exact J (by omega)
          · have _ := c21
            refine r_iload_n C dX2_acceptsLetter_24 rfl ?_
            refine r_bipush C dX2_acceptsLetter_25 rfl ?_
            refine r_icmp_eq (tgt := 32) C dX2_acceptsLetter_27 (by decide) (by omega) (by omega) (fun c27 => ?_) (fun c27 => ?_)
            · have _ := c27
              exact J (by omega)
            · have _ := c27
              refine r_iconst C dX2_acceptsLetter_30 ?_
              exact r_zret C hF dX2_acceptsLetter_31 (Or.inl rfl) (by rw [nL_0 (by omega)]) (by rw [nL_0 (by omega)]; exact (wr_self _ _).symm)
set_option maxRecDepth 20000 in
set_option maxHeartbeats 2000000 in
theorem kX2_acceptsFirstDigit {V : Wo} {μ : Mem} {q : Nat} (hR : ReS V q) (hf : ReW (μ q)) {c : Int} (hc : 0 ≤ c) (hc2 : c < 128) : Con V 0 yX2_acceptsFirstDigit cX2_acceptsFirstDigit 2 (some .boolean) [vR q, vI c] (μ) (QI V ((nF (μ q) c).1) (wr μ q (nF (μ q) c).2)) := by
  refine con_of (ls0 := [vR q, vI c]) (by decide +kernel) rfl (Nat.le_of_ble_eq_true rfl) (Nat.le_of_ble_eq_true rfl) (fun X hV C hF => ?_)
  subst hV
  have C : Ok X RX2 cX2_acceptsFirstDigit 2 0 := C
  obtain ⟨R0, R1⟩ := id hR
  obtain ⟨w0, w1, w2, w3, w4⟩ := id hf
  refine r_iload_n C dX2_acceptsFirstDigit_0 rfl ?_
  refine r_bipush C dX2_acceptsFirstDigit_1 rfl ?_
  refine r_icmp_lt (tgt := 12) C dX2_acceptsFirstDigit_3 (by decide) (by omega) (by omega) (fun c3 => ?_) (fun c3 => ?_)
  · have _ := c3
    refine r_iconst C dX2_acceptsFirstDigit_12 ?_
    exact r_zret C hF dX2_acceptsFirstDigit_13 (Or.inl rfl) (by rw [nF_0 (by omega)]) (by rw [nF_0 (by omega)]; exact (wr_self _ _).symm)
  · have _ := c3
    refine r_iload_n C dX2_acceptsFirstDigit_6 rfl ?_
    refine r_bipush C dX2_acceptsFirstDigit_7 rfl ?_
    refine r_icmp_le (tgt := 14) C dX2_acceptsFirstDigit_9 (by decide) (by omega) (by omega) (fun c9 => ?_) (fun c9 => ?_)
    · have _ := c9
      refine r_aload_n C dX2_acceptsFirstDigit_14 rfl ?_
      refine r_iload_n C dX2_acceptsFirstDigit_15 rfl ?_
      refine r_bipush C dX2_acceptsFirstDigit_16 rfl ?_
      refine r_isub C dX2_acceptsFirstDigit_18 ?_
      refine pf_X2_19 C R1 R0 dX2_acceptsFirstDigit_19 ?_
      refine r_aload_n C dX2_acceptsFirstDigit_22 rfl ?_
      refine r_iconst C dX2_acceptsFirstDigit_23 ?_
      refine pf_X2_22 C R1 R0 dX2_acceptsFirstDigit_24 ?_
      refine r_iconst C dX2_acceptsFirstDigit_27 ?_
      exact r_zret C hF dX2_acceptsFirstDigit_28 (Or.inr rfl) (by rw [nF_1 (by omega)]) (by rw [nF_1 (by omega)]; simp only [wr_ww, wr_s])
    · have _ := c9
      refine r_iconst C dX2_acceptsFirstDigit_12 ?_
      exact r_zret C hF dX2_acceptsFirstDigit_13 (Or.inl rfl) (by rw [nF_0 (by omega)]) (by rw [nF_0 (by omega)]; exact (wr_self _ _).symm)
set_option maxRecDepth 20000 in
set_option maxHeartbeats 2000000 in
theorem kX2_acceptsSecondDigit {V : Wo} {μ : Mem} {q : Nat} (hR : ReS V q) (hf : ReW (μ q)) {c : Int} (hc : 0 ≤ c) (hc2 : c < 128) : Con V 0 yX2_acceptsSecondDigit cX2_acceptsSecondDigit 4 (some .boolean) [vR q, vI c] (μ) (QI V ((nS (μ q) c).1) (wr μ q (nS (μ q) c).2)) := by
  refine con_of (ls0 := [vR q, vI c, vU, vU]) (by decide +kernel) rfl (Nat.le_of_ble_eq_true rfl) (Nat.le_of_ble_eq_true rfl) (fun X hV C hF => ?_)
  subst hV
  have C : Ok X RX2 cX2_acceptsSecondDigit 4 0 := C
  obtain ⟨R0, R1⟩ := id hR
  obtain ⟨w0, w1, w2, w3, w4⟩ := id hf
  refine r_iload_n C dX2_acceptsSecondDigit_0 rfl ?_
  refine r_bipush C dX2_acceptsSecondDigit_1 rfl ?_
  refine r_icmp_lt (tgt := 12) C dX2_acceptsSecondDigit_3 (by decide) (by omega) (by omega) (fun c3 => ?_) (fun c3 => ?_)
  · have _ := c3
    refine r_iconst C dX2_acceptsSecondDigit_12 ?_
    exact r_zret C hF dX2_acceptsSecondDigit_13 (Or.inl rfl) (by rw [nS_0 (by omega)]) (by rw [nS_0 (by omega)]; exact (wr_self _ _).symm)
  · have _ := c3
    refine r_iload_n C dX2_acceptsSecondDigit_6 rfl ?_
    refine r_bipush C dX2_acceptsSecondDigit_7 rfl ?_
    refine r_icmp_le (tgt := 14) C dX2_acceptsSecondDigit_9 (by decide) (by omega) (by omega) (fun c9 => ?_) (fun c9 => ?_)
    · have _ := c9
      refine r_aload_n C dX2_acceptsSecondDigit_14 rfl ?_
      refine gf_X2_9 C R1 dX2_acceptsSecondDigit_15 ?_
      refine r_bipush C dX2_acceptsSecondDigit_18 rfl ?_
      refine r_icmp_ne (tgt := 28) C dX2_acceptsSecondDigit_20 (by decide) (by omega) (by omega) (fun c20 => ?_) (fun c20 => ?_)
      · skip
        refine r_bipush C dX2_acceptsSecondDigit_28 rfl ?_
        refine r_istore_n C dX2_acceptsSecondDigit_30 (by decide) rfl ?_
        refine r_bipush C dX2_acceptsSecondDigit_31 rfl ?_
        refine r_aload_n C dX2_acceptsSecondDigit_33 rfl ?_
        refine gf_X2_19 C R1 dX2_acceptsSecondDigit_34 ?_
        refine r_imul C dX2_acceptsSecondDigit_37 ?_
        refine r_iload_n C dX2_acceptsSecondDigit_38 rfl ?_
        refine r_iadd C dX2_acceptsSecondDigit_39 ?_
        refine r_bipush C dX2_acceptsSecondDigit_40 rfl ?_
        refine r_isub C dX2_acceptsSecondDigit_42 ?_
        refine r_istore_n C dX2_acceptsSecondDigit_43 (by decide) rfl ?_
        refine r_aload_n C dX2_acceptsSecondDigit_44 rfl ?_
        refine gf_X2_19 C R1 dX2_acceptsSecondDigit_45 ?_
        refine r_if_eq (tgt := 56) C dX2_acceptsSecondDigit_48 (by decide) (by omega) (fun c48 => ?_) (fun c48 => ?_)
        · have _ := c48
          refine r_iconst C dX2_acceptsSecondDigit_56 ?_
          exact r_zret C hF dX2_acceptsSecondDigit_57 (Or.inl rfl) (by rw [nS_0 (by rw [if_neg c20]; omega)]) (by rw [nS_0 (by rw [if_neg c20]; omega)]; exact (wr_self _ _).symm)
        · have _ := c48
          refine r_iload_n C dX2_acceptsSecondDigit_51 rfl ?_
          refine r_iload_n C dX2_acceptsSecondDigit_52 rfl ?_
          refine r_icmp_le (tgt := 58) C dX2_acceptsSecondDigit_53 (by decide) (by omega) (by omega) (fun c53 => ?_) (fun c53 => ?_)
          · have _ := c53
            refine r_aload_n C dX2_acceptsSecondDigit_58 rfl ?_
            refine r_iload_n C dX2_acceptsSecondDigit_59 rfl ?_
            refine pf_X2_19 C R1 R0 dX2_acceptsSecondDigit_60 ?_
            refine r_iconst C dX2_acceptsSecondDigit_63 ?_
            exact r_zret C hF dX2_acceptsSecondDigit_64 (Or.inr rfl) (by rw [nS_1 (by rw [if_neg c20]; omega)]) (by rw [nS_1 (by rw [if_neg c20]; omega)])
          · have _ := c53
            refine r_iconst C dX2_acceptsSecondDigit_56 ?_
            exact r_zret C hF dX2_acceptsSecondDigit_57 (Or.inl rfl) (by rw [nS_0 (by rw [if_neg c20]; omega)]) (by rw [nS_0 (by rw [if_neg c20]; omega)]; exact (wr_self _ _).symm)
      · skip
        refine r_bipush C dX2_acceptsSecondDigit_23 rfl ?_
        refine r_goto (tgt := 30) C dX2_acceptsSecondDigit_25 (by decide) ?_
        refine r_istore_n C dX2_acceptsSecondDigit_30 (by decide) rfl ?_
        refine r_bipush C dX2_acceptsSecondDigit_31 rfl ?_
        refine r_aload_n C dX2_acceptsSecondDigit_33 rfl ?_
        refine gf_X2_19 C R1 dX2_acceptsSecondDigit_34 ?_
        refine r_imul C dX2_acceptsSecondDigit_37 ?_
        refine r_iload_n C dX2_acceptsSecondDigit_38 rfl ?_
        refine r_iadd C dX2_acceptsSecondDigit_39 ?_
        refine r_bipush C dX2_acceptsSecondDigit_40 rfl ?_
        refine r_isub C dX2_acceptsSecondDigit_42 ?_
        refine r_istore_n C dX2_acceptsSecondDigit_43 (by decide) rfl ?_
        refine r_aload_n C dX2_acceptsSecondDigit_44 rfl ?_
        refine gf_X2_19 C R1 dX2_acceptsSecondDigit_45 ?_
        refine r_if_eq (tgt := 56) C dX2_acceptsSecondDigit_48 (by decide) (by omega) (fun c48 => ?_) (fun c48 => ?_)
        · have _ := c48
          refine r_iconst C dX2_acceptsSecondDigit_56 ?_
          exact r_zret C hF dX2_acceptsSecondDigit_57 (Or.inl rfl) (by rw [nS_0 (by rw [if_pos c20]; omega)]) (by rw [nS_0 (by rw [if_pos c20]; omega)]; exact (wr_self _ _).symm)
        · have _ := c48
          refine r_iload_n C dX2_acceptsSecondDigit_51 rfl ?_
          refine r_iload_n C dX2_acceptsSecondDigit_52 rfl ?_
          refine r_icmp_le (tgt := 58) C dX2_acceptsSecondDigit_53 (by decide) (by omega) (by omega) (fun c53 => ?_) (fun c53 => ?_)
          · have _ := c53
            refine r_aload_n C dX2_acceptsSecondDigit_58 rfl ?_
            refine r_iload_n C dX2_acceptsSecondDigit_59 rfl ?_
            refine pf_X2_19 C R1 R0 dX2_acceptsSecondDigit_60 ?_
            refine r_iconst C dX2_acceptsSecondDigit_63 ?_
            exact r_zret C hF dX2_acceptsSecondDigit_64 (Or.inr rfl) (by rw [nS_1 (by rw [if_pos c20]; omega)]) (by rw [nS_1 (by rw [if_pos c20]; omega)])
          · have _ := c53
            refine r_iconst C dX2_acceptsSecondDigit_56 ?_
            exact r_zret C hF dX2_acceptsSecondDigit_57 (Or.inl rfl) (by rw [nS_0 (by rw [if_pos c20]; omega)]) (by rw [nS_0 (by rw [if_pos c20]; omega)]; exact (wr_self _ _).symm)
    · have _ := c9
      refine r_iconst C dX2_acceptsSecondDigit_12 ?_
      exact r_zret C hF dX2_acceptsSecondDigit_13 (Or.inl rfl) (by rw [nS_0 (by omega)]) (by rw [nS_0 (by omega)]; exact (wr_self _ _).symm)
set_option maxRecDepth 20000 in
set_option maxHeartbeats 2000000 in
theorem kX2_acceptsArrow {V : Wo} {μ : Mem} {q : Nat} (hR : ReS V q) (hf : ReW (μ q)) {c : Int} (hc : 0 ≤ c) (hc2 : c < 128) : Con V 1 yX2_acceptsArrow cX2_acceptsArrow 2 (some .boolean) [vR q, vI c] (μ) (QI V ((nA (μ q) c).1) (wr μ q (nA (μ q) c).2)) := by
  refine con_of (ls0 := [vR q, vI c]) (by decide +kernel) rfl (Nat.le_of_ble_eq_true rfl) (Nat.le_of_ble_eq_true rfl) (fun X hV C hF => ?_)
  subst hV
  have C : Ok X RX2 cX2_acceptsArrow 2 1 := C
  obtain ⟨R0, R1⟩ := id hR
  obtain ⟨w0, w1, w2, w3, w4⟩ := id hf
  refine r_iload_n C dX2_acceptsArrow_0 rfl ?_
  refine r_bipush C dX2_acceptsArrow_1 rfl ?_
  refine r_icmp_ne (tgt := 13) C dX2_acceptsArrow_3 (by decide) (by omega) (by omega) (fun c3 => ?_) (fun c3 => ?_)
  · have _ := c3
    refine r_iconst C dX2_acceptsArrow_13 ?_
    exact r_zret C hF dX2_acceptsArrow_14 (Or.inl rfl) (by rw [nA_0 (by omega)]) (by rw [nA_0 (by omega)]; exact (wr_self _ _).symm)
  · have _ := c3
    refine r_aload_n C dX2_acceptsArrow_6 rfl ?_
    refine r_runI (fun aH aL aj a1 a2 a3 => run_V C hF.2.2.1 (kX2_arrowIsDue hR hf) lm_X2_arrowIsDue ml_X2_45 im_X2_arrowIsDue se_X2_arrowIsDue R1 rfl (Nat.le_of_ble_eq_true rfl) dX2_acceptsArrow_7 rfl (Nat.le_of_ble_eq_true rfl) a1 a2 a3) ?_
    refine r_if_ne (tgt := 15) C dX2_acceptsArrow_10 (by decide) (by have := b01_r (μ q 0 = 109 ∧ μ q 4 = 0); omega) (fun c10 => ?_) (fun c10 => ?_)
    · have hz : μ q 0 = 109 ∧ μ q 4 = 0 := Decidable.byContradiction (fun z => c10 (b01_f z))
      refine r_aload_n C dX2_acceptsArrow_15 rfl ?_
      refine r_aload_n C dX2_acceptsArrow_16 rfl ?_
      refine gf_X2_19 C R1 dX2_acceptsArrow_17 ?_
      refine pf_X2_15 C R1 R0 dX2_acceptsArrow_20 ?_
      refine r_aload_n C dX2_acceptsArrow_23 rfl ?_
      refine r_iconst C dX2_acceptsArrow_24 ?_
      refine pf_X2_25 C R1 R0 (Or.inr rfl) dX2_acceptsArrow_25 ?_
      refine r_aload_n C dX2_acceptsArrow_28 rfl ?_
      refine r_iconst C dX2_acceptsArrow_29 ?_
      refine pf_X2_22 C R1 R0 dX2_acceptsArrow_30 ?_
      refine r_iconst C dX2_acceptsArrow_33 ?_
      exact r_zret C hF dX2_acceptsArrow_34 (Or.inr rfl) (by rw [nA_1 (by omega)]) (by rw [nA_1 (by omega)]; simp only [wr_ww, wr_s])
    · have hz : ¬ (μ q 0 = 109 ∧ μ q 4 = 0) := fun z => by rw [b01_t z] at c10; omega
      refine r_iconst C dX2_acceptsArrow_13 ?_
      exact r_zret C hF dX2_acceptsArrow_14 (Or.inl rfl) (by rw [nA_0 (by omega)]) (by rw [nA_0 (by omega)]; exact (wr_self _ _).symm)
set_option maxRecDepth 20000 in
set_option maxHeartbeats 2000000 in
theorem kX2_acceptsEndOfPart {V : Wo} {μ : Mem} {q : Nat} (hR : ReS V q) (hf : ReW (μ q)) {c : Int} (hc : 0 ≤ c) (hc2 : c < 128) : Con V 2 yX2_acceptsEndOfPart cX2_acceptsEndOfPart 2 (some .boolean) [vR q, vI c] (μ) (QI V ((nE (μ q) c).1) (wr μ q (nE (μ q) c).2)) := by
  refine con_of (ls0 := [vR q, vI c]) (by decide +kernel) rfl (Nat.le_of_ble_eq_true rfl) (Nat.le_of_ble_eq_true rfl) (fun X hV C hF => ?_)
  subst hV
  have C : Ok X RX2 cX2_acceptsEndOfPart 2 2 := C
  obtain ⟨R0, R1⟩ := id hR
  obtain ⟨w0, w1, w2, w3, w4⟩ := id hf
  refine r_iload_n C dX2_acceptsEndOfPart_0 rfl ?_
  refine r_bipush C dX2_acceptsEndOfPart_1 rfl ?_
  refine r_icmp_ne (tgt := 13) C dX2_acceptsEndOfPart_3 (by decide) (by omega) (by omega) (fun c3 => ?_) (fun c3 => ?_)
  · have _ := c3
    refine r_iconst C dX2_acceptsEndOfPart_13 ?_
    exact r_zret C hF dX2_acceptsEndOfPart_14 (Or.inl rfl) (by rw [nE_0 (by omega)]) (by rw [nE_0 (by omega)]; exact (wr_self _ _).symm)
  · have _ := c3
    refine r_aload_n C dX2_acceptsEndOfPart_6 rfl ?_
    refine r_runI (fun aH aL aj a1 a2 a3 => run_V C hF.2.2.1 (kX2_isComplete hR hf) lm_X2_isComplete ml_X2_49 im_X2_isComplete se_X2_isComplete R1 rfl (Nat.le_of_ble_eq_true rfl) dX2_acceptsEndOfPart_7 rfl (Nat.le_of_ble_eq_true rfl) a1 a2 a3) ?_
    refine r_if_ne (tgt := 15) C dX2_acceptsEndOfPart_10 (by decide) (by have := b01_r (μ q 3 = 3 ∨ (μ q 3 = 2 ∧ ¬ (μ q 0 = 109 ∧ μ q 4 = 0))); omega) (fun c10 => ?_) (fun c10 => ?_)
    · have hz : μ q 3 = 3 ∨ (μ q 3 = 2 ∧ ¬ (μ q 0 = 109 ∧ μ q 4 = 0)) := Decidable.byContradiction (fun z => c10 (b01_f z))
      refine r_aload_n C dX2_acceptsEndOfPart_15 rfl ?_
      refine r_iconst C dX2_acceptsEndOfPart_16 ?_
      refine pf_X2_22 C R1 R0 dX2_acceptsEndOfPart_17 ?_
      refine r_iconst C dX2_acceptsEndOfPart_20 ?_
      exact r_zret C hF dX2_acceptsEndOfPart_21 (Or.inr rfl) (by rw [nE_1 (by omega)]) (by rw [nE_1 (by omega)])
    · have hz : ¬ (μ q 3 = 3 ∨ (μ q 3 = 2 ∧ ¬ (μ q 0 = 109 ∧ μ q 4 = 0))) := fun z => by rw [b01_t z] at c10; omega
      refine r_iconst C dX2_acceptsEndOfPart_13 ?_
      exact r_zret C hF dX2_acceptsEndOfPart_14 (Or.inl rfl) (by rw [nE_0 (by omega)]) (by rw [nE_0 (by omega)]; exact (wr_self _ _).symm)
set_option maxRecDepth 20000 in
set_option maxHeartbeats 2000000 in
theorem kX2_accepts {V : Wo} {μ : Mem} {q : Nat} (hR : ReS V q) (hf : ReW (μ q)) {c : Int} (hc : 0 ≤ c) (hc2 : c < 128) : Con V 3 yX2_accepts cX2_accepts 2 (some .boolean) [vR q, vI c] (μ) (QI V ((nX (μ q) c).1) (wr μ q (nX (μ q) c).2)) := by
  refine con_of (ls0 := [vR q, vI c]) (by decide +kernel) rfl (Nat.le_of_ble_eq_true rfl) (Nat.le_of_ble_eq_true rfl) (fun X hV C hF => ?_)
  subst hV
  have C : Ok X RX2 cX2_accepts 2 3 := C
  obtain ⟨R0, R1⟩ := id hR
  obtain ⟨w0, w1, w2, w3, w4⟩ := id hf
  refine r_aload_n C dX2_accepts_0 rfl ?_
  refine gf_X2_22 C R1 dX2_accepts_1 ?_
  rcases (by omega : μ q 3 = 0 ∨ μ q 3 = 1 ∨ μ q 3 = 2 ∨ μ q 3 = 3) with e | e | e | e
  · rw [show nX (μ q) c = nL (μ q) c from if_pos e] at hF; rw [e]
    refine r_tsIn (tgt := 32) C dX2_accepts_4 (by omega) (by omega) (by omega) rfl (by decide) ?_
    refine r_aload_n C dX2_accepts_32 rfl ?_
    refine r_iload_n C dX2_accepts_33 rfl ?_
    refine r_runI (fun aH aL aj a1 a2 a3 => run_V C hF.2.2.1 (kX2_acceptsLetter hR hf hc hc2) lm_X2_acceptsLetter ml_X2_29 im_X2_acceptsLetter se_X2_acceptsLetter R1 rfl (Nat.le_of_ble_eq_true rfl) dX2_accepts_34 rfl (Nat.le_of_ble_eq_true rfl) a1 a2 a3) ?_
    exact r_zret C hF dX2_accepts_37 (nL_r _ _) rfl rfl
  · rw [show nX (μ q) c = nF (μ q) c by unfold nX; rw [if_neg (by omega), if_pos e]] at hF; rw [e]
    refine r_tsIn (tgt := 38) C dX2_accepts_4 (by omega) (by omega) (by omega) rfl (by decide) ?_
    refine r_aload_n C dX2_accepts_38 rfl ?_
    refine r_iload_n C dX2_accepts_39 rfl ?_
    refine r_runI (fun aH aL aj a1 a2 a3 => run_V C hF.2.2.1 (kX2_acceptsFirstDigit hR hf hc hc2) lm_X2_acceptsFirstDigit ml_X2_33 im_X2_acceptsFirstDigit se_X2_acceptsFirstDigit R1 rfl (Nat.le_of_ble_eq_true rfl) dX2_accepts_40 rfl (Nat.le_of_ble_eq_true rfl) a1 a2 a3) ?_
    exact r_zret C hF dX2_accepts_43 (nF_r _ _) rfl rfl
  · rw [show nX (μ q) c = (if (nS (μ q) c).1 ≠ 0 then nS (μ q) c else if (nA (μ q) c).1 ≠ 0 then nA (μ q) c else nE (μ q) c) by unfold nX; rw [if_neg (by omega), if_neg (by omega), if_pos e]] at hF; rw [e]
    refine r_tsIn (tgt := 44) C dX2_accepts_4 (by omega) (by omega) (by omega) rfl (by decide) ?_
    refine r_aload_n C dX2_accepts_44 rfl ?_
    refine r_iload_n C dX2_accepts_45 rfl ?_
    refine r_runI (fun aH aL aj a1 a2 a3 => run_V C hF.2.2.1 (kX2_acceptsSecondDigit hR hf hc hc2) lm_X2_acceptsSecondDigit ml_X2_36 im_X2_acceptsSecondDigit se_X2_acceptsSecondDigit R1 rfl (Nat.le_of_ble_eq_true rfl) dX2_accepts_46 rfl (Nat.le_of_ble_eq_true rfl) a1 a2 a3) ?_
    refine r_if_ne (tgt := 68) C dX2_accepts_49 (by decide) (by have := nS_r (μ q) c; omega) (fun c49 => ?_) (fun c49 => ?_)
    · rw [if_pos c49] at hF
      refine r_iconst C dX2_accepts_68 ?_
      refine r_goto (tgt := 73) C dX2_accepts_69 (by decide) ?_
      exact r_zret C hF dX2_accepts_73 (Or.inr rfl) (by have := nS_r (μ q) c; omega) rfl
    · rw [if_neg (fun z => z c49)] at hF; rw [nS_z c49, wr_self]
      refine r_aload_n C dX2_accepts_52 rfl ?_
      refine r_iload_n C dX2_accepts_53 rfl ?_
      refine r_runI (fun aH aL aj a1 a2 a3 => run_V C hF.2.2.1 (kX2_acceptsArrow hR hf hc hc2) lm_X2_acceptsArrow ml_X2_39 im_X2_acceptsArrow se_X2_acceptsArrow R1 rfl (Nat.le_of_ble_eq_true rfl) dX2_accepts_54 rfl (Nat.le_of_ble_eq_true rfl) a1 a2 a3) ?_
      refine r_if_ne (tgt := 68) C dX2_accepts_57 (by decide) (by have := nA_r (μ q) c; omega) (fun c57 => ?_) (fun c57 => ?_)
      · rw [if_pos c57] at hF
        refine r_iconst C dX2_accepts_68 ?_
        refine r_goto (tgt := 73) C dX2_accepts_69 (by decide) ?_
        exact r_zret C hF dX2_accepts_73 (Or.inr rfl) (by have := nA_r (μ q) c; omega) rfl
      · rw [if_neg (fun z => z c57)] at hF; rw [nA_z c57, wr_self]
        refine r_aload_n C dX2_accepts_60 rfl ?_
        refine r_iload_n C dX2_accepts_61 rfl ?_
        refine r_runI (fun aH aL aj a1 a2 a3 => run_V C hF.2.2.1 (kX2_acceptsEndOfPart hR hf hc hc2) lm_X2_acceptsEndOfPart ml_X2_42 im_X2_acceptsEndOfPart se_X2_acceptsEndOfPart R1 rfl (Nat.le_of_ble_eq_true rfl) dX2_accepts_62 rfl (Nat.le_of_ble_eq_true rfl) a1 a2 a3) ?_
        refine r_if_eq (tgt := 72) C dX2_accepts_65 (by decide) (by have := nE_r (μ q) c; omega) (fun c65 => ?_) (fun c65 => ?_)
        · skip
          refine r_iconst C dX2_accepts_72 ?_
          exact r_zret C hF dX2_accepts_73 (Or.inl rfl) c65.symm rfl
        · skip
          refine r_iconst C dX2_accepts_68 ?_
          refine r_goto (tgt := 73) C dX2_accepts_69 (by decide) ?_
          exact r_zret C hF dX2_accepts_73 (Or.inr rfl) (by have := nE_r (μ q) c; omega) rfl
  · rw [show nX (μ q) c = nE (μ q) c by unfold nX; rw [if_neg (by omega), if_neg (by omega), if_neg (by omega)]] at hF; rw [e]
    refine r_tsOut (tgt := 74) C dX2_accepts_4 (by omega) (by omega) (by decide) ?_
    refine r_aload_n C dX2_accepts_74 rfl ?_
    refine r_iload_n C dX2_accepts_75 rfl ?_
    refine r_runI (fun aH aL aj a1 a2 a3 => run_V C hF.2.2.1 (kX2_acceptsEndOfPart hR hf hc hc2) lm_X2_acceptsEndOfPart ml_X2_42 im_X2_acceptsEndOfPart se_X2_acceptsEndOfPart R1 rfl (Nat.le_of_ble_eq_true rfl) dX2_accepts_76 rfl (Nat.le_of_ble_eq_true rfl) a1 a2 a3) ?_
    exact r_zret C hF dX2_accepts_79 (nE_r _ _) rfl rfl
set_option maxRecDepth 20000 in
set_option maxHeartbeats 2000000 in
theorem kX1_dropOldest {V : Wo} {μ : Mem} {q : Nat} (hH : HiS V q) (hW : HiW V μ q) : Con V 0 yX1_dropOldest cX1_dropOldest 3 (none) [vR q] (μ) (QV V (drp μ q)) := by
  refine con_of (ls0 := [vR q, vU, vU]) (by decide +kernel) rfl (Nat.le_of_ble_eq_true rfl) (Nat.le_of_ble_eq_true rfl) (fun X hV C hF => ?_)
  subst hV
  have C : Ok X RX1 cX1_dropOldest 3 0 := C
  obtain ⟨H0, H1, H2⟩ := id hH
  obtain ⟨w1, w2⟩ := id hW
  refine r_aload_n C dX1_dropOldest_0 rfl ?_
  refine gf_X1_11 C H1 dX1_dropOldest_1 ?_
  refine r_alenS C H2 dX1_dropOldest_4 ?_
  refine r_if_le (tgt := 17) C dX1_dropOldest_5 (by decide) (by omega) (fun c5 => absurd c5 (by omega)) (fun c5 => ?_)
  refine r_aload_n C dX1_dropOldest_8 rfl ?_
  refine gf_X1_11 C H1 dX1_dropOldest_9 ?_
  refine r_iconst C dX1_dropOldest_12 ?_
  refine r_aald C H2 (by omega) (by omega) dX1_dropOldest_13 ?_
  refine r_goto (tgt := 18) C dX1_dropOldest_14 (by decide) ?_
  refine r_astore_n C dX1_dropOldest_18 (by decide) rfl ?_
  refine r_iconst C dX1_dropOldest_19 ?_
  refine r_istore_n C dX1_dropOldest_20 (by decide) rfl ?_
  have o0 := w2 0 (by omega) (by omega)
  refine r_eq (μ' := wr μ (q + 1) (rtR (μ (q + 1)) 1)) ?_ (by rw [rtR_1, wr_self])
  refine loop_up (F := fun i => RR X (wr μ (q + 1) (rtR (μ (q + 1)) i)) 21 [vR q, vR (μ (q + 1) 0).toNat, vI i] []) (a := 1) (b := 6) (by omega) ?_ ?_
  · show RR X _ _ [vR q, vR (μ (q + 1) 0).toNat, vI 6] []
    refine r_iload_n C dX1_dropOldest_21 rfl ?_
    refine r_aload_n C dX1_dropOldest_22 rfl ?_
    refine gf_X1_11 C H1 dX1_dropOldest_23 ?_
    refine r_alenS C H2 dX1_dropOldest_26 ?_
    refine r_icmp_ge (tgt := 57) C dX1_dropOldest_27 (by decide) (by omega) (by omega) (fun c27 => ?_) (fun c27 => absurd c27 (by omega))
    refine r_aload_n C dX1_dropOldest_57 rfl ?_
    refine r_dup C dX1_dropOldest_58 rfl ?_
    refine gf_X1_18 C H1 dX1_dropOldest_59 ?_
    refine r_iconst C dX1_dropOldest_62 ?_
    refine r_isub C dX1_dropOldest_63 ?_
    refine pf_X1_18 C H1 H0 dX1_dropOldest_64 ?_
    exact r_vret C hF dX1_dropOldest_67 (by unfold drp; simp (disch := omega) only [wr_n])
  · intro i h0 h1 K
    show RR X _ _ [vR q, vR (μ (q + 1) 0).toNat, vI i] []
    have oi := w2 i (by omega) (by omega)
    have ei : rtR (μ (q + 1)) i i = μ (q + 1) i := by unfold rtR; rw [if_neg (by omega), if_neg (by omega)]
    refine r_iload_n C dX1_dropOldest_21 rfl ?_
    refine r_aload_n C dX1_dropOldest_22 rfl ?_
    refine gf_X1_11 C H1 dX1_dropOldest_23 ?_
    refine r_alenS C H2 dX1_dropOldest_26 ?_
    refine r_icmp_ge (tgt := 57) C dX1_dropOldest_27 (by decide) (by omega) (by omega) (fun c27 => absurd c27 (by omega)) (fun c27 => ?_)
    refine r_aload_n C dX1_dropOldest_30 rfl ?_
    refine gf_X1_11 C H1 dX1_dropOldest_31 ?_
    refine r_iload_n C dX1_dropOldest_34 rfl ?_
    refine r_iconst C dX1_dropOldest_35 ?_
    refine r_isub C dX1_dropOldest_36 ?_
    refine r_aload_n C dX1_dropOldest_37 rfl ?_
    refine gf_X1_11 C H1 dX1_dropOldest_38 ?_
    refine r_iload_n C dX1_dropOldest_41 rfl ?_
    refine r_aald C H2 (by omega) (by omega) dX1_dropOldest_42 ?_
    rw [wr_s, ei]
    refine r_aast C H2 (by omega) oi.2.1.2.1 (by omega) (by omega) dX1_dropOldest_43 ?_
    refine r_aload_n C dX1_dropOldest_44 rfl ?_
    refine gf_X1_11 C H1 dX1_dropOldest_45 ?_
    refine r_iload_n C dX1_dropOldest_48 rfl ?_
    refine r_aload_n C dX1_dropOldest_49 rfl ?_
    refine r_aast C H2 (by omega) o0.2.1.2.1 (by omega) (by omega) dX1_dropOldest_50 ?_
    refine r_iinc C dX1_dropOldest_51 rfl (by decide) rfl ?_
    refine r_goto (tgt := 21) C dX1_dropOldest_54 (by decide) ?_
    refine r_eq K ?_
    simp only [wr_ww, wr_s]
    rw [Int.toNat_of_nonneg oi.1, Int.toNat_of_nonneg o0.1, rtR_s _ h0]
