set_option maxRecDepth 20000 in
set_option maxHeartbeats 2000000 in
theorem kX1_dropOldest {V : Wo} {μ : Mem} {q : Nat} (hH : HiS V q) (hW : HiW V μ q) : Con V 0 yX1_dropOldest cX1_dropOldest 3 (none) [vR q] (μ) (QV V (drp μ q)) := by
  refine con_of (ls0 := [vR q, vU, vU]) (by decide +kernel) rfl (Nat.le_of_ble_eq_true rfl) (Nat.le_of_ble_eq_true rfl) (fun X hV C hF => ?_)
  subst hV
  have C : Ok X RX1 cX1_dropOldest 3 0 := C
  obtain ⟨H0, H1, H2⟩ := id hH
  obtain ⟨w1, w2⟩ := id hW
  refine r_aload_n C dX1_dropOldest_0 rfl ?_
  refine gf_X1_11 C H1 dX1_dropOldest_1 ?_
  refine r_alenS C H2 dX1_dropOldest_4 ?_
  refine r_if_le (tgt := 17) C dX1_dropOldest_5 (by decide) (by omega) (fun c5 => absurd c5 (by omega)) (fun c5 => ?_)
  refine r_aload_n C dX1_dropOldest_8 rfl ?_
  refine gf_X1_11 C H1 dX1_dropOldest_9 ?_
  refine r_iconst C dX1_dropOldest_12 ?_
  refine r_aald C H2 (by omega) (by omega) dX1_dropOldest_13 ?_
  refine r_goto (tgt := 18) C dX1_dropOldest_14 (by decide) ?_
  refine r_astore_n C dX1_dropOldest_18 (by decide) rfl ?_
  refine r_iconst C dX1_dropOldest_19 ?_
  refine r_istore_n C dX1_dropOldest_20 (by decide) rfl ?_
  have o0 := w2 0 (by omega) (by omega)
  refine r_eq (μ' := wr μ (q + 1) (rtR (μ (q + 1)) 1)) ?_ (by rw [rtR_1, wr_self])
  refine loop_up (F := fun i => RR X (wr μ (q + 1) (rtR (μ (q + 1)) i)) 21 [vR q, vR (μ (q + 1) 0).toNat, vI i] []) (a := 1) (b := 6) (by omega) ?_ ?_
  · show RR X _ _ [vR q, vR (μ (q + 1) 0).toNat, vI 6] []
    refine r_iload_n C dX1_dropOldest_21 rfl ?_
    refine r_aload_n C dX1_dropOldest_22 rfl ?_
    refine gf_X1_11 C H1 dX1_dropOldest_23 ?_
    refine r_alenS C H2 dX1_dropOldest_26 ?_
    refine r_icmp_ge (tgt := 57) C dX1_dropOldest_27 (by decide) (by omega) (by omega) (fun c27 => ?_) (fun c27 => absurd c27 (by omega))
    refine r_aload_n C dX1_dropOldest_57 rfl ?_
    refine r_dup C dX1_dropOldest_58 rfl ?_
    refine gf_X1_18 C H1 dX1_dropOldest_59 ?_
    refine r_iconst C dX1_dropOldest_62 ?_
    refine r_isub C dX1_dropOldest_63 ?_
    refine pf_X1_18 C H1 H0 dX1_dropOldest_64 ?_
    exact r_vret C hF dX1_dropOldest_67 (by unfold drp; simp (disch := omega) only [wr_n])
  · intro i h0 h1 K
    show RR X _ _ [vR q, vR (μ (q + 1) 0).toNat, vI i] []
    have oi := w2 i (by omega) (by omega)
    have ei : rtR (μ (q + 1)) i i = μ (q + 1) i := by unfold rtR; rw [if_neg (by omega), if_neg (by omega)]
    refine r_iload_n C dX1_dropOldest_21 rfl ?_
    refine r_aload_n C dX1_dropOldest_22 rfl ?_
    refine gf_X1_11 C H1 dX1_dropOldest_23 ?_
    refine r_alenS C H2 dX1_dropOldest_26 ?_
    refine r_icmp_ge (tgt := 57) C dX1_dropOldest_27 (by decide) (by omega) (by omega) (fun c27 => absurd c27 (by omega)) (fun c27 => ?_)
    refine r_aload_n C dX1_dropOldest_30 rfl ?_
    refine gf_X1_11 C H1 dX1_dropOldest_31 ?_
    refine r_iload_n C dX1_dropOldest_34 rfl ?_
    refine r_iconst C dX1_dropOldest_35 ?_
    refine r_isub C dX1_dropOldest_36 ?_
    refine r_aload_n C dX1_dropOldest_37 rfl ?_
    refine gf_X1_11 C H1 dX1_dropOldest_38 ?_
    refine r_iload_n C dX1_dropOldest_41 rfl ?_
    refine r_aald C H2 (by omega) (by omega) dX1_dropOldest_42 ?_
    rw [wr_s, ei]
    refine r_aast C H2 (by omega) oi.2.1.2.1 (by omega) (by omega) dX1_dropOldest_43 ?_
    refine r_aload_n C dX1_dropOldest_44 rfl ?_
    refine gf_X1_11 C H1 dX1_dropOldest_45 ?_
    refine r_iload_n C dX1_dropOldest_48 rfl ?_
    refine r_aload_n C dX1_dropOldest_49 rfl ?_
    refine r_aast C H2 (by omega) o0.2.1.2.1 (by omega) (by omega) dX1_dropOldest_50 ?_
    refine r_iinc C dX1_dropOldest_51 rfl (by decide) rfl ?_
    refine r_goto (tgt := 21) C dX1_dropOldest_54 (by decide) ?_
    refine r_eq K ?_
    simp only [wr_ww, wr_s]
    rw [Int.toNat_of_nonneg oi.1, Int.toNat_of_nonneg o0.1, rtR_s _ h0]

