set_option maxRecDepth 20000 in
set_option maxHeartbeats 2000000 in
theorem kX3_copyFrom {V : Wo} {μ : Mem} {h g : Nat} (hS : StS V h) (hG : StS V g) (hd : h + 11 < g ∨ g + 11 < h) : Con V 3 yX3_copyFrom cX3_copyFrom 2 (none) [vR h, vR g] (μ) (QV V (cpS μ h g)) := by
  refine con_of (ls0 := [vR h, vR g]) (by decide +kernel) rfl (Nat.le_of_ble_eq_true rfl) (Nat.le_of_ble_eq_true rfl) (fun X hV C hF => ?_)
  subst hV
  have C : Ok X RX3 cX3_copyFrom 2 3 := C
  obtain ⟨S0, S1, SB, Sc, Si, Sp, Sh, Ss⟩ := id hS
  obtain ⟨G0, G1, GB, Gc, Gi, Gp, Gh, Gs⟩ := id hG
  refine r_aload_n C dX3_copyFrom_0 rfl ?_
  refine r_ifnull C dX3_copyFrom_1 ?_
  refine r_aload_n C dX3_copyFrom_4 rfl ?_
  refine gf_X3_12 C S1 dX3_copyFrom_5 ?_
  refine r_aload_n C dX3_copyFrom_8 rfl ?_
  refine gf_X3_12 C G1 dX3_copyFrom_9 ?_
  refine r_runV (fun aH aL aj a1 a2 a3 => run_V C hF.2.2.1 (kX0_copyFrom SB GB (by omega)) lm_X0_copyFrom ml_X3_54 im_X0_copyFrom se_X0_copyFrom SB.2.1 rfl (Nat.le_of_ble_eq_true rfl) dX3_copyFrom_12 rfl (Nat.le_of_ble_eq_true rfl) a1 a2 a3) ?_
  refine r_aload_n C dX3_copyFrom_15 rfl ?_
  refine gf_X3_18 C G1 dX3_copyFrom_16 ?_
  refine r_aload_n C dX3_copyFrom_19 rfl ?_
  refine gf_X3_18 C S1 dX3_copyFrom_20 ?_
  refine r_runV (fun aH aL aj a1 a2 a3 => run_SN C hF.2.2.1 (kX4_copyRow Gc Sc (by omega) (by decide)) lm_X4_copyRow mn_X3_43 sm_X4_copyRow (Nat.le_of_ble_eq_true rfl) dX3_copyFrom_23 rfl (Nat.le_of_ble_eq_true rfl) a1 a2 a3) ?_
  simp (disch := omega) only [wr_n, wr_s]
  refine r_aload_n C dX3_copyFrom_26 rfl ?_
  refine gf_X3_22 C G1 dX3_copyFrom_27 ?_
  refine r_aload_n C dX3_copyFrom_30 rfl ?_
  refine gf_X3_22 C S1 dX3_copyFrom_31 ?_
  refine r_runV (fun aH aL aj a1 a2 a3 => run_SN C hF.2.2.1 (kX4_copyRow Gi Si (by omega) (by decide)) lm_X4_copyRow mn_X3_43 sm_X4_copyRow (Nat.le_of_ble_eq_true rfl) dX3_copyFrom_34 rfl (Nat.le_of_ble_eq_true rfl) a1 a2 a3) ?_
  simp (disch := omega) only [wr_n, wr_s]
  refine r_aload_n C dX3_copyFrom_37 rfl ?_
  refine gf_X3_25 C G1 dX3_copyFrom_38 ?_
  refine r_aload_n C dX3_copyFrom_41 rfl ?_
  refine gf_X3_25 C S1 dX3_copyFrom_42 ?_
  refine r_runV (fun aH aL aj a1 a2 a3 => run_SN C hF.2.2.1 (kX4_copyRow Gp Sp (by omega) (by decide)) lm_X4_copyRow mn_X3_43 sm_X4_copyRow (Nat.le_of_ble_eq_true rfl) dX3_copyFrom_45 rfl (Nat.le_of_ble_eq_true rfl) a1 a2 a3) ?_
  simp (disch := omega) only [wr_n, wr_s]
  refine r_aload_n C dX3_copyFrom_48 rfl ?_
  refine gf_X3_28 C G1 dX3_copyFrom_49 ?_
  refine r_aload_n C dX3_copyFrom_52 rfl ?_
  refine gf_X3_28 C S1 dX3_copyFrom_53 ?_
  refine r_runV (fun aH aL aj a1 a2 a3 => run_SN C hF.2.2.1 (kX4_copyRow Gh Sh (by omega) (by decide)) lm_X4_copyRow mn_X3_43 sm_X4_copyRow (Nat.le_of_ble_eq_true rfl) dX3_copyFrom_56 rfl (Nat.le_of_ble_eq_true rfl) a1 a2 a3) ?_
  simp (disch := omega) only [wr_n, wr_s]
  refine r_aload_n C dX3_copyFrom_59 rfl ?_
  refine gf_X3_31 C G1 dX3_copyFrom_60 ?_
  refine r_aload_n C dX3_copyFrom_63 rfl ?_
  refine gf_X3_31 C S1 dX3_copyFrom_64 ?_
  refine r_runV (fun aH aL aj a1 a2 a3 => run_SN C hF.2.2.1 (kX4_copyRow Gs Ss (by omega) (by decide)) lm_X4_copyRow mn_X3_43 sm_X4_copyRow (Nat.le_of_ble_eq_true rfl) dX3_copyFrom_67 rfl (Nat.le_of_ble_eq_true rfl) a1 a2 a3) ?_
  simp (disch := omega) only [wr_n, wr_s]
  refine r_aload_n C dX3_copyFrom_70 rfl ?_
  refine r_aload_n C dX3_copyFrom_71 rfl ?_
  refine gf_X3_47 C G1 dX3_copyFrom_72 ?_
  simp (disch := omega) only [wr_n, wr_s]
  refine pf_X3_47 C S1 S0 dX3_copyFrom_75 ?_
  refine r_aload_n C dX3_copyFrom_78 rfl ?_
  refine r_aload_n C dX3_copyFrom_79 rfl ?_
  refine gf_X3_51 C G1 dX3_copyFrom_80 ?_
  simp (disch := omega) only [wr_n, wr_s]
  refine pf_X3_51 C S1 S0 dX3_copyFrom_83 ?_
  exact r_vret C hF dX3_copyFrom_86 (by unfold cpS; simp only [wr_s])
set_option maxRecDepth 20000 in
set_option maxHeartbeats 2000000 in
theorem kX3_bookSheets {V : Wo} {μ : Mem} {h : Nat} {K : Int} (hS : StS V h) (hW : StW K μ h) : Con V 1 yX3_bookSheets cX3_bookSheets 1 (some .int) [vR h] (μ) (QI V (μ (h + 11) 0) (μ)) := by
  refine con_of (ls0 := [vR h]) (by decide +kernel) rfl (Nat.le_of_ble_eq_true rfl) (Nat.le_of_ble_eq_true rfl) (fun X hV C hF => ?_)
  subst hV
  have C : Ok X RX3 cX3_bookSheets 1 1 := C
  obtain ⟨S0, S1, SB, Sc, Si, Sp, Sh, Ss⟩ := id hS
  obtain ⟨hK, WB, Wc, Wi, Wp, Wh, Ws0, Ws1, Ws2, Wbk, Wls⟩ := id hW
  obtain ⟨W0, W1, W2, W3⟩ := id WB
  refine r_aload_n C dX3_bookSheets_0 rfl ?_
  refine gf_X3_31 C S1 dX3_bookSheets_1 ?_
  refine r_iconst C dX3_bookSheets_4 ?_
  refine r_runI (fun aH aL aj a1 a2 a3 => run_SN C hF.2.2.1 (kX4_at Ss (by decide) (by omega) (by omega)) lm_X4_at mn_X3_58 sm_X4_at (Nat.le_of_ble_eq_true rfl) dX3_bookSheets_5 rfl (Nat.le_of_ble_eq_true rfl) a1 a2 a3) ?_
  exact r_iret C hF dX3_bookSheets_8 rfl rfl
set_option maxRecDepth 20000 in
set_option maxHeartbeats 2000000 in
theorem kX3_hasCopyAndRoom {V : Wo} {μ : Mem} {h : Nat} {K : Int} (hS : StS V h) (hW : StW K μ h) {x : Int} (hx : 0 ≤ x) (hx2 : x < 16) : Con V 1 yX3_hasCopyAndRoom cX3_hasCopyAndRoom 2 (some .boolean) [vR h, vI x] (μ) (QI V (b01 (0 < μ (h + 7) x ∧ μ (h + 1) 2 < 20)) (μ)) := by
  refine con_of (ls0 := [vR h, vI x]) (by decide +kernel) rfl (Nat.le_of_ble_eq_true rfl) (Nat.le_of_ble_eq_true rfl) (fun X hV C hF => ?_)
  subst hV
  have C : Ok X RX3 cX3_hasCopyAndRoom 2 1 := C
  obtain ⟨S0, S1, SB, Sc, Si, Sp, Sh, Ss⟩ := id hS
  obtain ⟨hK, WB, Wc, Wi, Wp, Wh, Ws0, Ws1, Ws2, Wbk, Wls⟩ := id hW
  obtain ⟨W0, W1, W2, W3⟩ := id WB
  refine r_aload_n C dX3_hasCopyAndRoom_0 rfl ?_
  refine gf_X3_18 C S1 dX3_hasCopyAndRoom_1 ?_
  refine r_iload_n C dX3_hasCopyAndRoom_4 rfl ?_
  refine r_runI (fun aH aL aj a1 a2 a3 => run_SN C hF.2.2.1 (kX4_at Sc (by decide) (by omega) (by omega)) lm_X4_at mn_X3_58 sm_X4_at (Nat.le_of_ble_eq_true rfl) dX3_hasCopyAndRoom_5 rfl (Nat.le_of_ble_eq_true rfl) a1 a2 a3) ?_
  refine r_if_le (tgt := 27) C dX3_hasCopyAndRoom_8 (by decide) (by have := Wc x hx hx2; omega) (fun c8 => ?_) (fun c8 => ?_)
  · have _ := c8
    refine r_iconst C dX3_hasCopyAndRoom_27 ?_
    exact r_zret C hF dX3_hasCopyAndRoom_28 (by omega) (by unfold b01; split <;> omega) rfl
  · have _ := c8
    refine r_aload_n C dX3_hasCopyAndRoom_11 rfl ?_
    refine gf_X3_12 C S1 dX3_hasCopyAndRoom_12 ?_
    refine gf_X3_62 C SB.2.1 dX3_hasCopyAndRoom_15 ?_
    refine r_bipush C dX3_hasCopyAndRoom_18 rfl ?_
    refine r_icmp_ge (tgt := 27) C dX3_hasCopyAndRoom_20 (by decide) (by omega) (by omega) (fun c20 => ?_) (fun c20 => ?_)
    · have _ := c20
      refine r_iconst C dX3_hasCopyAndRoom_27 ?_
      exact r_zret C hF dX3_hasCopyAndRoom_28 (by omega) (by unfold b01; split <;> omega) rfl
    · have _ := c20
      refine r_iconst C dX3_hasCopyAndRoom_23 ?_
      refine r_goto (tgt := 28) C dX3_hasCopyAndRoom_24 (by decide) ?_
      exact r_zret C hF dX3_hasCopyAndRoom_28 (by omega) (by unfold b01; split <;> omega) rfl
set_option maxRecDepth 20000 in
set_option maxHeartbeats 2000000 in
theorem kX3_putFromBin {V : Wo} {μ : Mem} {h : Nat} {K : Int} (hS : StS V h) (hW : StW K μ h) {p x : Int} (hp : 0 ≤ p) (hp2 : p ≤ (μ (h + 1) 2)) (hn : (μ (h + 1) 2) < 20) (hx : 0 ≤ x) (hx2 : x < 16) : Con V 2 yX3_putFromBin cX3_putFromBin 3 (none) [vR h, vI p, vI x] (μ) (QV V (wr (wr (wr (wr μ (h + 7) (s1 (μ (h + 7)) x (μ (h + 7) x + -1))) (h + 1 + 1) (insR (μ (h + 1 + 1)) p (μ (h + 1) 2) x)) (h + 1 + 2) (insR (μ (h + 1 + 2)) p (μ (h + 1) 2) 0)) (h + 1) (s1 (μ (h + 1)) 2 ((μ (h + 1) 2) + 1)))) := by
  refine con_of (ls0 := [vR h, vI p, vI x]) (by decide +kernel) rfl (Nat.le_of_ble_eq_true rfl) (Nat.le_of_ble_eq_true rfl) (fun X hV C hF => ?_)
  subst hV
  have C : Ok X RX3 cX3_putFromBin 3 2 := C
  obtain ⟨S0, S1, SB, Sc, Si, Sp, Sh, Ss⟩ := id hS
  obtain ⟨hK, WB, Wc, Wi, Wp, Wh, Ws0, Ws1, Ws2, Wbk, Wls⟩ := id hW
  obtain ⟨W0, W1, W2, W3⟩ := id WB
  refine r_aload_n C dX3_putFromBin_0 rfl ?_
  refine gf_X3_18 C S1 dX3_putFromBin_1 ?_
  refine r_iload_n C dX3_putFromBin_4 rfl ?_
  refine r_iconst C dX3_putFromBin_5 ?_
  refine r_runV (fun aH aL aj a1 a2 a3 => run_SN C hF.2.2.1 (kX4_addTo Sc (by omega) (by decide) hx hx2) lm_X4_addTo mn_X3_65 sm_X4_addTo (Nat.le_of_ble_eq_true rfl) dX3_putFromBin_6 rfl (Nat.le_of_ble_eq_true rfl) a1 a2 a3) ?_
  refine r_aload_n C dX3_putFromBin_9 rfl ?_
  refine gf_X3_12 C S1 dX3_putFromBin_10 ?_
  refine r_iload_n C dX3_putFromBin_13 rfl ?_
  refine r_iload_n C dX3_putFromBin_14 rfl ?_
  refine r_iconst C dX3_putFromBin_15 ?_
  have hWb : BlW (wr μ (h + 7) (s1 (μ (h + 7)) x (μ (h + 7) x + -1))) (h + 1) := by
    show wfB _ _ _
    simp (disch := omega) only [wr_n]
    exact WB
  refine r_runV (fun aH aL aj a1 a2 a3 => run_V C hF.2.2.1 (kX0_putIn SB hWb (p := p) (x := x) (y := 0) hp (by rw [wr_n _ _ (by omega)]; omega) (by rw [wr_n _ _ (by omega)]; omega)) lm_X0_putIn ml_X3_69 im_X0_putIn se_X0_putIn SB.2.1 rfl (Nat.le_of_ble_eq_true rfl) dX3_putFromBin_16 rfl (Nat.le_of_ble_eq_true rfl) a1 a2 a3) ?_
  exact r_vret C hF dX3_putFromBin_19 (by simp (disch := omega) only [wr_n])
set_option maxRecDepth 20000 in
set_option maxHeartbeats 2000000 in
theorem kX3_putBack {V : Wo} {μ : Mem} {h : Nat} {K : Int} (hS : StS V h) (hW : StW K μ h) {p : Int} (hp : 0 ≤ p) (hp2 : p < (μ (h + 1) 2)) : Con V 2 yX3_putBack cX3_putBack 3 (some .int) [vR h, vI p] (μ) (QI V (μ (h + 1 + 1) p) (wr (wr (wr (wr μ (h + 1 + 1) (remR (μ (h + 1 + 1)) p (μ (h + 1) 2))) (h + 1 + 2) (remR (μ (h + 1 + 2)) p (μ (h + 1) 2))) (h + 1) (s1 (μ (h + 1)) 2 ((μ (h + 1) 2) - 1))) (h + 7) (s1 (μ (h + 7)) (μ (h + 1 + 1) p) (μ (h + 7) (μ (h + 1 + 1) p) + 1)))) := by
  refine con_of (ls0 := [vR h, vI p, vU]) (by decide +kernel) rfl (Nat.le_of_ble_eq_true rfl) (Nat.le_of_ble_eq_true rfl) (fun X hV C hF => ?_)
  subst hV
  have C : Ok X RX3 cX3_putBack 3 2 := C
  obtain ⟨S0, S1, SB, Sc, Si, Sp, Sh, Ss⟩ := id hS
  obtain ⟨hK, WB, Wc, Wi, Wp, Wh, Ws0, Ws1, Ws2, Wbk, Wls⟩ := id hW
  obtain ⟨W0, W1, W2, W3⟩ := id WB
  refine r_aload_n C dX3_putBack_0 rfl ?_
  refine gf_X3_12 C S1 dX3_putBack_1 ?_
  refine gf_X3_73 C SB.2.1 dX3_putBack_4 ?_
  refine r_iload_n C dX3_putBack_7 rfl ?_
  refine r_runI (fun aH aL aj a1 a2 a3 => run_SN C hF.2.2.1 (kX4_at SB.2.2.1 (by decide) (by omega) (by omega)) lm_X4_at mn_X3_58 sm_X4_at (Nat.le_of_ble_eq_true rfl) dX3_putBack_8 rfl (Nat.le_of_ble_eq_true rfl) a1 a2 a3) ?_
  refine r_istore_n C dX3_putBack_11 (by decide) rfl ?_
  refine r_aload_n C dX3_putBack_12 rfl ?_
  refine gf_X3_12 C S1 dX3_putBack_13 ?_
  refine r_iload_n C dX3_putBack_16 rfl ?_
  refine r_runV (fun aH aL aj a1 a2 a3 => run_V C hF.2.2.1 (kX0_takeOut SB WB hp hp2) lm_X0_takeOut ml_X3_76 im_X0_takeOut se_X0_takeOut SB.2.1 rfl (Nat.le_of_ble_eq_true rfl) dX3_putBack_17 rfl (Nat.le_of_ble_eq_true rfl) a1 a2 a3) ?_
  refine r_aload_n C dX3_putBack_20 rfl ?_
  refine gf_X3_18 C S1 dX3_putBack_21 ?_
  refine r_iload_n C dX3_putBack_24 rfl ?_
  refine r_iconst C dX3_putBack_25 ?_
  refine r_runV (fun aH aL aj a1 a2 a3 => run_SN C hF.2.2.1 (kX4_addTo Sc (by omega) (by decide) (W2 p hp hp2).1 (W2 p hp hp2).2) lm_X4_addTo mn_X3_65 sm_X4_addTo (Nat.le_of_ble_eq_true rfl) dX3_putBack_26 rfl (Nat.le_of_ble_eq_true rfl) a1 a2 a3) ?_
  simp (disch := omega) only [wr_n]
  refine r_iload_n C dX3_putBack_29 rfl ?_
  exact r_iret C hF dX3_putBack_30 rfl rfl
set_option maxRecDepth 20000 in
set_option maxHeartbeats 2000000 in
theorem kX3_bindBlock {V : Wo} {μ : Mem} {h : Nat} {K : Int} (hS : StS V h) (hW : StW K μ h) : Con V 2 yX3_bindBlock cX3_bindBlock 2 (none) [vR h] (μ) (QV V (wr (wr (wr μ (h + 8) (bkR (μ (h + 1 + 1)) (μ (h + 8)) (μ (h + 1) 2))) (h + 1) (s1 (μ (h + 1)) 2 0)) h (s1 (μ h) 6 (μ h 6 + 1)))) := by
  refine con_of (ls0 := [vR h, vU]) (by decide +kernel) rfl (Nat.le_of_ble_eq_true rfl) (Nat.le_of_ble_eq_true rfl) (fun X hV C hF => ?_)
  subst hV
  have C : Ok X RX3 cX3_bindBlock 2 2 := C
  obtain ⟨S0, S1, SB, Sc, Si, Sp, Sh, Ss⟩ := id hS
  obtain ⟨hK, WB, Wc, Wi, Wp, Wh, Ws0, Ws1, Ws2, Wbk, Wls⟩ := id hW
  obtain ⟨W0, W1, W2, W3⟩ := id WB
  refine r_iconst C dX3_bindBlock_0 ?_
  refine r_istore_n C dX3_bindBlock_1 (by decide) rfl ?_
  refine r_eq (μ' := wr μ (h + 8) (bkR (μ (h + 1 + 1)) (μ (h + 8)) 0)) ?_ (by rw [bkR_0, wr_self])
  refine loop_up (F := fun i => RR X (wr μ (h + 8) (bkR (μ (h + 1 + 1)) (μ (h + 8)) i)) 2 [vR h, vI i] []) (a := 0) (b := (μ (h + 1) 2)) W0 ?_ ?_
  · show RR X _ _ [vR h, vI (μ (h + 1) 2)] []
    refine r_iload_n C dX3_bindBlock_2 rfl ?_
    refine r_aload_n C dX3_bindBlock_3 rfl ?_
    refine gf_X3_12 C S1 dX3_bindBlock_4 ?_
    refine gf_X3_62 C SB.2.1 dX3_bindBlock_7 ?_
    rw [wr_n _ _ (by omega)]
    refine r_icmp_ge (tgt := 38) C dX3_bindBlock_10 (by decide) (by omega) (by omega) (fun c10 => ?_) (fun c10 => absurd c10 (by omega))
    refine r_aload_n C dX3_bindBlock_38 rfl ?_
    refine gf_X3_12 C S1 dX3_bindBlock_39 ?_
    refine r_iconst C dX3_bindBlock_42 ?_
    refine pf_X3_62 C SB.2.1 SB.1 dX3_bindBlock_43 ?_
    refine r_aload_n C dX3_bindBlock_46 rfl ?_
    refine r_dup C dX3_bindBlock_47 rfl ?_
    refine gf_X3_47 C S1 dX3_bindBlock_48 ?_
    refine r_iconst C dX3_bindBlock_51 ?_
    refine r_iadd C dX3_bindBlock_52 ?_
    refine pf_X3_47 C S1 S0 dX3_bindBlock_53 ?_
    exact r_vret C hF dX3_bindBlock_56 (by simp (disch := omega) only [wr_n])
  · intro i h0 h1 K2
    show RR X _ _ [vR h, vI i] []
    refine r_iload_n C dX3_bindBlock_2 rfl ?_
    refine r_aload_n C dX3_bindBlock_3 rfl ?_
    refine gf_X3_12 C S1 dX3_bindBlock_4 ?_
    refine gf_X3_62 C SB.2.1 dX3_bindBlock_7 ?_
    rw [wr_n _ _ (by omega)]
    refine r_icmp_ge (tgt := 38) C dX3_bindBlock_10 (by decide) (by omega) (by omega) (fun c10 => absurd c10 (by omega)) (fun c10 => ?_)
    refine r_aload_n C dX3_bindBlock_13 rfl ?_
    refine gf_X3_22 C S1 dX3_bindBlock_14 ?_
    refine r_aload_n C dX3_bindBlock_17 rfl ?_
    refine gf_X3_12 C S1 dX3_bindBlock_18 ?_
    refine gf_X3_73 C SB.2.1 dX3_bindBlock_21 ?_
    refine r_iload_n C dX3_bindBlock_24 rfl ?_
    refine r_runI (fun aH aL aj a1 a2 a3 => run_SN C hF.2.2.1 (kX4_at SB.2.2.1 (by decide) (by omega) (by omega)) lm_X4_at mn_X3_58 sm_X4_at (Nat.le_of_ble_eq_true rfl) dX3_bindBlock_25 rfl (Nat.le_of_ble_eq_true rfl) a1 a2 a3) ?_
    rw [wr_n _ _ (by omega)]
    refine r_iconst C dX3_bindBlock_28 ?_
    refine r_runV (fun aH aL aj a1 a2 a3 => run_SN C hF.2.2.1 (kX4_addTo Si (by omega) (by decide) (W2 i h0 h1).1 (W2 i h0 h1).2) lm_X4_addTo mn_X3_65 sm_X4_addTo (Nat.le_of_ble_eq_true rfl) dX3_bindBlock_29 rfl (Nat.le_of_ble_eq_true rfl) a1 a2 a3) ?_
    refine r_iinc C dX3_bindBlock_32 rfl (by decide) rfl ?_
    refine r_goto (tgt := 2) C dX3_bindBlock_35 (by decide) ?_
    refine r_eq K2 ?_
    rw [wr_ww, wr_s, bkR_s _ _ h0]
set_option maxRecDepth 20000 in
set_option maxHeartbeats 2000000 in
theorem kX3_copiesInBinAndBlock {V : Wo} {μ : Mem} {h : Nat} {K : Int} (hS : StS V h) (hW : StW K μ h) {x : Int} (hx : 0 ≤ x) (hx2 : x < 16) : Con V 2 yX3_copiesInBinAndBlock cX3_copiesInBinAndBlock 2 (some .int) [vR h, vI x] (μ) (QI V (μ (h + 7) x + cn (fun e => (μ (h + 1 + 1)) e = x) (μ (h + 1) 2)) (μ)) := by
  refine con_of (ls0 := [vR h, vI x]) (by decide +kernel) rfl (Nat.le_of_ble_eq_true rfl) (Nat.le_of_ble_eq_true rfl) (fun X hV C hF => ?_)
  subst hV
  have C : Ok X RX3 cX3_copiesInBinAndBlock 2 2 := C
  obtain ⟨S0, S1, SB, Sc, Si, Sp, Sh, Ss⟩ := id hS
  obtain ⟨hK, WB, Wc, Wi, Wp, Wh, Ws0, Ws1, Ws2, Wbk, Wls⟩ := id hW
  obtain ⟨W0, W1, W2, W3⟩ := id WB
  refine r_aload_n C dX3_copiesInBinAndBlock_0 rfl ?_
  refine gf_X3_18 C S1 dX3_copiesInBinAndBlock_1 ?_
  refine r_iload_n C dX3_copiesInBinAndBlock_4 rfl ?_
  refine r_runI (fun aH aL aj a1 a2 a3 => run_SN C hF.2.2.1 (kX4_at Sc (by decide) (by omega) (by omega)) lm_X4_at mn_X3_58 sm_X4_at (Nat.le_of_ble_eq_true rfl) dX3_copiesInBinAndBlock_5 rfl (Nat.le_of_ble_eq_true rfl) a1 a2 a3) ?_
  refine r_aload_n C dX3_copiesInBinAndBlock_8 rfl ?_
  refine gf_X3_12 C S1 dX3_copiesInBinAndBlock_9 ?_
  refine r_iload_n C dX3_copiesInBinAndBlock_12 rfl ?_
  refine r_runI (fun aH aL aj a1 a2 a3 => run_V C hF.2.2.1 (kX0_copiesOf SB WB (by omega)) lm_X0_copiesOf ml_X3_80 im_X0_copiesOf se_X0_copiesOf SB.2.1 rfl (Nat.le_of_ble_eq_true rfl) dX3_copiesInBinAndBlock_13 rfl (Nat.le_of_ble_eq_true rfl) a1 a2 a3) ?_
  refine r_iadd C dX3_copiesInBinAndBlock_16 ?_
  exact r_iret C hF dX3_copiesInBinAndBlock_17 rfl rfl
set_option maxRecDepth 20000 in
set_option maxHeartbeats 2000000 in
theorem kX3_sheetsInBooks {V : Wo} {μ : Mem} {h : Nat} {K : Int} (hS : StS V h) (hW : StW K μ h) : Con V 1 yX3_sheetsInBooks cX3_sheetsInBooks 3 (some .int) [vR h] (μ) (QI V (sm (μ (h + 8)) 16) (μ)) := by
  refine con_of (ls0 := [vR h, vU, vU]) (by decide +kernel) rfl (Nat.le_of_ble_eq_true rfl) (Nat.le_of_ble_eq_true rfl) (fun X hV C hF => ?_)
  subst hV
  have C : Ok X RX3 cX3_sheetsInBooks 3 1 := C
  obtain ⟨S0, S1, SB, Sc, Si, Sp, Sh, Ss⟩ := id hS
  obtain ⟨hK, WB, Wc, Wi, Wp, Wh, Ws0, Ws1, Ws2, Wbk, Wls⟩ := id hW
  obtain ⟨W0, W1, W2, W3⟩ := id WB
  refine r_iconst C dX3_sheetsInBooks_0 ?_
  refine r_istore_n C dX3_sheetsInBooks_1 (by decide) rfl ?_
  refine r_iconst C dX3_sheetsInBooks_2 ?_
  refine r_istore_n C dX3_sheetsInBooks_3 (by decide) rfl ?_
  refine loop_up (F := fun i => RR X μ 4 [vR h, vI (sm (μ (h + 8)) i), vI i] []) (a := 0) (b := 16) (by omega) ?_ ?_
  · show RR X _ _ [vR h, vI (sm (μ (h + 8)) 16), vI 16] []
    refine r_iload_n C dX3_sheetsInBooks_4 rfl ?_
    refine r_bipush C dX3_sheetsInBooks_5 rfl ?_
    refine r_icmp_ge (tgt := 27) C dX3_sheetsInBooks_7 (by decide) (by omega) (by omega) (fun c7 => ?_) (fun c7 => absurd c7 (by omega))
    refine r_iload_n C dX3_sheetsInBooks_27 rfl ?_
    exact r_iret C hF dX3_sheetsInBooks_28 rfl rfl
  · intro i h0 h1 K2
    show RR X _ _ [vR h, vI (sm (μ (h + 8)) i), vI i] []
    refine r_iload_n C dX3_sheetsInBooks_4 rfl ?_
    refine r_bipush C dX3_sheetsInBooks_5 rfl ?_
    refine r_icmp_ge (tgt := 27) C dX3_sheetsInBooks_7 (by decide) (by omega) (by omega) (fun c7 => absurd c7 (by omega)) (fun c7 => ?_)
    refine r_iload_n C dX3_sheetsInBooks_10 rfl ?_
    refine r_aload_n C dX3_sheetsInBooks_11 rfl ?_
    refine gf_X3_22 C S1 dX3_sheetsInBooks_12 ?_
    refine r_iload_n C dX3_sheetsInBooks_15 rfl ?_
    refine r_runI (fun aH aL aj a1 a2 a3 => run_SN C hF.2.2.1 (kX4_at Si (by decide) (by omega) (by omega)) lm_X4_at mn_X3_58 sm_X4_at (Nat.le_of_ble_eq_true rfl) dX3_sheetsInBooks_16 rfl (Nat.le_of_ble_eq_true rfl) a1 a2 a3) ?_
    refine r_iadd C dX3_sheetsInBooks_19 ?_
    refine r_istore_n C dX3_sheetsInBooks_20 (by decide) rfl ?_
    refine r_iinc C dX3_sheetsInBooks_21 rfl (by decide) rfl ?_
    refine r_goto (tgt := 4) C dX3_sheetsInBooks_24 (by decide) ?_
    rw [sm_s _ h0] at K2
    exact K2
set_option maxRecDepth 20000 in
set_option maxHeartbeats 2000000 in
theorem kX3_stepOfNumber {V : Wo} {μ : Mem} {h : Nat} {K : Int} (hS : StS V h) (hW : StW K μ h) {x : Int} (hx : 0 ≤ x) (hx2 : x < 2147483648) : Con V 1 yX3_stepOfNumber cX3_stepOfNumber 3 (some .int) [vR h, vI x] (μ) (QI V (x % (μ (h + 11) 1)) (μ)) := by
  refine con_of (ls0 := [vR h, vI x, vU]) (by decide +kernel) rfl (Nat.le_of_ble_eq_true rfl) (Nat.le_of_ble_eq_true rfl) (fun X hV C hF => ?_)
  subst hV
  have C : Ok X RX3 cX3_stepOfNumber 3 1 := C
  obtain ⟨S0, S1, SB, Sc, Si, Sp, Sh, Ss⟩ := id hS
  obtain ⟨hK, WB, Wc, Wi, Wp, Wh, Ws0, Ws1, Ws2, Wbk, Wls⟩ := id hW
  obtain ⟨W0, W1, W2, W3⟩ := id WB
  refine r_aload_n C dX3_stepOfNumber_0 rfl ?_
  refine gf_X3_31 C S1 dX3_stepOfNumber_1 ?_
  refine r_iconst C dX3_stepOfNumber_4 ?_
  refine r_runI (fun aH aL aj a1 a2 a3 => run_SN C hF.2.2.1 (kX4_at Ss (by decide) (by omega) (by omega)) lm_X4_at mn_X3_58 sm_X4_at (Nat.le_of_ble_eq_true rfl) dX3_stepOfNumber_5 rfl (Nat.le_of_ble_eq_true rfl) a1 a2 a3) ?_
  refine r_istore_n C dX3_stepOfNumber_8 (by decide) rfl ?_
  refine r_iload_n C dX3_stepOfNumber_9 rfl ?_
  refine r_if_le (tgt := 19) C dX3_stepOfNumber_10 (by decide) (by omega) (fun c10 => absurd c10 (by omega)) (fun c10 => ?_)
  refine r_iload_n C dX3_stepOfNumber_13 rfl ?_
  refine r_iload_n C dX3_stepOfNumber_14 rfl ?_
  refine r_irem C dX3_stepOfNumber_15 (by omega) (by omega) ?_
  refine r_goto (tgt := 20) C dX3_stepOfNumber_16 (by decide) ?_
  exact r_iret C hF dX3_stepOfNumber_20 rfl rfl
set_option maxRecDepth 20000 in
set_option maxHeartbeats 2000000 in
theorem kX3_stepOfMark {V : Wo} {μ : Mem} {h : Nat} {K : Int} (hS : StS V h) (hW : StW K μ h) {p : Int} (hp : 0 ≤ p) (hp2 : p < (μ (h + 1) 2)) : Con V 2 yX3_stepOfMark cX3_stepOfMark 3 (some .int) [vR h, vI p] (μ) (QI V (mk (μ (h + 11) 1) ((μ (h + 1 + 1)) p) ((μ (h + 1 + 2)) p)) (μ)) := by
  refine con_of (ls0 := [vR h, vI p, vU]) (by decide +kernel) rfl (Nat.le_of_ble_eq_true rfl) (Nat.le_of_ble_eq_true rfl) (fun X hV C hF => ?_)
  subst hV
  have C : Ok X RX3 cX3_stepOfMark 3 2 := C
  obtain ⟨S0, S1, SB, Sc, Si, Sp, Sh, Ss⟩ := id hS
  obtain ⟨hK, WB, Wc, Wi, Wp, Wh, Ws0, Ws1, Ws2, Wbk, Wls⟩ := id hW
  obtain ⟨W0, W1, W2, W3⟩ := id WB
  refine r_aload_n C dX3_stepOfMark_0 rfl ?_
  refine r_aload_n C dX3_stepOfMark_1 rfl ?_
  refine gf_X3_12 C S1 dX3_stepOfMark_2 ?_
  refine gf_X3_73 C SB.2.1 dX3_stepOfMark_5 ?_
  refine r_iload_n C dX3_stepOfMark_8 rfl ?_
  refine r_runI (fun aH aL aj a1 a2 a3 => run_SN C hF.2.2.1 (kX4_at SB.2.2.1 (by decide) (by omega) (by omega)) lm_X4_at mn_X3_58 sm_X4_at (Nat.le_of_ble_eq_true rfl) dX3_stepOfMark_9 rfl (Nat.le_of_ble_eq_true rfl) a1 a2 a3) ?_
  refine r_runI (fun aH aL aj a1 a2 a3 => run_V C hF.2.2.1 (kX3_stepOfNumber hS hW (W2 p hp hp2).1 (by have := W2 p hp hp2; omega)) lm_X3_stepOfNumber ml_X3_84 im_X3_stepOfNumber se_X3_stepOfNumber S1 rfl (Nat.le_of_ble_eq_true rfl) dX3_stepOfMark_12 rfl (Nat.le_of_ble_eq_true rfl) a1 a2 a3) ?_
  refine r_istore_n C dX3_stepOfMark_15 (by decide) rfl ?_
  refine r_aload_n C dX3_stepOfMark_16 rfl ?_
  refine gf_X3_12 C S1 dX3_stepOfMark_17 ?_
  refine gf_X3_87 C SB.2.1 dX3_stepOfMark_20 ?_
  refine r_iload_n C dX3_stepOfMark_23 rfl ?_
  refine r_runI (fun aH aL aj a1 a2 a3 => run_SN C hF.2.2.1 (kX4_at SB.2.2.2.1 (by decide) (by omega) (by omega)) lm_X4_at mn_X3_58 sm_X4_at (Nat.le_of_ble_eq_true rfl) dX3_stepOfMark_24 rfl (Nat.le_of_ble_eq_true rfl) a1 a2 a3) ?_
  refine r_if_ne (tgt := 34) C dX3_stepOfMark_27 (by decide) (by have := W3 p hp hp2; omega) (fun c27 => ?_) (fun c27 => ?_)
  · skip
    refine r_aload_n C dX3_stepOfMark_34 rfl ?_
    refine gf_X3_31 C S1 dX3_stepOfMark_35 ?_
    refine r_iconst C dX3_stepOfMark_38 ?_
    refine r_runI (fun aH aL aj a1 a2 a3 => run_SN C hF.2.2.1 (kX4_at Ss (by decide) (by omega) (by omega)) lm_X4_at mn_X3_58 sm_X4_at (Nat.le_of_ble_eq_true rfl) dX3_stepOfMark_39 rfl (Nat.le_of_ble_eq_true rfl) a1 a2 a3) ?_
    refine r_iconst C dX3_stepOfMark_42 ?_
    refine r_isub C dX3_stepOfMark_43 ?_
    refine r_iload_n C dX3_stepOfMark_44 rfl ?_
    refine r_isub C dX3_stepOfMark_45 ?_
    exact r_iret C hF dX3_stepOfMark_46 (if_neg c27).symm rfl
  · skip
    refine r_iload_n C dX3_stepOfMark_30 rfl ?_
    refine r_goto (tgt := 46) C dX3_stepOfMark_31 (by decide) ?_
    exact r_iret C hF dX3_stepOfMark_46 (if_pos c27).symm rfl
set_option maxRecDepth 20000 in
set_option maxHeartbeats 2000000 in
theorem kX3_stepDueAt {V : Wo} {μ : Mem} {h : Nat} {K : Int} (hS : StS V h) (hW : StW K μ h) {p : Int} (hp : 0 ≤ p) (hp2 : p ≤ (μ (h + 1) 2)) : Con V 3 yX3_stepDueAt cX3_stepDueAt 2 (some .int) [vR h, vI p] (μ) (QI V (due (μ (h + 11) 1) (μ (h + 1 + 1)) (μ (h + 1 + 2)) p) (μ)) := by
  refine con_of (ls0 := [vR h, vI p]) (by decide +kernel) rfl (Nat.le_of_ble_eq_true rfl) (Nat.le_of_ble_eq_true rfl) (fun X hV C hF => ?_)
  subst hV
  have C : Ok X RX3 cX3_stepDueAt 2 3 := C
  obtain ⟨S0, S1, SB, Sc, Si, Sp, Sh, Ss⟩ := id hS
  obtain ⟨hK, WB, Wc, Wi, Wp, Wh, Ws0, Ws1, Ws2, Wbk, Wls⟩ := id hW
  obtain ⟨W0, W1, W2, W3⟩ := id WB
  refine r_iload_n C dX3_stepDueAt_0 rfl ?_
  refine r_if_le (tgt := 20) C dX3_stepDueAt_1 (by decide) (by omega) (fun c1 => ?_) (fun c1 => ?_)
  · skip
    refine r_iconst C dX3_stepDueAt_20 ?_
    exact r_iret C hF dX3_stepDueAt_21 (if_pos (by omega)).symm rfl
  · skip
    refine r_aload_n C dX3_stepDueAt_4 rfl ?_
    refine r_aload_n C dX3_stepDueAt_5 rfl ?_
    refine r_iload_n C dX3_stepDueAt_6 rfl ?_
    refine r_iconst C dX3_stepDueAt_7 ?_
    refine r_isub C dX3_stepDueAt_8 ?_
    refine r_runI (fun aH aL aj a1 a2 a3 => run_V C hF.2.2.1 (kX3_stepOfMark hS hW (by omega) (by omega)) lm_X3_stepOfMark ml_X3_90 im_X3_stepOfMark se_X3_stepOfMark S1 rfl (Nat.le_of_ble_eq_true rfl) dX3_stepDueAt_9 rfl (Nat.le_of_ble_eq_true rfl) a1 a2 a3) ?_
    refine r_iconst C dX3_stepDueAt_12 ?_
    refine r_iadd C dX3_stepDueAt_13 ?_
    refine r_runI (fun aH aL aj a1 a2 a3 => run_V C hF.2.2.1 (kX3_stepOfNumber hS hW (by have := mk_bd (st := (μ (h + 11) 1)) (a := (μ (h + 1 + 1)) (p - 1)) (d := (μ (h + 1 + 2)) (p - 1)) (by omega); omega) (by have := mk_bd (st := (μ (h + 11) 1)) (a := (μ (h + 1 + 1)) (p - 1)) (d := (μ (h + 1 + 2)) (p - 1)) (by omega); omega)) lm_X3_stepOfNumber ml_X3_84 im_X3_stepOfNumber se_X3_stepOfNumber S1 rfl (Nat.le_of_ble_eq_true rfl) dX3_stepDueAt_14 rfl (Nat.le_of_ble_eq_true rfl) a1 a2 a3) ?_
    refine r_goto (tgt := 21) C dX3_stepDueAt_17 (by decide) ?_
    exact r_iret C hF dX3_stepDueAt_21 (if_neg (by omega)).symm rfl
set_option maxRecDepth 20000 in
set_option maxHeartbeats 2000000 in
theorem kX3_breaksAheadOf {V : Wo} {μ : Mem} {h : Nat} {K : Int} (hS : StS V h) (hW : StW K μ h) {p : Int} (hp : 0 ≤ p) (hp2 : p < (μ (h + 1) 2)) : Con V 4 yX3_breaksAheadOf cX3_breaksAheadOf 2 (some .boolean) [vR h, vI p] (μ) (QI V (b01 (brk (μ (h + 11) 1) (μ (h + 1 + 1)) (μ (h + 1 + 2)) p)) (μ)) := by
  refine con_of (ls0 := [vR h, vI p]) (by decide +kernel) rfl (Nat.le_of_ble_eq_true rfl) (Nat.le_of_ble_eq_true rfl) (fun X hV C hF => ?_)
  subst hV
  have C : Ok X RX3 cX3_breaksAheadOf 2 4 := C
  obtain ⟨S0, S1, SB, Sc, Si, Sp, Sh, Ss⟩ := id hS
  obtain ⟨hK, WB, Wc, Wi, Wp, Wh, Ws0, Ws1, Ws2, Wbk, Wls⟩ := id hW
  obtain ⟨W0, W1, W2, W3⟩ := id WB
  refine r_aload_n C dX3_breaksAheadOf_0 rfl ?_
  refine r_iload_n C dX3_breaksAheadOf_1 rfl ?_
  refine r_runI (fun aH aL aj a1 a2 a3 => run_V C hF.2.2.1 (kX3_stepOfMark hS hW hp hp2) lm_X3_stepOfMark ml_X3_90 im_X3_stepOfMark se_X3_stepOfMark S1 rfl (Nat.le_of_ble_eq_true rfl) dX3_breaksAheadOf_2 rfl (Nat.le_of_ble_eq_true rfl) a1 a2 a3) ?_
  refine r_aload_n C dX3_breaksAheadOf_5 rfl ?_
  refine r_iload_n C dX3_breaksAheadOf_6 rfl ?_
  refine r_runI (fun aH aL aj a1 a2 a3 => run_V C hF.2.2.1 (kX3_stepDueAt hS hW hp (by omega)) lm_X3_stepDueAt ml_X3_93 im_X3_stepDueAt se_X3_stepDueAt S1 rfl (Nat.le_of_ble_eq_true rfl) dX3_breaksAheadOf_7 rfl (Nat.le_of_ble_eq_true rfl) a1 a2 a3) ?_
  have m1 := mk_bd (st := (μ (h + 11) 1)) (a := (μ (h + 1 + 1)) p) (d := (μ (h + 1 + 2)) p) (by omega)
  have m2 := due_bd (st := (μ (h + 11) 1)) (a := (μ (h + 1 + 1))) (d := (μ (h + 1 + 2))) (k := p) (by omega)
  refine r_icmp_eq (tgt := 17) C dX3_breaksAheadOf_10 (by decide) (by omega) (by omega) (fun c10 => ?_) (fun c10 => ?_)
  · skip
    refine r_iconst C dX3_breaksAheadOf_17 ?_
    exact r_zret C hF dX3_breaksAheadOf_18 (by omega) (b01_f (fun z => z c10)).symm rfl
  · skip
    refine r_iconst C dX3_breaksAheadOf_13 ?_
    refine r_goto (tgt := 18) C dX3_breaksAheadOf_14 (by decide) ?_
    exact r_zret C hF dX3_breaksAheadOf_18 (by omega) (b01_t c10).symm rfl
set_option maxRecDepth 20000 in
set_option maxHeartbeats 2000000 in
theorem kX3_breaks {V : Wo} {μ : Mem} {h : Nat} {K : Int} (hS : StS V h) (hW : StW K μ h) : Con V 3 yX3_breaks cX3_breaks 5 (some .int) [vR h] (μ) (QI V (brks (μ (h + 11) 1) (μ (h + 1 + 1)) (μ (h + 1 + 2)) (μ (h + 1) 2)) (μ)) := by
  refine con_of (ls0 := [vR h, vU, vU, vU, vU]) (by decide +kernel) rfl (Nat.le_of_ble_eq_true rfl) (Nat.le_of_ble_eq_true rfl) (fun X hV C hF => ?_)
  subst hV
  have C : Ok X RX3 cX3_breaks 5 3 := C
  obtain ⟨S0, S1, SB, Sc, Si, Sp, Sh, Ss⟩ := id hS
  obtain ⟨hK, WB, Wc, Wi, Wp, Wh, Ws0, Ws1, Ws2, Wbk, Wls⟩ := id hW
  obtain ⟨W0, W1, W2, W3⟩ := id WB
  refine r_iconst C dX3_breaks_0 ?_
  refine r_istore_n C dX3_breaks_1 (by decide) rfl ?_
  refine r_iconst C dX3_breaks_2 ?_
  refine r_istore_n C dX3_breaks_3 (by decide) rfl ?_
  refine r_iconst C dX3_breaks_4 ?_
  refine r_istore_n C dX3_breaks_5 (by decide) rfl ?_
  suffices hQ : ∀ z : AV, RR X μ 6 [vR h, vI (cn (fun k => brk (μ (h + 11) 1) (μ (h + 1 + 1)) (μ (h + 1 + 2)) k) 0), vI (due (μ (h + 11) 1) (μ (h + 1 + 1)) (μ (h + 1 + 2)) 0), vI 0, z] [] from hQ vU
  refine loop_up (F := fun i => ∀ z : AV, RR X μ 6 [vR h, vI (cn (fun k => brk (μ (h + 11) 1) (μ (h + 1 + 1)) (μ (h + 1 + 2)) k) i), vI (due (μ (h + 11) 1) (μ (h + 1 + 1)) (μ (h + 1 + 2)) i), vI i, z] []) (a := 0) (b := (μ (h + 1) 2)) W0 ?_ ?_
  · intro z
    show RR X _ _ [vR h, vI (cn (fun k => brk (μ (h + 11) 1) (μ (h + 1 + 1)) (μ (h + 1 + 2)) k) (μ (h + 1) 2)), vI (due (μ (h + 11) 1) (μ (h + 1 + 1)) (μ (h + 1 + 2)) (μ (h + 1) 2)), vI (μ (h + 1) 2), z] []
    refine r_iload_n C dX3_breaks_6 rfl ?_
    refine r_aload_n C dX3_breaks_7 rfl ?_
    refine gf_X3_12 C S1 dX3_breaks_8 ?_
    refine gf_X3_62 C SB.2.1 dX3_breaks_11 ?_
    refine r_icmp_ge (tgt := 48) C dX3_breaks_14 (by decide) (by omega) (by omega) (fun c14 => ?_) (fun c14 => absurd c14 (by omega))
    refine r_iload_n C dX3_breaks_48 rfl ?_
    exact r_iret C hF dX3_breaks_49 rfl rfl
  · intro i h0 h1 K2 z
    show RR X _ _ [vR h, vI (cn (fun k => brk (μ (h + 11) 1) (μ (h + 1 + 1)) (μ (h + 1 + 2)) k) i), vI (due (μ (h + 11) 1) (μ (h + 1 + 1)) (μ (h + 1 + 2)) i), vI i, z] []
    have m1 := mk_bd (st := (μ (h + 11) 1)) (a := (μ (h + 1 + 1)) i) (d := (μ (h + 1 + 2)) i) (by omega)
    have m2 := due_bd (st := (μ (h + 11) 1)) (a := (μ (h + 1 + 1))) (d := (μ (h + 1 + 2))) (k := i) (by omega)
    refine r_iload_n C dX3_breaks_6 rfl ?_
    refine r_aload_n C dX3_breaks_7 rfl ?_
    refine gf_X3_12 C S1 dX3_breaks_8 ?_
    refine gf_X3_62 C SB.2.1 dX3_breaks_11 ?_
    refine r_icmp_ge (tgt := 48) C dX3_breaks_14 (by decide) (by omega) (by omega) (fun c14 => absurd c14 (by omega)) (fun c14 => ?_)
    refine r_aload_n C dX3_breaks_17 rfl ?_
    refine r_iload_n C dX3_breaks_18 rfl ?_
    refine r_runI (fun aH aL aj a1 a2 a3 => run_V C hF.2.2.1 (kX3_stepOfMark hS hW h0 h1) lm_X3_stepOfMark ml_X3_90 im_X3_stepOfMark se_X3_stepOfMark S1 rfl (Nat.le_of_ble_eq_true rfl) dX3_breaks_19 rfl (Nat.le_of_ble_eq_true rfl) a1 a2 a3) ?_
    refine r_istore C dX3_breaks_22 (by decide) rfl ?_
    refine r_iload C dX3_breaks_24 rfl ?_
    refine r_iload_n C dX3_breaks_26 rfl ?_
    refine r_icmp_eq (tgt := 33) C dX3_breaks_27 (by decide) (by omega) (by omega) (fun c27 => ?_) (fun c27 => ?_)
    · skip
      refine r_aload_n C dX3_breaks_33 rfl ?_
      refine r_iload C dX3_breaks_34 rfl ?_
      refine r_iconst C dX3_breaks_36 ?_
      refine r_iadd C dX3_breaks_37 ?_
      refine r_runI (fun aH aL aj a1 a2 a3 => run_V C hF.2.2.1 (kX3_stepOfNumber hS hW (by omega) (by omega)) lm_X3_stepOfNumber ml_X3_84 im_X3_stepOfNumber se_X3_stepOfNumber S1 rfl (Nat.le_of_ble_eq_true rfl) dX3_breaks_38 rfl (Nat.le_of_ble_eq_true rfl) a1 a2 a3) ?_
      refine r_istore_n C dX3_breaks_41 (by decide) rfl ?_
      refine r_iinc C dX3_breaks_42 rfl (by decide) rfl ?_
      refine r_goto (tgt := 6) C dX3_breaks_45 (by decide) ?_
      have K3 := K2 (vI (mk (μ (h + 11) 1) ((μ (h + 1 + 1)) i) ((μ (h + 1 + 2)) i)))
      rw [cn_s _ h0, b01_f (fun z => z c27), Int.add_zero, due_s _ _ _ h0] at K3
      exact K3
    · skip
      refine r_iinc C dX3_breaks_30 rfl (by decide) rfl ?_
      refine r_aload_n C dX3_breaks_33 rfl ?_
      refine r_iload C dX3_breaks_34 rfl ?_
      refine r_iconst C dX3_breaks_36 ?_
      refine r_iadd C dX3_breaks_37 ?_
      refine r_runI (fun aH aL aj a1 a2 a3 => run_V C hF.2.2.1 (kX3_stepOfNumber hS hW (by omega) (by omega)) lm_X3_stepOfNumber ml_X3_84 im_X3_stepOfNumber se_X3_stepOfNumber S1 rfl (Nat.le_of_ble_eq_true rfl) dX3_breaks_38 rfl (Nat.le_of_ble_eq_true rfl) a1 a2 a3) ?_
      refine r_istore_n C dX3_breaks_41 (by decide) rfl ?_
      refine r_iinc C dX3_breaks_42 rfl (by decide) rfl ?_
      refine r_goto (tgt := 6) C dX3_breaks_45 (by decide) ?_
      have K3 := K2 (vI (mk (μ (h + 11) 1) ((μ (h + 1 + 1)) i) ((μ (h + 1 + 2)) i)))
      rw [cn_s _ h0, b01_t c27, due_s _ _ _ h0] at K3
      exact K3
set_option maxRecDepth 20000 in
set_option maxHeartbeats 2000000 in
theorem kX3_lowestMissing {V : Wo} {μ : Mem} {h : Nat} {K : Int} (hS : StS V h) (hW : StW K μ h) : Con V 2 yX3_lowestMissing cX3_lowestMissing 2 (some .int) [vR h] (μ) (QI V (misS (μ (h + 11) 0) (μ (h + 1 + 1)) (μ (h + 1) 2)) (μ)) := by
  refine con_of (ls0 := [vR h, vU]) (by decide +kernel) rfl (Nat.le_of_ble_eq_true rfl) (Nat.le_of_ble_eq_true rfl) (fun X hV C hF => ?_)
  subst hV
  have C : Ok X RX3 cX3_lowestMissing 2 2 := C
  obtain ⟨S0, S1, SB, Sc, Si, Sp, Sh, Ss⟩ := id hS
  obtain ⟨hK, WB, Wc, Wi, Wp, Wh, Ws0, Ws1, Ws2, Wbk, Wls⟩ := id hW
  obtain ⟨W0, W1, W2, W3⟩ := id WB
  refine r_iconst C dX3_lowestMissing_0 ?_
  refine r_istore_n C dX3_lowestMissing_1 (by decide) rfl ?_
  revert hF
  refine loop_up (F := fun i => Fnl X (some .int) (QI (xV X) (fs (fun k => cn (fun e => (μ (h + 1 + 1)) e = k) (μ (h + 1) 2) = 0) i (μ (h + 11) 0)) μ) → RR X μ 2 [vR h, vI i] []) (a := 0) (b := (μ (h + 11) 0)) (by omega) ?_ ?_
  · intro hF
    show RR X _ _ [vR h, vI (μ (h + 11) 0)] []
    refine r_iload_n C dX3_lowestMissing_2 rfl ?_
    refine r_aload_n C dX3_lowestMissing_3 rfl ?_
    refine r_runI (fun aH aL aj a1 a2 a3 => run_V C hF.2.2.1 (kX3_bookSheets hS hW) lm_X3_bookSheets ml_X3_100 im_X3_bookSheets se_X3_bookSheets S1 rfl (Nat.le_of_ble_eq_true rfl) dX3_lowestMissing_4 rfl (Nat.le_of_ble_eq_true rfl) a1 a2 a3) ?_
    refine r_icmp_ge (tgt := 35) C dX3_lowestMissing_7 (by decide) (by omega) (by omega) (fun c7 => ?_) (fun c7 => absurd c7 (by omega))
    refine r_iconst C dX3_lowestMissing_35 ?_
    exact r_iret C hF dX3_lowestMissing_36 (fs_e _ (Int.le_refl _)).symm rfl
  · intro i h0 h1 K2 hF
    show RR X _ _ [vR h, vI i] []
    refine r_iload_n C dX3_lowestMissing_2 rfl ?_
    refine r_aload_n C dX3_lowestMissing_3 rfl ?_
    refine r_runI (fun aH aL aj a1 a2 a3 => run_V C hF.2.2.1 (kX3_bookSheets hS hW) lm_X3_bookSheets ml_X3_100 im_X3_bookSheets se_X3_bookSheets S1 rfl (Nat.le_of_ble_eq_true rfl) dX3_lowestMissing_4 rfl (Nat.le_of_ble_eq_true rfl) a1 a2 a3) ?_
    refine r_icmp_ge (tgt := 35) C dX3_lowestMissing_7 (by decide) (by omega) (by omega) (fun c7 => absurd c7 (by omega)) (fun c7 => ?_)
    refine r_iload_n C dX3_lowestMissing_10 rfl ?_
    refine r_bipush C dX3_lowestMissing_11 rfl ?_
    refine r_icmp_ge (tgt := 35) C dX3_lowestMissing_13 (by decide) (by omega) (by omega) (fun c13 => absurd c13 (by omega)) (fun c13 => ?_)
    refine r_aload_n C dX3_lowestMissing_16 rfl ?_
    refine gf_X3_12 C S1 dX3_lowestMissing_17 ?_
    refine r_iload_n C dX3_lowestMissing_20 rfl ?_
    refine r_runI (fun aH aL aj a1 a2 a3 => run_V C hF.2.2.1 (kX0_copiesOf SB WB (by omega)) lm_X0_copiesOf ml_X3_80 im_X0_copiesOf se_X0_copiesOf SB.2.1 rfl (Nat.le_of_ble_eq_true rfl) dX3_lowestMissing_21 rfl (Nat.le_of_ble_eq_true rfl) a1 a2 a3) ?_
    have m1 := cn_bd (fun e => (μ (h + 1 + 1)) e = i) W0
    refine r_if_ne (tgt := 29) C dX3_lowestMissing_24 (by decide) (by omega) (fun c24 => ?_) (fun c24 => ?_)
    · skip
      refine r_iinc C dX3_lowestMissing_29 rfl (by decide) rfl ?_
      refine r_goto (tgt := 2) C dX3_lowestMissing_32 (by decide) ?_
      exact K2 (fs_f (fun k => cn (fun e => (μ (h + 1 + 1)) e = k) (μ (h + 1) 2) = 0) h1 c24 ▸ hF)
    · skip
      refine r_iload_n C dX3_lowestMissing_27 rfl ?_
      exact r_iret C hF dX3_lowestMissing_28 (fs_t (fun k => cn (fun e => (μ (h + 1 + 1)) e = k) (μ (h + 1) 2) = 0) h1 c24).symm rfl
set_option maxRecDepth 20000 in
set_option maxHeartbeats 2000000 in
theorem kX3_fault {V : Wo} {μ : Mem} {h : Nat} {K : Int} (hS : StS V h) (hW : StW K μ h) : Con V 3 yX3_fault cX3_fault 1 (some .int) [vR h] (μ) (QI V (flt (μ (h + 11) 0) (μ (h + 1 + 1)) (μ (h + 1 + 2)) (μ (h + 1) 2)) (μ)) := by
  refine con_of (ls0 := [vR h]) (by decide +kernel) rfl (Nat.le_of_ble_eq_true rfl) (Nat.le_of_ble_eq_true rfl) (fun X hV C hF => ?_)
  subst hV
  have C : Ok X RX3 cX3_fault 1 3 := C
  obtain ⟨S0, S1, SB, Sc, Si, Sp, Sh, Ss⟩ := id hS
  obtain ⟨hK, WB, Wc, Wi, Wp, Wh, Ws0, Ws1, Ws2, Wbk, Wls⟩ := id hW
  obtain ⟨W0, W1, W2, W3⟩ := id WB
  have rT : -1 ≤ fT (μ (h + 1 + 2)) (μ (h + 1) 2) ∧ fT (μ (h + 1 + 2)) (μ (h + 1) 2) ≤ 1000 := fs_rng _ (by omega) (by omega)
  have rN : -1 ≤ fN (μ (h + 11) 0) (μ (h + 1 + 1)) (μ (h + 1) 2) ∧ fN (μ (h + 11) 0) (μ (h + 1 + 1)) (μ (h + 1) 2) ≤ 1000 := fs_rng _ (by omega) (by omega)
  have rD : -1 ≤ fD (μ (h + 1 + 1)) (μ (h + 1) 2) ∧ fD (μ (h + 1 + 1)) (μ (h + 1) 2) ≤ 1000 := fs_rng _ (by omega) (by omega)
  have rM : -1 ≤ misS (μ (h + 11) 0) (μ (h + 1 + 1)) (μ (h + 1) 2) ∧ misS (μ (h + 11) 0) (μ (h + 1 + 1)) (μ (h + 1) 2) ≤ 1000 := fs_rng _ (by omega) (by omega)
  have rF : -1 ≤ fF (μ (h + 1 + 1)) (μ (h + 1) 2) ∧ fF (μ (h + 1 + 1)) (μ (h + 1) 2) ≤ 1000 := fs_rng _ (by omega) (by omega)
  refine r_aload_n C dX3_fault_0 rfl ?_
  refine gf_X3_12 C S1 dX3_fault_1 ?_
  refine gf_X3_62 C SB.2.1 dX3_fault_4 ?_
  refine r_if_ne (tgt := 12) C dX3_fault_7 (by decide) (by omega) (fun c7 => ?_) (fun c7 => ?_)
  · have _ := c7
    refine r_aload_n C dX3_fault_12 rfl ?_
    refine gf_X3_12 C S1 dX3_fault_13 ?_
    refine r_runI (fun aH aL aj a1 a2 a3 => run_V C hF.2.2.1 (kX0_firstTurned SB WB) lm_X0_firstTurned ml_X3_96 im_X0_firstTurned se_X0_firstTurned SB.2.1 rfl (Nat.le_of_ble_eq_true rfl) dX3_fault_16 rfl (Nat.le_of_ble_eq_true rfl) a1 a2 a3) ?_
    rw [show fs (fun k => (μ (h + 1 + 2)) k ≠ 0) 0 (μ (h + 1) 2) = fT (μ (h + 1 + 2)) (μ (h + 1) 2) from rfl]
    refine r_iconst C dX3_fault_19 ?_
    refine r_icmp_eq (tgt := 25) C dX3_fault_20 (by decide) (by omega) (by omega) (fun c20 => ?_) (fun c20 => ?_)
    · have _ := c20
      refine r_aload_n C dX3_fault_25 rfl ?_
      refine gf_X3_12 C S1 dX3_fault_26 ?_
      refine r_aload_n C dX3_fault_29 rfl ?_
      refine r_runI (fun aH aL aj a1 a2 a3 => run_V C hF.2.2.1 (kX3_bookSheets hS hW) lm_X3_bookSheets ml_X3_100 im_X3_bookSheets se_X3_bookSheets S1 rfl (Nat.le_of_ble_eq_true rfl) dX3_fault_30 rfl (Nat.le_of_ble_eq_true rfl) a1 a2 a3) ?_
      refine r_runI (fun aH aL aj a1 a2 a3 => run_V C hF.2.2.1 (kX0_firstNotBelow SB WB (by omega)) lm_X0_firstNotBelow ml_X3_103 im_X0_firstNotBelow se_X0_firstNotBelow SB.2.1 rfl (Nat.le_of_ble_eq_true rfl) dX3_fault_33 rfl (Nat.le_of_ble_eq_true rfl) a1 a2 a3) ?_
      rw [show fs (fun k => (μ (h + 11) 0) ≤ (μ (h + 1 + 1)) k) 0 (μ (h + 1) 2) = fN (μ (h + 11) 0) (μ (h + 1 + 1)) (μ (h + 1) 2) from rfl]
      refine r_iconst C dX3_fault_36 ?_
      refine r_icmp_eq (tgt := 42) C dX3_fault_37 (by decide) (by omega) (by omega) (fun c37 => ?_) (fun c37 => ?_)
      · have _ := c37
        refine r_aload_n C dX3_fault_42 rfl ?_
        refine gf_X3_12 C S1 dX3_fault_43 ?_
        refine r_runI (fun aH aL aj a1 a2 a3 => run_V C hF.2.2.1 (kX0_firstDouble SB WB) lm_X0_firstDouble ml_X3_106 im_X0_firstDouble se_X0_firstDouble SB.2.1 rfl (Nat.le_of_ble_eq_true rfl) dX3_fault_46 rfl (Nat.le_of_ble_eq_true rfl) a1 a2 a3) ?_
        rw [show fs (fun k => cn (fun e => (μ (h + 1 + 1)) e = (μ (h + 1 + 1)) k) k ≠ 0) 1 (μ (h + 1) 2) = fD (μ (h + 1 + 1)) (μ (h + 1) 2) from rfl]
        refine r_iconst C dX3_fault_49 ?_
        refine r_icmp_eq (tgt := 55) C dX3_fault_50 (by decide) (by omega) (by omega) (fun c50 => ?_) (fun c50 => ?_)
        · have _ := c50
          refine r_aload_n C dX3_fault_55 rfl ?_
          refine r_runI (fun aH aL aj a1 a2 a3 => run_V C hF.2.2.1 (kX3_lowestMissing hS hW) lm_X3_lowestMissing ml_X3_109 im_X3_lowestMissing se_X3_lowestMissing S1 rfl (Nat.le_of_ble_eq_true rfl) dX3_fault_56 rfl (Nat.le_of_ble_eq_true rfl) a1 a2 a3) ?_
          refine r_iconst C dX3_fault_59 ?_
          refine r_icmp_eq (tgt := 65) C dX3_fault_60 (by decide) (by omega) (by omega) (fun c60 => ?_) (fun c60 => ?_)
          · have _ := c60
            refine r_aload_n C dX3_fault_65 rfl ?_
            refine gf_X3_12 C S1 dX3_fault_66 ?_
            refine r_runI (fun aH aL aj a1 a2 a3 => run_V C hF.2.2.1 (kX0_firstFall SB WB) lm_X0_firstFall ml_X3_112 im_X0_firstFall se_X0_firstFall SB.2.1 rfl (Nat.le_of_ble_eq_true rfl) dX3_fault_69 rfl (Nat.le_of_ble_eq_true rfl) a1 a2 a3) ?_
            rw [show fs (fun k => (μ (h + 1 + 1)) k < (μ (h + 1 + 1)) (k - 1)) 1 (μ (h + 1) 2) = fF (μ (h + 1 + 1)) (μ (h + 1) 2) from rfl]
            refine r_iconst C dX3_fault_72 ?_
            refine r_icmp_eq (tgt := 81) C dX3_fault_73 (by decide) (by omega) (by omega) (fun c73 => ?_) (fun c73 => ?_)
            · skip
              refine r_iconst C dX3_fault_81 ?_
              exact r_iret C hF dX3_fault_82 (by unfold flt; rw [if_neg c7, if_neg (fun z => z c20), if_neg (fun z => z c37), if_neg (fun z => z c50), if_neg (fun z => z c60), if_neg (fun z => z c73)]) rfl
            · skip
              refine r_bipush C dX3_fault_76 rfl ?_
              refine r_goto (tgt := 82) C dX3_fault_78 (by decide) ?_
              exact r_iret C hF dX3_fault_82 (by unfold flt; rw [if_neg c7, if_neg (fun z => z c20), if_neg (fun z => z c37), if_neg (fun z => z c50), if_neg (fun z => z c60), if_pos c73]) rfl
          · have _ := c60
            refine r_iconst C dX3_fault_63 ?_
            exact r_iret C hF dX3_fault_64 (by unfold flt; rw [if_neg c7, if_neg (fun z => z c20), if_neg (fun z => z c37), if_neg (fun z => z c50), if_pos c60]) rfl
        · have _ := c50
          refine r_iconst C dX3_fault_53 ?_
          exact r_iret C hF dX3_fault_54 (by unfold flt; rw [if_neg c7, if_neg (fun z => z c20), if_neg (fun z => z c37), if_pos c50]) rfl
      · have _ := c37
        refine r_iconst C dX3_fault_40 ?_
        exact r_iret C hF dX3_fault_41 (by unfold flt; rw [if_neg c7, if_neg (fun z => z c20), if_pos c37]) rfl
    · have _ := c20
      refine r_iconst C dX3_fault_23 ?_
      exact r_iret C hF dX3_fault_24 (by unfold flt; rw [if_neg c7, if_pos c20]) rfl
  · have _ := c7
    refine r_iconst C dX3_fault_10 ?_
    exact r_iret C hF dX3_fault_11 (by unfold flt; rw [if_pos c7]) rfl
set_option maxRecDepth 20000 in
set_option maxHeartbeats 2000000 in
theorem kX3_placeOfFault {V : Wo} {μ : Mem} {h : Nat} {K : Int} (hS : StS V h) (hW : StW K μ h) : Con V 4 yX3_placeOfFault cX3_placeOfFault 1 (some .int) [vR h] (μ) (QI V (plf (μ (h + 11) 0) (μ (h + 1 + 1)) (μ (h + 1 + 2)) (μ (h + 1) 2)) (μ)) := by
  refine con_of (ls0 := [vR h]) (by decide +kernel) rfl (Nat.le_of_ble_eq_true rfl) (Nat.le_of_ble_eq_true rfl) (fun X hV C hF => ?_)
  subst hV
  have C : Ok X RX3 cX3_placeOfFault 1 4 := C
  obtain ⟨S0, S1, SB, Sc, Si, Sp, Sh, Ss⟩ := id hS
  obtain ⟨hK, WB, Wc, Wi, Wp, Wh, Ws0, Ws1, Ws2, Wbk, Wls⟩ := id hW
  obtain ⟨W0, W1, W2, W3⟩ := id WB
  refine r_aload_n C dX3_placeOfFault_0 rfl ?_
  refine r_runI (fun aH aL aj a1 a2 a3 => run_V C hF.2.2.1 (kX3_fault hS hW) lm_X3_fault ml_X3_115 im_X3_fault se_X3_fault S1 rfl (Nat.le_of_ble_eq_true rfl) dX3_placeOfFault_1 rfl (Nat.le_of_ble_eq_true rfl) a1 a2 a3) ?_
  have rr := flt_r (μ (h + 11) 0) (μ (h + 1 + 1)) (μ (h + 1 + 2)) (μ (h + 1) 2)
  rcases (by omega : flt (μ (h + 11) 0) (μ (h + 1 + 1)) (μ (h + 1 + 2)) (μ (h + 1) 2) = 2 ∨ flt (μ (h + 11) 0) (μ (h + 1 + 1)) (μ (h + 1 + 2)) (μ (h + 1) 2) = 3 ∨ flt (μ (h + 11) 0) (μ (h + 1 + 1)) (μ (h + 1 + 2)) (μ (h + 1) 2) = 4 ∨ flt (μ (h + 11) 0) (μ (h + 1 + 1)) (μ (h + 1 + 2)) (μ (h + 1) 2) = 6 ∨ flt (μ (h + 11) 0) (μ (h + 1 + 1)) (μ (h + 1 + 2)) (μ (h + 1) 2) = 5 ∨ (flt (μ (h + 11) 0) (μ (h + 1 + 1)) (μ (h + 1 + 2)) (μ (h + 1) 2) < 2)) with e | e | e | e | e | e
  · rw [e]
    refine r_tsIn (tgt := 40) C dX3_placeOfFault_4 (by omega) (by omega) (by omega) rfl (by decide) ?_
    refine r_aload_n C dX3_placeOfFault_40 rfl ?_
    refine gf_X3_12 C S1 dX3_placeOfFault_41 ?_
    refine r_runI (fun aH aL aj a1 a2 a3 => run_V C hF.2.2.1 (kX0_firstTurned SB WB) lm_X0_firstTurned ml_X3_96 im_X0_firstTurned se_X0_firstTurned SB.2.1 rfl (Nat.le_of_ble_eq_true rfl) dX3_placeOfFault_44 rfl (Nat.le_of_ble_eq_true rfl) a1 a2 a3) ?_
    exact r_iret C hF dX3_placeOfFault_47 (by unfold plf; rw [if_pos e]; rfl) rfl
  · rw [e]
    refine r_tsIn (tgt := 48) C dX3_placeOfFault_4 (by omega) (by omega) (by omega) rfl (by decide) ?_
    refine r_aload_n C dX3_placeOfFault_48 rfl ?_
    refine gf_X3_12 C S1 dX3_placeOfFault_49 ?_
    refine r_aload_n C dX3_placeOfFault_52 rfl ?_
    refine r_runI (fun aH aL aj a1 a2 a3 => run_V C hF.2.2.1 (kX3_bookSheets hS hW) lm_X3_bookSheets ml_X3_100 im_X3_bookSheets se_X3_bookSheets S1 rfl (Nat.le_of_ble_eq_true rfl) dX3_placeOfFault_53 rfl (Nat.le_of_ble_eq_true rfl) a1 a2 a3) ?_
    refine r_runI (fun aH aL aj a1 a2 a3 => run_V C hF.2.2.1 (kX0_firstNotBelow SB WB (by omega)) lm_X0_firstNotBelow ml_X3_103 im_X0_firstNotBelow se_X0_firstNotBelow SB.2.1 rfl (Nat.le_of_ble_eq_true rfl) dX3_placeOfFault_56 rfl (Nat.le_of_ble_eq_true rfl) a1 a2 a3) ?_
    exact r_iret C hF dX3_placeOfFault_59 (by unfold plf; rw [if_neg (by omega), if_pos e]; rfl) rfl
  · rw [e]
    refine r_tsIn (tgt := 60) C dX3_placeOfFault_4 (by omega) (by omega) (by omega) rfl (by decide) ?_
    refine r_aload_n C dX3_placeOfFault_60 rfl ?_
    refine gf_X3_12 C S1 dX3_placeOfFault_61 ?_
    refine r_runI (fun aH aL aj a1 a2 a3 => run_V C hF.2.2.1 (kX0_firstDouble SB WB) lm_X0_firstDouble ml_X3_106 im_X0_firstDouble se_X0_firstDouble SB.2.1 rfl (Nat.le_of_ble_eq_true rfl) dX3_placeOfFault_64 rfl (Nat.le_of_ble_eq_true rfl) a1 a2 a3) ?_
    exact r_iret C hF dX3_placeOfFault_67 (by unfold plf; rw [if_neg (by omega), if_neg (by omega), if_pos e]; rfl) rfl
  · rw [e]
    refine r_tsIn (tgt := 68) C dX3_placeOfFault_4 (by omega) (by omega) (by omega) rfl (by decide) ?_
    refine r_aload_n C dX3_placeOfFault_68 rfl ?_
    refine gf_X3_12 C S1 dX3_placeOfFault_69 ?_
    refine r_runI (fun aH aL aj a1 a2 a3 => run_V C hF.2.2.1 (kX0_firstFall SB WB) lm_X0_firstFall ml_X3_112 im_X0_firstFall se_X0_firstFall SB.2.1 rfl (Nat.le_of_ble_eq_true rfl) dX3_placeOfFault_72 rfl (Nat.le_of_ble_eq_true rfl) a1 a2 a3) ?_
    exact r_iret C hF dX3_placeOfFault_75 (by unfold plf; rw [if_neg (by omega), if_neg (by omega), if_neg (by omega), if_pos e]; rfl) rfl
  · rw [e]
    refine r_tsIn (tgt := 76) C dX3_placeOfFault_4 (by omega) (by omega) (by omega) rfl (by decide) ?_
    refine r_iconst C dX3_placeOfFault_76 ?_
    exact r_iret C hF dX3_placeOfFault_77 (by unfold plf; rw [if_neg (by omega), if_neg (by omega), if_neg (by omega), if_neg (by omega)]) rfl
  · skip
    refine r_tsOut (tgt := 76) C dX3_placeOfFault_4 (by omega) (by omega) (by decide) ?_
    refine r_iconst C dX3_placeOfFault_76 ?_
    exact r_iret C hF dX3_placeOfFault_77 (by unfold plf; rw [if_neg (by omega), if_neg (by omega), if_neg (by omega), if_neg (by omega)]) rfl
set_option maxRecDepth 20000 in
set_option maxHeartbeats 2000000 in
theorem kX3_holesAt {V : Wo} {μ : Mem} {h : Nat} {K : Int} (hS : StS V h) (hW : StW K μ h) {p : Int} (hp : 0 ≤ p) (hp2 : p < (μ (h + 1) 2)) : Con V 1 yX3_holesAt cX3_holesAt 2 (some .int) [vR h, vI p] (μ) (QI V ((μ (h + 10)) ((μ (h + 1 + 1)) p)) (μ)) := by
  refine con_of (ls0 := [vR h, vI p]) (by decide +kernel) rfl (Nat.le_of_ble_eq_true rfl) (Nat.le_of_ble_eq_true rfl) (fun X hV C hF => ?_)
  subst hV
  have C : Ok X RX3 cX3_holesAt 2 1 := C
  obtain ⟨S0, S1, SB, Sc, Si, Sp, Sh, Ss⟩ := id hS
  obtain ⟨hK, WB, Wc, Wi, Wp, Wh, Ws0, Ws1, Ws2, Wbk, Wls⟩ := id hW
  obtain ⟨W0, W1, W2, W3⟩ := id WB
  refine r_aload_n C dX3_holesAt_0 rfl ?_
  refine gf_X3_28 C S1 dX3_holesAt_1 ?_
  refine r_aload_n C dX3_holesAt_4 rfl ?_
  refine gf_X3_12 C S1 dX3_holesAt_5 ?_
  refine gf_X3_73 C SB.2.1 dX3_holesAt_8 ?_
  refine r_iload_n C dX3_holesAt_11 rfl ?_
  refine r_runI (fun aH aL aj a1 a2 a3 => run_SN C hF.2.2.1 (kX4_at SB.2.2.1 (by decide) (by omega) (by omega)) lm_X4_at mn_X3_58 sm_X4_at (Nat.le_of_ble_eq_true rfl) dX3_holesAt_12 rfl (Nat.le_of_ble_eq_true rfl) a1 a2 a3) ?_
  refine r_runI (fun aH aL aj a1 a2 a3 => run_SN C hF.2.2.1 (kX4_at Sh (by decide) (W2 p hp hp2).1 (W2 p hp hp2).2) lm_X4_at mn_X3_58 sm_X4_at (Nat.le_of_ble_eq_true rfl) dX3_holesAt_15 rfl (Nat.le_of_ble_eq_true rfl) a1 a2 a3) ?_
  exact r_iret C hF dX3_holesAt_18 rfl rfl
set_option maxRecDepth 20000 in
set_option maxHeartbeats 2000000 in
theorem kX3_stitchesAheadOf {V : Wo} {μ : Mem} {h : Nat} {K : Int} (hS : StS V h) (hW : StW K μ h) {p : Int} (hp : 0 ≤ p) (hp2 : p < (μ (h + 1) 2)) : Con V 2 yX3_stitchesAheadOf cX3_stitchesAheadOf 2 (some .int) [vR h, vI p] (μ) (QI V (stA (μ (h + 10)) (μ (h + 1 + 1)) p) (μ)) := by
  refine con_of (ls0 := [vR h, vI p]) (by decide +kernel) rfl (Nat.le_of_ble_eq_true rfl) (Nat.le_of_ble_eq_true rfl) (fun X hV C hF => ?_)
  subst hV
  have C : Ok X RX3 cX3_stitchesAheadOf 2 2 := C
  obtain ⟨S0, S1, SB, Sc, Si, Sp, Sh, Ss⟩ := id hS
  obtain ⟨hK, WB, Wc, Wi, Wp, Wh, Ws0, Ws1, Ws2, Wbk, Wls⟩ := id hW
  obtain ⟨W0, W1, W2, W3⟩ := id WB
  refine r_iload_n C dX3_stitchesAheadOf_0 rfl ?_
  refine r_if_le (tgt := 23) C dX3_stitchesAheadOf_1 (by decide) (by omega) (fun c1 => ?_) (fun c1 => ?_)
  · skip
    refine r_iconst C dX3_stitchesAheadOf_23 ?_
    exact r_iret C hF dX3_stitchesAheadOf_24 (if_pos (by omega)).symm rfl
  · skip
    refine r_aload_n C dX3_stitchesAheadOf_4 rfl ?_
    refine r_iload_n C dX3_stitchesAheadOf_5 rfl ?_
    refine r_iconst C dX3_stitchesAheadOf_6 ?_
    refine r_isub C dX3_stitchesAheadOf_7 ?_
    refine r_runI (fun aH aL aj a1 a2 a3 => run_V C hF.2.2.1 (kX3_holesAt hS hW (by omega) (by omega)) lm_X3_holesAt ml_X3_118 im_X3_holesAt se_X3_holesAt S1 rfl (Nat.le_of_ble_eq_true rfl) dX3_stitchesAheadOf_8 rfl (Nat.le_of_ble_eq_true rfl) a1 a2 a3) ?_
    refine r_aload_n C dX3_stitchesAheadOf_11 rfl ?_
    refine r_iload_n C dX3_stitchesAheadOf_12 rfl ?_
    refine r_runI (fun aH aL aj a1 a2 a3 => run_V C hF.2.2.1 (kX3_holesAt hS hW hp hp2) lm_X3_holesAt ml_X3_118 im_X3_holesAt se_X3_holesAt S1 rfl (Nat.le_of_ble_eq_true rfl) dX3_stitchesAheadOf_13 rfl (Nat.le_of_ble_eq_true rfl) a1 a2 a3) ?_
    refine r_iand C dX3_stitchesAheadOf_16 ?_
    refine r_runI (fun aH aL aj a1 a2 a3 => run_S C hF.2.2.1 (kJ6_bitCount (and_r (Wh _ (W2 (p - 1) (by omega) (by omega)).1 (W2 (p - 1) (by omega) (by omega)).2) (Wh _ (W2 p hp hp2).1 (W2 p hp hp2).2)).1 (and_r (Wh _ (W2 (p - 1) (by omega) (by omega)).1 (W2 (p - 1) (by omega) (by omega)).2) (Wh _ (W2 p hp hp2).1 (W2 p hp hp2).2)).2) lm_J6_bitCount_0f7a4 ml_X3_121 sm_J6_bitCount_0f7a4 (Nat.le_of_ble_eq_true rfl) dX3_stitchesAheadOf_17 rfl (Nat.le_of_ble_eq_true rfl) a1 a2 a3) ?_
    refine r_goto (tgt := 24) C dX3_stitchesAheadOf_20 (by decide) ?_
    exact r_iret C hF dX3_stitchesAheadOf_24 (if_neg (by omega)).symm rfl
set_option maxRecDepth 20000 in
set_option maxHeartbeats 2000000 in
theorem kX3_stitches {V : Wo} {μ : Mem} {h : Nat} {K : Int} (hS : StS V h) (hW : StW K μ h) : Con V 3 yX3_stitches cX3_stitches 3 (some .int) [vR h] (μ) (QI V (stS (μ (h + 10)) (μ (h + 1 + 1)) (μ (h + 1) 2)) (μ)) := by
  refine con_of (ls0 := [vR h, vU, vU]) (by decide +kernel) rfl (Nat.le_of_ble_eq_true rfl) (Nat.le_of_ble_eq_true rfl) (fun X hV C hF => ?_)
  subst hV
  have C : Ok X RX3 cX3_stitches 3 3 := C
  obtain ⟨S0, S1, SB, Sc, Si, Sp, Sh, Ss⟩ := id hS
  obtain ⟨hK, WB, Wc, Wi, Wp, Wh, Ws0, Ws1, Ws2, Wbk, Wls⟩ := id hW
  obtain ⟨W0, W1, W2, W3⟩ := id WB
  refine r_iconst C dX3_stitches_0 ?_
  refine r_istore_n C dX3_stitches_1 (by decide) rfl ?_
  refine r_iconst C dX3_stitches_2 ?_
  refine r_istore_n C dX3_stitches_3 (by decide) rfl ?_
  suffices hQ : RR X μ 4 [vR h, vI (sm (fun k => stA (μ (h + 10)) (μ (h + 1 + 1)) k) 1), vI 1] [] from hQ
  refine loop_ge (F := fun i => RR X μ 4 [vR h, vI (sm (fun k => stA (μ (h + 10)) (μ (h + 1 + 1)) k) i), vI i] []) (a := 1) (n := (μ (h + 1) 2)) ?_ ?_
  · intro i g0 g1 g2
    show RR X _ _ [vR h, vI (sm (fun k => stA (μ (h + 10)) (μ (h + 1 + 1)) k) i), vI i] []
    refine r_iload_n C dX3_stitches_4 rfl ?_
    refine r_aload_n C dX3_stitches_5 rfl ?_
    refine gf_X3_12 C S1 dX3_stitches_6 ?_
    refine gf_X3_62 C SB.2.1 dX3_stitches_9 ?_
    refine r_icmp_ge (tgt := 29) C dX3_stitches_12 (by decide) (by omega) (by omega) (fun c12 => ?_) (fun c12 => absurd c12 (by omega))
    refine r_iload_n C dX3_stitches_29 rfl ?_
    exact r_iret C hF dX3_stitches_30 (by
      unfold stS
      rcases (by omega : i = (μ (h + 1) 2) ∨ (i = 1 ∧ (μ (h + 1) 2) = 0)) with e | ⟨e, e2⟩
      · rw [e]
      · rw [e, e2]; rfl) rfl
  · intro i h0 h1 K2
    show RR X _ _ [vR h, vI (sm (fun k => stA (μ (h + 10)) (μ (h + 1 + 1)) k) i), vI i] []
    refine r_iload_n C dX3_stitches_4 rfl ?_
    refine r_aload_n C dX3_stitches_5 rfl ?_
    refine gf_X3_12 C S1 dX3_stitches_6 ?_
    refine gf_X3_62 C SB.2.1 dX3_stitches_9 ?_
    refine r_icmp_ge (tgt := 29) C dX3_stitches_12 (by decide) (by omega) (by omega) (fun c12 => absurd c12 (by omega)) (fun c12 => ?_)
    refine r_iload_n C dX3_stitches_15 rfl ?_
    refine r_aload_n C dX3_stitches_16 rfl ?_
    refine r_iload_n C dX3_stitches_17 rfl ?_
    refine r_runI (fun aH aL aj a1 a2 a3 => run_V C hF.2.2.1 (kX3_stitchesAheadOf hS hW (by omega) h1) lm_X3_stitchesAheadOf ml_X3_126 im_X3_stitchesAheadOf se_X3_stitchesAheadOf S1 rfl (Nat.le_of_ble_eq_true rfl) dX3_stitches_18 rfl (Nat.le_of_ble_eq_true rfl) a1 a2 a3) ?_
    refine r_iadd C dX3_stitches_21 ?_
    refine r_istore_n C dX3_stitches_22 (by decide) rfl ?_
    refine r_iinc C dX3_stitches_23 rfl (by decide) rfl ?_
    refine r_goto (tgt := 4) C dX3_stitches_26 (by decide) ?_
    rw [sm_s _ (by omega)] at K2
    exact K2
set_option maxRecDepth 20000 in
set_option maxHeartbeats 2000000 in
theorem kX3_loosePlaces {V : Wo} {μ : Mem} {h : Nat} {K : Int} (hS : StS V h) (hW : StW K μ h) : Con V 3 yX3_loosePlaces cX3_loosePlaces 3 (some .int) [vR h] (μ) (QI V (lsS (μ (h + 10)) (μ (h + 1 + 1)) (μ (h + 1) 2)) (μ)) := by
  refine con_of (ls0 := [vR h, vU, vU]) (by decide +kernel) rfl (Nat.le_of_ble_eq_true rfl) (Nat.le_of_ble_eq_true rfl) (fun X hV C hF => ?_)
  subst hV
  have C : Ok X RX3 cX3_loosePlaces 3 3 := C
  obtain ⟨S0, S1, SB, Sc, Si, Sp, Sh, Ss⟩ := id hS
  obtain ⟨hK, WB, Wc, Wi, Wp, Wh, Ws0, Ws1, Ws2, Wbk, Wls⟩ := id hW
  obtain ⟨W0, W1, W2, W3⟩ := id WB
  refine r_iconst C dX3_loosePlaces_0 ?_
  refine r_istore_n C dX3_loosePlaces_1 (by decide) rfl ?_
  refine r_iconst C dX3_loosePlaces_2 ?_
  refine r_istore_n C dX3_loosePlaces_3 (by decide) rfl ?_
  suffices hQ : RR X μ 4 [vR h, vI (cn (fun k => k ≠ 0 ∧ stA (μ (h + 10)) (μ (h + 1 + 1)) k = 0) 1), vI 1] [] from hQ
  refine loop_ge (F := fun i => RR X μ 4 [vR h, vI (cn (fun k => k ≠ 0 ∧ stA (μ (h + 10)) (μ (h + 1 + 1)) k = 0) i), vI i] []) (a := 1) (n := (μ (h + 1) 2)) ?_ ?_
  · intro i g0 g1 g2
    show RR X _ _ [vR h, vI (cn (fun k => k ≠ 0 ∧ stA (μ (h + 10)) (μ (h + 1 + 1)) k = 0) i), vI i] []
    refine r_iload_n C dX3_loosePlaces_4 rfl ?_
    refine r_aload_n C dX3_loosePlaces_5 rfl ?_
    refine gf_X3_12 C S1 dX3_loosePlaces_6 ?_
    refine gf_X3_62 C SB.2.1 dX3_loosePlaces_9 ?_
    refine r_icmp_ge (tgt := 32) C dX3_loosePlaces_12 (by decide) (by omega) (by omega) (fun c12 => ?_) (fun c12 => absurd c12 (by omega))
    refine r_iload_n C dX3_loosePlaces_32 rfl ?_
    exact r_iret C hF dX3_loosePlaces_33 (by
      unfold lsS
      rcases (by omega : i = (μ (h + 1) 2) ∨ (i = 1 ∧ (μ (h + 1) 2) = 0)) with e | ⟨e, e2⟩
      · rw [e]
      · rw [e, e2]; rfl) rfl
  · intro i h0 h1 K2
    show RR X _ _ [vR h, vI (cn (fun k => k ≠ 0 ∧ stA (μ (h + 10)) (μ (h + 1 + 1)) k = 0) i), vI i] []
    refine r_iload_n C dX3_loosePlaces_4 rfl ?_
    refine r_aload_n C dX3_loosePlaces_5 rfl ?_
    refine gf_X3_12 C S1 dX3_loosePlaces_6 ?_
    refine gf_X3_62 C SB.2.1 dX3_loosePlaces_9 ?_
    refine r_icmp_ge (tgt := 32) C dX3_loosePlaces_12 (by decide) (by omega) (by omega) (fun c12 => absurd c12 (by omega)) (fun c12 => ?_)
    refine r_aload_n C dX3_loosePlaces_15 rfl ?_
    refine r_iload_n C dX3_loosePlaces_16 rfl ?_
    refine r_runI (fun aH aL aj a1 a2 a3 => run_V C hF.2.2.1 (kX3_stitchesAheadOf hS hW (by omega) h1) lm_X3_stitchesAheadOf ml_X3_126 im_X3_stitchesAheadOf se_X3_stitchesAheadOf S1 rfl (Nat.le_of_ble_eq_true rfl) dX3_loosePlaces_17 rfl (Nat.le_of_ble_eq_true rfl) a1 a2 a3) ?_
    refine r_if_ne (tgt := 26) C dX3_loosePlaces_20 (by decide) (by have := stA_r (ho := (μ (h + 10))) (a := (μ (h + 1 + 1))) Wh W2 (by omega : 0 ≤ i) h1; omega) (fun c20 => ?_) (fun c20 => ?_)
    · skip
      refine r_iinc C dX3_loosePlaces_26 rfl (by decide) rfl ?_
      refine r_goto (tgt := 4) C dX3_loosePlaces_29 (by decide) ?_
      rw [cn_s _ (by omega), b01_f (fun z => c20 z.2), Int.add_zero] at K2
      exact K2
    · skip
      refine r_iinc C dX3_loosePlaces_23 rfl (by decide) rfl ?_
      refine r_iinc C dX3_loosePlaces_26 rfl (by decide) rfl ?_
      refine r_goto (tgt := 4) C dX3_loosePlaces_29 (by decide) ?_
      rw [cn_s _ (by omega), b01_t ⟨by omega, c20⟩] at K2
      exact K2
set_option maxRecDepth 20000 in
set_option maxHeartbeats 2000000 in
theorem kX3_spanOfHoles {V : Wo} {μ : Mem} {m : Int} (hm : 1 ≤ m) (hm2 : m ≤ 31) : Con V 1 yX3_spanOfHoles cX3_spanOfHoles 3 (some .int) [vI m] (μ) (QI V (spn m) (μ)) := by
  refine con_of (ls0 := [vI m, vU, vU]) (by decide +kernel) rfl (Nat.le_of_ble_eq_true rfl) (Nat.le_of_ble_eq_true rfl) (fun X hV C hF => ?_)
  subst hV
  have C : Ok X RX3 cX3_spanOfHoles 3 1 := C
  obtain ⟨f1, f2, f3, f4, f5⟩ := sp_f hm hm2
  refine r_iconst C dX3_spanOfHoles_0 ?_
  refine r_istore_n C dX3_spanOfHoles_1 (by decide) rfl ?_
  suffices hQ : RR X μ 2 [vI m, vI 0, vU] [] from hQ
  refine loop_up (F := fun i => RR X μ 2 [vI m, vI i, vU] []) (a := 0) (b := lo m) f1.1 ?_ ?_
  · show RR X _ _ [vI m, vI (lo m), vU] []
    refine r_iload_n C dX3_spanOfHoles_2 rfl ?_
    refine r_iconst C dX3_spanOfHoles_3 ?_
    refine r_icmp_ge (tgt := 21) C dX3_spanOfHoles_4 (by decide) (by omega) (by omega) (fun c4 => absurd c4 (by omega)) (fun c4 => ?_)
    refine r_iload_n C dX3_spanOfHoles_7 rfl ?_
    refine r_iload_n C dX3_spanOfHoles_8 rfl ?_
    refine r_ishr C dX3_spanOfHoles_9 ?_
    refine r_iconst C dX3_spanOfHoles_10 ?_
    refine r_iand C dX3_spanOfHoles_11 ?_
    refine r_if_ne (tgt := 21) C dX3_spanOfHoles_12 (by decide) (by have := bit_r (by omega : 0 ≤ m) hm2 f1.1 (by omega); exact ⟨by show -2147483648 ≤ bit m (lo m); omega, by show bit m (lo m) < 2147483648; omega⟩) (fun c12 => ?_) (fun c12 => absurd c12 f2)
    refine r_iconst C dX3_spanOfHoles_21 ?_
    refine r_istore_n C dX3_spanOfHoles_22 (by decide) rfl ?_
    suffices hQ : RR X μ 23 [vI m, vI (lo m), vI 4] [] from hQ
    refine loop_dn (F := fun i => RR X μ 23 [vI m, vI (lo m), vI i] []) (a := hi m) (b := 4) f1.2.2 ?_ ?_
    · show RR X _ _ [vI m, vI (lo m), vI (hi m)] []
      refine r_iload_n C dX3_spanOfHoles_23 rfl ?_
      refine r_iload_n C dX3_spanOfHoles_24 rfl ?_
      refine r_icmp_le (tgt := 42) C dX3_spanOfHoles_25 (by decide) (by omega) (by omega) (fun c25 => ?_) (fun c25 => ?_)
      · have _ := c25
        refine r_iconst C dX3_spanOfHoles_42 ?_
        refine r_iload_n C dX3_spanOfHoles_43 rfl ?_
        refine r_iload_n C dX3_spanOfHoles_44 rfl ?_
        refine r_isub C dX3_spanOfHoles_45 ?_
        refine r_max C ml_X3_135 dX3_spanOfHoles_46 (by omega) (by omega) (Nat.le_of_ble_eq_true rfl) (Nat.le_of_ble_eq_true rfl) ?_
        exact r_iret C hF dX3_spanOfHoles_49 (by unfold spn; split <;> omega) rfl
      · have _ := c25
        refine r_iload_n C dX3_spanOfHoles_28 rfl ?_
        refine r_iload_n C dX3_spanOfHoles_29 rfl ?_
        refine r_ishr C dX3_spanOfHoles_30 ?_
        refine r_iconst C dX3_spanOfHoles_31 ?_
        refine r_iand C dX3_spanOfHoles_32 ?_
        refine r_if_ne (tgt := 42) C dX3_spanOfHoles_33 (by decide) (by have := bit_r (by omega : 0 ≤ m) hm2 (by omega : 0 ≤ hi m) (by omega); exact ⟨by show -2147483648 ≤ bit m (hi m); omega, by show bit m (hi m) < 2147483648; omega⟩) (fun c33 => ?_) (fun c33 => absurd c33 f3)
        refine r_iconst C dX3_spanOfHoles_42 ?_
        refine r_iload_n C dX3_spanOfHoles_43 rfl ?_
        refine r_iload_n C dX3_spanOfHoles_44 rfl ?_
        refine r_isub C dX3_spanOfHoles_45 ?_
        refine r_max C ml_X3_135 dX3_spanOfHoles_46 (by omega) (by omega) (Nat.le_of_ble_eq_true rfl) (Nat.le_of_ble_eq_true rfl) ?_
        exact r_iret C hF dX3_spanOfHoles_49 (by unfold spn; split <;> omega) rfl
    · intro i h0 h1 K2
      show RR X _ _ [vI m, vI (lo m), vI i] []
      have z0 := f5 i h0 h1
      refine r_iload_n C dX3_spanOfHoles_23 rfl ?_
      refine r_iload_n C dX3_spanOfHoles_24 rfl ?_
      refine r_icmp_le (tgt := 42) C dX3_spanOfHoles_25 (by decide) (by omega) (by omega) (fun c25 => absurd c25 (by omega)) (fun c25 => ?_)
      refine r_iload_n C dX3_spanOfHoles_28 rfl ?_
      refine r_iload_n C dX3_spanOfHoles_29 rfl ?_
      refine r_ishr C dX3_spanOfHoles_30 ?_
      refine r_iconst C dX3_spanOfHoles_31 ?_
      refine r_iand C dX3_spanOfHoles_32 ?_
      refine r_if_ne (tgt := 42) C dX3_spanOfHoles_33 (by decide) (by show inR (bit m i); omega) (fun c33 => absurd c33 (fun z => z z0)) (fun c33 => ?_)
      refine r_iinc C dX3_spanOfHoles_36 rfl (by decide) rfl ?_
      refine r_goto (tgt := 23) C dX3_spanOfHoles_39 (by decide) ?_
      exact K2
  · intro i h0 h1 K2
    show RR X _ _ [vI m, vI i, vU] []
    have z0 := f4 i h0 h1
    refine r_iload_n C dX3_spanOfHoles_2 rfl ?_
    refine r_iconst C dX3_spanOfHoles_3 ?_
    refine r_icmp_ge (tgt := 21) C dX3_spanOfHoles_4 (by decide) (by omega) (by omega) (fun c4 => absurd c4 (by omega)) (fun c4 => ?_)
    refine r_iload_n C dX3_spanOfHoles_7 rfl ?_
    refine r_iload_n C dX3_spanOfHoles_8 rfl ?_
    refine r_ishr C dX3_spanOfHoles_9 ?_
    refine r_iconst C dX3_spanOfHoles_10 ?_
    refine r_iand C dX3_spanOfHoles_11 ?_
    refine r_if_ne (tgt := 21) C dX3_spanOfHoles_12 (by decide) (by show inR (bit m i); omega) (fun c12 => absurd c12 (fun z => z z0)) (fun c12 => ?_)
    refine r_iinc C dX3_spanOfHoles_15 rfl (by decide) rfl ?_
    refine r_goto (tgt := 2) C dX3_spanOfHoles_18 (by decide) ?_
    exact K2
set_option maxRecDepth 20000 in
set_option maxHeartbeats 2000000 in
theorem kX3_threadLength {V : Wo} {μ : Mem} {h : Nat} {K : Int} (hS : StS V h) (hW : StW K μ h) : Con V 4 yX3_threadLength cX3_threadLength 3 (some .int) [vR h] (μ) (QI V (thS (μ (h + 11) 2) (μ (h + 10)) (μ (h + 1 + 1)) (μ (h + 1) 2)) (μ)) := by
  refine con_of (ls0 := [vR h, vU, vU]) (by decide +kernel) rfl (Nat.le_of_ble_eq_true rfl) (Nat.le_of_ble_eq_true rfl) (fun X hV C hF => ?_)
  subst hV
  have C : Ok X RX3 cX3_threadLength 3 4 := C
  obtain ⟨S0, S1, SB, Sc, Si, Sp, Sh, Ss⟩ := id hS
  obtain ⟨hK, WB, Wc, Wi, Wp, Wh, Ws0, Ws1, Ws2, Wbk, Wls⟩ := id hW
  obtain ⟨W0, W1, W2, W3⟩ := id WB
  refine r_aload_n C dX3_threadLength_0 rfl ?_
  refine r_runI (fun aH aL aj a1 a2 a3 => run_V C hF.2.2.1 (kX3_stitches hS hW) lm_X3_stitches ml_X3_129 im_X3_stitches se_X3_stitches S1 rfl (Nat.le_of_ble_eq_true rfl) dX3_threadLength_1 rfl (Nat.le_of_ble_eq_true rfl) a1 a2 a3) ?_
  refine r_aload_n C dX3_threadLength_4 rfl ?_
  refine gf_X3_31 C S1 dX3_threadLength_5 ?_
  refine r_iconst C dX3_threadLength_8 ?_
  refine r_runI (fun aH aL aj a1 a2 a3 => run_SN C hF.2.2.1 (kX4_at Ss (by decide) (by omega) (by omega)) lm_X4_at mn_X3_58 sm_X4_at (Nat.le_of_ble_eq_true rfl) dX3_threadLength_9 rfl (Nat.le_of_ble_eq_true rfl) a1 a2 a3) ?_
  refine r_imul C dX3_threadLength_12 ?_
  refine r_istore_n C dX3_threadLength_13 (by decide) rfl ?_
  refine r_iconst C dX3_threadLength_14 ?_
  refine r_istore_n C dX3_threadLength_15 (by decide) rfl ?_
  refine r_loc (ls' := [vR h, vI (stS (μ (h + 10)) (μ (h + 1 + 1)) (μ (h + 1) 2) * (μ (h + 11) 2) + sm (fun k => spn ((μ (h + 10)) ((μ (h + 1 + 1)) k))) 0), vI 0]) ?_ (by rw [sm_0, Int.add_zero]; rfl)
  refine loop_up (F := fun i => RR X μ 16 [vR h, vI (stS (μ (h + 10)) (μ (h + 1 + 1)) (μ (h + 1) 2) * (μ (h + 11) 2) + sm (fun k => spn ((μ (h + 10)) ((μ (h + 1 + 1)) k))) i), vI i] []) (a := 0) (b := (μ (h + 1) 2)) W0 ?_ ?_
  · show RR X _ _ [vR h, vI (stS (μ (h + 10)) (μ (h + 1 + 1)) (μ (h + 1) 2) * (μ (h + 11) 2) + sm (fun k => spn ((μ (h + 10)) ((μ (h + 1 + 1)) k))) (μ (h + 1) 2)), vI (μ (h + 1) 2)] []
    refine r_iload_n C dX3_threadLength_16 rfl ?_
    refine r_aload_n C dX3_threadLength_17 rfl ?_
    refine gf_X3_12 C S1 dX3_threadLength_18 ?_
    refine gf_X3_62 C SB.2.1 dX3_threadLength_21 ?_
    refine r_icmp_ge (tgt := 44) C dX3_threadLength_24 (by decide) (by omega) (by omega) (fun c24 => ?_) (fun c24 => absurd c24 (by omega))
    refine r_iload_n C dX3_threadLength_44 rfl ?_
    exact r_iret C hF dX3_threadLength_45 rfl rfl
  · intro i h0 h1 K2
    show RR X _ _ [vR h, vI (stS (μ (h + 10)) (μ (h + 1 + 1)) (μ (h + 1) 2) * (μ (h + 11) 2) + sm (fun k => spn ((μ (h + 10)) ((μ (h + 1 + 1)) k))) i), vI i] []
    refine r_iload_n C dX3_threadLength_16 rfl ?_
    refine r_aload_n C dX3_threadLength_17 rfl ?_
    refine gf_X3_12 C S1 dX3_threadLength_18 ?_
    refine gf_X3_62 C SB.2.1 dX3_threadLength_21 ?_
    refine r_icmp_ge (tgt := 44) C dX3_threadLength_24 (by decide) (by omega) (by omega) (fun c24 => absurd c24 (by omega)) (fun c24 => ?_)
    refine r_iload_n C dX3_threadLength_27 rfl ?_
    refine r_aload_n C dX3_threadLength_28 rfl ?_
    refine r_iload_n C dX3_threadLength_29 rfl ?_
    refine r_runI (fun aH aL aj a1 a2 a3 => run_V C hF.2.2.1 (kX3_holesAt hS hW h0 h1) lm_X3_holesAt ml_X3_118 im_X3_holesAt se_X3_holesAt S1 rfl (Nat.le_of_ble_eq_true rfl) dX3_threadLength_30 rfl (Nat.le_of_ble_eq_true rfl) a1 a2 a3) ?_
    refine r_runI (fun aH aL aj a1 a2 a3 => run_S C hF.2.2.1 (kX3_spanOfHoles (Wh _ (W2 i h0 h1).1 (W2 i h0 h1).2).1 (Wh _ (W2 i h0 h1).1 (W2 i h0 h1).2).2) lm_X3_spanOfHoles ml_X3_132 sm_X3_spanOfHoles (Nat.le_of_ble_eq_true rfl) dX3_threadLength_33 rfl (Nat.le_of_ble_eq_true rfl) a1 a2 a3) ?_
    refine r_iadd C dX3_threadLength_36 ?_
    refine r_istore_n C dX3_threadLength_37 (by decide) rfl ?_
    refine r_iinc C dX3_threadLength_38 rfl (by decide) rfl ?_
    refine r_goto (tgt := 16) C dX3_threadLength_41 (by decide) ?_
    rw [sm_s _ h0, ← Int.add_assoc] at K2
    exact K2
