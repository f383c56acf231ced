set_option maxRecDepth 20000 in
set_option maxHeartbeats 2000000 in
theorem kX1_save {V : Wo} {μ : Mem} {q g : Nat} (hH : HiS V q) (hW : HiW V μ q) (hG : StS V g) (hg : g + 11 < q ∨ q + 1 < g) (hd : sepS μ q g) : Con V 4 yX1_save cX1_save 2 (none) [vR q, vR g] (μ) (QV V (sav μ q g)) := by
  refine con_of (ls0 := [vR q, vR g]) (by decide +kernel) rfl (Nat.le_of_ble_eq_true rfl) (Nat.le_of_ble_eq_true rfl) (fun X hV C hF => ?_)
  subst hV
  have C : Ok X RX1 cX1_save 2 4 := C
  obtain ⟨H0, H1, H2⟩ := id hH
  refine jn (A := ∀ M : Mem, HiW (xV X) M q → sepS M q g → M q 1 < 6 → Fnl X none (QV (xV X) (sav1 M q g)) → RR X M 16 [vR q, vR g] []) ?_ (fun J => ?_)
  · intro M hM hs h6 hF
    obtain ⟨v1, v2⟩ := id hM
    have hD2 := v2 (M q 1) v1.1 h6
    have hsep := hs (M q 1) v1.1 h6
    refine r_aload_n C dX1_save_16 rfl ?_
    refine gf_X1_18 C H1 dX1_save_17 ?_
    refine r_if_lt (tgt := 70) C dX1_save_20 (by decide) (by omega) (fun c20 => absurd c20 (by omega)) (fun c20 => ?_)
    refine r_aload_n C dX1_save_23 rfl ?_
    refine gf_X1_18 C H1 dX1_save_24 ?_
    refine r_aload_n C dX1_save_27 rfl ?_
    refine gf_X1_11 C H1 dX1_save_28 ?_
    refine r_alenS C H2 dX1_save_31 ?_
    refine r_icmp_ge (tgt := 70) C dX1_save_32 (by decide) (by omega) (by omega) (fun c32 => absurd c32 (by omega)) (fun c32 => ?_)
    refine r_aload_n C dX1_save_35 rfl ?_
    refine gf_X1_11 C H1 dX1_save_36 ?_
    refine r_aload_n C dX1_save_39 rfl ?_
    refine gf_X1_18 C H1 dX1_save_40 ?_
    refine r_aald C H2 (by omega) (by omega) dX1_save_43 ?_
    refine r_ifnull C dX1_save_44 ?_
    refine r_aload_n C dX1_save_47 rfl ?_
    refine gf_X1_11 C H1 dX1_save_48 ?_
    refine r_aload_n C dX1_save_51 rfl ?_
    refine gf_X1_18 C H1 dX1_save_52 ?_
    refine r_aald C H2 (by omega) (by omega) dX1_save_55 ?_
    refine r_aload_n C dX1_save_56 rfl ?_
    refine r_runV (fun aH aL aj a1 a2 a3 => run_V C hF.2.2.1 (kX3_copyFrom hD2.2.1 hG hsep) lm_X3_copyFrom ml_X1_25 im_X3_copyFrom se_X3_copyFrom hD2.2.1.2.1 rfl (Nat.le_of_ble_eq_true rfl) dX1_save_57 rfl (Nat.le_of_ble_eq_true rfl) a1 a2 a3) ?_
    rw [show (M (q + 1) (M q 1)).toNat = svA M q (M q 1) from rfl]
    refine r_aload_n C dX1_save_60 rfl ?_
    refine r_dup C dX1_save_61 rfl ?_
    have en := cpS_n M (h := svA M q (M q 1)) (g := g) (q := q) (by have := hD2.2.2; unfold svA; omega)
    refine gf_X1_18 C H1 dX1_save_62 ?_
    refine r_iconst C dX1_save_65 ?_
    refine r_iadd C dX1_save_66 ?_
    rw [en]
    refine pf_X1_18 C H1 H0 dX1_save_67 ?_
    exact r_vret C hF dX1_save_70 (by rw [en]; rfl)
  · obtain ⟨w1, w2⟩ := id hW
    refine r_aload_n C dX1_save_0 rfl ?_
    refine gf_X1_18 C H1 dX1_save_1 ?_
    refine r_aload_n C dX1_save_4 rfl ?_
    refine gf_X1_11 C H1 dX1_save_5 ?_
    refine r_alenS C H2 dX1_save_8 ?_
    refine r_icmp_lt (tgt := 16) C dX1_save_9 (by decide) (by omega) (by omega) (fun c9 => ?_) (fun c9 => ?_)
    · skip
      have c9a : μ q 1 < 6 := by omega
      exact J μ hW hd c9a (by unfold sav at hF; rw [if_pos c9a] at hF; exact hF)
    · skip
      refine r_aload_n C dX1_save_12 rfl ?_
      refine r_runV (fun aH aL aj a1 a2 a3 => run_V C hF.2.2.1 (kX1_dropOldest hH hW) lm_X1_dropOldest ml_X1_22 im_X1_dropOldest se_X1_dropOldest H1 rfl (Nat.le_of_ble_eq_true rfl) dX1_save_13 rfl (Nat.le_of_ble_eq_true rfl) a1 a2 a3) ?_
      exact J (drp μ q) (HiW_drp hW (by omega)) (sep_drp hd) (by unfold drp; rw [wr_s, s1_s]; omega) (by unfold sav at hF; rw [if_neg (by omega)] at hF; exact hF)
set_option maxRecDepth 20000 in
set_option maxHeartbeats 2000000 in
theorem kX1_restore {V : Wo} {μ : Mem} {q g : Nat} (hH : HiS V q) (hW : HiW V μ q) (hG : StS V g) (hg : g + 11 < q ∨ q + 1 < g) (hd : sepS μ q g) (hp : 0 < μ q 1) : Con V 4 yX1_restore cX1_restore 2 (none) [vR q, vR g] (μ) (QV V (rsto μ q g)) := by
  refine con_of (ls0 := [vR q, vR g]) (by decide +kernel) rfl (Nat.le_of_ble_eq_true rfl) (Nat.le_of_ble_eq_true rfl) (fun X hV C hF => ?_)
  subst hV
  have C : Ok X RX1 cX1_restore 2 4 := C
  obtain ⟨H0, H1, H2⟩ := id hH
  obtain ⟨w1, w2⟩ := id hW
  have hD2 := w2 (μ q 1 - 1) (by omega) (by omega)
  refine r_aload_n C dX1_restore_0 rfl ?_
  refine r_ifnull C dX1_restore_1 ?_
  refine r_aload_n C dX1_restore_4 rfl ?_
  refine gf_X1_18 C H1 dX1_restore_5 ?_
  refine r_if_le (tgt := 46) C dX1_restore_8 (by decide) (by omega) (fun c8 => absurd c8 (by omega)) (fun c8 => ?_)
  refine r_aload_n C dX1_restore_11 rfl ?_
  refine gf_X1_18 C H1 dX1_restore_12 ?_
  refine r_aload_n C dX1_restore_15 rfl ?_
  refine gf_X1_11 C H1 dX1_restore_16 ?_
  refine r_alenS C H2 dX1_restore_19 ?_
  refine r_icmp_gt (tgt := 46) C dX1_restore_20 (by decide) (by omega) (by omega) (fun c20 => absurd c20 (by omega)) (fun c20 => ?_)
  refine r_aload_n C dX1_restore_23 rfl ?_
  refine r_dup C dX1_restore_24 rfl ?_
  refine gf_X1_18 C H1 dX1_restore_25 ?_
  refine r_iconst C dX1_restore_28 ?_
  refine r_isub C dX1_restore_29 ?_
  refine pf_X1_18 C H1 H0 dX1_restore_30 ?_
  refine r_aload_n C dX1_restore_33 rfl ?_
  refine r_aload_n C dX1_restore_34 rfl ?_
  refine gf_X1_11 C H1 dX1_restore_35 ?_
  refine r_aload_n C dX1_restore_38 rfl ?_
  have en : wr μ q (s1 (μ q) 1 (μ q 1 - 1)) q 1 = μ q 1 - 1 := by rw [wr_s, s1_s]
  have en2 : wr μ q (s1 (μ q) 1 (μ q 1 - 1)) (q + 1) = μ (q + 1) := wr_n _ _ (by omega)
  refine gf_X1_18 C H1 dX1_restore_39 ?_
  rw [en]
  refine r_aald C H2 (by omega) (by omega) dX1_restore_42 ?_
  rw [en2]
  refine r_runV (fun aH aL aj a1 a2 a3 => run_V C hF.2.2.1 (kX3_copyFrom hG hD2.2.1 (by have := hd (μ q 1 - 1) (by omega) (by omega); unfold svA at this; omega)) lm_X3_copyFrom ml_X1_25 im_X3_copyFrom se_X3_copyFrom hG.2.1 rfl (Nat.le_of_ble_eq_true rfl) dX1_restore_43 rfl (Nat.le_of_ble_eq_true rfl) a1 a2 a3) ?_
  exact r_vret C hF dX1_restore_46 rfl
set_option maxRecDepth 20000 in
set_option maxHeartbeats 2000000 in
theorem kX4_readBuffer {V : Wo} {μ : Mem} {q : Nat} {K : Int} (hS : SpS V q) (hW : SpW V K μ q) : Con V 4 yX4_readBuffer cX4_readBuffer 2 (some .int) [vR q] (μ) (QI V ((fEr (μ (q + 111)) (μ (q + 112)) (μ q 6))) (wr μ (q + 111) (rdI (μ (q + 111)) (μ (q + 112)) (fEr (μ (q + 111)) (μ (q + 112)) (μ q 6))))) := by
  refine con_of (ls0 := [vR q, vU]) (by decide +kernel) rfl (Nat.le_of_ble_eq_true rfl) (Nat.le_of_ble_eq_true rfl) (fun X hV C hF => ?_)
  subst hV
  have C : Ok X RX4 cX4_readBuffer 2 4 := C
  obtain ⟨P0, P1, PN, PS, PT, PH, PR, PB⟩ := id hS
  obtain ⟨QN, QH, Q6, Q7, QB, QR, QA⟩ := id hW
  refine r_aload_n C dX4_readBuffer_0 rfl ?_
  refine gf_X4_32 C P1 dX4_readBuffer_1 ?_
  refine r_runV (fun aH aL aj a1 a2 a3 => run_V C hF.2.2.1 (kX2_start PR) lm_X2_start ml_X4_326 im_X2_start se_X2_start PR.2 rfl (Nat.le_of_ble_eq_true rfl) dX4_readBuffer_4 rfl (Nat.le_of_ble_eq_true rfl) a1 a2 a3) ?_
  refine r_iconst C dX4_readBuffer_7 ?_
  refine r_istore_n C dX4_readBuffer_8 (by decide) rfl ?_
  refine r_eq (μ' := wr μ (q + 111) (rdI (μ (q + 111)) (μ (q + 112)) 0)) ?_ rfl
  revert hF
  rw [fEr_I]
  refine loop_up (F := fun i => Fnl X (some .int) (QI (xV X) (eI (rdP (μ (q + 111)) (μ (q + 112))) i (μ q 6)) (wr μ (q + 111) (rdI (μ (q + 111)) (μ (q + 112)) (eI (rdP (μ (q + 111)) (μ (q + 112))) i (μ q 6))))) → RR X (wr μ (q + 111) (rdI (μ (q + 111)) (μ (q + 112)) i)) 9 [vR q, vI i] []) (a := 0) (b := μ q 6) Q6.1 ?_ ?_
  · intro hF
    rw [eI_e _ (Int.le_refl _)] at hF
    show RR X _ _ [vR q, vI (μ q 6)] []
    refine r_iload_n C dX4_readBuffer_9 rfl ?_
    refine r_aload_n C dX4_readBuffer_10 rfl ?_
    refine gf_X4_40 C P1 dX4_readBuffer_11 ?_
    rw [wr_n _ _ (by omega)]
    refine r_icmp_ge (tgt := 43) C dX4_readBuffer_14 (by decide) (by omega) (by omega) (fun c14 => ?_) (fun c14 => absurd c14 (by omega))
    refine r_aload_n C dX4_readBuffer_43 rfl ?_
    refine gf_X4_40 C P1 dX4_readBuffer_44 ?_
    rw [wr_n _ _ (by omega)]
    exact r_iret C hF dX4_readBuffer_47 rfl rfl
  · intro i h0 h1 K2 hF
    show RR X _ _ [vR q, vI i] []
    have hb := QB i h0 h1
    have hRi := rdI_W (μ (q + 111)) (μ (q + 112)) h0 (fun j j0 j1 => by have := QB j j0 (by omega); omega)
    have hx := nX_r (rdI (μ (q + 111)) (μ (q + 112)) i) (μ (q + 112) i)
    refine r_iload_n C dX4_readBuffer_9 rfl ?_
    refine r_aload_n C dX4_readBuffer_10 rfl ?_
    refine gf_X4_40 C P1 dX4_readBuffer_11 ?_
    rw [wr_n _ _ (by omega)]
    refine r_icmp_ge (tgt := 43) C dX4_readBuffer_14 (by decide) (by omega) (by omega) (fun c14 => absurd c14 (by omega)) (fun c14 => ?_)
    refine r_aload_n C dX4_readBuffer_17 rfl ?_
    refine gf_X4_32 C P1 dX4_readBuffer_18 ?_
    refine r_aload_n C dX4_readBuffer_21 rfl ?_
    refine gf_X4_36 C P1 dX4_readBuffer_22 ?_
    refine r_iload_n C dX4_readBuffer_25 rfl ?_
    refine r_runI (fun aH aL aj a1 a2 a3 => run_S C hF.2.2.1 (kX4_at PB (by decide) (by omega) (by omega)) lm_X4_at ml_X4_130 sm_X4_at (Nat.le_of_ble_eq_true rfl) dX4_readBuffer_26 rfl (Nat.le_of_ble_eq_true rfl) a1 a2 a3) ?_
    rw [wr_n _ _ (by omega)]
    refine r_runI (fun aH aL aj a1 a2 a3 => run_V C hF.2.2.1 (kX2_accepts PR (by rw [wr_s]; exact hRi) (by omega) (by omega)) lm_X2_accepts ml_X4_329 im_X2_accepts se_X2_accepts PR.2 rfl (Nat.le_of_ble_eq_true rfl) dX4_readBuffer_29 rfl (Nat.le_of_ble_eq_true rfl) a1 a2 a3) ?_
    rw [wr_s, wr_ww]
    refine r_if_ne (tgt := 37) C dX4_readBuffer_32 (by decide) (by omega) (fun c32 => ?_) (fun c32 => ?_)
    · skip
      refine r_iinc C dX4_readBuffer_37 rfl (by decide) rfl ?_
      refine r_goto (tgt := 9) C dX4_readBuffer_40 (by decide) ?_
      rw [eI_f _ h1 c32] at hF
      refine r_eq (K2 hF) ?_
      rw [rdI_s _ _ h0]
    · rw [eI_t _ h0 h1 c32] at hF
      refine r_iload_n C dX4_readBuffer_35 rfl ?_
      exact r_iret C hF dX4_readBuffer_36 rfl (by rw [nX_z c32])
set_option maxRecDepth 20000 in
set_option maxHeartbeats 2000000 in
theorem kX4_clearBuffer {V : Wo} {μ : Mem} {q : Nat} {K : Int} (hS : SpS V q) (hW : SpW V K μ q) : Con V 0 yX4_clearBuffer cX4_clearBuffer 2 (some .int) [vR q] (μ) (QI V (μ q 6) (wr μ q (s1 (μ q) 6 0))) := by
  refine con_of (ls0 := [vR q, vU]) (by decide +kernel) rfl (Nat.le_of_ble_eq_true rfl) (Nat.le_of_ble_eq_true rfl) (fun X hV C hF => ?_)
  subst hV
  have C : Ok X RX4 cX4_clearBuffer 2 0 := C
  obtain ⟨P0, P1, PN, PS, PT, PH, PR, PB⟩ := id hS
  obtain ⟨QN, QH, Q6, Q7, QB, QR, QA⟩ := id hW
  refine r_aload_n C dX4_clearBuffer_0 rfl ?_
  refine gf_X4_40 C P1 dX4_clearBuffer_1 ?_
  refine r_istore_n C dX4_clearBuffer_4 (by decide) rfl ?_
  refine r_aload_n C dX4_clearBuffer_5 rfl ?_
  refine r_iconst C dX4_clearBuffer_6 ?_
  refine pf_X4_40 C P1 P0 dX4_clearBuffer_7 ?_
  refine r_iload_n C dX4_clearBuffer_10 rfl ?_
  exact r_iret C hF dX4_clearBuffer_11 rfl rfl
set_option maxRecDepth 20000 in
set_option maxHeartbeats 2000000 in
theorem kX4_firstError {V : Wo} {μ : Mem} {q : Nat} {K : Int} (hS : SpS V q) (hW : SpW V K μ q) : Con V 5 yX4_firstError cX4_firstError 1 (some .int) [vR q] (μ) (QI V ((fEr (μ (q + 111)) (μ (q + 112)) (μ q 6))) (wr μ (q + 111) (rdI (μ (q + 111)) (μ (q + 112)) (fEr (μ (q + 111)) (μ (q + 112)) (μ q 6))))) := by
  refine con_of (ls0 := [vR q]) (by decide +kernel) rfl (Nat.le_of_ble_eq_true rfl) (Nat.le_of_ble_eq_true rfl) (fun X hV C hF => ?_)
  subst hV
  have C : Ok X RX4 cX4_firstError 1 5 := C
  obtain ⟨P0, P1, PN, PS, PT, PH, PR, PB⟩ := id hS
  refine r_aload_n C dX4_firstError_0 rfl ?_
  refine r_runI (fun aH aL aj a1 a2 a3 => run_V C hF.2.2.1 (kX4_readBuffer hS hW) lm_X4_readBuffer ml_X4_171 im_X4_readBuffer se_X4_readBuffer P1 rfl (Nat.le_of_ble_eq_true rfl) dX4_firstError_1 rfl (Nat.le_of_ble_eq_true rfl) a1 a2 a3) ?_
  exact r_iret C hF dX4_firstError_4 rfl rfl
set_option maxRecDepth 20000 in
set_option maxHeartbeats 2000000 in
theorem kX4_partCanBeDone {V : Wo} {μ : Mem} {q : Nat} {K : Int} (hS : SpS V q) (hW : SpW V K μ q) (hl : μ (q + 111) 0 = 103 → μ (q + 111) 2 < 16) : Con V 4 yX4_partCanBeDone cX4_partCanBeDone 1 (some .boolean) [vR q] (μ) (QI V (pcn μ q (μ (q + 111))) (μ)) := by
  refine con_of (ls0 := [vR q]) (by decide +kernel) rfl (Nat.le_of_ble_eq_true rfl) (Nat.le_of_ble_eq_true rfl) (fun X hV C hF => ?_)
  subst hV
  have C : Ok X RX4 cX4_partCanBeDone 1 4 := C
  obtain ⟨P0, P1, PN, PS, PT, PH, PR, PB⟩ := id hS
  obtain ⟨QN, QH, Q6, Q7, QB, QR, QA⟩ := id hW
  obtain ⟨hK, WB, Wc, Wi, Wp, Wh, Ws0, Ws1, Ws2, Wbk, Wls⟩ := id QN
  obtain ⟨W0, W1, W2, W3⟩ := id WB
  obtain ⟨r0, r1, r2, r3, r4⟩ := id QR
  refine r_aload_n C dX4_partCanBeDone_0 rfl ?_
  refine gf_X4_32 C P1 dX4_partCanBeDone_1 ?_
  refine gf_X4_338 C PR.2 dX4_partCanBeDone_4 ?_
  rcases (by omega : μ (q + 111) 0 = 103 ∨ μ (q + 111) 0 = 112 ∨ μ (q + 111) 0 = 102 ∨ μ (q + 111) 0 = 109 ∨ (μ (q + 111) 0 ≠ 103 ∧ μ (q + 111) 0 ≠ 112 ∧ μ (q + 111) 0 ≠ 102 ∧ μ (q + 111) 0 ≠ 109)) with e | e | e | e | e
  · have ep : pcn μ q (μ (q + 111)) = b01 (0 < μ (q + 1 + 7) (μ (q + 111) 2) ∧ μ (q + 1 + 1) 2 < 20) := if_pos e
    rw [ep] at hF
    rw [e]
    refine r_lsw (tgt := 48) C dX4_partCanBeDone_7 rfl (by omega) rfl (by decide) ?_
    refine r_aload_n C dX4_partCanBeDone_48 rfl ?_
    refine gf_X4_10 C P1 dX4_partCanBeDone_49 ?_
    refine r_aload_n C dX4_partCanBeDone_52 rfl ?_
    refine gf_X4_32 C P1 dX4_partCanBeDone_53 ?_
    refine gf_X4_342 C PR.2 dX4_partCanBeDone_56 ?_
    refine r_runI (fun aH aL aj a1 a2 a3 => run_V C hF.2.2.1 (kX3_hasCopyAndRoom PN QN (by omega) (hl e)) lm_X3_hasCopyAndRoom ml_X4_59 im_X3_hasCopyAndRoom se_X3_hasCopyAndRoom PN.2.1 rfl (Nat.le_of_ble_eq_true rfl) dX4_partCanBeDone_59 rfl (Nat.le_of_ble_eq_true rfl) a1 a2 a3) ?_
    exact r_zret C hF dX4_partCanBeDone_62 (b01_z _) rfl rfl
  · have ep : pcn μ q (μ (q + 111)) = b01 (0 ≤ μ (q + 111) 2 ∧ μ (q + 111) 2 < μ (q + 1 + 1) 2) := by unfold pcn; rw [if_neg (by omega), if_pos (Or.inl e)]
    rw [ep] at hF
    rw [e]
    refine r_lsw (tgt := 63) C dX4_partCanBeDone_7 rfl (by omega) rfl (by decide) ?_
    refine r_aload_n C dX4_partCanBeDone_63 rfl ?_
    refine gf_X4_10 C P1 dX4_partCanBeDone_64 ?_
    refine gf_X4_71 C PN.2.1 dX4_partCanBeDone_67 ?_
    refine r_aload_n C dX4_partCanBeDone_70 rfl ?_
    refine gf_X4_32 C P1 dX4_partCanBeDone_71 ?_
    refine gf_X4_342 C PR.2 dX4_partCanBeDone_74 ?_
    refine r_runI (fun aH aL aj a1 a2 a3 => run_V C hF.2.2.1 (kX0_hasPlace PN.2.2.1 WB (by omega)) lm_X0_hasPlace ml_X4_86 im_X0_hasPlace se_X0_hasPlace PN.2.2.1.2.1 rfl (Nat.le_of_ble_eq_true rfl) dX4_partCanBeDone_77 rfl (Nat.le_of_ble_eq_true rfl) a1 a2 a3) ?_
    exact r_zret C hF dX4_partCanBeDone_80 (b01_z _) rfl rfl
  · have ep : pcn μ q (μ (q + 111)) = b01 (0 ≤ μ (q + 111) 2 ∧ μ (q + 111) 2 < μ (q + 1 + 1) 2) := by unfold pcn; rw [if_neg (by omega), if_pos (Or.inr e)]
    rw [ep] at hF
    rw [e]
    refine r_lsw (tgt := 63) C dX4_partCanBeDone_7 rfl (by omega) rfl (by decide) ?_
    refine r_aload_n C dX4_partCanBeDone_63 rfl ?_
    refine gf_X4_10 C P1 dX4_partCanBeDone_64 ?_
    refine gf_X4_71 C PN.2.1 dX4_partCanBeDone_67 ?_
    refine r_aload_n C dX4_partCanBeDone_70 rfl ?_
    refine gf_X4_32 C P1 dX4_partCanBeDone_71 ?_
    refine gf_X4_342 C PR.2 dX4_partCanBeDone_74 ?_
    refine r_runI (fun aH aL aj a1 a2 a3 => run_V C hF.2.2.1 (kX0_hasPlace PN.2.2.1 WB (by omega)) lm_X0_hasPlace ml_X4_86 im_X0_hasPlace se_X0_hasPlace PN.2.2.1.2.1 rfl (Nat.le_of_ble_eq_true rfl) dX4_partCanBeDone_77 rfl (Nat.le_of_ble_eq_true rfl) a1 a2 a3) ?_
    exact r_zret C hF dX4_partCanBeDone_80 (b01_z _) rfl rfl
  · have ep : pcn μ q (μ (q + 111)) = b01 ((0 ≤ μ (q + 111) 1 ∧ μ (q + 111) 1 < μ (q + 1 + 1) 2) ∧ (0 ≤ μ (q + 111) 2 ∧ μ (q + 111) 2 < μ (q + 1 + 1) 2)) := by unfold pcn; rw [if_neg (by omega), if_neg (by omega), if_pos e]
    rw [ep] at hF
    rw [e]
    refine r_lsw (tgt := 81) C dX4_partCanBeDone_7 rfl (by omega) rfl (by decide) ?_
    refine r_aload_n C dX4_partCanBeDone_81 rfl ?_
    refine gf_X4_10 C P1 dX4_partCanBeDone_82 ?_
    refine gf_X4_71 C PN.2.1 dX4_partCanBeDone_85 ?_
    refine r_aload_n C dX4_partCanBeDone_88 rfl ?_
    refine gf_X4_32 C P1 dX4_partCanBeDone_89 ?_
    refine gf_X4_345 C PR.2 dX4_partCanBeDone_92 ?_
    refine r_runI (fun aH aL aj a1 a2 a3 => run_V C hF.2.2.1 (kX0_hasPlace PN.2.2.1 WB (by omega)) lm_X0_hasPlace ml_X4_86 im_X0_hasPlace se_X0_hasPlace PN.2.2.1.2.1 rfl (Nat.le_of_ble_eq_true rfl) dX4_partCanBeDone_95 rfl (Nat.le_of_ble_eq_true rfl) a1 a2 a3) ?_
    refine r_if_eq (tgt := 125) C dX4_partCanBeDone_98 (by decide) (by have := b01_r (0 ≤ μ (q + 111) 1 ∧ μ (q + 111) 1 < μ (q + 1 + 1) 2); omega) (fun c98 => ?_) (fun c98 => ?_)
    · have z1 : ¬ (0 ≤ μ (q + 111) 1 ∧ μ (q + 111) 1 < μ (q + 1 + 1) 2) := fun z => by rw [b01_t z] at c98; omega
      refine r_iconst C dX4_partCanBeDone_125 ?_
      exact r_zret C hF dX4_partCanBeDone_126 (Or.inl rfl) (b01_f (fun z => z1 z.1)).symm rfl
    · have z1 : (0 ≤ μ (q + 111) 1 ∧ μ (q + 111) 1 < μ (q + 1 + 1) 2) := Decidable.byContradiction (fun z => c98 (b01_f z))
      refine r_aload_n C dX4_partCanBeDone_101 rfl ?_
      refine gf_X4_10 C P1 dX4_partCanBeDone_102 ?_
      refine gf_X4_71 C PN.2.1 dX4_partCanBeDone_105 ?_
      refine r_aload_n C dX4_partCanBeDone_108 rfl ?_
      refine gf_X4_32 C P1 dX4_partCanBeDone_109 ?_
      refine gf_X4_342 C PR.2 dX4_partCanBeDone_112 ?_
      refine r_runI (fun aH aL aj a1 a2 a3 => run_V C hF.2.2.1 (kX0_hasPlace PN.2.2.1 WB (by omega)) lm_X0_hasPlace ml_X4_86 im_X0_hasPlace se_X0_hasPlace PN.2.2.1.2.1 rfl (Nat.le_of_ble_eq_true rfl) dX4_partCanBeDone_115 rfl (Nat.le_of_ble_eq_true rfl) a1 a2 a3) ?_
      refine r_if_eq (tgt := 125) C dX4_partCanBeDone_118 (by decide) (by have := b01_r (0 ≤ μ (q + 111) 2 ∧ μ (q + 111) 2 < μ (q + 1 + 1) 2); omega) (fun c118 => ?_) (fun c118 => ?_)
      · have z2 : ¬ (0 ≤ μ (q + 111) 2 ∧ μ (q + 111) 2 < μ (q + 1 + 1) 2) := fun z => by rw [b01_t z] at c118; omega
        refine r_iconst C dX4_partCanBeDone_125 ?_
        exact r_zret C hF dX4_partCanBeDone_126 (Or.inl rfl) (b01_f (fun z => z2 z.2)).symm rfl
      · have z2 : (0 ≤ μ (q + 111) 2 ∧ μ (q + 111) 2 < μ (q + 1 + 1) 2) := Decidable.byContradiction (fun z => c118 (b01_f z))
        refine r_iconst C dX4_partCanBeDone_121 ?_
        refine r_goto (tgt := 126) C dX4_partCanBeDone_122 (by decide) ?_
        exact r_zret C hF dX4_partCanBeDone_126 (Or.inr rfl) (b01_t ⟨z1, z2⟩).symm rfl
  · have ep : pcn μ q (μ (q + 111)) = b01 (flt (μ (q + 1 + 11) 0) (μ (q + 1 + 1 + 1)) (μ (q + 1 + 1 + 2)) (μ (q + 1 + 1) 2) = 0) := by unfold pcn; rw [if_neg (by omega), if_neg (by omega), if_neg (by omega)]
    rw [ep] at hF
    refine r_lsw (tgt := 127) C dX4_partCanBeDone_7 rfl (by omega) (by rw [lsw_4 _ _ _ _ _ _ _ _ _ _ e.2.2.1 e.1 e.2.2.2 e.2.1]) (by decide) ?_
    refine r_aload_n C dX4_partCanBeDone_127 rfl ?_
    refine gf_X4_10 C P1 dX4_partCanBeDone_128 ?_
    refine r_runI (fun aH aL aj a1 a2 a3 => run_V C hF.2.2.1 (kX3_fault PN QN) lm_X3_fault ml_X4_111 im_X3_fault se_X3_fault PN.2.1 rfl (Nat.le_of_ble_eq_true rfl) dX4_partCanBeDone_131 rfl (Nat.le_of_ble_eq_true rfl) a1 a2 a3) ?_
    refine r_if_ne (tgt := 141) C dX4_partCanBeDone_134 (by decide) (by have := flt_r (μ (q + 1 + 11) 0) (μ (q + 1 + 1 + 1)) (μ (q + 1 + 1 + 2)) (μ (q + 1 + 1) 2); omega) (fun c134 => ?_) (fun c134 => ?_)
    · skip
      refine r_iconst C dX4_partCanBeDone_141 ?_
      exact r_zret C hF dX4_partCanBeDone_142 (Or.inl rfl) (b01_f c134).symm rfl
    · skip
      refine r_iconst C dX4_partCanBeDone_137 ?_
      refine r_goto (tgt := 142) C dX4_partCanBeDone_138 (by decide) ?_
      exact r_zret C hF dX4_partCanBeDone_142 (Or.inr rfl) (b01_t c134).symm rfl
set_option maxRecDepth 20000 in
set_option maxHeartbeats 2000000 in
theorem kX4_doPart {V : Wo} {μ : Mem} {q : Nat} {K : Int} (hS : SpS V q) (hW : SpW V K μ q) (hl : μ (q + 111) 0 = 103 → μ (q + 111) 2 < 16) (hc : pcn μ q (μ (q + 111)) = 1) : Con V 3 yX4_doPart cX4_doPart 1 (none) [vR q] (μ) (QV V (pDo μ q (μ (q + 111)))) := by
  refine con_of (ls0 := [vR q]) (by decide +kernel) rfl (Nat.le_of_ble_eq_true rfl) (Nat.le_of_ble_eq_true rfl) (fun X hV C hF => ?_)
  subst hV
  have C : Ok X RX4 cX4_doPart 1 3 := C
  obtain ⟨P0, P1, PN, PS, PT, PH, PR, PB⟩ := id hS
  obtain ⟨QN, QH, Q6, Q7, QB, QR, QA⟩ := id hW
  obtain ⟨hK, WB, Wc, Wi, Wp, Wh, Ws0, Ws1, Ws2, Wbk, Wls⟩ := id QN
  obtain ⟨W0, W1, W2, W3⟩ := id WB
  obtain ⟨r0, r1, r2, r3, r4⟩ := id QR
  refine r_aload_n C dX4_doPart_0 rfl ?_
  refine gf_X4_32 C P1 dX4_doPart_1 ?_
  refine gf_X4_338 C PR.2 dX4_doPart_4 ?_
  rcases (by omega : μ (q + 111) 0 = 103 ∨ μ (q + 111) 0 = 112 ∨ μ (q + 111) 0 = 102 ∨ μ (q + 111) 0 = 109 ∨ (μ (q + 111) 0 ≠ 103 ∧ μ (q + 111) 0 ≠ 112 ∧ μ (q + 111) 0 ≠ 102 ∧ μ (q + 111) 0 ≠ 109)) with e | e | e | e | e
  · have ep : pcn μ q (μ (q + 111)) = b01 (0 < μ (q + 1 + 7) (μ (q + 111) 2) ∧ μ (q + 1 + 1) 2 < 20) := if_pos e
    rw [ep] at hc
    have hq := b01_1 hc
    have ed : pDo μ q (μ (q + 111)) = opG μ (q + 1) (μ (q + 1 + 1) 2) (μ (q + 111) 2) := if_pos e
    rw [ed] at hF
    rw [e]
    refine r_lsw (tgt := 48) C dX4_doPart_7 rfl (by omega) rfl (by decide) ?_
    refine r_aload_n C dX4_doPart_48 rfl ?_
    refine gf_X4_10 C P1 dX4_doPart_49 ?_
    refine r_aload_n C dX4_doPart_52 rfl ?_
    refine gf_X4_10 C P1 dX4_doPart_53 ?_
    refine gf_X4_71 C PN.2.1 dX4_doPart_56 ?_
    refine gf_X4_75 C PN.2.2.1.2.1 dX4_doPart_59 ?_
    refine r_aload_n C dX4_doPart_62 rfl ?_
    refine gf_X4_32 C P1 dX4_doPart_63 ?_
    refine gf_X4_342 C PR.2 dX4_doPart_66 ?_
    refine r_runV (fun aH aL aj a1 a2 a3 => run_V C hF.2.2.1 (kX3_putFromBin PN QN W0 (Int.le_refl _) hq.2 (by omega) (hl e)) lm_X3_putFromBin ml_X4_80 im_X3_putFromBin se_X3_putFromBin PN.2.1 rfl (Nat.le_of_ble_eq_true rfl) dX4_doPart_69 rfl (Nat.le_of_ble_eq_true rfl) a1 a2 a3) ?_
    refine r_goto (tgt := 147) C dX4_doPart_72 (by decide) ?_
    exact r_vret C hF dX4_doPart_147 rfl
  · have ep : pcn μ q (μ (q + 111)) = b01 (0 ≤ μ (q + 111) 2 ∧ μ (q + 111) 2 < μ (q + 1 + 1) 2) := by unfold pcn; rw [if_neg (by omega), if_pos (Or.inl e)]
    rw [ep] at hc
    have hq := b01_1 hc
    have ed : pDo μ q (μ (q + 111)) = opP μ (q + 1) (μ (q + 111) 2) := by unfold pDo; rw [if_neg (by omega), if_pos e]
    rw [ed] at hF
    rw [e]
    refine r_lsw (tgt := 75) C dX4_doPart_7 rfl (by omega) rfl (by decide) ?_
    refine r_aload_n C dX4_doPart_75 rfl ?_
    refine gf_X4_10 C P1 dX4_doPart_76 ?_
    refine r_aload_n C dX4_doPart_79 rfl ?_
    refine gf_X4_32 C P1 dX4_doPart_80 ?_
    refine gf_X4_342 C PR.2 dX4_doPart_83 ?_
    refine r_runI (fun aH aL aj a1 a2 a3 => run_V C hF.2.2.1 (kX3_putBack PN QN hq.1 hq.2) lm_X3_putBack ml_X4_91 im_X3_putBack se_X3_putBack PN.2.1 rfl (Nat.le_of_ble_eq_true rfl) dX4_doPart_86 rfl (Nat.le_of_ble_eq_true rfl) a1 a2 a3) ?_
    refine r_pop C dX4_doPart_89 rfl ?_
    refine r_goto (tgt := 147) C dX4_doPart_90 (by decide) ?_
    exact r_vret C hF dX4_doPart_147 rfl
  · have ep : pcn μ q (μ (q + 111)) = b01 (0 ≤ μ (q + 111) 2 ∧ μ (q + 111) 2 < μ (q + 1 + 1) 2) := by unfold pcn; rw [if_neg (by omega), if_pos (Or.inr e)]
    rw [ep] at hc
    have hq := b01_1 hc
    have ed : pDo μ q (μ (q + 111)) = opF μ (q + 1) (μ (q + 111) 2) := by unfold pDo; rw [if_neg (by omega), if_neg (by omega), if_pos e]
    rw [ed] at hF
    rw [e]
    refine r_lsw (tgt := 93) C dX4_doPart_7 rfl (by omega) rfl (by decide) ?_
    refine r_aload_n C dX4_doPart_93 rfl ?_
    refine gf_X4_10 C P1 dX4_doPart_94 ?_
    refine gf_X4_71 C PN.2.1 dX4_doPart_97 ?_
    refine r_aload_n C dX4_doPart_100 rfl ?_
    refine gf_X4_32 C P1 dX4_doPart_101 ?_
    refine gf_X4_342 C PR.2 dX4_doPart_104 ?_
    refine r_runV (fun aH aL aj a1 a2 a3 => run_V C hF.2.2.1 (kX0_turnOver PN.2.2.1 WB hq.1 hq.2) lm_X0_turnOver ml_X4_95 im_X0_turnOver se_X0_turnOver PN.2.2.1.2.1 rfl (Nat.le_of_ble_eq_true rfl) dX4_doPart_107 rfl (Nat.le_of_ble_eq_true rfl) a1 a2 a3) ?_
    refine r_goto (tgt := 147) C dX4_doPart_110 (by decide) ?_
    exact r_vret C hF dX4_doPart_147 rfl
  · have ep : pcn μ q (μ (q + 111)) = b01 ((0 ≤ μ (q + 111) 1 ∧ μ (q + 111) 1 < μ (q + 1 + 1) 2) ∧ (0 ≤ μ (q + 111) 2 ∧ μ (q + 111) 2 < μ (q + 1 + 1) 2)) := by unfold pcn; rw [if_neg (by omega), if_neg (by omega), if_pos e]
    rw [ep] at hc
    have hq := b01_1 hc
    have ed : pDo μ q (μ (q + 111)) = opM μ (q + 1) (μ (q + 111) 1) (μ (q + 111) 2) := by unfold pDo; rw [if_neg (by omega), if_neg (by omega), if_neg (by omega), if_pos e]
    rw [ed] at hF
    rw [e]
    refine r_lsw (tgt := 113) C dX4_doPart_7 rfl (by omega) rfl (by decide) ?_
    refine r_aload_n C dX4_doPart_113 rfl ?_
    refine gf_X4_10 C P1 dX4_doPart_114 ?_
    refine gf_X4_71 C PN.2.1 dX4_doPart_117 ?_
    refine r_aload_n C dX4_doPart_120 rfl ?_
    refine gf_X4_32 C P1 dX4_doPart_121 ?_
    refine gf_X4_345 C PR.2 dX4_doPart_124 ?_
    refine r_aload_n C dX4_doPart_127 rfl ?_
    refine gf_X4_32 C P1 dX4_doPart_128 ?_
    refine gf_X4_342 C PR.2 dX4_doPart_131 ?_
    refine r_runV (fun aH aL aj a1 a2 a3 => run_V C hF.2.2.1 (kX0_shift PN.2.2.1 WB hq.1.1 hq.1.2 hq.2.1 hq.2.2) lm_X0_shift ml_X4_104 im_X0_shift se_X0_shift PN.2.2.1.2.1 rfl (Nat.le_of_ble_eq_true rfl) dX4_doPart_134 rfl (Nat.le_of_ble_eq_true rfl) a1 a2 a3) ?_
    refine r_goto (tgt := 147) C dX4_doPart_137 (by decide) ?_
    exact r_vret C hF dX4_doPart_147 rfl
  · have ep : pcn μ q (μ (q + 111)) = b01 (flt (μ (q + 1 + 11) 0) (μ (q + 1 + 1 + 1)) (μ (q + 1 + 1 + 2)) (μ (q + 1 + 1) 2) = 0) := by unfold pcn; rw [if_neg (by omega), if_neg (by omega), if_neg (by omega)]
    rw [ep] at hc
    have hq := b01_1 hc
    have ed : pDo μ q (μ (q + 111)) = opB μ (q + 1) := by unfold pDo; rw [if_neg (by omega), if_neg (by omega), if_neg (by omega), if_neg (by omega)]
    rw [ed] at hF
    refine r_lsw (tgt := 140) C dX4_doPart_7 rfl (by omega) (by rw [lsw_4 _ _ _ _ _ _ _ _ _ _ e.2.2.1 e.1 e.2.2.2 e.2.1]) (by decide) ?_
    refine r_aload_n C dX4_doPart_140 rfl ?_
    refine gf_X4_10 C P1 dX4_doPart_141 ?_
    refine r_runV (fun aH aL aj a1 a2 a3 => run_V C hF.2.2.1 (kX3_bindBlock PN QN) lm_X3_bindBlock ml_X4_116 im_X3_bindBlock se_X3_bindBlock PN.2.1 rfl (Nat.le_of_ble_eq_true rfl) dX4_doPart_144 rfl (Nat.le_of_ble_eq_true rfl) a1 a2 a3) ?_
    exact r_vret C hF dX4_doPart_147 rfl
