set_option maxRecDepth 20000 in
set_option maxHeartbeats 2000000 in
theorem kX1_save {V : Wo} {μ : Mem} {q g : Nat} (hH : HiS V q) (hW : HiW V μ q) (hG : StS V g) (hg : g + 11 < q ∨ q + 1 < g) (hd : sepS μ q g) : Con V 4 yX1_save cX1_save 2 (none) [vR q, vR g] (μ) (QV V (sav μ q g)) := by
  refine con_of (ls0 := [vR q, vR g]) (by decide +kernel) rfl (Nat.le_of_ble_eq_true rfl) (Nat.le_of_ble_eq_true rfl) (fun X hV C hF => ?_)
  subst hV
  have C : Ok X RX1 cX1_save 2 4 := C
  obtain ⟨H0, H1, H2⟩ := id hH
  refine jn (A := ∀ M : Mem, HiW (xV X) M q → sepS M q g → M q 1 < 6 → Fnl X none (QV (xV X) (sav1 M q g)) → RR X M 16 [vR q, vR g] []) ?_ (fun J => ?_)
  · intro M hM hs h6 hF
    obtain ⟨v1, v2⟩ := id hM
    have hD2 := v2 (M q 1) v1.1 h6
    have hsep := hs (M q 1) v1.1 h6
    refine r_aload_n C dX1_save_16 rfl ?_
    refine gf_X1_18 C H1 dX1_save_17 ?_
    refine r_if_lt (tgt := 70) C dX1_save_20 (by decide) (by omega) (fun c20 => absurd c20 (by omega)) (fun c20 => ?_)
    refine r_aload_n C dX1_save_23 rfl ?_
    refine gf_X1_18 C H1 dX1_save_24 ?_
    refine r_aload_n C dX1_save_27 rfl ?_
    refine gf_X1_11 C H1 dX1_save_28 ?_
    refine r_alenS C H2 dX1_save_31 ?_
    refine r_icmp_ge (tgt := 70) C dX1_save_32 (by decide) (by omega) (by omega) (fun c32 => absurd c32 (by omega)) (fun c32 => ?_)
    refine r_aload_n C dX1_save_35 rfl ?_
    refine gf_X1_11 C H1 dX1_save_36 ?_
    refine r_aload_n C dX1_save_39 rfl ?_
    refine gf_X1_18 C H1 dX1_save_40 ?_
    refine r_aald C H2 (by omega) (by omega) dX1_save_43 ?_
    refine r_ifnull C dX1_save_44 ?_
    refine r_aload_n C dX1_save_47 rfl ?_
    refine gf_X1_11 C H1 dX1_save_48 ?_
    refine r_aload_n C dX1_save_51 rfl ?_
    refine gf_X1_18 C H1 dX1_save_52 ?_
    refine r_aald C H2 (by omega) (by omega) dX1_save_55 ?_
    refine r_aload_n C dX1_save_56 rfl ?_
    refine r_runV (fun aH aL aj a1 a2 a3 => run_V C hF.2.2.1 (kX3_copyFrom hD2.2.1 hG hsep) lm_X3_copyFrom ml_X1_25 im_X3_copyFrom se_X3_copyFrom hD2.2.1.2.1 rfl (Nat.le_of_ble_eq_true rfl) dX1_save_57 rfl (Nat.le_of_ble_eq_true rfl) a1 a2 a3) ?_
    rw [show (M (q + 1) (M q 1)).toNat = svA M q (M q 1) from rfl]
    refine r_aload_n C dX1_save_60 rfl ?_
    refine r_dup C dX1_save_61 rfl ?_
    have en := cpS_n M (h := svA M q (M q 1)) (g := g) (q := q) (by have := hD2.2.2; unfold svA; omega)
    refine gf_X1_18 C H1 dX1_save_62 ?_
    refine r_iconst C dX1_save_65 ?_
    refine r_iadd C dX1_save_66 ?_
    rw [en]
    refine pf_X1_18 C H1 H0 dX1_save_67 ?_
    exact r_vret C hF dX1_save_70 (by rw [en]; rfl)
  · obtain ⟨w1, w2⟩ := id hW
    refine r_aload_n C dX1_save_0 rfl ?_
    refine gf_X1_18 C H1 dX1_save_1 ?_
    refine r_aload_n C dX1_save_4 rfl ?_
    refine gf_X1_11 C H1 dX1_save_5 ?_
    refine r_alenS C H2 dX1_save_8 ?_
    refine r_icmp_lt (tgt := 16) C dX1_save_9 (by decide) (by omega) (by omega) (fun c9 => ?_) (fun c9 => ?_)
    · skip
      have c9a : μ q 1 < 6 := by omega
      exact J μ hW hd c9a (by unfold sav at hF; rw [if_pos c9a] at hF; exact hF)
    · skip
      refine r_aload_n C dX1_save_12 rfl ?_
      refine r_runV (fun aH aL aj a1 a2 a3 => run_V C hF.2.2.1 (kX1_dropOldest hH hW) lm_X1_dropOldest ml_X1_22 im_X1_dropOldest se_X1_dropOldest H1 rfl (Nat.le_of_ble_eq_true rfl) dX1_save_13 rfl (Nat.le_of_ble_eq_true rfl) a1 a2 a3) ?_
      exact J (drp μ q) (HiW_drp hW (by omega)) (sep_drp hd) (by unfold drp; rw [wr_s, s1_s]; omega) (by unfold sav at hF; rw [if_neg (by omega)] at hF; exact hF)
set_option maxRecDepth 20000 in
set_option maxHeartbeats 2000000 in
theorem kX1_restore {V : Wo} {μ : Mem} {q g : Nat} (hH : HiS V q) (hW : HiW V μ q) (hG : StS V g) (hg : g + 11 < q ∨ q + 1 < g) (hd : sepS μ q g) (hp : 0 < μ q 1) : Con V 4 yX1_restore cX1_restore 2 (none) [vR q, vR g] (μ) (QV V (rsto μ q g)) := by
  refine con_of (ls0 := [vR q, vR g]) (by decide +kernel) rfl (Nat.le_of_ble_eq_true rfl) (Nat.le_of_ble_eq_true rfl) (fun X hV C hF => ?_)
  subst hV
  have C : Ok X RX1 cX1_restore 2 4 := C
  obtain ⟨H0, H1, H2⟩ := id hH
  obtain ⟨w1, w2⟩ := id hW
  have hD2 := w2 (μ q 1 - 1) (by omega) (by omega)
  refine r_aload_n C dX1_restore_0 rfl ?_
  refine r_ifnull C dX1_restore_1 ?_
  refine r_aload_n C dX1_restore_4 rfl ?_
  refine gf_X1_18 C H1 dX1_restore_5 ?_
  refine r_if_le (tgt := 46) C dX1_restore_8 (by decide) (by omega) (fun c8 => absurd c8 (by omega)) (fun c8 => ?_)
  refine r_aload_n C dX1_restore_11 rfl ?_
  refine gf_X1_18 C H1 dX1_restore_12 ?_
  refine r_aload_n C dX1_restore_15 rfl ?_
  refine gf_X1_11 C H1 dX1_restore_16 ?_
  refine r_alenS C H2 dX1_restore_19 ?_
  refine r_icmp_gt (tgt := 46) C dX1_restore_20 (by decide) (by omega) (by omega) (fun c20 => absurd c20 (by omega)) (fun c20 => ?_)
  refine r_aload_n C dX1_restore_23 rfl ?_
  refine r_dup C dX1_restore_24 rfl ?_
  refine gf_X1_18 C H1 dX1_restore_25 ?_
  refine r_iconst C dX1_restore_28 ?_
  refine r_isub C dX1_restore_29 ?_
  refine pf_X1_18 C H1 H0 dX1_restore_30 ?_
  refine r_aload_n C dX1_restore_33 rfl ?_
  refine r_aload_n C dX1_restore_34 rfl ?_
  refine gf_X1_11 C H1 dX1_restore_35 ?_
  refine r_aload_n C dX1_restore_38 rfl ?_
  have en : wr μ q (s1 (μ q) 1 (μ q 1 - 1)) q 1 = μ q 1 - 1 := by rw [wr_s, s1_s]
  have en2 : wr μ q (s1 (μ q) 1 (μ q 1 - 1)) (q + 1) = μ (q + 1) := wr_n _ _ (by omega)
  refine gf_X1_18 C H1 dX1_restore_39 ?_
  rw [en]
  refine r_aald C H2 (by omega) (by omega) dX1_restore_42 ?_
  rw [en2]
  refine r_runV (fun aH aL aj a1 a2 a3 => run_V C hF.2.2.1 (kX3_copyFrom hG hD2.2.1 (by have := hd (μ q 1 - 1) (by omega) (by omega); unfold svA at this; omega)) lm_X3_copyFrom ml_X1_25 im_X3_copyFrom se_X3_copyFrom hG.2.1 rfl (Nat.le_of_ble_eq_true rfl) dX1_restore_43 rfl (Nat.le_of_ble_eq_true rfl) a1 a2 a3) ?_
  exact r_vret C hF dX1_restore_46 rfl
