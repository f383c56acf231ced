set_option maxRecDepth 20000 in
set_option maxHeartbeats 2000000 in
theorem kX4_print_0 {V : Wo} {μ : Mem} {q : Nat} {K : Int} {w tx : Int → Int} {sv kp ln : Int} (hC : CI V K q μ w tx sv kp ln) (hK0 : K + 20 ≤ 1000000) {x : Int} (hr : inR x) {c : Int} (hc : inR c) (h : 0 ≤ x ∧ x < 16) (h2 : 1 ≤ c ∧ c ≤ 20) (h3 : w (6 + x) + c ≤ 99) : Con V 5 yX4_print cX4_print 3 (some .int) [vR q, vI x, vI c] (μ) (QIr V (w (6 + x) + c) ((fun ν => CI V (K + 20) q ν (s1 (s1 (mSav w sv) (6 + x) (w (6 + x) + c)) (38 + x) (w (38 + x) + c)) (tx) (sv1 sv) (kp) (ln) ∧ ∀ r, (r < q ∨ q + 112 < r) → ν r = μ r))) := by
  refine con_of (ls0 := [vR q, vI x, vI c]) (by decide +kernel) rfl (Nat.le_of_ble_eq_true rfl) (Nat.le_of_ble_eq_true rfl) (fun X hV C hF => ?_)
  subst hV
  have C : Ok X RX4 cX4_print 3 5 := C
  have hS := hC.1
  have hW := CI_SpW hC
  obtain ⟨P0, P1, PN, PS, PT, PH, PR, PB⟩ := id hS
  obtain ⟨QN, QH, Q6, Q7, QB, QR, QA⟩ := id hW
  obtain ⟨-, ⟨cv, ce⟩, ⟨ck1, ck2, ck3⟩, ⟨cs1, cs2, cs3, cs4, cs5, cs6⟩, ⟨cb1, cb2, cb3, cb4⟩, cr⟩ := id hC
  obtain ⟨v0, v1, v2, v3, v4, v5, v6, v7, v8, v9, v10⟩ := id cv
  obtain ⟨e1, e2, e3, e4, e5, e6, e7, e8, e9, e10⟩ := id ce
  obtain ⟨hK, WB, Wc, Wi, Wp, Wh, Ws0, Ws1, Ws2, Wbk, Wls⟩ := id QN
  refine r_iload_n C dX4_print_0 rfl ?_
  refine r_runI (fun aH aL aj a1 a2 a3 => run_S C hF.2.2.1 (kX4_isBin (i := x) (by omega)) lm_X4_isBin ml_X4_48 sm_X4_isBin (Nat.le_of_ble_eq_true rfl) dX4_print_1 rfl (Nat.le_of_ble_eq_true rfl) a1 a2 a3) ?_
  rw [b01_t (by omega)]
  refine r_if_ne (tgt := 17) C dX4_print_4 (by decide) (by omega) (fun c4 => ?_) (fun c4 => absurd c4 (by omega))
  refine r_iload_n C dX4_print_17 rfl ?_
  refine r_iconst C dX4_print_18 ?_
  refine r_icmp_lt (tgt := 28) C dX4_print_19 (by decide) (by omega) (by omega) (fun c19 => absurd c19 (by omega)) (fun c19 => ?_)
  refine r_iload_n C dX4_print_22 rfl ?_
  refine r_bipush C dX4_print_23 rfl ?_
  refine r_icmp_le (tgt := 38) C dX4_print_25 (by decide) (by omega) (by omega) (fun c25 => ?_) (fun c25 => absurd c25 (by omega))
  refine r_aload_n C dX4_print_38 rfl ?_
  refine gf_X4_10 C P1 dX4_print_39 ?_
  refine gf_X4_127 C PN.2.1 dX4_print_42 ?_
  refine r_iload_n C dX4_print_45 rfl ?_
  refine r_runI (fun aH aL aj a1 a2 a3 => run_S C hF.2.2.1 (kX4_at PN.2.2.2.1 (by decide) h.1 (by omega)) lm_X4_at ml_X4_130 sm_X4_at (Nat.le_of_ble_eq_true rfl) dX4_print_46 rfl (Nat.le_of_ble_eq_true rfl) a1 a2 a3) ?_
  rw [e5 x h.1 h.2]
  have h7 := v7 x h.1 (by omega)
  refine r_iload_n C dX4_print_49 rfl ?_
  refine r_iadd C dX4_print_50 ?_
  refine r_bipush C dX4_print_51 rfl ?_
  refine r_icmp_le (tgt := 66) C dX4_print_53 (by decide) (by omega) (by omega) (fun c53 => ?_) (fun c53 => absurd c53 (by omega))
  refine r_aload_n C dX4_print_66 rfl ?_
  refine gf_X4_25 C P1 dX4_print_67 ?_
  refine r_aload_n C dX4_print_70 rfl ?_
  refine gf_X4_10 C P1 dX4_print_71 ?_
  refine r_runV (fun aH aL aj a1 a2 a3 => run_V C hF.2.2.1 (kX1_save PH QH PN (by omega) (fun i i0 i1 => by have := cs4 i i0 i1; omega)) lm_X1_save ml_X4_67 im_X1_save se_X1_save PH.2.1 rfl (Nat.le_of_ble_eq_true rfl) dX4_print_74 rfl (Nat.le_of_ble_eq_true rfl) a1 a2 a3) ?_
  have hC2 := CI_sav hC
  have eo : ∀ r, (r < q ∨ q + 112 < r) → (sav μ (q + 37) (q + 1)) r = μ r := fun r hr => sav_o hC hr
  revert hC2 eo
  generalize (sav μ (q + 37) (q + 1)) = M
  intro hC2 eo
  obtain ⟨-, ⟨cv2, ce2⟩, -⟩ := id hC2
  have QN2 := StE_W cv2 ce2
  have el : ∀ j, j < 110 → mSav w sv j = w j := fun j hj => mSav_lo cs1.1 hj
  have l3 := el 3 (by omega)
  have n2 : M (q + 1 + 1) 2 = w 3 := by rw [ce2.2.1, l3]
  refine r_aload_n C dX4_print_77 rfl ?_
  refine gf_X4_10 C P1 dX4_print_78 ?_
  refine gf_X4_127 C PN.2.1 dX4_print_81 ?_
  refine r_iload_n C dX4_print_84 rfl ?_
  refine r_iload_n C dX4_print_85 rfl ?_
  refine r_runV (fun aH aL aj a1 a2 a3 => run_S C hF.2.2.1 (kX4_addTo PN.2.2.2.1 (by omega) (by decide) h.1 (by omega)) lm_X4_addTo ml_X4_136 sm_X4_addTo (Nat.le_of_ble_eq_true rfl) dX4_print_86 rfl (Nat.le_of_ble_eq_true rfl) a1 a2 a3) ?_
  rw [ce2.2.2.2.2.1 x h.1 h.2, el _ (by omega)]
  refine r_aload_n C dX4_print_89 rfl ?_
  refine gf_X4_10 C P1 dX4_print_90 ?_
  refine gf_X4_140 C PN.2.1 dX4_print_93 ?_
  refine r_iload_n C dX4_print_96 rfl ?_
  refine r_iload_n C dX4_print_97 rfl ?_
  refine r_runV (fun aH aL aj a1 a2 a3 => run_S C hF.2.2.1 (kX4_addTo PN.2.2.2.2.2.1 (by omega) (by decide) h.1 (by omega)) lm_X4_addTo ml_X4_136 sm_X4_addTo (Nat.le_of_ble_eq_true rfl) dX4_print_98 rfl (Nat.le_of_ble_eq_true rfl) a1 a2 a3) ?_
  rw [wr_n M _ (show q + 1 + 9 ≠ q + 1 + 7 by omega), ce2.2.2.2.2.2.2.1 x h.1 h.2, el _ (by omega)]
  refine r_aload_n C dX4_print_101 rfl ?_
  refine gf_X4_10 C P1 dX4_print_102 ?_
  refine gf_X4_127 C PN.2.1 dX4_print_105 ?_
  refine r_iload_n C dX4_print_108 rfl ?_
  refine r_runI (fun aH aL aj a1 a2 a3 => run_S C hF.2.2.1 (kX4_at PN.2.2.2.1 (by decide) h.1 (by omega)) lm_X4_at ml_X4_130 sm_X4_at (Nat.le_of_ble_eq_true rfl) dX4_print_109 rfl (Nat.le_of_ble_eq_true rfl) a1 a2 a3) ?_
  rw [wr_n _ _ (show q + 1 + 7 ≠ q + 1 + 9 by omega), wr_s, s1_s]
  exact r_iretr C hF dX4_print_112 rfl (by
        have h72 := v7 (32 + x) (by omega) (by omega)
        rw [show 6 + (32 + x) = 38 + x by omega] at h72
        have va := (veW_put (x := x) (c := w (6 + x) + c) (veW_mono cv2 (show K ≤ K + 20 by omega) hK0)).1 h.1 h.2 (by omega) (by omega)
        have vb := (veW_put (x := x) (c := w (38 + x) + c) va).2.1 h.1 h.2 (by omega) (by omega)
        have sa := (StE_put (x := x) (c := w (6 + x) + c) ce2 (by omega)).1 h.1 h.2
        have sb := (StE_put (x := x) (c := w (38 + x) + c) sa (by rw [s1_n _ _ (by omega)]; omega)).2.1 h.1 h.2
        rw [wr_n M _ (show q + 1 + 9 ≠ q + 1 + 7 by omega)] at sb
        exact ⟨CI_now hC2 (fun r hr => by rw [wr_n _ _ (by omega), wr_n _ _ (by omega)]) vb sb (fun j hj => by rw [s1_n _ _ (by omega), s1_n _ _ (by omega)]) (by omega) hK0, fun r hr => by rw [wr_n _ _ (by omega), wr_n _ _ (by omega)]; exact eo r hr⟩)
set_option maxRecDepth 20000 in
set_option maxHeartbeats 2000000 in
theorem kX4_punch_0 {V : Wo} {μ : Mem} {q : Nat} {K : Int} {w tx : Int → Int} {sv kp ln : Int} (hC : CI V K q μ w tx sv kp ln) (hK0 : K + 20 ≤ 1000000) {x : Int} (hr : inR x) {c : Int} (hc : inR c) (h : 0 ≤ x ∧ x < 16) (h2 : 1 ≤ c ∧ c ≤ 31) : Con V 5 yX4_punch cX4_punch 4 (some .int) [vR q, vI x, vI c] (μ) (QIr V (w (54 + x)) ((fun ν => CI V (K + 20) q ν (s1 (mSav w sv) (54 + x) c) (tx) (sv1 sv) (kp) (ln) ∧ ∀ r, (r < q ∨ q + 112 < r) → ν r = μ r))) := by
  refine con_of (ls0 := [vR q, vI x, vI c, vU]) (by decide +kernel) rfl (Nat.le_of_ble_eq_true rfl) (Nat.le_of_ble_eq_true rfl) (fun X hV C hF => ?_)
  subst hV
  have C : Ok X RX4 cX4_punch 4 5 := C
  have hS := hC.1
  have hW := CI_SpW hC
  obtain ⟨P0, P1, PN, PS, PT, PH, PR, PB⟩ := id hS
  obtain ⟨QN, QH, Q6, Q7, QB, QR, QA⟩ := id hW
  obtain ⟨-, ⟨cv, ce⟩, ⟨ck1, ck2, ck3⟩, ⟨cs1, cs2, cs3, cs4, cs5, cs6⟩, ⟨cb1, cb2, cb3, cb4⟩, cr⟩ := id hC
  obtain ⟨v0, v1, v2, v3, v4, v5, v6, v7, v8, v9, v10⟩ := id cv
  obtain ⟨e1, e2, e3, e4, e5, e6, e7, e8, e9, e10⟩ := id ce
  obtain ⟨hK, WB, Wc, Wi, Wp, Wh, Ws0, Ws1, Ws2, Wbk, Wls⟩ := id QN
  refine r_iload_n C dX4_punch_0 rfl ?_
  refine r_runI (fun aH aL aj a1 a2 a3 => run_S C hF.2.2.1 (kX4_isBin (i := x) (by omega)) lm_X4_isBin ml_X4_48 sm_X4_isBin (Nat.le_of_ble_eq_true rfl) dX4_punch_1 rfl (Nat.le_of_ble_eq_true rfl) a1 a2 a3) ?_
  rw [b01_t (by omega)]
  refine r_if_ne (tgt := 17) C dX4_punch_4 (by decide) (by omega) (fun c4 => ?_) (fun c4 => absurd c4 (by omega))
  refine r_iload_n C dX4_punch_17 rfl ?_
  refine r_iconst C dX4_punch_18 ?_
  refine r_icmp_lt (tgt := 28) C dX4_punch_19 (by decide) (by omega) (by omega) (fun c19 => absurd c19 (by omega)) (fun c19 => ?_)
  refine r_iload_n C dX4_punch_22 rfl ?_
  refine r_bipush C dX4_punch_23 rfl ?_
  refine r_icmp_le (tgt := 38) C dX4_punch_25 (by decide) (by omega) (by omega) (fun c25 => ?_) (fun c25 => absurd c25 (by omega))
  refine r_aload_n C dX4_punch_38 rfl ?_
  refine gf_X4_25 C P1 dX4_punch_39 ?_
  refine r_aload_n C dX4_punch_42 rfl ?_
  refine gf_X4_10 C P1 dX4_punch_43 ?_
  refine r_runV (fun aH aL aj a1 a2 a3 => run_V C hF.2.2.1 (kX1_save PH QH PN (by omega) (fun i i0 i1 => by have := cs4 i i0 i1; omega)) lm_X1_save ml_X4_67 im_X1_save se_X1_save PH.2.1 rfl (Nat.le_of_ble_eq_true rfl) dX4_punch_46 rfl (Nat.le_of_ble_eq_true rfl) a1 a2 a3) ?_
  have hC2 := CI_sav hC
  have eo : ∀ r, (r < q ∨ q + 112 < r) → (sav μ (q + 37) (q + 1)) r = μ r := fun r hr => sav_o hC hr
  revert hC2 eo
  generalize (sav μ (q + 37) (q + 1)) = M
  intro hC2 eo
  obtain ⟨-, ⟨cv2, ce2⟩, -⟩ := id hC2
  have QN2 := StE_W cv2 ce2
  have el : ∀ j, j < 110 → mSav w sv j = w j := fun j hj => mSav_lo cs1.1 hj
  have l3 := el 3 (by omega)
  have n2 : M (q + 1 + 1) 2 = w 3 := by rw [ce2.2.1, l3]
  refine r_aload_n C dX4_punch_49 rfl ?_
  refine gf_X4_10 C P1 dX4_punch_50 ?_
  refine gf_X4_145 C PN.2.1 dX4_punch_53 ?_
  refine r_iload_n C dX4_punch_56 rfl ?_
  refine r_runI (fun aH aL aj a1 a2 a3 => run_S C hF.2.2.1 (kX4_at PN.2.2.2.2.2.2.1 (by decide) h.1 (by omega)) lm_X4_at ml_X4_130 sm_X4_at (Nat.le_of_ble_eq_true rfl) dX4_punch_57 rfl (Nat.le_of_ble_eq_true rfl) a1 a2 a3) ?_
  rw [ce2.2.2.2.2.2.2.2.1 x h.1 h.2, el _ (by omega)]
  refine r_istore_n C dX4_punch_60 (by decide) rfl ?_
  refine r_aload_n C dX4_punch_61 rfl ?_
  refine gf_X4_10 C P1 dX4_punch_62 ?_
  refine gf_X4_145 C PN.2.1 dX4_punch_65 ?_
  refine r_iload_n C dX4_punch_68 rfl ?_
  refine r_iload_n C dX4_punch_69 rfl ?_
  refine r_runV (fun aH aL aj a1 a2 a3 => run_S C hF.2.2.1 (kX4_put PN.2.2.2.2.2.2.1 (by omega) (by decide) h.1 (by omega)) lm_X4_put ml_X4_148 sm_X4_put (Nat.le_of_ble_eq_true rfl) dX4_punch_70 rfl (Nat.le_of_ble_eq_true rfl) a1 a2 a3) ?_
  refine r_iload_n C dX4_punch_73 rfl ?_
  exact r_iretr C hF dX4_punch_74 rfl (by
        have vb := (veW_put (x := x) (c := c) (veW_mono cv2 (show K ≤ K + 20 by omega) hK0)).2.2.1 h.1 h.2 (by omega) (by omega)
        have sb := (StE_put (x := x) (c := c) ce2 (by omega)).2.2.1 h.1 h.2
        exact ⟨CI_now hC2 (fun r hr => by rw [wr_n _ _ (by omega)]) vb sb (fun j hj => by rw [s1_n _ _ (by omega)]) (by omega) hK0, fun r hr => by rw [wr_n _ _ (by omega)]; exact eo r hr⟩)
set_option maxRecDepth 20000 in
set_option maxHeartbeats 2000000 in
theorem kX4_set_0 {V : Wo} {μ : Mem} {q : Nat} {K : Int} {w tx : Int → Int} {sv kp ln : Int} (hC : CI V K q μ w tx sv kp ln) (hK0 : K + 20 ≤ 1000000) {x : Int} (hr : inR x) {c : Int} (hc : inR c) (hZ : ZS V μ) (h : 0 ≤ x ∧ x < 3) (h2 : sLo x ≤ c ∧ c ≤ sUp x) : Con V 5 yX4_set cX4_set 4 (some .int) [vR q, vI x, vI c] (μ) (QIr V (w x) ((fun ν => CI V (K + 20) q ν (s1 (mSav w sv) x c) (tx) (sv1 sv) (kp) (ln) ∧ ∀ r, (r < q ∨ q + 112 < r) → ν r = μ r))) := by
  refine con_of (ls0 := [vR q, vI x, vI c, vU]) (by decide +kernel) rfl (Nat.le_of_ble_eq_true rfl) (Nat.le_of_ble_eq_true rfl) (fun X hV C hF => ?_)
  subst hV
  have C : Ok X RX4 cX4_set 4 5 := C
  have hS := hC.1
  have hW := CI_SpW hC
  obtain ⟨P0, P1, PN, PS, PT, PH, PR, PB⟩ := id hS
  obtain ⟨QN, QH, Q6, Q7, QB, QR, QA⟩ := id hW
  obtain ⟨-, ⟨cv, ce⟩, ⟨ck1, ck2, ck3⟩, ⟨cs1, cs2, cs3, cs4, cs5, cs6⟩, ⟨cb1, cb2, cb3, cb4⟩, cr⟩ := id hC
  obtain ⟨v0, v1, v2, v3, v4, v5, v6, v7, v8, v9, v10⟩ := id cv
  obtain ⟨e1, e2, e3, e4, e5, e6, e7, e8, e9, e10⟩ := id ce
  obtain ⟨hK, WB, Wc, Wi, Wp, Wh, Ws0, Ws1, Ws2, Wbk, Wls⟩ := id QN
  refine r_iload_n C dX4_set_0 rfl ?_
  refine r_runI (fun aH aL aj a1 a2 a3 => run_S C hF.2.2.1 (kX4_isSetting (i := x) (by omega)) lm_X4_isSetting ml_X4_151 sm_X4_isSetting (Nat.le_of_ble_eq_true rfl) dX4_set_1 rfl (Nat.le_of_ble_eq_true rfl) a1 a2 a3) ?_
  rw [b01_t (by omega)]
  refine r_if_ne (tgt := 17) C dX4_set_4 (by decide) (by omega) (fun c4 => ?_) (fun c4 => absurd c4 (by omega))
  refine r_iload_n C dX4_set_17 rfl ?_
  refine r_gets C C.2.2.2.2.2.2.1.2.2.2.1 fl_X4_156 dX4_set_18 ?_
  refine r_iload_n C dX4_set_21 rfl ?_
  refine r_runI (fun aH aL aj a1 a2 a3 => run_S C hF.2.2.1 (kX4_at hZ.1.1 (by decide) h.1 (by omega)) lm_X4_at ml_X4_130 sm_X4_at (Nat.le_of_ble_eq_true rfl) dX4_set_22 rfl (Nat.le_of_ble_eq_true rfl) a1 a2 a3) ?_
  rw [(hZ.2.2 x h.1 h.2).1]
  have hl := sLo_r x
  have hu := sUp_r x
  refine r_icmp_lt (tgt := 39) C dX4_set_25 (by decide) (by omega) (by omega) (fun c25 => absurd c25 (by omega)) (fun c25 => ?_)
  refine r_iload_n C dX4_set_28 rfl ?_
  refine r_gets C C.2.2.2.2.2.2.1.2.2.2.2.1 fl_X4_159 dX4_set_29 ?_
  refine r_iload_n C dX4_set_32 rfl ?_
  refine r_runI (fun aH aL aj a1 a2 a3 => run_S C hF.2.2.1 (kX4_at hZ.2.1.1 (by decide) h.1 (by omega)) lm_X4_at ml_X4_130 sm_X4_at (Nat.le_of_ble_eq_true rfl) dX4_set_33 rfl (Nat.le_of_ble_eq_true rfl) a1 a2 a3) ?_
  rw [(hZ.2.2 x h.1 h.2).2]
  refine r_icmp_le (tgt := 49) C dX4_set_36 (by decide) (by omega) (by omega) (fun c36 => ?_) (fun c36 => absurd c36 (by omega))
  refine r_aload_n C dX4_set_49 rfl ?_
  refine gf_X4_25 C P1 dX4_set_50 ?_
  refine r_aload_n C dX4_set_53 rfl ?_
  refine gf_X4_10 C P1 dX4_set_54 ?_
  refine r_runV (fun aH aL aj a1 a2 a3 => run_V C hF.2.2.1 (kX1_save PH QH PN (by omega) (fun i i0 i1 => by have := cs4 i i0 i1; omega)) lm_X1_save ml_X4_67 im_X1_save se_X1_save PH.2.1 rfl (Nat.le_of_ble_eq_true rfl) dX4_set_57 rfl (Nat.le_of_ble_eq_true rfl) a1 a2 a3) ?_
  have hC2 := CI_sav hC
  have eo : ∀ r, (r < q ∨ q + 112 < r) → (sav μ (q + 37) (q + 1)) r = μ r := fun r hr => sav_o hC hr
  revert hC2 eo
  generalize (sav μ (q + 37) (q + 1)) = M
  intro hC2 eo
  obtain ⟨-, ⟨cv2, ce2⟩, -⟩ := id hC2
  have QN2 := StE_W cv2 ce2
  have el : ∀ j, j < 110 → mSav w sv j = w j := fun j hj => mSav_lo cs1.1 hj
  have l3 := el 3 (by omega)
  have n2 : M (q + 1 + 1) 2 = w 3 := by rw [ce2.2.1, l3]
  refine r_aload_n C dX4_set_60 rfl ?_
  refine gf_X4_10 C P1 dX4_set_61 ?_
  refine gf_X4_164 C PN.2.1 dX4_set_64 ?_
  refine r_iload_n C dX4_set_67 rfl ?_
  refine r_runI (fun aH aL aj a1 a2 a3 => run_S C hF.2.2.1 (kX4_at PN.2.2.2.2.2.2.2 (by decide) h.1 (by omega)) lm_X4_at ml_X4_130 sm_X4_at (Nat.le_of_ble_eq_true rfl) dX4_set_68 rfl (Nat.le_of_ble_eq_true rfl) a1 a2 a3) ?_
  rw [ce2.1 x h.1 h.2, el _ (by omega)]
  refine r_istore_n C dX4_set_71 (by decide) rfl ?_
  refine r_aload_n C dX4_set_72 rfl ?_
  refine gf_X4_10 C P1 dX4_set_73 ?_
  refine gf_X4_164 C PN.2.1 dX4_set_76 ?_
  refine r_iload_n C dX4_set_79 rfl ?_
  refine r_iload_n C dX4_set_80 rfl ?_
  refine r_runV (fun aH aL aj a1 a2 a3 => run_S C hF.2.2.1 (kX4_put PN.2.2.2.2.2.2.2 (by omega) (by decide) h.1 (by omega)) lm_X4_put ml_X4_148 sm_X4_put (Nat.le_of_ble_eq_true rfl) dX4_set_81 rfl (Nat.le_of_ble_eq_true rfl) a1 a2 a3) ?_
  refine r_iload_n C dX4_set_84 rfl ?_
  exact r_iretr C hF dX4_set_85 rfl (by
        have vb := (veW_put (x := x) (c := c) (veW_mono cv2 (show K ≤ K + 20 by omega) hK0)).2.2.2 h.1 h.2 (by omega) (by omega)
        have sb := (StE_put (x := x) (c := c) ce2 (by omega)).2.2.2.1 h.1 h.2
        exact ⟨CI_now hC2 (fun r hr => by rw [wr_n _ _ (by omega)]) vb sb (fun j hj => by rw [s1_n _ _ (by omega)]) (by omega) hK0, fun r hr => by rw [wr_n _ _ (by omega)]; exact eo r hr⟩)
set_option maxRecDepth 20000 in
set_option maxHeartbeats 2000000 in
theorem kX4_keep_0 {V : Wo} {μ : Mem} {q : Nat} {K : Int} {w tx : Int → Int} {sv kp ln : Int} (hC : CI V K q μ w tx sv kp ln) : Con V 4 yX4_keep cX4_keep 1 (some .int) [vR q] (μ) (QIr V (w 3) ((fun ν => CI V (K) q ν (cpV w 0 7 110) (tx) (sv) (1) (ln) ∧ ∀ r, (r < q ∨ q + 112 < r) → ν r = μ r))) := by
  refine con_of (ls0 := [vR q]) (by decide +kernel) rfl (Nat.le_of_ble_eq_true rfl) (Nat.le_of_ble_eq_true rfl) (fun X hV C hF => ?_)
  subst hV
  have C : Ok X RX4 cX4_keep 1 4 := C
  have hS := hC.1
  have hW := CI_SpW hC
  obtain ⟨P0, P1, PN, PS, PT, PH, PR, PB⟩ := id hS
  obtain ⟨QN, QH, Q6, Q7, QB, QR, QA⟩ := id hW
  obtain ⟨-, ⟨cv, ce⟩, ⟨ck1, ck2, ck3⟩, ⟨cs1, cs2, cs3, cs4, cs5, cs6⟩, ⟨cb1, cb2, cb3, cb4⟩, cr⟩ := id hC
  obtain ⟨v0, v1, v2, v3, v4, v5, v6, v7, v8, v9, v10⟩ := id cv
  obtain ⟨e1, e2, e3, e4, e5, e6, e7, e8, e9, e10⟩ := id ce
  obtain ⟨hK, WB, Wc, Wi, Wp, Wh, Ws0, Ws1, Ws2, Wbk, Wls⟩ := id QN
  refine r_aload_n C dX4_keep_0 rfl ?_
  refine gf_X4_16 C P1 dX4_keep_1 ?_
  refine r_aload_n C dX4_keep_4 rfl ?_
  refine gf_X4_10 C P1 dX4_keep_5 ?_
  refine r_runV (fun aH aL aj a1 a2 a3 => run_V C hF.2.2.1 (kX3_copyFrom PS PN (by omega)) lm_X3_copyFrom ml_X4_183 im_X3_copyFrom se_X3_copyFrom PS.2.1 rfl (Nat.le_of_ble_eq_true rfl) dX4_keep_8 rfl (Nat.le_of_ble_eq_true rfl) a1 a2 a3) ?_
  refine r_aload_n C dX4_keep_11 rfl ?_
  refine r_iconst C dX4_keep_12 ?_
  refine pf_X4_44 C P1 P0 (by omega) dX4_keep_13 ?_
  refine r_aload_n C dX4_keep_16 rfl ?_
  refine gf_X4_10 C P1 dX4_keep_17 ?_
  refine gf_X4_71 C PN.2.1 dX4_keep_20 ?_
  refine gf_X4_75 C PN.2.2.1.2.1 dX4_keep_23 ?_
  exact r_iretr C hF dX4_keep_26 (by rw [wr_n _ _ (by omega), cpS_n _ (by omega), e2]) ⟨CI_kp hC, fun r hr => by rw [wr_n _ _ (by omega), cpS_n _ (by omega)]⟩
set_option maxRecDepth 20000 in
set_option maxHeartbeats 2000000 in
theorem kX4_goBack_0 {V : Wo} {μ : Mem} {q : Nat} {K : Int} {w tx : Int → Int} {sv kp ln : Int} (hC : CI V K q μ w tx sv kp ln) (hK0 : K + 20 ≤ 1000000) (h : kp = 1) : Con V 5 yX4_goBack cX4_goBack 1 (some .int) [vR q] (μ) (QIr V (w 773) ((fun ν => CI V (K + 20) q ν (cpV (mSav w sv) 7 0 110) (tx) (sv1 sv) (kp) (ln) ∧ ∀ r, (r < q ∨ q + 112 < r) → ν r = μ r))) := by
  refine con_of (ls0 := [vR q]) (by decide +kernel) rfl (Nat.le_of_ble_eq_true rfl) (Nat.le_of_ble_eq_true rfl) (fun X hV C hF => ?_)
  subst hV
  have C : Ok X RX4 cX4_goBack 1 5 := C
  have hS := hC.1
  have hW := CI_SpW hC
  obtain ⟨P0, P1, PN, PS, PT, PH, PR, PB⟩ := id hS
  obtain ⟨QN, QH, Q6, Q7, QB, QR, QA⟩ := id hW
  obtain ⟨-, ⟨cv, ce⟩, ⟨ck1, ck2, ck3⟩, ⟨cs1, cs2, cs3, cs4, cs5, cs6⟩, ⟨cb1, cb2, cb3, cb4⟩, cr⟩ := id hC
  obtain ⟨v0, v1, v2, v3, v4, v5, v6, v7, v8, v9, v10⟩ := id cv
  obtain ⟨e1, e2, e3, e4, e5, e6, e7, e8, e9, e10⟩ := id ce
  obtain ⟨hK, WB, Wc, Wi, Wp, Wh, Ws0, Ws1, Ws2, Wbk, Wls⟩ := id QN
  refine r_aload_n C dX4_goBack_0 rfl ?_
  refine gf_X4_44 C P1 dX4_goBack_1 ?_
  refine r_if_ne (tgt := 17) C dX4_goBack_4 (by decide) (by omega) (fun c4 => ?_) (fun c4 => absurd c4 (by omega))
  refine r_aload_n C dX4_goBack_17 rfl ?_
  refine gf_X4_25 C P1 dX4_goBack_18 ?_
  refine r_aload_n C dX4_goBack_21 rfl ?_
  refine gf_X4_10 C P1 dX4_goBack_22 ?_
  refine r_runV (fun aH aL aj a1 a2 a3 => run_V C hF.2.2.1 (kX1_save PH QH PN (by omega) (fun i i0 i1 => by have := cs4 i i0 i1; omega)) lm_X1_save ml_X4_67 im_X1_save se_X1_save PH.2.1 rfl (Nat.le_of_ble_eq_true rfl) dX4_goBack_25 rfl (Nat.le_of_ble_eq_true rfl) a1 a2 a3) ?_
  have hC2 := CI_sav hC
  have eo : ∀ r, (r < q ∨ q + 112 < r) → (sav μ (q + 37) (q + 1)) r = μ r := fun r hr => sav_o hC hr
  revert hC2 eo
  generalize (sav μ (q + 37) (q + 1)) = M
  intro hC2 eo
  obtain ⟨-, ⟨cv2, ce2⟩, -⟩ := id hC2
  have QN2 := StE_W cv2 ce2
  have el : ∀ j, j < 110 → mSav w sv j = w j := fun j hj => mSav_lo cs1.1 hj
  have l3 := el 3 (by omega)
  have n2 : M (q + 1 + 1) 2 = w 3 := by rw [ce2.2.1, l3]
  refine r_aload_n C dX4_goBack_28 rfl ?_
  refine gf_X4_10 C P1 dX4_goBack_29 ?_
  refine r_aload_n C dX4_goBack_32 rfl ?_
  refine gf_X4_16 C P1 dX4_goBack_33 ?_
  refine r_runV (fun aH aL aj a1 a2 a3 => run_V C hF.2.2.1 (kX3_copyFrom PN PS (by omega)) lm_X3_copyFrom ml_X4_183 im_X3_copyFrom se_X3_copyFrom PN.2.1 rfl (Nat.le_of_ble_eq_true rfl) dX4_goBack_36 rfl (Nat.le_of_ble_eq_true rfl) a1 a2 a3) ?_
  have hk2 := hC2.2.2.1.2.2 h
  have hsn : ∀ j, 0 ≤ j → j < 110 → cpV (mSav w sv) 7 0 110 j = seg (mSav w sv) 7 j := fun j j0 j1 => by
    unfold seg cpV
    rw [if_pos (by omega)]
    congr 1
    omega
  have hv4 := veW_3 hk2.1
  have hse : StE (cpS M (q + 1) (q + 13)) (q + 1) (cpV (mSav w sv) 7 0 110) := StE_c (StE_cp hk2.2 (by omega)) hsn hv4.2
  refine r_aload_n C dX4_goBack_39 rfl ?_
  refine gf_X4_10 C P1 dX4_goBack_40 ?_
  refine gf_X4_71 C PN.2.1 dX4_goBack_43 ?_
  refine gf_X4_75 C PN.2.2.1.2.1 dX4_goBack_46 ?_
  exact r_iretr C hF dX4_goBack_49 (by rw [hse.2.1]; exact cpV_7 cs1.1 cs1.2) ⟨CI_now hC2 (fun r hr => cpS_n _ (by omega)) (veW_mono (veW_lo hk2.1 hsn) (by omega) hK0) hse (fun j hj => by unfold cpV; exact if_neg (by omega)) (by omega) hK0, fun r hr => by rw [cpS_n _ (by omega)]; exact eo r hr⟩
set_option maxRecDepth 20000 in
set_option maxHeartbeats 2000000 in
theorem kX4_undo_0 {V : Wo} {μ : Mem} {q : Nat} {K : Int} {w tx : Int → Int} {sv kp ln : Int} (hC : CI V K q μ w tx sv kp ln) (h : 0 < sv) : Con V 5 yX4_undo cX4_undo 1 (some .int) [vR q] (μ) (QIr V (sv - 1) ((fun ν => CI V (K) q ν (cpV w sv 0 110) (tx) (sv - 1) (kp) (ln) ∧ ∀ r, (r < q ∨ q + 112 < r) → ν r = μ r))) := by
  refine con_of (ls0 := [vR q]) (by decide +kernel) rfl (Nat.le_of_ble_eq_true rfl) (Nat.le_of_ble_eq_true rfl) (fun X hV C hF => ?_)
  subst hV
  have C : Ok X RX4 cX4_undo 1 5 := C
  have hS := hC.1
  have hW := CI_SpW hC
  obtain ⟨P0, P1, PN, PS, PT, PH, PR, PB⟩ := id hS
  obtain ⟨QN, QH, Q6, Q7, QB, QR, QA⟩ := id hW
  obtain ⟨-, ⟨cv, ce⟩, ⟨ck1, ck2, ck3⟩, ⟨cs1, cs2, cs3, cs4, cs5, cs6⟩, ⟨cb1, cb2, cb3, cb4⟩, cr⟩ := id hC
  obtain ⟨v0, v1, v2, v3, v4, v5, v6, v7, v8, v9, v10⟩ := id cv
  obtain ⟨e1, e2, e3, e4, e5, e6, e7, e8, e9, e10⟩ := id ce
  obtain ⟨hK, WB, Wc, Wi, Wp, Wh, Ws0, Ws1, Ws2, Wbk, Wls⟩ := id QN
  refine r_aload_n C dX4_undo_0 rfl ?_
  refine gf_X4_25 C P1 dX4_undo_1 ?_
  refine gf_X4_188 C PH.2.1 dX4_undo_4 ?_
  refine r_if_ne (tgt := 20) C dX4_undo_7 (by decide) (by omega) (fun c7 => ?_) (fun c7 => absurd c7 (by omega))
  refine r_aload_n C dX4_undo_20 rfl ?_
  refine gf_X4_25 C P1 dX4_undo_21 ?_
  refine r_aload_n C dX4_undo_24 rfl ?_
  refine gf_X4_10 C P1 dX4_undo_25 ?_
  refine r_runV (fun aH aL aj a1 a2 a3 => run_V C hF.2.2.1 (kX1_restore PH QH PN (by omega) (fun i i0 i1 => by have := cs4 i i0 i1; omega) (by omega)) lm_X1_restore ml_X4_191 im_X1_restore se_X1_restore PH.2.1 rfl (Nat.le_of_ble_eq_true rfl) dX4_undo_28 rfl (Nat.le_of_ble_eq_true rfl) a1 a2 a3) ?_
  have hu := CI_und hC h
  refine r_aload_n C dX4_undo_31 rfl ?_
  refine gf_X4_25 C P1 dX4_undo_32 ?_
  refine gf_X4_188 C PH.2.1 dX4_undo_35 ?_
  exact r_iretr C hF dX4_undo_38 hu.2.2.2.1.2.1 ⟨hu, fun r hr => by unfold rsto; rw [cpS_n _ (by omega), wr_n _ _ (by omega)]⟩

