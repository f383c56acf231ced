set_option maxRecDepth 20000 in
set_option maxHeartbeats 2000000 in
theorem kX4_gather_0 {V : Wo} {μ : Mem} {q : Nat} {K : Int} {w tx : Int → Int} {sv kp ln : Int} (hC : CI V K q μ w tx sv kp ln) (hK0 : K + 20 ≤ 1000000) {x : Int} (hr : inR x) (h : 0 ≤ x ∧ x < 16) (hh : 0 < w (6 + x) ∧ w 3 < 20) : Con V 5 yX4_gather cX4_gather 2 (some .int) [vR q, vI x] (μ) (QIr V (w 3 + 1) ((fun ν => CI V (K + 20) q ν (mIns (mSav w sv) (w 3) x) (tx) (sv1 sv) (kp) (ln) ∧ ∀ r, (r < q ∨ q + 112 < r) → ν r = μ r))) := by
  refine con_of (ls0 := [vR q, vI x]) (by decide +kernel) rfl (Nat.le_of_ble_eq_true rfl) (Nat.le_of_ble_eq_true rfl) (fun X hV C hF => ?_)
  subst hV
  have C : Ok X RX4 cX4_gather 2 5 := C
  have hS := hC.1
  have hW := CI_SpW hC
  obtain ⟨P0, P1, PN, PS, PT, PH, PR, PB⟩ := id hS
  obtain ⟨QN, QH, Q6, Q7, QB, QR, QA⟩ := id hW
  obtain ⟨-, ⟨cv, ce⟩, ⟨ck1, ck2, ck3⟩, ⟨cs1, cs2, cs3, cs4, cs5, cs6⟩, ⟨cb1, cb2, cb3, cb4⟩, cr⟩ := id hC
  obtain ⟨v0, v1, v2, v3, v4, v5, v6, v7, v8, v9, v10⟩ := id cv
  obtain ⟨e1, e2, e3, e4, e5, e6, e7, e8, e9, e10⟩ := id ce
  obtain ⟨hK, WB, Wc, Wi, Wp, Wh, Ws0, Ws1, Ws2, Wbk, Wls⟩ := id QN
  refine r_iload_n C dX4_gather_0 rfl ?_
  refine r_runI (fun aH aL aj a1 a2 a3 => run_S C hF.2.2.1 (kX4_isBin (i := x) (by omega)) lm_X4_isBin ml_X4_48 sm_X4_isBin (Nat.le_of_ble_eq_true rfl) dX4_gather_1 rfl (Nat.le_of_ble_eq_true rfl) a1 a2 a3) ?_
  rw [b01_t (by omega)]
  refine r_if_ne (tgt := 17) C dX4_gather_4 (by decide) (by omega) (fun c4 => ?_) (fun c4 => absurd c4 (by omega))
  refine r_aload_n C dX4_gather_17 rfl ?_
  refine gf_X4_10 C P1 dX4_gather_18 ?_
  refine r_iload_n C dX4_gather_21 rfl ?_
  refine r_runI (fun aH aL aj a1 a2 a3 => run_V C hF.2.2.1 (kX3_hasCopyAndRoom PN QN h.1 h.2) lm_X3_hasCopyAndRoom ml_X4_59 im_X3_hasCopyAndRoom se_X3_hasCopyAndRoom PN.2.1 rfl (Nat.le_of_ble_eq_true rfl) dX4_gather_22 rfl (Nat.le_of_ble_eq_true rfl) a1 a2 a3) ?_
  rw [b01_t (by rw [e5 x h.1 h.2, e2]; exact hh)]
  refine r_if_ne (tgt := 38) C dX4_gather_25 (by decide) (by omega) (fun c25 => ?_) (fun c25 => absurd c25 (by omega))
  refine r_aload_n C dX4_gather_38 rfl ?_
  refine gf_X4_25 C P1 dX4_gather_39 ?_
  refine r_aload_n C dX4_gather_42 rfl ?_
  refine gf_X4_10 C P1 dX4_gather_43 ?_
  refine r_runV (fun aH aL aj a1 a2 a3 => run_V C hF.2.2.1 (kX1_save PH QH PN (by omega) (fun i i0 i1 => by have := cs4 i i0 i1; omega)) lm_X1_save ml_X4_67 im_X1_save se_X1_save PH.2.1 rfl (Nat.le_of_ble_eq_true rfl) dX4_gather_46 rfl (Nat.le_of_ble_eq_true rfl) a1 a2 a3) ?_
  have hC2 := CI_sav hC
  have eo : ∀ r, (r < q ∨ q + 112 < r) → (sav μ (q + 37) (q + 1)) r = μ r := fun r hr => sav_o hC hr
  revert hC2 eo
  generalize (sav μ (q + 37) (q + 1)) = M
  intro hC2 eo
  obtain ⟨-, ⟨cv2, ce2⟩, -⟩ := id hC2
  have QN2 := StE_W cv2 ce2
  have el : ∀ j, j < 110 → mSav w sv j = w j := fun j hj => mSav_lo cs1.1 hj
  have l3 := el 3 (by omega)
  have n2 : M (q + 1 + 1) 2 = w 3 := by rw [ce2.2.1, l3]
  refine r_aload_n C dX4_gather_49 rfl ?_
  refine gf_X4_10 C P1 dX4_gather_50 ?_
  refine r_aload_n C dX4_gather_53 rfl ?_
  refine gf_X4_10 C P1 dX4_gather_54 ?_
  refine gf_X4_71 C PN.2.1 dX4_gather_57 ?_
  refine gf_X4_75 C PN.2.2.1.2.1 dX4_gather_60 ?_
  rw [n2]
  refine r_iload_n C dX4_gather_63 rfl ?_
  refine r_runV (fun aH aL aj a1 a2 a3 => run_V C hF.2.2.1 (kX3_putFromBin PN QN2 (p := w 3) (x := x) (by omega) (by omega) (by omega) h.1 h.2) lm_X3_putFromBin ml_X4_80 im_X3_putFromBin se_X3_putFromBin PN.2.1 rfl (Nat.le_of_ble_eq_true rfl) dX4_gather_64 rfl (Nat.le_of_ble_eq_true rfl) a1 a2 a3) ?_
  refine r_eq (μ' := opG M (q + 1) (w 3) x) ?_ rfl
  refine r_aload_n C dX4_gather_67 rfl ?_
  refine gf_X4_10 C P1 dX4_gather_68 ?_
  refine gf_X4_71 C PN.2.1 dX4_gather_71 ?_
  refine gf_X4_75 C PN.2.2.1.2.1 dX4_gather_74 ?_
  exact r_iretr C hF dX4_gather_77 (by unfold opG; rw [wr_s, s1_s, n2]) ⟨CI_now hC2 (fun r hr => by rw [opG_o (by omega)]) (veW_mono (veW_ins cv2 (p := w 3) (x := x) (by omega) (by omega) (by omega) h.1 h.2 (by rw [el _ (by omega)]; exact hh.1)) (by omega) hK0) (StE_ins ce2 (p := w 3) (x := x) (by omega) (by omega) (by omega) h.1 h.2) (fun j hj => mIns_hi (by omega) (by omega) (by omega) h.2 hj) (by omega) hK0, fun r hr => by rw [opG_o (by omega)]; exact eo r hr⟩
set_option maxRecDepth 20000 in
set_option maxHeartbeats 2000000 in
theorem kX4_insert_0 {V : Wo} {μ : Mem} {q : Nat} {K : Int} {w tx : Int → Int} {sv kp ln : Int} (hC : CI V K q μ w tx sv kp ln) (hK0 : K + 20 ≤ 1000000) {p : Int} (hr0 : inR p) {x : Int} (hr : inR x) (h0 : 0 ≤ p ∧ p ≤ w 3) (h : 0 ≤ x ∧ x < 16) (hh : 0 < w (6 + x) ∧ w 3 < 20) : Con V 5 yX4_insert cX4_insert 3 (some .int) [vR q, vI p, vI x] (μ) (QIr V (w 3 + 1) ((fun ν => CI V (K + 20) q ν (mIns (mSav w sv) p x) (tx) (sv1 sv) (kp) (ln) ∧ ∀ r, (r < q ∨ q + 112 < r) → ν r = μ r))) := by
  refine con_of (ls0 := [vR q, vI p, vI x]) (by decide +kernel) rfl (Nat.le_of_ble_eq_true rfl) (Nat.le_of_ble_eq_true rfl) (fun X hV C hF => ?_)
  subst hV
  have C : Ok X RX4 cX4_insert 3 5 := C
  have hS := hC.1
  have hW := CI_SpW hC
  obtain ⟨P0, P1, PN, PS, PT, PH, PR, PB⟩ := id hS
  obtain ⟨QN, QH, Q6, Q7, QB, QR, QA⟩ := id hW
  obtain ⟨-, ⟨cv, ce⟩, ⟨ck1, ck2, ck3⟩, ⟨cs1, cs2, cs3, cs4, cs5, cs6⟩, ⟨cb1, cb2, cb3, cb4⟩, cr⟩ := id hC
  obtain ⟨v0, v1, v2, v3, v4, v5, v6, v7, v8, v9, v10⟩ := id cv
  obtain ⟨e1, e2, e3, e4, e5, e6, e7, e8, e9, e10⟩ := id ce
  obtain ⟨hK, WB, Wc, Wi, Wp, Wh, Ws0, Ws1, Ws2, Wbk, Wls⟩ := id QN
  refine r_iload_n C dX4_insert_0 rfl ?_
  refine r_if_lt (tgt := 25) C dX4_insert_1 (by decide) (by omega) (fun c1 => absurd c1 (by omega)) (fun c1 => ?_)
  refine r_iload_n C dX4_insert_4 rfl ?_
  refine r_aload_n C dX4_insert_5 rfl ?_
  refine gf_X4_10 C P1 dX4_insert_6 ?_
  refine gf_X4_71 C PN.2.1 dX4_insert_9 ?_
  refine gf_X4_75 C PN.2.2.1.2.1 dX4_insert_12 ?_
  refine r_icmp_gt (tgt := 25) C dX4_insert_15 (by decide) (by omega) (by omega) (fun c15 => absurd c15 (by omega)) (fun c15 => ?_)
  refine r_iload_n C dX4_insert_18 rfl ?_
  refine r_runI (fun aH aL aj a1 a2 a3 => run_S C hF.2.2.1 (kX4_isBin (i := x) (by omega)) lm_X4_isBin ml_X4_48 sm_X4_isBin (Nat.le_of_ble_eq_true rfl) dX4_insert_19 rfl (Nat.le_of_ble_eq_true rfl) a1 a2 a3) ?_
  rw [b01_t (by omega)]
  refine r_if_ne (tgt := 35) C dX4_insert_22 (by decide) (by omega) (fun c22 => ?_) (fun c22 => absurd c22 (by omega))
  refine r_aload_n C dX4_insert_35 rfl ?_
  refine gf_X4_10 C P1 dX4_insert_36 ?_
  refine r_iload_n C dX4_insert_39 rfl ?_
  refine r_runI (fun aH aL aj a1 a2 a3 => run_V C hF.2.2.1 (kX3_hasCopyAndRoom PN QN h.1 h.2) lm_X3_hasCopyAndRoom ml_X4_59 im_X3_hasCopyAndRoom se_X3_hasCopyAndRoom PN.2.1 rfl (Nat.le_of_ble_eq_true rfl) dX4_insert_40 rfl (Nat.le_of_ble_eq_true rfl) a1 a2 a3) ?_
  rw [b01_t (by rw [e5 x h.1 h.2, e2]; exact hh)]
  refine r_if_ne (tgt := 56) C dX4_insert_43 (by decide) (by omega) (fun c43 => ?_) (fun c43 => absurd c43 (by omega))
  refine r_aload_n C dX4_insert_56 rfl ?_
  refine gf_X4_25 C P1 dX4_insert_57 ?_
  refine r_aload_n C dX4_insert_60 rfl ?_
  refine gf_X4_10 C P1 dX4_insert_61 ?_
  refine r_runV (fun aH aL aj a1 a2 a3 => run_V C hF.2.2.1 (kX1_save PH QH PN (by omega) (fun i i0 i1 => by have := cs4 i i0 i1; omega)) lm_X1_save ml_X4_67 im_X1_save se_X1_save PH.2.1 rfl (Nat.le_of_ble_eq_true rfl) dX4_insert_64 rfl (Nat.le_of_ble_eq_true rfl) a1 a2 a3) ?_
  have hC2 := CI_sav hC
  have eo : ∀ r, (r < q ∨ q + 112 < r) → (sav μ (q + 37) (q + 1)) r = μ r := fun r hr => sav_o hC hr
  revert hC2 eo
  generalize (sav μ (q + 37) (q + 1)) = M
  intro hC2 eo
  obtain ⟨-, ⟨cv2, ce2⟩, -⟩ := id hC2
  have QN2 := StE_W cv2 ce2
  have el : ∀ j, j < 110 → mSav w sv j = w j := fun j hj => mSav_lo cs1.1 hj
  have l3 := el 3 (by omega)
  have n2 : M (q + 1 + 1) 2 = w 3 := by rw [ce2.2.1, l3]
  refine r_aload_n C dX4_insert_67 rfl ?_
  refine gf_X4_10 C P1 dX4_insert_68 ?_
  refine r_iload_n C dX4_insert_71 rfl ?_
  refine r_iload_n C dX4_insert_72 rfl ?_
  refine r_runV (fun aH aL aj a1 a2 a3 => run_V C hF.2.2.1 (kX3_putFromBin PN QN2 (p := p) (x := x) (by omega) (by omega) (by omega) h.1 h.2) lm_X3_putFromBin ml_X4_80 im_X3_putFromBin se_X3_putFromBin PN.2.1 rfl (Nat.le_of_ble_eq_true rfl) dX4_insert_73 rfl (Nat.le_of_ble_eq_true rfl) a1 a2 a3) ?_
  refine r_eq (μ' := opG M (q + 1) p x) ?_ rfl
  refine r_aload_n C dX4_insert_76 rfl ?_
  refine gf_X4_10 C P1 dX4_insert_77 ?_
  refine gf_X4_71 C PN.2.1 dX4_insert_80 ?_
  refine gf_X4_75 C PN.2.2.1.2.1 dX4_insert_83 ?_
  exact r_iretr C hF dX4_insert_86 (by unfold opG; rw [wr_s, s1_s, n2]) ⟨CI_now hC2 (fun r hr => by rw [opG_o (by omega)]) (veW_mono (veW_ins cv2 (p := p) (x := x) (by omega) (by omega) (by omega) h.1 h.2 (by rw [el _ (by omega)]; exact hh.1)) (by omega) hK0) (StE_ins ce2 (p := p) (x := x) (by omega) (by omega) (by omega) h.1 h.2) (fun j hj => mIns_hi (by omega) (by omega) (by omega) h.2 hj) (by omega) hK0, fun r hr => by rw [opG_o (by omega)]; exact eo r hr⟩
set_option maxRecDepth 20000 in
set_option maxHeartbeats 2000000 in
theorem kX4_pull_0 {V : Wo} {μ : Mem} {q : Nat} {K : Int} {w tx : Int → Int} {sv kp ln : Int} (hC : CI V K q μ w tx sv kp ln) (hK0 : K + 20 ≤ 1000000) {p : Int} (hr0 : inR p) (h : 0 ≤ p ∧ p < w 3) : Con V 5 yX4_pull cX4_pull 2 (some .int) [vR q, vI p] (μ) (QIr V (w (70 + p)) ((fun ν => CI V (K + 20) q ν (mPul (mSav w sv) p) (tx) (sv1 sv) (kp) (ln) ∧ ∀ r, (r < q ∨ q + 112 < r) → ν r = μ r))) := by
  refine con_of (ls0 := [vR q, vI p]) (by decide +kernel) rfl (Nat.le_of_ble_eq_true rfl) (Nat.le_of_ble_eq_true rfl) (fun X hV C hF => ?_)
  subst hV
  have C : Ok X RX4 cX4_pull 2 5 := C
  have hS := hC.1
  have hW := CI_SpW hC
  obtain ⟨P0, P1, PN, PS, PT, PH, PR, PB⟩ := id hS
  obtain ⟨QN, QH, Q6, Q7, QB, QR, QA⟩ := id hW
  obtain ⟨-, ⟨cv, ce⟩, ⟨ck1, ck2, ck3⟩, ⟨cs1, cs2, cs3, cs4, cs5, cs6⟩, ⟨cb1, cb2, cb3, cb4⟩, cr⟩ := id hC
  obtain ⟨v0, v1, v2, v3, v4, v5, v6, v7, v8, v9, v10⟩ := id cv
  obtain ⟨e1, e2, e3, e4, e5, e6, e7, e8, e9, e10⟩ := id ce
  obtain ⟨hK, WB, Wc, Wi, Wp, Wh, Ws0, Ws1, Ws2, Wbk, Wls⟩ := id QN
  refine r_aload_n C dX4_pull_0 rfl ?_
  refine gf_X4_10 C P1 dX4_pull_1 ?_
  refine gf_X4_71 C PN.2.1 dX4_pull_4 ?_
  refine r_iload_n C dX4_pull_7 rfl ?_
  refine r_runI (fun aH aL aj a1 a2 a3 => run_V C hF.2.2.1 (kX0_hasPlace PN.2.2.1 WB (p := p) (by omega)) lm_X0_hasPlace ml_X4_86 im_X0_hasPlace se_X0_hasPlace PN.2.2.1.2.1 rfl (Nat.le_of_ble_eq_true rfl) dX4_pull_8 rfl (Nat.le_of_ble_eq_true rfl) a1 a2 a3) ?_
  rw [b01_t (by omega)]
  refine r_if_ne (tgt := 24) C dX4_pull_11 (by decide) (by omega) (fun c11 => ?_) (fun c11 => absurd c11 (by omega))
  refine r_aload_n C dX4_pull_24 rfl ?_
  refine gf_X4_25 C P1 dX4_pull_25 ?_
  refine r_aload_n C dX4_pull_28 rfl ?_
  refine gf_X4_10 C P1 dX4_pull_29 ?_
  refine r_runV (fun aH aL aj a1 a2 a3 => run_V C hF.2.2.1 (kX1_save PH QH PN (by omega) (fun i i0 i1 => by have := cs4 i i0 i1; omega)) lm_X1_save ml_X4_67 im_X1_save se_X1_save PH.2.1 rfl (Nat.le_of_ble_eq_true rfl) dX4_pull_32 rfl (Nat.le_of_ble_eq_true rfl) a1 a2 a3) ?_
  have hC2 := CI_sav hC
  have eo : ∀ r, (r < q ∨ q + 112 < r) → (sav μ (q + 37) (q + 1)) r = μ r := fun r hr => sav_o hC hr
  revert hC2 eo
  generalize (sav μ (q + 37) (q + 1)) = M
  intro hC2 eo
  obtain ⟨-, ⟨cv2, ce2⟩, -⟩ := id hC2
  have QN2 := StE_W cv2 ce2
  have el : ∀ j, j < 110 → mSav w sv j = w j := fun j hj => mSav_lo cs1.1 hj
  have l3 := el 3 (by omega)
  have n2 : M (q + 1 + 1) 2 = w 3 := by rw [ce2.2.1, l3]
  refine r_aload_n C dX4_pull_35 rfl ?_
  refine gf_X4_10 C P1 dX4_pull_36 ?_
  refine r_iload_n C dX4_pull_39 rfl ?_
  refine r_runI (fun aH aL aj a1 a2 a3 => run_V C hF.2.2.1 (kX3_putBack PN QN2 (p := p) (by omega) (by omega)) lm_X3_putBack ml_X4_91 im_X3_putBack se_X3_putBack PN.2.1 rfl (Nat.le_of_ble_eq_true rfl) dX4_pull_40 rfl (Nat.le_of_ble_eq_true rfl) a1 a2 a3) ?_
  refine r_eq (μ' := opP M (q + 1) p) ?_ rfl
  exact r_iretr C hF dX4_pull_43 (by rw [StE_N ce2 p (by omega) (by omega)]; exact el _ (by omega)) ⟨CI_now hC2 (fun r hr => by rw [opP_o (by omega)]) (veW_mono (veW_pul cv2 (p := p) (by omega) (by omega) (by omega)) (by omega) hK0) (StE_pul cv2 ce2 (by omega) (by omega)) (fun j hj => mPul_hi (by omega) (veW_N cv2 p (by omega) (by omega)).2 (by omega) hj) (by omega) hK0, fun r hr => by rw [opP_o (by omega)]; exact eo r hr⟩
set_option maxRecDepth 20000 in
set_option maxHeartbeats 2000000 in
theorem kX4_flip_0 {V : Wo} {μ : Mem} {q : Nat} {K : Int} {w tx : Int → Int} {sv kp ln : Int} (hC : CI V K q μ w tx sv kp ln) (hK0 : K + 20 ≤ 1000000) {p : Int} (hr0 : inR p) (h : 0 ≤ p ∧ p < w 3) : Con V 5 yX4_flip cX4_flip 2 (some .int) [vR q, vI p] (μ) (QIr V (mk (w 1) (w (70 + p)) (1 - w (90 + p))) ((fun ν => CI V (K + 20) q ν (mFli (mSav w sv) p) (tx) (sv1 sv) (kp) (ln) ∧ ∀ r, (r < q ∨ q + 112 < r) → ν r = μ r))) := by
  refine con_of (ls0 := [vR q, vI p]) (by decide +kernel) rfl (Nat.le_of_ble_eq_true rfl) (Nat.le_of_ble_eq_true rfl) (fun X hV C hF => ?_)
  subst hV
  have C : Ok X RX4 cX4_flip 2 5 := C
  have hS := hC.1
  have hW := CI_SpW hC
  obtain ⟨P0, P1, PN, PS, PT, PH, PR, PB⟩ := id hS
  obtain ⟨QN, QH, Q6, Q7, QB, QR, QA⟩ := id hW
  obtain ⟨-, ⟨cv, ce⟩, ⟨ck1, ck2, ck3⟩, ⟨cs1, cs2, cs3, cs4, cs5, cs6⟩, ⟨cb1, cb2, cb3, cb4⟩, cr⟩ := id hC
  obtain ⟨v0, v1, v2, v3, v4, v5, v6, v7, v8, v9, v10⟩ := id cv
  obtain ⟨e1, e2, e3, e4, e5, e6, e7, e8, e9, e10⟩ := id ce
  obtain ⟨hK, WB, Wc, Wi, Wp, Wh, Ws0, Ws1, Ws2, Wbk, Wls⟩ := id QN
  refine r_aload_n C dX4_flip_0 rfl ?_
  refine gf_X4_10 C P1 dX4_flip_1 ?_
  refine gf_X4_71 C PN.2.1 dX4_flip_4 ?_
  refine r_iload_n C dX4_flip_7 rfl ?_
  refine r_runI (fun aH aL aj a1 a2 a3 => run_V C hF.2.2.1 (kX0_hasPlace PN.2.2.1 WB (p := p) (by omega)) lm_X0_hasPlace ml_X4_86 im_X0_hasPlace se_X0_hasPlace PN.2.2.1.2.1 rfl (Nat.le_of_ble_eq_true rfl) dX4_flip_8 rfl (Nat.le_of_ble_eq_true rfl) a1 a2 a3) ?_
  rw [b01_t (by omega)]
  refine r_if_ne (tgt := 24) C dX4_flip_11 (by decide) (by omega) (fun c11 => ?_) (fun c11 => absurd c11 (by omega))
  refine r_aload_n C dX4_flip_24 rfl ?_
  refine gf_X4_25 C P1 dX4_flip_25 ?_
  refine r_aload_n C dX4_flip_28 rfl ?_
  refine gf_X4_10 C P1 dX4_flip_29 ?_
  refine r_runV (fun aH aL aj a1 a2 a3 => run_V C hF.2.2.1 (kX1_save PH QH PN (by omega) (fun i i0 i1 => by have := cs4 i i0 i1; omega)) lm_X1_save ml_X4_67 im_X1_save se_X1_save PH.2.1 rfl (Nat.le_of_ble_eq_true rfl) dX4_flip_32 rfl (Nat.le_of_ble_eq_true rfl) a1 a2 a3) ?_
  have hC2 := CI_sav hC
  have eo : ∀ r, (r < q ∨ q + 112 < r) → (sav μ (q + 37) (q + 1)) r = μ r := fun r hr => sav_o hC hr
  revert hC2 eo
  generalize (sav μ (q + 37) (q + 1)) = M
  intro hC2 eo
  obtain ⟨-, ⟨cv2, ce2⟩, -⟩ := id hC2
  have QN2 := StE_W cv2 ce2
  have el : ∀ j, j < 110 → mSav w sv j = w j := fun j hj => mSav_lo cs1.1 hj
  have l3 := el 3 (by omega)
  have n2 : M (q + 1 + 1) 2 = w 3 := by rw [ce2.2.1, l3]
  refine r_aload_n C dX4_flip_35 rfl ?_
  refine gf_X4_10 C P1 dX4_flip_36 ?_
  refine gf_X4_71 C PN.2.1 dX4_flip_39 ?_
  refine r_iload_n C dX4_flip_42 rfl ?_
  refine r_runV (fun aH aL aj a1 a2 a3 => run_V C hF.2.2.1 (kX0_turnOver PN.2.2.1 QN2.2.1 (p := p) (by omega) (by omega)) lm_X0_turnOver ml_X4_95 im_X0_turnOver se_X0_turnOver PN.2.2.1.2.1 rfl (Nat.le_of_ble_eq_true rfl) dX4_flip_43 rfl (Nat.le_of_ble_eq_true rfl) a1 a2 a3) ?_
  have cv3 := veW_fli cv2 (p := p) (by omega) (by omega)
  have ce3 := StE_fli ce2 (p := p) (by omega) (by omega) (by omega)
  have h3 : p < mFli (mSav w sv) p 3 := by unfold mFli; rw [s1_n _ _ (by omega)]; omega
  refine r_eq (μ' := opF M (q + 1) p) ?_ rfl
  refine r_aload_n C dX4_flip_46 rfl ?_
  refine gf_X4_10 C P1 dX4_flip_47 ?_
  refine r_iload_n C dX4_flip_50 rfl ?_
  refine r_runI (fun aH aL aj a1 a2 a3 => run_V C hF.2.2.1 (kX3_stepOfMark PN (StE_W cv3 ce3) (p := p) (by omega) (by rw [ce3.2.1]; exact h3)) lm_X3_stepOfMark ml_X4_99 im_X3_stepOfMark se_X3_stepOfMark PN.2.1 rfl (Nat.le_of_ble_eq_true rfl) dX4_flip_51 rfl (Nat.le_of_ble_eq_true rfl) a1 a2 a3) ?_
  exact r_iretr C hF dX4_flip_54 (by
        rw [StE_N ce3 p (by omega) h3, StE_D ce3 p (by omega) h3, ce3.1 1 (by omega) (by omega)]
        show mk (s1 (mSav w sv) (90 + p) _ 1) (s1 (mSav w sv) (90 + p) _ (70 + p)) (s1 (mSav w sv) (90 + p) _ (90 + p)) = _
        rw [s1_s, s1_n _ _ (by omega), s1_n _ _ (by omega), el _ (by omega), el _ (by omega), el _ (by omega)]) ⟨CI_now hC2 (fun r hr => by rw [opF_o (by omega)]) (veW_mono cv3 (by omega) hK0) ce3 (fun j hj => mFli_hi (by omega) hj) (by omega) hK0, fun r hr => by rw [opF_o (by omega)]; exact eo r hr⟩
set_option maxRecDepth 20000 in
set_option maxHeartbeats 2000000 in
theorem kX4_move_0 {V : Wo} {μ : Mem} {q : Nat} {K : Int} {w tx : Int → Int} {sv kp ln : Int} (hC : CI V K q μ w tx sv kp ln) (hK0 : K + 20 ≤ 1000000) {p : Int} (hr0 : inR p) {r : Int} (hr1 : inR r) (h : 0 ≤ p ∧ p < w 3) (h2 : 0 ≤ r ∧ r < w 3) : Con V 5 yX4_move cX4_move 3 (some .int) [vR q, vI p, vI r] (μ) (QIr V (brks (w 1) (vN (mMov (mSav w sv) p r)) (vD (mMov (mSav w sv) p r)) (w 3)) ((fun ν => CI V (K + 20) q ν (mMov (mSav w sv) p r) (tx) (sv1 sv) (kp) (ln) ∧ ∀ r, (r < q ∨ q + 112 < r) → ν r = μ r))) := by
  refine con_of (ls0 := [vR q, vI p, vI r]) (by decide +kernel) rfl (Nat.le_of_ble_eq_true rfl) (Nat.le_of_ble_eq_true rfl) (fun X hV C hF => ?_)
  subst hV
  have C : Ok X RX4 cX4_move 3 5 := C
  have hS := hC.1
  have hW := CI_SpW hC
  obtain ⟨P0, P1, PN, PS, PT, PH, PR, PB⟩ := id hS
  obtain ⟨QN, QH, Q6, Q7, QB, QR, QA⟩ := id hW
  obtain ⟨-, ⟨cv, ce⟩, ⟨ck1, ck2, ck3⟩, ⟨cs1, cs2, cs3, cs4, cs5, cs6⟩, ⟨cb1, cb2, cb3, cb4⟩, cr⟩ := id hC
  obtain ⟨v0, v1, v2, v3, v4, v5, v6, v7, v8, v9, v10⟩ := id cv
  obtain ⟨e1, e2, e3, e4, e5, e6, e7, e8, e9, e10⟩ := id ce
  obtain ⟨hK, WB, Wc, Wi, Wp, Wh, Ws0, Ws1, Ws2, Wbk, Wls⟩ := id QN
  refine r_aload_n C dX4_move_0 rfl ?_
  refine gf_X4_10 C P1 dX4_move_1 ?_
  refine gf_X4_71 C PN.2.1 dX4_move_4 ?_
  refine r_iload_n C dX4_move_7 rfl ?_
  refine r_runI (fun aH aL aj a1 a2 a3 => run_V C hF.2.2.1 (kX0_hasPlace PN.2.2.1 WB (p := p) (by omega)) lm_X0_hasPlace ml_X4_86 im_X0_hasPlace se_X0_hasPlace PN.2.2.1.2.1 rfl (Nat.le_of_ble_eq_true rfl) dX4_move_8 rfl (Nat.le_of_ble_eq_true rfl) a1 a2 a3) ?_
  rw [b01_t (by omega)]
  refine r_if_eq (tgt := 28) C dX4_move_11 (by decide) (by omega) (fun c11 => absurd c11 (by omega)) (fun c11 => ?_)
  refine r_aload_n C dX4_move_14 rfl ?_
  refine gf_X4_10 C P1 dX4_move_15 ?_
  refine gf_X4_71 C PN.2.1 dX4_move_18 ?_
  refine r_iload_n C dX4_move_21 rfl ?_
  refine r_runI (fun aH aL aj a1 a2 a3 => run_V C hF.2.2.1 (kX0_hasPlace PN.2.2.1 WB (p := r) (by omega)) lm_X0_hasPlace ml_X4_86 im_X0_hasPlace se_X0_hasPlace PN.2.2.1.2.1 rfl (Nat.le_of_ble_eq_true rfl) dX4_move_22 rfl (Nat.le_of_ble_eq_true rfl) a1 a2 a3) ?_
  rw [b01_t (by omega)]
  refine r_if_ne (tgt := 38) C dX4_move_25 (by decide) (by omega) (fun c25 => ?_) (fun c25 => absurd c25 (by omega))
  refine r_aload_n C dX4_move_38 rfl ?_
  refine gf_X4_25 C P1 dX4_move_39 ?_
  refine r_aload_n C dX4_move_42 rfl ?_
  refine gf_X4_10 C P1 dX4_move_43 ?_
  refine r_runV (fun aH aL aj a1 a2 a3 => run_V C hF.2.2.1 (kX1_save PH QH PN (by omega) (fun i i0 i1 => by have := cs4 i i0 i1; omega)) lm_X1_save ml_X4_67 im_X1_save se_X1_save PH.2.1 rfl (Nat.le_of_ble_eq_true rfl) dX4_move_46 rfl (Nat.le_of_ble_eq_true rfl) a1 a2 a3) ?_
  have hC2 := CI_sav hC
  have eo : ∀ r, (r < q ∨ q + 112 < r) → (sav μ (q + 37) (q + 1)) r = μ r := fun r hr => sav_o hC hr
  revert hC2 eo
  generalize (sav μ (q + 37) (q + 1)) = M
  intro hC2 eo
  obtain ⟨-, ⟨cv2, ce2⟩, -⟩ := id hC2
  have QN2 := StE_W cv2 ce2
  have el : ∀ j, j < 110 → mSav w sv j = w j := fun j hj => mSav_lo cs1.1 hj
  have l3 := el 3 (by omega)
  have n2 : M (q + 1 + 1) 2 = w 3 := by rw [ce2.2.1, l3]
  refine r_aload_n C dX4_move_49 rfl ?_
  refine gf_X4_10 C P1 dX4_move_50 ?_
  refine gf_X4_71 C PN.2.1 dX4_move_53 ?_
  refine r_iload_n C dX4_move_56 rfl ?_
  refine r_iload_n C dX4_move_57 rfl ?_
  refine r_runV (fun aH aL aj a1 a2 a3 => run_V C hF.2.2.1 (kX0_shift PN.2.2.1 QN2.2.1 (p := p) (r := r) (by omega) (by omega) (by omega) (by omega)) lm_X0_shift ml_X4_104 im_X0_shift se_X0_shift PN.2.2.1.2.1 rfl (Nat.le_of_ble_eq_true rfl) dX4_move_58 rfl (Nat.le_of_ble_eq_true rfl) a1 a2 a3) ?_
  have cv3 := veW_mov cv2 (p := p) (r := r) (by omega) (by omega) (by omega) (by omega)
  have ce3 := StE_mov ce2 (p := p) (r := r) (by omega) (by omega) (by omega) (by omega) (by omega)
  refine r_eq (μ' := opM M (q + 1) p r) ?_ rfl
  refine r_aload_n C dX4_move_61 rfl ?_
  refine gf_X4_10 C P1 dX4_move_62 ?_
  refine r_runI (fun aH aL aj a1 a2 a3 => run_V C hF.2.2.1 (kX3_breaks PN (StE_W cv3 ce3)) lm_X3_breaks ml_X4_107 im_X3_breaks se_X3_breaks PN.2.1 rfl (Nat.le_of_ble_eq_true rfl) dX4_move_65 rfl (Nat.le_of_ble_eq_true rfl) a1 a2 a3) ?_
  exact r_iretr C hF dX4_move_68 (by rw [StE_brks ce3, mMov_o (by omega) (by omega) (by omega), mMov_o (by omega) (by omega) (by omega), el _ (by omega), el _ (by omega)]) ⟨CI_now hC2 (fun r hr => by rw [opM_o (by omega)]) (veW_mono cv3 (by omega) hK0) ce3 (fun j hj => mMov_hi (by omega) (by omega) (by omega) (by omega) hj) (by omega) hK0, fun r hr => by rw [opM_o (by omega)]; exact eo r hr⟩
set_option maxRecDepth 20000 in
set_option maxHeartbeats 2000000 in
theorem kX4_bind_0 {V : Wo} {μ : Mem} {q : Nat} {K : Int} {w tx : Int → Int} {sv kp ln : Int} (hC : CI V K q μ w tx sv kp ln) (hK0 : K + 20 ≤ 1000000) (h : flt (w 0) (vN w) (vD w) (w 3) = 0) : Con V 5 yX4_bind cX4_bind 1 (some .int) [vR q] (μ) (QIr V (w 4 + 1) ((fun ν => CI V (K + 20) q ν (mBin (mSav w sv)) (tx) (sv1 sv) (kp) (ln) ∧ ∀ r, (r < q ∨ q + 112 < r) → ν r = μ r))) := by
  refine con_of (ls0 := [vR q]) (by decide +kernel) rfl (Nat.le_of_ble_eq_true rfl) (Nat.le_of_ble_eq_true rfl) (fun X hV C hF => ?_)
  subst hV
  have C : Ok X RX4 cX4_bind 1 5 := C
  have hS := hC.1
  have hW := CI_SpW hC
  obtain ⟨P0, P1, PN, PS, PT, PH, PR, PB⟩ := id hS
  obtain ⟨QN, QH, Q6, Q7, QB, QR, QA⟩ := id hW
  obtain ⟨-, ⟨cv, ce⟩, ⟨ck1, ck2, ck3⟩, ⟨cs1, cs2, cs3, cs4, cs5, cs6⟩, ⟨cb1, cb2, cb3, cb4⟩, cr⟩ := id hC
  obtain ⟨v0, v1, v2, v3, v4, v5, v6, v7, v8, v9, v10⟩ := id cv
  obtain ⟨e1, e2, e3, e4, e5, e6, e7, e8, e9, e10⟩ := id ce
  obtain ⟨hK, WB, Wc, Wi, Wp, Wh, Ws0, Ws1, Ws2, Wbk, Wls⟩ := id QN
  refine r_aload_n C dX4_bind_0 rfl ?_
  refine gf_X4_10 C P1 dX4_bind_1 ?_
  refine r_runI (fun aH aL aj a1 a2 a3 => run_V C hF.2.2.1 (kX3_fault PN QN) lm_X3_fault ml_X4_111 im_X3_fault se_X3_fault PN.2.1 rfl (Nat.le_of_ble_eq_true rfl) dX4_bind_4 rfl (Nat.le_of_ble_eq_true rfl) a1 a2 a3) ?_
  rw [StE_flt ce, h]
  refine r_if_eq (tgt := 20) C dX4_bind_7 (by decide) (by omega) (fun c7 => ?_) (fun c7 => absurd c7 (by omega))
  refine r_aload_n C dX4_bind_20 rfl ?_
  refine gf_X4_25 C P1 dX4_bind_21 ?_
  refine r_aload_n C dX4_bind_24 rfl ?_
  refine gf_X4_10 C P1 dX4_bind_25 ?_
  refine r_runV (fun aH aL aj a1 a2 a3 => run_V C hF.2.2.1 (kX1_save PH QH PN (by omega) (fun i i0 i1 => by have := cs4 i i0 i1; omega)) lm_X1_save ml_X4_67 im_X1_save se_X1_save PH.2.1 rfl (Nat.le_of_ble_eq_true rfl) dX4_bind_28 rfl (Nat.le_of_ble_eq_true rfl) a1 a2 a3) ?_
  have hC2 := CI_sav hC
  have eo : ∀ r, (r < q ∨ q + 112 < r) → (sav μ (q + 37) (q + 1)) r = μ r := fun r hr => sav_o hC hr
  revert hC2 eo
  generalize (sav μ (q + 37) (q + 1)) = M
  intro hC2 eo
  obtain ⟨-, ⟨cv2, ce2⟩, -⟩ := id hC2
  have QN2 := StE_W cv2 ce2
  have el : ∀ j, j < 110 → mSav w sv j = w j := fun j hj => mSav_lo cs1.1 hj
  have l3 := el 3 (by omega)
  have n2 : M (q + 1 + 1) 2 = w 3 := by rw [ce2.2.1, l3]
  refine r_aload_n C dX4_bind_31 rfl ?_
  refine gf_X4_10 C P1 dX4_bind_32 ?_
  refine r_runV (fun aH aL aj a1 a2 a3 => run_V C hF.2.2.1 (kX3_bindBlock PN QN2) lm_X3_bindBlock ml_X4_116 im_X3_bindBlock se_X3_bindBlock PN.2.1 rfl (Nat.le_of_ble_eq_true rfl) dX4_bind_35 rfl (Nat.le_of_ble_eq_true rfl) a1 a2 a3) ?_
  refine r_eq (μ' := opB M (q + 1)) ?_ rfl
  refine r_aload_n C dX4_bind_38 rfl ?_
  refine gf_X4_10 C P1 dX4_bind_39 ?_
  refine gf_X4_119 C PN.2.1 dX4_bind_42 ?_
  exact r_iretr C hF dX4_bind_45 (by unfold opB; rw [wr_s, s1_s, ce2.2.2.1, el _ (by omega)]) ⟨CI_now hC2 (fun r hr => by rw [opB_o (by omega)]) (veW_bin cv2 hK0) (StE_bin ce2) (fun j hj => by rw [mBin_e, if_neg (by omega), if_neg (by omega), if_neg (by omega)]) (by omega) hK0, fun r hr => by rw [opB_o (by omega)]; exact eo r hr⟩
