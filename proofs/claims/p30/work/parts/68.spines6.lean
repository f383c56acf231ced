set_option maxRecDepth 20000 in
set_option maxHeartbeats 2000000 in
theorem kX4_stairShare_c {V : Wo} {μ : Mem} {q : Nat} {K : Int} {w tx : Int → Int} {sv kp ln : Int} (hC : CI V K q μ w tx sv kp ln) : Con V 4 yX4_stairShare cX4_stairShare 2 (some .double) [vR q] (μ) (QDr V (shT w) ((fun ν => CI V (K) q ν (w) (tx) (sv) (kp) (ln) ∧ ∀ r, (r < q ∨ q + 112 < r) → ν r = μ r))) := by
  refine con_of (ls0 := [vR q, vU]) (by decide +kernel) rfl (Nat.le_of_ble_eq_true rfl) (Nat.le_of_ble_eq_true rfl) (fun X hV C hF => ?_)
  subst hV
  have C : Ok X RX4 cX4_stairShare 2 4 := C
  have hS := hC.1
  have hW := CI_SpW hC
  obtain ⟨P0, P1, PN, PS, PT, PH, PR, PB⟩ := id hS
  obtain ⟨QN, QH, Q6, Q7, QB, QR, QA⟩ := id hW
  obtain ⟨-, ⟨cv, ce⟩, ⟨ck1, ck2, ck3⟩, ⟨cs1, cs2, cs3, cs4, cs5, cs6⟩, ⟨cb1, cb2, cb3, cb4⟩, cr⟩ := id hC
  obtain ⟨v0, v1, v2, v3, v4, v5, v6, v7, v8, v9, v10⟩ := id cv
  obtain ⟨e1, e2, e3, e4, e5, e6, e7, e8, e9, e10⟩ := id ce
  obtain ⟨hK, WB, Wc, Wi, Wp, Wh, Ws0, Ws1, Ws2, Wbk, Wls⟩ := id QN
  have cks := chkD_e (chk_sh cv)
  refine r_aload_n C dX4_stairShare_0 rfl ?_
  refine gf_X4_10 C P1 dX4_stairShare_1 ?_
  refine gf_X4_71 C PN.2.1 dX4_stairShare_4 ?_
  refine gf_X4_75 C PN.2.2.1.2.1 dX4_stairShare_7 ?_
  rw [e2]
  refine r_istore_n C dX4_stairShare_10 (by decide) rfl ?_
  refine r_iload_n C dX4_stairShare_11 rfl ?_
  refine r_if_le (tgt := 31) C dX4_stairShare_12 (by decide) (by omega) (fun c12 => ?_) (fun c12 => ?_)
  · skip
    refine r_dconst1 C dX4_stairShare_31 ?_
    exact r_dretr C hF dX4_stairShare_32 (by unfold shT; rw [if_pos (show w 3 = 0 by omega)]) ⟨hC, fun _ _ => rfl⟩
  · skip
    refine r_iload_n C dX4_stairShare_15 rfl ?_
    refine r_aload_n C dX4_stairShare_16 rfl ?_
    refine gf_X4_10 C P1 dX4_stairShare_17 ?_
    refine r_runI (fun aH aL aj a1 a2 a3 => run_V C hF.2.2.1 (kX3_breaks PN QN) lm_X3_breaks ml_X4_107 im_X3_breaks se_X3_breaks PN.2.1 rfl (Nat.le_of_ble_eq_true rfl) dX4_stairShare_20 rfl (Nat.le_of_ble_eq_true rfl) a1 a2 a3) ?_
    rw [StE_brks ce]
    refine r_isub C dX4_stairShare_23 ?_
    refine r_i2d C dX4_stairShare_24 ?_
    refine r_iload_n C dX4_stairShare_25 rfl ?_
    refine r_i2d C dX4_stairShare_26 ?_
    refine r_ddiv C dX4_stairShare_27 (by have := cks.1; unfold shT tD at this; rw [if_neg (show ¬ w 3 = 0 by omega)] at this; exact this) ?_
    refine r_goto (tgt := 32) C dX4_stairShare_28 (by decide) ?_
    exact r_dretr C hF dX4_stairShare_32 (by unfold shT tD; rw [if_neg (show ¬ w 3 = 0 by omega)]) ⟨hC, fun _ _ => rfl⟩
