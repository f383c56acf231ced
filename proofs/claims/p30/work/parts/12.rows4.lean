set_option maxRecDepth 20000 in
set_option maxHeartbeats 2000000 in
theorem kX4_at {V : Wo} {μ : Mem} {q N : Nat} {i : Int} (hq : woS V q = some (.inr (0, N))) (hN : N < 2 ^ 31) (h0 : 0 ≤ i) (hi : i < (N : Int)) : Con V 0 yX4_at cX4_at 2 (some .int) [vR q, vI i] (μ) (QI V (μ q i) (μ)) := by
  refine con_of (ls0 := [vR q, vI i]) (by decide +kernel) rfl (Nat.le_of_ble_eq_true rfl) (Nat.le_of_ble_eq_true rfl) (fun X hV C hF => ?_)
  subst hV
  have C : Ok X RX4 cX4_at 2 0 := C
  refine r_aload_n C dX4_at_0 rfl ?_
  refine r_ifnull C dX4_at_1 ?_
  refine r_iload_n C dX4_at_4 rfl ?_
  refine r_if_lt (tgt := 20) C dX4_at_5 (by decide) (by omega) (fun c5 => absurd c5 (by omega)) (fun c5 => ?_)
  refine r_iload_n C dX4_at_8 rfl ?_
  refine r_aload_n C dX4_at_9 rfl ?_
  refine r_alen C hq dX4_at_10 ?_
  refine r_icmp_ge (tgt := 20) C dX4_at_11 (by decide) (by omega) (by omega) (fun c11 => absurd c11 (by omega)) (fun c11 => ?_)
  refine r_aload_n C dX4_at_14 rfl ?_
  refine r_iload_n C dX4_at_15 rfl ?_
  refine r_iald C hq (by omega) (by omega) dX4_at_16 ?_
  refine r_goto (tgt := 21) C dX4_at_17 (by decide) ?_
  exact r_iret C hF dX4_at_21 rfl rfl
set_option maxRecDepth 20000 in
set_option maxHeartbeats 2000000 in
theorem kX4_put {V : Wo} {μ : Mem} {q N : Nat} {i x : Int} (hq : woS V q = some (.inr (0, N))) (hb : woB V ≤ q) (hN : N < 2 ^ 31) (h0 : 0 ≤ i) (hi : i < (N : Int)) : Con V 0 yX4_put cX4_put 3 (none) [vR q, vI i, vI x] (μ) (QV V (wr μ q (s1 (μ q) i x))) := by
  refine con_of (ls0 := [vR q, vI i, vI x]) (by decide +kernel) rfl (Nat.le_of_ble_eq_true rfl) (Nat.le_of_ble_eq_true rfl) (fun X hV C hF => ?_)
  subst hV
  have C : Ok X RX4 cX4_put 3 0 := C
  refine r_aload_n C dX4_put_0 rfl ?_
  refine r_ifnull C dX4_put_1 ?_
  refine r_iload_n C dX4_put_4 rfl ?_
  refine r_if_lt (tgt := 18) C dX4_put_5 (by decide) (by omega) (fun c5 => absurd c5 (by omega)) (fun c5 => ?_)
  refine r_iload_n C dX4_put_8 rfl ?_
  refine r_aload_n C dX4_put_9 rfl ?_
  refine r_alen C hq dX4_put_10 ?_
  refine r_icmp_ge (tgt := 18) C dX4_put_11 (by decide) (by omega) (by omega) (fun c11 => absurd c11 (by omega)) (fun c11 => ?_)
  refine r_aload_n C dX4_put_14 rfl ?_
  refine r_iload_n C dX4_put_15 rfl ?_
  refine r_iload_n C dX4_put_16 rfl ?_
  refine r_iast C hq hb (by omega) (by omega) dX4_put_17 ?_
  exact r_vret C hF dX4_put_18 rfl
set_option maxRecDepth 20000 in
set_option maxHeartbeats 2000000 in
theorem kX4_addTo {V : Wo} {μ : Mem} {q N : Nat} {i x : Int} (hq : woS V q = some (.inr (0, N))) (hb : woB V ≤ q) (hN : N < 2 ^ 31) (h0 : 0 ≤ i) (hi : i < (N : Int)) : Con V 1 yX4_addTo cX4_addTo 3 (none) [vR q, vI i, vI x] (μ) (QV V (wr μ q (s1 (μ q) i (μ q i + x)))) := by
  refine con_of (ls0 := [vR q, vI i, vI x]) (by decide +kernel) rfl (Nat.le_of_ble_eq_true rfl) (Nat.le_of_ble_eq_true rfl) (fun X hV C hF => ?_)
  subst hV
  have C : Ok X RX4 cX4_addTo 3 1 := C
  refine r_aload_n C dX4_addTo_0 rfl ?_
  refine r_iload_n C dX4_addTo_1 rfl ?_
  refine r_aload_n C dX4_addTo_2 rfl ?_
  refine r_iload_n C dX4_addTo_3 rfl ?_
  refine r_runI (fun aH aL aj a1 a2 a3 => run_S C hF.2.2.1 (kX4_at hq hN h0 hi) lm_X4_at ml_X4_130 sm_X4_at (Nat.le_of_ble_eq_true rfl) dX4_addTo_4 rfl (Nat.le_of_ble_eq_true rfl) a1 a2 a3) ?_
  refine r_iload_n C dX4_addTo_7 rfl ?_
  refine r_iadd C dX4_addTo_8 ?_
  refine r_runV (fun aH aL aj a1 a2 a3 => run_S C hF.2.2.1 (kX4_put hq hb hN h0 hi) lm_X4_put ml_X4_148 sm_X4_put (Nat.le_of_ble_eq_true rfl) dX4_addTo_9 rfl (Nat.le_of_ble_eq_true rfl) a1 a2 a3) ?_
  exact r_vret C hF dX4_addTo_12 rfl
set_option maxRecDepth 20000 in
set_option maxHeartbeats 2000000 in
theorem kX4_copyRow {V : Wo} {μ : Mem} {q r N : Nat} (hq : woS V q = some (.inr (0, N))) (hr : woS V r = some (.inr (0, N))) (hb : woB V ≤ r) (hN : N < 2 ^ 31) : Con V 1 yX4_copyRow cX4_copyRow 2 (none) [vR q, vR r] (μ) (QV V (wr μ r (μ q))) := by
  refine con_of (ls0 := [vR q, vR r]) (by decide +kernel) rfl (Nat.le_of_ble_eq_true rfl) (Nat.le_of_ble_eq_true rfl) (fun X hV C hF => ?_)
  subst hV
  have C : Ok X RX4 cX4_copyRow 2 1 := C
  refine r_aload_n C dX4_copyRow_0 rfl ?_
  refine r_ifnull C dX4_copyRow_1 ?_
  refine r_aload_n C dX4_copyRow_4 rfl ?_
  refine r_ifnull C dX4_copyRow_5 ?_
  refine r_aload_n C dX4_copyRow_8 rfl ?_
  refine r_iconst C dX4_copyRow_9 ?_
  refine r_aload_n C dX4_copyRow_10 rfl ?_
  refine r_iconst C dX4_copyRow_11 ?_
  refine r_aload_n C dX4_copyRow_12 rfl ?_
  refine r_alen C hq dX4_copyRow_13 ?_
  refine r_aload_n C dX4_copyRow_14 rfl ?_
  refine r_alen C hr dX4_copyRow_15 ?_
  refine r_min C ml_X4_274 dX4_copyRow_16 (by omega) (by omega) (Nat.le_of_ble_eq_true rfl) (Nat.le_of_ble_eq_true rfl) ?_
  rw [if_neg (by omega)]
  refine r_acopy C (μ q) ac_ml ac_na ac_st hq hr hb (by omega) (by omega) (by omega) (fun j h0 h1 => (if_pos h1).symm) dX4_copyRow_19 (Nat.le_of_ble_eq_true rfl) (Nat.le_of_ble_eq_true rfl) ?_
  exact r_vret C hF dX4_copyRow_22 rfl
set_option maxRecDepth 20000 in
set_option maxHeartbeats 2000000 in
theorem kX4_isBin {V : Wo} {μ : Mem} {i : Int} (hi : inR i) : Con V 0 yX4_isBin cX4_isBin 1 (some .boolean) [vI i] (μ) (QI V (b01 (0 ≤ i ∧ i < 16)) (μ)) := by
  refine con_of (ls0 := [vI i]) (by decide +kernel) rfl (Nat.le_of_ble_eq_true rfl) (Nat.le_of_ble_eq_true rfl) (fun X hV C hF => ?_)
  subst hV
  have C : Ok X RX4 cX4_isBin 1 0 := C
  refine r_iload_n C dX4_isBin_0 rfl ?_
  refine r_if_lt (tgt := 14) C dX4_isBin_1 (by decide) (by omega) (fun c1 => ?_) (fun c1 => ?_)
  · have _ := c1
    refine r_iconst C dX4_isBin_14 ?_
    exact r_zret C hF dX4_isBin_15 (by omega) (by unfold b01; split <;> omega) rfl
  · have _ := c1
    refine r_iload_n C dX4_isBin_4 rfl ?_
    refine r_bipush C dX4_isBin_5 rfl ?_
    refine r_icmp_ge (tgt := 14) C dX4_isBin_7 (by decide) (by omega) (by omega) (fun c7 => ?_) (fun c7 => ?_)
    · have _ := c7
      refine r_iconst C dX4_isBin_14 ?_
      exact r_zret C hF dX4_isBin_15 (by omega) (by unfold b01; split <;> omega) rfl
    · have _ := c7
      refine r_iconst C dX4_isBin_10 ?_
      refine r_goto (tgt := 15) C dX4_isBin_11 (by decide) ?_
      exact r_zret C hF dX4_isBin_15 (by omega) (by unfold b01; split <;> omega) rfl
set_option maxRecDepth 20000 in
set_option maxHeartbeats 2000000 in
theorem kX4_isSetting {V : Wo} {μ : Mem} {i : Int} (hi : inR i) : Con V 0 yX4_isSetting cX4_isSetting 1 (some .boolean) [vI i] (μ) (QI V (b01 (0 ≤ i ∧ i < 3)) (μ)) := by
  refine con_of (ls0 := [vI i]) (by decide +kernel) rfl (Nat.le_of_ble_eq_true rfl) (Nat.le_of_ble_eq_true rfl) (fun X hV C hF => ?_)
  subst hV
  have C : Ok X RX4 cX4_isSetting 1 0 := C
  refine r_iload_n C dX4_isSetting_0 rfl ?_
  refine r_if_lt (tgt := 13) C dX4_isSetting_1 (by decide) (by omega) (fun c1 => ?_) (fun c1 => ?_)
  · have _ := c1
    refine r_iconst C dX4_isSetting_13 ?_
    exact r_zret C hF dX4_isSetting_14 (by omega) (by unfold b01; split <;> omega) rfl
  · have _ := c1
    refine r_iload_n C dX4_isSetting_4 rfl ?_
    refine r_iconst C dX4_isSetting_5 ?_
    refine r_icmp_ge (tgt := 13) C dX4_isSetting_6 (by decide) (by omega) (by omega) (fun c6 => ?_) (fun c6 => ?_)
    · have _ := c6
      refine r_iconst C dX4_isSetting_13 ?_
      exact r_zret C hF dX4_isSetting_14 (by omega) (by unfold b01; split <;> omega) rfl
    · have _ := c6
      refine r_iconst C dX4_isSetting_9 ?_
      refine r_goto (tgt := 14) C dX4_isSetting_10 (by decide) ?_
      exact r_zret C hF dX4_isSetting_14 (by omega) (by unfold b01; split <;> omega) rfl
