set_option maxRecDepth 20000 in
set_option maxHeartbeats 2000000 in
theorem kX4_gather_1 {V : Wo} {μ : Mem} {q : Nat} {K : Int} {w tx : Int → Int} {sv kp ln : Int} (hC : CI V K q μ w tx sv kp ln) {x : Int} (hr : inR x) (h : ¬ (0 ≤ x ∧ x < 16)) : XCon V 8 yX4_gather cX4_gather 2 (some .int) [vR q, vI x] (μ) eX (CU V K q w tx sv kp ln μ) := by
  refine xcon_of (ls0 := [vR q, vI x]) (by decide +kernel) rfl (Nat.le_of_ble_eq_true rfl) (Nat.le_of_ble_eq_true rfl) (fun X hV C hF => ?_)
  subst hV
  have C : Ok X RX4 cX4_gather 2 8 := C
  have hS := hC.1
  have hW := CI_SpW hC
  obtain ⟨P0, P1, PN, PS, PT, PH, PR, PB⟩ := id hS
  obtain ⟨QN, QH, Q6, Q7, QB, QR, QA⟩ := id hW
  obtain ⟨-, ⟨cv, ce⟩, ⟨ck1, ck2, ck3⟩, ⟨cs1, cs2, cs3, cs4, cs5, cs6⟩, ⟨cb1, cb2, cb3, cb4⟩, cr⟩ := id hC
  obtain ⟨v0, v1, v2, v3, v4, v5, v6, v7, v8, v9, v10⟩ := id cv
  obtain ⟨e1, e2, e3, e4, e5, e6, e7, e8, e9, e10⟩ := id ce
  obtain ⟨hK, WB, Wc, Wi, Wp, Wh, Ws0, Ws1, Ws2, Wbk, Wls⟩ := id QN
  refine r_iload_n C dX4_gather_0 rfl ?_
  refine r_runI (fun aH aL aj a1 a2 a3 => run_S C hF.2.2.1 (kX4_isBin (i := x) (by omega)) lm_X4_isBin ml_X4_48 sm_X4_isBin (Nat.le_of_ble_eq_true rfl) dX4_gather_1 rfl (Nat.le_of_ble_eq_true rfl) a1 a2 a3) ?_
  rw [b01_f (by omega)]
  refine r_if_ne (tgt := 17) C dX4_gather_4 (by decide) (by omega) (fun c4 => absurd c4 (by omega)) (fun c4 => ?_)
  exact r_throw (E := eX) C (text := "there is no such bin") hF tw_X (by decide +kernel) (by decide) dX4_gather_7 dX4_gather_10 dX4_gather_11 dX4_gather_13 dX4_gather_16 (by decide) (cu0 hC)
set_option maxRecDepth 20000 in
set_option maxHeartbeats 2000000 in
theorem kX4_gather_2 {V : Wo} {μ : Mem} {q : Nat} {K : Int} {w tx : Int → Int} {sv kp ln : Int} (hC : CI V K q μ w tx sv kp ln) {x : Int} (hr : inR x) (h : 0 ≤ x ∧ x < 16) (hh : ¬ (0 < w (6 + x) ∧ w 3 < 20)) : XCon V 8 yX4_gather cX4_gather 2 (some .int) [vR q, vI x] (μ) eS (CU V K q w tx sv kp ln μ) := by
  refine xcon_of (ls0 := [vR q, vI x]) (by decide +kernel) rfl (Nat.le_of_ble_eq_true rfl) (Nat.le_of_ble_eq_true rfl) (fun X hV C hF => ?_)
  subst hV
  have C : Ok X RX4 cX4_gather 2 8 := C
  have hS := hC.1
  have hW := CI_SpW hC
  obtain ⟨P0, P1, PN, PS, PT, PH, PR, PB⟩ := id hS
  obtain ⟨QN, QH, Q6, Q7, QB, QR, QA⟩ := id hW
  obtain ⟨-, ⟨cv, ce⟩, ⟨ck1, ck2, ck3⟩, ⟨cs1, cs2, cs3, cs4, cs5, cs6⟩, ⟨cb1, cb2, cb3, cb4⟩, cr⟩ := id hC
  obtain ⟨v0, v1, v2, v3, v4, v5, v6, v7, v8, v9, v10⟩ := id cv
  obtain ⟨e1, e2, e3, e4, e5, e6, e7, e8, e9, e10⟩ := id ce
  obtain ⟨hK, WB, Wc, Wi, Wp, Wh, Ws0, Ws1, Ws2, Wbk, Wls⟩ := id QN
  refine r_iload_n C dX4_gather_0 rfl ?_
  refine r_runI (fun aH aL aj a1 a2 a3 => run_S C hF.2.2.1 (kX4_isBin (i := x) (by omega)) lm_X4_isBin ml_X4_48 sm_X4_isBin (Nat.le_of_ble_eq_true rfl) dX4_gather_1 rfl (Nat.le_of_ble_eq_true rfl) a1 a2 a3) ?_
  rw [b01_t (by omega)]
  refine r_if_ne (tgt := 17) C dX4_gather_4 (by decide) (by omega) (fun c4 => ?_) (fun c4 => absurd c4 (by omega))
  refine r_aload_n C dX4_gather_17 rfl ?_
  refine gf_X4_10 C P1 dX4_gather_18 ?_
  refine r_iload_n C dX4_gather_21 rfl ?_
  refine r_runI (fun aH aL aj a1 a2 a3 => run_V C hF.2.2.1 (kX3_hasCopyAndRoom PN QN h.1 h.2) lm_X3_hasCopyAndRoom ml_X4_59 im_X3_hasCopyAndRoom se_X3_hasCopyAndRoom PN.2.1 rfl (Nat.le_of_ble_eq_true rfl) dX4_gather_22 rfl (Nat.le_of_ble_eq_true rfl) a1 a2 a3) ?_
  rw [b01_f (by rw [e5 x h.1 h.2, e2]; exact hh)]
  refine r_if_ne (tgt := 38) C dX4_gather_25 (by decide) (by omega) (fun c25 => absurd c25 (by omega)) (fun c25 => ?_)
  exact r_throw (E := eS) C (text := "the bin is empty, or the block is full") hF tw_S (by decide +kernel) (by decide) dX4_gather_28 dX4_gather_31 dX4_gather_32 dX4_gather_34 dX4_gather_37 (by decide) (cu0 hC)
set_option maxRecDepth 20000 in
set_option maxHeartbeats 2000000 in
theorem kX4_insert_1 {V : Wo} {μ : Mem} {q : Nat} {K : Int} {w tx : Int → Int} {sv kp ln : Int} (hC : CI V K q μ w tx sv kp ln) {p : Int} (hr0 : inR p) {x : Int} (hr : inR x) (h : ¬ ((0 ≤ p ∧ p ≤ w 3) ∧ (0 ≤ x ∧ x < 16))) : XCon V 8 yX4_insert cX4_insert 3 (some .int) [vR q, vI p, vI x] (μ) eX (CU V K q w tx sv kp ln μ) := by
  refine xcon_of (ls0 := [vR q, vI p, vI x]) (by decide +kernel) rfl (Nat.le_of_ble_eq_true rfl) (Nat.le_of_ble_eq_true rfl) (fun X hV C hF => ?_)
  subst hV
  have C : Ok X RX4 cX4_insert 3 8 := C
  have hS := hC.1
  have hW := CI_SpW hC
  obtain ⟨P0, P1, PN, PS, PT, PH, PR, PB⟩ := id hS
  obtain ⟨QN, QH, Q6, Q7, QB, QR, QA⟩ := id hW
  obtain ⟨-, ⟨cv, ce⟩, ⟨ck1, ck2, ck3⟩, ⟨cs1, cs2, cs3, cs4, cs5, cs6⟩, ⟨cb1, cb2, cb3, cb4⟩, cr⟩ := id hC
  obtain ⟨v0, v1, v2, v3, v4, v5, v6, v7, v8, v9, v10⟩ := id cv
  obtain ⟨e1, e2, e3, e4, e5, e6, e7, e8, e9, e10⟩ := id ce
  obtain ⟨hK, WB, Wc, Wi, Wp, Wh, Ws0, Ws1, Ws2, Wbk, Wls⟩ := id QN
  refine r_iload_n C dX4_insert_0 rfl ?_
  refine r_if_lt (tgt := 25) C dX4_insert_1 (by decide) (by omega) (fun c1 => ?_) (fun c1 => ?_)
  · have _ := c1
    exact r_throw (E := eX) C (text := "there is no such place or bin") hF tw_X (by decide +kernel) (by decide) dX4_insert_25 dX4_insert_28 dX4_insert_29 dX4_insert_31 dX4_insert_34 (by decide) (cu0 hC)
  · have _ := c1
    refine r_iload_n C dX4_insert_4 rfl ?_
    refine r_aload_n C dX4_insert_5 rfl ?_
    refine gf_X4_10 C P1 dX4_insert_6 ?_
    refine gf_X4_71 C PN.2.1 dX4_insert_9 ?_
    refine gf_X4_75 C PN.2.2.1.2.1 dX4_insert_12 ?_
    refine r_icmp_gt (tgt := 25) C dX4_insert_15 (by decide) (by omega) (by omega) (fun c15 => ?_) (fun c15 => ?_)
    · have _ := c15
      exact r_throw (E := eX) C (text := "there is no such place or bin") hF tw_X (by decide +kernel) (by decide) dX4_insert_25 dX4_insert_28 dX4_insert_29 dX4_insert_31 dX4_insert_34 (by decide) (cu0 hC)
    · have _ := c15
      refine r_iload_n C dX4_insert_18 rfl ?_
      refine r_runI (fun aH aL aj a1 a2 a3 => run_S C hF.2.2.1 (kX4_isBin (i := x) (by omega)) lm_X4_isBin ml_X4_48 sm_X4_isBin (Nat.le_of_ble_eq_true rfl) dX4_insert_19 rfl (Nat.le_of_ble_eq_true rfl) a1 a2 a3) ?_
      rw [b01_f (by omega)]
      refine r_if_ne (tgt := 35) C dX4_insert_22 (by decide) (by omega) (fun c22 => absurd c22 (by omega)) (fun c22 => ?_)
      exact r_throw (E := eX) C (text := "there is no such place or bin") hF tw_X (by decide +kernel) (by decide) dX4_insert_25 dX4_insert_28 dX4_insert_29 dX4_insert_31 dX4_insert_34 (by decide) (cu0 hC)
set_option maxRecDepth 20000 in
set_option maxHeartbeats 2000000 in
theorem kX4_insert_2 {V : Wo} {μ : Mem} {q : Nat} {K : Int} {w tx : Int → Int} {sv kp ln : Int} (hC : CI V K q μ w tx sv kp ln) {p : Int} (hr0 : inR p) {x : Int} (hr : inR x) (h0 : 0 ≤ p ∧ p ≤ w 3) (h : 0 ≤ x ∧ x < 16) (hh : ¬ (0 < w (6 + x) ∧ w 3 < 20)) : XCon V 8 yX4_insert cX4_insert 3 (some .int) [vR q, vI p, vI x] (μ) eS (CU V K q w tx sv kp ln μ) := by
  refine xcon_of (ls0 := [vR q, vI p, vI x]) (by decide +kernel) rfl (Nat.le_of_ble_eq_true rfl) (Nat.le_of_ble_eq_true rfl) (fun X hV C hF => ?_)
  subst hV
  have C : Ok X RX4 cX4_insert 3 8 := C
  have hS := hC.1
  have hW := CI_SpW hC
  obtain ⟨P0, P1, PN, PS, PT, PH, PR, PB⟩ := id hS
  obtain ⟨QN, QH, Q6, Q7, QB, QR, QA⟩ := id hW
  obtain ⟨-, ⟨cv, ce⟩, ⟨ck1, ck2, ck3⟩, ⟨cs1, cs2, cs3, cs4, cs5, cs6⟩, ⟨cb1, cb2, cb3, cb4⟩, cr⟩ := id hC
  obtain ⟨v0, v1, v2, v3, v4, v5, v6, v7, v8, v9, v10⟩ := id cv
  obtain ⟨e1, e2, e3, e4, e5, e6, e7, e8, e9, e10⟩ := id ce
  obtain ⟨hK, WB, Wc, Wi, Wp, Wh, Ws0, Ws1, Ws2, Wbk, Wls⟩ := id QN
  refine r_iload_n C dX4_insert_0 rfl ?_
  refine r_if_lt (tgt := 25) C dX4_insert_1 (by decide) (by omega) (fun c1 => absurd c1 (by omega)) (fun c1 => ?_)
  refine r_iload_n C dX4_insert_4 rfl ?_
  refine r_aload_n C dX4_insert_5 rfl ?_
  refine gf_X4_10 C P1 dX4_insert_6 ?_
  refine gf_X4_71 C PN.2.1 dX4_insert_9 ?_
  refine gf_X4_75 C PN.2.2.1.2.1 dX4_insert_12 ?_
  refine r_icmp_gt (tgt := 25) C dX4_insert_15 (by decide) (by omega) (by omega) (fun c15 => absurd c15 (by omega)) (fun c15 => ?_)
  refine r_iload_n C dX4_insert_18 rfl ?_
  refine r_runI (fun aH aL aj a1 a2 a3 => run_S C hF.2.2.1 (kX4_isBin (i := x) (by omega)) lm_X4_isBin ml_X4_48 sm_X4_isBin (Nat.le_of_ble_eq_true rfl) dX4_insert_19 rfl (Nat.le_of_ble_eq_true rfl) a1 a2 a3) ?_
  rw [b01_t (by omega)]
  refine r_if_ne (tgt := 35) C dX4_insert_22 (by decide) (by omega) (fun c22 => ?_) (fun c22 => absurd c22 (by omega))
  refine r_aload_n C dX4_insert_35 rfl ?_
  refine gf_X4_10 C P1 dX4_insert_36 ?_
  refine r_iload_n C dX4_insert_39 rfl ?_
  refine r_runI (fun aH aL aj a1 a2 a3 => run_V C hF.2.2.1 (kX3_hasCopyAndRoom PN QN h.1 h.2) lm_X3_hasCopyAndRoom ml_X4_59 im_X3_hasCopyAndRoom se_X3_hasCopyAndRoom PN.2.1 rfl (Nat.le_of_ble_eq_true rfl) dX4_insert_40 rfl (Nat.le_of_ble_eq_true rfl) a1 a2 a3) ?_
  rw [b01_f (by rw [e5 x h.1 h.2, e2]; exact hh)]
  refine r_if_ne (tgt := 56) C dX4_insert_43 (by decide) (by omega) (fun c43 => absurd c43 (by omega)) (fun c43 => ?_)
  exact r_throw (E := eS) C (text := "the bin is empty, or the block is full") hF tw_S (by decide +kernel) (by decide) dX4_insert_46 dX4_insert_49 dX4_insert_50 dX4_insert_52 dX4_insert_55 (by decide) (cu0 hC)
set_option maxRecDepth 20000 in
set_option maxHeartbeats 2000000 in
theorem kX4_pull_1 {V : Wo} {μ : Mem} {q : Nat} {K : Int} {w tx : Int → Int} {sv kp ln : Int} (hC : CI V K q μ w tx sv kp ln) {p : Int} (hr0 : inR p) (h : ¬ (0 ≤ p ∧ p < w 3)) : XCon V 8 yX4_pull cX4_pull 2 (some .int) [vR q, vI p] (μ) eX (CU V K q w tx sv kp ln μ) := by
  refine xcon_of (ls0 := [vR q, vI p]) (by decide +kernel) rfl (Nat.le_of_ble_eq_true rfl) (Nat.le_of_ble_eq_true rfl) (fun X hV C hF => ?_)
  subst hV
  have C : Ok X RX4 cX4_pull 2 8 := C
  have hS := hC.1
  have hW := CI_SpW hC
  obtain ⟨P0, P1, PN, PS, PT, PH, PR, PB⟩ := id hS
  obtain ⟨QN, QH, Q6, Q7, QB, QR, QA⟩ := id hW
  obtain ⟨-, ⟨cv, ce⟩, ⟨ck1, ck2, ck3⟩, ⟨cs1, cs2, cs3, cs4, cs5, cs6⟩, ⟨cb1, cb2, cb3, cb4⟩, cr⟩ := id hC
  obtain ⟨v0, v1, v2, v3, v4, v5, v6, v7, v8, v9, v10⟩ := id cv
  obtain ⟨e1, e2, e3, e4, e5, e6, e7, e8, e9, e10⟩ := id ce
  obtain ⟨hK, WB, Wc, Wi, Wp, Wh, Ws0, Ws1, Ws2, Wbk, Wls⟩ := id QN
  refine r_aload_n C dX4_pull_0 rfl ?_
  refine gf_X4_10 C P1 dX4_pull_1 ?_
  refine gf_X4_71 C PN.2.1 dX4_pull_4 ?_
  refine r_iload_n C dX4_pull_7 rfl ?_
  refine r_runI (fun aH aL aj a1 a2 a3 => run_V C hF.2.2.1 (kX0_hasPlace PN.2.2.1 WB (p := p) (by omega)) lm_X0_hasPlace ml_X4_86 im_X0_hasPlace se_X0_hasPlace PN.2.2.1.2.1 rfl (Nat.le_of_ble_eq_true rfl) dX4_pull_8 rfl (Nat.le_of_ble_eq_true rfl) a1 a2 a3) ?_
  rw [b01_f (by omega)]
  refine r_if_ne (tgt := 24) C dX4_pull_11 (by decide) (by omega) (fun c11 => absurd c11 (by omega)) (fun c11 => ?_)
  exact r_throw (E := eX) C (text := "there is no such place") hF tw_X (by decide +kernel) (by decide) dX4_pull_14 dX4_pull_17 dX4_pull_18 dX4_pull_20 dX4_pull_23 (by decide) (cu0 hC)
set_option maxRecDepth 20000 in
set_option maxHeartbeats 2000000 in
theorem kX4_flip_1 {V : Wo} {μ : Mem} {q : Nat} {K : Int} {w tx : Int → Int} {sv kp ln : Int} (hC : CI V K q μ w tx sv kp ln) {p : Int} (hr0 : inR p) (h : ¬ (0 ≤ p ∧ p < w 3)) : XCon V 8 yX4_flip cX4_flip 2 (some .int) [vR q, vI p] (μ) eX (CU V K q w tx sv kp ln μ) := by
  refine xcon_of (ls0 := [vR q, vI p]) (by decide +kernel) rfl (Nat.le_of_ble_eq_true rfl) (Nat.le_of_ble_eq_true rfl) (fun X hV C hF => ?_)
  subst hV
  have C : Ok X RX4 cX4_flip 2 8 := C
  have hS := hC.1
  have hW := CI_SpW hC
  obtain ⟨P0, P1, PN, PS, PT, PH, PR, PB⟩ := id hS
  obtain ⟨QN, QH, Q6, Q7, QB, QR, QA⟩ := id hW
  obtain ⟨-, ⟨cv, ce⟩, ⟨ck1, ck2, ck3⟩, ⟨cs1, cs2, cs3, cs4, cs5, cs6⟩, ⟨cb1, cb2, cb3, cb4⟩, cr⟩ := id hC
  obtain ⟨v0, v1, v2, v3, v4, v5, v6, v7, v8, v9, v10⟩ := id cv
  obtain ⟨e1, e2, e3, e4, e5, e6, e7, e8, e9, e10⟩ := id ce
  obtain ⟨hK, WB, Wc, Wi, Wp, Wh, Ws0, Ws1, Ws2, Wbk, Wls⟩ := id QN
  refine r_aload_n C dX4_flip_0 rfl ?_
  refine gf_X4_10 C P1 dX4_flip_1 ?_
  refine gf_X4_71 C PN.2.1 dX4_flip_4 ?_
  refine r_iload_n C dX4_flip_7 rfl ?_
  refine r_runI (fun aH aL aj a1 a2 a3 => run_V C hF.2.2.1 (kX0_hasPlace PN.2.2.1 WB (p := p) (by omega)) lm_X0_hasPlace ml_X4_86 im_X0_hasPlace se_X0_hasPlace PN.2.2.1.2.1 rfl (Nat.le_of_ble_eq_true rfl) dX4_flip_8 rfl (Nat.le_of_ble_eq_true rfl) a1 a2 a3) ?_
  rw [b01_f (by omega)]
  refine r_if_ne (tgt := 24) C dX4_flip_11 (by decide) (by omega) (fun c11 => absurd c11 (by omega)) (fun c11 => ?_)
  exact r_throw (E := eX) C (text := "there is no such place") hF tw_X (by decide +kernel) (by decide) dX4_flip_14 dX4_flip_17 dX4_flip_18 dX4_flip_20 dX4_flip_23 (by decide) (cu0 hC)
set_option maxRecDepth 20000 in
set_option maxHeartbeats 2000000 in
theorem kX4_move_1 {V : Wo} {μ : Mem} {q : Nat} {K : Int} {w tx : Int → Int} {sv kp ln : Int} (hC : CI V K q μ w tx sv kp ln) {p : Int} (hr0 : inR p) {r : Int} (hr1 : inR r) (h : ¬ ((0 ≤ p ∧ p < w 3) ∧ (0 ≤ r ∧ r < w 3))) : XCon V 8 yX4_move cX4_move 3 (some .int) [vR q, vI p, vI r] (μ) eX (CU V K q w tx sv kp ln μ) := by
  refine xcon_of (ls0 := [vR q, vI p, vI r]) (by decide +kernel) rfl (Nat.le_of_ble_eq_true rfl) (Nat.le_of_ble_eq_true rfl) (fun X hV C hF => ?_)
  subst hV
  have C : Ok X RX4 cX4_move 3 8 := C
  have hS := hC.1
  have hW := CI_SpW hC
  obtain ⟨P0, P1, PN, PS, PT, PH, PR, PB⟩ := id hS
  obtain ⟨QN, QH, Q6, Q7, QB, QR, QA⟩ := id hW
  obtain ⟨-, ⟨cv, ce⟩, ⟨ck1, ck2, ck3⟩, ⟨cs1, cs2, cs3, cs4, cs5, cs6⟩, ⟨cb1, cb2, cb3, cb4⟩, cr⟩ := id hC
  obtain ⟨v0, v1, v2, v3, v4, v5, v6, v7, v8, v9, v10⟩ := id cv
  obtain ⟨e1, e2, e3, e4, e5, e6, e7, e8, e9, e10⟩ := id ce
  obtain ⟨hK, WB, Wc, Wi, Wp, Wh, Ws0, Ws1, Ws2, Wbk, Wls⟩ := id QN
  by_cases h0 : 0 ≤ p ∧ p < w 3
  · skip
    refine r_aload_n C dX4_move_0 rfl ?_
    refine gf_X4_10 C P1 dX4_move_1 ?_
    refine gf_X4_71 C PN.2.1 dX4_move_4 ?_
    refine r_iload_n C dX4_move_7 rfl ?_
    refine r_runI (fun aH aL aj a1 a2 a3 => run_V C hF.2.2.1 (kX0_hasPlace PN.2.2.1 WB (p := p) (by omega)) lm_X0_hasPlace ml_X4_86 im_X0_hasPlace se_X0_hasPlace PN.2.2.1.2.1 rfl (Nat.le_of_ble_eq_true rfl) dX4_move_8 rfl (Nat.le_of_ble_eq_true rfl) a1 a2 a3) ?_
    rw [b01_t (by omega)]
    refine r_if_eq (tgt := 28) C dX4_move_11 (by decide) (by omega) (fun c11 => absurd c11 (by omega)) (fun c11 => ?_)
    refine r_aload_n C dX4_move_14 rfl ?_
    refine gf_X4_10 C P1 dX4_move_15 ?_
    refine gf_X4_71 C PN.2.1 dX4_move_18 ?_
    refine r_iload_n C dX4_move_21 rfl ?_
    refine r_runI (fun aH aL aj a1 a2 a3 => run_V C hF.2.2.1 (kX0_hasPlace PN.2.2.1 WB (p := r) (by omega)) lm_X0_hasPlace ml_X4_86 im_X0_hasPlace se_X0_hasPlace PN.2.2.1.2.1 rfl (Nat.le_of_ble_eq_true rfl) dX4_move_22 rfl (Nat.le_of_ble_eq_true rfl) a1 a2 a3) ?_
    rw [b01_f (by omega)]
    refine r_if_ne (tgt := 38) C dX4_move_25 (by decide) (by omega) (fun c25 => absurd c25 (by omega)) (fun c25 => ?_)
    exact r_throw (E := eX) C (text := "there is no such place in the block") hF tw_X (by decide +kernel) (by decide) dX4_move_28 dX4_move_31 dX4_move_32 dX4_move_34 dX4_move_37 (by decide) (cu0 hC)
  · skip
    refine r_aload_n C dX4_move_0 rfl ?_
    refine gf_X4_10 C P1 dX4_move_1 ?_
    refine gf_X4_71 C PN.2.1 dX4_move_4 ?_
    refine r_iload_n C dX4_move_7 rfl ?_
    refine r_runI (fun aH aL aj a1 a2 a3 => run_V C hF.2.2.1 (kX0_hasPlace PN.2.2.1 WB (p := p) (by omega)) lm_X0_hasPlace ml_X4_86 im_X0_hasPlace se_X0_hasPlace PN.2.2.1.2.1 rfl (Nat.le_of_ble_eq_true rfl) dX4_move_8 rfl (Nat.le_of_ble_eq_true rfl) a1 a2 a3) ?_
    rw [b01_f (by omega)]
    refine r_if_eq (tgt := 28) C dX4_move_11 (by decide) (by omega) (fun c11 => ?_) (fun c11 => absurd c11 (by omega))
    exact r_throw (E := eX) C (text := "there is no such place in the block") hF tw_X (by decide +kernel) (by decide) dX4_move_28 dX4_move_31 dX4_move_32 dX4_move_34 dX4_move_37 (by decide) (cu0 hC)
set_option maxRecDepth 20000 in
set_option maxHeartbeats 2000000 in
theorem kX4_bind_1 {V : Wo} {μ : Mem} {q : Nat} {K : Int} {w tx : Int → Int} {sv kp ln : Int} (hC : CI V K q μ w tx sv kp ln) (h : flt (w 0) (vN w) (vD w) (w 3) ≠ 0) : XCon V 8 yX4_bind cX4_bind 1 (some .int) [vR q] (μ) eS (CU V K q w tx sv kp ln μ) := by
  refine xcon_of (ls0 := [vR q]) (by decide +kernel) rfl (Nat.le_of_ble_eq_true rfl) (Nat.le_of_ble_eq_true rfl) (fun X hV C hF => ?_)
  subst hV
  have C : Ok X RX4 cX4_bind 1 8 := C
  have hS := hC.1
  have hW := CI_SpW hC
  obtain ⟨P0, P1, PN, PS, PT, PH, PR, PB⟩ := id hS
  obtain ⟨QN, QH, Q6, Q7, QB, QR, QA⟩ := id hW
  obtain ⟨-, ⟨cv, ce⟩, ⟨ck1, ck2, ck3⟩, ⟨cs1, cs2, cs3, cs4, cs5, cs6⟩, ⟨cb1, cb2, cb3, cb4⟩, cr⟩ := id hC
  obtain ⟨v0, v1, v2, v3, v4, v5, v6, v7, v8, v9, v10⟩ := id cv
  obtain ⟨e1, e2, e3, e4, e5, e6, e7, e8, e9, e10⟩ := id ce
  obtain ⟨hK, WB, Wc, Wi, Wp, Wh, Ws0, Ws1, Ws2, Wbk, Wls⟩ := id QN
  refine r_aload_n C dX4_bind_0 rfl ?_
  refine gf_X4_10 C P1 dX4_bind_1 ?_
  refine r_runI (fun aH aL aj a1 a2 a3 => run_V C hF.2.2.1 (kX3_fault PN QN) lm_X3_fault ml_X4_111 im_X3_fault se_X3_fault PN.2.1 rfl (Nat.le_of_ble_eq_true rfl) dX4_bind_4 rfl (Nat.le_of_ble_eq_true rfl) a1 a2 a3) ?_
  rw [StE_flt ce]
  have hfl := flt_r (w 0) (vN w) (vD w) (w 3)
  refine r_if_eq (tgt := 20) C dX4_bind_7 (by decide) (by omega) (fun c7 => absurd c7 (by omega)) (fun c7 => ?_)
  exact r_throw (E := eS) C (text := "the block has a fault") hF tw_S (by decide +kernel) (by decide) dX4_bind_10 dX4_bind_13 dX4_bind_14 dX4_bind_16 dX4_bind_19 (by decide) (cu0 hC)
set_option maxRecDepth 20000 in
set_option maxHeartbeats 2000000 in
theorem kX4_print_1 {V : Wo} {μ : Mem} {q : Nat} {K : Int} {w tx : Int → Int} {sv kp ln : Int} (hC : CI V K q μ w tx sv kp ln) {x : Int} (hr : inR x) {c : Int} (hc : inR c) (h : ¬ (0 ≤ x ∧ x < 16)) : XCon V 8 yX4_print cX4_print 3 (some .int) [vR q, vI x, vI c] (μ) eX (CU V K q w tx sv kp ln μ) := by
  refine xcon_of (ls0 := [vR q, vI x, vI c]) (by decide +kernel) rfl (Nat.le_of_ble_eq_true rfl) (Nat.le_of_ble_eq_true rfl) (fun X hV C hF => ?_)
  subst hV
  have C : Ok X RX4 cX4_print 3 8 := C
  have hS := hC.1
  have hW := CI_SpW hC
  obtain ⟨P0, P1, PN, PS, PT, PH, PR, PB⟩ := id hS
  obtain ⟨QN, QH, Q6, Q7, QB, QR, QA⟩ := id hW
  obtain ⟨-, ⟨cv, ce⟩, ⟨ck1, ck2, ck3⟩, ⟨cs1, cs2, cs3, cs4, cs5, cs6⟩, ⟨cb1, cb2, cb3, cb4⟩, cr⟩ := id hC
  obtain ⟨v0, v1, v2, v3, v4, v5, v6, v7, v8, v9, v10⟩ := id cv
  obtain ⟨e1, e2, e3, e4, e5, e6, e7, e8, e9, e10⟩ := id ce
  obtain ⟨hK, WB, Wc, Wi, Wp, Wh, Ws0, Ws1, Ws2, Wbk, Wls⟩ := id QN
  refine r_iload_n C dX4_print_0 rfl ?_
  refine r_runI (fun aH aL aj a1 a2 a3 => run_S C hF.2.2.1 (kX4_isBin (i := x) (by omega)) lm_X4_isBin ml_X4_48 sm_X4_isBin (Nat.le_of_ble_eq_true rfl) dX4_print_1 rfl (Nat.le_of_ble_eq_true rfl) a1 a2 a3) ?_
  rw [b01_f (by omega)]
  refine r_if_ne (tgt := 17) C dX4_print_4 (by decide) (by omega) (fun c4 => absurd c4 (by omega)) (fun c4 => ?_)
  exact r_throw (E := eX) C (text := "there is no such bin") hF tw_X (by decide +kernel) (by decide) dX4_print_7 dX4_print_10 dX4_print_11 dX4_print_13 dX4_print_16 (by decide) (cu0 hC)
set_option maxRecDepth 20000 in
set_option maxHeartbeats 2000000 in
theorem kX4_print_2 {V : Wo} {μ : Mem} {q : Nat} {K : Int} {w tx : Int → Int} {sv kp ln : Int} (hC : CI V K q μ w tx sv kp ln) {x : Int} (hr : inR x) {c : Int} (hc : inR c) (h : 0 ≤ x ∧ x < 16) (h2 : ¬ (1 ≤ c ∧ c ≤ 20)) : XCon V 8 yX4_print cX4_print 3 (some .int) [vR q, vI x, vI c] (μ) eA (CU V K q w tx sv kp ln μ) := by
  refine xcon_of (ls0 := [vR q, vI x, vI c]) (by decide +kernel) rfl (Nat.le_of_ble_eq_true rfl) (Nat.le_of_ble_eq_true rfl) (fun X hV C hF => ?_)
  subst hV
  have C : Ok X RX4 cX4_print 3 8 := C
  have hS := hC.1
  have hW := CI_SpW hC
  obtain ⟨P0, P1, PN, PS, PT, PH, PR, PB⟩ := id hS
  obtain ⟨QN, QH, Q6, Q7, QB, QR, QA⟩ := id hW
  obtain ⟨-, ⟨cv, ce⟩, ⟨ck1, ck2, ck3⟩, ⟨cs1, cs2, cs3, cs4, cs5, cs6⟩, ⟨cb1, cb2, cb3, cb4⟩, cr⟩ := id hC
  obtain ⟨v0, v1, v2, v3, v4, v5, v6, v7, v8, v9, v10⟩ := id cv
  obtain ⟨e1, e2, e3, e4, e5, e6, e7, e8, e9, e10⟩ := id ce
  obtain ⟨hK, WB, Wc, Wi, Wp, Wh, Ws0, Ws1, Ws2, Wbk, Wls⟩ := id QN
  refine r_iload_n C dX4_print_0 rfl ?_
  refine r_runI (fun aH aL aj a1 a2 a3 => run_S C hF.2.2.1 (kX4_isBin (i := x) (by omega)) lm_X4_isBin ml_X4_48 sm_X4_isBin (Nat.le_of_ble_eq_true rfl) dX4_print_1 rfl (Nat.le_of_ble_eq_true rfl) a1 a2 a3) ?_
  rw [b01_t (by omega)]
  refine r_if_ne (tgt := 17) C dX4_print_4 (by decide) (by omega) (fun c4 => ?_) (fun c4 => absurd c4 (by omega))
  refine r_iload_n C dX4_print_17 rfl ?_
  refine r_iconst C dX4_print_18 ?_
  refine r_icmp_lt (tgt := 28) C dX4_print_19 (by decide) (by omega) (by omega) (fun c19 => ?_) (fun c19 => ?_)
  · have _ := c19
    exact r_throw (E := eA) C (text := "copies is out of range") hF tw_A (by decide +kernel) (by decide) dX4_print_28 dX4_print_31 dX4_print_32 dX4_print_34 dX4_print_37 (by decide) (cu0 hC)
  · have _ := c19
    refine r_iload_n C dX4_print_22 rfl ?_
    refine r_bipush C dX4_print_23 rfl ?_
    refine r_icmp_le (tgt := 38) C dX4_print_25 (by decide) (by omega) (by omega) (fun c25 => absurd c25 (by omega)) (fun c25 => ?_)
    exact r_throw (E := eA) C (text := "copies is out of range") hF tw_A (by decide +kernel) (by decide) dX4_print_28 dX4_print_31 dX4_print_32 dX4_print_34 dX4_print_37 (by decide) (cu0 hC)
set_option maxRecDepth 20000 in
set_option maxHeartbeats 2000000 in
theorem kX4_print_3 {V : Wo} {μ : Mem} {q : Nat} {K : Int} {w tx : Int → Int} {sv kp ln : Int} (hC : CI V K q μ w tx sv kp ln) {x : Int} (hr : inR x) {c : Int} (hc : inR c) (h : 0 ≤ x ∧ x < 16) (h2 : 1 ≤ c ∧ c ≤ 20) (h3 : ¬ w (6 + x) + c ≤ 99) : XCon V 8 yX4_print cX4_print 3 (some .int) [vR q, vI x, vI c] (μ) eS (CU V K q w tx sv kp ln μ) := by
  refine xcon_of (ls0 := [vR q, vI x, vI c]) (by decide +kernel) rfl (Nat.le_of_ble_eq_true rfl) (Nat.le_of_ble_eq_true rfl) (fun X hV C hF => ?_)
  subst hV
  have C : Ok X RX4 cX4_print 3 8 := C
  have hS := hC.1
  have hW := CI_SpW hC
  obtain ⟨P0, P1, PN, PS, PT, PH, PR, PB⟩ := id hS
  obtain ⟨QN, QH, Q6, Q7, QB, QR, QA⟩ := id hW
  obtain ⟨-, ⟨cv, ce⟩, ⟨ck1, ck2, ck3⟩, ⟨cs1, cs2, cs3, cs4, cs5, cs6⟩, ⟨cb1, cb2, cb3, cb4⟩, cr⟩ := id hC
  obtain ⟨v0, v1, v2, v3, v4, v5, v6, v7, v8, v9, v10⟩ := id cv
  obtain ⟨e1, e2, e3, e4, e5, e6, e7, e8, e9, e10⟩ := id ce
  obtain ⟨hK, WB, Wc, Wi, Wp, Wh, Ws0, Ws1, Ws2, Wbk, Wls⟩ := id QN
  refine r_iload_n C dX4_print_0 rfl ?_
  refine r_runI (fun aH aL aj a1 a2 a3 => run_S C hF.2.2.1 (kX4_isBin (i := x) (by omega)) lm_X4_isBin ml_X4_48 sm_X4_isBin (Nat.le_of_ble_eq_true rfl) dX4_print_1 rfl (Nat.le_of_ble_eq_true rfl) a1 a2 a3) ?_
  rw [b01_t (by omega)]
  refine r_if_ne (tgt := 17) C dX4_print_4 (by decide) (by omega) (fun c4 => ?_) (fun c4 => absurd c4 (by omega))
  refine r_iload_n C dX4_print_17 rfl ?_
  refine r_iconst C dX4_print_18 ?_
  refine r_icmp_lt (tgt := 28) C dX4_print_19 (by decide) (by omega) (by omega) (fun c19 => absurd c19 (by omega)) (fun c19 => ?_)
  refine r_iload_n C dX4_print_22 rfl ?_
  refine r_bipush C dX4_print_23 rfl ?_
  refine r_icmp_le (tgt := 38) C dX4_print_25 (by decide) (by omega) (by omega) (fun c25 => ?_) (fun c25 => absurd c25 (by omega))
  refine r_aload_n C dX4_print_38 rfl ?_
  refine gf_X4_10 C P1 dX4_print_39 ?_
  refine gf_X4_127 C PN.2.1 dX4_print_42 ?_
  refine r_iload_n C dX4_print_45 rfl ?_
  refine r_runI (fun aH aL aj a1 a2 a3 => run_S C hF.2.2.1 (kX4_at PN.2.2.2.1 (by decide) h.1 (by omega)) lm_X4_at ml_X4_130 sm_X4_at (Nat.le_of_ble_eq_true rfl) dX4_print_46 rfl (Nat.le_of_ble_eq_true rfl) a1 a2 a3) ?_
  rw [e5 x h.1 h.2]
  have v7x := v7 x h.1 (by omega)
  refine r_iload_n C dX4_print_49 rfl ?_
  refine r_iadd C dX4_print_50 ?_
  refine r_bipush C dX4_print_51 rfl ?_
  refine r_icmp_le (tgt := 66) C dX4_print_53 (by decide) (by omega) (by omega) (fun c53 => absurd c53 (by omega)) (fun c53 => ?_)
  exact r_throw (E := eS) C (text := "the bin would have too many copies") hF tw_S (by decide +kernel) (by decide) dX4_print_56 dX4_print_59 dX4_print_60 dX4_print_62 dX4_print_65 (by decide) (cu0 hC)
set_option maxRecDepth 20000 in
set_option maxHeartbeats 2000000 in
theorem kX4_punch_1 {V : Wo} {μ : Mem} {q : Nat} {K : Int} {w tx : Int → Int} {sv kp ln : Int} (hC : CI V K q μ w tx sv kp ln) {x : Int} (hr : inR x) {c : Int} (hc : inR c) (h : ¬ (0 ≤ x ∧ x < 16)) : XCon V 8 yX4_punch cX4_punch 4 (some .int) [vR q, vI x, vI c] (μ) eX (CU V K q w tx sv kp ln μ) := by
  refine xcon_of (ls0 := [vR q, vI x, vI c, vU]) (by decide +kernel) rfl (Nat.le_of_ble_eq_true rfl) (Nat.le_of_ble_eq_true rfl) (fun X hV C hF => ?_)
  subst hV
  have C : Ok X RX4 cX4_punch 4 8 := C
  have hS := hC.1
  have hW := CI_SpW hC
  obtain ⟨P0, P1, PN, PS, PT, PH, PR, PB⟩ := id hS
  obtain ⟨QN, QH, Q6, Q7, QB, QR, QA⟩ := id hW
  obtain ⟨-, ⟨cv, ce⟩, ⟨ck1, ck2, ck3⟩, ⟨cs1, cs2, cs3, cs4, cs5, cs6⟩, ⟨cb1, cb2, cb3, cb4⟩, cr⟩ := id hC
  obtain ⟨v0, v1, v2, v3, v4, v5, v6, v7, v8, v9, v10⟩ := id cv
  obtain ⟨e1, e2, e3, e4, e5, e6, e7, e8, e9, e10⟩ := id ce
  obtain ⟨hK, WB, Wc, Wi, Wp, Wh, Ws0, Ws1, Ws2, Wbk, Wls⟩ := id QN
  refine r_iload_n C dX4_punch_0 rfl ?_
  refine r_runI (fun aH aL aj a1 a2 a3 => run_S C hF.2.2.1 (kX4_isBin (i := x) (by omega)) lm_X4_isBin ml_X4_48 sm_X4_isBin (Nat.le_of_ble_eq_true rfl) dX4_punch_1 rfl (Nat.le_of_ble_eq_true rfl) a1 a2 a3) ?_
  rw [b01_f (by omega)]
  refine r_if_ne (tgt := 17) C dX4_punch_4 (by decide) (by omega) (fun c4 => absurd c4 (by omega)) (fun c4 => ?_)
  exact r_throw (E := eX) C (text := "there is no such bin") hF tw_X (by decide +kernel) (by decide) dX4_punch_7 dX4_punch_10 dX4_punch_11 dX4_punch_13 dX4_punch_16 (by decide) (cu0 hC)
set_option maxRecDepth 20000 in
set_option maxHeartbeats 2000000 in
theorem kX4_punch_2 {V : Wo} {μ : Mem} {q : Nat} {K : Int} {w tx : Int → Int} {sv kp ln : Int} (hC : CI V K q μ w tx sv kp ln) {x : Int} (hr : inR x) {c : Int} (hc : inR c) (h : 0 ≤ x ∧ x < 16) (h2 : ¬ (1 ≤ c ∧ c ≤ 31)) : XCon V 8 yX4_punch cX4_punch 4 (some .int) [vR q, vI x, vI c] (μ) eA (CU V K q w tx sv kp ln μ) := by
  refine xcon_of (ls0 := [vR q, vI x, vI c, vU]) (by decide +kernel) rfl (Nat.le_of_ble_eq_true rfl) (Nat.le_of_ble_eq_true rfl) (fun X hV C hF => ?_)
  subst hV
  have C : Ok X RX4 cX4_punch 4 8 := C
  have hS := hC.1
  have hW := CI_SpW hC
  obtain ⟨P0, P1, PN, PS, PT, PH, PR, PB⟩ := id hS
  obtain ⟨QN, QH, Q6, Q7, QB, QR, QA⟩ := id hW
  obtain ⟨-, ⟨cv, ce⟩, ⟨ck1, ck2, ck3⟩, ⟨cs1, cs2, cs3, cs4, cs5, cs6⟩, ⟨cb1, cb2, cb3, cb4⟩, cr⟩ := id hC
  obtain ⟨v0, v1, v2, v3, v4, v5, v6, v7, v8, v9, v10⟩ := id cv
  obtain ⟨e1, e2, e3, e4, e5, e6, e7, e8, e9, e10⟩ := id ce
  obtain ⟨hK, WB, Wc, Wi, Wp, Wh, Ws0, Ws1, Ws2, Wbk, Wls⟩ := id QN
  refine r_iload_n C dX4_punch_0 rfl ?_
  refine r_runI (fun aH aL aj a1 a2 a3 => run_S C hF.2.2.1 (kX4_isBin (i := x) (by omega)) lm_X4_isBin ml_X4_48 sm_X4_isBin (Nat.le_of_ble_eq_true rfl) dX4_punch_1 rfl (Nat.le_of_ble_eq_true rfl) a1 a2 a3) ?_
  rw [b01_t (by omega)]
  refine r_if_ne (tgt := 17) C dX4_punch_4 (by decide) (by omega) (fun c4 => ?_) (fun c4 => absurd c4 (by omega))
  refine r_iload_n C dX4_punch_17 rfl ?_
  refine r_iconst C dX4_punch_18 ?_
  refine r_icmp_lt (tgt := 28) C dX4_punch_19 (by decide) (by omega) (by omega) (fun c19 => ?_) (fun c19 => ?_)
  · have _ := c19
    exact r_throw (E := eA) C (text := "holes is out of range") hF tw_A (by decide +kernel) (by decide) dX4_punch_28 dX4_punch_31 dX4_punch_32 dX4_punch_34 dX4_punch_37 (by decide) (cu0 hC)
  · have _ := c19
    refine r_iload_n C dX4_punch_22 rfl ?_
    refine r_bipush C dX4_punch_23 rfl ?_
    refine r_icmp_le (tgt := 38) C dX4_punch_25 (by decide) (by omega) (by omega) (fun c25 => absurd c25 (by omega)) (fun c25 => ?_)
    exact r_throw (E := eA) C (text := "holes is out of range") hF tw_A (by decide +kernel) (by decide) dX4_punch_28 dX4_punch_31 dX4_punch_32 dX4_punch_34 dX4_punch_37 (by decide) (cu0 hC)
set_option maxRecDepth 20000 in
set_option maxHeartbeats 2000000 in
theorem kX4_set_1 {V : Wo} {μ : Mem} {q : Nat} {K : Int} {w tx : Int → Int} {sv kp ln : Int} (hC : CI V K q μ w tx sv kp ln) {x : Int} (hr : inR x) {c : Int} (hc : inR c) (h : ¬ (0 ≤ x ∧ x < 3)) : XCon V 8 yX4_set cX4_set 4 (some .int) [vR q, vI x, vI c] (μ) eX (CU V K q w tx sv kp ln μ) := by
  refine xcon_of (ls0 := [vR q, vI x, vI c, vU]) (by decide +kernel) rfl (Nat.le_of_ble_eq_true rfl) (Nat.le_of_ble_eq_true rfl) (fun X hV C hF => ?_)
  subst hV
  have C : Ok X RX4 cX4_set 4 8 := C
  have hS := hC.1
  have hW := CI_SpW hC
  obtain ⟨P0, P1, PN, PS, PT, PH, PR, PB⟩ := id hS
  obtain ⟨QN, QH, Q6, Q7, QB, QR, QA⟩ := id hW
  obtain ⟨-, ⟨cv, ce⟩, ⟨ck1, ck2, ck3⟩, ⟨cs1, cs2, cs3, cs4, cs5, cs6⟩, ⟨cb1, cb2, cb3, cb4⟩, cr⟩ := id hC
  obtain ⟨v0, v1, v2, v3, v4, v5, v6, v7, v8, v9, v10⟩ := id cv
  obtain ⟨e1, e2, e3, e4, e5, e6, e7, e8, e9, e10⟩ := id ce
  obtain ⟨hK, WB, Wc, Wi, Wp, Wh, Ws0, Ws1, Ws2, Wbk, Wls⟩ := id QN
  refine r_iload_n C dX4_set_0 rfl ?_
  refine r_runI (fun aH aL aj a1 a2 a3 => run_S C hF.2.2.1 (kX4_isSetting (i := x) (by omega)) lm_X4_isSetting ml_X4_151 sm_X4_isSetting (Nat.le_of_ble_eq_true rfl) dX4_set_1 rfl (Nat.le_of_ble_eq_true rfl) a1 a2 a3) ?_
  rw [b01_f (by omega)]
  refine r_if_ne (tgt := 17) C dX4_set_4 (by decide) (by omega) (fun c4 => absurd c4 (by omega)) (fun c4 => ?_)
  exact r_throw (E := eX) C (text := "there is no such setting") hF tw_X (by decide +kernel) (by decide) dX4_set_7 dX4_set_10 dX4_set_11 dX4_set_13 dX4_set_16 (by decide) (cu0 hC)
set_option maxRecDepth 20000 in
set_option maxHeartbeats 2000000 in
theorem kX4_set_2 {V : Wo} {μ : Mem} {q : Nat} {K : Int} {w tx : Int → Int} {sv kp ln : Int} (hC : CI V K q μ w tx sv kp ln) {x : Int} (hr : inR x) {c : Int} (hc : inR c) (hZ : ZS V μ) (h : 0 ≤ x ∧ x < 3) (h2 : ¬ (sLo x ≤ c ∧ c ≤ sUp x)) : XCon V 8 yX4_set cX4_set 4 (some .int) [vR q, vI x, vI c] (μ) eA (CU V K q w tx sv kp ln μ) := by
  refine xcon_of (ls0 := [vR q, vI x, vI c, vU]) (by decide +kernel) rfl (Nat.le_of_ble_eq_true rfl) (Nat.le_of_ble_eq_true rfl) (fun X hV C hF => ?_)
  subst hV
  have C : Ok X RX4 cX4_set 4 8 := C
  have hS := hC.1
  have hW := CI_SpW hC
  obtain ⟨P0, P1, PN, PS, PT, PH, PR, PB⟩ := id hS
  obtain ⟨QN, QH, Q6, Q7, QB, QR, QA⟩ := id hW
  obtain ⟨-, ⟨cv, ce⟩, ⟨ck1, ck2, ck3⟩, ⟨cs1, cs2, cs3, cs4, cs5, cs6⟩, ⟨cb1, cb2, cb3, cb4⟩, cr⟩ := id hC
  obtain ⟨v0, v1, v2, v3, v4, v5, v6, v7, v8, v9, v10⟩ := id cv
  obtain ⟨e1, e2, e3, e4, e5, e6, e7, e8, e9, e10⟩ := id ce
  obtain ⟨hK, WB, Wc, Wi, Wp, Wh, Ws0, Ws1, Ws2, Wbk, Wls⟩ := id QN
  refine r_iload_n C dX4_set_0 rfl ?_
  refine r_runI (fun aH aL aj a1 a2 a3 => run_S C hF.2.2.1 (kX4_isSetting (i := x) (by omega)) lm_X4_isSetting ml_X4_151 sm_X4_isSetting (Nat.le_of_ble_eq_true rfl) dX4_set_1 rfl (Nat.le_of_ble_eq_true rfl) a1 a2 a3) ?_
  rw [b01_t (by omega)]
  refine r_if_ne (tgt := 17) C dX4_set_4 (by decide) (by omega) (fun c4 => ?_) (fun c4 => absurd c4 (by omega))
  refine r_iload_n C dX4_set_17 rfl ?_
  refine r_gets C C.2.2.2.2.2.2.1.2.2.2.1 fl_X4_156 dX4_set_18 ?_
  refine r_iload_n C dX4_set_21 rfl ?_
  refine r_runI (fun aH aL aj a1 a2 a3 => run_S C hF.2.2.1 (kX4_at hZ.1.1 (by decide) h.1 (by omega)) lm_X4_at ml_X4_130 sm_X4_at (Nat.le_of_ble_eq_true rfl) dX4_set_22 rfl (Nat.le_of_ble_eq_true rfl) a1 a2 a3) ?_
  rw [(hZ.2.2 x h.1 h.2).1]
  have hl := sLo_r x
  have hu := sUp_r x
  refine r_icmp_lt (tgt := 39) C dX4_set_25 (by decide) (by omega) (by omega) (fun c25 => ?_) (fun c25 => ?_)
  · have _ := c25
    exact r_throw (E := eA) C (text := "value is out of range") hF tw_A (by decide +kernel) (by decide) dX4_set_39 dX4_set_42 dX4_set_43 dX4_set_45 dX4_set_48 (by decide) (cu0 hC)
  · have _ := c25
    refine r_iload_n C dX4_set_28 rfl ?_
    refine r_gets C C.2.2.2.2.2.2.1.2.2.2.2.1 fl_X4_159 dX4_set_29 ?_
    refine r_iload_n C dX4_set_32 rfl ?_
    refine r_runI (fun aH aL aj a1 a2 a3 => run_S C hF.2.2.1 (kX4_at hZ.2.1.1 (by decide) h.1 (by omega)) lm_X4_at ml_X4_130 sm_X4_at (Nat.le_of_ble_eq_true rfl) dX4_set_33 rfl (Nat.le_of_ble_eq_true rfl) a1 a2 a3) ?_
    rw [(hZ.2.2 x h.1 h.2).2]
    refine r_icmp_le (tgt := 49) C dX4_set_36 (by decide) (by omega) (by omega) (fun c36 => absurd c36 (by omega)) (fun c36 => ?_)
    exact r_throw (E := eA) C (text := "value is out of range") hF tw_A (by decide +kernel) (by decide) dX4_set_39 dX4_set_42 dX4_set_43 dX4_set_45 dX4_set_48 (by decide) (cu0 hC)
set_option maxRecDepth 20000 in
set_option maxHeartbeats 2000000 in
theorem kX4_append_1 {V : Wo} {μ : Mem} {q : Nat} {K : Int} {w tx : Int → Int} {sv kp ln : Int} (hC : CI V K q μ w tx sv kp ln) {c : Int} (hc : inR c) (h : ¬ (33 ≤ c ∧ c ≤ 126)) : XCon V 8 yX4_append cX4_append 2 (some .int) [vR q, vI c] (μ) eA (CU V K q w tx sv kp ln μ) := by
  refine xcon_of (ls0 := [vR q, vI c]) (by decide +kernel) rfl (Nat.le_of_ble_eq_true rfl) (Nat.le_of_ble_eq_true rfl) (fun X hV C hF => ?_)
  subst hV
  have C : Ok X RX4 cX4_append 2 8 := C
  have hS := hC.1
  have hW := CI_SpW hC
  obtain ⟨P0, P1, PN, PS, PT, PH, PR, PB⟩ := id hS
  obtain ⟨QN, QH, Q6, Q7, QB, QR, QA⟩ := id hW
  obtain ⟨-, ⟨cv, ce⟩, ⟨ck1, ck2, ck3⟩, ⟨cs1, cs2, cs3, cs4, cs5, cs6⟩, ⟨cb1, cb2, cb3, cb4⟩, cr⟩ := id hC
  obtain ⟨v0, v1, v2, v3, v4, v5, v6, v7, v8, v9, v10⟩ := id cv
  obtain ⟨e1, e2, e3, e4, e5, e6, e7, e8, e9, e10⟩ := id ce
  obtain ⟨hK, WB, Wc, Wi, Wp, Wh, Ws0, Ws1, Ws2, Wbk, Wls⟩ := id QN
  refine r_iload_n C dX4_append_0 rfl ?_
  refine r_bipush C dX4_append_1 rfl ?_
  refine r_icmp_lt (tgt := 12) C dX4_append_3 (by decide) (by omega) (by omega) (fun c3 => ?_) (fun c3 => ?_)
  · have _ := c3
    exact r_throw (E := eA) C (text := "the code is out of range") hF tw_A (by decide +kernel) (by decide) dX4_append_12 dX4_append_15 dX4_append_16 dX4_append_18 dX4_append_21 (by decide) (cu0 hC)
  · have _ := c3
    refine r_iload_n C dX4_append_6 rfl ?_
    refine r_bipush C dX4_append_7 rfl ?_
    refine r_icmp_le (tgt := 22) C dX4_append_9 (by decide) (by omega) (by omega) (fun c9 => absurd c9 (by omega)) (fun c9 => ?_)
    exact r_throw (E := eA) C (text := "the code is out of range") hF tw_A (by decide +kernel) (by decide) dX4_append_12 dX4_append_15 dX4_append_16 dX4_append_18 dX4_append_21 (by decide) (cu0 hC)
set_option maxRecDepth 20000 in
set_option maxHeartbeats 2000000 in
theorem kX4_append_2 {V : Wo} {μ : Mem} {q : Nat} {K : Int} {w tx : Int → Int} {sv kp ln : Int} (hC : CI V K q μ w tx sv kp ln) {c : Int} (hc : inR c) (h : 33 ≤ c ∧ c ≤ 126) (h2 : ¬ ln < 60) : XCon V 8 yX4_append cX4_append 2 (some .int) [vR q, vI c] (μ) eS (CU V K q w tx sv kp ln μ) := by
  refine xcon_of (ls0 := [vR q, vI c]) (by decide +kernel) rfl (Nat.le_of_ble_eq_true rfl) (Nat.le_of_ble_eq_true rfl) (fun X hV C hF => ?_)
  subst hV
  have C : Ok X RX4 cX4_append 2 8 := C
  have hS := hC.1
  have hW := CI_SpW hC
  obtain ⟨P0, P1, PN, PS, PT, PH, PR, PB⟩ := id hS
  obtain ⟨QN, QH, Q6, Q7, QB, QR, QA⟩ := id hW
  obtain ⟨-, ⟨cv, ce⟩, ⟨ck1, ck2, ck3⟩, ⟨cs1, cs2, cs3, cs4, cs5, cs6⟩, ⟨cb1, cb2, cb3, cb4⟩, cr⟩ := id hC
  obtain ⟨v0, v1, v2, v3, v4, v5, v6, v7, v8, v9, v10⟩ := id cv
  obtain ⟨e1, e2, e3, e4, e5, e6, e7, e8, e9, e10⟩ := id ce
  obtain ⟨hK, WB, Wc, Wi, Wp, Wh, Ws0, Ws1, Ws2, Wbk, Wls⟩ := id QN
  refine r_iload_n C dX4_append_0 rfl ?_
  refine r_bipush C dX4_append_1 rfl ?_
  refine r_icmp_lt (tgt := 12) C dX4_append_3 (by decide) (by omega) (by omega) (fun c3 => absurd c3 (by omega)) (fun c3 => ?_)
  refine r_iload_n C dX4_append_6 rfl ?_
  refine r_bipush C dX4_append_7 rfl ?_
  refine r_icmp_le (tgt := 22) C dX4_append_9 (by decide) (by omega) (by omega) (fun c9 => ?_) (fun c9 => absurd c9 (by omega))
  refine r_aload_n C dX4_append_22 rfl ?_
  refine gf_X4_40 C P1 dX4_append_23 ?_
  rw [cb1]
  refine r_bipush C dX4_append_26 rfl ?_
  refine r_icmp_lt (tgt := 41) C dX4_append_28 (by decide) (by omega) (by omega) (fun c28 => absurd c28 (by omega)) (fun c28 => ?_)
  exact r_throw (E := eS) C (text := "the buffer is full") hF tw_S (by decide +kernel) (by decide) dX4_append_31 dX4_append_34 dX4_append_35 dX4_append_37 dX4_append_40 (by decide) (cu0 hC)
set_option maxRecDepth 20000 in
set_option maxHeartbeats 2000000 in
theorem kX4_work_1 {V : Wo} {μ : Mem} {q : Nat} {K : Int} {w tx : Int → Int} {sv kp ln : Int} (hC : CI V K q μ w tx sv kp ln) (hwk : (wk tx ln 0 0).1 = 0) : XCon V 8 yX4_work cX4_work 2 (some .int) [vR q] (μ) eA (CU V K q w tx sv kp ln μ) := by
  refine xcon_of (ls0 := [vR q, vU]) (by decide +kernel) rfl (Nat.le_of_ble_eq_true rfl) (Nat.le_of_ble_eq_true rfl) (fun X hV C hF => ?_)
  subst hV
  have C : Ok X RX4 cX4_work 2 8 := C
  have hS := hC.1
  have hW := CI_SpW hC
  obtain ⟨P0, P1, PN, PS, PT, PH, PR, PB⟩ := id hS
  obtain ⟨QN, QH, Q6, Q7, QB, QR, QA⟩ := id hW
  obtain ⟨-, ⟨cv, ce⟩, ⟨ck1, ck2, ck3⟩, ⟨cs1, cs2, cs3, cs4, cs5, cs6⟩, ⟨cb1, cb2, cb3, cb4⟩, cr⟩ := id hC
  obtain ⟨v0, v1, v2, v3, v4, v5, v6, v7, v8, v9, v10⟩ := id cv
  obtain ⟨e1, e2, e3, e4, e5, e6, e7, e8, e9, e10⟩ := id ce
  obtain ⟨hK, WB, Wc, Wi, Wp, Wh, Ws0, Ws1, Ws2, Wbk, Wls⟩ := id QN
  have hfe : (fEr (μ (q + 111)) (μ (q + 112)) ln) = fEr (μ (q + 111)) tx ln := fEr_c cb3
  have hfr0 := fEr_r (μ (q + 111)) (μ (q + 112)) cb2.1
  have hwkk := rd_wk (f := μ (q + 111)) (b := tx) (n := ln) (by omega) 61 0 0 (by omega) (by omega) cb2.1 (by omega) (rd_00 _ _)
  rw [← fEr_I, ← hfe] at hwkk
  have hrc : rdI (μ (q + 111)) tx (fEr (μ (q + 111)) (μ (q + 112)) ln) = rdI (μ (q + 111)) (μ (q + 112)) (fEr (μ (q + 111)) (μ (q + 112)) ln) := (rdI_c cb3 hfr0.1 hfr0.2).symm
  have hcp : ¬ ((fEr (μ (q + 111)) (μ (q + 112)) ln) = ln ∧ cpl (rdI (μ (q + 111)) tx (fEr (μ (q + 111)) (μ (q + 112)) ln))) := by
    rcases hwkk.2 with z | z
    · omega
    · exact z.2
  refine r_aload_n C dX4_work_0 rfl ?_
  refine r_runI (fun aH aL aj a1 a2 a3 => run_V C hF.2.2.1 (kX4_readBuffer hS hW) lm_X4_readBuffer ml_X4_171 im_X4_readBuffer se_X4_readBuffer P1 rfl (Nat.le_of_ble_eq_true rfl) dX4_work_1 rfl (Nat.le_of_ble_eq_true rfl) a1 a2 a3) ?_
  rw [cb1]
  have hC1 : CU (xV X) K q w tx sv kp ln μ (wr μ (q + 111) (rdI (μ (q + 111)) (μ (q + 112)) (fEr (μ (q + 111)) (μ (q + 112)) ln))) := cu_rd hC hfr0
  refine r_aload_n C dX4_work_4 rfl ?_
  refine gf_X4_40 C P1 dX4_work_5 ?_
  rw [wr_n _ _ (show q ≠ q + 111 by omega), cb1]
  refine r_icmp_lt (tgt := 21) C dX4_work_8 (by decide) (by omega) (by omega) (fun c8 => ?_) (fun c8 => ?_)
  · skip
    exact r_throw (E := eA) C (text := "the buffer is not complete work as a text") hF tw_A (by decide +kernel) (by decide) dX4_work_21 dX4_work_24 dX4_work_25 dX4_work_27 dX4_work_30 (by decide) hC1
  · skip
    refine r_aload_n C dX4_work_11 rfl ?_
    refine gf_X4_32 C P1 dX4_work_12 ?_
    refine r_runI (fun aH aL aj a1 a2 a3 => run_V C hF.2.2.1 (kX2_isComplete PR hC1.1.2.2.2.2.2) lm_X2_isComplete ml_X4_174 im_X2_isComplete se_X2_isComplete PR.2 rfl (Nat.le_of_ble_eq_true rfl) dX4_work_15 rfl (Nat.le_of_ble_eq_true rfl) a1 a2 a3) ?_
    rw [wr_s, b01_f (by rw [hrc] at hcp; exact fun z => hcp ⟨by omega, z⟩)]
    refine r_if_ne (tgt := 31) C dX4_work_18 (by decide) (by omega) (fun c18 => absurd c18 (by omega)) (fun c18 => ?_)
    exact r_throw (E := eA) C (text := "the buffer is not complete work as a text") hF tw_A (by decide +kernel) (by decide) dX4_work_21 dX4_work_24 dX4_work_25 dX4_work_27 dX4_work_30 (by decide) hC1
set_option maxRecDepth 20000 in
set_option maxHeartbeats 2000000 in
theorem kX4_goBack_1 {V : Wo} {μ : Mem} {q : Nat} {K : Int} {w tx : Int → Int} {sv kp ln : Int} (hC : CI V K q μ w tx sv kp ln) (h : kp = 0) : XCon V 8 yX4_goBack cX4_goBack 1 (some .int) [vR q] (μ) eS (CU V K q w tx sv kp ln μ) := by
  refine xcon_of (ls0 := [vR q]) (by decide +kernel) rfl (Nat.le_of_ble_eq_true rfl) (Nat.le_of_ble_eq_true rfl) (fun X hV C hF => ?_)
  subst hV
  have C : Ok X RX4 cX4_goBack 1 8 := C
  have hS := hC.1
  have hW := CI_SpW hC
  obtain ⟨P0, P1, PN, PS, PT, PH, PR, PB⟩ := id hS
  obtain ⟨QN, QH, Q6, Q7, QB, QR, QA⟩ := id hW
  obtain ⟨-, ⟨cv, ce⟩, ⟨ck1, ck2, ck3⟩, ⟨cs1, cs2, cs3, cs4, cs5, cs6⟩, ⟨cb1, cb2, cb3, cb4⟩, cr⟩ := id hC
  obtain ⟨v0, v1, v2, v3, v4, v5, v6, v7, v8, v9, v10⟩ := id cv
  obtain ⟨e1, e2, e3, e4, e5, e6, e7, e8, e9, e10⟩ := id ce
  obtain ⟨hK, WB, Wc, Wi, Wp, Wh, Ws0, Ws1, Ws2, Wbk, Wls⟩ := id QN
  refine r_aload_n C dX4_goBack_0 rfl ?_
  refine gf_X4_44 C P1 dX4_goBack_1 ?_
  rw [ck2]
  refine r_if_ne (tgt := 17) C dX4_goBack_4 (by decide) (by omega) (fun c4 => absurd c4 (by omega)) (fun c4 => ?_)
  exact r_throw (E := eS) C (text := "there is no snapshot") hF tw_S (by decide +kernel) (by decide) dX4_goBack_7 dX4_goBack_10 dX4_goBack_11 dX4_goBack_13 dX4_goBack_16 (by decide) (cu0 hC)
set_option maxRecDepth 20000 in
set_option maxHeartbeats 2000000 in
theorem kX4_undo_1 {V : Wo} {μ : Mem} {q : Nat} {K : Int} {w tx : Int → Int} {sv kp ln : Int} (hC : CI V K q μ w tx sv kp ln) (h : sv = 0) : XCon V 8 yX4_undo cX4_undo 1 (some .int) [vR q] (μ) eS (CU V K q w tx sv kp ln μ) := by
  refine xcon_of (ls0 := [vR q]) (by decide +kernel) rfl (Nat.le_of_ble_eq_true rfl) (Nat.le_of_ble_eq_true rfl) (fun X hV C hF => ?_)
  subst hV
  have C : Ok X RX4 cX4_undo 1 8 := C
  have hS := hC.1
  have hW := CI_SpW hC
  obtain ⟨P0, P1, PN, PS, PT, PH, PR, PB⟩ := id hS
  obtain ⟨QN, QH, Q6, Q7, QB, QR, QA⟩ := id hW
  obtain ⟨-, ⟨cv, ce⟩, ⟨ck1, ck2, ck3⟩, ⟨cs1, cs2, cs3, cs4, cs5, cs6⟩, ⟨cb1, cb2, cb3, cb4⟩, cr⟩ := id hC
  obtain ⟨v0, v1, v2, v3, v4, v5, v6, v7, v8, v9, v10⟩ := id cv
  obtain ⟨e1, e2, e3, e4, e5, e6, e7, e8, e9, e10⟩ := id ce
  obtain ⟨hK, WB, Wc, Wi, Wp, Wh, Ws0, Ws1, Ws2, Wbk, Wls⟩ := id QN
  refine r_aload_n C dX4_undo_0 rfl ?_
  refine gf_X4_25 C P1 dX4_undo_1 ?_
  refine gf_X4_188 C PH.2.1 dX4_undo_4 ?_
  rw [cs2]
  refine r_if_ne (tgt := 20) C dX4_undo_7 (by decide) (by omega) (fun c7 => absurd c7 (by omega)) (fun c7 => ?_)
  exact r_throw (E := eS) C (text := "there is no saved state") hF tw_S (by decide +kernel) (by decide) dX4_undo_10 dX4_undo_13 dX4_undo_14 dX4_undo_16 dX4_undo_19 (by decide) (cu0 hC)
set_option maxRecDepth 20000 in
set_option maxHeartbeats 2000000 in
theorem kX4_sheet_1 {V : Wo} {μ : Mem} {q : Nat} {K : Int} {w tx : Int → Int} {sv kp ln : Int} (hC : CI V K q μ w tx sv kp ln) {k : Int} (hr : inR k) {a : Int} (hr2 : inR a) (h : k < 0) : XCon V 8 yX4_sheet cX4_sheet 3 (some .int) [vR q, vI k, vI a] (μ) eX (CU V K q w tx sv kp ln μ) := by
  refine xcon_of (ls0 := [vR q, vI k, vI a]) (by decide +kernel) rfl (Nat.le_of_ble_eq_true rfl) (Nat.le_of_ble_eq_true rfl) (fun X hV C hF => ?_)
  subst hV
  have C : Ok X RX4 cX4_sheet 3 8 := C
  have hS := hC.1
  have hW := CI_SpW hC
  obtain ⟨P0, P1, PN, PS, PT, PH, PR, PB⟩ := id hS
  obtain ⟨QN, QH, Q6, Q7, QB, QR, QA⟩ := id hW
  obtain ⟨-, ⟨cv, ce⟩, ⟨ck1, ck2, ck3⟩, ⟨cs1, cs2, cs3, cs4, cs5, cs6⟩, ⟨cb1, cb2, cb3, cb4⟩, cr⟩ := id hC
  obtain ⟨v0, v1, v2, v3, v4, v5, v6, v7, v8, v9, v10⟩ := id cv
  obtain ⟨e1, e2, e3, e4, e5, e6, e7, e8, e9, e10⟩ := id ce
  obtain ⟨hK, WB, Wc, Wi, Wp, Wh, Ws0, Ws1, Ws2, Wbk, Wls⟩ := id QN
  refine r_iload_n C dX4_sheet_0 rfl ?_
  refine r_if_ge (tgt := 14) C dX4_sheet_1 (by decide) (by omega) (fun c1 => absurd c1 (by omega)) (fun c1 => ?_)
  exact r_throw (E := eX) C (text := "place is below 0") hF tw_X (by decide +kernel) (by decide) dX4_sheet_4 dX4_sheet_7 dX4_sheet_8 dX4_sheet_10 dX4_sheet_13 (by decide) (cu0 hC)
set_option maxRecDepth 20000 in
set_option maxHeartbeats 2000000 in
theorem kX4_sheet_2 {V : Wo} {μ : Mem} {q : Nat} {K : Int} {w tx : Int → Int} {sv kp ln : Int} (hC : CI V K q μ w tx sv kp ln) {k : Int} (hr : inR k) {a : Int} (hr2 : inR a) (h : 0 ≤ k) (h2 : ¬ (0 ≤ a ∧ a ≤ 5)) : XCon V 8 yX4_sheet cX4_sheet 3 (some .int) [vR q, vI k, vI a] (μ) eA (CU V K q w tx sv kp ln μ) := by
  refine xcon_of (ls0 := [vR q, vI k, vI a]) (by decide +kernel) rfl (Nat.le_of_ble_eq_true rfl) (Nat.le_of_ble_eq_true rfl) (fun X hV C hF => ?_)
  subst hV
  have C : Ok X RX4 cX4_sheet 3 8 := C
  have hS := hC.1
  have hW := CI_SpW hC
  obtain ⟨P0, P1, PN, PS, PT, PH, PR, PB⟩ := id hS
  obtain ⟨QN, QH, Q6, Q7, QB, QR, QA⟩ := id hW
  obtain ⟨-, ⟨cv, ce⟩, ⟨ck1, ck2, ck3⟩, ⟨cs1, cs2, cs3, cs4, cs5, cs6⟩, ⟨cb1, cb2, cb3, cb4⟩, cr⟩ := id hC
  obtain ⟨v0, v1, v2, v3, v4, v5, v6, v7, v8, v9, v10⟩ := id cv
  obtain ⟨e1, e2, e3, e4, e5, e6, e7, e8, e9, e10⟩ := id ce
  obtain ⟨hK, WB, Wc, Wi, Wp, Wh, Ws0, Ws1, Ws2, Wbk, Wls⟩ := id QN
  refine r_iload_n C dX4_sheet_0 rfl ?_
  refine r_if_ge (tgt := 14) C dX4_sheet_1 (by decide) (by omega) (fun c1 => ?_) (fun c1 => absurd c1 (by omega))
  refine r_iload_n C dX4_sheet_14 rfl ?_
  refine r_if_lt (tgt := 24) C dX4_sheet_15 (by decide) (by omega) (fun c15 => ?_) (fun c15 => ?_)
  · have _ := c15
    exact r_throw (E := eA) C (text := "what is out of range") hF tw_A (by decide +kernel) (by decide) dX4_sheet_24 dX4_sheet_27 dX4_sheet_28 dX4_sheet_30 dX4_sheet_33 (by decide) (cu0 hC)
  · have _ := c15
    refine r_iload_n C dX4_sheet_18 rfl ?_
    refine r_bipush C dX4_sheet_19 rfl ?_
    refine r_icmp_lt (tgt := 34) C dX4_sheet_21 (by decide) (by omega) (by omega) (fun c21 => absurd c21 (by omega)) (fun c21 => ?_)
    exact r_throw (E := eA) C (text := "what is out of range") hF tw_A (by decide +kernel) (by decide) dX4_sheet_24 dX4_sheet_27 dX4_sheet_28 dX4_sheet_30 dX4_sheet_33 (by decide) (cu0 hC)
set_option maxRecDepth 20000 in
set_option maxHeartbeats 2000000 in
theorem kX4_bin_1 {V : Wo} {μ : Mem} {q : Nat} {K : Int} {w tx : Int → Int} {sv kp ln : Int} (hC : CI V K q μ w tx sv kp ln) {x : Int} (hr : inR x) {a : Int} (hr2 : inR a) (h : ¬ (0 ≤ x ∧ x < 16)) : XCon V 8 yX4_bin cX4_bin 3 (some .int) [vR q, vI x, vI a] (μ) eX (CU V K q w tx sv kp ln μ) := by
  refine xcon_of (ls0 := [vR q, vI x, vI a]) (by decide +kernel) rfl (Nat.le_of_ble_eq_true rfl) (Nat.le_of_ble_eq_true rfl) (fun X hV C hF => ?_)
  subst hV
  have C : Ok X RX4 cX4_bin 3 8 := C
  have hS := hC.1
  have hW := CI_SpW hC
  obtain ⟨P0, P1, PN, PS, PT, PH, PR, PB⟩ := id hS
  obtain ⟨QN, QH, Q6, Q7, QB, QR, QA⟩ := id hW
  obtain ⟨-, ⟨cv, ce⟩, ⟨ck1, ck2, ck3⟩, ⟨cs1, cs2, cs3, cs4, cs5, cs6⟩, ⟨cb1, cb2, cb3, cb4⟩, cr⟩ := id hC
  obtain ⟨v0, v1, v2, v3, v4, v5, v6, v7, v8, v9, v10⟩ := id cv
  obtain ⟨e1, e2, e3, e4, e5, e6, e7, e8, e9, e10⟩ := id ce
  obtain ⟨hK, WB, Wc, Wi, Wp, Wh, Ws0, Ws1, Ws2, Wbk, Wls⟩ := id QN
  refine r_iload_n C dX4_bin_0 rfl ?_
  refine r_runI (fun aH aL aj a1 a2 a3 => run_S C hF.2.2.1 (kX4_isBin (i := x) (by omega)) lm_X4_isBin ml_X4_48 sm_X4_isBin (Nat.le_of_ble_eq_true rfl) dX4_bin_1 rfl (Nat.le_of_ble_eq_true rfl) a1 a2 a3) ?_
  rw [b01_f (by omega)]
  refine r_if_ne (tgt := 17) C dX4_bin_4 (by decide) (by omega) (fun c4 => absurd c4 (by omega)) (fun c4 => ?_)
  exact r_throw (E := eX) C (text := "there is no such bin") hF tw_X (by decide +kernel) (by decide) dX4_bin_7 dX4_bin_10 dX4_bin_11 dX4_bin_13 dX4_bin_16 (by decide) (cu0 hC)
set_option maxRecDepth 20000 in
set_option maxHeartbeats 2000000 in
theorem kX4_bin_2 {V : Wo} {μ : Mem} {q : Nat} {K : Int} {w tx : Int → Int} {sv kp ln : Int} (hC : CI V K q μ w tx sv kp ln) {x : Int} (hr : inR x) {a : Int} (hr2 : inR a) (h : 0 ≤ x ∧ x < 16) (h2 : ¬ (0 ≤ a ∧ a ≤ 4)) : XCon V 8 yX4_bin cX4_bin 3 (some .int) [vR q, vI x, vI a] (μ) eA (CU V K q w tx sv kp ln μ) := by
  refine xcon_of (ls0 := [vR q, vI x, vI a]) (by decide +kernel) rfl (Nat.le_of_ble_eq_true rfl) (Nat.le_of_ble_eq_true rfl) (fun X hV C hF => ?_)
  subst hV
  have C : Ok X RX4 cX4_bin 3 8 := C
  have hS := hC.1
  have hW := CI_SpW hC
  obtain ⟨P0, P1, PN, PS, PT, PH, PR, PB⟩ := id hS
  obtain ⟨QN, QH, Q6, Q7, QB, QR, QA⟩ := id hW
  obtain ⟨-, ⟨cv, ce⟩, ⟨ck1, ck2, ck3⟩, ⟨cs1, cs2, cs3, cs4, cs5, cs6⟩, ⟨cb1, cb2, cb3, cb4⟩, cr⟩ := id hC
  obtain ⟨v0, v1, v2, v3, v4, v5, v6, v7, v8, v9, v10⟩ := id cv
  obtain ⟨e1, e2, e3, e4, e5, e6, e7, e8, e9, e10⟩ := id ce
  obtain ⟨hK, WB, Wc, Wi, Wp, Wh, Ws0, Ws1, Ws2, Wbk, Wls⟩ := id QN
  refine r_iload_n C dX4_bin_0 rfl ?_
  refine r_runI (fun aH aL aj a1 a2 a3 => run_S C hF.2.2.1 (kX4_isBin (i := x) (by omega)) lm_X4_isBin ml_X4_48 sm_X4_isBin (Nat.le_of_ble_eq_true rfl) dX4_bin_1 rfl (Nat.le_of_ble_eq_true rfl) a1 a2 a3) ?_
  rw [b01_t (by omega)]
  refine r_if_ne (tgt := 17) C dX4_bin_4 (by decide) (by omega) (fun c4 => ?_) (fun c4 => absurd c4 (by omega))
  refine r_iload_n C dX4_bin_17 rfl ?_
  refine r_if_lt (tgt := 26) C dX4_bin_18 (by decide) (by omega) (fun c18 => ?_) (fun c18 => ?_)
  · have _ := c18
    exact r_throw (E := eA) C (text := "what is out of range") hF tw_A (by decide +kernel) (by decide) dX4_bin_26 dX4_bin_29 dX4_bin_30 dX4_bin_32 dX4_bin_35 (by decide) (cu0 hC)
  · have _ := c18
    refine r_iload_n C dX4_bin_21 rfl ?_
    refine r_iconst C dX4_bin_22 ?_
    refine r_icmp_lt (tgt := 36) C dX4_bin_23 (by decide) (by omega) (by omega) (fun c23 => absurd c23 (by omega)) (fun c23 => ?_)
    exact r_throw (E := eA) C (text := "what is out of range") hF tw_A (by decide +kernel) (by decide) dX4_bin_26 dX4_bin_29 dX4_bin_30 dX4_bin_32 dX4_bin_35 (by decide) (cu0 hC)
set_option maxRecDepth 20000 in
set_option maxHeartbeats 2000000 in
theorem kX4_count_1 {V : Wo} {μ : Mem} {q : Nat} {K : Int} {w tx : Int → Int} {sv kp ln : Int} (hC : CI V K q μ w tx sv kp ln) {a : Int} (hr2 : inR a) (h : ¬ (0 ≤ a ∧ a ≤ 15)) : XCon V 8 yX4_count cX4_count 2 (some .int) [vR q, vI a] (μ) eA (CU V K q w tx sv kp ln μ) := by
  refine xcon_of (ls0 := [vR q, vI a]) (by decide +kernel) rfl (Nat.le_of_ble_eq_true rfl) (Nat.le_of_ble_eq_true rfl) (fun X hV C hF => ?_)
  subst hV
  have C : Ok X RX4 cX4_count 2 8 := C
  have hS := hC.1
  have hW := CI_SpW hC
  obtain ⟨P0, P1, PN, PS, PT, PH, PR, PB⟩ := id hS
  obtain ⟨QN, QH, Q6, Q7, QB, QR, QA⟩ := id hW
  obtain ⟨-, ⟨cv, ce⟩, ⟨ck1, ck2, ck3⟩, ⟨cs1, cs2, cs3, cs4, cs5, cs6⟩, ⟨cb1, cb2, cb3, cb4⟩, cr⟩ := id hC
  obtain ⟨v0, v1, v2, v3, v4, v5, v6, v7, v8, v9, v10⟩ := id cv
  obtain ⟨e1, e2, e3, e4, e5, e6, e7, e8, e9, e10⟩ := id ce
  obtain ⟨hK, WB, Wc, Wi, Wp, Wh, Ws0, Ws1, Ws2, Wbk, Wls⟩ := id QN
  refine r_iload_n C dX4_count_0 rfl ?_
  refine r_if_lt (tgt := 10) C dX4_count_1 (by decide) (by omega) (fun c1 => ?_) (fun c1 => ?_)
  · have _ := c1
    exact r_throw (E := eA) C (text := "what is out of range") hF tw_A (by decide +kernel) (by decide) dX4_count_10 dX4_count_13 dX4_count_14 dX4_count_16 dX4_count_19 (by decide) (cu0 hC)
  · have _ := c1
    refine r_iload_n C dX4_count_4 rfl ?_
    refine r_bipush C dX4_count_5 rfl ?_
    refine r_icmp_lt (tgt := 20) C dX4_count_7 (by decide) (by omega) (by omega) (fun c7 => absurd c7 (by omega)) (fun c7 => ?_)
    exact r_throw (E := eA) C (text := "what is out of range") hF tw_A (by decide +kernel) (by decide) dX4_count_10 dX4_count_13 dX4_count_14 dX4_count_16 dX4_count_19 (by decide) (cu0 hC)
set_option maxRecDepth 20000 in
set_option maxHeartbeats 2000000 in
theorem kX4_setting_1 {V : Wo} {μ : Mem} {q : Nat} {K : Int} {w tx : Int → Int} {sv kp ln : Int} (hC : CI V K q μ w tx sv kp ln) {x : Int} (hr : inR x) (h : ¬ (0 ≤ x ∧ x < 3)) : XCon V 8 yX4_setting cX4_setting 2 (some .int) [vR q, vI x] (μ) eX (CU V K q w tx sv kp ln μ) := by
  refine xcon_of (ls0 := [vR q, vI x]) (by decide +kernel) rfl (Nat.le_of_ble_eq_true rfl) (Nat.le_of_ble_eq_true rfl) (fun X hV C hF => ?_)
  subst hV
  have C : Ok X RX4 cX4_setting 2 8 := C
  have hS := hC.1
  have hW := CI_SpW hC
  obtain ⟨P0, P1, PN, PS, PT, PH, PR, PB⟩ := id hS
  obtain ⟨QN, QH, Q6, Q7, QB, QR, QA⟩ := id hW
  obtain ⟨-, ⟨cv, ce⟩, ⟨ck1, ck2, ck3⟩, ⟨cs1, cs2, cs3, cs4, cs5, cs6⟩, ⟨cb1, cb2, cb3, cb4⟩, cr⟩ := id hC
  obtain ⟨v0, v1, v2, v3, v4, v5, v6, v7, v8, v9, v10⟩ := id cv
  obtain ⟨e1, e2, e3, e4, e5, e6, e7, e8, e9, e10⟩ := id ce
  obtain ⟨hK, WB, Wc, Wi, Wp, Wh, Ws0, Ws1, Ws2, Wbk, Wls⟩ := id QN
  refine r_iload_n C dX4_setting_0 rfl ?_
  refine r_runI (fun aH aL aj a1 a2 a3 => run_S C hF.2.2.1 (kX4_isSetting (i := x) (by omega)) lm_X4_isSetting ml_X4_151 sm_X4_isSetting (Nat.le_of_ble_eq_true rfl) dX4_setting_1 rfl (Nat.le_of_ble_eq_true rfl) a1 a2 a3) ?_
  rw [b01_f (by omega)]
  refine r_if_ne (tgt := 17) C dX4_setting_4 (by decide) (by omega) (fun c4 => absurd c4 (by omega)) (fun c4 => ?_)
  exact r_throw (E := eX) C (text := "there is no such setting") hF tw_X (by decide +kernel) (by decide) dX4_setting_7 dX4_setting_10 dX4_setting_11 dX4_setting_13 dX4_setting_16 (by decide) (cu0 hC)
set_option maxRecDepth 20000 in
set_option maxHeartbeats 2000000 in
theorem kX4_ifPulled_1 {V : Wo} {μ : Mem} {q : Nat} {K : Int} {w tx : Int → Int} {sv kp ln : Int} (hC : CI V K q μ w tx sv kp ln) {p : Int} (hr0 : inR p) {a : Int} (hr2 : inR a) (h : ¬ (0 ≤ p ∧ p < w 3)) : XCon V 8 yX4_ifPulled cX4_ifPulled 3 (some .int) [vR q, vI p, vI a] (μ) eX (CU V K q w tx sv kp ln μ) := by
  refine xcon_of (ls0 := [vR q, vI p, vI a]) (by decide +kernel) rfl (Nat.le_of_ble_eq_true rfl) (Nat.le_of_ble_eq_true rfl) (fun X hV C hF => ?_)
  subst hV
  have C : Ok X RX4 cX4_ifPulled 3 8 := C
  have hS := hC.1
  have hW := CI_SpW hC
  obtain ⟨P0, P1, PN, PS, PT, PH, PR, PB⟩ := id hS
  obtain ⟨QN, QH, Q6, Q7, QB, QR, QA⟩ := id hW
  obtain ⟨-, ⟨cv, ce⟩, ⟨ck1, ck2, ck3⟩, ⟨cs1, cs2, cs3, cs4, cs5, cs6⟩, ⟨cb1, cb2, cb3, cb4⟩, cr⟩ := id hC
  obtain ⟨v0, v1, v2, v3, v4, v5, v6, v7, v8, v9, v10⟩ := id cv
  obtain ⟨e1, e2, e3, e4, e5, e6, e7, e8, e9, e10⟩ := id ce
  obtain ⟨hK, WB, Wc, Wi, Wp, Wh, Ws0, Ws1, Ws2, Wbk, Wls⟩ := id QN
  refine r_aload_n C dX4_ifPulled_0 rfl ?_
  refine gf_X4_10 C P1 dX4_ifPulled_1 ?_
  refine gf_X4_71 C PN.2.1 dX4_ifPulled_4 ?_
  refine r_iload_n C dX4_ifPulled_7 rfl ?_
  refine r_runI (fun aH aL aj a1 a2 a3 => run_V C hF.2.2.1 (kX0_hasPlace PN.2.2.1 WB (p := p) (by omega)) lm_X0_hasPlace ml_X4_86 im_X0_hasPlace se_X0_hasPlace PN.2.2.1.2.1 rfl (Nat.le_of_ble_eq_true rfl) dX4_ifPulled_8 rfl (Nat.le_of_ble_eq_true rfl) a1 a2 a3) ?_
  rw [b01_f (by omega)]
  refine r_if_ne (tgt := 24) C dX4_ifPulled_11 (by decide) (by omega) (fun c11 => absurd c11 (by omega)) (fun c11 => ?_)
  exact r_throw (E := eX) C (text := "there is no such place") hF tw_X (by decide +kernel) (by decide) dX4_ifPulled_14 dX4_ifPulled_17 dX4_ifPulled_18 dX4_ifPulled_20 dX4_ifPulled_23 (by decide) (cu0 hC)
set_option maxRecDepth 20000 in
set_option maxHeartbeats 2000000 in
theorem kX4_ifPulled_2 {V : Wo} {μ : Mem} {q : Nat} {K : Int} {w tx : Int → Int} {sv kp ln : Int} (hC : CI V K q μ w tx sv kp ln) {p : Int} (hr0 : inR p) {a : Int} (hr2 : inR a) (h : 0 ≤ p ∧ p < w 3) (h2 : ¬ (0 ≤ a ∧ a ≤ 3)) : XCon V 8 yX4_ifPulled cX4_ifPulled 3 (some .int) [vR q, vI p, vI a] (μ) eA (CU V K q w tx sv kp ln μ) := by
  refine xcon_of (ls0 := [vR q, vI p, vI a]) (by decide +kernel) rfl (Nat.le_of_ble_eq_true rfl) (Nat.le_of_ble_eq_true rfl) (fun X hV C hF => ?_)
  subst hV
  have C : Ok X RX4 cX4_ifPulled 3 8 := C
  have hS := hC.1
  have hW := CI_SpW hC
  obtain ⟨P0, P1, PN, PS, PT, PH, PR, PB⟩ := id hS
  obtain ⟨QN, QH, Q6, Q7, QB, QR, QA⟩ := id hW
  obtain ⟨-, ⟨cv, ce⟩, ⟨ck1, ck2, ck3⟩, ⟨cs1, cs2, cs3, cs4, cs5, cs6⟩, ⟨cb1, cb2, cb3, cb4⟩, cr⟩ := id hC
  obtain ⟨v0, v1, v2, v3, v4, v5, v6, v7, v8, v9, v10⟩ := id cv
  obtain ⟨e1, e2, e3, e4, e5, e6, e7, e8, e9, e10⟩ := id ce
  obtain ⟨hK, WB, Wc, Wi, Wp, Wh, Ws0, Ws1, Ws2, Wbk, Wls⟩ := id QN
  refine r_aload_n C dX4_ifPulled_0 rfl ?_
  refine gf_X4_10 C P1 dX4_ifPulled_1 ?_
  refine gf_X4_71 C PN.2.1 dX4_ifPulled_4 ?_
  refine r_iload_n C dX4_ifPulled_7 rfl ?_
  refine r_runI (fun aH aL aj a1 a2 a3 => run_V C hF.2.2.1 (kX0_hasPlace PN.2.2.1 WB (p := p) (by omega)) lm_X0_hasPlace ml_X4_86 im_X0_hasPlace se_X0_hasPlace PN.2.2.1.2.1 rfl (Nat.le_of_ble_eq_true rfl) dX4_ifPulled_8 rfl (Nat.le_of_ble_eq_true rfl) a1 a2 a3) ?_
  rw [b01_t (by omega)]
  refine r_if_ne (tgt := 24) C dX4_ifPulled_11 (by decide) (by omega) (fun c11 => ?_) (fun c11 => absurd c11 (by omega))
  refine r_iload_n C dX4_ifPulled_24 rfl ?_
  refine r_if_lt (tgt := 33) C dX4_ifPulled_25 (by decide) (by omega) (fun c25 => ?_) (fun c25 => ?_)
  · have _ := c25
    exact r_throw (E := eA) C (text := "what is out of range") hF tw_A (by decide +kernel) (by decide) dX4_ifPulled_33 dX4_ifPulled_36 dX4_ifPulled_37 dX4_ifPulled_39 dX4_ifPulled_42 (by decide) (cu0 hC)
  · have _ := c25
    refine r_iload_n C dX4_ifPulled_28 rfl ?_
    refine r_iconst C dX4_ifPulled_29 ?_
    refine r_icmp_lt (tgt := 43) C dX4_ifPulled_30 (by decide) (by omega) (by omega) (fun c30 => absurd c30 (by omega)) (fun c30 => ?_)
    exact r_throw (E := eA) C (text := "what is out of range") hF tw_A (by decide +kernel) (by decide) dX4_ifPulled_33 dX4_ifPulled_36 dX4_ifPulled_37 dX4_ifPulled_39 dX4_ifPulled_42 (by decide) (cu0 hC)
