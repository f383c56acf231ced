set_option maxRecDepth 20000 in
set_option maxHeartbeats 2000000 in
theorem kX4_setting_0 {V : Wo} {μ : Mem} {q : Nat} {K : Int} {w tx : Int → Int} {sv kp ln : Int} (hC : CI V K q μ w tx sv kp ln) {x : Int} (hr : inR x) (h : 0 ≤ x ∧ x < 3) : Con V 1 yX4_setting cX4_setting 2 (some .int) [vR q, vI x] (μ) (QIr V (w x) ((fun ν => CI V (K) q ν (w) (tx) (sv) (kp) (ln) ∧ ∀ r, (r < q ∨ q + 112 < r) → ν r = μ r))) := by
  refine con_of (ls0 := [vR q, vI x]) (by decide +kernel) rfl (Nat.le_of_ble_eq_true rfl) (Nat.le_of_ble_eq_true rfl) (fun X hV C hF => ?_)
  subst hV
  have C : Ok X RX4 cX4_setting 2 1 := C
  have hS := hC.1
  have hW := CI_SpW hC
  obtain ⟨P0, P1, PN, PS, PT, PH, PR, PB⟩ := id hS
  obtain ⟨QN, QH, Q6, Q7, QB, QR, QA⟩ := id hW
  obtain ⟨-, ⟨cv, ce⟩, ⟨ck1, ck2, ck3⟩, ⟨cs1, cs2, cs3, cs4, cs5, cs6⟩, ⟨cb1, cb2, cb3, cb4⟩, cr⟩ := id hC
  obtain ⟨v0, v1, v2, v3, v4, v5, v6, v7, v8, v9, v10⟩ := id cv
  obtain ⟨e1, e2, e3, e4, e5, e6, e7, e8, e9, e10⟩ := id ce
  obtain ⟨hK, WB, Wc, Wi, Wp, Wh, Ws0, Ws1, Ws2, Wbk, Wls⟩ := id QN
  refine r_iload_n C dX4_setting_0 rfl ?_
  refine r_runI (fun aH aL aj a1 a2 a3 => run_S C hF.2.2.1 (kX4_isSetting (i := x) (by omega)) lm_X4_isSetting ml_X4_151 sm_X4_isSetting (Nat.le_of_ble_eq_true rfl) dX4_setting_1 rfl (Nat.le_of_ble_eq_true rfl) a1 a2 a3) ?_
  rw [b01_t (by omega)]
  refine r_if_ne (tgt := 17) C dX4_setting_4 (by decide) (by omega) (fun c4 => ?_) (fun c4 => absurd c4 (by omega))
  refine r_aload_n C dX4_setting_17 rfl ?_
  refine gf_X4_10 C P1 dX4_setting_18 ?_
  refine gf_X4_164 C PN.2.1 dX4_setting_21 ?_
  refine r_iload_n C dX4_setting_24 rfl ?_
  refine r_runI (fun aH aL aj a1 a2 a3 => run_S C hF.2.2.1 (kX4_at PN.2.2.2.2.2.2.2 (by decide) h.1 (by omega)) lm_X4_at ml_X4_130 sm_X4_at (Nat.le_of_ble_eq_true rfl) dX4_setting_25 rfl (Nat.le_of_ble_eq_true rfl) a1 a2 a3) ?_
  rw [e1 x h.1 h.2]
  exact r_iretr C hF dX4_setting_28 rfl ⟨hC, fun _ _ => rfl⟩
set_option maxRecDepth 20000 in
set_option maxHeartbeats 2000000 in
theorem kX4_sheet_3 {V : Wo} {μ : Mem} {q : Nat} {K : Int} {w tx : Int → Int} {sv kp ln : Int} (hC : CI V K q μ w tx sv kp ln) {k : Int} (hr : inR k) {a : Int} (hr2 : inR a) (h : 0 ≤ k) (h2 : 0 ≤ a ∧ a ≤ 5) (h3 : ¬ k < w 3) : Con V 5 yX4_sheet cX4_sheet 3 (some .int) [vR q, vI k, vI a] (μ) (QIr V (-1) ((fun ν => CI V (K) q ν (w) (tx) (sv) (kp) (ln) ∧ ∀ r, (r < q ∨ q + 112 < r) → ν r = μ r))) := by
  refine con_of (ls0 := [vR q, vI k, vI a]) (by decide +kernel) rfl (Nat.le_of_ble_eq_true rfl) (Nat.le_of_ble_eq_true rfl) (fun X hV C hF => ?_)
  subst hV
  have C : Ok X RX4 cX4_sheet 3 5 := C
  have hS := hC.1
  have hW := CI_SpW hC
  obtain ⟨P0, P1, PN, PS, PT, PH, PR, PB⟩ := id hS
  obtain ⟨QN, QH, Q6, Q7, QB, QR, QA⟩ := id hW
  obtain ⟨-, ⟨cv, ce⟩, ⟨ck1, ck2, ck3⟩, ⟨cs1, cs2, cs3, cs4, cs5, cs6⟩, ⟨cb1, cb2, cb3, cb4⟩, cr⟩ := id hC
  obtain ⟨v0, v1, v2, v3, v4, v5, v6, v7, v8, v9, v10⟩ := id cv
  obtain ⟨e1, e2, e3, e4, e5, e6, e7, e8, e9, e10⟩ := id ce
  obtain ⟨hK, WB, Wc, Wi, Wp, Wh, Ws0, Ws1, Ws2, Wbk, Wls⟩ := id QN
  refine r_iload_n C dX4_sheet_0 rfl ?_
  refine r_if_ge (tgt := 14) C dX4_sheet_1 (by decide) (by omega) (fun c1 => ?_) (fun c1 => absurd c1 (by omega))
  refine r_iload_n C dX4_sheet_14 rfl ?_
  refine r_if_lt (tgt := 24) C dX4_sheet_15 (by decide) (by omega) (fun c15 => absurd c15 (by omega)) (fun c15 => ?_)
  refine r_iload_n C dX4_sheet_18 rfl ?_
  refine r_bipush C dX4_sheet_19 rfl ?_
  refine r_icmp_lt (tgt := 34) C dX4_sheet_21 (by decide) (by omega) (by omega) (fun c21 => ?_) (fun c21 => absurd c21 (by omega))
  refine r_aload_n C dX4_sheet_34 rfl ?_
  refine gf_X4_10 C P1 dX4_sheet_35 ?_
  refine gf_X4_71 C PN.2.1 dX4_sheet_38 ?_
  refine r_iload_n C dX4_sheet_41 rfl ?_
  refine r_runI (fun aH aL aj a1 a2 a3 => run_V C hF.2.2.1 (kX0_hasPlace PN.2.2.1 WB (p := k) (by omega)) lm_X0_hasPlace ml_X4_86 im_X0_hasPlace se_X0_hasPlace PN.2.2.1.2.1 rfl (Nat.le_of_ble_eq_true rfl) dX4_sheet_42 rfl (Nat.le_of_ble_eq_true rfl) a1 a2 a3) ?_
  rw [b01_f (by omega)]
  refine r_if_ne (tgt := 50) C dX4_sheet_45 (by decide) (by omega) (fun c45 => absurd c45 (by omega)) (fun c45 => ?_)
  refine r_iconst C dX4_sheet_48 ?_
  exact r_iretr C hF dX4_sheet_49 rfl ⟨hC, fun _ _ => rfl⟩
set_option maxRecDepth 20000 in
set_option maxHeartbeats 2000000 in
theorem kX4_sheet_0 {V : Wo} {μ : Mem} {q : Nat} {K : Int} {w tx : Int → Int} {sv kp ln : Int} (hC : CI V K q μ w tx sv kp ln) {k : Int} (hr : inR k) {a : Int} (hr2 : inR a) (h : 0 ≤ k) (h2 : 0 ≤ a ∧ a ≤ 5) (h3 : k < w 3) : Con V 5 yX4_sheet cX4_sheet 3 (some .int) [vR q, vI k, vI a] (μ) (QIr V (ofS w k a) ((fun ν => CI V (K) q ν (w) (tx) (sv) (kp) (ln) ∧ ∀ r, (r < q ∨ q + 112 < r) → ν r = μ r))) := by
  refine con_of (ls0 := [vR q, vI k, vI a]) (by decide +kernel) rfl (Nat.le_of_ble_eq_true rfl) (Nat.le_of_ble_eq_true rfl) (fun X hV C hF => ?_)
  subst hV
  have C : Ok X RX4 cX4_sheet 3 5 := C
  have hS := hC.1
  have hW := CI_SpW hC
  obtain ⟨P0, P1, PN, PS, PT, PH, PR, PB⟩ := id hS
  obtain ⟨QN, QH, Q6, Q7, QB, QR, QA⟩ := id hW
  obtain ⟨-, ⟨cv, ce⟩, ⟨ck1, ck2, ck3⟩, ⟨cs1, cs2, cs3, cs4, cs5, cs6⟩, ⟨cb1, cb2, cb3, cb4⟩, cr⟩ := id hC
  obtain ⟨v0, v1, v2, v3, v4, v5, v6, v7, v8, v9, v10⟩ := id cv
  obtain ⟨e1, e2, e3, e4, e5, e6, e7, e8, e9, e10⟩ := id ce
  obtain ⟨hK, WB, Wc, Wi, Wp, Wh, Ws0, Ws1, Ws2, Wbk, Wls⟩ := id QN
  refine r_iload_n C dX4_sheet_0 rfl ?_
  refine r_if_ge (tgt := 14) C dX4_sheet_1 (by decide) (by omega) (fun c1 => ?_) (fun c1 => absurd c1 (by omega))
  refine r_iload_n C dX4_sheet_14 rfl ?_
  refine r_if_lt (tgt := 24) C dX4_sheet_15 (by decide) (by omega) (fun c15 => absurd c15 (by omega)) (fun c15 => ?_)
  refine r_iload_n C dX4_sheet_18 rfl ?_
  refine r_bipush C dX4_sheet_19 rfl ?_
  refine r_icmp_lt (tgt := 34) C dX4_sheet_21 (by decide) (by omega) (by omega) (fun c21 => ?_) (fun c21 => absurd c21 (by omega))
  refine r_aload_n C dX4_sheet_34 rfl ?_
  refine gf_X4_10 C P1 dX4_sheet_35 ?_
  refine gf_X4_71 C PN.2.1 dX4_sheet_38 ?_
  refine r_iload_n C dX4_sheet_41 rfl ?_
  refine r_runI (fun aH aL aj a1 a2 a3 => run_V C hF.2.2.1 (kX0_hasPlace PN.2.2.1 WB (p := k) (by omega)) lm_X0_hasPlace ml_X4_86 im_X0_hasPlace se_X0_hasPlace PN.2.2.1.2.1 rfl (Nat.le_of_ble_eq_true rfl) dX4_sheet_42 rfl (Nat.le_of_ble_eq_true rfl) a1 a2 a3) ?_
  rw [b01_t (by omega)]
  refine r_if_ne (tgt := 50) C dX4_sheet_45 (by decide) (by omega) (fun c45 => ?_) (fun c45 => absurd c45 (by omega))
  refine r_iload_n C dX4_sheet_50 rfl ?_
  have hw3 : a = 0 ∨ a = 1 ∨ a = 2 ∨ a = 3 ∨ a = 4 ∨ a = 5 := by omega
  rcases hw3 with e | e | e | e | e | e
  · rw [e]
    refine r_tsIn (tgt := 84) C dX4_sheet_51 (by omega) (by omega) (by omega) rfl (by decide) ?_
    refine r_aload_n C dX4_sheet_84 rfl ?_
    refine gf_X4_10 C P1 dX4_sheet_85 ?_
    refine gf_X4_71 C PN.2.1 dX4_sheet_88 ?_
    refine gf_X4_198 C PN.2.2.1.2.1 dX4_sheet_91 ?_
    refine r_iload_n C dX4_sheet_94 rfl ?_
    refine r_runI (fun aH aL aj a1 a2 a3 => run_S C hF.2.2.1 (kX4_at PN.2.2.1.2.2.1 (by decide) h (by omega)) lm_X4_at ml_X4_130 sm_X4_at (Nat.le_of_ble_eq_true rfl) dX4_sheet_95 rfl (Nat.le_of_ble_eq_true rfl) a1 a2 a3) ?_
    rw [e9 k h h3]
    exact r_iretr C hF dX4_sheet_98 (by
            unfold ofS
            rw [if_pos e]
            skip) ⟨hC, fun _ _ => rfl⟩
  · rw [e]
    refine r_tsIn (tgt := 99) C dX4_sheet_51 (by omega) (by omega) (by omega) rfl (by decide) ?_
    refine r_aload_n C dX4_sheet_99 rfl ?_
    refine gf_X4_10 C P1 dX4_sheet_100 ?_
    refine gf_X4_71 C PN.2.1 dX4_sheet_103 ?_
    refine gf_X4_201 C PN.2.2.1.2.1 dX4_sheet_106 ?_
    refine r_iload_n C dX4_sheet_109 rfl ?_
    refine r_runI (fun aH aL aj a1 a2 a3 => run_S C hF.2.2.1 (kX4_at PN.2.2.1.2.2.2.1 (by decide) h (by omega)) lm_X4_at ml_X4_130 sm_X4_at (Nat.le_of_ble_eq_true rfl) dX4_sheet_110 rfl (Nat.le_of_ble_eq_true rfl) a1 a2 a3) ?_
    rw [e10 k h h3]
    exact r_iretr C hF dX4_sheet_113 (by
            unfold ofS
            rw [if_neg (show ¬ a = 0 by omega), if_pos e]
            skip) ⟨hC, fun _ _ => rfl⟩
  · rw [e]
    refine r_tsIn (tgt := 114) C dX4_sheet_51 (by omega) (by omega) (by omega) rfl (by decide) ?_
    refine r_aload_n C dX4_sheet_114 rfl ?_
    refine gf_X4_10 C P1 dX4_sheet_115 ?_
    refine r_iload_n C dX4_sheet_118 rfl ?_
    refine r_runI (fun aH aL aj a1 a2 a3 => run_V C hF.2.2.1 (kX3_stepOfMark PN QN h (by omega)) lm_X3_stepOfMark ml_X4_99 im_X3_stepOfMark se_X3_stepOfMark PN.2.1 rfl (Nat.le_of_ble_eq_true rfl) dX4_sheet_119 rfl (Nat.le_of_ble_eq_true rfl) a1 a2 a3) ?_
    rw [e9 k h h3, e10 k h h3, e1 1 (by omega) (by omega)]
    exact r_iretr C hF dX4_sheet_122 (by
            unfold ofS
            rw [if_neg (show ¬ a = 0 by omega), if_neg (show ¬ a = 1 by omega), if_pos e]
            skip) ⟨hC, fun _ _ => rfl⟩
  · rw [e]
    refine r_tsIn (tgt := 123) C dX4_sheet_51 (by omega) (by omega) (by omega) rfl (by decide) ?_
    refine r_aload_n C dX4_sheet_123 rfl ?_
    refine gf_X4_10 C P1 dX4_sheet_124 ?_
    refine r_iload_n C dX4_sheet_127 rfl ?_
    refine r_runI (fun aH aL aj a1 a2 a3 => run_V C hF.2.2.1 (kX3_breaksAheadOf PN QN h (by omega)) lm_X3_breaksAheadOf ml_X4_204 im_X3_breaksAheadOf se_X3_breaksAheadOf PN.2.1 rfl (Nat.le_of_ble_eq_true rfl) dX4_sheet_128 rfl (Nat.le_of_ble_eq_true rfl) a1 a2 a3) ?_
    rw [e1 1 (by omega) (by omega), b01_i (brk_cong (a' := vN w) (d' := vD w) (StE_N ce) (StE_D ce) h h3)]
    refine r_if_eq (tgt := 138) C dX4_sheet_131 (by decide) (by have := b01_r (brk (w 1) (vN w) (vD w) k); omega) (fun c131 => ?_) (fun c131 => ?_)
    · skip
      refine r_iconst C dX4_sheet_138 ?_
      exact r_iretr C hF dX4_sheet_139 (by
              unfold ofS
              rw [if_neg (show ¬ a = 0 by omega), if_neg (show ¬ a = 1 by omega), if_neg (show ¬ a = 2 by omega), if_pos e]
              exact c131.symm) ⟨hC, fun _ _ => rfl⟩
    · have := b01_r (brk (w 1) (vN w) (vD w) k)
      refine r_iconst C dX4_sheet_134 ?_
      refine r_goto (tgt := 139) C dX4_sheet_135 (by decide) ?_
      exact r_iretr C hF dX4_sheet_139 (by
              unfold ofS
              rw [if_neg (show ¬ a = 0 by omega), if_neg (show ¬ a = 1 by omega), if_neg (show ¬ a = 2 by omega), if_pos e]
              omega) ⟨hC, fun _ _ => rfl⟩
  · rw [e]
    refine r_tsIn (tgt := 140) C dX4_sheet_51 (by omega) (by omega) (by omega) rfl (by decide) ?_
    refine r_aload_n C dX4_sheet_140 rfl ?_
    refine gf_X4_10 C P1 dX4_sheet_141 ?_
    refine r_iload_n C dX4_sheet_144 rfl ?_
    refine r_runI (fun aH aL aj a1 a2 a3 => run_V C hF.2.2.1 (kX3_stitchesAheadOf PN QN h (by omega)) lm_X3_stitchesAheadOf ml_X4_207 im_X3_stitchesAheadOf se_X3_stitchesAheadOf PN.2.1 rfl (Nat.le_of_ble_eq_true rfl) dX4_sheet_145 rfl (Nat.le_of_ble_eq_true rfl) a1 a2 a3) ?_
    rw [stA_cong (a' := vN w) (StE_N ce) h h3, stA_hc (ho' := vH w) (StE_H ce) (veW_N cv) h h3]
    exact r_iretr C hF dX4_sheet_148 (by
            unfold ofS
            rw [if_neg (show ¬ a = 0 by omega), if_neg (show ¬ a = 1 by omega), if_neg (show ¬ a = 2 by omega), if_neg (show ¬ a = 3 by omega), if_pos e]
            skip) ⟨hC, fun _ _ => rfl⟩
  · rw [e]
    refine r_tsOut (tgt := 149) C dX4_sheet_51 (by omega) (by omega) (by decide) ?_
    refine r_aload_n C dX4_sheet_149 rfl ?_
    refine gf_X4_10 C P1 dX4_sheet_150 ?_
    refine gf_X4_71 C PN.2.1 dX4_sheet_153 ?_
    refine r_iload_n C dX4_sheet_156 rfl ?_
    refine r_runI (fun aH aL aj a1 a2 a3 => run_V C hF.2.2.1 (kX0_greaterAheadOf PN.2.2.1 WB h (by omega)) lm_X0_greaterAheadOf ml_X4_210 im_X0_greaterAheadOf se_X0_greaterAheadOf PN.2.2.1.2.1 rfl (Nat.le_of_ble_eq_true rfl) dX4_sheet_157 rfl (Nat.le_of_ble_eq_true rfl) a1 a2 a3) ?_
    rw [gr_cong (a' := vN w) (StE_N ce) h h3]
    exact r_iretr C hF dX4_sheet_160 (by
            unfold ofS
            rw [if_neg (show ¬ a = 0 by omega), if_neg (show ¬ a = 1 by omega), if_neg (show ¬ a = 2 by omega), if_neg (show ¬ a = 3 by omega), if_neg (show ¬ a = 4 by omega)]
            skip) ⟨hC, fun _ _ => rfl⟩
set_option maxRecDepth 20000 in
set_option maxHeartbeats 2000000 in
theorem kX4_bin_0 {V : Wo} {μ : Mem} {q : Nat} {K : Int} {w tx : Int → Int} {sv kp ln : Int} (hC : CI V K q μ w tx sv kp ln) {x : Int} (hr : inR x) {a : Int} (hr2 : inR a) (h : 0 ≤ x ∧ x < 16) (h2 : 0 ≤ a ∧ a ≤ 4) : Con V 2 yX4_bin cX4_bin 3 (some .int) [vR q, vI x, vI a] (μ) (QIr V (ofB w x a) ((fun ν => CI V (K) q ν (w) (tx) (sv) (kp) (ln) ∧ ∀ r, (r < q ∨ q + 112 < r) → ν r = μ r))) := by
  refine con_of (ls0 := [vR q, vI x, vI a]) (by decide +kernel) rfl (Nat.le_of_ble_eq_true rfl) (Nat.le_of_ble_eq_true rfl) (fun X hV C hF => ?_)
  subst hV
  have C : Ok X RX4 cX4_bin 3 2 := C
  have hS := hC.1
  have hW := CI_SpW hC
  obtain ⟨P0, P1, PN, PS, PT, PH, PR, PB⟩ := id hS
  obtain ⟨QN, QH, Q6, Q7, QB, QR, QA⟩ := id hW
  obtain ⟨-, ⟨cv, ce⟩, ⟨ck1, ck2, ck3⟩, ⟨cs1, cs2, cs3, cs4, cs5, cs6⟩, ⟨cb1, cb2, cb3, cb4⟩, cr⟩ := id hC
  obtain ⟨v0, v1, v2, v3, v4, v5, v6, v7, v8, v9, v10⟩ := id cv
  obtain ⟨e1, e2, e3, e4, e5, e6, e7, e8, e9, e10⟩ := id ce
  obtain ⟨hK, WB, Wc, Wi, Wp, Wh, Ws0, Ws1, Ws2, Wbk, Wls⟩ := id QN
  refine r_iload_n C dX4_bin_0 rfl ?_
  refine r_runI (fun aH aL aj a1 a2 a3 => run_S C hF.2.2.1 (kX4_isBin (i := x) (by omega)) lm_X4_isBin ml_X4_48 sm_X4_isBin (Nat.le_of_ble_eq_true rfl) dX4_bin_1 rfl (Nat.le_of_ble_eq_true rfl) a1 a2 a3) ?_
  rw [b01_t (by omega)]
  refine r_if_ne (tgt := 17) C dX4_bin_4 (by decide) (by omega) (fun c4 => ?_) (fun c4 => absurd c4 (by omega))
  refine r_iload_n C dX4_bin_17 rfl ?_
  refine r_if_lt (tgt := 26) C dX4_bin_18 (by decide) (by omega) (fun c18 => absurd c18 (by omega)) (fun c18 => ?_)
  refine r_iload_n C dX4_bin_21 rfl ?_
  refine r_iconst C dX4_bin_22 ?_
  refine r_icmp_lt (tgt := 36) C dX4_bin_23 (by decide) (by omega) (by omega) (fun c23 => ?_) (fun c23 => absurd c23 (by omega))
  refine r_iload_n C dX4_bin_36 rfl ?_
  have hw3 : a = 0 ∨ a = 1 ∨ a = 2 ∨ a = 3 ∨ a = 4 := by omega
  rcases hw3 with e | e | e | e | e
  · rw [e]
    refine r_tsIn (tgt := 68) C dX4_bin_37 (by omega) (by omega) (by omega) rfl (by decide) ?_
    refine r_aload_n C dX4_bin_68 rfl ?_
    refine gf_X4_10 C P1 dX4_bin_69 ?_
    refine gf_X4_127 C PN.2.1 dX4_bin_72 ?_
    refine r_iload_n C dX4_bin_75 rfl ?_
    refine r_runI (fun aH aL aj a1 a2 a3 => run_S C hF.2.2.1 (kX4_at PN.2.2.2.1 (by decide) h.1 (by omega)) lm_X4_at ml_X4_130 sm_X4_at (Nat.le_of_ble_eq_true rfl) dX4_bin_76 rfl (Nat.le_of_ble_eq_true rfl) a1 a2 a3) ?_
    rw [e5 x h.1 h.2]
    exact r_iretr C hF dX4_bin_79 (by
            unfold ofB
            rw [if_pos e]
            skip) ⟨hC, fun _ _ => rfl⟩
  · rw [e]
    refine r_tsIn (tgt := 80) C dX4_bin_37 (by omega) (by omega) (by omega) rfl (by decide) ?_
    refine r_aload_n C dX4_bin_80 rfl ?_
    refine gf_X4_10 C P1 dX4_bin_81 ?_
    refine gf_X4_71 C PN.2.1 dX4_bin_84 ?_
    refine r_iload_n C dX4_bin_87 rfl ?_
    refine r_runI (fun aH aL aj a1 a2 a3 => run_V C hF.2.2.1 (kX0_copiesOf PN.2.2.1 WB (x := x) (by omega)) lm_X0_copiesOf ml_X4_213 im_X0_copiesOf se_X0_copiesOf PN.2.2.1.2.1 rfl (Nat.le_of_ble_eq_true rfl) dX4_bin_88 rfl (Nat.le_of_ble_eq_true rfl) a1 a2 a3) ?_
    rw [StE_cnX ce]
    exact r_iretr C hF dX4_bin_91 (by
            unfold ofB
            rw [if_neg (show ¬ a = 0 by omega), if_pos e]
            skip) ⟨hC, fun _ _ => rfl⟩
  · rw [e]
    refine r_tsIn (tgt := 92) C dX4_bin_37 (by omega) (by omega) (by omega) rfl (by decide) ?_
    refine r_aload_n C dX4_bin_92 rfl ?_
    refine gf_X4_10 C P1 dX4_bin_93 ?_
    refine gf_X4_216 C PN.2.1 dX4_bin_96 ?_
    refine r_iload_n C dX4_bin_99 rfl ?_
    refine r_runI (fun aH aL aj a1 a2 a3 => run_S C hF.2.2.1 (kX4_at PN.2.2.2.2.1 (by decide) h.1 (by omega)) lm_X4_at ml_X4_130 sm_X4_at (Nat.le_of_ble_eq_true rfl) dX4_bin_100 rfl (Nat.le_of_ble_eq_true rfl) a1 a2 a3) ?_
    rw [e6 x h.1 h.2]
    exact r_iretr C hF dX4_bin_103 (by
            unfold ofB
            rw [if_neg (show ¬ a = 0 by omega), if_neg (show ¬ a = 1 by omega), if_pos e]
            skip) ⟨hC, fun _ _ => rfl⟩
  · rw [e]
    refine r_tsIn (tgt := 104) C dX4_bin_37 (by omega) (by omega) (by omega) rfl (by decide) ?_
    refine r_aload_n C dX4_bin_104 rfl ?_
    refine gf_X4_10 C P1 dX4_bin_105 ?_
    refine gf_X4_140 C PN.2.1 dX4_bin_108 ?_
    refine r_iload_n C dX4_bin_111 rfl ?_
    refine r_runI (fun aH aL aj a1 a2 a3 => run_S C hF.2.2.1 (kX4_at PN.2.2.2.2.2.1 (by decide) h.1 (by omega)) lm_X4_at ml_X4_130 sm_X4_at (Nat.le_of_ble_eq_true rfl) dX4_bin_112 rfl (Nat.le_of_ble_eq_true rfl) a1 a2 a3) ?_
    rw [e7 x h.1 h.2]
    exact r_iretr C hF dX4_bin_115 (by
            unfold ofB
            rw [if_neg (show ¬ a = 0 by omega), if_neg (show ¬ a = 1 by omega), if_neg (show ¬ a = 2 by omega), if_pos e]
            skip) ⟨hC, fun _ _ => rfl⟩
  · rw [e]
    refine r_tsOut (tgt := 116) C dX4_bin_37 (by omega) (by omega) (by decide) ?_
    refine r_aload_n C dX4_bin_116 rfl ?_
    refine gf_X4_10 C P1 dX4_bin_117 ?_
    refine gf_X4_145 C PN.2.1 dX4_bin_120 ?_
    refine r_iload_n C dX4_bin_123 rfl ?_
    refine r_runI (fun aH aL aj a1 a2 a3 => run_S C hF.2.2.1 (kX4_at PN.2.2.2.2.2.2.1 (by decide) h.1 (by omega)) lm_X4_at ml_X4_130 sm_X4_at (Nat.le_of_ble_eq_true rfl) dX4_bin_124 rfl (Nat.le_of_ble_eq_true rfl) a1 a2 a3) ?_
    rw [e8 x h.1 h.2]
    exact r_iretr C hF dX4_bin_127 (by
            unfold ofB
            rw [if_neg (show ¬ a = 0 by omega), if_neg (show ¬ a = 1 by omega), if_neg (show ¬ a = 2 by omega), if_neg (show ¬ a = 3 by omega)]
            skip) ⟨hC, fun _ _ => rfl⟩
set_option maxRecDepth 20000 in
set_option maxHeartbeats 2000000 in
theorem kX4_fits_c {V : Wo} {μ : Mem} {q : Nat} {K : Int} {w tx : Int → Int} {sv kp ln : Int} (hC : CI V K q μ w tx sv kp ln) : Con V 4 yX4_fits cX4_fits 3 (some .int) [vR q] (μ) (QIr V (fiT w) ((fun ν => CI V (K) q ν (w) (tx) (sv) (kp) (ln) ∧ ∀ r, (r < q ∨ q + 112 < r) → ν r = μ r))) := by
  refine con_of (ls0 := [vR q, vU, vU]) (by decide +kernel) rfl (Nat.le_of_ble_eq_true rfl) (Nat.le_of_ble_eq_true rfl) (fun X hV C hF => ?_)
  subst hV
  have C : Ok X RX4 cX4_fits 3 4 := C
  have hS := hC.1
  have hW := CI_SpW hC
  obtain ⟨P0, P1, PN, PS, PT, PH, PR, PB⟩ := id hS
  obtain ⟨QN, QH, Q6, Q7, QB, QR, QA⟩ := id hW
  obtain ⟨-, ⟨cv, ce⟩, ⟨ck1, ck2, ck3⟩, ⟨cs1, cs2, cs3, cs4, cs5, cs6⟩, ⟨cb1, cb2, cb3, cb4⟩, cr⟩ := id hC
  obtain ⟨v0, v1, v2, v3, v4, v5, v6, v7, v8, v9, v10⟩ := id cv
  obtain ⟨e1, e2, e3, e4, e5, e6, e7, e8, e9, e10⟩ := id ce
  obtain ⟨hK, WB, Wc, Wi, Wp, Wh, Ws0, Ws1, Ws2, Wbk, Wls⟩ := id QN
  refine r_aload_n C dX4_fits_0 rfl ?_
  refine gf_X4_10 C P1 dX4_fits_1 ?_
  refine gf_X4_71 C PN.2.1 dX4_fits_4 ?_
  refine gf_X4_75 C PN.2.2.1.2.1 dX4_fits_7 ?_
  refine r_bipush C dX4_fits_10 rfl ?_
  refine r_icmp_lt (tgt := 17) C dX4_fits_12 (by decide) (by omega) (by omega) (fun c12 => ?_) (fun c12 => ?_)
  · skip
    refine r_aload_n C dX4_fits_17 rfl ?_
    refine gf_X4_10 C P1 dX4_fits_18 ?_
    refine r_aload_n C dX4_fits_21 rfl ?_
    refine gf_X4_10 C P1 dX4_fits_22 ?_
    refine gf_X4_71 C PN.2.1 dX4_fits_25 ?_
    refine gf_X4_75 C PN.2.2.1.2.1 dX4_fits_28 ?_
    refine r_runI (fun aH aL aj a1 a2 a3 => run_V C hF.2.2.1 (kX3_stepDueAt PN QN (p := μ (q + 1 + 1) 2) (by omega) (Int.le_refl _)) lm_X3_stepDueAt ml_X4_262 im_X3_stepDueAt se_X3_stepDueAt PN.2.1 rfl (Nat.le_of_ble_eq_true rfl) dX4_fits_31 rfl (Nat.le_of_ble_eq_true rfl) a1 a2 a3) ?_
    rw [e1 1 (by omega) (by omega), e2, due_cong (a' := vN w) (d' := vD w) (StE_N ce) (StE_D ce) v4.1 (Int.le_refl _)]
    have hdu := due_bd (st := w 1) (a := vN w) (d := vD w) (k := w 3) (by omega)
    refine r_istore_n C dX4_fits_34 (by decide) rfl ?_
    refine r_iconst C dX4_fits_35 ?_
    refine r_istore_n C dX4_fits_36 (by decide) rfl ?_
    refine loop_up (F := fun x => fs (fun x => w 3 < 20 ∧ 0 < w (6 + x) ∧ x % w 1 = due (w 1) (vN w) (vD w) (w 3)) 0 16 = fs (fun x => w 3 < 20 ∧ 0 < w (6 + x) ∧ x % w 1 = due (w 1) (vN w) (vD w) (w 3)) x 16 → RR X μ 37 [vR q, vI (due (w 1) (vN w) (vD w) (w 3)), vI x] []) (a := 0) (b := 16) (by omega) ?_ ?_ rfl
    · intro hfs
      show RR X _ _ [vR q, vI (due (w 1) (vN w) (vD w) (w 3)), vI 16] []
      refine r_iload_n C dX4_fits_37 rfl ?_
      refine r_bipush C dX4_fits_38 rfl ?_
      refine r_icmp_ge (tgt := 77) C dX4_fits_40 (by decide) (by omega) (by omega) (fun c40 => ?_) (fun c40 => absurd c40 (by omega))
      refine r_iconst C dX4_fits_77 ?_
      exact r_iretr C hF dX4_fits_78 (by unfold fiT; rw [hfs, fs_e _ (by omega)]) ⟨hC, fun _ _ => rfl⟩
    · intro x h0 h1 K2 hfs
      show RR X _ _ [vR q, vI (due (w 1) (vN w) (vD w) (w 3)), vI x] []
      refine r_iload_n C dX4_fits_37 rfl ?_
      refine r_bipush C dX4_fits_38 rfl ?_
      refine r_icmp_ge (tgt := 77) C dX4_fits_40 (by decide) (by omega) (by omega) (fun c40 => absurd c40 (by omega)) (fun c40 => ?_)
      refine r_aload_n C dX4_fits_43 rfl ?_
      refine gf_X4_10 C P1 dX4_fits_44 ?_
      refine gf_X4_127 C PN.2.1 dX4_fits_47 ?_
      refine r_iload_n C dX4_fits_50 rfl ?_
      refine r_runI (fun aH aL aj a1 a2 a3 => run_S C hF.2.2.1 (kX4_at PN.2.2.2.1 (by decide) h0 (by omega)) lm_X4_at ml_X4_130 sm_X4_at (Nat.le_of_ble_eq_true rfl) dX4_fits_51 rfl (Nat.le_of_ble_eq_true rfl) a1 a2 a3) ?_
      rw [e5 x h0 h1]
      have h7 := v7 x h0 (by omega)
      refine r_if_le (tgt := 71) C dX4_fits_54 (by decide) (by omega) (fun c54 => ?_) (fun c54 => ?_)
      · skip
        refine r_iinc C dX4_fits_71 rfl (by decide) rfl ?_
        refine r_goto (tgt := 37) C dX4_fits_74 (by decide) ?_
        exact K2 (hfs.trans (fs_f (fun x => w 3 < 20 ∧ 0 < w (6 + x) ∧ x % w 1 = due (w 1) (vN w) (vD w) (w 3)) h1 (fun z => absurd z.2.1 (by omega))))
      · have _ := c54
        refine r_aload_n C dX4_fits_57 rfl ?_
        refine gf_X4_10 C P1 dX4_fits_58 ?_
        refine r_iload_n C dX4_fits_61 rfl ?_
        refine r_runI (fun aH aL aj a1 a2 a3 => run_V C hF.2.2.1 (kX3_stepOfNumber PN QN (x := x) (by omega) (by omega)) lm_X3_stepOfNumber ml_X4_265 im_X3_stepOfNumber se_X3_stepOfNumber PN.2.1 rfl (Nat.le_of_ble_eq_true rfl) dX4_fits_62 rfl (Nat.le_of_ble_eq_true rfl) a1 a2 a3) ?_
        rw [e1 1 (by omega) (by omega)]
        have hmo : 0 ≤ x % w 1 ∧ x % w 1 < w 1 := ⟨Int.emod_nonneg _ (by omega), Int.emod_lt_of_pos _ (by omega)⟩
        refine r_iload_n C dX4_fits_65 rfl ?_
        refine r_icmp_ne (tgt := 71) C dX4_fits_66 (by decide) (by omega) (by omega) (fun c66 => ?_) (fun c66 => ?_)
        · skip
          refine r_iinc C dX4_fits_71 rfl (by decide) rfl ?_
          refine r_goto (tgt := 37) C dX4_fits_74 (by decide) ?_
          exact K2 (hfs.trans (fs_f (fun x => w 3 < 20 ∧ 0 < w (6 + x) ∧ x % w 1 = due (w 1) (vN w) (vD w) (w 3)) h1 (fun z => c66 z.2.2)))
        · skip
          refine r_iload_n C dX4_fits_69 rfl ?_
          exact r_iretr C hF dX4_fits_70 (by unfold fiT; rw [hfs, fs_t (fun x => w 3 < 20 ∧ 0 < w (6 + x) ∧ x % w 1 = due (w 1) (vN w) (vD w) (w 3)) h1 ⟨by omega, by omega, c66⟩]) ⟨hC, fun _ _ => rfl⟩
  · skip
    refine r_iconst C dX4_fits_15 ?_
    exact r_iretr C hF dX4_fits_16 (by
          unfold fiT
          rcases fs_r (fun x => w 3 < 20 ∧ 0 < w (6 + x) ∧ x % w 1 = due (w 1) (vN w) (vD w) (w 3)) 0 16 with ⟨g, -⟩ | ⟨g1, g2, g3, g4⟩
          · exact g.symm
          · exact absurd g3.1 (by omega)) ⟨hC, fun _ _ => rfl⟩
set_option maxRecDepth 20000 in
set_option maxHeartbeats 2000000 in
theorem kX4_books_c {V : Wo} {μ : Mem} {q : Nat} {K : Int} {w tx : Int → Int} {sv kp ln : Int} (hC : CI V K q μ w tx sv kp ln) : Con V 3 yX4_books cX4_books 3 (some .int) [vR q] (μ) (QIr V (poT w) ((fun ν => CI V (K) q ν (w) (tx) (sv) (kp) (ln) ∧ ∀ r, (r < q ∨ q + 112 < r) → ν r = μ r))) := by
  refine con_of (ls0 := [vR q, vU, vU]) (by decide +kernel) rfl (Nat.le_of_ble_eq_true rfl) (Nat.le_of_ble_eq_true rfl) (fun X hV C hF => ?_)
  subst hV
  have C : Ok X RX4 cX4_books 3 3 := C
  have hS := hC.1
  have hW := CI_SpW hC
  obtain ⟨P0, P1, PN, PS, PT, PH, PR, PB⟩ := id hS
  obtain ⟨QN, QH, Q6, Q7, QB, QR, QA⟩ := id hW
  obtain ⟨-, ⟨cv, ce⟩, ⟨ck1, ck2, ck3⟩, ⟨cs1, cs2, cs3, cs4, cs5, cs6⟩, ⟨cb1, cb2, cb3, cb4⟩, cr⟩ := id hC
  obtain ⟨v0, v1, v2, v3, v4, v5, v6, v7, v8, v9, v10⟩ := id cv
  obtain ⟨e1, e2, e3, e4, e5, e6, e7, e8, e9, e10⟩ := id ce
  obtain ⟨hK, WB, Wc, Wi, Wp, Wh, Ws0, Ws1, Ws2, Wbk, Wls⟩ := id QN
  refine r_aload_n C dX4_books_0 rfl ?_
  refine gf_X4_10 C P1 dX4_books_1 ?_
  refine r_iconst C dX4_books_4 ?_
  refine r_runI (fun aH aL aj a1 a2 a3 => run_V C hF.2.2.1 (kX3_copiesInBinAndBlock PN QN (x := 0) (by omega) (by omega)) lm_X3_copiesInBinAndBlock ml_X4_268 im_X3_copiesInBinAndBlock se_X3_copiesInBinAndBlock PN.2.1 rfl (Nat.le_of_ble_eq_true rfl) dX4_books_5 rfl (Nat.le_of_ble_eq_true rfl) a1 a2 a3) ?_
  rw [e5 0 (by omega) (by omega), StE_cnX ce]
  refine r_istore_n C dX4_books_8 (by decide) rfl ?_
  refine r_iconst C dX4_books_9 ?_
  refine r_istore_n C dX4_books_10 (by decide) rfl ?_
  have hpf : ∀ k, 0 ≤ k → k < 16 → 0 ≤ poF w k ∧ poF w k ≤ K + 20 := fun k k0 k1 => by
    have := v7 k k0 (by omega)
    have := cnX_bd cv k
    unfold poF
    omega
  refine loop_up (F := fun k => RR X μ 11 [vR q, vI (mn (poF w) (k - 1)), vI k] []) (a := 1) (b := w 0) v1.1 ?_ ?_
  · show RR X μ 11 [vR q, vI (mn (poF w) (w 0 - 1)), vI (w 0)] []
    refine r_iload_n C dX4_books_11 rfl ?_
    refine r_aload_n C dX4_books_12 rfl ?_
    refine gf_X4_10 C P1 dX4_books_13 ?_
    refine r_runI (fun aH aL aj a1 a2 a3 => run_V C hF.2.2.1 (kX3_bookSheets PN QN) lm_X3_bookSheets ml_X4_271 im_X3_bookSheets se_X3_bookSheets PN.2.1 rfl (Nat.le_of_ble_eq_true rfl) dX4_books_16 rfl (Nat.le_of_ble_eq_true rfl) a1 a2 a3) ?_
    rw [e1 0 (by omega) (by omega)]
    refine r_icmp_ge (tgt := 41) C dX4_books_19 (by decide) (by omega) (by omega) (fun c19 => ?_) (fun c19 => absurd c19 (by omega))
    refine r_iload_n C dX4_books_41 rfl ?_
    exact r_iretr C hF dX4_books_42 rfl ⟨hC, fun _ _ => rfl⟩
  · intro k h0 h1 K2
    show RR X _ _ [vR q, vI (mn (poF w) (k - 1)), vI k] []
    have hm := mn_bd (f := poF w) (n := k - 1) (c := K + 20) (by omega) (fun j j0 j1 => hpf j j0 (by omega))
    have hk := hpf k (by omega) (by omega)
    have he : w (6 + k) + cnX w k = poF w k := rfl
    have e : mn (poF w) (k + 1 - 1) = if poF w k < mn (poF w) (k - 1) then poF w k else mn (poF w) (k - 1) := by
      have := mn_s (poF w) (n := k - 1) (by omega)
      rw [show k - 1 + 1 = k by omega] at this
      rw [show k + 1 - 1 = k by omega]
      exact this
    rw [e] at K2
    refine r_iload_n C dX4_books_11 rfl ?_
    refine r_aload_n C dX4_books_12 rfl ?_
    refine gf_X4_10 C P1 dX4_books_13 ?_
    refine r_runI (fun aH aL aj a1 a2 a3 => run_V C hF.2.2.1 (kX3_bookSheets PN QN) lm_X3_bookSheets ml_X4_271 im_X3_bookSheets se_X3_bookSheets PN.2.1 rfl (Nat.le_of_ble_eq_true rfl) dX4_books_16 rfl (Nat.le_of_ble_eq_true rfl) a1 a2 a3) ?_
    rw [e1 0 (by omega) (by omega)]
    refine r_icmp_ge (tgt := 41) C dX4_books_19 (by decide) (by omega) (by omega) (fun c19 => absurd c19 (by omega)) (fun c19 => ?_)
    refine r_iload_n C dX4_books_22 rfl ?_
    refine r_aload_n C dX4_books_23 rfl ?_
    refine gf_X4_10 C P1 dX4_books_24 ?_
    refine r_iload_n C dX4_books_27 rfl ?_
    refine r_runI (fun aH aL aj a1 a2 a3 => run_V C hF.2.2.1 (kX3_copiesInBinAndBlock PN QN (x := k) (by omega) (by omega)) lm_X3_copiesInBinAndBlock ml_X4_268 im_X3_copiesInBinAndBlock se_X3_copiesInBinAndBlock PN.2.1 rfl (Nat.le_of_ble_eq_true rfl) dX4_books_28 rfl (Nat.le_of_ble_eq_true rfl) a1 a2 a3) ?_
    rw [e5 k (by omega) (by omega), StE_cnX ce]
    rw [he]
    refine r_min C ml_X4_274 dX4_books_31 (by omega) (by omega) (Nat.le_of_ble_eq_true rfl) (Nat.le_of_ble_eq_true rfl) ?_
    refine r_istore_n C dX4_books_34 (by decide) rfl ?_
    refine r_iinc C dX4_books_35 rfl (by decide) rfl ?_
    refine r_goto (tgt := 11) C dX4_books_38 (by decide) ?_
    exact K2
