set_option maxRecDepth 20000 in
set_option maxHeartbeats 2000000 in
theorem kX4_ifPulled_0 {V : Wo} {μ : Mem} {q : Nat} {K : Int} {w tx : Int → Int} {sv kp ln : Int} (hC : CI V K q μ w tx sv kp ln) {p : Int} (hr : inR p) {a : Int} (hr2 : inR a) (h : 0 ≤ p ∧ p < w 3) (h2 : 0 ≤ a ∧ a ≤ 3) : Con V 5 yX4_ifPulled cX4_ifPulled 3 (some .int) [vR q, vI p, vI a] (μ) (QIr V (woT w p a) ((fun ν => CI V (K) q ν (w) (tx) (sv) (kp) (ln) ∧ ∀ r, (r < q ∨ q + 112 < r) → ν r = μ r))) := by
  refine con_of (ls0 := [vR q, vI p, vI a]) (by decide +kernel) rfl (Nat.le_of_ble_eq_true rfl) (Nat.le_of_ble_eq_true rfl) (fun X hV C hF => ?_)
  subst hV
  have C : Ok X RX4 cX4_ifPulled 3 5 := C
  have hS := hC.1
  have hW := CI_SpW hC
  obtain ⟨P0, P1, PN, PS, PT, PH, PR, PB⟩ := id hS
  obtain ⟨QN, QH, Q6, Q7, QB, QR, QA⟩ := id hW
  obtain ⟨-, ⟨cv, ce⟩, ⟨ck1, ck2, ck3⟩, ⟨cs1, cs2, cs3, cs4, cs5, cs6⟩, ⟨cb1, cb2, cb3, cb4⟩, cr⟩ := id hC
  obtain ⟨v0, v1, v2, v3, v4, v5, v6, v7, v8, v9, v10⟩ := id cv
  obtain ⟨e1, e2, e3, e4, e5, e6, e7, e8, e9, e10⟩ := id ce
  obtain ⟨hK, WB, Wc, Wi, Wp, Wh, Ws0, Ws1, Ws2, Wbk, Wls⟩ := id QN
  refine r_aload_n C dX4_ifPulled_0 rfl ?_
  refine gf_X4_10 C P1 dX4_ifPulled_1 ?_
  refine gf_X4_71 C PN.2.1 dX4_ifPulled_4 ?_
  refine r_iload_n C dX4_ifPulled_7 rfl ?_
  refine r_runI (fun aH aL aj a1 a2 a3 => run_V C hF.2.2.1 (kX0_hasPlace PN.2.2.1 WB (p := p) (by omega)) lm_X0_hasPlace ml_X4_86 im_X0_hasPlace se_X0_hasPlace PN.2.2.1.2.1 rfl (Nat.le_of_ble_eq_true rfl) dX4_ifPulled_8 rfl (Nat.le_of_ble_eq_true rfl) a1 a2 a3) ?_
  rw [b01_t (by omega)]
  refine r_if_ne (tgt := 24) C dX4_ifPulled_11 (by decide) (by omega) (fun c11 => ?_) (fun c11 => absurd c11 (by omega))
  refine r_iload_n C dX4_ifPulled_24 rfl ?_
  refine r_if_lt (tgt := 33) C dX4_ifPulled_25 (by decide) (by omega) (fun c25 => absurd c25 (by omega)) (fun c25 => ?_)
  refine r_iload_n C dX4_ifPulled_28 rfl ?_
  refine r_iconst C dX4_ifPulled_29 ?_
  refine r_icmp_lt (tgt := 43) C dX4_ifPulled_30 (by decide) (by omega) (by omega) (fun c30 => ?_) (fun c30 => absurd c30 (by omega))
  refine r_aload_n C dX4_ifPulled_43 rfl ?_
  refine gf_X4_19 C P1 dX4_ifPulled_44 ?_
  refine r_aload_n C dX4_ifPulled_47 rfl ?_
  refine gf_X4_10 C P1 dX4_ifPulled_48 ?_
  refine r_runV (fun aH aL aj a1 a2 a3 => run_V C hF.2.2.1 (kX3_copyFrom PT PN (by omega)) lm_X3_copyFrom ml_X4_183 im_X3_copyFrom se_X3_copyFrom PT.2.1 rfl (Nat.le_of_ble_eq_true rfl) dX4_ifPulled_51 rfl (Nat.le_of_ble_eq_true rfl) a1 a2 a3) ?_
  have ct : StE (cpS μ (q + 25) (q + 1)) (q + 25) w := StE_cp ce (by omega)
  refine r_aload_n C dX4_ifPulled_54 rfl ?_
  refine gf_X4_19 C P1 dX4_ifPulled_55 ?_
  refine gf_X4_71 C PT.2.1 dX4_ifPulled_58 ?_
  refine r_iload_n C dX4_ifPulled_61 rfl ?_
  refine r_runV (fun aH aL aj a1 a2 a3 => run_V C hF.2.2.1 (kX0_takeOut PT.2.2.1 (StE_W cv ct).2.1 h.1 (by rw [ct.2.1]; exact h.2)) lm_X0_takeOut ml_X4_255 im_X0_takeOut se_X0_takeOut PT.2.2.1.2.1 rfl (Nat.le_of_ble_eq_true rfl) dX4_ifPulled_62 rfl (Nat.le_of_ble_eq_true rfl) a1 a2 a3) ?_
  refine r_eq (μ' := (opT (cpS μ (q + 25) (q + 1)) (q + 25) p)) ?_ rfl
  have cet := StE_tak cv ct h.1 h.2
  have cvt := veW_wo cv h.1 h.2
  have cN : ∀ i, 0 ≤ i → i < w 3 - 1 → vN (woV w p) i = wN w p i := fun i i0 i1 => woV_N i0 (by omega)
  have cD : ∀ i, 0 ≤ i → i < w 3 - 1 → vD (woV w p) i = wD w p i := fun i i0 i1 => woV_D i0 (by omega)
  have l0 : woV w p 0 = w 0 := woV_lo (by omega) (by omega)
  have l1 : woV w p 1 = w 1 := woV_lo (by omega) (by omega)
  have cH : vH (woV w p) = vH (woV w p) := rfl
  have cHh : ∀ i, 0 ≤ i → i < 16 → vH (woV w p) i = vH w i := fun i i0 i1 => woV_lo (by omega) (by omega)
  refine r_iload_n C dX4_ifPulled_65 rfl ?_
  have hw3 : a = 0 ∨ a = 1 ∨ a = 2 ∨ a = 3 := by omega
  rcases hw3 with e | e | e | e
  · rw [e]
    refine r_tsIn (tgt := 92) C dX4_ifPulled_66 (by omega) (by omega) (by omega) rfl (by decide) ?_
    refine r_aload_n C dX4_ifPulled_92 rfl ?_
    refine gf_X4_19 C P1 dX4_ifPulled_93 ?_
    refine r_runI (fun aH aL aj a1 a2 a3 => run_V C hF.2.2.1 (kX3_breaks PT (StE_W cvt cet)) lm_X3_breaks ml_X4_107 im_X3_breaks se_X3_breaks PT.2.1 rfl (Nat.le_of_ble_eq_true rfl) dX4_ifPulled_96 rfl (Nat.le_of_ble_eq_true rfl) a1 a2 a3) ?_
    rw [StE_brks cet, woV_3, l1, brks_cong cN cD]
    exact r_iretr C hF dX4_ifPulled_99 (by
            unfold woT
            rw [if_pos e]
            skip) ⟨CI_f hC (fun r r0 r1 r2 r3 r4 => by rw [ opT_o (by omega), cpS_n _ (by omega)]) (by rw [ opT_o (by omega), cpS_n _ (by omega)]; exact cr), fun r hr => by rw [ opT_o (by omega), cpS_n _ (by omega)]⟩
  · rw [e]
    refine r_tsIn (tgt := 100) C dX4_ifPulled_66 (by omega) (by omega) (by omega) rfl (by decide) ?_
    refine r_aload_n C dX4_ifPulled_100 rfl ?_
    refine gf_X4_19 C P1 dX4_ifPulled_101 ?_
    refine r_runI (fun aH aL aj a1 a2 a3 => run_V C hF.2.2.1 (kX3_fault PT (StE_W cvt cet)) lm_X3_fault ml_X4_111 im_X3_fault se_X3_fault PT.2.1 rfl (Nat.le_of_ble_eq_true rfl) dX4_ifPulled_104 rfl (Nat.le_of_ble_eq_true rfl) a1 a2 a3) ?_
    rw [StE_flt cet, woV_3, l0, flt_cong cN cD]
    exact r_iretr C hF dX4_ifPulled_107 (by
            unfold woT
            rw [if_neg (show ¬ a = 0 by omega), if_pos e]
            skip) ⟨CI_f hC (fun r r0 r1 r2 r3 r4 => by rw [ opT_o (by omega), cpS_n _ (by omega)]) (by rw [ opT_o (by omega), cpS_n _ (by omega)]; exact cr), fun r hr => by rw [ opT_o (by omega), cpS_n _ (by omega)]⟩
  · rw [e]
    refine r_tsIn (tgt := 108) C dX4_ifPulled_66 (by omega) (by omega) (by omega) rfl (by decide) ?_
    refine r_aload_n C dX4_ifPulled_108 rfl ?_
    refine gf_X4_19 C P1 dX4_ifPulled_109 ?_
    refine gf_X4_71 C PT.2.1 dX4_ifPulled_112 ?_
    refine r_runI (fun aH aL aj a1 a2 a3 => run_V C hF.2.2.1 (kX0_fewestMovesBySheets PT.2.2.1 (StE_W cvt cet).2.1) lm_X0_fewestMovesBySheets ml_X4_225 im_X0_fewestMovesBySheets se_X0_fewestMovesBySheets PT.2.2.1.2.1 rfl (Nat.le_of_ble_eq_true rfl) dX4_ifPulled_115 rfl (Nat.le_of_ble_eq_true rfl) a1 a2 a3) ?_
    exact r_iretr C hF dX4_ifPulled_118 (by
            unfold woT
            rw [if_neg (show ¬ a = 0 by omega), if_neg (show ¬ a = 1 by omega), if_pos e]
            rw [cet.2.1, woV_3, lis_e (by omega) (fun i i0 i1 => (StE_N cet i i0 (by rw [woV_3]; exact i1)).trans (cN i i0 i1))]) ⟨CI_f hC (fun r r0 r1 r2 r3 r4 => by rw [wr_n _ _ (by omega), opT_o (by omega), cpS_n _ (by omega)]) (by rw [wr_n _ _ (by omega), opT_o (by omega), cpS_n _ (by omega)]; exact cr), fun r hr => by rw [wr_n _ _ (by omega), opT_o (by omega), cpS_n _ (by omega)]⟩
  · rw [e]
    refine r_tsOut (tgt := 119) C dX4_ifPulled_66 (by omega) (by omega) (by decide) ?_
    refine r_aload_n C dX4_ifPulled_119 rfl ?_
    refine gf_X4_19 C P1 dX4_ifPulled_120 ?_
    refine r_runI (fun aH aL aj a1 a2 a3 => run_V C hF.2.2.1 (kX3_stitches PT (StE_W cvt cet)) lm_X3_stitches ml_X4_234 im_X3_stitches se_X3_stitches PT.2.1 rfl (Nat.le_of_ble_eq_true rfl) dX4_ifPulled_123 rfl (Nat.le_of_ble_eq_true rfl) a1 a2 a3) ?_
    rw [StE_stS cvt cet, woV_3, stS_cong cN, stS_hc cHh (wN_b2 cv h.2)]
    exact r_iretr C hF dX4_ifPulled_126 (by
            unfold woT
            rw [if_neg (show ¬ a = 0 by omega), if_neg (show ¬ a = 1 by omega), if_neg (show ¬ a = 2 by omega)]
            skip) ⟨CI_f hC (fun r r0 r1 r2 r3 r4 => by rw [ opT_o (by omega), cpS_n _ (by omega)]) (by rw [ opT_o (by omega), cpS_n _ (by omega)]; exact cr), fun r hr => by rw [ opT_o (by omega), cpS_n _ (by omega)]⟩
set_option maxRecDepth 20000 in
set_option maxHeartbeats 2000000 in
theorem kX4_count_0 {V : Wo} {μ : Mem} {q : Nat} {K : Int} {w tx : Int → Int} {sv kp ln : Int} (hC : CI V K q μ w tx sv kp ln) {a : Int} (hr2 : inR a) (h2 : 0 ≤ a ∧ a ≤ 15) : Con V 5 yX4_count cX4_count 2 (some .int) [vR q, vI a] (μ) (QIr V (coT w sv a) ((fun ν => CI V (K) q ν (w) (tx) (sv) (kp) (ln) ∧ ∀ r, (r < q ∨ q + 112 < r) → ν r = μ r))) := by
  refine con_of (ls0 := [vR q, vI a]) (by decide +kernel) rfl (Nat.le_of_ble_eq_true rfl) (Nat.le_of_ble_eq_true rfl) (fun X hV C hF => ?_)
  subst hV
  have C : Ok X RX4 cX4_count 2 5 := C
  have hS := hC.1
  have hW := CI_SpW hC
  obtain ⟨P0, P1, PN, PS, PT, PH, PR, PB⟩ := id hS
  obtain ⟨QN, QH, Q6, Q7, QB, QR, QA⟩ := id hW
  obtain ⟨-, ⟨cv, ce⟩, ⟨ck1, ck2, ck3⟩, ⟨cs1, cs2, cs3, cs4, cs5, cs6⟩, ⟨cb1, cb2, cb3, cb4⟩, cr⟩ := id hC
  obtain ⟨v0, v1, v2, v3, v4, v5, v6, v7, v8, v9, v10⟩ := id cv
  obtain ⟨e1, e2, e3, e4, e5, e6, e7, e8, e9, e10⟩ := id ce
  obtain ⟨hK, WB, Wc, Wi, Wp, Wh, Ws0, Ws1, Ws2, Wbk, Wls⟩ := id QN
  refine r_iload_n C dX4_count_0 rfl ?_
  refine r_if_lt (tgt := 10) C dX4_count_1 (by decide) (by omega) (fun c1 => absurd c1 (by omega)) (fun c1 => ?_)
  refine r_iload_n C dX4_count_4 rfl ?_
  refine r_bipush C dX4_count_5 rfl ?_
  refine r_icmp_lt (tgt := 20) C dX4_count_7 (by decide) (by omega) (by omega) (fun c7 => ?_) (fun c7 => absurd c7 (by omega))
  refine r_iload_n C dX4_count_20 rfl ?_
  have hw3 : a = 0 ∨ a = 1 ∨ a = 2 ∨ a = 3 ∨ a = 4 ∨ a = 5 ∨ a = 6 ∨ a = 7 ∨ a = 8 ∨ a = 9 ∨ a = 10 ∨ a = 11 ∨ a = 12 ∨ a = 13 ∨ a = 14 ∨ a = 15 := by omega
  rcases hw3 with e | e | e | e | e | e | e | e | e | e | e | e | e | e | e | e
  · rw [e]
    refine r_tsIn (tgt := 96) C dX4_count_21 (by omega) (by omega) (by omega) rfl (by decide) ?_
    refine r_aload_n C dX4_count_96 rfl ?_
    refine gf_X4_10 C P1 dX4_count_97 ?_
    refine gf_X4_71 C PN.2.1 dX4_count_100 ?_
    refine gf_X4_75 C PN.2.2.1.2.1 dX4_count_103 ?_
    rw [e2]
    exact r_iretr C hF dX4_count_106 (by
            unfold coT
            rw [if_pos e]
            skip) ⟨hC, fun _ _ => rfl⟩
  · rw [e]
    refine r_tsIn (tgt := 107) C dX4_count_21 (by omega) (by omega) (by omega) rfl (by decide) ?_
    refine r_aload_n C dX4_count_107 rfl ?_
    refine gf_X4_10 C P1 dX4_count_108 ?_
    refine r_runI (fun aH aL aj a1 a2 a3 => run_V C hF.2.2.1 (kX3_breaks PN QN) lm_X3_breaks ml_X4_107 im_X3_breaks se_X3_breaks PN.2.1 rfl (Nat.le_of_ble_eq_true rfl) dX4_count_111 rfl (Nat.le_of_ble_eq_true rfl) a1 a2 a3) ?_
    rw [StE_brks ce]
    exact r_iretr C hF dX4_count_114 (by
            unfold coT
            rw [if_neg (show ¬ a = 0 by omega), if_pos e]
            skip) ⟨hC, fun _ _ => rfl⟩
  · rw [e]
    refine r_tsIn (tgt := 115) C dX4_count_21 (by omega) (by omega) (by omega) rfl (by decide) ?_
    refine r_aload_n C dX4_count_115 rfl ?_
    refine gf_X4_10 C P1 dX4_count_116 ?_
    refine r_runI (fun aH aL aj a1 a2 a3 => run_V C hF.2.2.1 (kX3_fault PN QN) lm_X3_fault ml_X4_111 im_X3_fault se_X3_fault PN.2.1 rfl (Nat.le_of_ble_eq_true rfl) dX4_count_119 rfl (Nat.le_of_ble_eq_true rfl) a1 a2 a3) ?_
    rw [StE_flt ce]
    exact r_iretr C hF dX4_count_122 (by
            unfold coT
            rw [if_neg (show ¬ a = 0 by omega), if_neg (show ¬ a = 1 by omega), if_pos e]
            skip) ⟨hC, fun _ _ => rfl⟩
  · rw [e]
    refine r_tsIn (tgt := 123) C dX4_count_21 (by omega) (by omega) (by omega) rfl (by decide) ?_
    refine r_aload_n C dX4_count_123 rfl ?_
    refine gf_X4_10 C P1 dX4_count_124 ?_
    refine r_runI (fun aH aL aj a1 a2 a3 => run_V C hF.2.2.1 (kX3_placeOfFault PN QN) lm_X3_placeOfFault ml_X4_219 im_X3_placeOfFault se_X3_placeOfFault PN.2.1 rfl (Nat.le_of_ble_eq_true rfl) dX4_count_127 rfl (Nat.le_of_ble_eq_true rfl) a1 a2 a3) ?_
    rw [StE_plf ce]
    exact r_iretr C hF dX4_count_130 (by
            unfold coT
            rw [if_neg (show ¬ a = 0 by omega), if_neg (show ¬ a = 1 by omega), if_neg (show ¬ a = 2 by omega), if_pos e]
            skip) ⟨hC, fun _ _ => rfl⟩
  · rw [e]
    refine r_tsIn (tgt := 131) C dX4_count_21 (by omega) (by omega) (by omega) rfl (by decide) ?_
    refine r_aload_n C dX4_count_131 rfl ?_
    refine gf_X4_10 C P1 dX4_count_132 ?_
    refine r_runI (fun aH aL aj a1 a2 a3 => run_V C hF.2.2.1 (kX3_lowestMissing PN QN) lm_X3_lowestMissing ml_X4_222 im_X3_lowestMissing se_X3_lowestMissing PN.2.1 rfl (Nat.le_of_ble_eq_true rfl) dX4_count_135 rfl (Nat.le_of_ble_eq_true rfl) a1 a2 a3) ?_
    rw [StE_mis ce]
    exact r_iretr C hF dX4_count_138 (by
            unfold coT
            rw [if_neg (show ¬ a = 0 by omega), if_neg (show ¬ a = 1 by omega), if_neg (show ¬ a = 2 by omega), if_neg (show ¬ a = 3 by omega), if_pos e]
            skip) ⟨hC, fun _ _ => rfl⟩
  · rw [e]
    refine r_tsIn (tgt := 139) C dX4_count_21 (by omega) (by omega) (by omega) rfl (by decide) ?_
    refine r_aload_n C dX4_count_139 rfl ?_
    refine gf_X4_10 C P1 dX4_count_140 ?_
    refine r_runI (fun aH aL aj a1 a2 a3 => run_V C hF.2.2.1 (kX3_fault PN QN) lm_X3_fault ml_X4_111 im_X3_fault se_X3_fault PN.2.1 rfl (Nat.le_of_ble_eq_true rfl) dX4_count_143 rfl (Nat.le_of_ble_eq_true rfl) a1 a2 a3) ?_
    rw [StE_flt ce]
    have hfl := flt_r (w 0) (vN w) (vD w) (w 3)
    refine r_if_eq (tgt := 163) C dX4_count_146 (by decide) (by omega) (fun c146 => ?_) (fun c146 => ?_)
    · skip
      refine r_iconst C dX4_count_163 ?_
      exact r_iretr C hF dX4_count_164 (by
              unfold coT
              rw [if_neg (show ¬ a = 0 by omega), if_neg (show ¬ a = 1 by omega), if_neg (show ¬ a = 2 by omega), if_neg (show ¬ a = 3 by omega), if_neg (show ¬ a = 4 by omega), if_pos e]
              rw [b01_f (by omega)]) ⟨hC, fun _ _ => rfl⟩
    · have _ := c146
      refine r_aload_n C dX4_count_149 rfl ?_
      refine gf_X4_10 C P1 dX4_count_150 ?_
      refine r_runI (fun aH aL aj a1 a2 a3 => run_V C hF.2.2.1 (kX3_breaks PN QN) lm_X3_breaks ml_X4_107 im_X3_breaks se_X3_breaks PN.2.1 rfl (Nat.le_of_ble_eq_true rfl) dX4_count_153 rfl (Nat.le_of_ble_eq_true rfl) a1 a2 a3) ?_
      rw [StE_brks ce]
      have hbk := brks_r (w 1) (vN w) (vD w) v4.1
      refine r_if_ne (tgt := 163) C dX4_count_156 (by decide) (by omega) (fun c156 => ?_) (fun c156 => ?_)
      · skip
        refine r_iconst C dX4_count_163 ?_
        exact r_iretr C hF dX4_count_164 (by
                unfold coT
                rw [if_neg (show ¬ a = 0 by omega), if_neg (show ¬ a = 1 by omega), if_neg (show ¬ a = 2 by omega), if_neg (show ¬ a = 3 by omega), if_neg (show ¬ a = 4 by omega), if_pos e]
                rw [b01_f (by omega)]) ⟨hC, fun _ _ => rfl⟩
      · skip
        refine r_iconst C dX4_count_159 ?_
        refine r_goto (tgt := 164) C dX4_count_160 (by decide) ?_
        exact r_iretr C hF dX4_count_164 (by
                unfold coT
                rw [if_neg (show ¬ a = 0 by omega), if_neg (show ¬ a = 1 by omega), if_neg (show ¬ a = 2 by omega), if_neg (show ¬ a = 3 by omega), if_neg (show ¬ a = 4 by omega), if_pos e]
                rw [b01_t (by omega)]) ⟨hC, fun _ _ => rfl⟩
  · rw [e]
    refine r_tsIn (tgt := 165) C dX4_count_21 (by omega) (by omega) (by omega) rfl (by decide) ?_
    refine r_aload_n C dX4_count_165 rfl ?_
    refine gf_X4_10 C P1 dX4_count_166 ?_
    refine gf_X4_71 C PN.2.1 dX4_count_169 ?_
    refine r_runI (fun aH aL aj a1 a2 a3 => run_V C hF.2.2.1 (kX0_fewestMovesBySheets PN.2.2.1 WB) lm_X0_fewestMovesBySheets ml_X4_225 im_X0_fewestMovesBySheets se_X0_fewestMovesBySheets PN.2.2.1.2.1 rfl (Nat.le_of_ble_eq_true rfl) dX4_count_172 rfl (Nat.le_of_ble_eq_true rfl) a1 a2 a3) ?_
    exact r_iretr C hF dX4_count_175 (by
            unfold coT
            rw [if_neg (show ¬ a = 0 by omega), if_neg (show ¬ a = 1 by omega), if_neg (show ¬ a = 2 by omega), if_neg (show ¬ a = 3 by omega), if_neg (show ¬ a = 4 by omega), if_neg (show ¬ a = 5 by omega), if_pos (show a = 6 ∨ a = 7 by omega)]
            rw [e2, lis_e v4.1 (StE_N ce)]) ⟨CI_f hC (fun r r0 r1 r2 r3 r4 => wr_n _ _ (by omega)) (by rw [wr_n _ _ (by omega)]; exact cr), fun r hr => wr_n _ _ (by omega)⟩
  · rw [e]
    refine r_tsIn (tgt := 176) C dX4_count_21 (by omega) (by omega) (by omega) rfl (by decide) ?_
    refine r_aload_n C dX4_count_176 rfl ?_
    refine gf_X4_10 C P1 dX4_count_177 ?_
    refine gf_X4_71 C PN.2.1 dX4_count_180 ?_
    refine r_runI (fun aH aL aj a1 a2 a3 => run_V C hF.2.2.1 (kX0_fewestMovesByPiles PN.2.2.1 WB) lm_X0_fewestMovesByPiles ml_X4_228 im_X0_fewestMovesByPiles se_X0_fewestMovesByPiles PN.2.2.1.2.1 rfl (Nat.le_of_ble_eq_true rfl) dX4_count_183 rfl (Nat.le_of_ble_eq_true rfl) a1 a2 a3) ?_
    exact r_iretr C hF dX4_count_186 (by
            unfold coT
            rw [if_neg (show ¬ a = 0 by omega), if_neg (show ¬ a = 1 by omega), if_neg (show ¬ a = 2 by omega), if_neg (show ¬ a = 3 by omega), if_neg (show ¬ a = 4 by omega), if_neg (show ¬ a = 5 by omega), if_pos (show a = 6 ∨ a = 7 by omega)]
            rw [e2, pil_e v4.1 (StE_N ce)]) ⟨CI_f hC (fun r r0 r1 r2 r3 r4 => wr_n _ _ (by omega)) (by rw [wr_n _ _ (by omega)]; exact cr), fun r hr => wr_n _ _ (by omega)⟩
  · rw [e]
    refine r_tsIn (tgt := 187) C dX4_count_21 (by omega) (by omega) (by omega) rfl (by decide) ?_
    refine r_aload_n C dX4_count_187 rfl ?_
    refine gf_X4_10 C P1 dX4_count_188 ?_
    refine gf_X4_71 C PN.2.1 dX4_count_191 ?_
    refine r_runI (fun aH aL aj a1 a2 a3 => run_V C hF.2.2.1 (kX0_fallingPairs PN.2.2.1 WB) lm_X0_fallingPairs ml_X4_231 im_X0_fallingPairs se_X0_fallingPairs PN.2.2.1.2.1 rfl (Nat.le_of_ble_eq_true rfl) dX4_count_194 rfl (Nat.le_of_ble_eq_true rfl) a1 a2 a3) ?_
    rw [e2, pr_cong (a' := vN w) (StE_N ce)]
    exact r_iretr C hF dX4_count_197 (by
            unfold coT
            rw [if_neg (show ¬ a = 0 by omega), if_neg (show ¬ a = 1 by omega), if_neg (show ¬ a = 2 by omega), if_neg (show ¬ a = 3 by omega), if_neg (show ¬ a = 4 by omega), if_neg (show ¬ a = 5 by omega), if_neg (show ¬ (a = 6 ∨ a = 7) by omega), if_pos e]
            skip) ⟨hC, fun _ _ => rfl⟩
  · rw [e]
    refine r_tsIn (tgt := 198) C dX4_count_21 (by omega) (by omega) (by omega) rfl (by decide) ?_
    refine r_aload_n C dX4_count_198 rfl ?_
    refine gf_X4_10 C P1 dX4_count_199 ?_
    refine r_runI (fun aH aL aj a1 a2 a3 => run_V C hF.2.2.1 (kX3_stitches PN QN) lm_X3_stitches ml_X4_234 im_X3_stitches se_X3_stitches PN.2.1 rfl (Nat.le_of_ble_eq_true rfl) dX4_count_202 rfl (Nat.le_of_ble_eq_true rfl) a1 a2 a3) ?_
    rw [StE_stS cv ce]
    exact r_iretr C hF dX4_count_205 (by
            unfold coT
            rw [if_neg (show ¬ a = 0 by omega), if_neg (show ¬ a = 1 by omega), if_neg (show ¬ a = 2 by omega), if_neg (show ¬ a = 3 by omega), if_neg (show ¬ a = 4 by omega), if_neg (show ¬ a = 5 by omega), if_neg (show ¬ (a = 6 ∨ a = 7) by omega), if_neg (show ¬ a = 8 by omega), if_pos e]
            skip) ⟨hC, fun _ _ => rfl⟩
  · rw [e]
    refine r_tsIn (tgt := 206) C dX4_count_21 (by omega) (by omega) (by omega) rfl (by decide) ?_
    refine r_aload_n C dX4_count_206 rfl ?_
    refine gf_X4_10 C P1 dX4_count_207 ?_
    refine r_runI (fun aH aL aj a1 a2 a3 => run_V C hF.2.2.1 (kX3_threadLength PN QN) lm_X3_threadLength ml_X4_237 im_X3_threadLength se_X3_threadLength PN.2.1 rfl (Nat.le_of_ble_eq_true rfl) dX4_count_210 rfl (Nat.le_of_ble_eq_true rfl) a1 a2 a3) ?_
    rw [StE_thS cv ce]
    exact r_iretr C hF dX4_count_213 (by
            unfold coT
            rw [if_neg (show ¬ a = 0 by omega), if_neg (show ¬ a = 1 by omega), if_neg (show ¬ a = 2 by omega), if_neg (show ¬ a = 3 by omega), if_neg (show ¬ a = 4 by omega), if_neg (show ¬ a = 5 by omega), if_neg (show ¬ (a = 6 ∨ a = 7) by omega), if_neg (show ¬ a = 8 by omega), if_neg (show ¬ a = 9 by omega), if_pos e]
            skip) ⟨hC, fun _ _ => rfl⟩
  · rw [e]
    refine r_tsIn (tgt := 214) C dX4_count_21 (by omega) (by omega) (by omega) rfl (by decide) ?_
    refine r_aload_n C dX4_count_214 rfl ?_
    refine gf_X4_10 C P1 dX4_count_215 ?_
    refine r_runI (fun aH aL aj a1 a2 a3 => run_V C hF.2.2.1 (kX3_loosePlaces PN QN) lm_X3_loosePlaces ml_X4_240 im_X3_loosePlaces se_X3_loosePlaces PN.2.1 rfl (Nat.le_of_ble_eq_true rfl) dX4_count_218 rfl (Nat.le_of_ble_eq_true rfl) a1 a2 a3) ?_
    rw [StE_lsS cv ce]
    exact r_iretr C hF dX4_count_221 (by
            unfold coT
            rw [if_neg (show ¬ a = 0 by omega), if_neg (show ¬ a = 1 by omega), if_neg (show ¬ a = 2 by omega), if_neg (show ¬ a = 3 by omega), if_neg (show ¬ a = 4 by omega), if_neg (show ¬ a = 5 by omega), if_neg (show ¬ (a = 6 ∨ a = 7) by omega), if_neg (show ¬ a = 8 by omega), if_neg (show ¬ a = 9 by omega), if_neg (show ¬ a = 10 by omega), if_pos e]
            skip) ⟨hC, fun _ _ => rfl⟩
  · rw [e]
    refine r_tsIn (tgt := 222) C dX4_count_21 (by omega) (by omega) (by omega) rfl (by decide) ?_
    refine r_aload_n C dX4_count_222 rfl ?_
    refine gf_X4_10 C P1 dX4_count_223 ?_
    refine gf_X4_119 C PN.2.1 dX4_count_226 ?_
    rw [e3]
    exact r_iretr C hF dX4_count_229 (by
            unfold coT
            rw [if_neg (show ¬ a = 0 by omega), if_neg (show ¬ a = 1 by omega), if_neg (show ¬ a = 2 by omega), if_neg (show ¬ a = 3 by omega), if_neg (show ¬ a = 4 by omega), if_neg (show ¬ a = 5 by omega), if_neg (show ¬ (a = 6 ∨ a = 7) by omega), if_neg (show ¬ a = 8 by omega), if_neg (show ¬ a = 9 by omega), if_neg (show ¬ a = 10 by omega), if_neg (show ¬ a = 11 by omega), if_pos e]
            skip) ⟨hC, fun _ _ => rfl⟩
  · rw [e]
    refine r_tsIn (tgt := 230) C dX4_count_21 (by omega) (by omega) (by omega) rfl (by decide) ?_
    refine r_aload_n C dX4_count_230 rfl ?_
    refine gf_X4_10 C P1 dX4_count_231 ?_
    refine r_runI (fun aH aL aj a1 a2 a3 => run_V C hF.2.2.1 (kX3_sheetsInBooks PN QN) lm_X3_sheetsInBooks ml_X4_243 im_X3_sheetsInBooks se_X3_sheetsInBooks PN.2.1 rfl (Nat.le_of_ble_eq_true rfl) dX4_count_234 rfl (Nat.le_of_ble_eq_true rfl) a1 a2 a3) ?_
    rw [sm_cong (g := fun k => w (22 + k)) (fun k k0 k1 => e6 k k0 k1)]
    exact r_iretr C hF dX4_count_237 (by
            unfold coT
            rw [if_neg (show ¬ a = 0 by omega), if_neg (show ¬ a = 1 by omega), if_neg (show ¬ a = 2 by omega), if_neg (show ¬ a = 3 by omega), if_neg (show ¬ a = 4 by omega), if_neg (show ¬ a = 5 by omega), if_neg (show ¬ (a = 6 ∨ a = 7) by omega), if_neg (show ¬ a = 8 by omega), if_neg (show ¬ a = 9 by omega), if_neg (show ¬ a = 10 by omega), if_neg (show ¬ a = 11 by omega), if_neg (show ¬ a = 12 by omega), if_pos e]
            skip) ⟨hC, fun _ _ => rfl⟩
  · rw [e]
    refine r_tsIn (tgt := 238) C dX4_count_21 (by omega) (by omega) (by omega) rfl (by decide) ?_
    refine r_aload_n C dX4_count_238 rfl ?_
    refine gf_X4_10 C P1 dX4_count_239 ?_
    refine gf_X4_246 C PN.2.1 dX4_count_242 ?_
    rw [e4]
    exact r_iretr C hF dX4_count_245 (by
            unfold coT
            rw [if_neg (show ¬ a = 0 by omega), if_neg (show ¬ a = 1 by omega), if_neg (show ¬ a = 2 by omega), if_neg (show ¬ a = 3 by omega), if_neg (show ¬ a = 4 by omega), if_neg (show ¬ a = 5 by omega), if_neg (show ¬ (a = 6 ∨ a = 7) by omega), if_neg (show ¬ a = 8 by omega), if_neg (show ¬ a = 9 by omega), if_neg (show ¬ a = 10 by omega), if_neg (show ¬ a = 11 by omega), if_neg (show ¬ a = 12 by omega), if_neg (show ¬ a = 13 by omega), if_pos e]
            skip) ⟨hC, fun _ _ => rfl⟩
  · rw [e]
    refine r_tsOut (tgt := 246) C dX4_count_21 (by omega) (by omega) (by decide) ?_
    refine r_aload_n C dX4_count_246 rfl ?_
    refine gf_X4_25 C P1 dX4_count_247 ?_
    refine gf_X4_188 C PH.2.1 dX4_count_250 ?_
    rw [cs2]
    exact r_iretr C hF dX4_count_253 (by
            unfold coT
            rw [if_neg (show ¬ a = 0 by omega), if_neg (show ¬ a = 1 by omega), if_neg (show ¬ a = 2 by omega), if_neg (show ¬ a = 3 by omega), if_neg (show ¬ a = 4 by omega), if_neg (show ¬ a = 5 by omega), if_neg (show ¬ (a = 6 ∨ a = 7) by omega), if_neg (show ¬ a = 8 by omega), if_neg (show ¬ a = 9 by omega), if_neg (show ¬ a = 10 by omega), if_neg (show ¬ a = 11 by omega), if_neg (show ¬ a = 12 by omega), if_neg (show ¬ a = 13 by omega), if_neg (show ¬ a = 14 by omega)]
            skip) ⟨hC, fun _ _ => rfl⟩
