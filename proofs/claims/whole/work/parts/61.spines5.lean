set_option maxRecDepth 20000 in
set_option maxHeartbeats 2000000 in
theorem kX4_ifPulled_0 {V : Wo} {μ : Mem} {q : Nat} {K : Int} {w tx : Int → Int} {sv kp ln : Int} (hC : CI V K q μ w tx sv kp ln) {p : Int} (hr : inR p) {a : Int} (hr2 : inR a) (h : 0 ≤ p ∧ p < w 3) (h2 : 0 ≤ a ∧ a ≤ 3) : Con V 5 yX4_ifPulled cX4_ifPulled 3 (some .int) [vR q, vI p, vI a] (μ) (QIr V (woT w p a) ((fun ν => CI V (K) q ν (w) (tx) (sv) (kp) (ln) ∧ ∀ r, (r < q ∨ q + 112 < r) → ν r = μ r))) := by
  refine con_of (ls0 := [vR q, vI p, vI a]) (by decide +kernel) rfl (Nat.le_of_ble_eq_true rfl) (Nat.le_of_ble_eq_true rfl) (fun X hV C hF => ?_)
  subst hV
  have C : Ok X RX4 cX4_ifPulled 3 5 := C
  have hS := hC.1
  have hW := CI_SpW hC
  obtain ⟨P0, P1, PN, PS, PT, PH, PR, PB⟩ := id hS
  obtain ⟨QN, QH, Q6, Q7, QB, QR, QA⟩ := id hW
  obtain ⟨-, ⟨cv, ce⟩, ⟨ck1, ck2, ck3⟩, ⟨cs1, cs2, cs3, cs4, cs5, cs6⟩, ⟨cb1, cb2, cb3, cb4⟩, cr⟩ := id hC
  obtain ⟨v0, v1, v2, v3, v4, v5, v6, v7, v8, v9, v10⟩ := id cv
  obtain ⟨e1, e2, e3, e4, e5, e6, e7, e8, e9, e10⟩ := id ce
  obtain ⟨hK, WB, Wc, Wi, Wp, Wh, Ws0, Ws1, Ws2, Wbk, Wls⟩ := id QN
  refine r_aload_n C dX4_ifPulled_0 rfl ?_
  refine gf_X4_10 C P1 dX4_ifPulled_1 ?_
  refine gf_X4_71 C PN.2.1 dX4_ifPulled_4 ?_
  refine r_iload_n C dX4_ifPulled_7 rfl ?_
  refine r_runI (fun aH aL aj a1 a2 a3 => run_V C hF.2.2.1 (kX0_hasPlace PN.2.2.1 WB (p := p) (by omega)) lm_X0_hasPlace ml_X4_86 im_X0_hasPlace se_X0_hasPlace PN.2.2.1.2.1 rfl (Nat.le_of_ble_eq_true rfl) dX4_ifPulled_8 rfl (Nat.le_of_ble_eq_true rfl) a1 a2 a3) ?_
  rw [b01_t (by omega)]
  refine r_if_ne (tgt := 24) C dX4_ifPulled_11 (by decide) (by omega) (fun c11 => ?_) (fun c11 => absurd c11 (by omega))
  refine r_iload_n C dX4_ifPulled_24 rfl ?_
  refine r_if_lt (tgt := 33) C dX4_ifPulled_25 (by decide) (by omega) (fun c25 => absurd c25 (by omega)) (fun c25 => ?_)
  refine r_iload_n C dX4_ifPulled_28 rfl ?_
  refine r_iconst C dX4_ifPulled_29 ?_
  refine r_icmp_lt (tgt := 43) C dX4_ifPulled_30 (by decide) (by omega) (by omega) (fun c30 => ?_) (fun c30 => absurd c30 (by omega))
  refine r_aload_n C dX4_ifPulled_43 rfl ?_
  refine gf_X4_19 C P1 dX4_ifPulled_44 ?_
  refine r_aload_n C dX4_ifPulled_47 rfl ?_
  refine gf_X4_10 C P1 dX4_ifPulled_48 ?_
  refine r_runV (fun aH aL aj a1 a2 a3 => run_V C hF.2.2.1 (kX3_copyFrom PT PN (by omega)) lm_X3_copyFrom ml_X4_183 im_X3_copyFrom se_X3_copyFrom PT.2.1 rfl (Nat.le_of_ble_eq_true rfl) dX4_ifPulled_51 rfl (Nat.le_of_ble_eq_true rfl) a1 a2 a3) ?_
  have ct : StE (cpS μ (q + 25) (q + 1)) (q + 25) w := StE_cp ce (by omega)
  refine r_aload_n C dX4_ifPulled_54 rfl ?_
  refine gf_X4_19 C P1 dX4_ifPulled_55 ?_
  refine gf_X4_71 C PT.2.1 dX4_ifPulled_58 ?_
  refine r_iload_n C dX4_ifPulled_61 rfl ?_
  refine r_runV (fun aH aL aj a1 a2 a3 => run_V C hF.2.2.1 (kX0_takeOut PT.2.2.1 (StE_W cv ct).2.1 h.1 (by rw [ct.2.1]; exact h.2)) lm_X0_takeOut ml_X4_255 im_X0_takeOut se_X0_takeOut PT.2.2.1.2.1 rfl (Nat.le_of_ble_eq_true rfl) dX4_ifPulled_62 rfl (Nat.le_of_ble_eq_true rfl) a1 a2 a3) ?_
  refine r_eq (μ' := (opT (cpS μ (q + 25) (q + 1)) (q + 25) p)) ?_ rfl
  have cet := StE_tak cv ct h.1 h.2
  have cvt := veW_wo cv h.1 h.2
  have cN : ∀ i, 0 ≤ i → i < w 3 - 1 → vN (woV w p) i = wN w p i := fun i i0 i1 => woV_N i0 (by omega)
  have cD : ∀ i, 0 ≤ i → i < w 3 - 1 → vD (woV w p) i = wD w p i := fun i i0 i1 => woV_D i0 (by omega)
  have l0 : woV w p 0 = w 0 := woV_lo (by omega) (by omega)
  have l1 : woV w p 1 = w 1 := woV_lo (by omega) (by omega)
  have cH : vH (woV w p) = vH (woV w p) := rfl
  have cHh : ∀ i, 0 ≤ i → i < 16 → vH (woV w p) i = vH w i := fun i i0 i1 => woV_lo (by omega) (by omega)
  refine r_iload_n C dX4_ifPulled_65 rfl ?_
  have hw3 : a = 0 ∨ a = 1 ∨ a = 2 ∨ a = 3 := by omega
  rcases hw3 with e | e | e | e
  · rw [e]
    refine r_tsIn (tgt := 92) C dX4_ifPulled_66 (by omega) (by omega) (by omega) rfl (by decide) ?_
    refine r_aload_n C dX4_ifPulled_92 rfl ?_
    refine gf_X4_19 C P1 dX4_ifPulled_93 ?_
    refine r_runI (fun aH aL aj a1 a2 a3 => run_V C hF.2.2.1 (kX3_breaks PT (StE_W cvt cet)) lm_X3_breaks ml_X4_107 im_X3_breaks se_X3_breaks PT.2.1 rfl (Nat.le_of_ble_eq_true rfl) dX4_ifPulled_96 rfl (Nat.le_of_ble_eq_true rfl) a1 a2 a3) ?_
    rw [StE_brks cet, woV_3, l1, brks_cong cN cD]
    exact r_iretr C hF dX4_ifPulled_99 (by
            unfold woT
            rw [if_pos e]
            skip) ⟨CI_f hC (fun r r0 r1 r2 r3 r4 => by rw [ opT_o (by omega), cpS_n _ (by omega)]) (by rw [ opT_o (by omega), cpS_n _ (by omega)]; exact cr), fun r hr => by rw [ opT_o (by omega), cpS_n _ (by omega)]⟩
  · rw [e]
    refine r_tsIn (tgt := 100) C dX4_ifPulled_66 (by omega) (by omega) (by omega) rfl (by decide) ?_
    refine r_aload_n C dX4_ifPulled_100 rfl ?_
    refine gf_X4_19 C P1 dX4_ifPulled_101 ?_
    refine r_runI (fun aH aL aj a1 a2 a3 => run_V C hF.2.2.1 (kX3_fault PT (StE_W cvt cet)) lm_X3_fault ml_X4_111 im_X3_fault se_X3_fault PT.2.1 rfl (Nat.le_of_ble_eq_true rfl) dX4_ifPulled_104 rfl (Nat.le_of_ble_eq_true rfl) a1 a2 a3) ?_
    rw [StE_flt cet, woV_3, l0, flt_cong cN cD]
    exact r_iretr C hF dX4_ifPulled_107 (by
            unfold woT
            rw [if_neg (show ¬ a = 0 by omega), if_pos e]
            skip) ⟨CI_f hC (fun r r0 r1 r2 r3 r4 => by rw [ opT_o (by omega), cpS_n _ (by omega)]) (by rw [ opT_o (by omega), cpS_n _ (by omega)]; exact cr), fun r hr => by rw [ opT_o (by omega), cpS_n _ (by omega)]⟩
  · rw [e]
    refine r_tsIn (tgt := 108) C dX4_ifPulled_66 (by omega) (by omega) (by omega) rfl (by decide) ?_
    refine r_aload_n C dX4_ifPulled_108 rfl ?_
    refine gf_X4_19 C P1 dX4_ifPulled_109 ?_
    refine gf_X4_71 C PT.2.1 dX4_ifPulled_112 ?_
    refine r_runI (fun aH aL aj a1 a2 a3 => run_V C hF.2.2.1 (kX0_fewestMovesBySheets PT.2.2.1 (StE_W cvt cet).2.1) lm_X0_fewestMovesBySheets ml_X4_225 im_X0_fewestMovesBySheets se_X0_fewestMovesBySheets PT.2.2.1.2.1 rfl (Nat.le_of_ble_eq_true rfl) dX4_ifPulled_115 rfl (Nat.le_of_ble_eq_true rfl) a1 a2 a3) ?_
    exact r_iretr C hF dX4_ifPulled_118 (by
            unfold woT
            rw [if_neg (show ¬ a = 0 by omega), if_neg (show ¬ a = 1 by omega), if_pos e]
            rw [cet.2.1, woV_3, lis_e (by omega) (fun i i0 i1 => (StE_N cet i i0 (by rw [woV_3]; exact i1)).trans (cN i i0 i1))]) ⟨CI_f hC (fun r r0 r1 r2 r3 r4 => by rw [wr_n _ _ (by omega), opT_o (by omega), cpS_n _ (by omega)]) (by rw [wr_n _ _ (by omega), opT_o (by omega), cpS_n _ (by omega)]; exact cr), fun r hr => by rw [wr_n _ _ (by omega), opT_o (by omega), cpS_n _ (by omega)]⟩
  · rw [e]
    refine r_tsOut (tgt := 119) C dX4_ifPulled_66 (by omega) (by omega) (by decide) ?_
    refine r_aload_n C dX4_ifPulled_119 rfl ?_
    refine gf_X4_19 C P1 dX4_ifPulled_120 ?_
    refine r_runI (fun aH aL aj a1 a2 a3 => run_V C hF.2.2.1 (kX3_stitches PT (StE_W cvt cet)) lm_X3_stitches ml_X4_234 im_X3_stitches se_X3_stitches PT.2.1 rfl (Nat.le_of_ble_eq_true rfl) dX4_ifPulled_123 rfl (Nat.le_of_ble_eq_true rfl) a1 a2 a3) ?_
    rw [StE_stS cvt cet, woV_3, stS_cong cN, stS_hc cHh (wN_b2 cv h.2)]
    exact r_iretr C hF dX4_ifPulled_126 (by
            unfold woT
            rw [if_neg (show ¬ a = 0 by omega), if_neg (show ¬ a = 1 by omega), if_neg (show ¬ a = 2 by omega)]
            skip) ⟨CI_f hC (fun r r0 r1 r2 r3 r4 => by rw [ opT_o (by omega), cpS_n _ (by omega)]) (by rw [ opT_o (by omega), cpS_n _ (by omega)]; exact cr), fun r hr => by rw [ opT_o (by omega), cpS_n _ (by omega)]⟩
