set_option maxRecDepth 20000 in
set_option maxHeartbeats 2000000 in
theorem kX4_nextMove_c {V : Wo} {μ : Mem} {q : Nat} {K : Int} {w tx : Int → Int} {sv kp ln : Int} (hC : CI V K q μ w tx sv kp ln) : Con V 4 yX4_nextMove cX4_nextMove 6 (some .int) [vR q] (μ) (QIr V (nmT w) ((fun ν => CI V (K) q ν (w) (tx) (sv) (kp) (ln) ∧ ∀ r, (r < q ∨ q + 112 < r) → ν r = μ r))) := by
  refine con_of (ls0 := [vR q, vU, vU, vU, vU, vU]) (by decide +kernel) rfl (Nat.le_of_ble_eq_true rfl) (Nat.le_of_ble_eq_true rfl) (fun X hV C hF => ?_)
  subst hV
  have C : Ok X RX4 cX4_nextMove 6 4 := C
  have hS := hC.1
  have hW := CI_SpW hC
  obtain ⟨P0, P1, PN, PS, PT, PH, PR, PB⟩ := id hS
  obtain ⟨QN, QH, Q6, Q7, QB, QR, QA⟩ := id hW
  obtain ⟨-, ⟨cv, ce⟩, ⟨ck1, ck2, ck3⟩, ⟨cs1, cs2, cs3, cs4, cs5, cs6⟩, ⟨cb1, cb2, cb3, cb4⟩, cr⟩ := id hC
  obtain ⟨v0, v1, v2, v3, v4, v5, v6, v7, v8, v9, v10⟩ := id cv
  obtain ⟨e1, e2, e3, e4, e5, e6, e7, e8, e9, e10⟩ := id ce
  obtain ⟨hK, WB, Wc, Wi, Wp, Wh, Ws0, Ws1, Ws2, Wbk, Wls⟩ := id QN
  refine r_aload_n C dX4_nextMove_0 rfl ?_
  refine gf_X4_10 C P1 dX4_nextMove_1 ?_
  refine gf_X4_71 C PN.2.1 dX4_nextMove_4 ?_
  refine gf_X4_75 C PN.2.2.1.2.1 dX4_nextMove_7 ?_
  rw [e2]
  refine r_istore_n C dX4_nextMove_10 (by decide) rfl ?_
  refine r_aload_n C dX4_nextMove_11 rfl ?_
  refine gf_X4_10 C P1 dX4_nextMove_12 ?_
  refine gf_X4_71 C PN.2.1 dX4_nextMove_15 ?_
  refine r_runI (fun aH aL aj a1 a2 a3 => run_V C hF.2.2.1 (kX0_longestRowBySheets PN.2.2.1 WB) lm_X0_longestRowBySheets ml_X4_249 im_X0_longestRowBySheets se_X0_longestRowBySheets PN.2.2.1.2.1 rfl (Nat.le_of_ble_eq_true rfl) dX4_nextMove_18 rfl (Nat.le_of_ble_eq_true rfl) a1 a2 a3) ?_
  rw [e2, lis_e v4.1 (StE_N ce)]
  have hlb := lis_bd (vN w) v4.1
  have N0 : CU (xV X) K q w tx sv kp ln μ (wr μ (q + 1 + 1 + 3) (leI (μ (q + 1 + 1 + 1)) (μ (q + 1 + 1 + 3)) (w 3))) := ⟨CI_f hC (fun r r0 r1 r2 r3 r4 => wr_n _ _ (by omega)) (by rw [wr_n _ _ (by omega)]; exact cr), fun r hr => wr_n _ _ (by omega)⟩
  refine r_istore_n C dX4_nextMove_21 (by decide) rfl ?_
  refine r_iload_n C dX4_nextMove_22 rfl ?_
  refine r_iload_n C dX4_nextMove_23 rfl ?_
  refine r_icmp_lt (tgt := 29) C dX4_nextMove_24 (by decide) (by omega) (by omega) (fun c24 => ?_) (fun c24 => ?_)
  · skip
    refine r_aload_n C dX4_nextMove_29 rfl ?_
    refine gf_X4_19 C P1 dX4_nextMove_30 ?_
    refine gf_X4_71 C PT.2.1 dX4_nextMove_33 ?_
    refine r_astore_n C dX4_nextMove_36 (by decide) rfl ?_
    refine r_iconst C dX4_nextMove_37 ?_
    refine r_istore C dX4_nextMove_38 (by decide) rfl ?_
    refine loop_up (F := fun k => ∀ (ν : Mem) (z : AV), CU (xV X) K q w tx sv kp ln μ ν → fs (fun k => nmP w k) (0) (w 3 * w 3) = fs (fun k => nmP w k) (k * w 3) (w 3 * w 3) → RR X ν 40 [vR q, vI (w 3), vI (lis (vN w) (w 3)), vR (q + 25 + 1), vI k, z] []) (a := 0) (b := w 3) v4.1 ?_ ?_ _ _ N0 (by rw [Int.zero_mul])
    · intro ν z N hfs
      show RR X _ _ [vR q, vI (w 3), vI (lis (vN w) (w 3)), vR (q + 25 + 1), vI (w 3), z] []
      refine r_iload C dX4_nextMove_40 rfl ?_
      refine r_iload_n C dX4_nextMove_42 rfl ?_
      refine r_icmp_ge (tgt := 108) C dX4_nextMove_43 (by decide) (by omega) (by omega) (fun c43 => ?_) (fun c43 => absurd c43 (by omega))
      refine r_iconst C dX4_nextMove_108 ?_
      exact r_iretr C hF dX4_nextMove_109 (nmT_no (hfs.trans (fs_e _ (Int.le_refl _)))).symm N
    · intro k h0 h1 K2 ν z N hfs
      have en := N.1.2.1.2
      have bn : BlW ν (q + 1 + 1) := (StE_W cv en).2.1
      have v9k := v9 k h0 h1
      show RR X _ _ [vR q, vI (w 3), vI (lis (vN w) (w 3)), vR (q + 25 + 1), vI k, z] []
      refine r_iload C dX4_nextMove_40 rfl ?_
      refine r_iload_n C dX4_nextMove_42 rfl ?_
      refine r_icmp_ge (tgt := 108) C dX4_nextMove_43 (by decide) (by omega) (by omega) (fun c43 => absurd c43 (by omega)) (fun c43 => ?_)
      refine r_aload_n C dX4_nextMove_46 rfl ?_
      refine r_aload_n C dX4_nextMove_47 rfl ?_
      refine gf_X4_10 C P1 dX4_nextMove_48 ?_
      refine gf_X4_71 C PN.2.1 dX4_nextMove_51 ?_
      refine r_runV (fun aH aL aj a1 a2 a3 => run_V C hF.2.2.1 (kX0_copyFrom PT.2.2.1 PN.2.2.1 (by omega)) lm_X0_copyFrom ml_X4_252 im_X0_copyFrom se_X0_copyFrom PT.2.2.1.2.1 rfl (Nat.le_of_ble_eq_true rfl) dX4_nextMove_54 rfl (Nat.le_of_ble_eq_true rfl) a1 a2 a3) ?_
      refine r_eq (μ' := (cpB ν (q + 25 + 1) (q + 1 + 1))) ?_ rfl
      refine r_aload_n C dX4_nextMove_57 rfl ?_
      refine r_iload C dX4_nextMove_58 rfl ?_
      refine r_runV (fun aH aL aj a1 a2 a3 => run_V C hF.2.2.1 (kX0_takeOut PT.2.2.1 (BlW_cp bn) (p := k) h0 (by rw [cpB_b, en.2.1]; exact h1)) lm_X0_takeOut ml_X4_255 im_X0_takeOut se_X0_takeOut PT.2.2.1.2.1 rfl (Nat.le_of_ble_eq_true rfl) dX4_nextMove_60 rfl (Nat.le_of_ble_eq_true rfl) a1 a2 a3) ?_
      refine r_eq (μ' := (tkB (cpB ν (q + 25 + 1) (q + 1 + 1)) (q + 25 + 1) k)) ?_ rfl
      have b2 : BlW (tkB (cpB ν (q + 25 + 1) (q + 1 + 1)) (q + 25 + 1) k) (q + 25 + 1) := BlW_tk (BlW_cp bn) h0 (by rw [cpB_b, en.2.1]; exact h1)
      have t2 : (tkB (cpB ν (q + 25 + 1) (q + 1 + 1)) (q + 25 + 1) k) (q + 25 + 1) 2 = w 3 - 1 := by rw [tkB_b, cpB_b, en.2.1]
      have nr := nm_row (w := w) (a := (tkB (cpB ν (q + 25 + 1) (q + 1 + 1)) (q + 25 + 1) k) (q + 25 + 1 + 1)) (p := k) ((tkB (cpB ν (q + 25 + 1) (q + 1 + 1)) (q + 25 + 1) k) (q + 25 + 1 + 3)) ((tkB (cpB ν (q + 25 + 1) (q + 1 + 1)) (q + 25 + 1) k) (q + 25 + 1 + 4)) v4.2 h0 h1 (tk_wN en v4.2 h0 h1) (by omega)
      have rg := fs_rn (fun t => nmC w ((tkB (cpB ν (q + 25 + 1) (q + 1 + 1)) (q + 25 + 1) k) (q + 25 + 1 + 1)) ((tkB (cpB ν (q + 25 + 1) (q + 1 + 1)) (q + 25 + 1) k) (q + 25 + 1 + 3)) ((tkB (cpB ν (q + 25 + 1) (q + 1 + 1)) (q + 25 + 1) k) (q + 25 + 1 + 4)) k t) (w 3 - 1 + 1)
      refine r_aload_n C dX4_nextMove_63 rfl ?_
      refine r_iload_n C dX4_nextMove_64 rfl ?_
      refine r_iconst C dX4_nextMove_65 ?_
      refine r_iadd C dX4_nextMove_66 ?_
      refine r_aload_n C dX4_nextMove_67 rfl ?_
      refine gf_X4_10 C P1 dX4_nextMove_68 ?_
      refine gf_X4_71 C PN.2.1 dX4_nextMove_71 ?_
      refine gf_X4_198 C PN.2.2.1.2.1 dX4_nextMove_74 ?_
      refine r_iload C dX4_nextMove_77 rfl ?_
      refine r_runI (fun aH aL aj a1 a2 a3 => run_S C hF.2.2.1 (kX4_at PN.2.2.1.2.2.1 (by decide) h0 (by omega)) lm_X4_at ml_X4_130 sm_X4_at (Nat.le_of_ble_eq_true rfl) dX4_nextMove_79 rfl (Nat.le_of_ble_eq_true rfl) a1 a2 a3) ?_
      rw [show (tkB (cpB ν (q + 25 + 1) (q + 1 + 1)) (q + 25 + 1) k) (q + 1 + 1 + 1) k = w (70 + k) by rw [tkB_o _ (by omega), cpB_o _ (by omega)]; exact StE_N en k h0 h1]
      refine r_runI (fun aH aL aj a1 a2 a3 => run_V C hF.2.2.1 (kX0_placeThatMakesRowOf PT.2.2.1 b2 (l := (lis (vN w) (w 3)) + 1) (x := w (70 + k)) (by omega) (by omega)) lm_X0_placeThatMakesRowOf ml_X4_258 im_X0_placeThatMakesRowOf se_X0_placeThatMakesRowOf PT.2.2.1.2.1 rfl (Nat.le_of_ble_eq_true rfl) dX4_nextMove_82 rfl (Nat.le_of_ble_eq_true rfl) a1 a2 a3) ?_
      rw [t2]
      generalize hT : fs (fun t => nmC w ((tkB (cpB ν (q + 25 + 1) (q + 1 + 1)) (q + 25 + 1) k) (q + 25 + 1 + 1)) ((tkB (cpB ν (q + 25 + 1) (q + 1 + 1)) (q + 25 + 1) k) (q + 25 + 1 + 3)) ((tkB (cpB ν (q + 25 + 1) (q + 1 + 1)) (q + 25 + 1) k) (q + 25 + 1 + 4)) k t) 0 (w 3 - 1 + 1) = T at nr rg ⊢
      refine r_istore C dX4_nextMove_85 (by decide) rfl ?_
      refine r_iload C dX4_nextMove_87 rfl ?_
      refine r_iconst C dX4_nextMove_89 ?_
      refine r_icmp_eq (tgt := 102) C dX4_nextMove_90 (by decide) (by omega) (by omega) (fun c90 => ?_) (fun c90 => ?_)
      · skip
        refine r_iinc C dX4_nextMove_102 rfl (by decide) rfl ?_
        refine r_goto (tgt := 40) C dX4_nextMove_105 (by decide) ?_
        exact K2 _ _ (cuF N (fun r r0 r1 => by rw [wr_n _ _ (by omega), wr_n _ _ (by omega), tkB_o _ (by omega), cpB_o _ (by omega)])) (hfs.trans (nr.1 c90))
      · skip
        refine r_bipush C dX4_nextMove_93 rfl ?_
        refine r_iload C dX4_nextMove_95 rfl ?_
        refine r_imul C dX4_nextMove_97 ?_
        refine r_iload C dX4_nextMove_98 rfl ?_
        refine r_iadd C dX4_nextMove_100 ?_
        exact r_iretr C hF dX4_nextMove_101 (nmT_at v4.2 h0 h1 (by omega) (by omega) (hfs.trans (nr.2 c90))).symm (cuF N (fun r r0 r1 => by rw [wr_n _ _ (by omega), wr_n _ _ (by omega), tkB_o _ (by omega), cpB_o _ (by omega)]))
  · skip
    refine r_iconst C dX4_nextMove_27 ?_
    exact r_iretr C hF dX4_nextMove_28 (nmT_full c24).symm N0
