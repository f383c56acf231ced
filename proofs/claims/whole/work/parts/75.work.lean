/-! reading: what the class's object keeps -/
theorem rd_00 (f b : Int → Int) : rdI f b 0 3 = 0 := by
  rw [rdI_0]
  unfold rS0
  rw [s1_n _ _ (by decide), s1_s]
theorem dp_rs {V : Wo} {K : Int} {q : Nat} {μ : Mem} {w tx : Int → Int} {sv kp ln : Int} (h : CI V K q μ w tx sv kp ln) : DP V K q w tx sv kp ln μ (wr μ (q + 111) (rS0 (μ (q + 111)))) (rdI (μ (q + 111)) tx 0) :=
  ⟨CI_f h (fun r _ _ _ _ r4 => wr_n _ _ r4) (by rw [wr_s]; exact rS0_W _), by rw [wr_s, rdI_0], fun r hr => wr_n _ _ (by omega)⟩
theorem cu_rd {V : Wo} {K : Int} {q : Nat} {μ : Mem} {w tx : Int → Int} {sv kp ln x : Int} (h : CI V K q μ w tx sv kp ln) (hx : 0 ≤ x ∧ x ≤ ln) : CU V K q w tx sv kp ln μ (wr μ (q + 111) (rdI (μ (q + 111)) (μ (q + 112)) x)) := by
  obtain ⟨b1, b2, b3, b4⟩ := h.2.2.2.2.1
  exact ⟨CI_f h (fun r _ _ _ _ r4 => wr_n _ _ r4) (by rw [wr_s]; exact rdI_W _ _ hx.1 (fun i i0 i1 => by rw [b3 i i0 (by omega)]; have := b4 i i0 (by omega); omega)), fun r hr => wr_n _ _ (by omega)⟩
set_option maxRecDepth 20000 in
set_option maxHeartbeats 2000000 in
theorem kX4_doParts_c {V : Wo} {μ : Mem} {q : Nat} {K : Int} {w tx : Int → Int} {sv kp ln : Int} (hC : CI V K q μ w tx sv kp ln) (hKK : K + 1300 ≤ 1000000) (hwk : (wk tx ln 0 0).1 = 1) : Con V 5 yX4_doParts cX4_doParts 4 (some .int) [vR q] (μ) (QIr V ((wl tx ln 0 0 (s1 w 5 (-1)) 0).2) ((CU V (K + 1300) q (wl tx ln 0 0 (s1 w 5 (-1)) 0).1 tx sv kp ln μ))) := by
  refine con_of (ls0 := [vR q, vU, vU, vU]) (by decide +kernel) rfl (Nat.le_of_ble_eq_true rfl) (Nat.le_of_ble_eq_true rfl) (fun X hV C hF => ?_)
  subst hV
  have C : Ok X RX4 cX4_doParts 4 5 := C
  have hS := hC.1
  have hW := CI_SpW hC
  obtain ⟨P0, P1, PN, PS, PT, PH, PR, PB⟩ := id hS
  obtain ⟨QN, QH, Q6, Q7, QB, QR, QA⟩ := id hW
  obtain ⟨-, ⟨cv, ce⟩, ⟨ck1, ck2, ck3⟩, ⟨cs1, cs2, cs3, cs4, cs5, cs6⟩, ⟨cb1, cb2, cb3, cb4⟩, cr⟩ := id hC
  obtain ⟨v0, v1, v2, v3, v4, v5, v6, v7, v8, v9, v10⟩ := id cv
  obtain ⟨e1, e2, e3, e4, e5, e6, e7, e8, e9, e10⟩ := id ce
  obtain ⟨hK, WB, Wc, Wi, Wp, Wh, Ws0, Ws1, Ws2, Wbk, Wls⟩ := id QN
  refine r_iconst C dX4_doParts_0 ?_
  refine r_istore_n C dX4_doParts_1 (by decide) rfl ?_
  refine r_aload_n C dX4_doParts_2 rfl ?_
  refine gf_X4_32 C P1 dX4_doParts_3 ?_
  refine r_runV (fun aH aL aj a1 a2 a3 => run_V C hF.2.2.1 (kX2_start PR) lm_X2_start ml_X4_326 im_X2_start se_X2_start PR.2 rfl (Nat.le_of_ble_eq_true rfl) dX4_doParts_6 rfl (Nat.le_of_ble_eq_true rfl) a1 a2 a3) ?_
  refine r_iconst C dX4_doParts_9 ?_
  refine r_istore_n C dX4_doParts_10 (by decide) rfl ?_
  have N0 := dp_rs hC
  refine loop_k (F := fun m => ∀ (i a c Kc : Int) (u : Int → Int) (ν : Mem) (z : AV), ln - a < m → 0 ≤ i → i ≤ a → a ≤ ln → 0 ≤ c → c ≤ a → rdI (μ (q + 111)) tx a 3 = 0 → (wk tx ln i a).1 = 1 → Kc + 20 * (61 - i) ≤ K + 1300 → DP (xV X) Kc q u tx sv kp ln μ ν (rdI (μ (q + 111)) tx a) → Fnl X (some .int) (QIr (xV X) (wl tx ln i a (s1 u 5 (-1)) c).2 (CU (xV X) (K + 1300) q (wl tx ln i a (s1 u 5 (-1)) c).1 tx sv kp ln μ )) → RR X ν 11 [vR q, vI c, vI a, z] []) ?_ ?_ 61 0 0 0 K w _ _ (by omega) (by omega) (by omega) cb2.1 (by omega) (by omega) (rd_00 _ _) hwk (by omega) N0 hF
  · intro i a c Kc u ν z h1 h2 h3 h4 _ _ _ _ _ _ _
    exact absurd h1 (by omega)
  · intro m IH i a c Kc u ν z h1 h2 h3 h4 h5 h6 hw hwk hKc N hF
    have cvu := N.1.2.1.1
    obtain ⟨hk, hE⟩ := wk_1 (show i < 61 by omega) hwk
    have hra := rpa_r (b := tx) h4
    have hlt := hra.2 hk
    obtain ⟨p1, p2, p3, p4, p5, p6⟩ := (rd_part (f := μ (q + 111)) (b := tx) (n := ln) (show 0 ≤ a by omega) hw).1 hk
    have hfr := rpf_r (b := tx) (n := ln) (a := a)
    have hfo : sg tx ln a = 103 → 0 ≤ rpf tx ln a ∧ rpf tx ln a < 16 := fun z => by
      have := rpf_ok hk z
      have := hfr.2 z
      omega
    have hRF : RF tx ln a (rdI (μ (q + 111)) tx (rpa tx ln a)) := ⟨p3, p4, p5⟩
    have hg2 : (rdI (μ (q + 111)) tx (rpa tx ln a)) 0 = 103 → (rdI (μ (q + 111)) tx (rpa tx ln a)) 2 < 16 := fun z => by
      rw [p3] at z
      rw [p4 (Or.inl z)]
      exact (hfo z).2
    have hpz := pcV_z u (sg tx ln a) (rpf tx ln a) (rps tx ln a)
    refine loop_up (F := fun j => ∀ (ν : Mem) (z : AV), DP (xV X) Kc q u tx sv kp ln μ ν (rdI (μ (q + 111)) tx j) → RR X ν 11 [vR q, vI c, vI j, z] []) (a := a) (b := (rpa tx ln a)) hra.1.1 ?_ ?_ _ _ N
    · intro ν z N
      rcases hE with hE | ⟨hE1, hE2, hE3⟩
      · skip
        refine r_iload_n C dX4_doParts_11 rfl ?_
        refine r_aload_n C dX4_doParts_12 rfl ?_
        refine gf_X4_40 C P1 dX4_doParts_13 ?_
        rw [N.1.2.2.2.2.1.1]
        refine r_icmp_gt (tgt := 108) C dX4_doParts_16 (by decide) (by omega) (by omega) (fun c16 => absurd c16 (by omega)) (fun c16 => ?_)
        refine r_iload_n C dX4_doParts_19 rfl ?_
        refine r_aload_n C dX4_doParts_20 rfl ?_
        refine gf_X4_40 C P1 dX4_doParts_21 ?_
        rw [N.1.2.2.2.2.1.1]
        refine r_icmp_eq (tgt := 40) C dX4_doParts_24 (by decide) (by omega) (by omega) (fun c24 => ?_) (fun c24 => absurd c24 (by omega))
        refine r_iconst C dX4_doParts_40 ?_
        refine r_goto (tgt := 45) C dX4_doParts_41 (by decide) ?_
        refine r_istore_n C dX4_doParts_45 (by decide) rfl ?_
        refine r_iload_n C dX4_doParts_46 rfl ?_
        refine r_if_eq (tgt := 67) C dX4_doParts_47 (by decide) (by omega) (fun c47 => absurd c47 (by omega)) (fun c47 => ?_)
        refine r_aload_n C dX4_doParts_50 rfl ?_
        refine r_runI (fun aH aL aj a1 a2 a3 => run_V C hF.2.2.1 (kX4_partCanBeDone hS (CI_SpW N.1) (by rw [N.2.1]; exact hg2)) lm_X4_partCanBeDone ml_X4_332 im_X4_partCanBeDone se_X4_partCanBeDone P1 rfl (Nat.le_of_ble_eq_true rfl) dX4_doParts_51 rfl (Nat.le_of_ble_eq_true rfl) a1 a2 a3) ?_
        rw [N.2.1, pc_eq N.1.2.1.2 hRF hfo]
        refine r_if_ne (tgt := 67) C dX4_doParts_54 (by decide) (by omega) (fun c54 => ?_) (fun c54 => ?_)
        · have hp1 : pcV u (sg tx ln a) (rpf tx ln a) (rps tx ln a) = 1 := by omega
          refine r_iload_n C dX4_doParts_67 rfl ?_
          refine r_if_eq (tgt := 78) C dX4_doParts_68 (by decide) (by omega) (fun c68 => absurd c68 (by omega)) (fun c68 => ?_)
          refine r_aload_n C dX4_doParts_71 rfl ?_
          refine r_runV (fun aH aL aj a1 a2 a3 => run_V C hF.2.2.1 (kX4_doPart hS (CI_SpW N.1) (by rw [N.2.1]; exact hg2) (by rw [N.2.1, pc_eq N.1.2.1.2 hRF hfo]; exact hp1)) lm_X4_doPart ml_X4_335 im_X4_doPart se_X4_doPart P1 rfl (Nat.le_of_ble_eq_true rfl) dX4_doParts_72 rfl (Nat.le_of_ble_eq_true rfl) a1 a2 a3) ?_
          rw [N.2.1]
          have N2 := dp_do N hRF hfo hp1 (by omega)
          refine r_iinc C dX4_doParts_75 rfl (by decide) rfl ?_
          refine r_iload_n C dX4_doParts_78 rfl ?_
          refine r_aload_n C dX4_doParts_79 rfl ?_
          refine gf_X4_40 C P1 dX4_doParts_80 ?_
          rw [N2.1.2.2.2.2.1.1]
          refine r_icmp_ge (tgt := 102) C dX4_doParts_83 (by decide) (by omega) (by omega) (fun c83 => ?_) (fun c83 => absurd c83 (by omega))
          refine r_iinc C dX4_doParts_102 rfl (by decide) rfl ?_
          refine r_goto (tgt := 11) C dX4_doParts_105 (by decide) ?_
          have wlx : (wl tx ln i a (s1 u 5 (-1)) c) = (s1 (peV u (sg tx ln a) (rpf tx ln a) (rps tx ln a)) 5 (-1), c + 1) := by
            rw [wl_go (by omega) cvu hk (fun z => (hfo z).1) hp1, hE, b01_f (show ¬ sg tx ln ln = 59 by rw [show sg tx ln ln = 0 from if_neg (by omega)]; decide), Int.add_zero, wl_e (by omega)]
          · skip
            refine r_iload_n C dX4_doParts_11 rfl ?_
            refine r_aload_n C dX4_doParts_12 rfl ?_
            refine gf_X4_40 C P1 dX4_doParts_13 ?_
            rw [N2.1.2.2.2.2.1.1]
            refine r_icmp_gt (tgt := 108) C dX4_doParts_16 (by decide) (by omega) (by omega) (fun c16 => ?_) (fun c16 => absurd c16 (by omega))
            refine r_aload_n C dX4_doParts_108 rfl ?_
            refine gf_X4_10 C P1 dX4_doParts_109 ?_
            refine r_iconst C dX4_doParts_112 ?_
            refine pf_X4_246 C PN.2.1 (by omega) dX4_doParts_113 ?_
            refine r_iload_n C dX4_doParts_116 rfl ?_
            exact r_iretr C hF dX4_doParts_117 (congrArg Prod.snd wlx).symm (by rw [wlx]; exact dp_stop N2 (by omega) (by omega) (by omega))
        · skip
          refine r_aload_n C dX4_doParts_57 rfl ?_
          refine gf_X4_10 C P1 dX4_doParts_58 ?_
          refine r_iload_n C dX4_doParts_61 rfl ?_
          refine pf_X4_246 C PN.2.1 (by omega) dX4_doParts_62 ?_
          refine r_iload_n C dX4_doParts_65 rfl ?_
          exact r_iretr C hF dX4_doParts_66 (congrArg Prod.snd (wl_no (b := tx) (n := ln) (i := i) (a := a) (c := c) (by omega) cvu hk (fun z => (hfo z).1) c54)).symm (by rw [wl_no (b := tx) (n := ln) (i := i) (a := a) (c := c) (by omega) cvu hk (fun z => (hfo z).1) c54]; exact dp_stop N (by omega) (by omega) (by omega))
      · have hlt2 : rpa tx ln a < ln := by omega
        have hb59 : tx (rpa tx ln a) = 59 := by
          have es : sg tx ln (rpa tx ln a) = tx (rpa tx ln a) := if_pos hlt2
          omega
        refine r_iload_n C dX4_doParts_11 rfl ?_
        refine r_aload_n C dX4_doParts_12 rfl ?_
        refine gf_X4_40 C P1 dX4_doParts_13 ?_
        rw [N.1.2.2.2.2.1.1]
        refine r_icmp_gt (tgt := 108) C dX4_doParts_16 (by decide) (by omega) (by omega) (fun c16 => absurd c16 (by omega)) (fun c16 => ?_)
        refine r_iload_n C dX4_doParts_19 rfl ?_
        refine r_aload_n C dX4_doParts_20 rfl ?_
        refine gf_X4_40 C P1 dX4_doParts_21 ?_
        rw [N.1.2.2.2.2.1.1]
        refine r_icmp_eq (tgt := 40) C dX4_doParts_24 (by decide) (by omega) (by omega) (fun c24 => absurd c24 (by omega)) (fun c24 => ?_)
        refine r_aload_n C dX4_doParts_27 rfl ?_
        refine gf_X4_36 C P1 dX4_doParts_28 ?_
        refine r_iload_n C dX4_doParts_31 rfl ?_
        refine r_runI (fun aH aL aj a1 a2 a3 => run_S C hF.2.2.1 (kX4_at PB (by decide) (by omega) (by omega)) lm_X4_at ml_X4_130 sm_X4_at (Nat.le_of_ble_eq_true rfl) dX4_doParts_32 rfl (Nat.le_of_ble_eq_true rfl) a1 a2 a3) ?_
        rw [N.1.2.2.2.2.1.2.2.1 _ (by omega) hlt2, hb59]
        refine r_bipush C dX4_doParts_35 rfl ?_
        refine r_icmp_ne (tgt := 44) C dX4_doParts_37 (by decide) (by decide) (by decide) (fun c37 => absurd c37 (by omega)) (fun c37 => ?_)
        refine r_iconst C dX4_doParts_40 ?_
        refine r_goto (tgt := 45) C dX4_doParts_41 (by decide) ?_
        refine r_istore_n C dX4_doParts_45 (by decide) rfl ?_
        refine r_iload_n C dX4_doParts_46 rfl ?_
        refine r_if_eq (tgt := 67) C dX4_doParts_47 (by decide) (by omega) (fun c47 => absurd c47 (by omega)) (fun c47 => ?_)
        refine r_aload_n C dX4_doParts_50 rfl ?_
        refine r_runI (fun aH aL aj a1 a2 a3 => run_V C hF.2.2.1 (kX4_partCanBeDone hS (CI_SpW N.1) (by rw [N.2.1]; exact hg2)) lm_X4_partCanBeDone ml_X4_332 im_X4_partCanBeDone se_X4_partCanBeDone P1 rfl (Nat.le_of_ble_eq_true rfl) dX4_doParts_51 rfl (Nat.le_of_ble_eq_true rfl) a1 a2 a3) ?_
        rw [N.2.1, pc_eq N.1.2.1.2 hRF hfo]
        refine r_if_ne (tgt := 67) C dX4_doParts_54 (by decide) (by omega) (fun c54 => ?_) (fun c54 => ?_)
        · have hp1 : pcV u (sg tx ln a) (rpf tx ln a) (rps tx ln a) = 1 := by omega
          refine r_iload_n C dX4_doParts_67 rfl ?_
          refine r_if_eq (tgt := 78) C dX4_doParts_68 (by decide) (by omega) (fun c68 => absurd c68 (by omega)) (fun c68 => ?_)
          refine r_aload_n C dX4_doParts_71 rfl ?_
          refine r_runV (fun aH aL aj a1 a2 a3 => run_V C hF.2.2.1 (kX4_doPart hS (CI_SpW N.1) (by rw [N.2.1]; exact hg2) (by rw [N.2.1, pc_eq N.1.2.1.2 hRF hfo]; exact hp1)) lm_X4_doPart ml_X4_335 im_X4_doPart se_X4_doPart P1 rfl (Nat.le_of_ble_eq_true rfl) dX4_doParts_72 rfl (Nat.le_of_ble_eq_true rfl) a1 a2 a3) ?_
          rw [N.2.1]
          have N2 := dp_do N hRF hfo hp1 (by omega)
          refine r_iinc C dX4_doParts_75 rfl (by decide) rfl ?_
          refine r_iload_n C dX4_doParts_78 rfl ?_
          refine r_aload_n C dX4_doParts_79 rfl ?_
          refine gf_X4_40 C P1 dX4_doParts_80 ?_
          rw [N2.1.2.2.2.2.1.1]
          refine r_icmp_ge (tgt := 102) C dX4_doParts_83 (by decide) (by omega) (by omega) (fun c83 => absurd c83 (by omega)) (fun c83 => ?_)
          refine r_aload_n C dX4_doParts_86 rfl ?_
          refine gf_X4_32 C P1 dX4_doParts_87 ?_
          refine r_aload_n C dX4_doParts_90 rfl ?_
          refine gf_X4_36 C P1 dX4_doParts_91 ?_
          refine r_iload_n C dX4_doParts_94 rfl ?_
          refine r_runI (fun aH aL aj a1 a2 a3 => run_S C hF.2.2.1 (kX4_at PB (by decide) (by omega) (by omega)) lm_X4_at ml_X4_130 sm_X4_at (Nat.le_of_ble_eq_true rfl) dX4_doParts_95 rfl (Nat.le_of_ble_eq_true rfl) a1 a2 a3) ?_
          rw [N2.1.2.2.2.2.1.2.2.1 _ (by omega) hlt2, hb59]
          refine r_runI (fun aH aL aj a1 a2 a3 => run_V C hF.2.2.1 (kX2_accepts PR N2.1.2.2.2.2.2 (c := 59) (by decide) (by decide)) lm_X2_accepts ml_X4_329 im_X2_accepts se_X2_accepts PR.2 rfl (Nat.le_of_ble_eq_true rfl) dX4_doParts_98 rfl (Nat.le_of_ble_eq_true rfl) a1 a2 a3) ?_
          have N3 := dp_acc N2 (c := 59) (by decide) (by decide)
          refine r_pop C dX4_doParts_101 rfl ?_
          refine r_iinc C dX4_doParts_102 rfl (by decide) rfl ?_
          refine r_goto (tgt := 11) C dX4_doParts_105 (by decide) ?_
          have wlz : (wl tx ln i a (s1 u 5 (-1)) c) = (wl tx ln (i + 1) (rpa tx ln a + 1) (s1 (peV u (sg tx ln a) (rpf tx ln a) (rps tx ln a)) 5 (-1)) (c + 1)) := by
            rw [wl_go (by omega) cvu hk (fun z => (hfo z).1) hp1, b01_t hE2]
          have g3 : (rdI (μ (q + 111)) tx (rpa tx ln a + 1)) = (nX (rdI (μ (q + 111)) tx (rpa tx ln a)) 59).2 := by rw [rdI_s _ _ (by omega), hb59]
          exact IH (i + 1) (rpa tx ln a + 1) (c + 1) (Kc + 20) (peV u (sg tx ln a) (rpf tx ln a) (rps tx ln a)) _ _ (by omega) (by omega) (by omega) (by omega) (by omega) (by omega) ((p6 hlt2).1 hb59).2 hE3 (by omega) (by rw [g3]; exact N3) (by rw [← wlz]; exact hF)
        · skip
          refine r_aload_n C dX4_doParts_57 rfl ?_
          refine gf_X4_10 C P1 dX4_doParts_58 ?_
          refine r_iload_n C dX4_doParts_61 rfl ?_
          refine pf_X4_246 C PN.2.1 (by omega) dX4_doParts_62 ?_
          refine r_iload_n C dX4_doParts_65 rfl ?_
          exact r_iretr C hF dX4_doParts_66 (congrArg Prod.snd (wl_no (b := tx) (n := ln) (i := i) (a := a) (c := c) (by omega) cvu hk (fun z => (hfo z).1) c54)).symm (by rw [wl_no (b := tx) (n := ln) (i := i) (a := a) (c := c) (by omega) cvu hk (fun z => (hfo z).1) c54]; exact dp_stop N (by omega) (by omega) (by omega))
    · intro j j0 j1 K3 ν z N
      have hj59 := (p1 j j0 j1).2
      have hjb := cb4 j (by omega) (by omega)
      refine r_iload_n C dX4_doParts_11 rfl ?_
      refine r_aload_n C dX4_doParts_12 rfl ?_
      refine gf_X4_40 C P1 dX4_doParts_13 ?_
      rw [N.1.2.2.2.2.1.1]
      refine r_icmp_gt (tgt := 108) C dX4_doParts_16 (by decide) (by omega) (by omega) (fun c16 => absurd c16 (by omega)) (fun c16 => ?_)
      refine r_iload_n C dX4_doParts_19 rfl ?_
      refine r_aload_n C dX4_doParts_20 rfl ?_
      refine gf_X4_40 C P1 dX4_doParts_21 ?_
      rw [N.1.2.2.2.2.1.1]
      refine r_icmp_eq (tgt := 40) C dX4_doParts_24 (by decide) (by omega) (by omega) (fun c24 => absurd c24 (by omega)) (fun c24 => ?_)
      refine r_aload_n C dX4_doParts_27 rfl ?_
      refine gf_X4_36 C P1 dX4_doParts_28 ?_
      refine r_iload_n C dX4_doParts_31 rfl ?_
      refine r_runI (fun aH aL aj a1 a2 a3 => run_S C hF.2.2.1 (kX4_at PB (by decide) (by omega) (by omega)) lm_X4_at ml_X4_130 sm_X4_at (Nat.le_of_ble_eq_true rfl) dX4_doParts_32 rfl (Nat.le_of_ble_eq_true rfl) a1 a2 a3) ?_
      rw [N.1.2.2.2.2.1.2.2.1 j (by omega) (by omega)]
      refine r_bipush C dX4_doParts_35 rfl ?_
      refine r_icmp_ne (tgt := 44) C dX4_doParts_37 (by decide) (by omega) (by omega) (fun c37 => ?_) (fun c37 => absurd c37 (by omega))
      refine r_iconst C dX4_doParts_44 ?_
      refine r_istore_n C dX4_doParts_45 (by decide) rfl ?_
      refine r_iload_n C dX4_doParts_46 rfl ?_
      refine r_if_eq (tgt := 67) C dX4_doParts_47 (by decide) (by omega) (fun c47 => ?_) (fun c47 => absurd c47 (by omega))
      refine r_iload_n C dX4_doParts_67 rfl ?_
      refine r_if_eq (tgt := 78) C dX4_doParts_68 (by decide) (by omega) (fun c68 => ?_) (fun c68 => absurd c68 (by omega))
      refine r_iload_n C dX4_doParts_78 rfl ?_
      refine r_aload_n C dX4_doParts_79 rfl ?_
      refine gf_X4_40 C P1 dX4_doParts_80 ?_
      rw [N.1.2.2.2.2.1.1]
      refine r_icmp_ge (tgt := 102) C dX4_doParts_83 (by decide) (by omega) (by omega) (fun c83 => absurd c83 (by omega)) (fun c83 => ?_)
      refine r_aload_n C dX4_doParts_86 rfl ?_
      refine gf_X4_32 C P1 dX4_doParts_87 ?_
      refine r_aload_n C dX4_doParts_90 rfl ?_
      refine gf_X4_36 C P1 dX4_doParts_91 ?_
      refine r_iload_n C dX4_doParts_94 rfl ?_
      refine r_runI (fun aH aL aj a1 a2 a3 => run_S C hF.2.2.1 (kX4_at PB (by decide) (by omega) (by omega)) lm_X4_at ml_X4_130 sm_X4_at (Nat.le_of_ble_eq_true rfl) dX4_doParts_95 rfl (Nat.le_of_ble_eq_true rfl) a1 a2 a3) ?_
      rw [N.1.2.2.2.2.1.2.2.1 j (by omega) (by omega)]
      refine r_runI (fun aH aL aj a1 a2 a3 => run_V C hF.2.2.1 (kX2_accepts PR N.1.2.2.2.2.2 (c := tx j) (by omega) (by omega)) lm_X2_accepts ml_X4_329 im_X2_accepts se_X2_accepts PR.2 rfl (Nat.le_of_ble_eq_true rfl) dX4_doParts_98 rfl (Nat.le_of_ble_eq_true rfl) a1 a2 a3) ?_
      have N3 := dp_acc N (c := tx j) (by omega) (by omega)
      refine r_pop C dX4_doParts_101 rfl ?_
      refine r_iinc C dX4_doParts_102 rfl (by decide) rfl ?_
      refine r_goto (tgt := 11) C dX4_doParts_105 (by decide) ?_
      exact K3 _ _ (by rw [rdI_s _ _ (by omega)]; exact N3)
set_option maxRecDepth 20000 in
set_option maxHeartbeats 2000000 in
theorem kX4_firstError_c {V : Wo} {μ : Mem} {q : Nat} {K : Int} {w tx : Int → Int} {sv kp ln : Int} (hC : CI V K q μ w tx sv kp ln) : Con V 5 yX4_firstError cX4_firstError 1 (some .int) [vR q] (μ) (QIr V ((wk tx ln 0 0).2) ((fun ν => CI V (K) q ν (w) (tx) (sv) (kp) (ln) ∧ ∀ r, (r < q ∨ q + 112 < r) → ν r = μ r))) := by
  refine con_of (ls0 := [vR q]) (by decide +kernel) rfl (Nat.le_of_ble_eq_true rfl) (Nat.le_of_ble_eq_true rfl) (fun X hV C hF => ?_)
  subst hV
  have C : Ok X RX4 cX4_firstError 1 5 := C
  have hS := hC.1
  have hW := CI_SpW hC
  obtain ⟨P0, P1, PN, PS, PT, PH, PR, PB⟩ := id hS
  obtain ⟨QN, QH, Q6, Q7, QB, QR, QA⟩ := id hW
  obtain ⟨-, ⟨cv, ce⟩, ⟨ck1, ck2, ck3⟩, ⟨cs1, cs2, cs3, cs4, cs5, cs6⟩, ⟨cb1, cb2, cb3, cb4⟩, cr⟩ := id hC
  obtain ⟨v0, v1, v2, v3, v4, v5, v6, v7, v8, v9, v10⟩ := id cv
  obtain ⟨e1, e2, e3, e4, e5, e6, e7, e8, e9, e10⟩ := id ce
  obtain ⟨hK, WB, Wc, Wi, Wp, Wh, Ws0, Ws1, Ws2, Wbk, Wls⟩ := id QN
  have hfe : (fEr (μ (q + 111)) (μ (q + 112)) ln) = fEr (μ (q + 111)) tx ln := fEr_c cb3
  have hfr0 := fEr_r (μ (q + 111)) (μ (q + 112)) cb2.1
  have hwkk := rd_wk (f := μ (q + 111)) (b := tx) (n := ln) (by omega) 61 0 0 (by omega) (by omega) cb2.1 (by omega) (rd_00 _ _)
  rw [← fEr_I, ← hfe] at hwkk
  have hrc : rdI (μ (q + 111)) tx (fEr (μ (q + 111)) (μ (q + 112)) ln) = rdI (μ (q + 111)) (μ (q + 112)) (fEr (μ (q + 111)) (μ (q + 112)) ln) := (rdI_c cb3 hfr0.1 hfr0.2).symm
  refine r_aload_n C dX4_firstError_0 rfl ?_
  refine r_runI (fun aH aL aj a1 a2 a3 => run_V C hF.2.2.1 (kX4_readBuffer hS hW) lm_X4_readBuffer ml_X4_171 im_X4_readBuffer se_X4_readBuffer P1 rfl (Nat.le_of_ble_eq_true rfl) dX4_firstError_1 rfl (Nat.le_of_ble_eq_true rfl) a1 a2 a3) ?_
  rw [cb1]
  exact r_iretr C hF dX4_firstError_4 hwkk.1 (cu_rd hC hfr0)
set_option maxRecDepth 20000 in
set_option maxHeartbeats 2000000 in
theorem kX4_work_0 {V : Wo} {μ : Mem} {q : Nat} {K : Int} {w tx : Int → Int} {sv kp ln : Int} (hC : CI V K q μ w tx sv kp ln) (hKK : K + 1300 ≤ 1000000) (hwk : (wk tx ln 0 0).1 = 1) : Con V 6 yX4_work cX4_work 2 (some .int) [vR q] (μ) (QIr V ((wl tx ln 0 0 (s1 (mSav w sv) 5 (-1)) 0).2) ((fun ν => CI V (K + 1300) q ν ((wl tx ln 0 0 (s1 (mSav w sv) 5 (-1)) 0).1) (tx) (sv1 sv) (kp) (0) ∧ ∀ r, (r < q ∨ q + 112 < r) → ν r = μ r))) := by
  refine con_of (ls0 := [vR q, vU]) (by decide +kernel) rfl (Nat.le_of_ble_eq_true rfl) (Nat.le_of_ble_eq_true rfl) (fun X hV C hF => ?_)
  subst hV
  have C : Ok X RX4 cX4_work 2 6 := C
  have hS := hC.1
  have hW := CI_SpW hC
  obtain ⟨P0, P1, PN, PS, PT, PH, PR, PB⟩ := id hS
  obtain ⟨QN, QH, Q6, Q7, QB, QR, QA⟩ := id hW
  obtain ⟨-, ⟨cv, ce⟩, ⟨ck1, ck2, ck3⟩, ⟨cs1, cs2, cs3, cs4, cs5, cs6⟩, ⟨cb1, cb2, cb3, cb4⟩, cr⟩ := id hC
  obtain ⟨v0, v1, v2, v3, v4, v5, v6, v7, v8, v9, v10⟩ := id cv
  obtain ⟨e1, e2, e3, e4, e5, e6, e7, e8, e9, e10⟩ := id ce
  obtain ⟨hK, WB, Wc, Wi, Wp, Wh, Ws0, Ws1, Ws2, Wbk, Wls⟩ := id QN
  have hfe : (fEr (μ (q + 111)) (μ (q + 112)) ln) = fEr (μ (q + 111)) tx ln := fEr_c cb3
  have hfr0 := fEr_r (μ (q + 111)) (μ (q + 112)) cb2.1
  have hwkk := rd_wk (f := μ (q + 111)) (b := tx) (n := ln) (by omega) 61 0 0 (by omega) (by omega) cb2.1 (by omega) (rd_00 _ _)
  rw [← fEr_I, ← hfe] at hwkk
  have hrc : rdI (μ (q + 111)) tx (fEr (μ (q + 111)) (μ (q + 112)) ln) = rdI (μ (q + 111)) (μ (q + 112)) (fEr (μ (q + 111)) (μ (q + 112)) ln) := (rdI_c cb3 hfr0.1 hfr0.2).symm
  obtain ⟨hfn, hcp⟩ : (fEr (μ (q + 111)) (μ (q + 112)) ln) = ln ∧ cpl (rdI (μ (q + 111)) tx (fEr (μ (q + 111)) (μ (q + 112)) ln)) := by
    rcases hwkk.2 with z | z
    · exact z.2
    · omega
  refine r_aload_n C dX4_work_0 rfl ?_
  refine r_runI (fun aH aL aj a1 a2 a3 => run_V C hF.2.2.1 (kX4_readBuffer hS hW) lm_X4_readBuffer ml_X4_171 im_X4_readBuffer se_X4_readBuffer P1 rfl (Nat.le_of_ble_eq_true rfl) dX4_work_1 rfl (Nat.le_of_ble_eq_true rfl) a1 a2 a3) ?_
  rw [cb1]
  obtain ⟨hC1, hf1⟩ : CU (xV X) K q w tx sv kp ln μ (wr μ (q + 111) (rdI (μ (q + 111)) (μ (q + 112)) (fEr (μ (q + 111)) (μ (q + 112)) ln))) := cu_rd hC hfr0
  refine r_aload_n C dX4_work_4 rfl ?_
  refine gf_X4_40 C P1 dX4_work_5 ?_
  rw [wr_n _ _ (show q ≠ q + 111 by omega), cb1]
  refine r_icmp_lt (tgt := 21) C dX4_work_8 (by decide) (by omega) (by omega) (fun c8 => absurd c8 (by omega)) (fun c8 => ?_)
  refine r_aload_n C dX4_work_11 rfl ?_
  refine gf_X4_32 C P1 dX4_work_12 ?_
  refine r_runI (fun aH aL aj a1 a2 a3 => run_V C hF.2.2.1 (kX2_isComplete PR hC1.2.2.2.2.2) lm_X2_isComplete ml_X4_174 im_X2_isComplete se_X2_isComplete PR.2 rfl (Nat.le_of_ble_eq_true rfl) dX4_work_15 rfl (Nat.le_of_ble_eq_true rfl) a1 a2 a3) ?_
  rw [wr_s, b01_t (by rw [hrc] at hcp; exact hcp)]
  refine r_if_ne (tgt := 31) C dX4_work_18 (by decide) (by omega) (fun c18 => ?_) (fun c18 => absurd c18 (by omega))
  refine r_aload_n C dX4_work_31 rfl ?_
  refine gf_X4_25 C P1 dX4_work_32 ?_
  refine r_aload_n C dX4_work_35 rfl ?_
  refine gf_X4_10 C P1 dX4_work_36 ?_
  refine r_runV (fun aH aL aj a1 a2 a3 => run_V C hF.2.2.1 (kX1_save PH (CI_SpW hC1).2.1 PN (by omega) (fun i i0 i1 => by have := hC1.2.2.2.1.2.2.2.1 i i0 i1; omega)) lm_X1_save ml_X4_67 im_X1_save se_X1_save PH.2.1 rfl (Nat.le_of_ble_eq_true rfl) dX4_work_39 rfl (Nat.le_of_ble_eq_true rfl) a1 a2 a3) ?_
  have hC2 := CI_sav hC1
  have eo : ∀ r, (r < q ∨ q + 112 < r) → sav (wr μ (q + 111) (rdI (μ (q + 111)) (μ (q + 112)) (fEr (μ (q + 111)) (μ (q + 112)) ln))) (q + 37) (q + 1) r = (wr μ (q + 111) (rdI (μ (q + 111)) (μ (q + 112)) (fEr (μ (q + 111)) (μ (q + 112)) ln))) r := fun r hr => sav_o hC1 hr
  refine r_aload_n C dX4_work_42 rfl ?_
  refine r_runIr (fun aH aL aj a1 a2 a3 => run_V C hF.2.2.1 (kX4_doParts_c hC2 hKK hwk) lm_X4_doParts ml_X4_180 im_X4_doParts se_X4_doParts P1 rfl (Nat.le_of_ble_eq_true rfl) dX4_work_43 rfl (Nat.le_of_ble_eq_true rfl) a1 a2 a3) (fun ν R => ?_)
  refine r_istore_n C dX4_work_46 (by decide) rfl ?_
  refine r_aload_n C dX4_work_47 rfl ?_
  refine r_iconst C dX4_work_48 ?_
  refine pf_X4_40 C P1 P0 dX4_work_49 ?_
  refine r_iload_n C dX4_work_52 rfl ?_
  exact r_iretr C hF dX4_work_53 rfl ⟨CI_tx R.1 (fun r r1 r2 => by rw [wr_n _ _ r1]) (by rw [wr_s, s1_n _ _ (by omega)]) (by rw [wr_s, s1_s]) (by omega) (fun i i0 i1 => absurd i1 (by omega)) (fun i i0 i1 => absurd i1 (by omega)), fun r hr => by rw [wr_n _ _ (by omega), R.2 r hr, eo r hr, hf1 r hr]⟩
