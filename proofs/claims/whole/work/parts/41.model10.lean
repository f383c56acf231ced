set_option maxRecDepth 20000 in
set_option maxHeartbeats 2000000 in
theorem kX5_work_1 {V : Wo} {μ : Mem} {q : Nat} (hM : MoS V q) {K : Int} (hv : veW K (μ (q + 1))) (hB : BuW μ q) (h : (wk (μ (q + 2)) (μ q 5) 0 0).1 = 0) : Con V 6 yX5_work cX5_work 3 (some .int) [vR q] (μ) (QIr V (0) ((fun ν => MR q μ ν 1 (μ q 2) (μ q 3) (μ q 5) (μ (q + 1)) (μ (q + 2))))) := by
  refine con_of (ls0 := [vR q, vU, vU]) (by decide +kernel) rfl (Nat.le_of_ble_eq_true rfl) (Nat.le_of_ble_eq_true rfl) (fun X hV C hF => ?_)
  subst hV
  have C : Ok X RX5 cX5_work 3 6 := C
  obtain ⟨M0, M1, Ms, Mt, Mr, Md, Ml⟩ := id hM
  obtain ⟨v0, v1, v2, v3, v4, v5, v6, v7, v8, v9, v10⟩ := id hv
  refine r_aload_n C dX5_work_0 rfl ?_
  refine r_aload_n C dX5_work_1 rfl ?_
  refine r_runIr (fun aH aL aj a1 a2 a3 => run_V C hF.2.2.1 (kX5_isWork hM hB) lm_X5_isWork ml_X5_152 im_X5_isWork se_X5_isWork M1 rfl (Nat.le_of_ble_eq_true rfl) dX5_work_2 rfl (Nat.le_of_ble_eq_true rfl) a1 a2 a3) (fun ν N => ?_)
  rw [h]
  refine r_if_eq (tgt := 12) C dX5_work_5 (by decide) (by omega) (fun c5 => ?_) (fun c5 => absurd c5 (by omega))
  refine r_iconst C dX5_work_12 ?_
  refine r_runI (fun aH aL aj a1 a2 a3 => run_V C hF.2.2.1 (kX5_holds hM (x := 1) (by omega)) lm_X5_holds ml_X5_94 im_X5_holds se_X5_holds M1 rfl (Nat.le_of_ble_eq_true rfl) dX5_work_13 rfl (Nat.le_of_ble_eq_true rfl) a1 a2 a3) ?_
  rw [b01_f (show ¬ (1 : Int) = 0 by omega)]
  refine r_if_ne (tgt := 21) C dX5_work_16 (by decide) (by omega) (fun c16 => absurd c16 (by omega)) (fun c16 => ?_)
  refine r_iconst C dX5_work_19 ?_
  exact r_iretr C hF dX5_work_20 rfl (MR_c (MR_tr N.1.1 (MR_th ν q 1)) rfl N.1.1.2.2.1.2.1 N.1.1.2.2.1.2.2.1 N.1.1.2.2.1.2.2.2 N.1.1.1 N.1.1.2.1)
set_option maxRecDepth 20000 in
set_option maxHeartbeats 2000000 in
theorem kX5_work_0 {V : Wo} {μ : Mem} {q : Nat} (hM : MoS V q) {K : Int} (hv : veW K (μ (q + 1))) (hs : 0 ≤ μ q 2) (hs2 : μ q 2 ≤ 6) (hB : BuW μ q) (hK : K + 1300 ≤ 1000000) (h : (wk (μ (q + 2)) (μ q 5) 0 0).1 = 1) : Con V 6 yX5_work cX5_work 3 (some .int) [vR q] (μ) (QIr V ((wl (μ (q + 2)) (μ q 5) 0 0 (s1 (mSav (μ (q + 1)) (μ q 2)) 5 (-1)) 0).2) ((fun ν => MR q μ ν 0 (sv1 (μ q 2)) (μ q 3) 0 (wl (μ (q + 2)) (μ q 5) 0 0 (s1 (mSav (μ (q + 1)) (μ q 2)) 5 (-1)) 0).1 (μ (q + 2)) ∧ veW (K + 1300) (wl (μ (q + 2)) (μ q 5) 0 0 (s1 (mSav (μ (q + 1)) (μ q 2)) 5 (-1)) 0).1))) := by
  refine con_of (ls0 := [vR q, vU, vU]) (by decide +kernel) rfl (Nat.le_of_ble_eq_true rfl) (Nat.le_of_ble_eq_true rfl) (fun X hV C hF => ?_)
  subst hV
  have C : Ok X RX5 cX5_work 3 6 := C
  obtain ⟨M0, M1, Ms, Mt, Mr, Md, Ml⟩ := id hM
  obtain ⟨v0, v1, v2, v3, v4, v5, v6, v7, v8, v9, v10⟩ := id hv
  obtain ⟨B0, B1⟩ := id hB
  refine r_aload_n C dX5_work_0 rfl ?_
  refine r_aload_n C dX5_work_1 rfl ?_
  refine r_runIr (fun aH aL aj a1 a2 a3 => run_V C hF.2.2.1 (kX5_isWork hM hB) lm_X5_isWork ml_X5_152 im_X5_isWork se_X5_isWork M1 rfl (Nat.le_of_ble_eq_true rfl) dX5_work_2 rfl (Nat.le_of_ble_eq_true rfl) a1 a2 a3) (fun ν N => ?_)
  rw [h]
  refine r_if_eq (tgt := 12) C dX5_work_5 (by decide) (by omega) (fun c5 => absurd c5 (by omega)) (fun c5 => ?_)
  refine r_iconst C dX5_work_8 ?_
  refine r_goto (tgt := 13) C dX5_work_9 (by decide) ?_
  refine r_runI (fun aH aL aj a1 a2 a3 => run_V C hF.2.2.1 (kX5_holds hM (x := 0) (by omega)) lm_X5_holds ml_X5_94 im_X5_holds se_X5_holds M1 rfl (Nat.le_of_ble_eq_true rfl) dX5_work_13 rfl (Nat.le_of_ble_eq_true rfl) a1 a2 a3) ?_
  rw [b01_t rfl]
  refine r_if_ne (tgt := 21) C dX5_work_16 (by decide) (by omega) (fun c16 => ?_) (fun c16 => absurd c16 (by omega))
  refine r_aload_n C dX5_work_21 rfl ?_
  refine r_runV (fun aH aL aj a1 a2 a3 => run_V C hF.2.2.1 (kX5_save (μ := wr ν q (s1 (ν q) 0 0)) hM (by rw [wr_s, s1_n _ _ (by omega), N.1.1.2.2.1.2.1]; exact hs) (by rw [wr_s, s1_n _ _ (by omega), N.1.1.2.2.1.2.1]; exact hs2)) lm_X5_save ml_X5_97 im_X5_save se_X5_save M1 rfl (Nat.le_of_ble_eq_true rfl) dX5_work_22 rfl (Nat.le_of_ble_eq_true rfl) a1 a2 a3) ?_
  rw [mS_of]
  refine r_aload_n C dX5_work_25 rfl ?_
  refine gf_X5_7 C M1 dX5_work_26 ?_
  refine r_iconst C dX5_work_29 ?_
  refine r_iconst C dX5_work_30 ?_
  refine r_iast C Ms (by omega) (by omega) (by omega) dX5_work_31 ?_
  refine r_aload_n C dX5_work_32 rfl ?_
  refine r_iconst C dX5_work_33 ?_
  refine pf_X5_128 C M1 M0 dX5_work_34 ?_
  refine r_iconst C dX5_work_37 ?_
  refine r_istore_n C dX5_work_38 (by decide) rfl ?_
  have n2 : ν q 2 = μ q 2 := N.1.1.2.2.1.2.1
  have U0 : MR q μ (wr (wr (mS ν q) (q + 1) (s1 (mS ν q (q + 1)) 5 (-1))) q (s1 (wr (mS ν q) (q + 1) (s1 (mS ν q (q + 1)) 5 (-1)) q) 6 0)) 0 (sv1 (μ q 2)) (μ q 3) (μ q 5) (s1 (mSav (μ (q + 1)) (μ q 2)) 5 (-1)) (μ (q + 2)) := by
    have e0 : mS ν q (q + 1) = mSav (μ (q + 1)) (μ q 2) := by rw [mS_1, N.1.1.1, n2]
    rw [e0]
    exact MR_6 0 (MR_c (MR_tr N.1.1 (MR_mS ν q _)) rfl (by rw [n2]) N.1.1.2.2.1.2.2.1 N.1.1.2.2.1.2.2.2 rfl N.1.1.2.1)
  have U1 : (wr (wr (mS ν q) (q + 1) (s1 (mS ν q (q + 1)) 5 (-1))) q (s1 (wr (mS ν q) (q + 1) (s1 (mS ν q (q + 1)) 5 (-1)) q) 6 0)) q 6 = 0 := by rw [wr_s, s1_s]
  refine loop_up (F := fun i => ∀ (a c : Int) (v : Int → Int) (ν : Mem) (z : AV), i ≤ a → a ≤ (μ q 5) → 0 ≤ c → c ≤ i → veW (K + 20 * i) v → v 5 = -1 → MR q μ ν 0 (sv1 (μ q 2)) (μ q 3) (μ q 5) v (μ (q + 2)) → ν q 6 = a → wl (μ (q + 2)) (μ q 5) 0 0 (s1 (mSav (μ (q + 1)) (μ q 2)) 5 (-1)) 0 = wl (μ (q + 2)) (μ q 5) i a v c → RR X ν 39 [vR q, vI c, z] []) (a := 0) (b := 61) (by omega) ?_ ?_ 0 0 (s1 (mSav (μ (q + 1)) (μ q 2)) 5 (-1)) _ vU (Int.le_refl 0) B0.1 (Int.le_refl 0) (Int.le_refl 0) (veW_s5 (veW_mono (veW_sav hv hs) (by omega) (by omega)) (by omega)) (s1_s ..) U0 U1 rfl
  · intro a c v ν z h1 h2 h3 h4 hvv h5 N2 h6 hw
    exact absurd h1 (by omega)
  · intro i h0 h1 K2 a c v ν z hi hn hc hci hvv h5 N2 h6 hw
    show RR X _ _ [vR q, vI c, z] []
    have e1 := N2.1
    have e2 := N2.2.1
    have e5 := N2.2.2.1.2.2.2
    refine r_aload_n C dX5_work_39 rfl ?_
    refine gf_X5_7 C M1 dX5_work_40 ?_
    refine r_iconst C dX5_work_43 ?_
    refine r_iald C Ms (by omega) (by omega) dX5_work_44 ?_
    refine r_iconst C dX5_work_45 ?_
    rw [e1, h5]
    refine r_icmp_ne (tgt := 98) C dX5_work_46 (by decide) (by omega) (by omega) (fun c46 => absurd c46 (by omega)) (fun c46 => ?_)
    refine r_aload_n C dX5_work_49 rfl ?_
    refine r_runIr (fun aH aL aj a1 a2 a3 => run_V C hF.2.2.1 (kX5_readsPart hM (BuW_R N2 hB) (by rw [h6]; omega) (by rw [h6, e5]; omega)) lm_X5_readsPart ml_X5_149 im_X5_readsPart se_X5_readsPart M1 rfl (Nat.le_of_ble_eq_true rfl) dX5_work_50 rfl (Nat.le_of_ble_eq_true rfl) a1 a2 a3) (fun ρ R => ?_)
    obtain ⟨R1, R2, R3, R4, R5⟩ := R
    rw [e2, e5, h6] at R2 R3 R4 R5
    rw [e2, e5, h6]
    have p1 := R1.1.1.trans e1
    have NR := MR_U N2 R1
    have ra := rpa_r (b := (μ (q + 2))) (n := (μ q 5)) (a := a) hn
    refine r_if_eq (tgt := 98) C dX5_work_53 (by decide) (by have := b01_z (rpk (μ (q + 2)) (μ q 5) a); omega) (fun c53 => ?_) (fun c53 => ?_)
    · have hk : ¬ rpk (μ (q + 2)) (μ q 5) a := fun z => by rw [b01_t z] at c53; omega
      rw [wl_s _ _ _ _ h1, if_neg hk] at hw
      refine r_aload_n C dX5_work_98 rfl ?_
      refine r_iconst C dX5_work_99 ?_
      refine pf_X5_125 C M1 M0 dX5_work_100 ?_
      refine r_iload_n C dX5_work_103 rfl ?_
      exact r_iretr C hF dX5_work_104 (by rw [hw]) ⟨by rw [hw]; exact MR_len (NR), by rw [hw]; exact veW_mono hvv (by omega) hK⟩
    · have hk : rpk (μ (q + 2)) (μ q 5) a := Decidable.byContradiction (fun z => c53 (b01_f z))
      refine r_aload_n C dX5_work_56 rfl ?_
      refine r_runIr (fun aH aL aj a1 a2 a3 => run_V C hF.2.2.1 (kX5_isDone hM (K := K + 20 * i) (by rw [p1]; exact hvv) (by rw [R3]; intro z; rw [R4 (Or.inl z) hk]; have y := (rpf_r (b := (μ (q + 2))) (n := (μ q 5)) (a := a)); have y2 := y.2 z; have y3 : rpf (μ (q + 2)) (μ q 5) a ≠ -1 := rpf_ok hk z; omega) (by rw [R3]; intro z; rw [R4 (Or.inr z) hk]; have y := (rpf_r (b := (μ (q + 2))) (n := (μ q 5)) (a := a)); omega) (by rw [R3]; intro z; rw [R5 z hk]; have y := (rps_r (b := (μ (q + 2))) (n := (μ q 5)) (a := a)); omega) (by rw [R3]; have y := sg_r (n := (μ q 5)) B1 (show 0 ≤ a by omega); omega)) lm_X5_isDone ml_X5_155 im_X5_isDone se_X5_isDone M1 rfl (Nat.le_of_ble_eq_true rfl) dX5_work_57 rfl (Nat.le_of_ble_eq_true rfl) a1 a2 a3) (fun σ Q => ?_)
      obtain ⟨Q1, Q2⟩ := Q
      rw [pcV_c (v := ρ (q + 1)) (fun z => (R4 (by rw [← R3]; exact z) hk)) (fun z => R5 (by rw [← R3]; exact z) hk), R3, p1]
      rw [peV_c (v := ρ (q + 1)) (fun z => (R4 (by rw [← R3]; exact z) hk)) (fun z => R5 (by rw [← R3]; exact z) hk), R3, p1] at Q1
      rw [R2] at Q2
      have NQ := MR_t2 NR Q1
      have hz := pcV_z v (sg (μ (q + 2)) (μ q 5) a) (rpf (μ (q + 2)) (μ q 5) a) (rps (μ (q + 2)) (μ q 5) a)
      have hve := veW_pe (l := (sg (μ (q + 2)) (μ q 5) a)) (f := (rpf (μ (q + 2)) (μ q 5) a)) (s := (rps (μ (q + 2)) (μ q 5) a)) hvv (by omega) (fun z => by have y := (rpf_r (b := (μ (q + 2))) (n := (μ q 5)) (a := a)); have y2 := y.2 z; have y3 : rpf (μ (q + 2)) (μ q 5) a ≠ -1 := rpf_ok hk z; omega)
      rw [wl_s _ _ _ _ h1, if_pos hk] at hw
      have ra2 := ra.2 hk
      rcases hz with hz | hz
      · rw [if_neg (by omega)] at hw
        rw [hz]
        refine r_istore_n C dX5_work_60 (by decide) rfl ?_
        refine r_aload_n C dX5_work_61 rfl ?_
        refine gf_X5_7 C M1 dX5_work_62 ?_
        refine r_iconst C dX5_work_65 ?_
        refine r_iload_n C dX5_work_66 rfl ?_
        refine r_if_eq (tgt := 74) C dX5_work_67 (by decide) (by omega) (fun c67 => ?_) (fun c67 => absurd c67 (by omega))
        refine r_iload_n C dX5_work_74 rfl ?_
        refine r_iast C Ms (by omega) (by omega) (by omega) dX5_work_75 ?_
        refine r_iload_n C dX5_work_76 rfl ?_
        refine r_iload_n C dX5_work_77 rfl ?_
        refine r_if_eq (tgt := 85) C dX5_work_78 (by decide) (by omega) (fun c78 => ?_) (fun c78 => absurd c78 (by omega))
        refine r_iconst C dX5_work_85 ?_
        refine r_iadd C dX5_work_86 ?_
        refine r_istore_n C dX5_work_87 (by decide) rfl ?_
        refine r_aload_n C dX5_work_88 rfl ?_
        refine r_bipush C dX5_work_89 rfl ?_
        refine r_runI (fun aH aL aj a1 a2 a3 => run_V C hF.2.2.1 (kX5_takes (c := 59) hM (BuW_R (MR_v _ NQ) hB) (by rw [wr_n _ _ (by omega), Q2]; omega) (by rw [wr_n _ _ (by omega), Q2]; omega) (by omega)) lm_X5_takes ml_X5_137 im_X5_takes se_X5_takes M1 rfl (Nat.le_of_ble_eq_true rfl) dX5_work_91 rfl (Nat.le_of_ble_eq_true rfl) a1 a2 a3) ?_
        refine r_pop C dX5_work_94 rfl ?_
        refine r_goto (tgt := 39) C dX5_work_95 (by decide) ?_
        skip
        · skip
          refine r_aload_n C dX5_work_39 rfl ?_
          refine gf_X5_7 C M1 dX5_work_40 ?_
          refine r_iconst C dX5_work_43 ?_
          refine r_iald C Ms (by omega) (by omega) dX5_work_44 ?_
          refine r_iconst C dX5_work_45 ?_
          rw [wr_n _ _ (show q + 1 ≠ q by omega), wr_s σ, s1_s]
          refine r_icmp_ne (tgt := 98) C dX5_work_46 (by decide) (by omega) (by omega) (fun c46 => ?_) (fun c46 => absurd c46 (by omega))
          refine r_aload_n C dX5_work_98 rfl ?_
          refine r_iconst C dX5_work_99 ?_
          refine pf_X5_125 C M1 M0 dX5_work_100 ?_
          refine r_iload_n C dX5_work_103 rfl ?_
          exact r_iretr C hF dX5_work_104 (by rw [hw]; omega) ⟨by rw [hw, ← Q1.1]; exact MR_len (MR_6 _ (MR_v _ NQ)), by rw [hw]; exact veW_mono (veW_s5 hve (by omega)) (by omega) hK⟩
      · rw [if_pos hz] at hw
        rw [hz]
        refine r_istore_n C dX5_work_60 (by decide) rfl ?_
        refine r_aload_n C dX5_work_61 rfl ?_
        refine gf_X5_7 C M1 dX5_work_62 ?_
        refine r_iconst C dX5_work_65 ?_
        refine r_iload_n C dX5_work_66 rfl ?_
        refine r_if_eq (tgt := 74) C dX5_work_67 (by decide) (by omega) (fun c67 => absurd c67 (by omega)) (fun c67 => ?_)
        refine r_iconst C dX5_work_70 ?_
        refine r_goto (tgt := 75) C dX5_work_71 (by decide) ?_
        refine r_iast C Ms (by omega) (by omega) (by omega) dX5_work_75 ?_
        refine r_iload_n C dX5_work_76 rfl ?_
        refine r_iload_n C dX5_work_77 rfl ?_
        refine r_if_eq (tgt := 85) C dX5_work_78 (by decide) (by omega) (fun c78 => absurd c78 (by omega)) (fun c78 => ?_)
        refine r_iconst C dX5_work_81 ?_
        refine r_goto (tgt := 86) C dX5_work_82 (by decide) ?_
        refine r_iadd C dX5_work_86 ?_
        refine r_istore_n C dX5_work_87 (by decide) rfl ?_
        refine r_aload_n C dX5_work_88 rfl ?_
        refine r_bipush C dX5_work_89 rfl ?_
        refine r_runI (fun aH aL aj a1 a2 a3 => run_V C hF.2.2.1 (kX5_takes (c := 59) hM (BuW_R (MR_v _ NQ) hB) (by rw [wr_n _ _ (by omega), Q2]; omega) (by rw [wr_n _ _ (by omega), Q2]; omega) (by omega)) lm_X5_takes ml_X5_137 im_X5_takes se_X5_takes M1 rfl (Nat.le_of_ble_eq_true rfl) dX5_work_91 rfl (Nat.le_of_ble_eq_true rfl) a1 a2 a3) ?_
        refine r_pop C dX5_work_94 rfl ?_
        refine r_goto (tgt := 39) C dX5_work_95 (by decide) ?_
        have t2 : wr σ (q + 1) (s1 (σ (q + 1)) 5 (-1)) (q + 2) = μ (q + 2) := by rw [wr_n _ _ (by omega)]; exact NQ.2.1
        have t5 : wr σ (q + 1) (s1 (σ (q + 1)) 5 (-1)) q 5 = μ q 5 := by rw [wr_n _ _ (by omega)]; exact NQ.2.2.1.2.2.2
        have t6 : wr σ (q + 1) (s1 (σ (q + 1)) 5 (-1)) q 6 = (rpa (μ (q + 2)) (μ q 5) a) := by rw [wr_n _ _ (by omega)]; exact Q2
        have hin := sg_in (b := (μ (q + 2))) (n := (μ q 5)) (a := (rpa (μ (q + 2)) (μ q 5) a))
        have hbz : (rpa (μ (q + 2)) (μ q 5) a) + b01 (sg (μ (q + 2)) (μ q 5) (rpa (μ (q + 2)) (μ q 5) a) = 59) ≤ (μ q 5) := by
          by_cases y : sg (μ (q + 2)) (μ q 5) (rpa (μ (q + 2)) (μ q 5) a) = 59
          · rw [b01_t y]; have := hin (by omega); omega
          · rw [b01_f y]; omega
        have hbr := b01_r (sg (μ (q + 2)) (μ q 5) (rpa (μ (q + 2)) (μ q 5) a) = 59)
        refine K2 ((rpa (μ (q + 2)) (μ q 5) a) + b01 (sg (μ (q + 2)) (μ q 5) (rpa (μ (q + 2)) (μ q 5) a) = 59)) (c + 1) (s1 (peV v (sg (μ (q + 2)) (μ q 5) a) (rpf (μ (q + 2)) (μ q 5) a) (rps (μ (q + 2)) (μ q 5) a)) 5 (-1)) _ _ (by omega) hbz (by omega) (by omega) (by have y := veW_s5 (x := -1) hve (by omega); rw [show K + 20 * i + 20 = K + 20 * (i + 1) by omega] at y; exact y) (s1_s ..) (by rw [← Q1.1]; exact MR_6 _ (MR_v _ NQ)) (by rw [wr_s, s1_s, t2, t5, t6]) hw
