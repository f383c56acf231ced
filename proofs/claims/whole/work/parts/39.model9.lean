set_option maxRecDepth 20000 in
set_option maxHeartbeats 2000000 in
theorem kX5_isWork {V : Wo} {μ : Mem} {q : Nat} (hM : MoS V q) (hB : BuW μ q) : Con V 3 yX5_isWork cX5_isWork 1 (some .boolean) [vR q] (μ) (QIr V ((wk (μ (q + 2)) (μ q 5) 0 0).1) ((fun ν => MU q μ ν ∧ ν q 6 = (wk (μ (q + 2)) (μ q 5) 0 0).2))) := by
  refine con_of (ls0 := [vR q]) (by decide +kernel) rfl (Nat.le_of_ble_eq_true rfl) (Nat.le_of_ble_eq_true rfl) (fun X hV C hF => ?_)
  subst hV
  have C : Ok X RX5 cX5_isWork 1 3 := C
  obtain ⟨M0, M1, Ms, Mt, Mr, Md, Ml⟩ := id hM
  obtain ⟨B0, B1⟩ := id hB
  refine r_aload_n C dX5_isWork_0 rfl ?_
  refine r_iconst C dX5_isWork_1 ?_
  refine pf_X5_128 C M1 M0 dX5_isWork_2 ?_
  have U0 : MU q μ (wr μ q (s1 (μ q) 6 0)) := MU_q 0 (MU_refl q μ) (by omega) (by omega)
  have U1 : wr μ q (s1 (μ q) 6 0) q 6 = 0 := by rw [wr_s, s1_s]
  refine loop_up (F := fun i => ∀ (a : Int) (ν : Mem), i ≤ a → a ≤ (μ q 5) → MU q μ ν → ν q 6 = a → wk (μ (q + 2)) (μ q 5) 0 0 = wk (μ (q + 2)) (μ q 5) i a → RR X ν 5 [vR q] []) (a := 0) (b := 61) (by omega) ?_ ?_ 0 _ (Int.le_refl 0) B0.1 U0 U1 rfl
  · intro a ν h1 h2 N h6 hw
    exact absurd h1 (by omega)
  · intro i h0 h1 K2 a ν hi hn N h6 hw
    show RR X _ _ [vR q] []
    have e1 := N.1.1
    have e2 := N.1.2.1
    have e5 := N.1.2.2.1.2.2.2
    rw [wk_s _ _ h1] at hw
    refine r_aload_n C dX5_isWork_5 rfl ?_
    refine r_runIr (fun aH aL aj a1 a2 a3 => run_V C hF.2.2.1 (kX5_readsPart hM (BuW_U N hB) (by rw [h6]; omega) (by rw [h6, e5]; omega)) lm_X5_readsPart ml_X5_149 im_X5_readsPart se_X5_readsPart M1 rfl (Nat.le_of_ble_eq_true rfl) dX5_isWork_6 rfl (Nat.le_of_ble_eq_true rfl) a1 a2 a3) (fun ρ R => ?_)
    obtain ⟨R1, R2, R3, R4, R5⟩ := R
    rw [e2, e5, h6] at R2 R3 R4 R5
    rw [e2, e5, h6]
    have r2 := R1.1.2.1.trans e2
    have r5 := R1.1.2.2.1.2.2.2.trans e5
    have NR := MU_tr N R1
    have ra := rpa_r (b := (μ (q + 2))) (n := (μ q 5)) (a := a) hn
    refine r_if_eq (tgt := 36) C dX5_isWork_9 (by decide) (by have := b01_z (rpk (μ (q + 2)) (μ q 5) a); omega) (fun c9 => ?_) (fun c9 => ?_)
    · have hk : ¬ rpk (μ (q + 2)) (μ q 5) a := fun z => by rw [b01_t z] at c9; omega
      rw [if_neg hk] at hw
      refine r_iconst C dX5_isWork_36 ?_
      exact r_zretr C hF dX5_isWork_37 (by omega) (by rw [hw]) ⟨NR, by rw [hw]; exact R2⟩
    · have hk : rpk (μ (q + 2)) (μ q 5) a := Decidable.byContradiction (fun z => c9 (b01_f z))
      rw [if_pos hk] at hw
      have ra2 := ra.2 hk
      refine r_aload_n C dX5_isWork_12 rfl ?_
      refine gf_X5_128 C M1 dX5_isWork_13 ?_
      refine r_aload_n C dX5_isWork_16 rfl ?_
      refine gf_X5_125 C M1 dX5_isWork_17 ?_
      rw [R2, r5]
      refine r_icmp_ne (tgt := 25) C dX5_isWork_20 (by decide) (by omega) (by omega) (fun c20 => ?_) (fun c20 => ?_)
      · rw [if_neg c20] at hw
        refine r_aload_n C dX5_isWork_25 rfl ?_
        refine r_bipush C dX5_isWork_26 rfl ?_
        refine r_runI (fun aH aL aj a1 a2 a3 => run_V C hF.2.2.1 (kX5_takes (c := 59) hM (BuW_U NR hB) (by rw [R2]; omega) (by rw [R2]; omega) (by omega)) lm_X5_takes ml_X5_137 im_X5_takes se_X5_takes M1 rfl (Nat.le_of_ble_eq_true rfl) dX5_isWork_28 rfl (Nat.le_of_ble_eq_true rfl) a1 a2 a3) ?_
        rw [r2, r5, R2]
        refine r_if_ne (tgt := 5) C dX5_isWork_31 (by decide) (by have := b01_z (sg (μ (q + 2)) (μ q 5) (rpa (μ (q + 2)) (μ q 5) a) = 59); omega) (fun c31 => ?_) (fun c31 => ?_)
        · have hs : sg (μ (q + 2)) (μ q 5) (rpa (μ (q + 2)) (μ q 5) a) = 59 := Decidable.byContradiction (fun z => c31 (b01_f z))
          rw [if_pos hs] at hw
          exact K2 (rpa (μ (q + 2)) (μ q 5) a + 1) _ (by omega) (by omega) (MU_q _ NR (by omega) (by omega)) (by rw [wr_s, s1_s, b01_t hs]) hw
        · have hs : ¬ sg (μ (q + 2)) (μ q 5) (rpa (μ (q + 2)) (μ q 5) a) = 59 := fun z => by rw [b01_t z] at c31; omega
          rw [if_neg hs] at hw
          refine r_iconst C dX5_isWork_34 ?_
          exact r_zretr C hF dX5_isWork_35 (by omega) (by rw [hw]) ⟨MU_q _ NR (by omega) (by omega), by rw [hw, wr_s, s1_s, b01_f hs, Int.add_zero]⟩
      · rw [if_pos c20] at hw
        refine r_iconst C dX5_isWork_23 ?_
        exact r_zretr C hF dX5_isWork_24 (by omega) (by rw [hw]) ⟨NR, by rw [hw, R2, c20]⟩
set_option maxRecDepth 20000 in
set_option maxHeartbeats 2000000 in
theorem kX5_firstError {V : Wo} {μ : Mem} {q : Nat} (hM : MoS V q) (hB : BuW μ q) : Con V 4 yX5_firstError cX5_firstError 1 (some .int) [vR q] (μ) (QIr V ((wk (μ (q + 2)) (μ q 5) 0 0).2) ((fun ν => MR q μ ν 0 (μ q 2) (μ q 3) (μ q 5) (μ (q + 1)) (μ (q + 2))))) := by
  refine con_of (ls0 := [vR q]) (by decide +kernel) rfl (Nat.le_of_ble_eq_true rfl) (Nat.le_of_ble_eq_true rfl) (fun X hV C hF => ?_)
  subst hV
  have C : Ok X RX5 cX5_firstError 1 4 := C
  obtain ⟨M0, M1, Ms, Mt, Mr, Md, Ml⟩ := id hM
  obtain ⟨B0, B1⟩ := id hB
  refine r_aload_n C dX5_firstError_0 rfl ?_
  refine r_iconst C dX5_firstError_1 ?_
  refine pf_X5_25 C M1 M0 dX5_firstError_2 ?_
  refine r_aload_n C dX5_firstError_5 rfl ?_
  refine r_runIr (fun aH aL aj a1 a2 a3 => run_V C hF.2.2.1 (kX5_isWork hM (BuW_g hB (s1_n _ _ (by omega)))) lm_X5_isWork ml_X5_152 im_X5_isWork se_X5_isWork M1 rfl (Nat.le_of_ble_eq_true rfl) dX5_firstError_6 rfl (Nat.le_of_ble_eq_true rfl) a1 a2 a3) (fun ν N => ?_)
  rw [wr_s μ q, s1_n (μ q) 0 (show (5 : Int) ≠ 0 by omega), wr_n μ _ (show q + 2 ≠ q by omega)] at N
  rw [wr_s μ q, s1_n (μ q) 0 (show (5 : Int) ≠ 0 by omega), wr_n μ _ (show q + 2 ≠ q by omega)]
  refine r_pop C dX5_firstError_9 rfl ?_
  refine r_aload_n C dX5_firstError_10 rfl ?_
  refine gf_X5_128 C M1 dX5_firstError_11 ?_
  rw [N.2]
  exact r_iretr C hF dX5_firstError_14 rfl (MR_U (MR_th μ q 0) N.1)
set_option maxRecDepth 20000 in
set_option maxHeartbeats 2000000 in
theorem kX5_isDone {V : Wo} {μ : Mem} {q : Nat} (hM : MoS V q) {K : Int} (hv : veW K (μ (q + 1))) (hf : (μ q 7) = 103 → 0 ≤ (μ q 8) ∧ (μ q 8) < 16) (hf1 : (μ q 7) = 112 ∨ (μ q 7) = 102 ∨ (μ q 7) = 109 → inR (μ q 8)) (hf2 : (μ q 7) = 109 → inR (μ q 9)) (hl : inR (μ q 7)) : Con V 5 yX5_isDone cX5_isDone 1 (some .boolean) [vR q] (μ) (QIr V (pcV (μ (q + 1)) (μ q 7) (μ q 8) (μ q 9)) ((fun ν => MV q μ ν (peV (μ (q + 1)) (μ q 7) (μ q 8) (μ q 9)) ∧ ν q 6 = μ q 6))) := by
  refine con_of (ls0 := [vR q]) (by decide +kernel) rfl (Nat.le_of_ble_eq_true rfl) (Nat.le_of_ble_eq_true rfl) (fun X hV C hF => ?_)
  subst hV
  have C : Ok X RX5 cX5_isDone 1 5 := C
  obtain ⟨M0, M1, Ms, Mt, Mr, Md, Ml⟩ := id hM
  obtain ⟨v0, v1, v2, v3, v4, v5, v6, v7, v8, v9, v10⟩ := id hv
  refine r_aload_n C dX5_isDone_0 rfl ?_
  refine gf_X5_134 C M1 dX5_isDone_1 ?_
  have h5 : (μ q 7) = 103 ∨ (μ q 7) = 112 ∨ (μ q 7) = 102 ∨ (μ q 7) = 109 ∨ ((μ q 7) ≠ 103 ∧ (μ q 7) ≠ 112 ∧ (μ q 7) ≠ 102 ∧ (μ q 7) ≠ 109) := by omega
  rcases h5 with e | e | e | e | e
  · have ec : pcV (μ (q + 1)) (μ q 7) (μ q 8) (μ q 9) = b01 (0 < (μ (q + 1)) (6 + (μ q 8)) ∧ (μ (q + 1)) 3 < 20) := by unfold pcV; rw [if_pos e]
    have ed : pdV (μ (q + 1)) (μ q 7) (μ q 8) (μ q 9) = mIns (μ (q + 1)) ((μ (q + 1)) 3) (μ q 8) := by unfold pdV; rw [if_pos e]
    rw [ec] at hF
    rw [e]
    refine r_lsw (tgt := 48) C dX5_isDone_4 rfl (by omega) rfl (by decide) ?_
    by_cases hq : (0 < (μ (q + 1)) (6 + (μ q 8)) ∧ (μ (q + 1)) 3 < 20)
    · skip
      refine r_aload_n C dX5_isDone_48 rfl ?_
      refine r_aload_n C dX5_isDone_49 rfl ?_
      refine gf_X5_143 C M1 dX5_isDone_50 ?_
      refine r_runI (fun aH aL aj a1 a2 a3 => run_V C hF.2.2.1 (kX5_canGather hM hv (hf e).1 (hf e).2) lm_X5_canGather ml_X5_91 im_X5_canGather se_X5_canGather M1 rfl (Nat.le_of_ble_eq_true rfl) dX5_isDone_53 rfl (Nat.le_of_ble_eq_true rfl) a1 a2 a3) ?_
      rw [b01_t hq]
      refine r_if_eq (tgt := 80) C dX5_isDone_56 (by decide) (by omega) (fun c56 => absurd c56 (by omega)) (fun c56 => ?_)
      refine r_aload_n C dX5_isDone_59 rfl ?_
      refine r_aload_n C dX5_isDone_60 rfl ?_
      refine gf_X5_7 C M1 dX5_isDone_61 ?_
      refine r_iconst C dX5_isDone_64 ?_
      refine r_iald C Ms (by omega) (by omega) dX5_isDone_65 ?_
      refine r_aload_n C dX5_isDone_66 rfl ?_
      refine gf_X5_143 C M1 dX5_isDone_67 ?_
      refine r_runI (fun aH aL aj a1 a2 a3 => run_V C hF.2.2.1 (kX5_inserts hM hv (p := (μ (q + 1)) 3) (by omega) (by omega) (by omega) (hf e).1 (hf e).2) lm_X5_inserts ml_X5_100 im_X5_inserts se_X5_inserts M1 rfl (Nat.le_of_ble_eq_true rfl) dX5_isDone_70 rfl (Nat.le_of_ble_eq_true rfl) a1 a2 a3) ?_
      refine r_if_le (tgt := 80) C dX5_isDone_73 (by decide) (by omega) (fun c73 => absurd c73 (by omega)) (fun c73 => ?_)
      refine r_iconst C dX5_isDone_76 ?_
      refine r_goto (tgt := 81) C dX5_isDone_77 (by decide) ?_
      exact r_zretr C hF dX5_isDone_81 (by omega) (b01_t hq).symm ⟨by rw [peV_1 (ec.trans (b01_t hq)), ed]; exact MV_w _ (MU_refl q μ), by rw [wr_n _ _ (by omega)]⟩
    · skip
      refine r_aload_n C dX5_isDone_48 rfl ?_
      refine r_aload_n C dX5_isDone_49 rfl ?_
      refine gf_X5_143 C M1 dX5_isDone_50 ?_
      refine r_runI (fun aH aL aj a1 a2 a3 => run_V C hF.2.2.1 (kX5_canGather hM hv (hf e).1 (hf e).2) lm_X5_canGather ml_X5_91 im_X5_canGather se_X5_canGather M1 rfl (Nat.le_of_ble_eq_true rfl) dX5_isDone_53 rfl (Nat.le_of_ble_eq_true rfl) a1 a2 a3) ?_
      rw [b01_f hq]
      refine r_if_eq (tgt := 80) C dX5_isDone_56 (by decide) (by omega) (fun c56 => ?_) (fun c56 => absurd c56 (by omega))
      refine r_iconst C dX5_isDone_80 ?_
      exact r_zretr C hF dX5_isDone_81 (by omega) (b01_f hq).symm ⟨by rw [peV_0 (ec.trans (b01_f hq))]; exact (MU_refl q μ).1, rfl⟩
  · have ec : pcV (μ (q + 1)) (μ q 7) (μ q 8) (μ q 9) = b01 (0 ≤ (μ q 8) ∧ (μ q 8) < (μ (q + 1)) 3) := by unfold pcV; rw [if_neg (by omega), if_pos (by omega)]
    have ed : pdV (μ (q + 1)) (μ q 7) (μ q 8) (μ q 9) = mPul (μ (q + 1)) (μ q 8) := by unfold pdV; rw [if_neg (by omega), if_pos e]
    rw [ec] at hF
    rw [e]
    refine r_lsw (tgt := 82) C dX5_isDone_4 rfl (by omega) rfl (by decide) ?_
    by_cases hq : (0 ≤ (μ q 8) ∧ (μ q 8) < (μ (q + 1)) 3)
    · skip
      refine r_aload_n C dX5_isDone_82 rfl ?_
      refine r_aload_n C dX5_isDone_83 rfl ?_
      refine gf_X5_143 C M1 dX5_isDone_84 ?_
      refine r_runI (fun aH aL aj a1 a2 a3 => run_V C hF.2.2.1 (kX5_isPlace hM hv (x := (μ q 8)) (hf1 (by omega))) lm_X5_isPlace ml_X5_103 im_X5_isPlace se_X5_isPlace M1 rfl (Nat.le_of_ble_eq_true rfl) dX5_isDone_87 rfl (Nat.le_of_ble_eq_true rfl) a1 a2 a3) ?_
      rw [b01_t hq]
      refine r_if_eq (tgt := 108) C dX5_isDone_90 (by decide) (by omega) (fun c90 => absurd c90 (by omega)) (fun c90 => ?_)
      refine r_aload_n C dX5_isDone_93 rfl ?_
      refine r_aload_n C dX5_isDone_94 rfl ?_
      refine gf_X5_143 C M1 dX5_isDone_95 ?_
      refine r_runI (fun aH aL aj a1 a2 a3 => run_V C hF.2.2.1 (kX5_pulls hM hv hq.1 hq.2) lm_X5_pulls ml_X5_106 im_X5_pulls se_X5_pulls M1 rfl (Nat.le_of_ble_eq_true rfl) dX5_isDone_98 rfl (Nat.le_of_ble_eq_true rfl) a1 a2 a3) ?_
      refine r_if_lt (tgt := 108) C dX5_isDone_101 (by decide) (by have := v9 _ hq.1 hq.2; omega) (fun c101 => absurd c101 (by have := v9 _ hq.1 hq.2; omega)) (fun c101 => ?_)
      refine r_iconst C dX5_isDone_104 ?_
      refine r_goto (tgt := 109) C dX5_isDone_105 (by decide) ?_
      exact r_zretr C hF dX5_isDone_109 (by omega) (b01_t hq).symm ⟨by rw [peV_1 (ec.trans (b01_t hq)), ed]; exact MV_w _ (MU_refl q μ), by rw [wr_n _ _ (by omega)]⟩
    · skip
      refine r_aload_n C dX5_isDone_82 rfl ?_
      refine r_aload_n C dX5_isDone_83 rfl ?_
      refine gf_X5_143 C M1 dX5_isDone_84 ?_
      refine r_runI (fun aH aL aj a1 a2 a3 => run_V C hF.2.2.1 (kX5_isPlace hM hv (x := (μ q 8)) (hf1 (by omega))) lm_X5_isPlace ml_X5_103 im_X5_isPlace se_X5_isPlace M1 rfl (Nat.le_of_ble_eq_true rfl) dX5_isDone_87 rfl (Nat.le_of_ble_eq_true rfl) a1 a2 a3) ?_
      rw [b01_f hq]
      refine r_if_eq (tgt := 108) C dX5_isDone_90 (by decide) (by omega) (fun c90 => ?_) (fun c90 => absurd c90 (by omega))
      refine r_iconst C dX5_isDone_108 ?_
      exact r_zretr C hF dX5_isDone_109 (by omega) (b01_f hq).symm ⟨by rw [peV_0 (ec.trans (b01_f hq))]; exact (MU_refl q μ).1, rfl⟩
  · have ec : pcV (μ (q + 1)) (μ q 7) (μ q 8) (μ q 9) = b01 (0 ≤ (μ q 8) ∧ (μ q 8) < (μ (q + 1)) 3) := by unfold pcV; rw [if_neg (by omega), if_pos (by omega)]
    have ed : pdV (μ (q + 1)) (μ q 7) (μ q 8) (μ q 9) = mFli (μ (q + 1)) (μ q 8) := by unfold pdV; rw [if_neg (by omega), if_neg (by omega), if_pos e]
    rw [ec] at hF
    rw [e]
    refine r_lsw (tgt := 110) C dX5_isDone_4 rfl (by omega) rfl (by decide) ?_
    by_cases hq : (0 ≤ (μ q 8) ∧ (μ q 8) < (μ (q + 1)) 3)
    · skip
      refine r_aload_n C dX5_isDone_110 rfl ?_
      refine r_aload_n C dX5_isDone_111 rfl ?_
      refine gf_X5_143 C M1 dX5_isDone_112 ?_
      refine r_runI (fun aH aL aj a1 a2 a3 => run_V C hF.2.2.1 (kX5_isPlace hM hv (x := (μ q 8)) (hf1 (by omega))) lm_X5_isPlace ml_X5_103 im_X5_isPlace se_X5_isPlace M1 rfl (Nat.le_of_ble_eq_true rfl) dX5_isDone_115 rfl (Nat.le_of_ble_eq_true rfl) a1 a2 a3) ?_
      rw [b01_t hq]
      refine r_if_eq (tgt := 136) C dX5_isDone_118 (by decide) (by omega) (fun c118 => absurd c118 (by omega)) (fun c118 => ?_)
      refine r_aload_n C dX5_isDone_121 rfl ?_
      refine r_aload_n C dX5_isDone_122 rfl ?_
      refine gf_X5_143 C M1 dX5_isDone_123 ?_
      refine r_runI (fun aH aL aj a1 a2 a3 => run_V C hF.2.2.1 (kX5_flips hM hv hq.1 hq.2) lm_X5_flips ml_X5_109 im_X5_flips se_X5_flips M1 rfl (Nat.le_of_ble_eq_true rfl) dX5_isDone_126 rfl (Nat.le_of_ble_eq_true rfl) a1 a2 a3) ?_
      have hmk := mk_bd (st := (μ (q + 1)) 1) (a := (μ (q + 1)) (70 + (μ q 8))) (d := 1 - (μ (q + 1)) (90 + (μ q 8))) (by omega)
      refine r_if_lt (tgt := 136) C dX5_isDone_129 (by decide) (by omega) (fun c129 => absurd c129 (by omega)) (fun c129 => ?_)
      refine r_iconst C dX5_isDone_132 ?_
      refine r_goto (tgt := 137) C dX5_isDone_133 (by decide) ?_
      exact r_zretr C hF dX5_isDone_137 (by omega) (b01_t hq).symm ⟨by rw [peV_1 (ec.trans (b01_t hq)), ed]; exact MV_w _ (MU_refl q μ), by rw [wr_n _ _ (by omega)]⟩
    · skip
      refine r_aload_n C dX5_isDone_110 rfl ?_
      refine r_aload_n C dX5_isDone_111 rfl ?_
      refine gf_X5_143 C M1 dX5_isDone_112 ?_
      refine r_runI (fun aH aL aj a1 a2 a3 => run_V C hF.2.2.1 (kX5_isPlace hM hv (x := (μ q 8)) (hf1 (by omega))) lm_X5_isPlace ml_X5_103 im_X5_isPlace se_X5_isPlace M1 rfl (Nat.le_of_ble_eq_true rfl) dX5_isDone_115 rfl (Nat.le_of_ble_eq_true rfl) a1 a2 a3) ?_
      rw [b01_f hq]
      refine r_if_eq (tgt := 136) C dX5_isDone_118 (by decide) (by omega) (fun c118 => ?_) (fun c118 => absurd c118 (by omega))
      refine r_iconst C dX5_isDone_136 ?_
      exact r_zretr C hF dX5_isDone_137 (by omega) (b01_f hq).symm ⟨by rw [peV_0 (ec.trans (b01_f hq))]; exact (MU_refl q μ).1, rfl⟩
  · have ec : pcV (μ (q + 1)) (μ q 7) (μ q 8) (μ q 9) = b01 ((0 ≤ (μ q 8) ∧ (μ q 8) < (μ (q + 1)) 3) ∧ (0 ≤ (μ q 9) ∧ (μ q 9) < (μ (q + 1)) 3)) := by unfold pcV; rw [if_neg (by omega), if_neg (by omega), if_pos e]
    have ed : pdV (μ (q + 1)) (μ q 7) (μ q 8) (μ q 9) = mMov (μ (q + 1)) (μ q 8) (μ q 9) := by unfold pdV; rw [if_neg (by omega), if_neg (by omega), if_neg (by omega), if_pos e]
    rw [ec] at hF
    rw [e]
    refine r_lsw (tgt := 138) C dX5_isDone_4 rfl (by omega) rfl (by decide) ?_
    rcases (by omega : ((0 ≤ (μ q 8) ∧ (μ q 8) < (μ (q + 1)) 3) ∧ (0 ≤ (μ q 9) ∧ (μ q 9) < (μ (q + 1)) 3)) ∨ ((0 ≤ (μ q 8) ∧ (μ q 8) < (μ (q + 1)) 3) ∧ ¬ (0 ≤ (μ q 9) ∧ (μ q 9) < (μ (q + 1)) 3)) ∨ ¬ (0 ≤ (μ q 8) ∧ (μ q 8) < (μ (q + 1)) 3)) with hq | hq2 | hq2
    · skip
      refine r_aload_n C dX5_isDone_138 rfl ?_
      refine r_aload_n C dX5_isDone_139 rfl ?_
      refine gf_X5_143 C M1 dX5_isDone_140 ?_
      refine r_runI (fun aH aL aj a1 a2 a3 => run_V C hF.2.2.1 (kX5_isPlace hM hv (x := (μ q 8)) (hf1 (by omega))) lm_X5_isPlace ml_X5_103 im_X5_isPlace se_X5_isPlace M1 rfl (Nat.le_of_ble_eq_true rfl) dX5_isDone_143 rfl (Nat.le_of_ble_eq_true rfl) a1 a2 a3) ?_
      rw [b01_t hq.1]
      refine r_if_eq (tgt := 179) C dX5_isDone_146 (by decide) (by omega) (fun c146 => absurd c146 (by omega)) (fun c146 => ?_)
      refine r_aload_n C dX5_isDone_149 rfl ?_
      refine r_aload_n C dX5_isDone_150 rfl ?_
      refine gf_X5_146 C M1 dX5_isDone_151 ?_
      refine r_runI (fun aH aL aj a1 a2 a3 => run_V C hF.2.2.1 (kX5_isPlace hM hv (x := (μ q 9)) (hf2 (by omega))) lm_X5_isPlace ml_X5_103 im_X5_isPlace se_X5_isPlace M1 rfl (Nat.le_of_ble_eq_true rfl) dX5_isDone_154 rfl (Nat.le_of_ble_eq_true rfl) a1 a2 a3) ?_
      rw [b01_t hq.2]
      refine r_if_eq (tgt := 179) C dX5_isDone_157 (by decide) (by omega) (fun c157 => absurd c157 (by omega)) (fun c157 => ?_)
      refine r_aload_n C dX5_isDone_160 rfl ?_
      refine r_aload_n C dX5_isDone_161 rfl ?_
      refine gf_X5_143 C M1 dX5_isDone_162 ?_
      refine r_aload_n C dX5_isDone_165 rfl ?_
      refine gf_X5_146 C M1 dX5_isDone_166 ?_
      refine r_runI (fun aH aL aj a1 a2 a3 => run_V C hF.2.2.1 (kX5_moves hM hv hq.1.1 hq.1.2 hq.2.1 hq.2.2) lm_X5_moves ml_X5_112 im_X5_moves se_X5_moves M1 rfl (Nat.le_of_ble_eq_true rfl) dX5_isDone_169 rfl (Nat.le_of_ble_eq_true rfl) a1 a2 a3) ?_
      have hbk := brks_r ((μ (q + 1)) 1) (lay (wr μ (q + 1) (mMov (μ (q + 1)) (μ q 8) (μ q 9))) q (-1) ((μ (q + 1)) 3) (q + 3)) (lay (wr μ (q + 1) (mMov (μ (q + 1)) (μ q 8) (μ q 9))) q (-1) ((μ (q + 1)) 3) (q + 4)) v4.1
      refine r_if_lt (tgt := 179) C dX5_isDone_172 (by decide) (by omega) (fun c172 => absurd c172 (by omega)) (fun c172 => ?_)
      refine r_iconst C dX5_isDone_175 ?_
      refine r_goto (tgt := 180) C dX5_isDone_176 (by decide) ?_
      exact r_zretr C hF dX5_isDone_180 (by omega) (b01_t hq).symm ⟨by rw [peV_1 (ec.trans (b01_t hq)), ed]; exact MR_lay (MV_w _ (MU_refl q μ)), by rw [lay_q, s1_n _ _ (by omega), wr_n _ _ (by omega)]⟩
    · have hq : ¬ ((0 ≤ (μ q 8) ∧ (μ q 8) < (μ (q + 1)) 3) ∧ (0 ≤ (μ q 9) ∧ (μ q 9) < (μ (q + 1)) 3)) := fun z => hq2.2 z.2
      have hq1 := hq2.1
      refine r_aload_n C dX5_isDone_138 rfl ?_
      refine r_aload_n C dX5_isDone_139 rfl ?_
      refine gf_X5_143 C M1 dX5_isDone_140 ?_
      refine r_runI (fun aH aL aj a1 a2 a3 => run_V C hF.2.2.1 (kX5_isPlace hM hv (x := (μ q 8)) (hf1 (by omega))) lm_X5_isPlace ml_X5_103 im_X5_isPlace se_X5_isPlace M1 rfl (Nat.le_of_ble_eq_true rfl) dX5_isDone_143 rfl (Nat.le_of_ble_eq_true rfl) a1 a2 a3) ?_
      rw [b01_t hq1]
      refine r_if_eq (tgt := 179) C dX5_isDone_146 (by decide) (by omega) (fun c146 => absurd c146 (by omega)) (fun c146 => ?_)
      refine r_aload_n C dX5_isDone_149 rfl ?_
      refine r_aload_n C dX5_isDone_150 rfl ?_
      refine gf_X5_146 C M1 dX5_isDone_151 ?_
      refine r_runI (fun aH aL aj a1 a2 a3 => run_V C hF.2.2.1 (kX5_isPlace hM hv (x := (μ q 9)) (hf2 (by omega))) lm_X5_isPlace ml_X5_103 im_X5_isPlace se_X5_isPlace M1 rfl (Nat.le_of_ble_eq_true rfl) dX5_isDone_154 rfl (Nat.le_of_ble_eq_true rfl) a1 a2 a3) ?_
      rw [b01_f (fun z => hq ⟨hq1, z⟩)]
      refine r_if_eq (tgt := 179) C dX5_isDone_157 (by decide) (by omega) (fun c157 => ?_) (fun c157 => absurd c157 (by omega))
      refine r_iconst C dX5_isDone_179 ?_
      exact r_zretr C hF dX5_isDone_180 (by omega) (b01_f hq).symm ⟨by rw [peV_0 (ec.trans (b01_f hq))]; exact (MU_refl q μ).1, rfl⟩
    · have hq : ¬ ((0 ≤ (μ q 8) ∧ (μ q 8) < (μ (q + 1)) 3) ∧ (0 ≤ (μ q 9) ∧ (μ q 9) < (μ (q + 1)) 3)) := fun z => hq2 z.1
      have hq1 := hq2
      refine r_aload_n C dX5_isDone_138 rfl ?_
      refine r_aload_n C dX5_isDone_139 rfl ?_
      refine gf_X5_143 C M1 dX5_isDone_140 ?_
      refine r_runI (fun aH aL aj a1 a2 a3 => run_V C hF.2.2.1 (kX5_isPlace hM hv (x := (μ q 8)) (hf1 (by omega))) lm_X5_isPlace ml_X5_103 im_X5_isPlace se_X5_isPlace M1 rfl (Nat.le_of_ble_eq_true rfl) dX5_isDone_143 rfl (Nat.le_of_ble_eq_true rfl) a1 a2 a3) ?_
      rw [b01_f hq1]
      refine r_if_eq (tgt := 179) C dX5_isDone_146 (by decide) (by omega) (fun c146 => ?_) (fun c146 => absurd c146 (by omega))
      refine r_iconst C dX5_isDone_179 ?_
      exact r_zretr C hF dX5_isDone_180 (by omega) (b01_f hq).symm ⟨by rw [peV_0 (ec.trans (b01_f hq))]; exact (MU_refl q μ).1, rfl⟩
  · have ec : pcV (μ (q + 1)) (μ q 7) (μ q 8) (μ q 9) = b01 (flt ((μ (q + 1)) 0) (vN (μ (q + 1))) (vD (μ (q + 1))) ((μ (q + 1)) 3) = 0) := by unfold pcV; rw [if_neg e.1, if_neg (by omega), if_neg e.2.2.2]
    have ed : pdV (μ (q + 1)) (μ q 7) (μ q 8) (μ q 9) = mBin (μ (q + 1)) := by unfold pdV; rw [if_neg e.1, if_neg e.2.1, if_neg e.2.2.1, if_neg e.2.2.2]
    rw [ec] at hF
    refine r_lsw (tgt := 181) C dX5_isDone_4 rfl (by omega) (by rw [lsw_4 _ _ _ _ _ _ _ _ _ _ e.2.2.1 e.1 e.2.2.2 e.2.1]) (by decide) ?_
    by_cases hq : (flt ((μ (q + 1)) 0) (vN (μ (q + 1))) (vD (μ (q + 1))) ((μ (q + 1)) 3) = 0)
    · skip
      refine r_aload_n C dX5_isDone_181 rfl ?_
      refine r_runI (fun aH aL aj a1 a2 a3 => run_V C hF.2.2.1 (kX5_canBind hM hv) lm_X5_canBind ml_X5_115 im_X5_canBind se_X5_canBind M1 rfl (Nat.le_of_ble_eq_true rfl) dX5_isDone_182 rfl (Nat.le_of_ble_eq_true rfl) a1 a2 a3) ?_
      rw [b01_t hq]
      refine r_if_eq (tgt := 199) C dX5_isDone_185 (by decide) (by omega) (fun c185 => absurd c185 (by omega)) (fun c185 => ?_)
      refine r_aload_n C dX5_isDone_188 rfl ?_
      refine r_runI (fun aH aL aj a1 a2 a3 => run_V C hF.2.2.1 (kX5_binds (μ := (lay μ q (-1) ((μ (q + 1)) 3))) hM (K := K) (by rw [lay_1]; exact hv)) lm_X5_binds ml_X5_119 im_X5_binds se_X5_binds M1 rfl (Nat.le_of_ble_eq_true rfl) dX5_isDone_189 rfl (Nat.le_of_ble_eq_true rfl) a1 a2 a3) ?_
      rw [lay_1]
      refine r_if_le (tgt := 199) C dX5_isDone_192 (by decide) (by omega) (fun c192 => absurd c192 (by omega)) (fun c192 => ?_)
      refine r_iconst C dX5_isDone_195 ?_
      refine r_goto (tgt := 200) C dX5_isDone_196 (by decide) ?_
      exact r_zretr C hF dX5_isDone_200 (by omega) (b01_t hq).symm ⟨by rw [peV_1 (ec.trans (b01_t hq)), ed]; exact MV_w _ (MU_lay ..), by rw [wr_n _ _ (by omega), lay_q, s1_n _ _ (by omega)]⟩
    · skip
      refine r_aload_n C dX5_isDone_181 rfl ?_
      refine r_runI (fun aH aL aj a1 a2 a3 => run_V C hF.2.2.1 (kX5_canBind hM hv) lm_X5_canBind ml_X5_115 im_X5_canBind se_X5_canBind M1 rfl (Nat.le_of_ble_eq_true rfl) dX5_isDone_182 rfl (Nat.le_of_ble_eq_true rfl) a1 a2 a3) ?_
      rw [b01_f hq]
      refine r_if_eq (tgt := 199) C dX5_isDone_185 (by decide) (by omega) (fun c185 => ?_) (fun c185 => absurd c185 (by omega))
      refine r_iconst C dX5_isDone_199 ?_
      exact r_zretr C hF dX5_isDone_200 (by omega) (b01_f hq).symm ⟨by rw [peV_0 (ec.trans (b01_f hq))]; exact (MU_lay ..).1, by rw [lay_q, s1_n _ _ (by omega)]⟩
