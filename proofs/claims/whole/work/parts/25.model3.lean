set_option maxRecDepth 20000 in
set_option maxHeartbeats 2000000 in
theorem kX5_canGather {V : Wo} {μ : Mem} {q : Nat} (hM : MoS V q) {K : Int} (hv : veW K (μ (q + 1))) {x : Int} (hx : 0 ≤ x) (hx2 : x < 16) : Con V 0 yX5_canGather cX5_canGather 2 (some .boolean) [vR q, vI x] (μ) (QI V (b01 (0 < (μ (q + 1)) (6 + x) ∧ (μ (q + 1)) 3 < 20)) (μ)) := by
  refine con_of (ls0 := [vR q, vI x]) (by decide +kernel) rfl (Nat.le_of_ble_eq_true rfl) (Nat.le_of_ble_eq_true rfl) (fun X hV C hF => ?_)
  subst hV
  have C : Ok X RX5 cX5_canGather 2 0 := C
  obtain ⟨M0, M1, Ms, Mt, Mr, Md, Ml⟩ := id hM
  obtain ⟨v0, v1, v2, v3, v4, v5, v6, v7, v8, v9, v10⟩ := id hv
  refine r_aload_n C dX5_canGather_0 rfl ?_
  refine gf_X5_7 C M1 dX5_canGather_1 ?_
  refine r_bipush C dX5_canGather_4 rfl ?_
  refine r_iload_n C dX5_canGather_6 rfl ?_
  refine r_iadd C dX5_canGather_7 ?_
  refine r_iald C Ms (by omega) (by omega) dX5_canGather_8 ?_
  refine r_if_le (tgt := 27) C dX5_canGather_9 (by decide) (by have := v7 x hx (by omega); omega) (fun c9 => ?_) (fun c9 => ?_)
  · have _ := c9
    refine r_iconst C dX5_canGather_27 ?_
    exact r_zret C hF dX5_canGather_28 (by omega) (by unfold b01; split <;> omega) rfl
  · have _ := c9
    refine r_aload_n C dX5_canGather_12 rfl ?_
    refine gf_X5_7 C M1 dX5_canGather_13 ?_
    refine r_iconst C dX5_canGather_16 ?_
    refine r_iald C Ms (by omega) (by omega) dX5_canGather_17 ?_
    refine r_bipush C dX5_canGather_18 rfl ?_
    refine r_icmp_ge (tgt := 27) C dX5_canGather_20 (by decide) (by omega) (by omega) (fun c20 => ?_) (fun c20 => ?_)
    · have _ := c20
      refine r_iconst C dX5_canGather_27 ?_
      exact r_zret C hF dX5_canGather_28 (by omega) (by unfold b01; split <;> omega) rfl
    · have _ := c20
      refine r_iconst C dX5_canGather_23 ?_
      refine r_goto (tgt := 28) C dX5_canGather_24 (by decide) ?_
      exact r_zret C hF dX5_canGather_28 (by omega) (by unfold b01; split <;> omega) rfl
set_option maxRecDepth 20000 in
set_option maxHeartbeats 2000000 in
theorem kX5_inserts {V : Wo} {μ : Mem} {q : Nat} (hM : MoS V q) {K : Int} (hv : veW K (μ (q + 1))) {p x : Int} (hp : 0 ≤ p) (hp2 : p ≤ (μ (q + 1)) 3) (h3 : (μ (q + 1)) 3 < 20) (hx : 0 ≤ x) (hx2 : x < 16) : Con V 0 yX5_inserts cX5_inserts 4 (some .int) [vR q, vI p, vI x] (μ) (QI V ((μ (q + 1)) 3 + 1) (wr μ (q + 1) (mIns (μ (q + 1)) p x))) := by
  refine con_of (ls0 := [vR q, vI p, vI x, vU]) (by decide +kernel) rfl (Nat.le_of_ble_eq_true rfl) (Nat.le_of_ble_eq_true rfl) (fun X hV C hF => ?_)
  subst hV
  have C : Ok X RX5 cX5_inserts 4 0 := C
  obtain ⟨M0, M1, Ms, Mt, Mr, Md, Ml⟩ := id hM
  obtain ⟨v0, v1, v2, v3, v4, v5, v6, v7, v8, v9, v10⟩ := id hv
  refine r_aload_n C dX5_inserts_0 rfl ?_
  refine gf_X5_7 C M1 dX5_inserts_1 ?_
  refine r_iconst C dX5_inserts_4 ?_
  refine r_iald C Ms (by omega) (by omega) dX5_inserts_5 ?_
  refine r_istore_n C dX5_inserts_6 (by decide) rfl ?_
  refine r_eq (μ' := wr μ (q + 1) (shV (μ (q + 1)) ((μ (q + 1)) 3) ((μ (q + 1)) 3))) ?_ (by rw [shV_n, wr_self])
  refine loop_dn (F := fun i => RR X (wr μ (q + 1) (shV (μ (q + 1)) i ((μ (q + 1)) 3))) 7 [vR q, vI p, vI x, vI i] []) (a := p) (b := (μ (q + 1)) 3) hp2 ?_ ?_
  · show RR X _ _ [vR q, vI p, vI x, vI p] []
    refine r_iload_n C dX5_inserts_7 rfl ?_
    refine r_iload_n C dX5_inserts_8 rfl ?_
    refine r_icmp_le (tgt := 58) C dX5_inserts_9 (by decide) (by omega) (by omega) (fun c9 => ?_) (fun c9 => absurd c9 (by omega))
    refine r_aload_n C dX5_inserts_58 rfl ?_
    refine gf_X5_7 C M1 dX5_inserts_59 ?_
    refine r_bipush C dX5_inserts_62 rfl ?_
    refine r_iload_n C dX5_inserts_64 rfl ?_
    refine r_iadd C dX5_inserts_65 ?_
    refine r_iload_n C dX5_inserts_66 rfl ?_
    refine r_iast C Ms (by omega) (by omega) (by omega) dX5_inserts_67 ?_
    refine r_aload_n C dX5_inserts_68 rfl ?_
    refine gf_X5_7 C M1 dX5_inserts_69 ?_
    refine r_bipush C dX5_inserts_72 rfl ?_
    refine r_iload_n C dX5_inserts_74 rfl ?_
    refine r_iadd C dX5_inserts_75 ?_
    refine r_iconst C dX5_inserts_76 ?_
    refine r_iast C Ms (by omega) (by omega) (by omega) dX5_inserts_77 ?_
    refine r_aload_n C dX5_inserts_78 rfl ?_
    refine gf_X5_7 C M1 dX5_inserts_79 ?_
    refine r_bipush C dX5_inserts_82 rfl ?_
    refine r_iload_n C dX5_inserts_84 rfl ?_
    refine r_iadd C dX5_inserts_85 ?_
    refine r_dup2 C dX5_inserts_86 rfl rfl ?_
    refine r_iald C Ms (by omega) (by omega) dX5_inserts_87 ?_
    refine r_iconst C dX5_inserts_88 ?_
    refine r_isub C dX5_inserts_89 ?_
    simp (disch := omega) only [wr_s, s1_n, shV_o]
    refine r_iast C Ms (by omega) (by omega) (by omega) dX5_inserts_90 ?_
    refine r_aload_n C dX5_inserts_91 rfl ?_
    refine gf_X5_7 C M1 dX5_inserts_92 ?_
    refine r_iconst C dX5_inserts_95 ?_
    refine r_dup2 C dX5_inserts_96 rfl rfl ?_
    refine r_iald C Ms (by omega) (by omega) dX5_inserts_97 ?_
    refine r_iconst C dX5_inserts_98 ?_
    refine r_iadd C dX5_inserts_99 ?_
    simp (disch := omega) only [wr_s, s1_n, s1_s, shV_o]
    refine r_iast C Ms (by omega) (by omega) (by omega) dX5_inserts_100 ?_
    refine r_aload_n C dX5_inserts_101 rfl ?_
    refine gf_X5_7 C M1 dX5_inserts_102 ?_
    refine r_iconst C dX5_inserts_105 ?_
    refine r_iald C Ms (by omega) (by omega) dX5_inserts_106 ?_
    simp (disch := omega) only [wr_s, s1_n, s1_s, shV_o, wr_ww]
    exact r_iret C hF dX5_inserts_107 rfl rfl
  · intro i h0 h1 K2
    show RR X _ _ [vR q, vI p, vI x, vI i] []
    refine r_iload_n C dX5_inserts_7 rfl ?_
    refine r_iload_n C dX5_inserts_8 rfl ?_
    refine r_icmp_le (tgt := 58) C dX5_inserts_9 (by decide) (by omega) (by omega) (fun c9 => absurd c9 (by omega)) (fun c9 => ?_)
    refine r_aload_n C dX5_inserts_12 rfl ?_
    refine gf_X5_7 C M1 dX5_inserts_13 ?_
    refine r_bipush C dX5_inserts_16 rfl ?_
    refine r_iload_n C dX5_inserts_18 rfl ?_
    refine r_iadd C dX5_inserts_19 ?_
    refine r_aload_n C dX5_inserts_20 rfl ?_
    refine gf_X5_7 C M1 dX5_inserts_21 ?_
    refine r_bipush C dX5_inserts_24 rfl ?_
    refine r_iload_n C dX5_inserts_26 rfl ?_
    refine r_iadd C dX5_inserts_27 ?_
    refine r_iconst C dX5_inserts_28 ?_
    refine r_isub C dX5_inserts_29 ?_
    refine r_iald C Ms (by omega) (by omega) dX5_inserts_30 ?_
    refine r_iast C Ms (by omega) (by omega) (by omega) dX5_inserts_31 ?_
    refine r_aload_n C dX5_inserts_32 rfl ?_
    refine gf_X5_7 C M1 dX5_inserts_33 ?_
    refine r_bipush C dX5_inserts_36 rfl ?_
    refine r_iload_n C dX5_inserts_38 rfl ?_
    refine r_iadd C dX5_inserts_39 ?_
    refine r_aload_n C dX5_inserts_40 rfl ?_
    refine gf_X5_7 C M1 dX5_inserts_41 ?_
    refine r_bipush C dX5_inserts_44 rfl ?_
    refine r_iload_n C dX5_inserts_46 rfl ?_
    refine r_iadd C dX5_inserts_47 ?_
    refine r_iconst C dX5_inserts_48 ?_
    refine r_isub C dX5_inserts_49 ?_
    refine r_iald C Ms (by omega) (by omega) dX5_inserts_50 ?_
    refine r_iast C Ms (by omega) (by omega) (by omega) dX5_inserts_51 ?_
    refine r_iinc C dX5_inserts_52 rfl (by decide) rfl ?_
    refine r_goto (tgt := 7) C dX5_inserts_55 (by decide) ?_
    refine r_eq K2 ?_
    simp only [wr_s, wr_ww]
    rw [shV_s _ (by omega) h1 h3]
set_option maxRecDepth 20000 in
set_option maxHeartbeats 2000000 in
theorem kX5_pulls {V : Wo} {μ : Mem} {q : Nat} (hM : MoS V q) {K : Int} (hv : veW K (μ (q + 1))) {p : Int} (hp : 0 ≤ p) (hp2 : p < (μ (q + 1)) 3) : Con V 0 yX5_pulls cX5_pulls 4 (some .int) [vR q, vI p] (μ) (QI V ((μ (q + 1)) (70 + p)) (wr μ (q + 1) (mPul (μ (q + 1)) p))) := by
  refine con_of (ls0 := [vR q, vI p, vU, vU]) (by decide +kernel) rfl (Nat.le_of_ble_eq_true rfl) (Nat.le_of_ble_eq_true rfl) (fun X hV C hF => ?_)
  subst hV
  have C : Ok X RX5 cX5_pulls 4 0 := C
  obtain ⟨M0, M1, Ms, Mt, Mr, Md, Ml⟩ := id hM
  obtain ⟨v0, v1, v2, v3, v4, v5, v6, v7, v8, v9, v10⟩ := id hv
  refine r_aload_n C dX5_pulls_0 rfl ?_
  refine gf_X5_7 C M1 dX5_pulls_1 ?_
  refine r_bipush C dX5_pulls_4 rfl ?_
  refine r_iload_n C dX5_pulls_6 rfl ?_
  refine r_iadd C dX5_pulls_7 ?_
  refine r_iald C Ms (by omega) (by omega) dX5_pulls_8 ?_
  refine r_istore_n C dX5_pulls_9 (by decide) rfl ?_
  refine r_aload_n C dX5_pulls_10 rfl ?_
  refine gf_X5_7 C M1 dX5_pulls_11 ?_
  refine r_iconst C dX5_pulls_14 ?_
  refine r_dup2 C dX5_pulls_15 rfl rfl ?_
  refine r_iald C Ms (by omega) (by omega) dX5_pulls_16 ?_
  refine r_iconst C dX5_pulls_17 ?_
  refine r_isub C dX5_pulls_18 ?_
  refine r_iast C Ms (by omega) (by omega) (by omega) dX5_pulls_19 ?_
  refine r_iload_n C dX5_pulls_20 rfl ?_
  refine r_istore_n C dX5_pulls_21 (by decide) rfl ?_
  refine r_eq (μ' := wr μ (q + 1) (sdV (s1 (μ (q + 1)) 3 ((μ (q + 1)) 3 - 1)) p p)) ?_ (by rw [sdV_0])
  have e3 : ∀ i, sdV (s1 (μ (q + 1)) 3 ((μ (q + 1)) 3 - 1)) p i 3 = (μ (q + 1)) 3 - 1 := fun i => by rw [sdV_o _ (by omega) hp, s1_s]
  have hn := v9 p hp hp2
  refine loop_up (F := fun i => RR X (wr μ (q + 1) (sdV (s1 (μ (q + 1)) 3 ((μ (q + 1)) 3 - 1)) p i)) 22 [vR q, vI p, vI ((μ (q + 1)) (70 + p)), vI i] []) (a := p) (b := (μ (q + 1)) 3 - 1) (by omega) ?_ ?_
  · show RR X _ _ [vR q, vI p, vI ((μ (q + 1)) (70 + p)), vI ((μ (q + 1)) 3 - 1)] []
    refine r_iload_n C dX5_pulls_22 rfl ?_
    refine r_aload_n C dX5_pulls_23 rfl ?_
    refine gf_X5_7 C M1 dX5_pulls_24 ?_
    refine r_iconst C dX5_pulls_27 ?_
    refine r_iald C Ms (by omega) (by omega) dX5_pulls_28 ?_
    rw [wr_s, e3]
    refine r_icmp_ge (tgt := 78) C dX5_pulls_29 (by decide) (by omega) (by omega) (fun c29 => ?_) (fun c29 => absurd c29 (by omega))
    refine r_aload_n C dX5_pulls_78 rfl ?_
    refine gf_X5_7 C M1 dX5_pulls_79 ?_
    refine r_bipush C dX5_pulls_82 rfl ?_
    refine r_iload_n C dX5_pulls_84 rfl ?_
    refine r_iadd C dX5_pulls_85 ?_
    refine r_dup2 C dX5_pulls_86 rfl rfl ?_
    refine r_iald C Ms (by omega) (by omega) dX5_pulls_87 ?_
    refine r_iconst C dX5_pulls_88 ?_
    refine r_iadd C dX5_pulls_89 ?_
    simp (disch := omega) only [wr_s, s1_n, sdV_o]
    refine r_iast C Ms (by omega) (by omega) (by omega) dX5_pulls_90 ?_
    refine r_iload_n C dX5_pulls_91 rfl ?_
    exact r_iret C hF dX5_pulls_92 rfl (by simp only [wr_ww, wr_s]; rfl)
  · intro i h0 h1 K2
    show RR X _ _ [vR q, vI p, vI ((μ (q + 1)) (70 + p)), vI i] []
    refine r_iload_n C dX5_pulls_22 rfl ?_
    refine r_aload_n C dX5_pulls_23 rfl ?_
    refine gf_X5_7 C M1 dX5_pulls_24 ?_
    refine r_iconst C dX5_pulls_27 ?_
    refine r_iald C Ms (by omega) (by omega) dX5_pulls_28 ?_
    rw [wr_s, e3]
    refine r_icmp_ge (tgt := 78) C dX5_pulls_29 (by decide) (by omega) (by omega) (fun c29 => absurd c29 (by omega)) (fun c29 => ?_)
    refine r_aload_n C dX5_pulls_32 rfl ?_
    refine gf_X5_7 C M1 dX5_pulls_33 ?_
    refine r_bipush C dX5_pulls_36 rfl ?_
    refine r_iload_n C dX5_pulls_38 rfl ?_
    refine r_iadd C dX5_pulls_39 ?_
    refine r_aload_n C dX5_pulls_40 rfl ?_
    refine gf_X5_7 C M1 dX5_pulls_41 ?_
    refine r_bipush C dX5_pulls_44 rfl ?_
    refine r_iload_n C dX5_pulls_46 rfl ?_
    refine r_iadd C dX5_pulls_47 ?_
    refine r_iconst C dX5_pulls_48 ?_
    refine r_iadd C dX5_pulls_49 ?_
    refine r_iald C Ms (by omega) (by omega) dX5_pulls_50 ?_
    refine r_iast C Ms (by omega) (by omega) (by omega) dX5_pulls_51 ?_
    refine r_aload_n C dX5_pulls_52 rfl ?_
    refine gf_X5_7 C M1 dX5_pulls_53 ?_
    refine r_bipush C dX5_pulls_56 rfl ?_
    refine r_iload_n C dX5_pulls_58 rfl ?_
    refine r_iadd C dX5_pulls_59 ?_
    refine r_aload_n C dX5_pulls_60 rfl ?_
    refine gf_X5_7 C M1 dX5_pulls_61 ?_
    refine r_bipush C dX5_pulls_64 rfl ?_
    refine r_iload_n C dX5_pulls_66 rfl ?_
    refine r_iadd C dX5_pulls_67 ?_
    refine r_iconst C dX5_pulls_68 ?_
    refine r_iadd C dX5_pulls_69 ?_
    refine r_iald C Ms (by omega) (by omega) dX5_pulls_70 ?_
    refine r_iast C Ms (by omega) (by omega) (by omega) dX5_pulls_71 ?_
    refine r_iinc C dX5_pulls_72 rfl (by decide) rfl ?_
    refine r_goto (tgt := 22) C dX5_pulls_75 (by decide) ?_
    refine r_eq K2 ?_
    simp only [wr_s, wr_ww]
    rw [sdV_s _ hp h0 (by omega)]
set_option maxRecDepth 20000 in
set_option maxHeartbeats 2000000 in
theorem kX5_flips {V : Wo} {μ : Mem} {q : Nat} (hM : MoS V q) {K : Int} (hv : veW K (μ (q + 1))) {p : Int} (hp : 0 ≤ p) (hp2 : p < (μ (q + 1)) 3) : Con V 1 yX5_flips cX5_flips 2 (some .int) [vR q, vI p] (μ) (QI V (mk ((μ (q + 1)) 1) ((μ (q + 1)) (70 + p)) (1 - (μ (q + 1)) (90 + p))) (wr μ (q + 1) (mFli (μ (q + 1)) p))) := by
  refine con_of (ls0 := [vR q, vI p]) (by decide +kernel) rfl (Nat.le_of_ble_eq_true rfl) (Nat.le_of_ble_eq_true rfl) (fun X hV C hF => ?_)
  subst hV
  have C : Ok X RX5 cX5_flips 2 1 := C
  obtain ⟨M0, M1, Ms, Mt, Mr, Md, Ml⟩ := id hM
  obtain ⟨v0, v1, v2, v3, v4, v5, v6, v7, v8, v9, v10⟩ := id hv
  refine r_aload_n C dX5_flips_0 rfl ?_
  refine gf_X5_7 C M1 dX5_flips_1 ?_
  refine r_bipush C dX5_flips_4 rfl ?_
  refine r_iload_n C dX5_flips_6 rfl ?_
  refine r_iadd C dX5_flips_7 ?_
  refine r_iconst C dX5_flips_8 ?_
  refine r_aload_n C dX5_flips_9 rfl ?_
  refine gf_X5_7 C M1 dX5_flips_10 ?_
  refine r_bipush C dX5_flips_13 rfl ?_
  refine r_iload_n C dX5_flips_15 rfl ?_
  refine r_iadd C dX5_flips_16 ?_
  refine r_iald C Ms (by omega) (by omega) dX5_flips_17 ?_
  refine r_isub C dX5_flips_18 ?_
  refine r_iast C Ms (by omega) (by omega) (by omega) dX5_flips_19 ?_
  refine r_aload_n C dX5_flips_20 rfl ?_
  refine r_aload_n C dX5_flips_21 rfl ?_
  refine gf_X5_7 C M1 dX5_flips_22 ?_
  refine r_bipush C dX5_flips_25 rfl ?_
  refine r_iload_n C dX5_flips_27 rfl ?_
  refine r_iadd C dX5_flips_28 ?_
  refine r_iald C Ms (by omega) (by omega) dX5_flips_29 ?_
  refine r_aload_n C dX5_flips_30 rfl ?_
  refine gf_X5_7 C M1 dX5_flips_31 ?_
  refine r_bipush C dX5_flips_34 rfl ?_
  refine r_iload_n C dX5_flips_36 rfl ?_
  refine r_iadd C dX5_flips_37 ?_
  refine r_iald C Ms (by omega) (by omega) dX5_flips_38 ?_
  have hv2 : veW K (wr μ (q + 1) (mFli (μ (q + 1)) p) (q + 1)) := by rw [wr_s]; exact veW_fli hv hp hp2
  simp (disch := omega) only [wr_s, s1_n, s1_s]
  refine r_runI (fun aH aL aj a1 a2 a3 => run_V C hF.2.2.1 (kX5_mark (μ := wr μ (q + 1) (mFli (μ (q + 1)) p)) hM hv2 (v9 p hp hp2).1 (v9 p hp hp2).2 (by have := v10 p hp hp2; omega)) lm_X5_mark ml_X5_36 im_X5_mark se_X5_mark M1 rfl (Nat.le_of_ble_eq_true rfl) dX5_flips_39 rfl (Nat.le_of_ble_eq_true rfl) a1 a2 a3) ?_
  exact r_iret C hF dX5_flips_42 (by rw [wr_s]; unfold mFli; rw [s1_n _ _ (by omega)]) rfl
set_option maxRecDepth 20000 in
set_option maxHeartbeats 2000000 in
theorem kX5_moves {V : Wo} {μ : Mem} {q : Nat} (hM : MoS V q) {K : Int} (hv : veW K (μ (q + 1))) {p r : Int} (hp : 0 ≤ p) (hp2 : p < (μ (q + 1)) 3) (hr : 0 ≤ r) (hr2 : r < (μ (q + 1)) 3) : Con V 3 yX5_moves cX5_moves 7 (some .int) [vR q, vI p, vI r] (μ) (QI V (brks ((μ (q + 1)) 1) (lay (wr μ (q + 1) (mMov (μ (q + 1)) p r)) q (-1) ((μ (q + 1)) 3) (q + 3)) (lay (wr μ (q + 1) (mMov (μ (q + 1)) p r)) q (-1) ((μ (q + 1)) 3) (q + 4)) ((μ (q + 1)) 3)) (lay (wr μ (q + 1) (mMov (μ (q + 1)) p r)) q (-1) ((μ (q + 1)) 3))) := by
  refine con_of (ls0 := [vR q, vI p, vI r, vU, vU, vU, vU]) (by decide +kernel) rfl (Nat.le_of_ble_eq_true rfl) (Nat.le_of_ble_eq_true rfl) (fun X hV C hF => ?_)
  subst hV
  have C : Ok X RX5 cX5_moves 7 3 := C
  obtain ⟨M0, M1, Ms, Mt, Mr, Md, Ml⟩ := id hM
  obtain ⟨v0, v1, v2, v3, v4, v5, v6, v7, v8, v9, v10⟩ := id hv
  refine r_aload_n C dX5_moves_0 rfl ?_
  refine gf_X5_7 C M1 dX5_moves_1 ?_
  refine r_bipush C dX5_moves_4 rfl ?_
  refine r_iload_n C dX5_moves_6 rfl ?_
  refine r_iadd C dX5_moves_7 ?_
  refine r_iald C Ms (by omega) (by omega) dX5_moves_8 ?_
  refine r_istore_n C dX5_moves_9 (by decide) rfl ?_
  refine r_aload_n C dX5_moves_10 rfl ?_
  refine gf_X5_7 C M1 dX5_moves_11 ?_
  refine r_bipush C dX5_moves_14 rfl ?_
  refine r_iload_n C dX5_moves_16 rfl ?_
  refine r_iadd C dX5_moves_17 ?_
  refine r_iald C Ms (by omega) (by omega) dX5_moves_18 ?_
  refine r_istore C dX5_moves_19 (by decide) rfl ?_
  refine r_iload_n C dX5_moves_21 rfl ?_
  refine r_iload_n C dX5_moves_22 rfl ?_
  refine r_icmp_le (tgt := 30) C dX5_moves_23 (by decide) (by omega) (by omega) (fun c23 => ?_) (fun c23 => ?_)
  · skip
    refine r_iconst C dX5_moves_30 ?_
    refine r_istore C dX5_moves_31 (by decide) rfl ?_
    refine r_iload_n C dX5_moves_33 rfl ?_
    refine r_istore C dX5_moves_34 (by decide) rfl ?_
    refine r_eq (μ' := wr μ (q + 1) (shV (μ (q + 1)) p p)) ?_ (by rw [shV_n, wr_self])
    refine loop_dn (F := fun i => RR X (wr μ (q + 1) (shV (μ (q + 1)) i p)) 36 [vR q, vI p, vI r, vI ((μ (q + 1)) (70 + p)), vI ((μ (q + 1)) (90 + p)), vI (-1), vI i] []) (a := r) (b := p) (by omega) ?_ ?_
    · show RR X _ _ [vR q, vI p, vI r, vI ((μ (q + 1)) (70 + p)), vI ((μ (q + 1)) (90 + p)), vI (-1), vI r] []
      refine r_iload C dX5_moves_36 rfl ?_
      refine r_iload_n C dX5_moves_38 rfl ?_
      refine r_icmp_eq (tgt := 98) C dX5_moves_39 (by decide) (by omega) (by omega) (fun c39 => ?_) (fun c39 => absurd c39 (by omega))
      refine r_aload_n C dX5_moves_98 rfl ?_
      refine gf_X5_7 C M1 dX5_moves_99 ?_
      refine r_bipush C dX5_moves_102 rfl ?_
      refine r_iload_n C dX5_moves_104 rfl ?_
      refine r_iadd C dX5_moves_105 ?_
      refine r_iload_n C dX5_moves_106 rfl ?_
      refine r_iast C Ms (by omega) (by omega) (by omega) dX5_moves_107 ?_
      refine r_aload_n C dX5_moves_108 rfl ?_
      refine gf_X5_7 C M1 dX5_moves_109 ?_
      refine r_bipush C dX5_moves_112 rfl ?_
      refine r_iload_n C dX5_moves_114 rfl ?_
      refine r_iadd C dX5_moves_115 ?_
      refine r_iload C dX5_moves_116 rfl ?_
      refine r_iast C Ms (by omega) (by omega) (by omega) dX5_moves_118 ?_
      refine r_aload_n C dX5_moves_119 rfl ?_
      refine r_iconst C dX5_moves_120 ?_
      have hv2 : veW K (wr μ (q + 1) (mMov (μ (q + 1)) p r) (q + 1)) := by rw [wr_s]; exact veW_mov hv hp hp2 hr hr2
      simp only [wr_ww, wr_s]
      refine r_eq (μ' := wr μ (q + 1) (mMov (μ (q + 1)) p r)) ?_ (by unfold mMov; rw [if_neg (by omega)])
      refine r_runV (fun aH aL aj a1 a2 a3 => run_V C hF.2.2.1 (kX5_laysOut hM hv2 (by omega) (by omega)) lm_X5_laysOut ml_X5_71 im_X5_laysOut se_X5_laysOut M1 rfl (Nat.le_of_ble_eq_true rfl) dX5_moves_121 rfl (Nat.le_of_ble_eq_true rfl) a1 a2 a3) ?_
      refine r_aload_n C dX5_moves_124 rfl ?_
      refine r_runI (fun aH aL aj a1 a2 a3 => run_V C hF.2.2.1 (kX5_breaks hM (by rw [lay_1]; exact hv2) (lay_W (p := -1) (by omega) hv2).1) lm_X5_breaks ml_X5_75 im_X5_breaks se_X5_breaks M1 rfl (Nat.le_of_ble_eq_true rfl) dX5_moves_125 rfl (Nat.le_of_ble_eq_true rfl) a1 a2 a3) ?_
      exact r_iret C hF dX5_moves_128 (by rw [lay_1, wr_s, lay_q12, lc_m1, mMov_o hp hr (by omega), mMov_o hp hr (by omega)]) (by rw [wr_s, mMov_o hp hr (by omega)])
    · intro i h0 h1 K2
      show RR X _ _ [vR q, vI p, vI r, vI ((μ (q + 1)) (70 + p)), vI ((μ (q + 1)) (90 + p)), vI (-1), vI i] []
      refine r_iload C dX5_moves_36 rfl ?_
      refine r_iload_n C dX5_moves_38 rfl ?_
      refine r_icmp_eq (tgt := 98) C dX5_moves_39 (by decide) (by omega) (by omega) (fun c39 => absurd c39 (by omega)) (fun c39 => ?_)
      refine r_aload_n C dX5_moves_42 rfl ?_
      refine gf_X5_7 C M1 dX5_moves_43 ?_
      refine r_bipush C dX5_moves_46 rfl ?_
      refine r_iload C dX5_moves_48 rfl ?_
      refine r_iadd C dX5_moves_50 ?_
      refine r_aload_n C dX5_moves_51 rfl ?_
      refine gf_X5_7 C M1 dX5_moves_52 ?_
      refine r_bipush C dX5_moves_55 rfl ?_
      refine r_iload C dX5_moves_57 rfl ?_
      refine r_iadd C dX5_moves_59 ?_
      refine r_iload C dX5_moves_60 rfl ?_
      refine r_iadd C dX5_moves_62 ?_
      refine r_iald C Ms (by omega) (by omega) dX5_moves_63 ?_
      refine r_iast C Ms (by omega) (by omega) (by omega) dX5_moves_64 ?_
      refine r_aload_n C dX5_moves_65 rfl ?_
      refine gf_X5_7 C M1 dX5_moves_66 ?_
      refine r_bipush C dX5_moves_69 rfl ?_
      refine r_iload C dX5_moves_71 rfl ?_
      refine r_iadd C dX5_moves_73 ?_
      refine r_aload_n C dX5_moves_74 rfl ?_
      refine gf_X5_7 C M1 dX5_moves_75 ?_
      refine r_bipush C dX5_moves_78 rfl ?_
      refine r_iload C dX5_moves_80 rfl ?_
      refine r_iadd C dX5_moves_82 ?_
      refine r_iload C dX5_moves_83 rfl ?_
      refine r_iadd C dX5_moves_85 ?_
      refine r_iald C Ms (by omega) (by omega) dX5_moves_86 ?_
      refine r_iast C Ms (by omega) (by omega) (by omega) dX5_moves_87 ?_
      refine r_iload C dX5_moves_88 rfl ?_
      refine r_iload C dX5_moves_90 rfl ?_
      refine r_iadd C dX5_moves_92 ?_
      refine r_istore C dX5_moves_93 (by decide) rfl ?_
      refine r_goto (tgt := 36) C dX5_moves_95 (by decide) ?_
      refine r_eq K2 ?_
      simp only [wr_s, wr_ww]
      rw [show 70 + i + -1 = 70 + i - 1 by omega, show 90 + i + -1 = 90 + i - 1 by omega, shV_s _ (by omega) h1 (by omega)]
  · skip
    refine r_iconst C dX5_moves_26 ?_
    refine r_goto (tgt := 31) C dX5_moves_27 (by decide) ?_
    refine r_istore C dX5_moves_31 (by decide) rfl ?_
    refine r_iload_n C dX5_moves_33 rfl ?_
    refine r_istore C dX5_moves_34 (by decide) rfl ?_
    refine r_eq (μ' := wr μ (q + 1) (sdV (μ (q + 1)) p p)) ?_ (by rw [sdV_0, wr_self])
    refine loop_up (F := fun i => RR X (wr μ (q + 1) (sdV (μ (q + 1)) p i)) 36 [vR q, vI p, vI r, vI ((μ (q + 1)) (70 + p)), vI ((μ (q + 1)) (90 + p)), vI 1, vI i] []) (a := p) (b := r) (by omega) ?_ ?_
    · show RR X _ _ [vR q, vI p, vI r, vI ((μ (q + 1)) (70 + p)), vI ((μ (q + 1)) (90 + p)), vI 1, vI r] []
      refine r_iload C dX5_moves_36 rfl ?_
      refine r_iload_n C dX5_moves_38 rfl ?_
      refine r_icmp_eq (tgt := 98) C dX5_moves_39 (by decide) (by omega) (by omega) (fun c39 => ?_) (fun c39 => absurd c39 (by omega))
      refine r_aload_n C dX5_moves_98 rfl ?_
      refine gf_X5_7 C M1 dX5_moves_99 ?_
      refine r_bipush C dX5_moves_102 rfl ?_
      refine r_iload_n C dX5_moves_104 rfl ?_
      refine r_iadd C dX5_moves_105 ?_
      refine r_iload_n C dX5_moves_106 rfl ?_
      refine r_iast C Ms (by omega) (by omega) (by omega) dX5_moves_107 ?_
      refine r_aload_n C dX5_moves_108 rfl ?_
      refine gf_X5_7 C M1 dX5_moves_109 ?_
      refine r_bipush C dX5_moves_112 rfl ?_
      refine r_iload_n C dX5_moves_114 rfl ?_
      refine r_iadd C dX5_moves_115 ?_
      refine r_iload C dX5_moves_116 rfl ?_
      refine r_iast C Ms (by omega) (by omega) (by omega) dX5_moves_118 ?_
      refine r_aload_n C dX5_moves_119 rfl ?_
      refine r_iconst C dX5_moves_120 ?_
      have hv2 : veW K (wr μ (q + 1) (mMov (μ (q + 1)) p r) (q + 1)) := by rw [wr_s]; exact veW_mov hv hp hp2 hr hr2
      simp only [wr_ww, wr_s]
      refine r_eq (μ' := wr μ (q + 1) (mMov (μ (q + 1)) p r)) ?_ (by unfold mMov; rw [if_pos c23])
      refine r_runV (fun aH aL aj a1 a2 a3 => run_V C hF.2.2.1 (kX5_laysOut hM hv2 (by omega) (by omega)) lm_X5_laysOut ml_X5_71 im_X5_laysOut se_X5_laysOut M1 rfl (Nat.le_of_ble_eq_true rfl) dX5_moves_121 rfl (Nat.le_of_ble_eq_true rfl) a1 a2 a3) ?_
      refine r_aload_n C dX5_moves_124 rfl ?_
      refine r_runI (fun aH aL aj a1 a2 a3 => run_V C hF.2.2.1 (kX5_breaks hM (by rw [lay_1]; exact hv2) (lay_W (p := -1) (by omega) hv2).1) lm_X5_breaks ml_X5_75 im_X5_breaks se_X5_breaks M1 rfl (Nat.le_of_ble_eq_true rfl) dX5_moves_125 rfl (Nat.le_of_ble_eq_true rfl) a1 a2 a3) ?_
      exact r_iret C hF dX5_moves_128 (by rw [lay_1, wr_s, lay_q12, lc_m1, mMov_o hp hr (by omega), mMov_o hp hr (by omega)]) (by rw [wr_s, mMov_o hp hr (by omega)])
    · intro i h0 h1 K2
      show RR X _ _ [vR q, vI p, vI r, vI ((μ (q + 1)) (70 + p)), vI ((μ (q + 1)) (90 + p)), vI 1, vI i] []
      refine r_iload C dX5_moves_36 rfl ?_
      refine r_iload_n C dX5_moves_38 rfl ?_
      refine r_icmp_eq (tgt := 98) C dX5_moves_39 (by decide) (by omega) (by omega) (fun c39 => absurd c39 (by omega)) (fun c39 => ?_)
      refine r_aload_n C dX5_moves_42 rfl ?_
      refine gf_X5_7 C M1 dX5_moves_43 ?_
      refine r_bipush C dX5_moves_46 rfl ?_
      refine r_iload C dX5_moves_48 rfl ?_
      refine r_iadd C dX5_moves_50 ?_
      refine r_aload_n C dX5_moves_51 rfl ?_
      refine gf_X5_7 C M1 dX5_moves_52 ?_
      refine r_bipush C dX5_moves_55 rfl ?_
      refine r_iload C dX5_moves_57 rfl ?_
      refine r_iadd C dX5_moves_59 ?_
      refine r_iload C dX5_moves_60 rfl ?_
      refine r_iadd C dX5_moves_62 ?_
      refine r_iald C Ms (by omega) (by omega) dX5_moves_63 ?_
      refine r_iast C Ms (by omega) (by omega) (by omega) dX5_moves_64 ?_
      refine r_aload_n C dX5_moves_65 rfl ?_
      refine gf_X5_7 C M1 dX5_moves_66 ?_
      refine r_bipush C dX5_moves_69 rfl ?_
      refine r_iload C dX5_moves_71 rfl ?_
      refine r_iadd C dX5_moves_73 ?_
      refine r_aload_n C dX5_moves_74 rfl ?_
      refine gf_X5_7 C M1 dX5_moves_75 ?_
      refine r_bipush C dX5_moves_78 rfl ?_
      refine r_iload C dX5_moves_80 rfl ?_
      refine r_iadd C dX5_moves_82 ?_
      refine r_iload C dX5_moves_83 rfl ?_
      refine r_iadd C dX5_moves_85 ?_
      refine r_iald C Ms (by omega) (by omega) dX5_moves_86 ?_
      refine r_iast C Ms (by omega) (by omega) (by omega) dX5_moves_87 ?_
      refine r_iload C dX5_moves_88 rfl ?_
      refine r_iload C dX5_moves_90 rfl ?_
      refine r_iadd C dX5_moves_92 ?_
      refine r_istore C dX5_moves_93 (by decide) rfl ?_
      refine r_goto (tgt := 36) C dX5_moves_95 (by decide) ?_
      refine r_eq K2 ?_
      simp only [wr_s, wr_ww]
      rw [sdV_s _ hp h0 (by omega)]
set_option maxRecDepth 20000 in
set_option maxHeartbeats 2000000 in
theorem kX5_binds {V : Wo} {μ : Mem} {q : Nat} (hM : MoS V q) {K : Int} (hv : veW K (μ (q + 1))) : Con V 0 yX5_binds cX5_binds 2 (some .int) [vR q] (μ) (QI V ((μ (q + 1)) 4 + 1) (wr μ (q + 1) (mBin (μ (q + 1))))) := by
  refine con_of (ls0 := [vR q, vU]) (by decide +kernel) rfl (Nat.le_of_ble_eq_true rfl) (Nat.le_of_ble_eq_true rfl) (fun X hV C hF => ?_)
  subst hV
  have C : Ok X RX5 cX5_binds 2 0 := C
  obtain ⟨M0, M1, Ms, Mt, Mr, Md, Ml⟩ := id hM
  obtain ⟨v0, v1, v2, v3, v4, v5, v6, v7, v8, v9, v10⟩ := id hv
  refine r_iconst C dX5_binds_0 ?_
  refine r_istore_n C dX5_binds_1 (by decide) rfl ?_
  refine r_eq (μ' := wr μ (q + 1) (bkV (μ (q + 1)) 0)) ?_ (by rw [bkV_0, wr_self])
  refine loop_up (F := fun i => RR X (wr μ (q + 1) (bkV (μ (q + 1)) i)) 2 [vR q, vI i] []) (a := 0) (b := (μ (q + 1)) 3) v4.1 ?_ ?_
  · show RR X _ _ [vR q, vI ((μ (q + 1)) 3)] []
    refine r_iload_n C dX5_binds_2 rfl ?_
    refine r_aload_n C dX5_binds_3 rfl ?_
    refine gf_X5_7 C M1 dX5_binds_4 ?_
    refine r_iconst C dX5_binds_7 ?_
    refine r_iald C Ms (by omega) (by omega) dX5_binds_8 ?_
    rw [wr_s, bkV_o _ (by omega)]
    refine r_icmp_ge (tgt := 39) C dX5_binds_9 (by decide) (by omega) (by omega) (fun c9 => ?_) (fun c9 => absurd c9 (by omega))
    refine r_aload_n C dX5_binds_39 rfl ?_
    refine gf_X5_7 C M1 dX5_binds_40 ?_
    refine r_iconst C dX5_binds_43 ?_
    refine r_iconst C dX5_binds_44 ?_
    refine r_iast C Ms (by omega) (by omega) (by omega) dX5_binds_45 ?_
    refine r_aload_n C dX5_binds_46 rfl ?_
    refine gf_X5_7 C M1 dX5_binds_47 ?_
    refine r_iconst C dX5_binds_50 ?_
    refine r_dup2 C dX5_binds_51 rfl rfl ?_
    refine r_iald C Ms (by omega) (by omega) dX5_binds_52 ?_
    refine r_iconst C dX5_binds_53 ?_
    refine r_iadd C dX5_binds_54 ?_
    simp (disch := omega) only [wr_s, s1_n, bkV_o, wr_ww]
    refine r_iast C Ms (by omega) (by omega) (by omega) dX5_binds_55 ?_
    refine r_aload_n C dX5_binds_56 rfl ?_
    refine gf_X5_7 C M1 dX5_binds_57 ?_
    refine r_iconst C dX5_binds_60 ?_
    refine r_iald C Ms (by omega) (by omega) dX5_binds_61 ?_
    simp (disch := omega) only [wr_s, s1_s, wr_ww]
    exact r_iret C hF dX5_binds_62 rfl rfl
  · intro i h0 h1 K2
    show RR X _ _ [vR q, vI i] []
    have hn := v9 i h0 h1
    refine r_iload_n C dX5_binds_2 rfl ?_
    refine r_aload_n C dX5_binds_3 rfl ?_
    refine gf_X5_7 C M1 dX5_binds_4 ?_
    refine r_iconst C dX5_binds_7 ?_
    refine r_iald C Ms (by omega) (by omega) dX5_binds_8 ?_
    rw [wr_s, bkV_o _ (by omega)]
    refine r_icmp_ge (tgt := 39) C dX5_binds_9 (by decide) (by omega) (by omega) (fun c9 => absurd c9 (by omega)) (fun c9 => ?_)
    refine r_aload_n C dX5_binds_12 rfl ?_
    refine gf_X5_7 C M1 dX5_binds_13 ?_
    refine r_bipush C dX5_binds_16 rfl ?_
    refine r_aload_n C dX5_binds_18 rfl ?_
    refine gf_X5_7 C M1 dX5_binds_19 ?_
    refine r_bipush C dX5_binds_22 rfl ?_
    refine r_iload_n C dX5_binds_24 rfl ?_
    refine r_iadd C dX5_binds_25 ?_
    refine r_iald C Ms (by omega) (by omega) dX5_binds_26 ?_
    rw [wr_s, bkV_o _ (by omega)]
    refine r_iadd C dX5_binds_27 ?_
    refine r_dup2 C dX5_binds_28 rfl rfl ?_
    refine r_iald C Ms (by omega) (by omega) dX5_binds_29 ?_
    refine r_iconst C dX5_binds_30 ?_
    refine r_iadd C dX5_binds_31 ?_
    refine r_iast C Ms (by omega) (by omega) (by omega) dX5_binds_32 ?_
    refine r_iinc C dX5_binds_33 rfl (by decide) rfl ?_
    refine r_goto (tgt := 2) C dX5_binds_36 (by decide) ?_
    refine r_eq K2 ?_
    simp only [wr_s, wr_ww]
    rw [bkV_s _ h0 hn]
set_option maxRecDepth 20000 in
set_option maxHeartbeats 2000000 in
theorem kX5_copies {V : Wo} {μ : Mem} {q : Nat} (hM : MoS V q) {f t : Int} (hf : 0 ≤ f) (hf2 : f ≤ 7) (ht : 0 ≤ t) (ht2 : t ≤ 7) (hft : f ≠ t) : Con V 0 yX5_copies cX5_copies 4 (none) [vR q, vI f, vI t] (μ) (QV V (wr μ (q + 1) (cpV (μ (q + 1)) f t 110))) := by
  refine con_of (ls0 := [vR q, vI f, vI t, vU]) (by decide +kernel) rfl (Nat.le_of_ble_eq_true rfl) (Nat.le_of_ble_eq_true rfl) (fun X hV C hF => ?_)
  subst hV
  have C : Ok X RX5 cX5_copies 4 0 := C
  obtain ⟨M0, M1, Ms, Mt, Mr, Md, Ml⟩ := id hM
  refine r_iconst C dX5_copies_0 ?_
  refine r_istore_n C dX5_copies_1 (by decide) rfl ?_
  refine r_eq (μ' := wr μ (q + 1) (cpV (μ (q + 1)) f t 0)) ?_ (by rw [cpV_0, wr_self])
  refine loop_up (F := fun i => RR X (wr μ (q + 1) (cpV (μ (q + 1)) f t i)) 2 [vR q, vI f, vI t, vI i] []) (a := 0) (b := 110) (by omega) ?_ ?_
  · show RR X _ _ [vR q, vI f, vI t, vI 110] []
    refine r_iload_n C dX5_copies_2 rfl ?_
    refine r_bipush C dX5_copies_3 rfl ?_
    refine r_icmp_ge (tgt := 36) C dX5_copies_5 (by decide) (by omega) (by omega) (fun c5 => ?_) (fun c5 => absurd c5 (by omega))
    exact r_vret C hF dX5_copies_36 rfl
  · intro i h0 h1 K2
    show RR X _ _ [vR q, vI f, vI t, vI i] []
    refine r_iload_n C dX5_copies_2 rfl ?_
    refine r_bipush C dX5_copies_3 rfl ?_
    refine r_icmp_ge (tgt := 36) C dX5_copies_5 (by decide) (by omega) (by omega) (fun c5 => absurd c5 (by omega)) (fun c5 => ?_)
    refine r_aload_n C dX5_copies_8 rfl ?_
    refine gf_X5_7 C M1 dX5_copies_9 ?_
    refine r_bipush C dX5_copies_12 rfl ?_
    refine r_iload_n C dX5_copies_14 rfl ?_
    refine r_imul C dX5_copies_15 ?_
    refine r_iload_n C dX5_copies_16 rfl ?_
    refine r_iadd C dX5_copies_17 ?_
    refine r_aload_n C dX5_copies_18 rfl ?_
    refine gf_X5_7 C M1 dX5_copies_19 ?_
    refine r_bipush C dX5_copies_22 rfl ?_
    refine r_iload_n C dX5_copies_24 rfl ?_
    refine r_imul C dX5_copies_25 ?_
    refine r_iload_n C dX5_copies_26 rfl ?_
    refine r_iadd C dX5_copies_27 ?_
    refine r_iald C Ms (by omega) (by omega) dX5_copies_28 ?_
    refine r_iast C Ms (by omega) (by omega) (by omega) dX5_copies_29 ?_
    refine r_iinc C dX5_copies_30 rfl (by decide) rfl ?_
    refine r_goto (tgt := 2) C dX5_copies_33 (by decide) ?_
    refine r_eq K2 ?_
    simp only [wr_s, wr_ww]
    rw [cpV_s _ h0 h1 hft]
