set_option maxRecDepth 20000 in
set_option maxHeartbeats 2000000 in
theorem kX5_thrown {V : Wo} {μ : Mem} {q : Nat} (hM : MoS V q) : Con V 0 yX5_thrown cX5_thrown 1 (some .int) [vR q] (μ) (QI V (μ q 0) (μ)) := by
  refine con_of (ls0 := [vR q]) (by decide +kernel) rfl (Nat.le_of_ble_eq_true rfl) (Nat.le_of_ble_eq_true rfl) (fun X hV C hF => ?_)
  subst hV
  have C : Ok X RX5 cX5_thrown 1 0 := C
  obtain ⟨M0, M1, Ms, Mt, Mr, Md, Ml⟩ := id hM
  refine r_aload_n C dX5_thrown_0 rfl ?_
  refine gf_X5_25 C M1 dX5_thrown_1 ?_
  exact r_iret C hF dX5_thrown_4 rfl rfl
set_option maxRecDepth 20000 in
set_option maxHeartbeats 2000000 in
theorem kX5_in {V : Wo} {μ : Mem} {v l u : Int} (hv : inR v) (hl : inR l) (hu : inR u) : Con V 0 yX5_in cX5_in 3 (some .boolean) [vI v, vI l, vI u] (μ) (QI V (b01 (l ≤ v ∧ v ≤ u)) (μ)) := by
  refine con_of (ls0 := [vI v, vI l, vI u]) (by decide +kernel) rfl (Nat.le_of_ble_eq_true rfl) (Nat.le_of_ble_eq_true rfl) (fun X hV C hF => ?_)
  subst hV
  have C : Ok X RX5 cX5_in 3 0 := C
  refine r_iload_n C dX5_in_0 rfl ?_
  refine r_iload_n C dX5_in_1 rfl ?_
  refine r_icmp_lt (tgt := 14) C dX5_in_2 (by decide) (by omega) (by omega) (fun c2 => ?_) (fun c2 => ?_)
  · have _ := c2
    refine r_iconst C dX5_in_14 ?_
    exact r_zret C hF dX5_in_15 (by omega) (by unfold b01; split <;> omega) rfl
  · have _ := c2
    refine r_iload_n C dX5_in_5 rfl ?_
    refine r_iload_n C dX5_in_6 rfl ?_
    refine r_icmp_gt (tgt := 14) C dX5_in_7 (by decide) (by omega) (by omega) (fun c7 => ?_) (fun c7 => ?_)
    · have _ := c7
      refine r_iconst C dX5_in_14 ?_
      exact r_zret C hF dX5_in_15 (by omega) (by unfold b01; split <;> omega) rfl
    · have _ := c7
      refine r_iconst C dX5_in_10 ?_
      refine r_goto (tgt := 15) C dX5_in_11 (by decide) ?_
      exact r_zret C hF dX5_in_15 (by omega) (by unfold b01; split <;> omega) rfl
set_option maxRecDepth 20000 in
set_option maxHeartbeats 2000000 in
theorem kX5_holds {V : Wo} {μ : Mem} {q : Nat} (hM : MoS V q) {x : Int} (hx : inR x) : Con V 0 yX5_holds cX5_holds 2 (some .boolean) [vR q, vI x] (μ) (QI V (b01 (x = 0)) (wr μ q (s1 (μ q) 0 x))) := by
  refine con_of (ls0 := [vR q, vI x]) (by decide +kernel) rfl (Nat.le_of_ble_eq_true rfl) (Nat.le_of_ble_eq_true rfl) (fun X hV C hF => ?_)
  subst hV
  have C : Ok X RX5 cX5_holds 2 0 := C
  obtain ⟨M0, M1, Ms, Mt, Mr, Md, Ml⟩ := id hM
  refine r_aload_n C dX5_holds_0 rfl ?_
  refine r_iload_n C dX5_holds_1 rfl ?_
  refine pf_X5_25 C M1 M0 dX5_holds_2 ?_
  refine r_iload_n C dX5_holds_5 rfl ?_
  refine r_if_ne (tgt := 13) C dX5_holds_6 (by decide) (by omega) (fun c6 => ?_) (fun c6 => ?_)
  · have _ := c6
    refine r_iconst C dX5_holds_13 ?_
    exact r_zret C hF dX5_holds_14 (by omega) (by unfold b01; split <;> omega) rfl
  · have _ := c6
    refine r_iconst C dX5_holds_9 ?_
    refine r_goto (tgt := 14) C dX5_holds_10 (by decide) ?_
    exact r_zret C hF dX5_holds_14 (by omega) (by unfold b01; split <;> omega) rfl
set_option maxRecDepth 20000 in
set_option maxHeartbeats 2000000 in
theorem kX5_isBin {V : Wo} {μ : Mem} {x : Int} (hx : inR x) : Con V 1 yX5_isBin cX5_isBin 1 (some .boolean) [vI x] (μ) (QI V (b01 (0 ≤ x ∧ x < 16)) (μ)) := by
  refine con_of (ls0 := [vI x]) (by decide +kernel) rfl (Nat.le_of_ble_eq_true rfl) (Nat.le_of_ble_eq_true rfl) (fun X hV C hF => ?_)
  subst hV
  have C : Ok X RX5 cX5_isBin 1 1 := C
  refine r_iload_n C dX5_isBin_0 rfl ?_
  refine r_iconst C dX5_isBin_1 ?_
  refine r_bipush C dX5_isBin_2 rfl ?_
  refine r_runI (fun aH aL aj a1 a2 a3 => run_S C hF.2.2.1 (kX5_in hx (by omega) (by omega)) lm_X5_in ml_X5_29 sm_X5_in (Nat.le_of_ble_eq_true rfl) dX5_isBin_4 rfl (Nat.le_of_ble_eq_true rfl) a1 a2 a3) ?_
  exact r_zret C hF dX5_isBin_7 (b01_z _) (b01_i (by omega)) rfl
set_option maxRecDepth 20000 in
set_option maxHeartbeats 2000000 in
theorem kX5_isPlace {V : Wo} {μ : Mem} {q : Nat} (hM : MoS V q) {K : Int} (hv : veW K (μ (q + 1))) {x : Int} (hx : inR x) : Con V 1 yX5_isPlace cX5_isPlace 2 (some .boolean) [vR q, vI x] (μ) (QI V (b01 (0 ≤ x ∧ x < μ (q + 1) 3)) (μ)) := by
  refine con_of (ls0 := [vR q, vI x]) (by decide +kernel) rfl (Nat.le_of_ble_eq_true rfl) (Nat.le_of_ble_eq_true rfl) (fun X hV C hF => ?_)
  subst hV
  have C : Ok X RX5 cX5_isPlace 2 1 := C
  obtain ⟨M0, M1, Ms, Mt, Mr, Md, Ml⟩ := id hM
  obtain ⟨v0, v1, v2, v3, v4, v5, v6, v7, v8, v9, v10⟩ := id hv
  refine r_iload_n C dX5_isPlace_0 rfl ?_
  refine r_iconst C dX5_isPlace_1 ?_
  refine r_aload_n C dX5_isPlace_2 rfl ?_
  refine gf_X5_7 C M1 dX5_isPlace_3 ?_
  refine r_iconst C dX5_isPlace_6 ?_
  refine r_iald C Ms (by omega) (by omega) dX5_isPlace_7 ?_
  refine r_iconst C dX5_isPlace_8 ?_
  refine r_isub C dX5_isPlace_9 ?_
  refine r_runI (fun aH aL aj a1 a2 a3 => run_S C hF.2.2.1 (kX5_in hx (by omega) (by omega)) lm_X5_in ml_X5_29 sm_X5_in (Nat.le_of_ble_eq_true rfl) dX5_isPlace_10 rfl (Nat.le_of_ble_eq_true rfl) a1 a2 a3) ?_
  exact r_zret C hF dX5_isPlace_13 (b01_z _) (b01_i (by omega)) rfl
set_option maxRecDepth 20000 in
set_option maxHeartbeats 2000000 in
theorem kX5_laysOut {V : Wo} {μ : Mem} {q : Nat} (hM : MoS V q) {K : Int} (hv : veW K (μ (q + 1))) {p : Int} (hp : -1 ≤ p) (hp2 : p < 1000) : Con V 0 yX5_laysOut cX5_laysOut 3 (none) [vR q, vI p] (μ) (QV V (lay μ q p (μ (q + 1) 3))) := by
  refine con_of (ls0 := [vR q, vI p, vU]) (by decide +kernel) rfl (Nat.le_of_ble_eq_true rfl) (Nat.le_of_ble_eq_true rfl) (fun X hV C hF => ?_)
  subst hV
  have C : Ok X RX5 cX5_laysOut 3 0 := C
  obtain ⟨M0, M1, Ms, Mt, Mr, Md, Ml⟩ := id hM
  obtain ⟨v0, v1, v2, v3, v4, v5, v6, v7, v8, v9, v10⟩ := id hv
  refine r_aload_n C dX5_laysOut_0 rfl ?_
  refine r_iconst C dX5_laysOut_1 ?_
  refine pf_X5_33 C M1 M0 dX5_laysOut_2 ?_
  refine r_iconst C dX5_laysOut_5 ?_
  refine r_istore_n C dX5_laysOut_6 (by decide) rfl ?_
  refine r_eq (μ' := lay μ q p 0) ?_ (lay_b μ q hp)
  refine loop_up (F := fun i => RR X (lay μ q p i) 7 [vR q, vI p, vI i] []) (a := 0) (b := μ (q + 1) 3) v4.1 ?_ ?_
  · show RR X _ _ [vR q, vI p, vI (μ (q + 1) 3)] []
    refine r_iload_n C dX5_laysOut_7 rfl ?_
    refine r_aload_n C dX5_laysOut_8 rfl ?_
    refine gf_X5_7 C M1 dX5_laysOut_9 ?_
    refine r_iconst C dX5_laysOut_12 ?_
    refine r_iald C Ms (by omega) (by omega) dX5_laysOut_13 ?_
    rw [lay_1]
    refine r_icmp_ge (tgt := 74) C dX5_laysOut_14 (by decide) (by omega) (by omega) (fun c14 => ?_) (fun c14 => absurd c14 (by omega))
    exact r_vret C hF dX5_laysOut_74 rfl
  · intro i h0 h1 K2
    show RR X _ _ [vR q, vI p, vI i] []
    have hb := lc_bd (p := p) h0
    refine r_iload_n C dX5_laysOut_7 rfl ?_
    refine r_aload_n C dX5_laysOut_8 rfl ?_
    refine gf_X5_7 C M1 dX5_laysOut_9 ?_
    refine r_iconst C dX5_laysOut_12 ?_
    refine r_iald C Ms (by omega) (by omega) dX5_laysOut_13 ?_
    rw [lay_1]
    refine r_icmp_ge (tgt := 74) C dX5_laysOut_14 (by decide) (by omega) (by omega) (fun c14 => absurd c14 (by omega)) (fun c14 => ?_)
    refine r_iload_n C dX5_laysOut_17 rfl ?_
    refine r_iload_n C dX5_laysOut_18 rfl ?_
    refine r_icmp_eq (tgt := 68) C dX5_laysOut_19 (by decide) (by omega) (by omega) (fun c19 => ?_) (fun c19 => ?_)
    · skip
      refine r_iinc C dX5_laysOut_68 rfl (by decide) rfl ?_
      refine r_goto (tgt := 7) C dX5_laysOut_71 (by decide) ?_
      exact r_eq K2 (lay_e μ q h0 c19).symm
    · skip
      refine r_aload_n C dX5_laysOut_22 rfl ?_
      refine gf_X5_16 C M1 dX5_laysOut_23 ?_
      refine r_aload_n C dX5_laysOut_26 rfl ?_
      refine gf_X5_33 C M1 dX5_laysOut_27 ?_
      refine r_aload_n C dX5_laysOut_30 rfl ?_
      refine gf_X5_7 C M1 dX5_laysOut_31 ?_
      refine r_bipush C dX5_laysOut_34 rfl ?_
      refine r_iload_n C dX5_laysOut_36 rfl ?_
      refine r_iadd C dX5_laysOut_37 ?_
      refine r_iald C Ms (by omega) (by omega) dX5_laysOut_38 ?_
      rw [lay_q, s1_s, lay_1]
      refine r_iast C Mr (by omega) (by omega) (by omega) dX5_laysOut_39 ?_
      refine r_aload_n C dX5_laysOut_40 rfl ?_
      refine gf_X5_19 C M1 dX5_laysOut_41 ?_
      refine r_aload_n C dX5_laysOut_44 rfl ?_
      refine gf_X5_33 C M1 dX5_laysOut_45 ?_
      refine r_aload_n C dX5_laysOut_48 rfl ?_
      refine gf_X5_7 C M1 dX5_laysOut_49 ?_
      refine r_bipush C dX5_laysOut_52 rfl ?_
      refine r_iload_n C dX5_laysOut_54 rfl ?_
      refine r_iadd C dX5_laysOut_55 ?_
      refine r_iald C Ms (by omega) (by omega) dX5_laysOut_56 ?_
      simp (disch := omega) only [wr_n, lay_q, s1_s, lay_1]
      refine r_iast C Md (by omega) (by omega) (by omega) dX5_laysOut_57 ?_
      refine r_aload_n C dX5_laysOut_58 rfl ?_
      refine r_dup C dX5_laysOut_59 rfl ?_
      refine gf_X5_33 C M1 dX5_laysOut_60 ?_
      refine r_iconst C dX5_laysOut_63 ?_
      refine r_iadd C dX5_laysOut_64 ?_
      simp (disch := omega) only [wr_n, lay_q, s1_s]
      refine pf_X5_33 C M1 M0 dX5_laysOut_65 ?_
      refine r_iinc C dX5_laysOut_68 rfl (by decide) rfl ?_
      refine r_goto (tgt := 7) C dX5_laysOut_71 (by decide) ?_
      refine r_eq K2 ?_
      simp (disch := omega) only [wr_n, lay_q, lay_3, lay_4]
      exact lay_s μ q h0 c19
set_option maxRecDepth 20000 in
set_option maxHeartbeats 2000000 in
theorem kX5_mark {V : Wo} {μ : Mem} {q : Nat} (hM : MoS V q) {K : Int} (hv : veW K (μ (q + 1))) {x y : Int} (hx : 0 ≤ x) (hx2 : x < 16) (hy : y = 0 ∨ y = 1) : Con V 0 yX5_mark cX5_mark 4 (some .int) [vR q, vI x, vI y] (μ) (QI V (mk (μ (q + 1) 1) x y) (μ)) := by
  refine con_of (ls0 := [vR q, vI x, vI y, vU]) (by decide +kernel) rfl (Nat.le_of_ble_eq_true rfl) (Nat.le_of_ble_eq_true rfl) (fun X hV C hF => ?_)
  subst hV
  have C : Ok X RX5 cX5_mark 4 0 := C
  obtain ⟨M0, M1, Ms, Mt, Mr, Md, Ml⟩ := id hM
  obtain ⟨v0, v1, v2, v3, v4, v5, v6, v7, v8, v9, v10⟩ := id hv
  refine r_iload_n C dX5_mark_0 rfl ?_
  refine r_aload_n C dX5_mark_1 rfl ?_
  refine gf_X5_7 C M1 dX5_mark_2 ?_
  refine r_iconst C dX5_mark_5 ?_
  refine r_iald C Ms (by omega) (by omega) dX5_mark_6 ?_
  refine r_irem C dX5_mark_7 (by omega) (by omega) ?_
  refine r_istore_n C dX5_mark_8 (by decide) rfl ?_
  refine r_iload_n C dX5_mark_9 rfl ?_
  refine r_iconst C dX5_mark_10 ?_
  refine r_icmp_ne (tgt := 27) C dX5_mark_11 (by decide) (by omega) (by omega) (fun c11 => ?_) (fun c11 => ?_)
  · skip
    refine r_iload_n C dX5_mark_27 rfl ?_
    exact r_iret C hF dX5_mark_28 (mk_0 hy c11).symm rfl
  · skip
    refine r_aload_n C dX5_mark_14 rfl ?_
    refine gf_X5_7 C M1 dX5_mark_15 ?_
    refine r_iconst C dX5_mark_18 ?_
    refine r_iald C Ms (by omega) (by omega) dX5_mark_19 ?_
    refine r_iconst C dX5_mark_20 ?_
    refine r_isub C dX5_mark_21 ?_
    refine r_iload_n C dX5_mark_22 rfl ?_
    refine r_isub C dX5_mark_23 ?_
    refine r_goto (tgt := 28) C dX5_mark_24 (by decide) ?_
    exact r_iret C hF dX5_mark_28 (mk_1 c11).symm rfl
set_option maxRecDepth 20000 in
set_option maxHeartbeats 2000000 in
theorem kX5_breaksAt {V : Wo} {μ : Mem} {q : Nat} (hM : MoS V q) {K : Int} (hv : veW K (μ (q + 1))) (hL : LaW μ q) {k : Int} (hk : 0 ≤ k) (hk2 : k < (μ q 12)) : Con V 1 yX5_breaksAt cX5_breaksAt 3 (some .boolean) [vR q, vI k] (μ) (QI V (b01 (brk (μ (q + 1) 1) (μ (q + 3)) (μ (q + 4)) k)) (μ)) := by
  refine con_of (ls0 := [vR q, vI k, vU]) (by decide +kernel) rfl (Nat.le_of_ble_eq_true rfl) (Nat.le_of_ble_eq_true rfl) (fun X hV C hF => ?_)
  subst hV
  have C : Ok X RX5 cX5_breaksAt 3 1 := C
  obtain ⟨M0, M1, Ms, Mt, Mr, Md, Ml⟩ := id hM
  obtain ⟨v0, v1, v2, v3, v4, v5, v6, v7, v8, v9, v10⟩ := id hv
  obtain ⟨L0, L1, L2, L3⟩ := id hL
  have m1 := mk_bd (st := (μ (q + 1) 1)) (a := (μ (q + 3)) k) (d := (μ (q + 4)) k) (by omega)
  have m2 := due_bd (st := (μ (q + 1) 1)) (a := (μ (q + 3))) (d := (μ (q + 4))) (k := k) (by omega)
  refine jn (A := RR X μ 37 [vR q, vI k, vU] [vI (due (μ (q + 1) 1) (μ (q + 3)) (μ (q + 4)) k)]) ?_ (fun J => ?_)
  · skip
    refine r_istore_n C dX5_breaksAt_37 (by decide) rfl ?_
    refine r_aload_n C dX5_breaksAt_38 rfl ?_
    refine r_aload_n C dX5_breaksAt_39 rfl ?_
    refine gf_X5_16 C M1 dX5_breaksAt_40 ?_
    refine r_iload_n C dX5_breaksAt_43 rfl ?_
    refine r_iald C Mr (by omega) (by omega) dX5_breaksAt_44 ?_
    refine r_aload_n C dX5_breaksAt_45 rfl ?_
    refine gf_X5_19 C M1 dX5_breaksAt_46 ?_
    refine r_iload_n C dX5_breaksAt_49 rfl ?_
    refine r_iald C Md (by omega) (by omega) dX5_breaksAt_50 ?_
    refine r_runI (fun aH aL aj a1 a2 a3 => run_V C hF.2.2.1 (kX5_mark hM hv (L2 k hk hk2).1 (L2 k hk hk2).2 (L3 k hk hk2)) lm_X5_mark ml_X5_36 im_X5_mark se_X5_mark M1 rfl (Nat.le_of_ble_eq_true rfl) dX5_breaksAt_51 rfl (Nat.le_of_ble_eq_true rfl) a1 a2 a3) ?_
    refine r_iload_n C dX5_breaksAt_54 rfl ?_
    refine r_icmp_eq (tgt := 62) C dX5_breaksAt_55 (by decide) (by omega) (by omega) (fun c55 => ?_) (fun c55 => ?_)
    · skip
      refine r_iconst C dX5_breaksAt_62 ?_
      exact r_zret C hF dX5_breaksAt_63 (by omega) (b01_f (fun z => z c55)).symm rfl
    · skip
      refine r_iconst C dX5_breaksAt_58 ?_
      refine r_goto (tgt := 63) C dX5_breaksAt_59 (by decide) ?_
      exact r_zret C hF dX5_breaksAt_63 (by omega) (b01_t c55).symm rfl
  · skip
    refine r_iload_n C dX5_breaksAt_0 rfl ?_
    refine r_if_ne (tgt := 8) C dX5_breaksAt_1 (by decide) (by omega) (fun c1 => ?_) (fun c1 => ?_)
    · skip
      refine r_aload_n C dX5_breaksAt_8 rfl ?_
      refine r_aload_n C dX5_breaksAt_9 rfl ?_
      refine gf_X5_16 C M1 dX5_breaksAt_10 ?_
      refine r_iload_n C dX5_breaksAt_13 rfl ?_
      refine r_iconst C dX5_breaksAt_14 ?_
      refine r_isub C dX5_breaksAt_15 ?_
      refine r_iald C Mr (by omega) (by omega) dX5_breaksAt_16 ?_
      refine r_aload_n C dX5_breaksAt_17 rfl ?_
      refine gf_X5_19 C M1 dX5_breaksAt_18 ?_
      refine r_iload_n C dX5_breaksAt_21 rfl ?_
      refine r_iconst C dX5_breaksAt_22 ?_
      refine r_isub C dX5_breaksAt_23 ?_
      refine r_iald C Md (by omega) (by omega) dX5_breaksAt_24 ?_
      refine r_runI (fun aH aL aj a1 a2 a3 => run_V C hF.2.2.1 (kX5_mark hM hv (L2 (k - 1) (by omega) (by omega)).1 (L2 (k - 1) (by omega) (by omega)).2 (L3 (k - 1) (by omega) (by omega))) lm_X5_mark ml_X5_36 im_X5_mark se_X5_mark M1 rfl (Nat.le_of_ble_eq_true rfl) dX5_breaksAt_25 rfl (Nat.le_of_ble_eq_true rfl) a1 a2 a3) ?_
      refine r_iconst C dX5_breaksAt_28 ?_
      refine r_iadd C dX5_breaksAt_29 ?_
      refine r_aload_n C dX5_breaksAt_30 rfl ?_
      refine gf_X5_7 C M1 dX5_breaksAt_31 ?_
      refine r_iconst C dX5_breaksAt_34 ?_
      refine r_iald C Ms (by omega) (by omega) dX5_breaksAt_35 ?_
      refine r_irem C dX5_breaksAt_36 (by have := mk_bd (st := (μ (q + 1) 1)) (a := (μ (q + 3)) (k - 1)) (d := (μ (q + 4)) (k - 1)) (by omega); omega) (by omega) ?_
      rw [show due (μ (q + 1) 1) (μ (q + 3)) (μ (q + 4)) k = (mk (μ (q + 1) 1) ((μ (q + 3)) (k - 1)) ((μ (q + 4)) (k - 1)) + 1) % (μ (q + 1) 1) from if_neg c1] at J
      exact J
    · skip
      refine r_iconst C dX5_breaksAt_4 ?_
      refine r_goto (tgt := 37) C dX5_breaksAt_5 (by decide) ?_
      rw [show due (μ (q + 1) 1) (μ (q + 3)) (μ (q + 4)) k = 0 from if_pos c1] at J
      exact J
set_option maxRecDepth 20000 in
set_option maxHeartbeats 2000000 in
theorem kX5_breaks {V : Wo} {μ : Mem} {q : Nat} (hM : MoS V q) {K : Int} (hv : veW K (μ (q + 1))) (hL : LaW μ q) : Con V 2 yX5_breaks cX5_breaks 3 (some .int) [vR q] (μ) (QI V (brks (μ (q + 1) 1) (μ (q + 3)) (μ (q + 4)) (μ q 12)) (μ)) := by
  refine con_of (ls0 := [vR q, vU, vU]) (by decide +kernel) rfl (Nat.le_of_ble_eq_true rfl) (Nat.le_of_ble_eq_true rfl) (fun X hV C hF => ?_)
  subst hV
  have C : Ok X RX5 cX5_breaks 3 2 := C
  obtain ⟨M0, M1, Ms, Mt, Mr, Md, Ml⟩ := id hM
  obtain ⟨v0, v1, v2, v3, v4, v5, v6, v7, v8, v9, v10⟩ := id hv
  obtain ⟨L0, L1, L2, L3⟩ := id hL
  refine r_iconst C dX5_breaks_0 ?_
  refine r_istore_n C dX5_breaks_1 (by decide) rfl ?_
  refine r_iconst C dX5_breaks_2 ?_
  refine r_istore_n C dX5_breaks_3 (by decide) rfl ?_
  refine loop_up (F := fun i => RR X μ 4 [vR q, vI (cn (fun k => brk (μ (q + 1) 1) (μ (q + 3)) (μ (q + 4)) k) i), vI i] []) (a := 0) (b := (μ q 12)) L0 ?_ ?_
  · show RR X _ _ [vR q, vI (cn (fun k => brk (μ (q + 1) 1) (μ (q + 3)) (μ (q + 4)) k) (μ q 12)), vI (μ q 12)] []
    refine r_iload_n C dX5_breaks_4 rfl ?_
    refine r_aload_n C dX5_breaks_5 rfl ?_
    refine gf_X5_33 C M1 dX5_breaks_6 ?_
    refine r_icmp_ge (tgt := 34) C dX5_breaks_9 (by decide) (by omega) (by omega) (fun c9 => ?_) (fun c9 => absurd c9 (by omega))
    refine r_iload_n C dX5_breaks_34 rfl ?_
    exact r_iret C hF dX5_breaks_35 rfl rfl
  · intro i h0 h1 K2
    show RR X _ _ [vR q, vI (cn (fun k => brk (μ (q + 1) 1) (μ (q + 3)) (μ (q + 4)) k) i), vI i] []
    rw [cn_s _ h0] at K2
    refine r_iload_n C dX5_breaks_4 rfl ?_
    refine r_aload_n C dX5_breaks_5 rfl ?_
    refine gf_X5_33 C M1 dX5_breaks_6 ?_
    refine r_icmp_ge (tgt := 34) C dX5_breaks_9 (by decide) (by omega) (by omega) (fun c9 => absurd c9 (by omega)) (fun c9 => ?_)
    refine r_iload_n C dX5_breaks_12 rfl ?_
    refine r_aload_n C dX5_breaks_13 rfl ?_
    refine r_iload_n C dX5_breaks_14 rfl ?_
    refine r_runI (fun aH aL aj a1 a2 a3 => run_V C hF.2.2.1 (kX5_breaksAt hM hv hL h0 h1) lm_X5_breaksAt ml_X5_40 im_X5_breaksAt se_X5_breaksAt M1 rfl (Nat.le_of_ble_eq_true rfl) dX5_breaks_15 rfl (Nat.le_of_ble_eq_true rfl) a1 a2 a3) ?_
    refine r_if_eq (tgt := 25) C dX5_breaks_18 (by decide) (by have := b01_r (brk (μ (q + 1) 1) (μ (q + 3)) (μ (q + 4)) i); omega) (fun c18 => ?_) (fun c18 => ?_)
    · skip
      refine r_iconst C dX5_breaks_25 ?_
      refine r_iadd C dX5_breaks_26 ?_
      refine r_istore_n C dX5_breaks_27 (by decide) rfl ?_
      refine r_iinc C dX5_breaks_28 rfl (by decide) rfl ?_
      refine r_goto (tgt := 4) C dX5_breaks_31 (by decide) ?_
      rw [show b01 (brk (μ (q + 1) 1) (μ (q + 3)) (μ (q + 4)) i) = 0 from c18] at K2
      exact K2
    · skip
      refine r_iconst C dX5_breaks_21 ?_
      refine r_goto (tgt := 26) C dX5_breaks_22 (by decide) ?_
      refine r_iadd C dX5_breaks_26 ?_
      refine r_istore_n C dX5_breaks_27 (by decide) rfl ?_
      refine r_iinc C dX5_breaks_28 rfl (by decide) rfl ?_
      refine r_goto (tgt := 4) C dX5_breaks_31 (by decide) ?_
      rw [show b01 (brk (μ (q + 1) 1) (μ (q + 3)) (μ (q + 4)) i) = 1 by have := b01_r (brk (μ (q + 1) 1) (μ (q + 3)) (μ (q + 4)) i); omega] at K2
      exact K2
set_option maxRecDepth 20000 in
set_option maxHeartbeats 2000000 in
theorem kX5_isAhead {V : Wo} {μ : Mem} {q : Nat} (hM : MoS V q) (hL : LaW μ q) {k : Int} (hk : 0 ≤ k) (hk2 : k < (μ q 12)) : Con V 0 yX5_isAhead cX5_isAhead 4 (some .boolean) [vR q, vI k] (μ) (QI V (b01 (cn (fun e => μ (q + 3) e = μ (q + 3) k) k ≠ 0)) (μ)) := by
  refine con_of (ls0 := [vR q, vI k, vU, vU]) (by decide +kernel) rfl (Nat.le_of_ble_eq_true rfl) (Nat.le_of_ble_eq_true rfl) (fun X hV C hF => ?_)
  subst hV
  have C : Ok X RX5 cX5_isAhead 4 0 := C
  obtain ⟨M0, M1, Ms, Mt, Mr, Md, Ml⟩ := id hM
  obtain ⟨L0, L1, L2, L3⟩ := id hL
  refine r_iconst C dX5_isAhead_0 ?_
  refine r_istore_n C dX5_isAhead_1 (by decide) rfl ?_
  refine r_iconst C dX5_isAhead_2 ?_
  refine r_istore_n C dX5_isAhead_3 (by decide) rfl ?_
  refine r_loc (ls' := [vR q, vI k, vI (b01 (cn (fun e => μ (q + 3) e = μ (q + 3) k) 0 ≠ 0)), vI 0]) ?_ rfl
  refine loop_up (F := fun i => RR X μ 4 [vR q, vI k, vI (b01 (cn (fun e => μ (q + 3) e = μ (q + 3) k) i ≠ 0)), vI i] []) (a := 0) (b := k) hk ?_ ?_
  · show RR X _ _ [vR q, vI k, vI (b01 (cn (fun e => μ (q + 3) e = μ (q + 3) k) k ≠ 0)), vI k] []
    refine r_iload_n C dX5_isAhead_4 rfl ?_
    refine r_iload_n C dX5_isAhead_5 rfl ?_
    refine r_icmp_ge (tgt := 40) C dX5_isAhead_6 (by decide) (by omega) (by omega) (fun c6 => ?_) (fun c6 => absurd c6 (by omega))
    refine r_iload_n C dX5_isAhead_40 rfl ?_
    exact r_zret C hF dX5_isAhead_41 (b01_z _) rfl rfl
  · intro i h0 h1 K2
    show RR X _ _ [vR q, vI k, vI (b01 (cn (fun e => μ (q + 3) e = μ (q + 3) k) i ≠ 0)), vI i] []
    have hc := cn_bd (fun e => μ (q + 3) e = μ (q + 3) k) h0
    refine r_iload_n C dX5_isAhead_4 rfl ?_
    refine r_iload_n C dX5_isAhead_5 rfl ?_
    refine r_icmp_ge (tgt := 40) C dX5_isAhead_6 (by decide) (by omega) (by omega) (fun c6 => absurd c6 (by omega)) (fun c6 => ?_)
    refine r_iload_n C dX5_isAhead_9 rfl ?_
    refine r_if_ne (tgt := 28) C dX5_isAhead_10 (by decide) (by have := b01_r (cn (fun e => μ (q + 3) e = μ (q + 3) k) i ≠ 0); omega) (fun c10 => ?_) (fun c10 => ?_)
    · have z1 := (b01_0 _).mp c10
      refine r_iconst C dX5_isAhead_28 ?_
      refine r_goto (tgt := 33) C dX5_isAhead_29 (by decide) ?_
      refine r_istore_n C dX5_isAhead_33 (by decide) rfl ?_
      refine r_iinc C dX5_isAhead_34 rfl (by decide) rfl ?_
      refine r_goto (tgt := 4) C dX5_isAhead_37 (by decide) ?_
      rw [b01_t (show cn (fun e => μ (q + 3) e = μ (q + 3) k) (i + 1) ≠ 0 by rw [cn_s _ h0]; have := b01_r ((fun e => μ (q + 3) e = μ (q + 3) k) i); dsimp only at this; omega)] at K2
      exact K2
    · have z1 : cn (fun e => μ (q + 3) e = μ (q + 3) k) i = 0 := Decidable.byContradiction (fun z => by rw [b01_t z] at c10; omega)
      refine r_aload_n C dX5_isAhead_13 rfl ?_
      refine gf_X5_16 C M1 dX5_isAhead_14 ?_
      refine r_iload_n C dX5_isAhead_17 rfl ?_
      refine r_iald C Mr (by omega) (by omega) dX5_isAhead_18 ?_
      refine r_aload_n C dX5_isAhead_19 rfl ?_
      refine gf_X5_16 C M1 dX5_isAhead_20 ?_
      refine r_iload_n C dX5_isAhead_23 rfl ?_
      refine r_iald C Mr (by omega) (by omega) dX5_isAhead_24 ?_
      refine r_icmp_ne (tgt := 32) C dX5_isAhead_25 (by decide) (by have := L2 i h0 (by omega); omega) (by have := L2 k hk hk2; omega) (fun c25 => ?_) (fun c25 => ?_)
      · skip
        refine r_iconst C dX5_isAhead_32 ?_
        refine r_istore_n C dX5_isAhead_33 (by decide) rfl ?_
        refine r_iinc C dX5_isAhead_34 rfl (by decide) rfl ?_
        refine r_goto (tgt := 4) C dX5_isAhead_37 (by decide) ?_
        rw [b01_f (show ¬ cn (fun e => μ (q + 3) e = μ (q + 3) k) (i + 1) ≠ 0 by rw [cn_s _ h0, b01_f c25, z1]; exact fun z => z rfl)] at K2
        exact K2
      · skip
        refine r_iconst C dX5_isAhead_28 ?_
        refine r_goto (tgt := 33) C dX5_isAhead_29 (by decide) ?_
        refine r_istore_n C dX5_isAhead_33 (by decide) rfl ?_
        refine r_iinc C dX5_isAhead_34 rfl (by decide) rfl ?_
        refine r_goto (tgt := 4) C dX5_isAhead_37 (by decide) ?_
        rw [b01_t (show cn (fun e => μ (q + 3) e = μ (q + 3) k) (i + 1) ≠ 0 by rw [cn_s _ h0, b01_t c25, z1]; decide)] at K2
        exact K2
set_option maxRecDepth 20000 in
set_option maxHeartbeats 2000000 in
theorem kX5_isFault {V : Wo} {μ : Mem} {q : Nat} (hM : MoS V q) {K : Int} (hv : veW K (μ (q + 1))) (hL : LaW μ q) {k f : Int} (hk : 0 ≤ k) (hk2 : k < (μ q 12)) (hf : 0 ≤ f) (hf2 : f ≤ 10) : Con V 1 yX5_isFault cX5_isFault 3 (some .boolean) [vR q, vI k, vI f] (μ) (QI V (iF (μ (q + 1) 0) (μ (q + 3)) (μ (q + 4)) k f) (μ)) := by
  refine con_of (ls0 := [vR q, vI k, vI f]) (by decide +kernel) rfl (Nat.le_of_ble_eq_true rfl) (Nat.le_of_ble_eq_true rfl) (fun X hV C hF => ?_)
  subst hV
  have C : Ok X RX5 cX5_isFault 3 1 := C
  obtain ⟨M0, M1, Ms, Mt, Mr, Md, Ml⟩ := id hM
  obtain ⟨v0, v1, v2, v3, v4, v5, v6, v7, v8, v9, v10⟩ := id hv
  obtain ⟨L0, L1, L2, L3⟩ := id hL
  refine r_iload_n C dX5_isFault_0 rfl ?_
  rcases (by omega : f = 2 ∨ f = 3 ∨ f = 4 ∨ (f ≠ 2 ∧ f ≠ 3 ∧ f ≠ 4)) with e | e | e | e
  · have ei : iF (μ (q + 1) 0) (μ (q + 3)) (μ (q + 4)) k f = b01 (μ (q + 4) k = 1) := by unfold iF; rw [if_pos e]
    rw [ei] at hF
    try rw [e]
    refine r_tsIn (tgt := 28) C dX5_isFault_1 (by omega) (by omega) (by omega) rfl (by decide) ?_
    refine r_aload_n C dX5_isFault_28 rfl ?_
    refine gf_X5_19 C M1 dX5_isFault_29 ?_
    refine r_iload_n C dX5_isFault_32 rfl ?_
    refine r_iald C Md (by omega) (by omega) dX5_isFault_33 ?_
    refine r_iconst C dX5_isFault_34 ?_
    refine r_icmp_ne (tgt := 42) C dX5_isFault_35 (by decide) (by have := L3 k hk hk2; omega) (by omega) (fun c35 => ?_) (fun c35 => ?_)
    · have _ := c35
      refine r_iconst C dX5_isFault_42 ?_
      exact r_zret C hF dX5_isFault_43 (by omega) (by unfold b01; split <;> omega) rfl
    · have _ := c35
      refine r_iconst C dX5_isFault_38 ?_
      refine r_goto (tgt := 43) C dX5_isFault_39 (by decide) ?_
      exact r_zret C hF dX5_isFault_43 (by omega) (by unfold b01; split <;> omega) rfl
  · have ei : iF (μ (q + 1) 0) (μ (q + 3)) (μ (q + 4)) k f = b01 (μ (q + 1) 0 ≤ μ (q + 3) k) := by unfold iF; rw [if_neg (by omega), if_pos e]
    rw [ei] at hF
    try rw [e]
    refine r_tsIn (tgt := 44) C dX5_isFault_1 (by omega) (by omega) (by omega) rfl (by decide) ?_
    refine r_aload_n C dX5_isFault_44 rfl ?_
    refine gf_X5_16 C M1 dX5_isFault_45 ?_
    refine r_iload_n C dX5_isFault_48 rfl ?_
    refine r_iald C Mr (by omega) (by omega) dX5_isFault_49 ?_
    refine r_aload_n C dX5_isFault_50 rfl ?_
    refine gf_X5_7 C M1 dX5_isFault_51 ?_
    refine r_iconst C dX5_isFault_54 ?_
    refine r_iald C Ms (by omega) (by omega) dX5_isFault_55 ?_
    refine r_icmp_lt (tgt := 63) C dX5_isFault_56 (by decide) (by have := L2 k hk hk2; omega) (by omega) (fun c56 => ?_) (fun c56 => ?_)
    · have _ := c56
      refine r_iconst C dX5_isFault_63 ?_
      exact r_zret C hF dX5_isFault_64 (by omega) (by unfold b01; split <;> omega) rfl
    · have _ := c56
      refine r_iconst C dX5_isFault_59 ?_
      refine r_goto (tgt := 64) C dX5_isFault_60 (by decide) ?_
      exact r_zret C hF dX5_isFault_64 (by omega) (by unfold b01; split <;> omega) rfl
  · have ei : iF (μ (q + 1) 0) (μ (q + 3)) (μ (q + 4)) k f = b01 (cn (fun e => μ (q + 3) e = μ (q + 3) k) k ≠ 0) := by unfold iF; rw [if_neg (by omega), if_neg (by omega), if_pos e]
    rw [ei] at hF
    try rw [e]
    refine r_tsIn (tgt := 65) C dX5_isFault_1 (by omega) (by omega) (by omega) rfl (by decide) ?_
    refine r_aload_n C dX5_isFault_65 rfl ?_
    refine r_iload_n C dX5_isFault_66 rfl ?_
    refine r_runI (fun aH aL aj a1 a2 a3 => run_V C hF.2.2.1 (kX5_isAhead hM hL hk hk2) lm_X5_isAhead ml_X5_44 im_X5_isAhead se_X5_isAhead M1 rfl (Nat.le_of_ble_eq_true rfl) dX5_isFault_67 rfl (Nat.le_of_ble_eq_true rfl) a1 a2 a3) ?_
    exact r_zret C hF dX5_isFault_70 (b01_z _) rfl rfl
  · have ei : iF (μ (q + 1) 0) (μ (q + 3)) (μ (q + 4)) k f = b01 (0 < k ∧ μ (q + 3) k < μ (q + 3) (k - 1)) := by unfold iF; rw [if_neg e.1, if_neg e.2.1, if_neg e.2.2]
    rw [ei] at hF
    try rw [e]
    refine r_tsOut (tgt := 71) C dX5_isFault_1 (by omega) (by omega) (by decide) ?_
    refine r_iload_n C dX5_isFault_71 rfl ?_
    refine r_if_le (tgt := 96) C dX5_isFault_72 (by decide) (by omega) (fun c72 => ?_) (fun c72 => ?_)
    · have _ := c72
      refine r_iconst C dX5_isFault_96 ?_
      exact r_zret C hF dX5_isFault_97 (by omega) (by unfold b01; split <;> omega) rfl
    · have _ := c72
      refine r_aload_n C dX5_isFault_75 rfl ?_
      refine gf_X5_16 C M1 dX5_isFault_76 ?_
      refine r_iload_n C dX5_isFault_79 rfl ?_
      refine r_iald C Mr (by omega) (by omega) dX5_isFault_80 ?_
      refine r_aload_n C dX5_isFault_81 rfl ?_
      refine gf_X5_16 C M1 dX5_isFault_82 ?_
      refine r_iload_n C dX5_isFault_85 rfl ?_
      refine r_iconst C dX5_isFault_86 ?_
      refine r_isub C dX5_isFault_87 ?_
      refine r_iald C Mr (by omega) (by omega) dX5_isFault_88 ?_
      refine r_icmp_ge (tgt := 96) C dX5_isFault_89 (by decide) (by have := L2 k hk hk2; omega) (by have := L2 (k - 1) (by omega) (by omega); omega) (fun c89 => ?_) (fun c89 => ?_)
      · have _ := c89
        refine r_iconst C dX5_isFault_96 ?_
        exact r_zret C hF dX5_isFault_97 (by omega) (by unfold b01; split <;> omega) rfl
      · have _ := c89
        refine r_iconst C dX5_isFault_92 ?_
        refine r_goto (tgt := 97) C dX5_isFault_93 (by decide) ?_
        exact r_zret C hF dX5_isFault_97 (by omega) (by unfold b01; split <;> omega) rfl
set_option maxRecDepth 20000 in
set_option maxHeartbeats 2000000 in
theorem kX5_placeOf {V : Wo} {μ : Mem} {q : Nat} (hM : MoS V q) {K : Int} (hv : veW K (μ (q + 1))) (hL : LaW μ q) {f : Int} (hf : 0 ≤ f) (hf2 : f ≤ 10) : Con V 2 yX5_placeOf cX5_placeOf 3 (some .int) [vR q, vI f] (μ) (QI V (pO (μ (q + 1) 0) (μ (q + 3)) (μ (q + 4)) (μ q 12) f) (μ)) := by
  refine con_of (ls0 := [vR q, vI f, vU]) (by decide +kernel) rfl (Nat.le_of_ble_eq_true rfl) (Nat.le_of_ble_eq_true rfl) (fun X hV C hF => ?_)
  subst hV
  have C : Ok X RX5 cX5_placeOf 3 2 := C
  obtain ⟨M0, M1, Ms, Mt, Mr, Md, Ml⟩ := id hM
  obtain ⟨v0, v1, v2, v3, v4, v5, v6, v7, v8, v9, v10⟩ := id hv
  obtain ⟨L0, L1, L2, L3⟩ := id hL
  refine r_iconst C dX5_placeOf_0 ?_
  refine r_istore_n C dX5_placeOf_1 (by decide) rfl ?_
  rw [← pO_e L0 L3] at hF
  revert hF
  refine loop_up (F := fun i => Fnl X (some .int) (QI (xV X) (fs (fun k => iF (μ (q + 1) 0) (μ (q + 3)) (μ (q + 4)) k f ≠ 0) i (μ q 12)) μ) → RR X μ 2 [vR q, vI f, vI i] []) (a := 0) (b := (μ q 12)) L0 ?_ ?_
  · intro hF
    show RR X _ _ [vR q, vI f, vI (μ q 12)] []
    refine r_iload_n C dX5_placeOf_2 rfl ?_
    refine r_aload_n C dX5_placeOf_3 rfl ?_
    refine gf_X5_33 C M1 dX5_placeOf_4 ?_
    refine r_icmp_ge (tgt := 27) C dX5_placeOf_7 (by decide) (by omega) (by omega) (fun c7 => ?_) (fun c7 => absurd c7 (by omega))
    refine r_iconst C dX5_placeOf_27 ?_
    exact r_iret C hF dX5_placeOf_28 (fs_e _ (Int.le_refl _)).symm rfl
  · intro i h0 h1 K2 hF
    show RR X _ _ [vR q, vI f, vI i] []
    refine r_iload_n C dX5_placeOf_2 rfl ?_
    refine r_aload_n C dX5_placeOf_3 rfl ?_
    refine gf_X5_33 C M1 dX5_placeOf_4 ?_
    refine r_icmp_ge (tgt := 27) C dX5_placeOf_7 (by decide) (by omega) (by omega) (fun c7 => absurd c7 (by omega)) (fun c7 => ?_)
    refine r_aload_n C dX5_placeOf_10 rfl ?_
    refine r_iload_n C dX5_placeOf_11 rfl ?_
    refine r_iload_n C dX5_placeOf_12 rfl ?_
    refine r_runI (fun aH aL aj a1 a2 a3 => run_V C hF.2.2.1 (kX5_isFault hM hv hL h0 h1 hf hf2) lm_X5_isFault ml_X5_47 im_X5_isFault se_X5_isFault M1 rfl (Nat.le_of_ble_eq_true rfl) dX5_placeOf_13 rfl (Nat.le_of_ble_eq_true rfl) a1 a2 a3) ?_
    refine r_if_eq (tgt := 21) C dX5_placeOf_16 (by decide) (by have := iF_r (μ (q + 1) 0) (μ (q + 3)) (μ (q + 4)) i f; omega) (fun c16 => ?_) (fun c16 => ?_)
    · skip
      refine r_iinc C dX5_placeOf_21 rfl (by decide) rfl ?_
      refine r_goto (tgt := 2) C dX5_placeOf_24 (by decide) ?_
      exact K2 (fs_f (fun k => iF (μ (q + 1) 0) (μ (q + 3)) (μ (q + 4)) k f ≠ 0) h1 (fun z => z c16) ▸ hF)
    · skip
      refine r_iload_n C dX5_placeOf_19 rfl ?_
      exact r_iret C hF dX5_placeOf_20 (fs_t (fun k => iF (μ (q + 1) 0) (μ (q + 3)) (μ (q + 4)) k f ≠ 0) h1 c16).symm rfl
set_option maxRecDepth 20000 in
set_option maxHeartbeats 2000000 in
theorem kX5_missing {V : Wo} {μ : Mem} {q : Nat} (hM : MoS V q) {K : Int} (hv : veW K (μ (q + 1))) (hL : LaW μ q) : Con V 0 yX5_missing cX5_missing 4 (some .int) [vR q] (μ) (QI V (misS (μ (q + 1) 0) (μ (q + 3)) (μ q 12)) (μ)) := by
  refine con_of (ls0 := [vR q, vU, vU, vU]) (by decide +kernel) rfl (Nat.le_of_ble_eq_true rfl) (Nat.le_of_ble_eq_true rfl) (fun X hV C hF => ?_)
  subst hV
  have C : Ok X RX5 cX5_missing 4 0 := C
  obtain ⟨M0, M1, Ms, Mt, Mr, Md, Ml⟩ := id hM
  obtain ⟨v0, v1, v2, v3, v4, v5, v6, v7, v8, v9, v10⟩ := id hv
  obtain ⟨L0, L1, L2, L3⟩ := id hL
  refine r_iconst C dX5_missing_0 ?_
  refine r_istore_n C dX5_missing_1 (by decide) rfl ?_
  suffices hQ : Fnl X (some .int) (QI (xV X) (fs (fun k => cn (fun e => (μ (q + 3)) e = k) (μ q 12) = 0) 0 (μ (q + 1) 0)) μ) → ∀ z w : Int, RR X μ 2 [vR q, vI 0, vU, vU] [] from hQ hF 0 0
  refine loop_up (F := fun i => Fnl X (some .int) (QI (xV X) (fs (fun k => cn (fun e => (μ (q + 3)) e = k) (μ q 12) = 0) i (μ (q + 1) 0)) μ) → ∀ z w : Int, RR X μ 2 [vR q, vI i, vU, vU] []) (a := 0) (b := (μ (q + 1) 0)) (by omega) ?_ ?_
  · intro hF z w
    show RR X _ _ [vR q, vI (μ (q + 1) 0), vU, vU] []
    refine r_iload_n C dX5_missing_2 rfl ?_
    refine r_aload_n C dX5_missing_3 rfl ?_
    refine gf_X5_7 C M1 dX5_missing_4 ?_
    refine r_iconst C dX5_missing_7 ?_
    refine r_iald C Ms (by omega) (by omega) dX5_missing_8 ?_
    refine r_icmp_ge (tgt := 62) C dX5_missing_9 (by decide) (by omega) (by omega) (fun c9 => ?_) (fun c9 => absurd c9 (by omega))
    refine r_iconst C dX5_missing_62 ?_
    exact r_iret C hF dX5_missing_63 (fs_e _ (Int.le_refl _)).symm rfl
  · intro i h0 h1 K2 hF z w
    show RR X _ _ [vR q, vI i, vU, vU] []
    refine r_iload_n C dX5_missing_2 rfl ?_
    refine r_aload_n C dX5_missing_3 rfl ?_
    refine gf_X5_7 C M1 dX5_missing_4 ?_
    refine r_iconst C dX5_missing_7 ?_
    refine r_iald C Ms (by omega) (by omega) dX5_missing_8 ?_
    refine r_icmp_ge (tgt := 62) C dX5_missing_9 (by decide) (by omega) (by omega) (fun c9 => absurd c9 (by omega)) (fun c9 => ?_)
    refine r_iconst C dX5_missing_12 ?_
    refine r_istore_n C dX5_missing_13 (by decide) rfl ?_
    refine r_iconst C dX5_missing_14 ?_
    refine r_istore_n C dX5_missing_15 (by decide) rfl ?_
    refine r_loc (ls' := [vR q, vI i, vI (b01 (cn (fun e => (μ (q + 3)) e = i) 0 ≠ 0)), vI 0]) ?_ rfl
    refine loop_up (F := fun j => RR X μ 16 [vR q, vI i, vI (b01 (cn (fun e => (μ (q + 3)) e = i) j ≠ 0)), vI j] []) (a := 0) (b := (μ q 12)) L0 ?_ ?_
    · show RR X _ _ [vR q, vI i, vI (b01 (cn (fun e => (μ (q + 3)) e = i) (μ q 12) ≠ 0)), vI (μ q 12)] []
      refine r_iload_n C dX5_missing_16 rfl ?_
      refine r_aload_n C dX5_missing_17 rfl ?_
      refine gf_X5_33 C M1 dX5_missing_18 ?_
      refine r_icmp_ge (tgt := 50) C dX5_missing_21 (by decide) (by omega) (by omega) (fun c21 => ?_) (fun c21 => absurd c21 (by omega))
      refine r_iload_n C dX5_missing_50 rfl ?_
      refine r_if_ne (tgt := 56) C dX5_missing_51 (by decide) (by have := b01_r (cn (fun e => (μ (q + 3)) e = i) (μ q 12) ≠ 0); omega) (fun c51 => ?_) (fun c51 => ?_)
      · skip
        refine r_iinc C dX5_missing_56 rfl (by decide) rfl ?_
        refine r_goto (tgt := 2) C dX5_missing_59 (by decide) ?_
        refine r_less C (ls' := [vR q, vI (i + 1), vU, vU]) (Nat.le_of_ble_eq_true rfl) (fun j a hj ha => ?_) (K2 (fs_f (fun k => cn (fun e => (μ (q + 3)) e = k) (μ q 12) = 0) h1 ((b01_0 _).mp c51) ▸ hF) 0 0)
        match j, hj with
        | 0, hj => exact hj
        | 1, hj => exact hj
        | 2, hj => exact absurd (Option.some.inj hj).symm ha
        | 3, hj => exact absurd (Option.some.inj hj).symm ha
        | j + 4, hj => cases hj
      · skip
        refine r_iload_n C dX5_missing_54 rfl ?_
        exact r_iret C hF dX5_missing_55 (fs_t (fun k => cn (fun e => (μ (q + 3)) e = k) (μ q 12) = 0) h1 (Decidable.byContradiction (fun z => by rw [b01_t z] at c51; omega))).symm rfl
    · intro j g0 g1 K3
      show RR X _ _ [vR q, vI i, vI (b01 (cn (fun e => (μ (q + 3)) e = i) j ≠ 0)), vI j] []
      have hc := cn_bd (fun e => (μ (q + 3)) e = i) g0
      refine r_iload_n C dX5_missing_16 rfl ?_
      refine r_aload_n C dX5_missing_17 rfl ?_
      refine gf_X5_33 C M1 dX5_missing_18 ?_
      refine r_icmp_ge (tgt := 50) C dX5_missing_21 (by decide) (by omega) (by omega) (fun c21 => absurd c21 (by omega)) (fun c21 => ?_)
      refine r_iload_n C dX5_missing_24 rfl ?_
      refine r_if_ne (tgt := 38) C dX5_missing_25 (by decide) (by have := b01_r (cn (fun e => (μ (q + 3)) e = i) j ≠ 0); omega) (fun c25 => ?_) (fun c25 => ?_)
      · have z1 := (b01_0 _).mp c25
        refine r_iconst C dX5_missing_38 ?_
        refine r_goto (tgt := 43) C dX5_missing_39 (by decide) ?_
        refine r_istore_n C dX5_missing_43 (by decide) rfl ?_
        refine r_iinc C dX5_missing_44 rfl (by decide) rfl ?_
        refine r_goto (tgt := 16) C dX5_missing_47 (by decide) ?_
        rw [b01_t (show cn (fun e => (μ (q + 3)) e = i) (j + 1) ≠ 0 by rw [cn_s _ g0]; have := b01_r ((fun e => (μ (q + 3)) e = i) j); dsimp only at this; omega)] at K3
        exact K3
      · have z1 : cn (fun e => (μ (q + 3)) e = i) j = 0 := Decidable.byContradiction (fun z => by rw [b01_t z] at c25; omega)
        refine r_aload_n C dX5_missing_28 rfl ?_
        refine gf_X5_16 C M1 dX5_missing_29 ?_
        refine r_iload_n C dX5_missing_32 rfl ?_
        refine r_iald C Mr (by omega) (by omega) dX5_missing_33 ?_
        refine r_iload_n C dX5_missing_34 rfl ?_
        refine r_icmp_ne (tgt := 42) C dX5_missing_35 (by decide) (by have := L2 j g0 g1; omega) (by omega) (fun c35 => ?_) (fun c35 => ?_)
        · skip
          refine r_iconst C dX5_missing_42 ?_
          refine r_istore_n C dX5_missing_43 (by decide) rfl ?_
          refine r_iinc C dX5_missing_44 rfl (by decide) rfl ?_
          refine r_goto (tgt := 16) C dX5_missing_47 (by decide) ?_
          rw [b01_f (show ¬ cn (fun e => (μ (q + 3)) e = i) (j + 1) ≠ 0 by rw [cn_s _ g0, b01_f c35, z1]; exact fun z => z rfl)] at K3
          exact K3
        · skip
          refine r_iconst C dX5_missing_38 ?_
          refine r_goto (tgt := 43) C dX5_missing_39 (by decide) ?_
          refine r_istore_n C dX5_missing_43 (by decide) rfl ?_
          refine r_iinc C dX5_missing_44 rfl (by decide) rfl ?_
          refine r_goto (tgt := 16) C dX5_missing_47 (by decide) ?_
          rw [b01_t (show cn (fun e => (μ (q + 3)) e = i) (j + 1) ≠ 0 by rw [cn_s _ g0, b01_t c35, z1]; decide)] at K3
          exact K3
