set_option maxRecDepth 20000 in
set_option maxHeartbeats 2000000 in
theorem kX5_fewest_w {V : Wo} {μ : Mem} {q : Nat} (hM : MoS V q) (hL : LaR μ q) : Con V 0 yX5_fewest cX5_fewest 4 (some .int) [vR q] (μ) (QI V ((μ q 12) - mx (leI (μ (q + 3)) (μ (q + 5)) (μ q 12)) (μ q 12)) (wr μ (q + 5) (leI (μ (q + 3)) (μ (q + 5)) (μ q 12)))) := by
  refine con_of (ls0 := [vR q, vU, vU, vU]) (by decide +kernel) rfl (Nat.le_of_ble_eq_true rfl) (Nat.le_of_ble_eq_true rfl) (fun X hV C hF => ?_)
  subst hV
  have C : Ok X RX5 cX5_fewest 4 0 := C
  obtain ⟨M0, M1, Ms, Mt, Mr, Md, Ml⟩ := id hM
  obtain ⟨L0, L1, L2⟩ := id hL
  have n05 : q ≠ q + 5 := by omega
  have n35 : q + 3 ≠ q + 5 := by omega
  have n45 : q + 4 ≠ q + 5 := by omega
  have n15 : q + 1 ≠ q + 5 := by omega
  refine r_iconst C dX5_fewest_0 ?_
  refine r_istore_n C dX5_fewest_1 (by decide) rfl ?_
  refine r_iconst C dX5_fewest_2 ?_
  refine r_istore_n C dX5_fewest_3 (by decide) rfl ?_
  refine r_eq (μ' := wr μ (q + 5) (leI (μ (q + 3)) (μ (q + 5)) 0)) ?_ (by rw [leI_0, wr_self])
  suffices hQ : ∀ z : AV, RR X (wr μ (q + 5) (leI (μ (q + 3)) (μ (q + 5)) 0)) 4 [vR q, vI (mx (leI (μ (q + 3)) (μ (q + 5)) 0) 0), vI 0, z] [] from hQ vU
  refine loop_up (F := fun k => ∀ z : AV, RR X (wr μ (q + 5) (leI (μ (q + 3)) (μ (q + 5)) k)) 4 [vR q, vI (mx (leI (μ (q + 3)) (μ (q + 5)) k) k), vI k, z] []) (a := 0) (b := (μ q 12)) L0 ?_ ?_
  · intro z
    show RR X _ _ [vR q, vI (mx (leI (μ (q + 3)) (μ (q + 5)) (μ q 12)) (μ q 12)), vI (μ q 12), z] []
    refine r_iload_n C dX5_fewest_4 rfl ?_
    refine r_aload_n C dX5_fewest_5 rfl ?_
    refine gf_X5_33 C M1 dX5_fewest_6 ?_
    rw [wr_n _ _ n05]
    refine r_icmp_ge (tgt := 112) C dX5_fewest_9 (by decide) (by omega) (by omega) (fun c9 => ?_) (fun c9 => absurd c9 (by omega))
    refine r_aload_n C dX5_fewest_112 rfl ?_
    refine gf_X5_33 C M1 dX5_fewest_113 ?_
    refine r_iload_n C dX5_fewest_116 rfl ?_
    rw [wr_n _ _ n05]
    refine r_isub C dX5_fewest_117 ?_
    exact r_iret C hF dX5_fewest_118 rfl rfl
  · intro k h0 h1 K2 z
    show RR X _ _ [vR q, vI (mx (leI (μ (q + 3)) (μ (q + 5)) k) k), vI k, z] []
    have hle := leI_bd (μ (q + 3)) (μ (q + 5)) h0
    have hG : ∀ j, j ≤ k → 0 ≤ mx (fun e => if (μ (q + 3)) e ≤ (μ (q + 3)) k then (leI (μ (q + 3)) (μ (q + 5)) k) e else 0) j ∧ mx (fun e => if (μ (q + 3)) e ≤ (μ (q + 3)) k then (leI (μ (q + 3)) (μ (q + 5)) k) e else 0) j ≤ 21 := fun j hj => ⟨mx_nn _ _, mx_le (by omega) (fun e e0 e1 => by
      have := hle e e0 (by omega)
      show (if (μ (q + 3)) e ≤ (μ (q + 3)) k then (leI (μ (q + 3)) (μ (q + 5)) k) e else 0) ≤ 21
      split <;> omega)⟩
    have hmk : 0 ≤ mx (leI (μ (q + 3)) (μ (q + 5)) k) k ∧ mx (leI (μ (q + 3)) (μ (q + 5)) k) k ≤ 21 := ⟨mx_nn _ _, mx_le (by omega) (fun e e0 e1 => by have := hle e e0 e1; omega)⟩
    refine r_iload_n C dX5_fewest_4 rfl ?_
    refine r_aload_n C dX5_fewest_5 rfl ?_
    refine gf_X5_33 C M1 dX5_fewest_6 ?_
    rw [wr_n _ _ n05]
    refine r_icmp_ge (tgt := 112) C dX5_fewest_9 (by decide) (by omega) (by omega) (fun c9 => absurd c9 (by omega)) (fun c9 => ?_)
    refine r_aload_n C dX5_fewest_12 rfl ?_
    refine gf_X5_22 C M1 dX5_fewest_13 ?_
    refine r_iload_n C dX5_fewest_16 rfl ?_
    refine r_iconst C dX5_fewest_17 ?_
    refine r_iast C Ml (by omega) (by omega) (by omega) dX5_fewest_18 ?_
    refine r_iconst C dX5_fewest_19 ?_
    refine r_istore_n C dX5_fewest_20 (by decide) rfl ?_
    refine r_eq (μ' := wr μ (q + 5) (s1 (leI (μ (q + 3)) (μ (q + 5)) k) k (1 + mx (fun e => if (μ (q + 3)) e ≤ (μ (q + 3)) k then (leI (μ (q + 3)) (μ (q + 5)) k) e else 0) 0))) ?_ (by rw [wr_ww, wr_s, mx_0]; rfl)
    refine loop_up (F := fun e => RR X (wr μ (q + 5) (s1 (leI (μ (q + 3)) (μ (q + 5)) k) k (1 + mx (fun e => if (μ (q + 3)) e ≤ (μ (q + 3)) k then (leI (μ (q + 3)) (μ (q + 5)) k) e else 0) e))) 21 [vR q, vI (mx (leI (μ (q + 3)) (μ (q + 5)) k) k), vI k, vI e] []) (a := 0) (b := k) h0 ?_ ?_
    · show RR X (wr μ (q + 5) (s1 (leI (μ (q + 3)) (μ (q + 5)) k) k (1 + mx (fun e => if (μ (q + 3)) e ≤ (μ (q + 3)) k then (leI (μ (q + 3)) (μ (q + 5)) k) e else 0) k))) _ [vR q, vI (mx (leI (μ (q + 3)) (μ (q + 5)) k) k), vI k, vI k] []
      have hk := hG k (Int.le_refl k)
      have K3 := K2 (vI k)
      rw [mx_leI _ _ h0, leI_s _ _ h0] at K3
      refine r_iload_n C dX5_fewest_21 rfl ?_
      refine r_iload_n C dX5_fewest_22 rfl ?_
      refine r_icmp_ge (tgt := 85) C dX5_fewest_23 (by decide) (by omega) (by omega) (fun c23 => ?_) (fun c23 => absurd c23 (by omega))
      refine r_aload_n C dX5_fewest_85 rfl ?_
      refine gf_X5_22 C M1 dX5_fewest_86 ?_
      refine r_iload_n C dX5_fewest_89 rfl ?_
      refine r_iald C Ml (by omega) (by omega) dX5_fewest_90 ?_
      rw [wr_s, s1_s]
      refine r_iload_n C dX5_fewest_91 rfl ?_
      refine r_icmp_le (tgt := 104) C dX5_fewest_92 (by decide) (by omega) (by omega) (fun c92 => ?_) (fun c92 => ?_)
      · rw [if_neg (by omega)] at K3
        refine r_iload_n C dX5_fewest_104 rfl ?_
        refine r_istore_n C dX5_fewest_105 (by decide) rfl ?_
        refine r_iinc C dX5_fewest_106 rfl (by decide) rfl ?_
        refine r_goto (tgt := 4) C dX5_fewest_109 (by decide) ?_
        exact K3
      · rw [if_pos (by omega)] at K3
        refine r_aload_n C dX5_fewest_95 rfl ?_
        refine gf_X5_22 C M1 dX5_fewest_96 ?_
        refine r_iload_n C dX5_fewest_99 rfl ?_
        refine r_iald C Ml (by omega) (by omega) dX5_fewest_100 ?_
        refine r_goto (tgt := 105) C dX5_fewest_101 (by decide) ?_
        refine r_istore_n C dX5_fewest_105 (by decide) rfl ?_
        refine r_iinc C dX5_fewest_106 rfl (by decide) rfl ?_
        refine r_goto (tgt := 4) C dX5_fewest_109 (by decide) ?_
        simp only [wr_s, s1_s] at *
        exact K3
    · intro e g0 g1 K4
      show RR X (wr μ (q + 5) (s1 (leI (μ (q + 3)) (μ (q + 5)) k) k (1 + mx (fun e => if (μ (q + 3)) e ≤ (μ (q + 3)) k then (leI (μ (q + 3)) (μ (q + 5)) k) e else 0) e))) _ [vR q, vI (mx (leI (μ (q + 3)) (μ (q + 5)) k) k), vI k, vI e] []
      have hge := hG e (by omega)
      have hee := hle e g0 g1
      have he := L2 e g0 (by omega)
      have hek := L2 k h0 h1
      refine r_iload_n C dX5_fewest_21 rfl ?_
      refine r_iload_n C dX5_fewest_22 rfl ?_
      refine r_icmp_ge (tgt := 85) C dX5_fewest_23 (by decide) (by omega) (by omega) (fun c23 => absurd c23 (by omega)) (fun c23 => ?_)
      refine r_aload_n C dX5_fewest_26 rfl ?_
      refine gf_X5_22 C M1 dX5_fewest_27 ?_
      refine r_iload_n C dX5_fewest_30 rfl ?_
      refine r_aload_n C dX5_fewest_31 rfl ?_
      refine gf_X5_16 C M1 dX5_fewest_32 ?_
      refine r_iload_n C dX5_fewest_35 rfl ?_
      refine r_iald C Mr (by omega) (by omega) dX5_fewest_36 ?_
      refine r_aload_n C dX5_fewest_37 rfl ?_
      refine gf_X5_16 C M1 dX5_fewest_38 ?_
      refine r_iload_n C dX5_fewest_41 rfl ?_
      refine r_iald C Mr (by omega) (by omega) dX5_fewest_42 ?_
      rw [wr_n _ _ n35]
      refine r_icmp_gt (tgt := 72) C dX5_fewest_43 (by decide) (by omega) (by omega) (fun c43 => ?_) (fun c43 => ?_)
      · skip
        refine r_aload_n C dX5_fewest_72 rfl ?_
        refine gf_X5_22 C M1 dX5_fewest_73 ?_
        refine r_iload_n C dX5_fewest_76 rfl ?_
        refine r_iald C Ml (by omega) (by omega) dX5_fewest_77 ?_
        simp (disch := omega) only [wr_s, s1_s, s1_n]
        refine r_iast C Ml (by omega) (by omega) (by omega) dX5_fewest_78 ?_
        refine r_iinc C dX5_fewest_79 rfl (by decide) rfl ?_
        refine r_goto (tgt := 21) C dX5_fewest_82 (by decide) ?_
        refine r_eq K4 ?_
        simp only [wr_ww, wr_s, s1_ss]
        rw [mx_s _ g0, if_neg (by omega : ¬ (μ (q + 3)) e ≤ (μ (q + 3)) k), if_neg (by omega)]
      · have _ := c43
        refine r_aload_n C dX5_fewest_46 rfl ?_
        refine gf_X5_22 C M1 dX5_fewest_47 ?_
        refine r_iload_n C dX5_fewest_50 rfl ?_
        refine r_iald C Ml (by omega) (by omega) dX5_fewest_51 ?_
        refine r_aload_n C dX5_fewest_52 rfl ?_
        refine gf_X5_22 C M1 dX5_fewest_53 ?_
        refine r_iload_n C dX5_fewest_56 rfl ?_
        refine r_iald C Ml (by omega) (by omega) dX5_fewest_57 ?_
        simp (disch := omega) only [wr_s, s1_s, s1_n]
        refine r_icmp_lt (tgt := 72) C dX5_fewest_58 (by decide) (by omega) (by omega) (fun c58 => ?_) (fun c58 => ?_)
        · skip
          refine r_aload_n C dX5_fewest_72 rfl ?_
          refine gf_X5_22 C M1 dX5_fewest_73 ?_
          refine r_iload_n C dX5_fewest_76 rfl ?_
          refine r_iald C Ml (by omega) (by omega) dX5_fewest_77 ?_
          simp (disch := omega) only [wr_s, s1_s, s1_n]
          refine r_iast C Ml (by omega) (by omega) (by omega) dX5_fewest_78 ?_
          refine r_iinc C dX5_fewest_79 rfl (by decide) rfl ?_
          refine r_goto (tgt := 21) C dX5_fewest_82 (by decide) ?_
          refine r_eq K4 ?_
          simp only [wr_ww, wr_s, s1_ss]
          rw [mx_s _ g0, if_pos c43, if_neg (by omega)]
        · skip
          refine r_aload_n C dX5_fewest_61 rfl ?_
          refine gf_X5_22 C M1 dX5_fewest_62 ?_
          refine r_iload_n C dX5_fewest_65 rfl ?_
          refine r_iald C Ml (by omega) (by omega) dX5_fewest_66 ?_
          refine r_iconst C dX5_fewest_67 ?_
          refine r_iadd C dX5_fewest_68 ?_
          refine r_goto (tgt := 78) C dX5_fewest_69 (by decide) ?_
          simp (disch := omega) only [wr_s, s1_s, s1_n]
          refine r_iast C Ml (by omega) (by omega) (by omega) dX5_fewest_78 ?_
          refine r_iinc C dX5_fewest_79 rfl (by decide) rfl ?_
          refine r_goto (tgt := 21) C dX5_fewest_82 (by decide) ?_
          refine r_eq K4 ?_
          simp only [wr_ww, wr_s, s1_ss]
          rw [mx_s _ g0, if_pos c43, if_pos (by omega), Int.add_comm]
set_option maxRecDepth 20000 in
set_option maxHeartbeats 2000000 in
theorem kX5_fewestBehind {V : Wo} {μ : Mem} {q : Nat} (hM : MoS V q) {K : Int} (hv : veW K (μ (q + 1))) {p r : Int} (hp : 0 ≤ p) (hp2 : p < (μ (q + 1)) 3) (hr : 0 ≤ r) (hr2 : r < (μ (q + 1)) 3) : Con V 1 yX5_fewestBehind cX5_fewestBehind 4 (some .int) [vR q, vI p, vI r] (μ) (QIr V (fwB (μ (q + 1)) p r) ((MU q μ))) := by
  refine con_of (ls0 := [vR q, vI p, vI r, vU]) (by decide +kernel) rfl (Nat.le_of_ble_eq_true rfl) (Nat.le_of_ble_eq_true rfl) (fun X hV C hF => ?_)
  subst hV
  have C : Ok X RX5 cX5_fewestBehind 4 1 := C
  obtain ⟨M0, M1, Ms, Mt, Mr, Md, Ml⟩ := id hM
  obtain ⟨v0, v1, v2, v3, v4, v5, v6, v7, v8, v9, v10⟩ := id hv
  have hLp := (lay_W (μ := μ) (q := q) (p := p) (by omega) hv).1
  have hvlp : veW K ((lay μ q p ((μ (q + 1)) 3)) (q + 1)) := by rw [lay_1]; exact hv
  have elp : (lay μ q p ((μ (q + 1)) 3)) q 12 = (μ (q + 1)) 3 - 1 := by rw [lay_q12, lc_in hp hp2]
  have elN : ∀ i, 0 ≤ i → i < (μ (q + 1)) 3 - 1 → (lay μ q p ((μ (q + 1)) 3)) (q + 3) i = wN (μ (q + 1)) p i := fun i h0 h1 => lay_wN i h0 (by rw [lc_in hp hp2]; exact h1)
  have elD : ∀ i, 0 ≤ i → i < (μ (q + 1)) 3 - 1 → (lay μ q p ((μ (q + 1)) 3)) (q + 4) i = wD (μ (q + 1)) p i := fun i h0 h1 => lay_wD i h0 (by rw [lc_in hp hp2]; exact h1)
  refine r_aload_n C dX5_fewestBehind_0 rfl ?_
  refine r_iload_n C dX5_fewestBehind_1 rfl ?_
  refine r_runV (fun aH aL aj a1 a2 a3 => run_V C hF.2.2.1 (kX5_laysOut hM hv (by omega) (by omega)) lm_X5_laysOut ml_X5_71 im_X5_laysOut se_X5_laysOut M1 rfl (Nat.le_of_ble_eq_true rfl) dX5_fewestBehind_2 rfl (Nat.le_of_ble_eq_true rfl) a1 a2 a3) ?_
  refine r_aload_n C dX5_fewestBehind_5 rfl ?_
  refine gf_X5_33 C M1 dX5_fewestBehind_6 ?_
  rw [elp]
  refine r_istore_n C dX5_fewestBehind_9 (by decide) rfl ?_
  refine r_eq (μ' := (wr (lay μ q p ((μ (q + 1)) 3)) (q + 3) (shU ((lay μ q p ((μ (q + 1)) 3)) (q + 3)) ((μ (q + 1)) 3 - 1) ((μ (q + 1)) 3 - 1)))) ?_ (by rw [shU_n, wr_self])
  refine loop_dn (F := fun k => RR X (wr (lay μ q p ((μ (q + 1)) 3)) (q + 3) (shU ((lay μ q p ((μ (q + 1)) 3)) (q + 3)) k ((μ (q + 1)) 3 - 1))) 10 [vR q, vI p, vI r, vI k] []) (a := r) (b := (μ (q + 1)) 3 - 1) (by omega) ?_ ?_
  · show RR X _ _ [vR q, vI p, vI r, vI r] []
    refine r_iload_n C dX5_fewestBehind_10 rfl ?_
    refine r_iload_n C dX5_fewestBehind_11 rfl ?_
    refine r_icmp_le (tgt := 35) C dX5_fewestBehind_12 (by decide) (by omega) (by omega) (fun c12 => ?_) (fun c12 => absurd c12 (by omega))
    refine r_aload_n C dX5_fewestBehind_35 rfl ?_
    refine gf_X5_16 C M1 dX5_fewestBehind_36 ?_
    refine r_iload_n C dX5_fewestBehind_39 rfl ?_
    refine r_aload_n C dX5_fewestBehind_40 rfl ?_
    refine gf_X5_7 C M1 dX5_fewestBehind_41 ?_
    refine r_bipush C dX5_fewestBehind_44 rfl ?_
    refine r_iload_n C dX5_fewestBehind_46 rfl ?_
    refine r_iadd C dX5_fewestBehind_47 ?_
    refine r_iald C Ms (by omega) (by omega) dX5_fewestBehind_48 ?_
    simp (disch := omega) only [wr_n, lay_1]
    refine r_iast C Mr (by omega) (by omega) (by omega) dX5_fewestBehind_49 ?_
    refine r_aload_n C dX5_fewestBehind_50 rfl ?_
    refine r_dup C dX5_fewestBehind_51 rfl ?_
    refine gf_X5_33 C M1 dX5_fewestBehind_52 ?_
    refine r_iconst C dX5_fewestBehind_55 ?_
    refine r_iadd C dX5_fewestBehind_56 ?_
    simp (disch := omega) only [wr_n]
    rw [elp]
    refine pf_X5_33 C M1 M0 dX5_fewestBehind_57 ?_
    refine r_eq (μ' := fbE μ q p r) ?_ (by unfold fbE insR; rw [wr_ww, wr_s, show (μ (q + 1)) 3 - 1 + 1 = (μ (q + 1)) 3 by omega, wr_n (lay μ q p ((μ (q + 1)) 3)) _ (show q ≠ q + 3 by omega)])
    refine r_aload_n C dX5_fewestBehind_60 rfl ?_
    refine r_runI (fun aH aL aj a1 a2 a3 => run_V C hF.2.2.1 (kX5_fewest_w hM (fbE_L hv hp hp2 hr hr2)) lm_X5_fewest ml_X5_174 im_X5_fewest se_X5_fewest M1 rfl (Nat.le_of_ble_eq_true rfl) dX5_fewestBehind_61 rfl (Nat.le_of_ble_eq_true rfl) a1 a2 a3) ?_
    exact r_iretr C hF dX5_fewestBehind_64 (by
          unfold fwB
          rw [fbE_q, lis_e v4.1 (fbE_N hp hp2 hr hr2)]) (MU_tr (fbE_U ..) (MU_5 ..))
  · intro k h0 h1 K2
    show RR X _ _ [vR q, vI p, vI r, vI k] []
    refine r_iload_n C dX5_fewestBehind_10 rfl ?_
    refine r_iload_n C dX5_fewestBehind_11 rfl ?_
    refine r_icmp_le (tgt := 35) C dX5_fewestBehind_12 (by decide) (by omega) (by omega) (fun c12 => absurd c12 (by omega)) (fun c12 => ?_)
    refine r_aload_n C dX5_fewestBehind_15 rfl ?_
    refine gf_X5_16 C M1 dX5_fewestBehind_16 ?_
    refine r_iload_n C dX5_fewestBehind_19 rfl ?_
    refine r_aload_n C dX5_fewestBehind_20 rfl ?_
    refine gf_X5_16 C M1 dX5_fewestBehind_21 ?_
    refine r_iload_n C dX5_fewestBehind_24 rfl ?_
    refine r_iconst C dX5_fewestBehind_25 ?_
    refine r_isub C dX5_fewestBehind_26 ?_
    refine r_iald C Mr (by omega) (by omega) dX5_fewestBehind_27 ?_
    refine r_iast C Mr (by omega) (by omega) (by omega) dX5_fewestBehind_28 ?_
    refine r_iinc C dX5_fewestBehind_29 rfl (by decide) rfl ?_
    refine r_goto (tgt := 10) C dX5_fewestBehind_32 (by decide) ?_
    refine r_eq K2 ?_
    simp only [wr_s, wr_ww]
    rw [shU_s _ h1]
set_option maxRecDepth 20000 in
set_option maxHeartbeats 2000000 in
theorem kX5_moveNext {V : Wo} {μ : Mem} {q : Nat} (hM : MoS V q) {K : Int} (hv : veW K (μ (q + 1))) : Con V 2 yX5_moveNext cX5_moveNext 4 (some .int) [vR q] (μ) (QIr V (nmT (μ (q + 1))) ((MU q μ))) := by
  refine con_of (ls0 := [vR q, vU, vU, vU]) (by decide +kernel) rfl (Nat.le_of_ble_eq_true rfl) (Nat.le_of_ble_eq_true rfl) (fun X hV C hF => ?_)
  subst hV
  have C : Ok X RX5 cX5_moveNext 4 2 := C
  obtain ⟨M0, M1, Ms, Mt, Mr, Md, Ml⟩ := id hM
  obtain ⟨v0, v1, v2, v3, v4, v5, v6, v7, v8, v9, v10⟩ := id hv
  have hL := (lay_W (μ := μ) (q := q) (p := -1) (by omega) hv).1
  have hvl : veW K ((lay μ q (-1) ((μ (q + 1)) 3)) (q + 1)) := by rw [lay_1]; exact hv
  have el : (lay μ q (-1) ((μ (q + 1)) 3)) q 12 = (μ (q + 1)) 3 := by rw [lay_q12, lc_m1]
  refine r_aload_n C dX5_moveNext_0 rfl ?_
  refine r_iconst C dX5_moveNext_1 ?_
  refine r_runV (fun aH aL aj a1 a2 a3 => run_V C hF.2.2.1 (kX5_laysOut hM hv (by omega) (by omega)) lm_X5_laysOut ml_X5_71 im_X5_laysOut se_X5_laysOut M1 rfl (Nat.le_of_ble_eq_true rfl) dX5_moveNext_2 rfl (Nat.le_of_ble_eq_true rfl) a1 a2 a3) ?_
  refine r_aload_n C dX5_moveNext_5 rfl ?_
  refine r_runI (fun aH aL aj a1 a2 a3 => run_V C hF.2.2.1 (kX5_fewest hM hL) lm_X5_fewest ml_X5_174 im_X5_fewest se_X5_fewest M1 rfl (Nat.le_of_ble_eq_true rfl) dX5_moveNext_6 rfl (Nat.le_of_ble_eq_true rfl) a1 a2 a3) ?_
  rw [el, lis_e v4.1 lay_N]
  refine r_istore_n C dX5_moveNext_9 (by decide) rfl ?_
  refine r_aload_n C dX5_moveNext_10 rfl ?_
  refine gf_X5_7 C M1 dX5_moveNext_11 ?_
  refine r_iconst C dX5_moveNext_14 ?_
  refine r_iald C Ms (by omega) (by omega) dX5_moveNext_15 ?_
  rw [wr_n _ _ (show q + 1 ≠ q + 5 by omega), lay_1]
  refine r_istore_n C dX5_moveNext_16 (by decide) rfl ?_
  refine r_iconst C dX5_moveNext_17 ?_
  refine r_istore_n C dX5_moveNext_18 (by decide) rfl ?_
  have U0 : MU q μ (wr (lay μ q (-1) ((μ (q + 1)) 3)) (q + 5) (leI ((lay μ q (-1) ((μ (q + 1)) 3)) (q + 3)) ((lay μ q (-1) ((μ (q + 1)) 3)) (q + 5)) ((μ (q + 1)) 3))) := MU_tr (MU_lay ..) (MU_5 ..)
  have U1 : fs (fun k => nmP (μ (q + 1)) k) 0 ((μ (q + 1)) 3 * (μ (q + 1)) 3) = fs (fun k => nmP (μ (q + 1)) k) 0 ((μ (q + 1)) 3 * (μ (q + 1)) 3) := rfl
  revert U0 U1
  generalize wr (lay μ q (-1) ((μ (q + 1)) 3)) (q + 5) (leI ((lay μ q (-1) ((μ (q + 1)) 3)) (q + 3)) ((lay μ q (-1) ((μ (q + 1)) 3)) (q + 5)) ((μ (q + 1)) 3)) = ν
  revert ν
  have hsq := sq_bd v4.1 v4.2
  have hlb := lis_bd (vN (μ (q + 1))) v4.1
  refine loop_up (F := fun k => ∀ ν : Mem, MU q μ ν → fs (fun k => nmP (μ (q + 1)) k) 0 ((μ (q + 1)) 3 * (μ (q + 1)) 3) = fs (fun k => nmP (μ (q + 1)) k) k ((μ (q + 1)) 3 * (μ (q + 1)) 3) → RR X ν 19 [vR q, vI ((μ (q + 1)) 3 - lis (vN (μ (q + 1))) ((μ (q + 1)) 3)), vI ((μ (q + 1)) 3), vI k] []) (a := 0) (b := ((μ (q + 1)) 3 * (μ (q + 1)) 3)) (by omega) ?_ ?_
  · intro ν N hfs
    show RR X _ _ [vR q, vI ((μ (q + 1)) 3 - lis (vN (μ (q + 1))) ((μ (q + 1)) 3)), vI ((μ (q + 1)) 3), vI ((μ (q + 1)) 3 * (μ (q + 1)) 3)] []
    refine r_iload_n C dX5_moveNext_19 rfl ?_
    refine r_iload_n C dX5_moveNext_20 rfl ?_
    refine r_iload_n C dX5_moveNext_21 rfl ?_
    refine r_imul C dX5_moveNext_22 ?_
    refine r_icmp_ge (tgt := 63) C dX5_moveNext_23 (by decide) (by omega) (by omega) (fun c23 => ?_) (fun c23 => absurd c23 (by omega))
    refine r_iconst C dX5_moveNext_63 ?_
    exact r_iretr C hF dX5_moveNext_64 (by rw [nmT_of hfs, fs_e _ (Int.le_refl _), if_pos rfl]) N
  · intro k h0 h1 K2 ν N hfs
    show RR X _ _ [vR q, vI ((μ (q + 1)) 3 - lis (vN (μ (q + 1))) ((μ (q + 1)) 3)), vI ((μ (q + 1)) 3), vI k] []
    have hpos := sq_pos h0 v4.1 h1
    have dm := dm_bd h0 hpos h1
    have hkn : fs (fun k => nmP (μ (q + 1)) k) k ((μ (q + 1)) 3 * (μ (q + 1)) 3) = -1 ∨ 0 < ((μ (q + 1)) 3 - lis (vN (μ (q + 1))) ((μ (q + 1)) 3)) := by
      rcases fs_r (fun k => nmP (μ (q + 1)) k) k ((μ (q + 1)) 3 * (μ (q + 1)) 3) with ⟨g, -⟩ | ⟨g1, g2, g3, g4⟩
      · exact Or.inl g
      · exact Or.inr g3.1
    have hfw : 0 ≤ fwB (μ (q + 1)) (k / (μ (q + 1)) 3) (k % (μ (q + 1)) 3) ∧ fwB (μ (q + 1)) (k / (μ (q + 1)) 3) (k % (μ (q + 1)) 3) ≤ (μ (q + 1)) 3 := fw_zero v4.1
    refine r_iload_n C dX5_moveNext_19 rfl ?_
    refine r_iload_n C dX5_moveNext_20 rfl ?_
    refine r_iload_n C dX5_moveNext_21 rfl ?_
    refine r_imul C dX5_moveNext_22 ?_
    refine r_icmp_ge (tgt := 63) C dX5_moveNext_23 (by decide) (by omega) (by omega) (fun c23 => absurd c23 (by omega)) (fun c23 => ?_)
    refine r_iload_n C dX5_moveNext_26 rfl ?_
    refine r_if_le (tgt := 63) C dX5_moveNext_27 (by decide) (by omega) (fun c27 => ?_) (fun c27 => ?_)
    · skip
      refine r_iconst C dX5_moveNext_63 ?_
      exact r_iretr C hF dX5_moveNext_64 (by rw [nmT_of hfs, hkn.resolve_right (by omega), if_pos rfl]) N
    · have _ := c27
      refine r_aload_n C dX5_moveNext_30 rfl ?_
      refine r_iload_n C dX5_moveNext_31 rfl ?_
      refine r_iload_n C dX5_moveNext_32 rfl ?_
      refine r_idiv C dX5_moveNext_33 (by omega) (by omega) ?_
      refine r_iload_n C dX5_moveNext_34 rfl ?_
      refine r_iload_n C dX5_moveNext_35 rfl ?_
      refine r_irem C dX5_moveNext_36 (by omega) (by omega) ?_
      refine r_runIr (fun aH aL aj a1 a2 a3 => run_V C hF.2.2.1 (kX5_fewestBehind hM (K := K) (by rw [N.1.1]; exact hv) (p := k / (μ (q + 1)) 3) (r := k % (μ (q + 1)) 3) dm.1.1 (by rw [N.1.1]; exact dm.1.2) dm.2.1 (by rw [N.1.1]; exact dm.2.2)) lm_X5_fewestBehind ml_X5_192 im_X5_fewestBehind se_X5_fewestBehind M1 rfl (Nat.le_of_ble_eq_true rfl) dX5_moveNext_37 rfl (Nat.le_of_ble_eq_true rfl) a1 a2 a3) (fun ρ N2 => ?_)
      rw [N.1.1]
      refine r_iload_n C dX5_moveNext_40 rfl ?_
      refine r_iconst C dX5_moveNext_41 ?_
      refine r_isub C dX5_moveNext_42 ?_
      refine r_icmp_ne (tgt := 57) C dX5_moveNext_43 (by decide) (by omega) (by omega) (fun c43 => ?_) (fun c43 => ?_)
      · skip
        refine r_iinc C dX5_moveNext_57 rfl (by decide) rfl ?_
        refine r_goto (tgt := 19) C dX5_moveNext_60 (by decide) ?_
        exact K2 ρ (MU_tr N N2) (hfs.trans (fs_f (fun k => nmP (μ (q + 1)) k) h1 (fun z => c43 z.2)))
      · skip
        refine r_bipush C dX5_moveNext_46 rfl ?_
        refine r_iload_n C dX5_moveNext_48 rfl ?_
        refine r_iload_n C dX5_moveNext_49 rfl ?_
        refine r_idiv C dX5_moveNext_50 (by omega) (by omega) ?_
        refine r_imul C dX5_moveNext_51 ?_
        refine r_iload_n C dX5_moveNext_52 rfl ?_
        refine r_iload_n C dX5_moveNext_53 rfl ?_
        refine r_irem C dX5_moveNext_54 (by omega) (by omega) ?_
        refine r_iadd C dX5_moveNext_55 ?_
        exact r_iretr C hF dX5_moveNext_56 (by rw [nmT_of (hfs.trans (fs_t (fun k => nmP (μ (q + 1)) k) h1 ⟨by omega, c43⟩)), if_neg (by omega)]) (MU_tr N N2)
set_option maxRecDepth 20000 in
set_option maxHeartbeats 2000000 in
theorem kX5_nextMove {V : Wo} {μ : Mem} {q : Nat} (hM : MoS V q) {K : Int} (hv : veW K (μ (q + 1))) : Con V 3 yX5_nextMove cX5_nextMove 1 (some .int) [vR q] (μ) (QIr V (nmT (μ (q + 1))) ((fun ν => MR q μ ν 0 (μ q 2) (μ q 3) (μ q 5) (μ (q + 1)) (μ (q + 2))))) := by
  refine con_of (ls0 := [vR q]) (by decide +kernel) rfl (Nat.le_of_ble_eq_true rfl) (Nat.le_of_ble_eq_true rfl) (fun X hV C hF => ?_)
  subst hV
  have C : Ok X RX5 cX5_nextMove 1 3 := C
  obtain ⟨M0, M1, Ms, Mt, Mr, Md, Ml⟩ := id hM
  obtain ⟨v0, v1, v2, v3, v4, v5, v6, v7, v8, v9, v10⟩ := id hv
  refine r_aload_n C dX5_nextMove_0 rfl ?_
  refine r_iconst C dX5_nextMove_1 ?_
  refine pf_X5_25 C M1 M0 dX5_nextMove_2 ?_
  refine r_aload_n C dX5_nextMove_5 rfl ?_
  refine r_runIr (fun aH aL aj a1 a2 a3 => run_V C hF.2.2.1 (kX5_moveNext hM (K := K) (by rw [wr_n _ _ (by omega)]; exact hv)) lm_X5_moveNext ml_X5_195 im_X5_moveNext se_X5_moveNext M1 rfl (Nat.le_of_ble_eq_true rfl) dX5_nextMove_6 rfl (Nat.le_of_ble_eq_true rfl) a1 a2 a3) (fun ν N => ?_)
  rw [wr_n μ _ (show q + 1 ≠ q by omega)]
  exact r_iretr C hF dX5_nextMove_9 rfl (MR_U (MR_th μ q 0) N)
set_option maxRecDepth 20000 in
set_option maxHeartbeats 2000000 in
theorem kX5_fitting {V : Wo} {μ : Mem} {q : Nat} (hM : MoS V q) {K : Int} (hv : veW K (μ (q + 1))) : Con V 2 yX5_fitting cX5_fitting 2 (some .int) [vR q] (μ) (QIr V (fiT (μ (q + 1))) ((MU q μ))) := by
  refine con_of (ls0 := [vR q, vU]) (by decide +kernel) rfl (Nat.le_of_ble_eq_true rfl) (Nat.le_of_ble_eq_true rfl) (fun X hV C hF => ?_)
  subst hV
  have C : Ok X RX5 cX5_fitting 2 2 := C
  obtain ⟨M0, M1, Ms, Mt, Mr, Md, Ml⟩ := id hM
  obtain ⟨v0, v1, v2, v3, v4, v5, v6, v7, v8, v9, v10⟩ := id hv
  have hL := (lay_W (μ := μ) (q := q) (p := -1) (by omega) hv).1
  have hvl : veW K ((lay μ q (-1) ((μ (q + 1)) 3)) (q + 1)) := by rw [lay_1]; exact hv
  have el : (lay μ q (-1) ((μ (q + 1)) 3)) q 12 = (μ (q + 1)) 3 := by rw [lay_q12, lc_m1]
  refine r_aload_n C dX5_fitting_0 rfl ?_
  refine r_iconst C dX5_fitting_1 ?_
  refine r_runV (fun aH aL aj a1 a2 a3 => run_V C hF.2.2.1 (kX5_laysOut hM hv (by omega) (by omega)) lm_X5_laysOut ml_X5_71 im_X5_laysOut se_X5_laysOut M1 rfl (Nat.le_of_ble_eq_true rfl) dX5_fitting_2 rfl (Nat.le_of_ble_eq_true rfl) a1 a2 a3) ?_
  refine r_aload_n C dX5_fitting_5 rfl ?_
  refine r_dup C dX5_fitting_6 rfl ?_
  refine gf_X5_33 C M1 dX5_fitting_7 ?_
  rw [el]
  refine r_iconst C dX5_fitting_10 ?_
  refine r_iadd C dX5_fitting_11 ?_
  refine pf_X5_33 C M1 M0 dX5_fitting_12 ?_
  refine r_eq (μ' := fiM μ q ((lay μ q (-1) ((μ (q + 1)) 3)) (q + 3)) ((lay μ q (-1) ((μ (q + 1)) 3)) (q + 4))) ?_ (fiM_b ..)
  have U0 : okR μ q ((lay μ q (-1) ((μ (q + 1)) 3)) (q + 3)) ((lay μ q (-1) ((μ (q + 1)) 3)) (q + 4)) := ⟨lay_N, lay_D⟩
  have U1 : fs (fun x => (μ (q + 1)) 3 < 20 ∧ 0 < (μ (q + 1)) (6 + x) ∧ x % (μ (q + 1)) 1 = due ((μ (q + 1)) 1) (vN (μ (q + 1))) (vD (μ (q + 1))) ((μ (q + 1)) 3)) 0 16 = fs (fun x => (μ (q + 1)) 3 < 20 ∧ 0 < (μ (q + 1)) (6 + x) ∧ x % (μ (q + 1)) 1 = due ((μ (q + 1)) 1) (vN (μ (q + 1))) (vD (μ (q + 1))) ((μ (q + 1)) 3)) 0 16 := rfl
  revert U0 U1
  generalize ((lay μ q (-1) ((μ (q + 1)) 3)) (q + 3)) = f
  generalize ((lay μ q (-1) ((μ (q + 1)) 3)) (q + 4)) = g
  intro U0 U1
  · skip
    refine r_iconst C dX5_fitting_15 ?_
    refine r_istore_n C dX5_fitting_16 (by decide) rfl ?_
    revert U0 U1
    revert f g
    refine loop_up (F := fun x => ∀ f g : Int → Int, okR μ q f g → fs (fun x => (μ (q + 1)) 3 < 20 ∧ 0 < (μ (q + 1)) (6 + x) ∧ x % (μ (q + 1)) 1 = due ((μ (q + 1)) 1) (vN (μ (q + 1))) (vD (μ (q + 1))) ((μ (q + 1)) 3)) 0 16 = fs (fun x => (μ (q + 1)) 3 < 20 ∧ 0 < (μ (q + 1)) (6 + x) ∧ x % (μ (q + 1)) 1 = due ((μ (q + 1)) 1) (vN (μ (q + 1))) (vD (μ (q + 1))) ((μ (q + 1)) 3)) x 16 → RR X (fiM μ q f g) 17 [vR q, vI x] []) (a := 0) (b := 16) (by omega) ?_ ?_
    · intro f g N hfs
      show RR X _ _ [vR q, vI 16] []
      refine r_iload_n C dX5_fitting_17 rfl ?_
      refine r_bipush C dX5_fitting_18 rfl ?_
      refine r_icmp_ge (tgt := 91) C dX5_fitting_20 (by decide) (by omega) (by omega) (fun c20 => ?_) (fun c20 => absurd c20 (by omega))
      refine r_iconst C dX5_fitting_91 ?_
      exact r_iretr C hF dX5_fitting_92 (by unfold fiT; rw [hfs, fs_e _ (by omega)]) (fiM_U ..)
    · intro x h0 h1 K2 f g N hfs
      show RR X _ _ [vR q, vI x] []
      have h7 := v7 x h0 (by omega)
      have hkn : fs (fun x => (μ (q + 1)) 3 < 20 ∧ 0 < (μ (q + 1)) (6 + x) ∧ x % (μ (q + 1)) 1 = due ((μ (q + 1)) 1) (vN (μ (q + 1))) (vD (μ (q + 1))) ((μ (q + 1)) 3)) x 16 = -1 ∨ (μ (q + 1)) 3 < 20 := by
        rcases fs_r (fun x => (μ (q + 1)) 3 < 20 ∧ 0 < (μ (q + 1)) (6 + x) ∧ x % (μ (q + 1)) 1 = due ((μ (q + 1)) 1) (vN (μ (q + 1))) (vD (μ (q + 1))) ((μ (q + 1)) 3)) x 16 with ⟨g, -⟩ | ⟨g1, g2, g3, g4⟩
        · exact Or.inl g
        · exact Or.inr g3.1
      refine r_iload_n C dX5_fitting_17 rfl ?_
      refine r_bipush C dX5_fitting_18 rfl ?_
      refine r_icmp_ge (tgt := 91) C dX5_fitting_20 (by decide) (by omega) (by omega) (fun c20 => absurd c20 (by omega)) (fun c20 => ?_)
      refine r_aload_n C dX5_fitting_23 rfl ?_
      refine gf_X5_7 C M1 dX5_fitting_24 ?_
      refine r_iconst C dX5_fitting_27 ?_
      refine r_iald C Ms (by omega) (by omega) dX5_fitting_28 ?_
      refine r_bipush C dX5_fitting_29 rfl ?_
      rw [fiM_1]
      refine r_icmp_ge (tgt := 91) C dX5_fitting_31 (by decide) (by omega) (by omega) (fun c31 => ?_) (fun c31 => ?_)
      · skip
        refine r_iconst C dX5_fitting_91 ?_
        exact r_iretr C hF dX5_fitting_92 (by unfold fiT; rw [hfs]; exact (hkn.resolve_right (by omega)).symm) (fiM_U ..)
      · have _ := c31
        refine r_aload_n C dX5_fitting_34 rfl ?_
        refine gf_X5_16 C M1 dX5_fitting_35 ?_
        refine r_aload_n C dX5_fitting_38 rfl ?_
        refine gf_X5_33 C M1 dX5_fitting_39 ?_
        refine r_iconst C dX5_fitting_42 ?_
        refine r_isub C dX5_fitting_43 ?_
        refine r_iload_n C dX5_fitting_44 rfl ?_
        rw [fiM_q, show (μ (q + 1)) 3 + 1 - 1 = (μ (q + 1)) 3 by omega]
        refine r_iast C Mr (by omega) (by omega) (by omega) dX5_fitting_45 ?_
        refine r_aload_n C dX5_fitting_46 rfl ?_
        refine gf_X5_19 C M1 dX5_fitting_47 ?_
        refine r_aload_n C dX5_fitting_50 rfl ?_
        refine gf_X5_33 C M1 dX5_fitting_51 ?_
        refine r_iconst C dX5_fitting_54 ?_
        refine r_isub C dX5_fitting_55 ?_
        refine r_iconst C dX5_fitting_56 ?_
        rw [wr_n _ _ (show q ≠ q + 3 by omega), fiM_q, show (μ (q + 1)) 3 + 1 - 1 = (μ (q + 1)) 3 by omega]
        refine r_iast C Md (by omega) (by omega) (by omega) dX5_fitting_57 ?_
        refine r_eq (μ' := fiM μ q (s1 f ((μ (q + 1)) 3) x) (s1 g ((μ (q + 1)) 3) 0)) ?_ (by rw [fiM_3, wr_n _ _ (show q + 4 ≠ q + 3 by omega), fiM_4, fiM_w])
        refine r_aload_n C dX5_fitting_58 rfl ?_
        refine gf_X5_7 C M1 dX5_fitting_59 ?_
        refine r_bipush C dX5_fitting_62 rfl ?_
        refine r_iload_n C dX5_fitting_64 rfl ?_
        refine r_iadd C dX5_fitting_65 ?_
        refine r_iald C Ms (by omega) (by omega) dX5_fitting_66 ?_
        rw [fiM_1]
        refine r_if_le (tgt := 85) C dX5_fitting_67 (by decide) (by omega) (fun c67 => ?_) (fun c67 => ?_)
        · skip
          refine r_iinc C dX5_fitting_85 rfl (by decide) rfl ?_
          refine r_goto (tgt := 17) C dX5_fitting_88 (by decide) ?_
          exact K2 _ _ (okR_s N x 0) (hfs.trans (fs_f (fun x => (μ (q + 1)) 3 < 20 ∧ 0 < (μ (q + 1)) (6 + x) ∧ x % (μ (q + 1)) 1 = due ((μ (q + 1)) 1) (vN (μ (q + 1))) (vD (μ (q + 1))) ((μ (q + 1)) 3)) h1 (fun z => absurd z.2.1 (by omega))))
        · have _ := c67
          refine r_aload_n C dX5_fitting_70 rfl ?_
          refine r_aload_n C dX5_fitting_71 rfl ?_
          refine gf_X5_33 C M1 dX5_fitting_72 ?_
          refine r_iconst C dX5_fitting_75 ?_
          refine r_isub C dX5_fitting_76 ?_
          rw [fiM_q, show (μ (q + 1)) 3 + 1 - 1 = (μ (q + 1)) 3 by omega]
          refine r_runI (fun aH aL aj a1 a2 a3 => run_V C hF.2.2.1 (kX5_breaksAt hM (K := K) (by rw [fiM_1]; exact hv) (fiM_L hv N ⟨h0, h1⟩) (k := (μ (q + 1)) 3) v4.1 (by rw [fiM_q]; omega)) lm_X5_breaksAt ml_X5_40 im_X5_breaksAt se_X5_breaksAt M1 rfl (Nat.le_of_ble_eq_true rfl) dX5_fitting_77 rfl (Nat.le_of_ble_eq_true rfl) a1 a2 a3) ?_
          rw [fiM_1, fiM_3, fiM_4, b01_i (fi_brk N v4.1 x)]
          refine r_if_ne (tgt := 85) C dX5_fitting_80 (by decide) (by have := b01_r (¬ x % (μ (q + 1)) 1 = due ((μ (q + 1)) 1) (vN (μ (q + 1))) (vD (μ (q + 1))) ((μ (q + 1)) 3)); omega) (fun c80 => ?_) (fun c80 => ?_)
          · skip
            refine r_iinc C dX5_fitting_85 rfl (by decide) rfl ?_
            refine r_goto (tgt := 17) C dX5_fitting_88 (by decide) ?_
            exact K2 _ _ (okR_s N x 0) (hfs.trans (fs_f (fun x => (μ (q + 1)) 3 < 20 ∧ 0 < (μ (q + 1)) (6 + x) ∧ x % (μ (q + 1)) 1 = due ((μ (q + 1)) 1) (vN (μ (q + 1))) (vD (μ (q + 1))) ((μ (q + 1)) 3)) h1 (fun z => by rw [b01_f (fun y => y z.2.2)] at c80; exact c80 rfl)))
          · have hdue : x % (μ (q + 1)) 1 = due ((μ (q + 1)) 1) (vN (μ (q + 1))) (vD (μ (q + 1))) ((μ (q + 1)) 3) := Decidable.byContradiction (fun z => by rw [b01_t z] at c80; omega)
            refine r_iload_n C dX5_fitting_83 rfl ?_
            exact r_iretr C hF dX5_fitting_84 (by unfold fiT; rw [hfs, fs_t (fun x => (μ (q + 1)) 3 < 20 ∧ 0 < (μ (q + 1)) (6 + x) ∧ x % (μ (q + 1)) 1 = due ((μ (q + 1)) 1) (vN (μ (q + 1))) (vD (μ (q + 1))) ((μ (q + 1)) 3)) h1 ⟨by omega, by omega, hdue⟩]) (fiM_U ..)
set_option maxRecDepth 20000 in
set_option maxHeartbeats 2000000 in
theorem kX5_fits {V : Wo} {μ : Mem} {q : Nat} (hM : MoS V q) {K : Int} (hv : veW K (μ (q + 1))) : Con V 3 yX5_fits cX5_fits 1 (some .int) [vR q] (μ) (QIr V (fiT (μ (q + 1))) ((fun ν => MR q μ ν 0 (μ q 2) (μ q 3) (μ q 5) (μ (q + 1)) (μ (q + 2))))) := by
  refine con_of (ls0 := [vR q]) (by decide +kernel) rfl (Nat.le_of_ble_eq_true rfl) (Nat.le_of_ble_eq_true rfl) (fun X hV C hF => ?_)
  subst hV
  have C : Ok X RX5 cX5_fits 1 3 := C
  obtain ⟨M0, M1, Ms, Mt, Mr, Md, Ml⟩ := id hM
  obtain ⟨v0, v1, v2, v3, v4, v5, v6, v7, v8, v9, v10⟩ := id hv
  refine r_aload_n C dX5_fits_0 rfl ?_
  refine r_iconst C dX5_fits_1 ?_
  refine pf_X5_25 C M1 M0 dX5_fits_2 ?_
  refine r_aload_n C dX5_fits_5 rfl ?_
  refine r_runIr (fun aH aL aj a1 a2 a3 => run_V C hF.2.2.1 (kX5_fitting hM (K := K) (by rw [wr_n _ _ (by omega)]; exact hv)) lm_X5_fitting ml_X5_201 im_X5_fitting se_X5_fitting M1 rfl (Nat.le_of_ble_eq_true rfl) dX5_fits_6 rfl (Nat.le_of_ble_eq_true rfl) a1 a2 a3) (fun ν N => ?_)
  rw [wr_n μ _ (show q + 1 ≠ q by omega)]
  exact r_iretr C hF dX5_fits_9 rfl (MR_U (MR_th μ q 0) N)
set_option maxRecDepth 20000 in
set_option maxHeartbeats 2000000 in
theorem kX5_possible {V : Wo} {μ : Mem} {q : Nat} (hM : MoS V q) {K : Int} (hv : veW K (μ (q + 1))) : Con V 1 yX5_possible cX5_possible 4 (some .int) [vR q] (μ) (QI V (poT (μ (q + 1))) (μ)) := by
  refine con_of (ls0 := [vR q, vU, vU, vU]) (by decide +kernel) rfl (Nat.le_of_ble_eq_true rfl) (Nat.le_of_ble_eq_true rfl) (fun X hV C hF => ?_)
  subst hV
  have C : Ok X RX5 cX5_possible 4 1 := C
  obtain ⟨M0, M1, Ms, Mt, Mr, Md, Ml⟩ := id hM
  obtain ⟨v0, v1, v2, v3, v4, v5, v6, v7, v8, v9, v10⟩ := id hv
  refine r_aload_n C dX5_possible_0 rfl ?_
  refine gf_X5_7 C M1 dX5_possible_1 ?_
  refine r_bipush C dX5_possible_4 rfl ?_
  refine r_iald C Ms (by omega) (by omega) dX5_possible_6 ?_
  refine r_aload_n C dX5_possible_7 rfl ?_
  refine r_iconst C dX5_possible_8 ?_
  refine r_runI (fun aH aL aj a1 a2 a3 => run_V C hF.2.2.1 (kX5_inBlock hM hv (x := 0) (by omega)) lm_X5_inBlock ml_X5_165 im_X5_inBlock se_X5_inBlock M1 rfl (Nat.le_of_ble_eq_true rfl) dX5_possible_9 rfl (Nat.le_of_ble_eq_true rfl) a1 a2 a3) ?_
  refine r_iadd C dX5_possible_12 ?_
  refine r_istore_n C dX5_possible_13 (by decide) rfl ?_
  refine r_iconst C dX5_possible_14 ?_
  refine r_istore_n C dX5_possible_15 (by decide) rfl ?_
  have hpf : ∀ k, 0 ≤ k → k < 16 → 0 ≤ poF (μ (q + 1)) k ∧ poF (μ (q + 1)) k ≤ K + 20 := fun k k0 k1 => by
    have := v7 k k0 (by omega)
    have := cnX_bd hv k
    unfold poF
    omega
  suffices hQ : ∀ z : AV, RR X μ 16 [vR q, vI (mn (poF (μ (q + 1))) (1 - 1)), vI 1, z] [] from hQ vU
  refine loop_up (F := fun k => ∀ z : AV, RR X μ 16 [vR q, vI (mn (poF (μ (q + 1))) (k - 1)), vI k, z] []) (a := 1) (b := (μ (q + 1)) 0) v1.1 ?_ ?_
  · intro z
    show RR X _ _ [vR q, vI (mn (poF (μ (q + 1))) ((μ (q + 1)) 0 - 1)), vI ((μ (q + 1)) 0), z] []
    refine r_iload_n C dX5_possible_16 rfl ?_
    refine r_aload_n C dX5_possible_17 rfl ?_
    refine gf_X5_7 C M1 dX5_possible_18 ?_
    refine r_iconst C dX5_possible_21 ?_
    refine r_iald C Ms (by omega) (by omega) dX5_possible_22 ?_
    refine r_icmp_ge (tgt := 59) C dX5_possible_23 (by decide) (by omega) (by omega) (fun c23 => ?_) (fun c23 => absurd c23 (by omega))
    refine r_iload_n C dX5_possible_59 rfl ?_
    exact r_iret C hF dX5_possible_60 rfl rfl
  · intro k h0 h1 K2 z
    show RR X _ _ [vR q, vI (mn (poF (μ (q + 1))) (k - 1)), vI k, z] []
    have hm := mn_bd (f := poF (μ (q + 1))) (n := k - 1) (c := K + 20) (by omega) (fun j j0 j1 => hpf j j0 (by omega))
    have hk := hpf k (by omega) (by omega)
    have he : (μ (q + 1)) (6 + k) + cnX (μ (q + 1)) k = poF (μ (q + 1)) k := rfl
    have e : mn (poF (μ (q + 1))) (k + 1 - 1) = if poF (μ (q + 1)) k < mn (poF (μ (q + 1))) (k - 1) then poF (μ (q + 1)) k else mn (poF (μ (q + 1))) (k - 1) := by
      have := mn_s (poF (μ (q + 1))) (n := k - 1) (by omega)
      rw [show k - 1 + 1 = k by omega] at this
      rw [show k + 1 - 1 = k by omega]
      exact this
    have K3 := K2 (vI (poF (μ (q + 1)) k))
    rw [e] at K3
    refine r_iload_n C dX5_possible_16 rfl ?_
    refine r_aload_n C dX5_possible_17 rfl ?_
    refine gf_X5_7 C M1 dX5_possible_18 ?_
    refine r_iconst C dX5_possible_21 ?_
    refine r_iald C Ms (by omega) (by omega) dX5_possible_22 ?_
    refine r_icmp_ge (tgt := 59) C dX5_possible_23 (by decide) (by omega) (by omega) (fun c23 => absurd c23 (by omega)) (fun c23 => ?_)
    refine r_aload_n C dX5_possible_26 rfl ?_
    refine gf_X5_7 C M1 dX5_possible_27 ?_
    refine r_bipush C dX5_possible_30 rfl ?_
    refine r_iload_n C dX5_possible_32 rfl ?_
    refine r_iadd C dX5_possible_33 ?_
    refine r_iald C Ms (by omega) (by omega) dX5_possible_34 ?_
    refine r_aload_n C dX5_possible_35 rfl ?_
    refine r_iload_n C dX5_possible_36 rfl ?_
    refine r_runI (fun aH aL aj a1 a2 a3 => run_V C hF.2.2.1 (kX5_inBlock hM hv (x := k) (by omega)) lm_X5_inBlock ml_X5_165 im_X5_inBlock se_X5_inBlock M1 rfl (Nat.le_of_ble_eq_true rfl) dX5_possible_37 rfl (Nat.le_of_ble_eq_true rfl) a1 a2 a3) ?_
    refine r_iadd C dX5_possible_40 ?_
    rw [he]
    refine r_istore_n C dX5_possible_41 (by decide) rfl ?_
    refine r_iload_n C dX5_possible_42 rfl ?_
    refine r_iload_n C dX5_possible_43 rfl ?_
    refine r_icmp_ge (tgt := 51) C dX5_possible_44 (by decide) (by omega) (by omega) (fun c44 => ?_) (fun c44 => ?_)
    · rw [if_neg (by omega)] at K3
      refine r_iload_n C dX5_possible_51 rfl ?_
      refine r_istore_n C dX5_possible_52 (by decide) rfl ?_
      refine r_iinc C dX5_possible_53 rfl (by decide) rfl ?_
      refine r_goto (tgt := 16) C dX5_possible_56 (by decide) ?_
      exact K3
    · rw [if_pos (by omega)] at K3
      refine r_iload_n C dX5_possible_47 rfl ?_
      refine r_goto (tgt := 52) C dX5_possible_48 (by decide) ?_
      refine r_istore_n C dX5_possible_52 (by decide) rfl ?_
      refine r_iinc C dX5_possible_53 rfl (by decide) rfl ?_
      refine r_goto (tgt := 16) C dX5_possible_56 (by decide) ?_
      exact K3
set_option maxRecDepth 20000 in
set_option maxHeartbeats 2000000 in
theorem kX5_books {V : Wo} {μ : Mem} {q : Nat} (hM : MoS V q) {K : Int} (hv : veW K (μ (q + 1))) : Con V 2 yX5_books cX5_books 1 (some .int) [vR q] (μ) (QIr V (poT (μ (q + 1))) ((fun ν => MR q μ ν 0 (μ q 2) (μ q 3) (μ q 5) (μ (q + 1)) (μ (q + 2))))) := by
  refine con_of (ls0 := [vR q]) (by decide +kernel) rfl (Nat.le_of_ble_eq_true rfl) (Nat.le_of_ble_eq_true rfl) (fun X hV C hF => ?_)
  subst hV
  have C : Ok X RX5 cX5_books 1 2 := C
  obtain ⟨M0, M1, Ms, Mt, Mr, Md, Ml⟩ := id hM
  obtain ⟨v0, v1, v2, v3, v4, v5, v6, v7, v8, v9, v10⟩ := id hv
  refine r_aload_n C dX5_books_0 rfl ?_
  refine r_iconst C dX5_books_1 ?_
  refine pf_X5_25 C M1 M0 dX5_books_2 ?_
  refine r_aload_n C dX5_books_5 rfl ?_
  refine r_runI (fun aH aL aj a1 a2 a3 => run_V C hF.2.2.1 (kX5_possible hM (K := K) (by rw [wr_n _ _ (by omega)]; exact hv)) lm_X5_possible ml_X5_204 im_X5_possible se_X5_possible M1 rfl (Nat.le_of_ble_eq_true rfl) dX5_books_6 rfl (Nat.le_of_ble_eq_true rfl) a1 a2 a3) ?_
  rw [wr_n μ _ (show q + 1 ≠ q by omega)]
  exact r_iretr C hF dX5_books_9 rfl (MR_th μ q 0)
