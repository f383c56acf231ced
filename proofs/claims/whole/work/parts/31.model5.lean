set_option maxRecDepth 20000 in
set_option maxHeartbeats 2000000 in
theorem kX5_inBlock {V : Wo} {μ : Mem} {q : Nat} (hM : MoS V q) {K : Int} (hv : veW K (μ (q + 1))) {x : Int} (hx : inR x) : Con V 0 yX5_inBlock cX5_inBlock 4 (some .int) [vR q, vI x] (μ) (QI V (cnX (μ (q + 1)) x) (μ)) := by
  refine con_of (ls0 := [vR q, vI x, vU, vU]) (by decide +kernel) rfl (Nat.le_of_ble_eq_true rfl) (Nat.le_of_ble_eq_true rfl) (fun X hV C hF => ?_)
  subst hV
  have C : Ok X RX5 cX5_inBlock 4 0 := C
  obtain ⟨M0, M1, Ms, Mt, Mr, Md, Ml⟩ := id hM
  obtain ⟨v0, v1, v2, v3, v4, v5, v6, v7, v8, v9, v10⟩ := id hv
  refine r_iconst C dX5_inBlock_0 ?_
  refine r_istore_n C dX5_inBlock_1 (by decide) rfl ?_
  refine r_iconst C dX5_inBlock_2 ?_
  refine r_istore_n C dX5_inBlock_3 (by decide) rfl ?_
  refine loop_up (F := fun i => RR X μ 4 [vR q, vI x, vI (cn (fun e => (μ (q + 1)) (70 + e) = x) i), vI i] []) (a := 0) (b := (μ (q + 1)) 3) v4.1 ?_ ?_
  · show RR X _ _ [vR q, vI x, vI (cn (fun e => (μ (q + 1)) (70 + e) = x) ((μ (q + 1)) 3)), vI ((μ (q + 1)) 3)] []
    refine r_iload_n C dX5_inBlock_4 rfl ?_
    refine r_aload_n C dX5_inBlock_5 rfl ?_
    refine gf_X5_7 C M1 dX5_inBlock_6 ?_
    refine r_iconst C dX5_inBlock_9 ?_
    refine r_iald C Ms (by omega) (by omega) dX5_inBlock_10 ?_
    refine r_icmp_ge (tgt := 41) C dX5_inBlock_11 (by decide) (by omega) (by omega) (fun c11 => ?_) (fun c11 => absurd c11 (by omega))
    refine r_iload_n C dX5_inBlock_41 rfl ?_
    exact r_iret C hF dX5_inBlock_42 rfl rfl
  · intro i h0 h1 K2
    show RR X _ _ [vR q, vI x, vI (cn (fun e => (μ (q + 1)) (70 + e) = x) i), vI i] []
    rw [cn_s _ h0] at K2
    have hn := v9 i h0 h1
    refine r_iload_n C dX5_inBlock_4 rfl ?_
    refine r_aload_n C dX5_inBlock_5 rfl ?_
    refine gf_X5_7 C M1 dX5_inBlock_6 ?_
    refine r_iconst C dX5_inBlock_9 ?_
    refine r_iald C Ms (by omega) (by omega) dX5_inBlock_10 ?_
    refine r_icmp_ge (tgt := 41) C dX5_inBlock_11 (by decide) (by omega) (by omega) (fun c11 => absurd c11 (by omega)) (fun c11 => ?_)
    refine r_iload_n C dX5_inBlock_14 rfl ?_
    refine r_aload_n C dX5_inBlock_15 rfl ?_
    refine gf_X5_7 C M1 dX5_inBlock_16 ?_
    refine r_bipush C dX5_inBlock_19 rfl ?_
    refine r_iload_n C dX5_inBlock_21 rfl ?_
    refine r_iadd C dX5_inBlock_22 ?_
    refine r_iald C Ms (by omega) (by omega) dX5_inBlock_23 ?_
    refine r_iload_n C dX5_inBlock_24 rfl ?_
    refine r_icmp_ne (tgt := 32) C dX5_inBlock_25 (by decide) (by omega) (by omega) (fun c25 => ?_) (fun c25 => ?_)
    · rw [b01_f c25] at K2
      refine r_iconst C dX5_inBlock_32 ?_
      refine r_iadd C dX5_inBlock_33 ?_
      refine r_istore_n C dX5_inBlock_34 (by decide) rfl ?_
      refine r_iinc C dX5_inBlock_35 rfl (by decide) rfl ?_
      refine r_goto (tgt := 4) C dX5_inBlock_38 (by decide) ?_
      exact K2
    · rw [b01_t c25] at K2
      refine r_iconst C dX5_inBlock_28 ?_
      refine r_goto (tgt := 33) C dX5_inBlock_29 (by decide) ?_
      refine r_iadd C dX5_inBlock_33 ?_
      refine r_istore_n C dX5_inBlock_34 (by decide) rfl ?_
      refine r_iinc C dX5_inBlock_35 rfl (by decide) rfl ?_
      refine r_goto (tgt := 4) C dX5_inBlock_38 (by decide) ?_
      exact K2
set_option maxRecDepth 20000 in
set_option maxHeartbeats 2000000 in
theorem kX5_boundSheets {V : Wo} {μ : Mem} {q : Nat} (hM : MoS V q) {K : Int} (hv : veW K (μ (q + 1))) : Con V 0 yX5_boundSheets cX5_boundSheets 3 (some .int) [vR q] (μ) (QI V (sm (fun k => (μ (q + 1)) (22 + k)) 16) (μ)) := by
  refine con_of (ls0 := [vR q, vU, vU]) (by decide +kernel) rfl (Nat.le_of_ble_eq_true rfl) (Nat.le_of_ble_eq_true rfl) (fun X hV C hF => ?_)
  subst hV
  have C : Ok X RX5 cX5_boundSheets 3 0 := C
  obtain ⟨M0, M1, Ms, Mt, Mr, Md, Ml⟩ := id hM
  obtain ⟨v0, v1, v2, v3, v4, v5, v6, v7, v8, v9, v10⟩ := id hv
  refine r_iconst C dX5_boundSheets_0 ?_
  refine r_istore_n C dX5_boundSheets_1 (by decide) rfl ?_
  refine r_iconst C dX5_boundSheets_2 ?_
  refine r_istore_n C dX5_boundSheets_3 (by decide) rfl ?_
  refine loop_up (F := fun i => RR X μ 4 [vR q, vI (sm (fun k => (μ (q + 1)) (22 + k)) i), vI i] []) (a := 0) (b := 16) (by omega) ?_ ?_
  · show RR X _ _ [vR q, vI (sm (fun k => (μ (q + 1)) (22 + k)) 16), vI 16] []
    refine r_iload_n C dX5_boundSheets_4 rfl ?_
    refine r_bipush C dX5_boundSheets_5 rfl ?_
    refine r_icmp_ge (tgt := 28) C dX5_boundSheets_7 (by decide) (by omega) (by omega) (fun c7 => ?_) (fun c7 => absurd c7 (by omega))
    refine r_iload_n C dX5_boundSheets_28 rfl ?_
    exact r_iret C hF dX5_boundSheets_29 rfl rfl
  · intro i h0 h1 K2
    show RR X _ _ [vR q, vI (sm (fun k => (μ (q + 1)) (22 + k)) i), vI i] []
    rw [sm_s _ h0] at K2
    refine r_iload_n C dX5_boundSheets_4 rfl ?_
    refine r_bipush C dX5_boundSheets_5 rfl ?_
    refine r_icmp_ge (tgt := 28) C dX5_boundSheets_7 (by decide) (by omega) (by omega) (fun c7 => absurd c7 (by omega)) (fun c7 => ?_)
    refine r_iload_n C dX5_boundSheets_10 rfl ?_
    refine r_aload_n C dX5_boundSheets_11 rfl ?_
    refine gf_X5_7 C M1 dX5_boundSheets_12 ?_
    refine r_bipush C dX5_boundSheets_15 rfl ?_
    refine r_iload_n C dX5_boundSheets_17 rfl ?_
    refine r_iadd C dX5_boundSheets_18 ?_
    refine r_iald C Ms (by omega) (by omega) dX5_boundSheets_19 ?_
    refine r_iadd C dX5_boundSheets_20 ?_
    refine r_istore_n C dX5_boundSheets_21 (by decide) rfl ?_
    refine r_iinc C dX5_boundSheets_22 rfl (by decide) rfl ?_
    refine r_goto (tgt := 4) C dX5_boundSheets_25 (by decide) ?_
    exact K2
set_option maxRecDepth 20000 in
set_option maxHeartbeats 2000000 in
theorem kX5_ofBin {V : Wo} {μ : Mem} {q : Nat} (hM : MoS V q) {K : Int} (hv : veW K (μ (q + 1))) {x w : Int} (hx : 0 ≤ x) (hx2 : x < 16) (hw : 0 ≤ w) (hw2 : w ≤ 4) : Con V 1 yX5_ofBin cX5_ofBin 3 (some .int) [vR q, vI x, vI w] (μ) (QI V (ofB (μ (q + 1)) x w) (μ)) := by
  refine con_of (ls0 := [vR q, vI x, vI w]) (by decide +kernel) rfl (Nat.le_of_ble_eq_true rfl) (Nat.le_of_ble_eq_true rfl) (fun X hV C hF => ?_)
  subst hV
  have C : Ok X RX5 cX5_ofBin 3 1 := C
  obtain ⟨M0, M1, Ms, Mt, Mr, Md, Ml⟩ := id hM
  obtain ⟨v0, v1, v2, v3, v4, v5, v6, v7, v8, v9, v10⟩ := id hv
  refine r_iload_n C dX5_ofBin_0 rfl ?_
  have hw3 : w = 0 ∨ w = 1 ∨ w = 2 ∨ w = 3 ∨ w = 4 := by omega
  rcases hw3 with e | e | e | e | e
  · rw [e]
    refine r_tsIn (tgt := 32) C dX5_ofBin_1 (by omega) (by omega) (by omega) rfl (by decide) ?_
    refine r_aload_n C dX5_ofBin_32 rfl ?_
    refine gf_X5_7 C M1 dX5_ofBin_33 ?_
    refine r_bipush C dX5_ofBin_36 rfl ?_
    refine r_iload_n C dX5_ofBin_38 rfl ?_
    refine r_iadd C dX5_ofBin_39 ?_
    refine r_iald C Ms (by omega) (by omega) dX5_ofBin_40 ?_
    exact r_iret C hF dX5_ofBin_41 (by unfold ofB; rw [if_pos e]) rfl
  · rw [e]
    refine r_tsIn (tgt := 42) C dX5_ofBin_1 (by omega) (by omega) (by omega) rfl (by decide) ?_
    refine r_aload_n C dX5_ofBin_42 rfl ?_
    refine r_iload_n C dX5_ofBin_43 rfl ?_
    refine r_runI (fun aH aL aj a1 a2 a3 => run_V C hF.2.2.1 (kX5_inBlock hM hv (x := x) (by omega)) lm_X5_inBlock ml_X5_165 im_X5_inBlock se_X5_inBlock M1 rfl (Nat.le_of_ble_eq_true rfl) dX5_ofBin_44 rfl (Nat.le_of_ble_eq_true rfl) a1 a2 a3) ?_
    exact r_iret C hF dX5_ofBin_47 (by unfold ofB; rw [if_neg (show ¬ w = 0 by omega), if_pos e]) rfl
  · rw [e]
    refine r_tsIn (tgt := 48) C dX5_ofBin_1 (by omega) (by omega) (by omega) rfl (by decide) ?_
    refine r_aload_n C dX5_ofBin_48 rfl ?_
    refine gf_X5_7 C M1 dX5_ofBin_49 ?_
    refine r_bipush C dX5_ofBin_52 rfl ?_
    refine r_iload_n C dX5_ofBin_54 rfl ?_
    refine r_iadd C dX5_ofBin_55 ?_
    refine r_iald C Ms (by omega) (by omega) dX5_ofBin_56 ?_
    exact r_iret C hF dX5_ofBin_57 (by unfold ofB; rw [if_neg (show ¬ w = 0 by omega), if_neg (show ¬ w = 1 by omega), if_pos e]) rfl
  · rw [e]
    refine r_tsIn (tgt := 58) C dX5_ofBin_1 (by omega) (by omega) (by omega) rfl (by decide) ?_
    refine r_aload_n C dX5_ofBin_58 rfl ?_
    refine gf_X5_7 C M1 dX5_ofBin_59 ?_
    refine r_bipush C dX5_ofBin_62 rfl ?_
    refine r_iload_n C dX5_ofBin_64 rfl ?_
    refine r_iadd C dX5_ofBin_65 ?_
    refine r_iald C Ms (by omega) (by omega) dX5_ofBin_66 ?_
    exact r_iret C hF dX5_ofBin_67 (by unfold ofB; rw [if_neg (show ¬ w = 0 by omega), if_neg (show ¬ w = 1 by omega), if_neg (show ¬ w = 2 by omega), if_pos e]) rfl
  · rw [e]
    refine r_tsOut (tgt := 68) C dX5_ofBin_1 (by omega) (by omega) (by decide) ?_
    refine r_aload_n C dX5_ofBin_68 rfl ?_
    refine gf_X5_7 C M1 dX5_ofBin_69 ?_
    refine r_bipush C dX5_ofBin_72 rfl ?_
    refine r_iload_n C dX5_ofBin_74 rfl ?_
    refine r_iadd C dX5_ofBin_75 ?_
    refine r_iald C Ms (by omega) (by omega) dX5_ofBin_76 ?_
    exact r_iret C hF dX5_ofBin_77 (by unfold ofB; rw [if_neg (show ¬ w = 0 by omega), if_neg (show ¬ w = 1 by omega), if_neg (show ¬ w = 2 by omega), if_neg (show ¬ w = 3 by omega)]) rfl
set_option maxRecDepth 20000 in
set_option maxHeartbeats 2000000 in
theorem kX5_bin_1 {V : Wo} {μ : Mem} {q : Nat} (hM : MoS V q) {K : Int} (hv : veW K (μ (q + 1))) {x w : Int} (hr : inR x) (hr2 : inR w) (h : ¬ (0 ≤ x ∧ x < 16)) : Con V 2 yX5_bin cX5_bin 3 (some .int) [vR q, vI x, vI w] (μ) (QIr V (0) ((fun ν => MR q μ ν 1 (μ q 2) (μ q 3) (μ q 5) (μ (q + 1)) (μ (q + 2))))) := by
  refine con_of (ls0 := [vR q, vI x, vI w]) (by decide +kernel) rfl (Nat.le_of_ble_eq_true rfl) (Nat.le_of_ble_eq_true rfl) (fun X hV C hF => ?_)
  subst hV
  have C : Ok X RX5 cX5_bin 3 2 := C
  obtain ⟨M0, M1, Ms, Mt, Mr, Md, Ml⟩ := id hM
  obtain ⟨v0, v1, v2, v3, v4, v5, v6, v7, v8, v9, v10⟩ := id hv
  refine r_aload_n C dX5_bin_0 rfl ?_
  refine r_iload_n C dX5_bin_1 rfl ?_
  refine r_runI (fun aH aL aj a1 a2 a3 => run_S C hF.2.2.1 (kX5_isBin (x := x) (by omega)) lm_X5_isBin ml_X5_88 sm_X5_isBin (Nat.le_of_ble_eq_true rfl) dX5_bin_2 rfl (Nat.le_of_ble_eq_true rfl) a1 a2 a3) ?_
  rw [b01_f (by omega)]
  refine r_if_ne (tgt := 12) C dX5_bin_5 (by decide) (by omega) (fun c5 => absurd c5 (by omega)) (fun c5 => ?_)
  refine r_iconst C dX5_bin_8 ?_
  refine r_goto (tgt := 26) C dX5_bin_9 (by decide) ?_
  refine r_runI (fun aH aL aj a1 a2 a3 => run_V C hF.2.2.1 (kX5_holds hM (x := 1) (by omega)) lm_X5_holds ml_X5_94 im_X5_holds se_X5_holds M1 rfl (Nat.le_of_ble_eq_true rfl) dX5_bin_26 rfl (Nat.le_of_ble_eq_true rfl) a1 a2 a3) ?_
  rw [b01_f (show ¬ (1 : Int) = 0 by omega)]
  refine r_if_eq (tgt := 41) C dX5_bin_29 (by decide) (by omega) (fun c29 => ?_) (fun c29 => absurd c29 (by omega))
  refine r_iconst C dX5_bin_41 ?_
  exact r_iretr C hF dX5_bin_42 rfl (MR_th μ q _)
set_option maxRecDepth 20000 in
set_option maxHeartbeats 2000000 in
theorem kX5_bin_2 {V : Wo} {μ : Mem} {q : Nat} (hM : MoS V q) {K : Int} (hv : veW K (μ (q + 1))) {x w : Int} (hr : inR x) (hr2 : inR w) (h : 0 ≤ x ∧ x < 16) (h2 : ¬ (0 ≤ w ∧ w ≤ 4)) : Con V 2 yX5_bin cX5_bin 3 (some .int) [vR q, vI x, vI w] (μ) (QIr V (0) ((fun ν => MR q μ ν 2 (μ q 2) (μ q 3) (μ q 5) (μ (q + 1)) (μ (q + 2))))) := by
  refine con_of (ls0 := [vR q, vI x, vI w]) (by decide +kernel) rfl (Nat.le_of_ble_eq_true rfl) (Nat.le_of_ble_eq_true rfl) (fun X hV C hF => ?_)
  subst hV
  have C : Ok X RX5 cX5_bin 3 2 := C
  obtain ⟨M0, M1, Ms, Mt, Mr, Md, Ml⟩ := id hM
  obtain ⟨v0, v1, v2, v3, v4, v5, v6, v7, v8, v9, v10⟩ := id hv
  refine r_aload_n C dX5_bin_0 rfl ?_
  refine r_iload_n C dX5_bin_1 rfl ?_
  refine r_runI (fun aH aL aj a1 a2 a3 => run_S C hF.2.2.1 (kX5_isBin (x := x) (by omega)) lm_X5_isBin ml_X5_88 sm_X5_isBin (Nat.le_of_ble_eq_true rfl) dX5_bin_2 rfl (Nat.le_of_ble_eq_true rfl) a1 a2 a3) ?_
  rw [b01_t (by omega)]
  refine r_if_ne (tgt := 12) C dX5_bin_5 (by decide) (by omega) (fun c5 => ?_) (fun c5 => absurd c5 (by omega))
  refine r_iload_n C dX5_bin_12 rfl ?_
  refine r_iconst C dX5_bin_13 ?_
  refine r_iconst C dX5_bin_14 ?_
  refine r_runI (fun aH aL aj a1 a2 a3 => run_S C hF.2.2.1 (kX5_in (v := w) (l := 0) (u := 4) (by omega) (by omega) (by omega)) lm_X5_in ml_X5_29 sm_X5_in (Nat.le_of_ble_eq_true rfl) dX5_bin_15 rfl (Nat.le_of_ble_eq_true rfl) a1 a2 a3) ?_
  rw [b01_f (by omega)]
  refine r_if_ne (tgt := 25) C dX5_bin_18 (by decide) (by omega) (fun c18 => absurd c18 (by omega)) (fun c18 => ?_)
  refine r_iconst C dX5_bin_21 ?_
  refine r_goto (tgt := 26) C dX5_bin_22 (by decide) ?_
  refine r_runI (fun aH aL aj a1 a2 a3 => run_V C hF.2.2.1 (kX5_holds hM (x := 2) (by omega)) lm_X5_holds ml_X5_94 im_X5_holds se_X5_holds M1 rfl (Nat.le_of_ble_eq_true rfl) dX5_bin_26 rfl (Nat.le_of_ble_eq_true rfl) a1 a2 a3) ?_
  rw [b01_f (show ¬ (2 : Int) = 0 by omega)]
  refine r_if_eq (tgt := 41) C dX5_bin_29 (by decide) (by omega) (fun c29 => ?_) (fun c29 => absurd c29 (by omega))
  refine r_iconst C dX5_bin_41 ?_
  exact r_iretr C hF dX5_bin_42 rfl (MR_th μ q _)
set_option maxRecDepth 20000 in
set_option maxHeartbeats 2000000 in
theorem kX5_bin_0 {V : Wo} {μ : Mem} {q : Nat} (hM : MoS V q) {K : Int} (hv : veW K (μ (q + 1))) {x w : Int} (hr : inR x) (hr2 : inR w) (h : 0 ≤ x ∧ x < 16) (h2 : 0 ≤ w ∧ w ≤ 4) : Con V 2 yX5_bin cX5_bin 3 (some .int) [vR q, vI x, vI w] (μ) (QIr V (ofB (μ (q + 1)) x w) ((fun ν => MR q μ ν 0 (μ q 2) (μ q 3) (μ q 5) (μ (q + 1)) (μ (q + 2))))) := by
  refine con_of (ls0 := [vR q, vI x, vI w]) (by decide +kernel) rfl (Nat.le_of_ble_eq_true rfl) (Nat.le_of_ble_eq_true rfl) (fun X hV C hF => ?_)
  subst hV
  have C : Ok X RX5 cX5_bin 3 2 := C
  obtain ⟨M0, M1, Ms, Mt, Mr, Md, Ml⟩ := id hM
  obtain ⟨v0, v1, v2, v3, v4, v5, v6, v7, v8, v9, v10⟩ := id hv
  refine r_aload_n C dX5_bin_0 rfl ?_
  refine r_iload_n C dX5_bin_1 rfl ?_
  refine r_runI (fun aH aL aj a1 a2 a3 => run_S C hF.2.2.1 (kX5_isBin (x := x) (by omega)) lm_X5_isBin ml_X5_88 sm_X5_isBin (Nat.le_of_ble_eq_true rfl) dX5_bin_2 rfl (Nat.le_of_ble_eq_true rfl) a1 a2 a3) ?_
  rw [b01_t (by omega)]
  refine r_if_ne (tgt := 12) C dX5_bin_5 (by decide) (by omega) (fun c5 => ?_) (fun c5 => absurd c5 (by omega))
  refine r_iload_n C dX5_bin_12 rfl ?_
  refine r_iconst C dX5_bin_13 ?_
  refine r_iconst C dX5_bin_14 ?_
  refine r_runI (fun aH aL aj a1 a2 a3 => run_S C hF.2.2.1 (kX5_in (v := w) (l := 0) (u := 4) (by omega) (by omega) (by omega)) lm_X5_in ml_X5_29 sm_X5_in (Nat.le_of_ble_eq_true rfl) dX5_bin_15 rfl (Nat.le_of_ble_eq_true rfl) a1 a2 a3) ?_
  rw [b01_t (by omega)]
  refine r_if_ne (tgt := 25) C dX5_bin_18 (by decide) (by omega) (fun c18 => ?_) (fun c18 => absurd c18 (by omega))
  refine r_iconst C dX5_bin_25 ?_
  refine r_runI (fun aH aL aj a1 a2 a3 => run_V C hF.2.2.1 (kX5_holds hM (x := 0) (by omega)) lm_X5_holds ml_X5_94 im_X5_holds se_X5_holds M1 rfl (Nat.le_of_ble_eq_true rfl) dX5_bin_26 rfl (Nat.le_of_ble_eq_true rfl) a1 a2 a3) ?_
  rw [b01_t rfl]
  refine r_if_eq (tgt := 41) C dX5_bin_29 (by decide) (by omega) (fun c29 => absurd c29 (by omega)) (fun c29 => ?_)
  refine r_aload_n C dX5_bin_32 rfl ?_
  refine r_iload_n C dX5_bin_33 rfl ?_
  refine r_iload_n C dX5_bin_34 rfl ?_
  refine r_runI (fun aH aL aj a1 a2 a3 => run_V C hF.2.2.1 (kX5_ofBin hM (K := K) (by rw [wr_n _ _ (by omega)]; exact hv) (by omega) (by omega) (by omega) (by omega)) lm_X5_ofBin ml_X5_168 im_X5_ofBin se_X5_ofBin M1 rfl (Nat.le_of_ble_eq_true rfl) dX5_bin_35 rfl (Nat.le_of_ble_eq_true rfl) a1 a2 a3) ?_
  rw [wr_n μ _ (show q + 1 ≠ q by omega)]
  refine r_goto (tgt := 42) C dX5_bin_38 (by decide) ?_
  exact r_iretr C hF dX5_bin_42 rfl (MR_th μ q _)
set_option maxRecDepth 20000 in
set_option maxHeartbeats 2000000 in
theorem kX5_ofSheet {V : Wo} {μ : Mem} {q : Nat} (hM : MoS V q) {K : Int} (hv : veW K (μ (q + 1))) {k w : Int} (hk : 0 ≤ k) (hk2 : k < (μ (q + 1)) 3) (hw : 0 ≤ w) (hw2 : w ≤ 5) : Con V 2 yX5_ofSheet cX5_ofSheet 3 (some .int) [vR q, vI k, vI w] (μ) (QIr V (ofS (μ (q + 1)) k w) ((MU q μ))) := by
  refine con_of (ls0 := [vR q, vI k, vI w]) (by decide +kernel) rfl (Nat.le_of_ble_eq_true rfl) (Nat.le_of_ble_eq_true rfl) (fun X hV C hF => ?_)
  subst hV
  have C : Ok X RX5 cX5_ofSheet 3 2 := C
  obtain ⟨M0, M1, Ms, Mt, Mr, Md, Ml⟩ := id hM
  obtain ⟨v0, v1, v2, v3, v4, v5, v6, v7, v8, v9, v10⟩ := id hv
  have hL := (lay_W (μ := μ) (q := q) (p := -1) (by omega) hv).1
  have hvl : veW K ((lay μ q (-1) ((μ (q + 1)) 3)) (q + 1)) := by rw [lay_1]; exact hv
  have el : (lay μ q (-1) ((μ (q + 1)) 3)) q 12 = (μ (q + 1)) 3 := by rw [lay_q12, lc_m1]
  refine r_aload_n C dX5_ofSheet_0 rfl ?_
  refine r_iconst C dX5_ofSheet_1 ?_
  refine r_runV (fun aH aL aj a1 a2 a3 => run_V C hF.2.2.1 (kX5_laysOut hM hv (by omega) (by omega)) lm_X5_laysOut ml_X5_71 im_X5_laysOut se_X5_laysOut M1 rfl (Nat.le_of_ble_eq_true rfl) dX5_ofSheet_2 rfl (Nat.le_of_ble_eq_true rfl) a1 a2 a3) ?_
  refine r_iload_n C dX5_ofSheet_5 rfl ?_
  have hn := v9 k hk hk2
  have hd := v10 k hk hk2
  have hw3 : w = 0 ∨ w = 1 ∨ w = 2 ∨ w = 3 ∨ w = 4 ∨ w = 5 := by omega
  rcases hw3 with e | e | e | e | e | e
  · rw [e]
    refine r_tsIn (tgt := 40) C dX5_ofSheet_6 (by omega) (by omega) (by omega) rfl (by decide) ?_
    refine r_aload_n C dX5_ofSheet_40 rfl ?_
    refine gf_X5_16 C M1 dX5_ofSheet_41 ?_
    refine r_iload_n C dX5_ofSheet_44 rfl ?_
    refine r_iald C Mr (by omega) (by omega) dX5_ofSheet_45 ?_
    rw [lay_N k hk hk2]
    exact r_iretr C hF dX5_ofSheet_46 (by
            unfold ofS
            rw [if_pos e]
            skip) (MU_lay ..)
  · rw [e]
    refine r_tsIn (tgt := 47) C dX5_ofSheet_6 (by omega) (by omega) (by omega) rfl (by decide) ?_
    refine r_aload_n C dX5_ofSheet_47 rfl ?_
    refine gf_X5_19 C M1 dX5_ofSheet_48 ?_
    refine r_iload_n C dX5_ofSheet_51 rfl ?_
    refine r_iald C Md (by omega) (by omega) dX5_ofSheet_52 ?_
    rw [lay_D k hk hk2]
    exact r_iretr C hF dX5_ofSheet_53 (by
            unfold ofS
            rw [if_neg (show ¬ w = 0 by omega), if_pos e]
            skip) (MU_lay ..)
  · rw [e]
    refine r_tsIn (tgt := 54) C dX5_ofSheet_6 (by omega) (by omega) (by omega) rfl (by decide) ?_
    refine r_aload_n C dX5_ofSheet_54 rfl ?_
    refine r_aload_n C dX5_ofSheet_55 rfl ?_
    refine gf_X5_16 C M1 dX5_ofSheet_56 ?_
    refine r_iload_n C dX5_ofSheet_59 rfl ?_
    refine r_iald C Mr (by omega) (by omega) dX5_ofSheet_60 ?_
    refine r_aload_n C dX5_ofSheet_61 rfl ?_
    refine gf_X5_19 C M1 dX5_ofSheet_62 ?_
    refine r_iload_n C dX5_ofSheet_65 rfl ?_
    refine r_iald C Md (by omega) (by omega) dX5_ofSheet_66 ?_
    rw [lay_N k hk hk2, lay_D k hk hk2]
    refine r_runI (fun aH aL aj a1 a2 a3 => run_V C hF.2.2.1 (kX5_mark hM hvl (by omega) (by omega) (by omega)) lm_X5_mark ml_X5_36 im_X5_mark se_X5_mark M1 rfl (Nat.le_of_ble_eq_true rfl) dX5_ofSheet_67 rfl (Nat.le_of_ble_eq_true rfl) a1 a2 a3) ?_
    rw [lay_1]
    exact r_iretr C hF dX5_ofSheet_70 (by
            unfold ofS
            rw [if_neg (show ¬ w = 0 by omega), if_neg (show ¬ w = 1 by omega), if_pos e]
            skip) (MU_lay ..)
  · rw [e]
    refine r_tsIn (tgt := 71) C dX5_ofSheet_6 (by omega) (by omega) (by omega) rfl (by decide) ?_
    refine r_aload_n C dX5_ofSheet_71 rfl ?_
    refine r_iload_n C dX5_ofSheet_72 rfl ?_
    refine r_runI (fun aH aL aj a1 a2 a3 => run_V C hF.2.2.1 (kX5_breaksAt hM hvl hL hk (by omega)) lm_X5_breaksAt ml_X5_40 im_X5_breaksAt se_X5_breaksAt M1 rfl (Nat.le_of_ble_eq_true rfl) dX5_ofSheet_73 rfl (Nat.le_of_ble_eq_true rfl) a1 a2 a3) ?_
    rw [lay_1, b01_i (brk_cong (a' := vN (μ (q + 1))) (d' := vD (μ (q + 1))) lay_N lay_D hk hk2)]
    refine r_if_eq (tgt := 83) C dX5_ofSheet_76 (by decide) (by have := b01_r (brk ((μ (q + 1)) 1) (vN (μ (q + 1))) (vD (μ (q + 1))) k); omega) (fun c76 => ?_) (fun c76 => ?_)
    · skip
      refine r_iconst C dX5_ofSheet_83 ?_
      exact r_iretr C hF dX5_ofSheet_84 (by
              unfold ofS
              rw [if_neg (show ¬ w = 0 by omega), if_neg (show ¬ w = 1 by omega), if_neg (show ¬ w = 2 by omega), if_pos e]
              exact c76.symm) (MU_lay ..)
    · have := b01_r (brk ((μ (q + 1)) 1) (vN (μ (q + 1))) (vD (μ (q + 1))) k)
      refine r_iconst C dX5_ofSheet_79 ?_
      refine r_goto (tgt := 84) C dX5_ofSheet_80 (by decide) ?_
      exact r_iretr C hF dX5_ofSheet_84 (by
              unfold ofS
              rw [if_neg (show ¬ w = 0 by omega), if_neg (show ¬ w = 1 by omega), if_neg (show ¬ w = 2 by omega), if_pos e]
              omega) (MU_lay ..)
  · rw [e]
    refine r_tsIn (tgt := 85) C dX5_ofSheet_6 (by omega) (by omega) (by omega) rfl (by decide) ?_
    refine r_aload_n C dX5_ofSheet_85 rfl ?_
    refine r_iload_n C dX5_ofSheet_86 rfl ?_
    refine r_runI (fun aH aL aj a1 a2 a3 => run_V C hF.2.2.1 (kX5_stitchesAt hM hvl hL hk (by omega)) lm_X5_stitchesAt ml_X5_62 im_X5_stitchesAt se_X5_stitchesAt M1 rfl (Nat.le_of_ble_eq_true rfl) dX5_ofSheet_87 rfl (Nat.le_of_ble_eq_true rfl) a1 a2 a3) ?_
    rw [lay_1, stA_cong (a' := vN (μ (q + 1))) lay_N hk hk2]
    exact r_iretr C hF dX5_ofSheet_90 (by
            unfold ofS
            rw [if_neg (show ¬ w = 0 by omega), if_neg (show ¬ w = 1 by omega), if_neg (show ¬ w = 2 by omega), if_neg (show ¬ w = 3 by omega), if_pos e]
            skip) (MU_lay ..)
  · rw [e]
    refine r_tsOut (tgt := 91) C dX5_ofSheet_6 (by omega) (by omega) (by decide) ?_
    refine r_aload_n C dX5_ofSheet_91 rfl ?_
    refine r_iload_n C dX5_ofSheet_92 rfl ?_
    refine r_runI (fun aH aL aj a1 a2 a3 => run_V C hF.2.2.1 (kX5_greaterAhead hM hL hk (by omega)) lm_X5_greaterAhead ml_X5_59 im_X5_greaterAhead se_X5_greaterAhead M1 rfl (Nat.le_of_ble_eq_true rfl) dX5_ofSheet_93 rfl (Nat.le_of_ble_eq_true rfl) a1 a2 a3) ?_
    rw [gr_cong (a' := vN (μ (q + 1))) lay_N hk hk2]
    exact r_iretr C hF dX5_ofSheet_96 (by
            unfold ofS
            rw [if_neg (show ¬ w = 0 by omega), if_neg (show ¬ w = 1 by omega), if_neg (show ¬ w = 2 by omega), if_neg (show ¬ w = 3 by omega), if_neg (show ¬ w = 4 by omega)]
            skip) (MU_lay ..)
set_option maxRecDepth 20000 in
set_option maxHeartbeats 2000000 in
theorem kX5_sheet_1 {V : Wo} {μ : Mem} {q : Nat} (hM : MoS V q) {K : Int} (hv : veW K (μ (q + 1))) {k : Int} (hr : inR k) {w : Int} (hr2 : inR w) (h : k < 0) : Con V 3 yX5_sheet cX5_sheet 3 (some .int) [vR q, vI k, vI w] (μ) (QIr V (0) ((fun ν => MR q μ ν 1 (μ q 2) (μ q 3) (μ q 5) (μ (q + 1)) (μ (q + 2))))) := by
  refine con_of (ls0 := [vR q, vI k, vI w]) (by decide +kernel) rfl (Nat.le_of_ble_eq_true rfl) (Nat.le_of_ble_eq_true rfl) (fun X hV C hF => ?_)
  subst hV
  have C : Ok X RX5 cX5_sheet 3 3 := C
  obtain ⟨M0, M1, Ms, Mt, Mr, Md, Ml⟩ := id hM
  obtain ⟨v0, v1, v2, v3, v4, v5, v6, v7, v8, v9, v10⟩ := id hv
  refine r_aload_n C dX5_sheet_0 rfl ?_
  refine r_iload_n C dX5_sheet_1 rfl ?_
  refine r_if_ge (tgt := 9) C dX5_sheet_2 (by decide) (by omega) (fun c2 => absurd c2 (by omega)) (fun c2 => ?_)
  refine r_iconst C dX5_sheet_5 ?_
  refine r_goto (tgt := 23) C dX5_sheet_6 (by decide) ?_
  refine r_runI (fun aH aL aj a1 a2 a3 => run_V C hF.2.2.1 (kX5_holds hM (x := 1) (by omega)) lm_X5_holds ml_X5_94 im_X5_holds se_X5_holds M1 rfl (Nat.le_of_ble_eq_true rfl) dX5_sheet_23 rfl (Nat.le_of_ble_eq_true rfl) a1 a2 a3) ?_
  rw [b01_f (show ¬ (1 : Int) = 0 by omega)]
  refine r_if_ne (tgt := 31) C dX5_sheet_26 (by decide) (by omega) (fun c26 => absurd c26 (by omega)) (fun c26 => ?_)
  refine r_iconst C dX5_sheet_29 ?_
  exact r_iretr C hF dX5_sheet_30 rfl (MR_th μ q _)
set_option maxRecDepth 20000 in
set_option maxHeartbeats 2000000 in
theorem kX5_sheet_2 {V : Wo} {μ : Mem} {q : Nat} (hM : MoS V q) {K : Int} (hv : veW K (μ (q + 1))) {k w : Int} (hr : inR k) (hr2 : inR w) (h : 0 ≤ k) (h2 : ¬ (0 ≤ w ∧ w ≤ 5)) : Con V 3 yX5_sheet cX5_sheet 3 (some .int) [vR q, vI k, vI w] (μ) (QIr V (0) ((fun ν => MR q μ ν 2 (μ q 2) (μ q 3) (μ q 5) (μ (q + 1)) (μ (q + 2))))) := by
  refine con_of (ls0 := [vR q, vI k, vI w]) (by decide +kernel) rfl (Nat.le_of_ble_eq_true rfl) (Nat.le_of_ble_eq_true rfl) (fun X hV C hF => ?_)
  subst hV
  have C : Ok X RX5 cX5_sheet 3 3 := C
  obtain ⟨M0, M1, Ms, Mt, Mr, Md, Ml⟩ := id hM
  obtain ⟨v0, v1, v2, v3, v4, v5, v6, v7, v8, v9, v10⟩ := id hv
  refine r_aload_n C dX5_sheet_0 rfl ?_
  refine r_iload_n C dX5_sheet_1 rfl ?_
  refine r_if_ge (tgt := 9) C dX5_sheet_2 (by decide) (by omega) (fun c2 => ?_) (fun c2 => absurd c2 (by omega))
  refine r_iload_n C dX5_sheet_9 rfl ?_
  refine r_iconst C dX5_sheet_10 ?_
  refine r_iconst C dX5_sheet_11 ?_
  refine r_runI (fun aH aL aj a1 a2 a3 => run_S C hF.2.2.1 (kX5_in (v := w) (l := 0) (u := 5) (by omega) (by omega) (by omega)) lm_X5_in ml_X5_29 sm_X5_in (Nat.le_of_ble_eq_true rfl) dX5_sheet_12 rfl (Nat.le_of_ble_eq_true rfl) a1 a2 a3) ?_
  rw [b01_f (by omega)]
  refine r_if_ne (tgt := 22) C dX5_sheet_15 (by decide) (by omega) (fun c15 => absurd c15 (by omega)) (fun c15 => ?_)
  refine r_iconst C dX5_sheet_18 ?_
  refine r_goto (tgt := 23) C dX5_sheet_19 (by decide) ?_
  refine r_runI (fun aH aL aj a1 a2 a3 => run_V C hF.2.2.1 (kX5_holds hM (x := 2) (by omega)) lm_X5_holds ml_X5_94 im_X5_holds se_X5_holds M1 rfl (Nat.le_of_ble_eq_true rfl) dX5_sheet_23 rfl (Nat.le_of_ble_eq_true rfl) a1 a2 a3) ?_
  rw [b01_f (show ¬ (2 : Int) = 0 by omega)]
  refine r_if_ne (tgt := 31) C dX5_sheet_26 (by decide) (by omega) (fun c26 => absurd c26 (by omega)) (fun c26 => ?_)
  refine r_iconst C dX5_sheet_29 ?_
  exact r_iretr C hF dX5_sheet_30 rfl (MR_th μ q _)
set_option maxRecDepth 20000 in
set_option maxHeartbeats 2000000 in
theorem kX5_sheet_3 {V : Wo} {μ : Mem} {q : Nat} (hM : MoS V q) {K : Int} (hv : veW K (μ (q + 1))) {k w : Int} (hr : inR k) (hr2 : inR w) (h : 0 ≤ k) (h2 : 0 ≤ w ∧ w ≤ 5) (h3 : ¬ k < (μ (q + 1)) 3) : Con V 3 yX5_sheet cX5_sheet 3 (some .int) [vR q, vI k, vI w] (μ) (QIr V (-1) ((fun ν => MR q μ ν 0 (μ q 2) (μ q 3) (μ q 5) (μ (q + 1)) (μ (q + 2))))) := by
  refine con_of (ls0 := [vR q, vI k, vI w]) (by decide +kernel) rfl (Nat.le_of_ble_eq_true rfl) (Nat.le_of_ble_eq_true rfl) (fun X hV C hF => ?_)
  subst hV
  have C : Ok X RX5 cX5_sheet 3 3 := C
  obtain ⟨M0, M1, Ms, Mt, Mr, Md, Ml⟩ := id hM
  obtain ⟨v0, v1, v2, v3, v4, v5, v6, v7, v8, v9, v10⟩ := id hv
  refine r_aload_n C dX5_sheet_0 rfl ?_
  refine r_iload_n C dX5_sheet_1 rfl ?_
  refine r_if_ge (tgt := 9) C dX5_sheet_2 (by decide) (by omega) (fun c2 => ?_) (fun c2 => absurd c2 (by omega))
  refine r_iload_n C dX5_sheet_9 rfl ?_
  refine r_iconst C dX5_sheet_10 ?_
  refine r_iconst C dX5_sheet_11 ?_
  refine r_runI (fun aH aL aj a1 a2 a3 => run_S C hF.2.2.1 (kX5_in (v := w) (l := 0) (u := 5) (by omega) (by omega) (by omega)) lm_X5_in ml_X5_29 sm_X5_in (Nat.le_of_ble_eq_true rfl) dX5_sheet_12 rfl (Nat.le_of_ble_eq_true rfl) a1 a2 a3) ?_
  rw [b01_t (by omega)]
  refine r_if_ne (tgt := 22) C dX5_sheet_15 (by decide) (by omega) (fun c15 => ?_) (fun c15 => absurd c15 (by omega))
  refine r_iconst C dX5_sheet_22 ?_
  refine r_runI (fun aH aL aj a1 a2 a3 => run_V C hF.2.2.1 (kX5_holds hM (x := 0) (by omega)) lm_X5_holds ml_X5_94 im_X5_holds se_X5_holds M1 rfl (Nat.le_of_ble_eq_true rfl) dX5_sheet_23 rfl (Nat.le_of_ble_eq_true rfl) a1 a2 a3) ?_
  rw [b01_t rfl]
  refine r_if_ne (tgt := 31) C dX5_sheet_26 (by decide) (by omega) (fun c26 => ?_) (fun c26 => absurd c26 (by omega))
  refine r_aload_n C dX5_sheet_31 rfl ?_
  refine r_iload_n C dX5_sheet_32 rfl ?_
  refine r_runI (fun aH aL aj a1 a2 a3 => run_V C hF.2.2.1 (kX5_isPlace hM (K := K) (by rw [wr_n _ _ (by omega)]; exact hv) (x := k) (by omega)) lm_X5_isPlace ml_X5_103 im_X5_isPlace se_X5_isPlace M1 rfl (Nat.le_of_ble_eq_true rfl) dX5_sheet_33 rfl (Nat.le_of_ble_eq_true rfl) a1 a2 a3) ?_
  rw [wr_n μ _ (show q + 1 ≠ q by omega)]
  rw [b01_f (by omega)]
  refine r_if_eq (tgt := 48) C dX5_sheet_36 (by decide) (by omega) (fun c36 => ?_) (fun c36 => absurd c36 (by omega))
  refine r_iconst C dX5_sheet_48 ?_
  exact r_iretr C hF dX5_sheet_49 rfl (MR_th μ q _)
set_option maxRecDepth 20000 in
set_option maxHeartbeats 2000000 in
theorem kX5_sheet_0 {V : Wo} {μ : Mem} {q : Nat} (hM : MoS V q) {K : Int} (hv : veW K (μ (q + 1))) {k w : Int} (hr : inR k) (hr2 : inR w) (h : 0 ≤ k) (h2 : 0 ≤ w ∧ w ≤ 5) (h3 : k < (μ (q + 1)) 3) : Con V 3 yX5_sheet cX5_sheet 3 (some .int) [vR q, vI k, vI w] (μ) (QIr V (ofS (μ (q + 1)) k w) ((fun ν => MR q μ ν 0 (μ q 2) (μ q 3) (μ q 5) (μ (q + 1)) (μ (q + 2))))) := by
  refine con_of (ls0 := [vR q, vI k, vI w]) (by decide +kernel) rfl (Nat.le_of_ble_eq_true rfl) (Nat.le_of_ble_eq_true rfl) (fun X hV C hF => ?_)
  subst hV
  have C : Ok X RX5 cX5_sheet 3 3 := C
  obtain ⟨M0, M1, Ms, Mt, Mr, Md, Ml⟩ := id hM
  obtain ⟨v0, v1, v2, v3, v4, v5, v6, v7, v8, v9, v10⟩ := id hv
  refine r_aload_n C dX5_sheet_0 rfl ?_
  refine r_iload_n C dX5_sheet_1 rfl ?_
  refine r_if_ge (tgt := 9) C dX5_sheet_2 (by decide) (by omega) (fun c2 => ?_) (fun c2 => absurd c2 (by omega))
  refine r_iload_n C dX5_sheet_9 rfl ?_
  refine r_iconst C dX5_sheet_10 ?_
  refine r_iconst C dX5_sheet_11 ?_
  refine r_runI (fun aH aL aj a1 a2 a3 => run_S C hF.2.2.1 (kX5_in (v := w) (l := 0) (u := 5) (by omega) (by omega) (by omega)) lm_X5_in ml_X5_29 sm_X5_in (Nat.le_of_ble_eq_true rfl) dX5_sheet_12 rfl (Nat.le_of_ble_eq_true rfl) a1 a2 a3) ?_
  rw [b01_t (by omega)]
  refine r_if_ne (tgt := 22) C dX5_sheet_15 (by decide) (by omega) (fun c15 => ?_) (fun c15 => absurd c15 (by omega))
  refine r_iconst C dX5_sheet_22 ?_
  refine r_runI (fun aH aL aj a1 a2 a3 => run_V C hF.2.2.1 (kX5_holds hM (x := 0) (by omega)) lm_X5_holds ml_X5_94 im_X5_holds se_X5_holds M1 rfl (Nat.le_of_ble_eq_true rfl) dX5_sheet_23 rfl (Nat.le_of_ble_eq_true rfl) a1 a2 a3) ?_
  rw [b01_t rfl]
  refine r_if_ne (tgt := 31) C dX5_sheet_26 (by decide) (by omega) (fun c26 => ?_) (fun c26 => absurd c26 (by omega))
  refine r_aload_n C dX5_sheet_31 rfl ?_
  refine r_iload_n C dX5_sheet_32 rfl ?_
  refine r_runI (fun aH aL aj a1 a2 a3 => run_V C hF.2.2.1 (kX5_isPlace hM (K := K) (by rw [wr_n _ _ (by omega)]; exact hv) (x := k) (by omega)) lm_X5_isPlace ml_X5_103 im_X5_isPlace se_X5_isPlace M1 rfl (Nat.le_of_ble_eq_true rfl) dX5_sheet_33 rfl (Nat.le_of_ble_eq_true rfl) a1 a2 a3) ?_
  rw [wr_n μ _ (show q + 1 ≠ q by omega)]
  rw [b01_t (by omega)]
  refine r_if_eq (tgt := 48) C dX5_sheet_36 (by decide) (by omega) (fun c36 => absurd c36 (by omega)) (fun c36 => ?_)
  refine r_aload_n C dX5_sheet_39 rfl ?_
  refine r_iload_n C dX5_sheet_40 rfl ?_
  refine r_iload_n C dX5_sheet_41 rfl ?_
  refine r_runIr (fun aH aL aj a1 a2 a3 => run_V C hF.2.2.1 (kX5_ofSheet hM (K := K) (by rw [wr_n _ _ (by omega)]; exact hv) h (by rw [wr_n _ _ (by omega)]; exact h3) h2.1 h2.2) lm_X5_ofSheet ml_X5_162 im_X5_ofSheet se_X5_ofSheet M1 rfl (Nat.le_of_ble_eq_true rfl) dX5_sheet_42 rfl (Nat.le_of_ble_eq_true rfl) a1 a2 a3) (fun ν N => ?_)
  rw [wr_n μ _ (show q + 1 ≠ q by omega)]
  refine r_goto (tgt := 49) C dX5_sheet_45 (by decide) ?_
  exact r_iretr C hF dX5_sheet_49 rfl (MR_U (MR_th μ q _) N)
set_option maxRecDepth 20000 in
set_option maxHeartbeats 2000000 in
theorem kX5_counted {V : Wo} {μ : Mem} {q : Nat} (hM : MoS V q) {K : Int} (hv : veW K (μ (q + 1))) {w : Int} (hw : 0 ≤ w) (hw2 : w ≤ 15) : Con V 5 yX5_counted cX5_counted 2 (some .int) [vR q, vI w] (μ) (QIr V (coT (μ (q + 1)) (μ q 2) w) ((MU q μ))) := by
  refine con_of (ls0 := [vR q, vI w]) (by decide +kernel) rfl (Nat.le_of_ble_eq_true rfl) (Nat.le_of_ble_eq_true rfl) (fun X hV C hF => ?_)
  subst hV
  have C : Ok X RX5 cX5_counted 2 5 := C
  obtain ⟨M0, M1, Ms, Mt, Mr, Md, Ml⟩ := id hM
  obtain ⟨v0, v1, v2, v3, v4, v5, v6, v7, v8, v9, v10⟩ := id hv
  have hL := (lay_W (μ := μ) (q := q) (p := -1) (by omega) hv).1
  have hvl : veW K ((lay μ q (-1) ((μ (q + 1)) 3)) (q + 1)) := by rw [lay_1]; exact hv
  have el : (lay μ q (-1) ((μ (q + 1)) 3)) q 12 = (μ (q + 1)) 3 := by rw [lay_q12, lc_m1]
  refine r_aload_n C dX5_counted_0 rfl ?_
  refine r_iconst C dX5_counted_1 ?_
  refine r_runV (fun aH aL aj a1 a2 a3 => run_V C hF.2.2.1 (kX5_laysOut hM hv (by omega) (by omega)) lm_X5_laysOut ml_X5_71 im_X5_laysOut se_X5_laysOut M1 rfl (Nat.le_of_ble_eq_true rfl) dX5_counted_2 rfl (Nat.le_of_ble_eq_true rfl) a1 a2 a3) ?_
  refine r_iload_n C dX5_counted_5 rfl ?_
  have hw3 : w = 0 ∨ w = 1 ∨ w = 2 ∨ w = 3 ∨ w = 4 ∨ w = 5 ∨ w = 6 ∨ w = 7 ∨ w = 8 ∨ w = 9 ∨ w = 10 ∨ w = 11 ∨ w = 12 ∨ w = 13 ∨ w = 14 ∨ w = 15 := by omega
  rcases hw3 with e | e | e | e | e | e | e | e | e | e | e | e | e | e | e | e
  · rw [e]
    refine r_tsIn (tgt := 80) C dX5_counted_6 (by omega) (by omega) (by omega) rfl (by decide) ?_
    refine r_aload_n C dX5_counted_80 rfl ?_
    refine gf_X5_33 C M1 dX5_counted_81 ?_
    rw [el]
    exact r_iretr C hF dX5_counted_84 (by
            unfold coT
            rw [if_pos e]
            skip) (MU_lay ..)
  · rw [e]
    refine r_tsIn (tgt := 85) C dX5_counted_6 (by omega) (by omega) (by omega) rfl (by decide) ?_
    refine r_aload_n C dX5_counted_85 rfl ?_
    refine r_runI (fun aH aL aj a1 a2 a3 => run_V C hF.2.2.1 (kX5_breaks hM hvl hL) lm_X5_breaks ml_X5_75 im_X5_breaks se_X5_breaks M1 rfl (Nat.le_of_ble_eq_true rfl) dX5_counted_86 rfl (Nat.le_of_ble_eq_true rfl) a1 a2 a3) ?_
    rw [el, lay_1, brks_cong (a' := vN (μ (q + 1))) (d' := vD (μ (q + 1))) lay_N lay_D]
    exact r_iretr C hF dX5_counted_89 (by
            unfold coT
            rw [if_neg (show ¬ w = 0 by omega), if_pos e]
            skip) (MU_lay ..)
  · rw [e]
    refine r_tsIn (tgt := 90) C dX5_counted_6 (by omega) (by omega) (by omega) rfl (by decide) ?_
    refine r_aload_n C dX5_counted_90 rfl ?_
    refine r_runI (fun aH aL aj a1 a2 a3 => run_V C hF.2.2.1 (kX5_fault hM hvl hL) lm_X5_fault ml_X5_78 im_X5_fault se_X5_fault M1 rfl (Nat.le_of_ble_eq_true rfl) dX5_counted_91 rfl (Nat.le_of_ble_eq_true rfl) a1 a2 a3) ?_
    rw [el, lay_1, flt_cong (a' := vN (μ (q + 1))) (d' := vD (μ (q + 1))) lay_N lay_D]
    exact r_iretr C hF dX5_counted_94 (by
            unfold coT
            rw [if_neg (show ¬ w = 0 by omega), if_neg (show ¬ w = 1 by omega), if_pos e]
            skip) (MU_lay ..)
  · rw [e]
    refine r_tsIn (tgt := 95) C dX5_counted_6 (by omega) (by omega) (by omega) rfl (by decide) ?_
    refine r_aload_n C dX5_counted_95 rfl ?_
    refine r_runI (fun aH aL aj a1 a2 a3 => run_V C hF.2.2.1 (kX5_faultPlace hM hvl hL) lm_X5_faultPlace ml_X5_171 im_X5_faultPlace se_X5_faultPlace M1 rfl (Nat.le_of_ble_eq_true rfl) dX5_counted_96 rfl (Nat.le_of_ble_eq_true rfl) a1 a2 a3) ?_
    rw [el, lay_1, plf_cong (a' := vN (μ (q + 1))) (d' := vD (μ (q + 1))) lay_N lay_D]
    exact r_iretr C hF dX5_counted_99 (by
            unfold coT
            rw [if_neg (show ¬ w = 0 by omega), if_neg (show ¬ w = 1 by omega), if_neg (show ¬ w = 2 by omega), if_pos e]
            skip) (MU_lay ..)
  · rw [e]
    refine r_tsIn (tgt := 100) C dX5_counted_6 (by omega) (by omega) (by omega) rfl (by decide) ?_
    refine r_aload_n C dX5_counted_100 rfl ?_
    refine r_runI (fun aH aL aj a1 a2 a3 => run_V C hF.2.2.1 (kX5_missing hM hvl hL) lm_X5_missing ml_X5_51 im_X5_missing se_X5_missing M1 rfl (Nat.le_of_ble_eq_true rfl) dX5_counted_101 rfl (Nat.le_of_ble_eq_true rfl) a1 a2 a3) ?_
    rw [el, lay_1, misS_cong (a' := vN (μ (q + 1))) lay_N]
    exact r_iretr C hF dX5_counted_104 (by
            unfold coT
            rw [if_neg (show ¬ w = 0 by omega), if_neg (show ¬ w = 1 by omega), if_neg (show ¬ w = 2 by omega), if_neg (show ¬ w = 3 by omega), if_pos e]
            skip) (MU_lay ..)
  · rw [e]
    refine r_tsIn (tgt := 105) C dX5_counted_6 (by omega) (by omega) (by omega) rfl (by decide) ?_
    refine r_aload_n C dX5_counted_105 rfl ?_
    refine r_runI (fun aH aL aj a1 a2 a3 => run_V C hF.2.2.1 (kX5_fault hM hvl hL) lm_X5_fault ml_X5_78 im_X5_fault se_X5_fault M1 rfl (Nat.le_of_ble_eq_true rfl) dX5_counted_106 rfl (Nat.le_of_ble_eq_true rfl) a1 a2 a3) ?_
    rw [el, lay_1, flt_cong (a' := vN (μ (q + 1))) (d' := vD (μ (q + 1))) lay_N lay_D]
    refine r_if_le (tgt := 123) C dX5_counted_109 (by decide) (by have := flt_r ((μ (q + 1)) 0) (vN (μ (q + 1))) (vD (μ (q + 1))) ((μ (q + 1)) 3); omega) (fun c109 => ?_) (fun c109 => ?_)
    · skip
      refine r_iconst C dX5_counted_123 ?_
      exact r_iretr C hF dX5_counted_124 (by
              unfold coT
              rw [if_neg (show ¬ w = 0 by omega), if_neg (show ¬ w = 1 by omega), if_neg (show ¬ w = 2 by omega), if_neg (show ¬ w = 3 by omega), if_neg (show ¬ w = 4 by omega), if_pos e]
              rw [b01_f (by omega)]) (MU_lay ..)
    · have _ := c109
      refine r_aload_n C dX5_counted_112 rfl ?_
      refine r_runI (fun aH aL aj a1 a2 a3 => run_V C hF.2.2.1 (kX5_breaks hM hvl hL) lm_X5_breaks ml_X5_75 im_X5_breaks se_X5_breaks M1 rfl (Nat.le_of_ble_eq_true rfl) dX5_counted_113 rfl (Nat.le_of_ble_eq_true rfl) a1 a2 a3) ?_
      rw [el, lay_1, brks_cong (a' := vN (μ (q + 1))) (d' := vD (μ (q + 1))) lay_N lay_D]
      refine r_if_ne (tgt := 123) C dX5_counted_116 (by decide) (by have := cn_bd (fun k => brk ((μ (q + 1)) 1) (vN (μ (q + 1))) (vD (μ (q + 1))) k) v4.1; unfold brks; omega) (fun c116 => ?_) (fun c116 => ?_)
      · skip
        refine r_iconst C dX5_counted_123 ?_
        exact r_iretr C hF dX5_counted_124 (by
                unfold coT
                rw [if_neg (show ¬ w = 0 by omega), if_neg (show ¬ w = 1 by omega), if_neg (show ¬ w = 2 by omega), if_neg (show ¬ w = 3 by omega), if_neg (show ¬ w = 4 by omega), if_pos e]
                rw [b01_f (by omega)]) (MU_lay ..)
      · skip
        refine r_iconst C dX5_counted_119 ?_
        refine r_goto (tgt := 124) C dX5_counted_120 (by decide) ?_
        exact r_iretr C hF dX5_counted_124 (by
                unfold coT
                rw [if_neg (show ¬ w = 0 by omega), if_neg (show ¬ w = 1 by omega), if_neg (show ¬ w = 2 by omega), if_neg (show ¬ w = 3 by omega), if_neg (show ¬ w = 4 by omega), if_pos e]
                rw [b01_t (by omega)]) (MU_lay ..)
  · rw [e]
    refine r_tsIn (tgt := 125) C dX5_counted_6 (by omega) (by omega) (by omega) rfl (by decide) ?_
    refine r_aload_n C dX5_counted_125 rfl ?_
    refine r_runI (fun aH aL aj a1 a2 a3 => run_V C hF.2.2.1 (kX5_fewest hM hL) lm_X5_fewest ml_X5_174 im_X5_fewest se_X5_fewest M1 rfl (Nat.le_of_ble_eq_true rfl) dX5_counted_126 rfl (Nat.le_of_ble_eq_true rfl) a1 a2 a3) ?_
    exact r_iretr C hF dX5_counted_129 (by
            unfold coT
            rw [if_neg (show ¬ w = 0 by omega), if_neg (show ¬ w = 1 by omega), if_neg (show ¬ w = 2 by omega), if_neg (show ¬ w = 3 by omega), if_neg (show ¬ w = 4 by omega), if_neg (show ¬ w = 5 by omega), if_pos (show w = 6 ∨ w = 7 by omega)]
            rw [el, lis_e v4.1 lay_N]) (MU_tr (MU_lay ..) (MU_5 ..))
  · rw [e]
    refine r_tsIn (tgt := 125) C dX5_counted_6 (by omega) (by omega) (by omega) rfl (by decide) ?_
    refine r_aload_n C dX5_counted_125 rfl ?_
    refine r_runI (fun aH aL aj a1 a2 a3 => run_V C hF.2.2.1 (kX5_fewest hM hL) lm_X5_fewest ml_X5_174 im_X5_fewest se_X5_fewest M1 rfl (Nat.le_of_ble_eq_true rfl) dX5_counted_126 rfl (Nat.le_of_ble_eq_true rfl) a1 a2 a3) ?_
    exact r_iretr C hF dX5_counted_129 (by
            unfold coT
            rw [if_neg (show ¬ w = 0 by omega), if_neg (show ¬ w = 1 by omega), if_neg (show ¬ w = 2 by omega), if_neg (show ¬ w = 3 by omega), if_neg (show ¬ w = 4 by omega), if_neg (show ¬ w = 5 by omega), if_pos (show w = 6 ∨ w = 7 by omega)]
            rw [el, lis_e v4.1 lay_N]) (MU_tr (MU_lay ..) (MU_5 ..))
  · rw [e]
    refine r_tsIn (tgt := 130) C dX5_counted_6 (by omega) (by omega) (by omega) rfl (by decide) ?_
    refine r_aload_n C dX5_counted_130 rfl ?_
    refine r_runI (fun aH aL aj a1 a2 a3 => run_V C hF.2.2.1 (kX5_pairs hM hL) lm_X5_pairs ml_X5_177 im_X5_pairs se_X5_pairs M1 rfl (Nat.le_of_ble_eq_true rfl) dX5_counted_131 rfl (Nat.le_of_ble_eq_true rfl) a1 a2 a3) ?_
    rw [el, pr_cong (a' := vN (μ (q + 1))) lay_N]
    exact r_iretr C hF dX5_counted_134 (by
            unfold coT
            rw [if_neg (show ¬ w = 0 by omega), if_neg (show ¬ w = 1 by omega), if_neg (show ¬ w = 2 by omega), if_neg (show ¬ w = 3 by omega), if_neg (show ¬ w = 4 by omega), if_neg (show ¬ w = 5 by omega), if_neg (show ¬ (w = 6 ∨ w = 7) by omega), if_pos e]
            skip) (MU_lay ..)
  · rw [e]
    refine r_tsIn (tgt := 135) C dX5_counted_6 (by omega) (by omega) (by omega) rfl (by decide) ?_
    refine r_aload_n C dX5_counted_135 rfl ?_
    refine r_runI (fun aH aL aj a1 a2 a3 => run_V C hF.2.2.1 (kX5_stitches hM hvl hL) lm_X5_stitches ml_X5_65 im_X5_stitches se_X5_stitches M1 rfl (Nat.le_of_ble_eq_true rfl) dX5_counted_136 rfl (Nat.le_of_ble_eq_true rfl) a1 a2 a3) ?_
    rw [el, lay_1, stS_cong (a' := vN (μ (q + 1))) lay_N]
    exact r_iretr C hF dX5_counted_139 (by
            unfold coT
            rw [if_neg (show ¬ w = 0 by omega), if_neg (show ¬ w = 1 by omega), if_neg (show ¬ w = 2 by omega), if_neg (show ¬ w = 3 by omega), if_neg (show ¬ w = 4 by omega), if_neg (show ¬ w = 5 by omega), if_neg (show ¬ (w = 6 ∨ w = 7) by omega), if_neg (show ¬ w = 8 by omega), if_pos e]
            skip) (MU_lay ..)
  · rw [e]
    refine r_tsIn (tgt := 140) C dX5_counted_6 (by omega) (by omega) (by omega) rfl (by decide) ?_
    refine r_aload_n C dX5_counted_140 rfl ?_
    refine r_runI (fun aH aL aj a1 a2 a3 => run_V C hF.2.2.1 (kX5_thread hM hvl hL) lm_X5_thread ml_X5_180 im_X5_thread se_X5_thread M1 rfl (Nat.le_of_ble_eq_true rfl) dX5_counted_141 rfl (Nat.le_of_ble_eq_true rfl) a1 a2 a3) ?_
    rw [el, lay_1, thS_cong (a' := vN (μ (q + 1))) lay_N]
    exact r_iretr C hF dX5_counted_144 (by
            unfold coT
            rw [if_neg (show ¬ w = 0 by omega), if_neg (show ¬ w = 1 by omega), if_neg (show ¬ w = 2 by omega), if_neg (show ¬ w = 3 by omega), if_neg (show ¬ w = 4 by omega), if_neg (show ¬ w = 5 by omega), if_neg (show ¬ (w = 6 ∨ w = 7) by omega), if_neg (show ¬ w = 8 by omega), if_neg (show ¬ w = 9 by omega), if_pos e]
            skip) (MU_lay ..)
  · rw [e]
    refine r_tsIn (tgt := 145) C dX5_counted_6 (by omega) (by omega) (by omega) rfl (by decide) ?_
    refine r_aload_n C dX5_counted_145 rfl ?_
    refine r_runI (fun aH aL aj a1 a2 a3 => run_V C hF.2.2.1 (kX5_loose hM hvl hL) lm_X5_loose ml_X5_183 im_X5_loose se_X5_loose M1 rfl (Nat.le_of_ble_eq_true rfl) dX5_counted_146 rfl (Nat.le_of_ble_eq_true rfl) a1 a2 a3) ?_
    rw [el, lay_1, lsS_cong (a' := vN (μ (q + 1))) lay_N]
    exact r_iretr C hF dX5_counted_149 (by
            unfold coT
            rw [if_neg (show ¬ w = 0 by omega), if_neg (show ¬ w = 1 by omega), if_neg (show ¬ w = 2 by omega), if_neg (show ¬ w = 3 by omega), if_neg (show ¬ w = 4 by omega), if_neg (show ¬ w = 5 by omega), if_neg (show ¬ (w = 6 ∨ w = 7) by omega), if_neg (show ¬ w = 8 by omega), if_neg (show ¬ w = 9 by omega), if_neg (show ¬ w = 10 by omega), if_pos e]
            skip) (MU_lay ..)
  · rw [e]
    refine r_tsIn (tgt := 150) C dX5_counted_6 (by omega) (by omega) (by omega) rfl (by decide) ?_
    refine r_aload_n C dX5_counted_150 rfl ?_
    refine gf_X5_7 C M1 dX5_counted_151 ?_
    refine r_iconst C dX5_counted_154 ?_
    refine r_iald C Ms (by omega) (by omega) dX5_counted_155 ?_
    rw [lay_1]
    exact r_iretr C hF dX5_counted_156 (by
            unfold coT
            rw [if_neg (show ¬ w = 0 by omega), if_neg (show ¬ w = 1 by omega), if_neg (show ¬ w = 2 by omega), if_neg (show ¬ w = 3 by omega), if_neg (show ¬ w = 4 by omega), if_neg (show ¬ w = 5 by omega), if_neg (show ¬ (w = 6 ∨ w = 7) by omega), if_neg (show ¬ w = 8 by omega), if_neg (show ¬ w = 9 by omega), if_neg (show ¬ w = 10 by omega), if_neg (show ¬ w = 11 by omega), if_pos e]
            skip) (MU_lay ..)
  · rw [e]
    refine r_tsIn (tgt := 157) C dX5_counted_6 (by omega) (by omega) (by omega) rfl (by decide) ?_
    refine r_aload_n C dX5_counted_157 rfl ?_
    refine r_runI (fun aH aL aj a1 a2 a3 => run_V C hF.2.2.1 (kX5_boundSheets hM hvl) lm_X5_boundSheets ml_X5_186 im_X5_boundSheets se_X5_boundSheets M1 rfl (Nat.le_of_ble_eq_true rfl) dX5_counted_158 rfl (Nat.le_of_ble_eq_true rfl) a1 a2 a3) ?_
    rw [lay_1]
    exact r_iretr C hF dX5_counted_161 (by
            unfold coT
            rw [if_neg (show ¬ w = 0 by omega), if_neg (show ¬ w = 1 by omega), if_neg (show ¬ w = 2 by omega), if_neg (show ¬ w = 3 by omega), if_neg (show ¬ w = 4 by omega), if_neg (show ¬ w = 5 by omega), if_neg (show ¬ (w = 6 ∨ w = 7) by omega), if_neg (show ¬ w = 8 by omega), if_neg (show ¬ w = 9 by omega), if_neg (show ¬ w = 10 by omega), if_neg (show ¬ w = 11 by omega), if_neg (show ¬ w = 12 by omega), if_pos e]
            skip) (MU_lay ..)
  · rw [e]
    refine r_tsIn (tgt := 162) C dX5_counted_6 (by omega) (by omega) (by omega) rfl (by decide) ?_
    refine r_aload_n C dX5_counted_162 rfl ?_
    refine gf_X5_7 C M1 dX5_counted_163 ?_
    refine r_iconst C dX5_counted_166 ?_
    refine r_iald C Ms (by omega) (by omega) dX5_counted_167 ?_
    rw [lay_1]
    exact r_iretr C hF dX5_counted_168 (by
            unfold coT
            rw [if_neg (show ¬ w = 0 by omega), if_neg (show ¬ w = 1 by omega), if_neg (show ¬ w = 2 by omega), if_neg (show ¬ w = 3 by omega), if_neg (show ¬ w = 4 by omega), if_neg (show ¬ w = 5 by omega), if_neg (show ¬ (w = 6 ∨ w = 7) by omega), if_neg (show ¬ w = 8 by omega), if_neg (show ¬ w = 9 by omega), if_neg (show ¬ w = 10 by omega), if_neg (show ¬ w = 11 by omega), if_neg (show ¬ w = 12 by omega), if_neg (show ¬ w = 13 by omega), if_pos e]
            skip) (MU_lay ..)
  · rw [e]
    refine r_tsOut (tgt := 169) C dX5_counted_6 (by omega) (by omega) (by decide) ?_
    refine r_aload_n C dX5_counted_169 rfl ?_
    refine gf_X5_81 C M1 dX5_counted_170 ?_
    rw [lay_q, s1_n _ _ (by omega)]
    exact r_iretr C hF dX5_counted_173 (by
            unfold coT
            rw [if_neg (show ¬ w = 0 by omega), if_neg (show ¬ w = 1 by omega), if_neg (show ¬ w = 2 by omega), if_neg (show ¬ w = 3 by omega), if_neg (show ¬ w = 4 by omega), if_neg (show ¬ w = 5 by omega), if_neg (show ¬ (w = 6 ∨ w = 7) by omega), if_neg (show ¬ w = 8 by omega), if_neg (show ¬ w = 9 by omega), if_neg (show ¬ w = 10 by omega), if_neg (show ¬ w = 11 by omega), if_neg (show ¬ w = 12 by omega), if_neg (show ¬ w = 13 by omega), if_neg (show ¬ w = 14 by omega)]
            skip) (MU_lay ..)
set_option maxRecDepth 20000 in
set_option maxHeartbeats 2000000 in
theorem kX5_count_1 {V : Wo} {μ : Mem} {q : Nat} (hM : MoS V q) {K : Int} (hv : veW K (μ (q + 1))) {w : Int} (hr : inR w) (h : ¬ (0 ≤ w ∧ w ≤ 15)) : Con V 6 yX5_count cX5_count 2 (some .int) [vR q, vI w] (μ) (QIr V (0) ((fun ν => MR q μ ν 1 (μ q 2) (μ q 3) (μ q 5) (μ (q + 1)) (μ (q + 2))))) := by
  refine con_of (ls0 := [vR q, vI w]) (by decide +kernel) rfl (Nat.le_of_ble_eq_true rfl) (Nat.le_of_ble_eq_true rfl) (fun X hV C hF => ?_)
  subst hV
  have C : Ok X RX5 cX5_count 2 6 := C
  obtain ⟨M0, M1, Ms, Mt, Mr, Md, Ml⟩ := id hM
  obtain ⟨v0, v1, v2, v3, v4, v5, v6, v7, v8, v9, v10⟩ := id hv
  refine r_aload_n C dX5_count_0 rfl ?_
  refine r_iload_n C dX5_count_1 rfl ?_
  refine r_iconst C dX5_count_2 ?_
  refine r_bipush C dX5_count_3 rfl ?_
  refine r_runI (fun aH aL aj a1 a2 a3 => run_S C hF.2.2.1 (kX5_in (v := w) (l := 0) (u := 15) (by omega) (by omega) (by omega)) lm_X5_in ml_X5_29 sm_X5_in (Nat.le_of_ble_eq_true rfl) dX5_count_5 rfl (Nat.le_of_ble_eq_true rfl) a1 a2 a3) ?_
  rw [b01_f (by omega)]
  refine r_if_eq (tgt := 15) C dX5_count_8 (by decide) (by omega) (fun c8 => ?_) (fun c8 => absurd c8 (by omega))
  refine r_iconst C dX5_count_15 ?_
  refine r_runI (fun aH aL aj a1 a2 a3 => run_V C hF.2.2.1 (kX5_holds hM (x := 1) (by omega)) lm_X5_holds ml_X5_94 im_X5_holds se_X5_holds M1 rfl (Nat.le_of_ble_eq_true rfl) dX5_count_16 rfl (Nat.le_of_ble_eq_true rfl) a1 a2 a3) ?_
  rw [b01_f (show ¬ (1 : Int) = 0 by omega)]
  refine r_if_eq (tgt := 30) C dX5_count_19 (by decide) (by omega) (fun c19 => ?_) (fun c19 => absurd c19 (by omega))
  refine r_iconst C dX5_count_30 ?_
  exact r_iretr C hF dX5_count_31 rfl (MR_th μ q _)
set_option maxRecDepth 20000 in
set_option maxHeartbeats 2000000 in
theorem kX5_count_0 {V : Wo} {μ : Mem} {q : Nat} (hM : MoS V q) {K : Int} (hv : veW K (μ (q + 1))) {w : Int} (hr : inR w) (h : 0 ≤ w ∧ w ≤ 15) : Con V 6 yX5_count cX5_count 2 (some .int) [vR q, vI w] (μ) (QIr V (coT (μ (q + 1)) (μ q 2) w) ((fun ν => MR q μ ν 0 (μ q 2) (μ q 3) (μ q 5) (μ (q + 1)) (μ (q + 2))))) := by
  refine con_of (ls0 := [vR q, vI w]) (by decide +kernel) rfl (Nat.le_of_ble_eq_true rfl) (Nat.le_of_ble_eq_true rfl) (fun X hV C hF => ?_)
  subst hV
  have C : Ok X RX5 cX5_count 2 6 := C
  obtain ⟨M0, M1, Ms, Mt, Mr, Md, Ml⟩ := id hM
  obtain ⟨v0, v1, v2, v3, v4, v5, v6, v7, v8, v9, v10⟩ := id hv
  refine r_aload_n C dX5_count_0 rfl ?_
  refine r_iload_n C dX5_count_1 rfl ?_
  refine r_iconst C dX5_count_2 ?_
  refine r_bipush C dX5_count_3 rfl ?_
  refine r_runI (fun aH aL aj a1 a2 a3 => run_S C hF.2.2.1 (kX5_in (v := w) (l := 0) (u := 15) (by omega) (by omega) (by omega)) lm_X5_in ml_X5_29 sm_X5_in (Nat.le_of_ble_eq_true rfl) dX5_count_5 rfl (Nat.le_of_ble_eq_true rfl) a1 a2 a3) ?_
  rw [b01_t (by omega)]
  refine r_if_eq (tgt := 15) C dX5_count_8 (by decide) (by omega) (fun c8 => absurd c8 (by omega)) (fun c8 => ?_)
  refine r_iconst C dX5_count_11 ?_
  refine r_goto (tgt := 16) C dX5_count_12 (by decide) ?_
  refine r_runI (fun aH aL aj a1 a2 a3 => run_V C hF.2.2.1 (kX5_holds hM (x := 0) (by omega)) lm_X5_holds ml_X5_94 im_X5_holds se_X5_holds M1 rfl (Nat.le_of_ble_eq_true rfl) dX5_count_16 rfl (Nat.le_of_ble_eq_true rfl) a1 a2 a3) ?_
  rw [b01_t rfl]
  refine r_if_eq (tgt := 30) C dX5_count_19 (by decide) (by omega) (fun c19 => absurd c19 (by omega)) (fun c19 => ?_)
  refine r_aload_n C dX5_count_22 rfl ?_
  refine r_iload_n C dX5_count_23 rfl ?_
  refine r_runIr (fun aH aL aj a1 a2 a3 => run_V C hF.2.2.1 (kX5_counted hM (K := K) (by rw [wr_n _ _ (by omega)]; exact hv) h.1 h.2) lm_X5_counted ml_X5_189 im_X5_counted se_X5_counted M1 rfl (Nat.le_of_ble_eq_true rfl) dX5_count_24 rfl (Nat.le_of_ble_eq_true rfl) a1 a2 a3) (fun ν N => ?_)
  rw [wr_n μ _ (show q + 1 ≠ q by omega)]
  rw [wr_s μ q, s1_n (μ q) 0 (show (2 : Int) ≠ 0 by omega)]
  refine r_goto (tgt := 31) C dX5_count_27 (by decide) ?_
  exact r_iretr C hF dX5_count_31 rfl (MR_U (MR_th μ q _) N)
set_option maxRecDepth 20000 in
set_option maxHeartbeats 2000000 in
theorem kX5_setting_1 {V : Wo} {μ : Mem} {q : Nat} (hM : MoS V q) {K : Int} (hv : veW K (μ (q + 1))) {x : Int} (hr : inR x) (h : ¬ (0 ≤ x ∧ x < 3)) : Con V 1 yX5_setting cX5_setting 2 (some .int) [vR q, vI x] (μ) (QIr V (0) ((fun ν => MR q μ ν 1 (μ q 2) (μ q 3) (μ q 5) (μ (q + 1)) (μ (q + 2))))) := by
  refine con_of (ls0 := [vR q, vI x]) (by decide +kernel) rfl (Nat.le_of_ble_eq_true rfl) (Nat.le_of_ble_eq_true rfl) (fun X hV C hF => ?_)
  subst hV
  have C : Ok X RX5 cX5_setting 2 1 := C
  obtain ⟨M0, M1, Ms, Mt, Mr, Md, Ml⟩ := id hM
  obtain ⟨v0, v1, v2, v3, v4, v5, v6, v7, v8, v9, v10⟩ := id hv
  refine r_aload_n C dX5_setting_0 rfl ?_
  refine r_iload_n C dX5_setting_1 rfl ?_
  refine r_iconst C dX5_setting_2 ?_
  refine r_iconst C dX5_setting_3 ?_
  refine r_runI (fun aH aL aj a1 a2 a3 => run_S C hF.2.2.1 (kX5_in (v := x) (l := 0) (u := 2) (by omega) (by omega) (by omega)) lm_X5_in ml_X5_29 sm_X5_in (Nat.le_of_ble_eq_true rfl) dX5_setting_4 rfl (Nat.le_of_ble_eq_true rfl) a1 a2 a3) ?_
  rw [b01_f (by omega)]
  refine r_if_eq (tgt := 14) C dX5_setting_7 (by decide) (by omega) (fun c7 => ?_) (fun c7 => absurd c7 (by omega))
  refine r_iconst C dX5_setting_14 ?_
  refine r_runI (fun aH aL aj a1 a2 a3 => run_V C hF.2.2.1 (kX5_holds hM (x := 1) (by omega)) lm_X5_holds ml_X5_94 im_X5_holds se_X5_holds M1 rfl (Nat.le_of_ble_eq_true rfl) dX5_setting_15 rfl (Nat.le_of_ble_eq_true rfl) a1 a2 a3) ?_
  rw [b01_f (show ¬ (1 : Int) = 0 by omega)]
  refine r_if_eq (tgt := 32) C dX5_setting_18 (by decide) (by omega) (fun c18 => ?_) (fun c18 => absurd c18 (by omega))
  refine r_iconst C dX5_setting_32 ?_
  exact r_iretr C hF dX5_setting_33 rfl (MR_th μ q _)
set_option maxRecDepth 20000 in
set_option maxHeartbeats 2000000 in
theorem kX5_setting_0 {V : Wo} {μ : Mem} {q : Nat} (hM : MoS V q) {K : Int} (hv : veW K (μ (q + 1))) {x : Int} (hr : inR x) (h : 0 ≤ x ∧ x < 3) : Con V 1 yX5_setting cX5_setting 2 (some .int) [vR q, vI x] (μ) (QIr V ((μ (q + 1)) x) ((fun ν => MR q μ ν 0 (μ q 2) (μ q 3) (μ q 5) (μ (q + 1)) (μ (q + 2))))) := by
  refine con_of (ls0 := [vR q, vI x]) (by decide +kernel) rfl (Nat.le_of_ble_eq_true rfl) (Nat.le_of_ble_eq_true rfl) (fun X hV C hF => ?_)
  subst hV
  have C : Ok X RX5 cX5_setting 2 1 := C
  obtain ⟨M0, M1, Ms, Mt, Mr, Md, Ml⟩ := id hM
  obtain ⟨v0, v1, v2, v3, v4, v5, v6, v7, v8, v9, v10⟩ := id hv
  refine r_aload_n C dX5_setting_0 rfl ?_
  refine r_iload_n C dX5_setting_1 rfl ?_
  refine r_iconst C dX5_setting_2 ?_
  refine r_iconst C dX5_setting_3 ?_
  refine r_runI (fun aH aL aj a1 a2 a3 => run_S C hF.2.2.1 (kX5_in (v := x) (l := 0) (u := 2) (by omega) (by omega) (by omega)) lm_X5_in ml_X5_29 sm_X5_in (Nat.le_of_ble_eq_true rfl) dX5_setting_4 rfl (Nat.le_of_ble_eq_true rfl) a1 a2 a3) ?_
  rw [b01_t (by omega)]
  refine r_if_eq (tgt := 14) C dX5_setting_7 (by decide) (by omega) (fun c7 => absurd c7 (by omega)) (fun c7 => ?_)
  refine r_iconst C dX5_setting_10 ?_
  refine r_goto (tgt := 15) C dX5_setting_11 (by decide) ?_
  refine r_runI (fun aH aL aj a1 a2 a3 => run_V C hF.2.2.1 (kX5_holds hM (x := 0) (by omega)) lm_X5_holds ml_X5_94 im_X5_holds se_X5_holds M1 rfl (Nat.le_of_ble_eq_true rfl) dX5_setting_15 rfl (Nat.le_of_ble_eq_true rfl) a1 a2 a3) ?_
  rw [b01_t rfl]
  refine r_if_eq (tgt := 32) C dX5_setting_18 (by decide) (by omega) (fun c18 => absurd c18 (by omega)) (fun c18 => ?_)
  refine r_aload_n C dX5_setting_21 rfl ?_
  refine gf_X5_7 C M1 dX5_setting_22 ?_
  refine r_iconst C dX5_setting_25 ?_
  refine r_iload_n C dX5_setting_26 rfl ?_
  refine r_iadd C dX5_setting_27 ?_
  refine r_iald C Ms (by omega) (by omega) dX5_setting_28 ?_
  refine r_goto (tgt := 33) C dX5_setting_29 (by decide) ?_
  rw [wr_n μ _ (show q + 1 ≠ q by omega)]
  rw [Int.zero_add]
  exact r_iretr C hF dX5_setting_33 rfl (MR_th μ q _)
set_option maxRecDepth 20000 in
set_option maxHeartbeats 2000000 in
theorem kX5_without {V : Wo} {μ : Mem} {q : Nat} (hM : MoS V q) {K : Int} (hv : veW K (μ (q + 1))) {p w : Int} (hp : 0 ≤ p) (hp2 : p < (μ (q + 1)) 3) (hw : 0 ≤ w) (hw2 : w ≤ 3) : Con V 4 yX5_without cX5_without 3 (some .int) [vR q, vI p, vI w] (μ) (QIr V (woT (μ (q + 1)) p w) ((MU q μ))) := by
  refine con_of (ls0 := [vR q, vI p, vI w]) (by decide +kernel) rfl (Nat.le_of_ble_eq_true rfl) (Nat.le_of_ble_eq_true rfl) (fun X hV C hF => ?_)
  subst hV
  have C : Ok X RX5 cX5_without 3 4 := C
  obtain ⟨M0, M1, Ms, Mt, Mr, Md, Ml⟩ := id hM
  obtain ⟨v0, v1, v2, v3, v4, v5, v6, v7, v8, v9, v10⟩ := id hv
  have hLp := (lay_W (μ := μ) (q := q) (p := p) (by omega) hv).1
  have hvlp : veW K ((lay μ q p ((μ (q + 1)) 3)) (q + 1)) := by rw [lay_1]; exact hv
  have elp : (lay μ q p ((μ (q + 1)) 3)) q 12 = (μ (q + 1)) 3 - 1 := by rw [lay_q12, lc_in hp hp2]
  have elN : ∀ i, 0 ≤ i → i < (μ (q + 1)) 3 - 1 → (lay μ q p ((μ (q + 1)) 3)) (q + 3) i = wN (μ (q + 1)) p i := fun i h0 h1 => lay_wN i h0 (by rw [lc_in hp hp2]; exact h1)
  have elD : ∀ i, 0 ≤ i → i < (μ (q + 1)) 3 - 1 → (lay μ q p ((μ (q + 1)) 3)) (q + 4) i = wD (μ (q + 1)) p i := fun i h0 h1 => lay_wD i h0 (by rw [lc_in hp hp2]; exact h1)
  refine r_aload_n C dX5_without_0 rfl ?_
  refine r_iload_n C dX5_without_1 rfl ?_
  refine r_runV (fun aH aL aj a1 a2 a3 => run_V C hF.2.2.1 (kX5_laysOut hM hv (by omega) (by omega)) lm_X5_laysOut ml_X5_71 im_X5_laysOut se_X5_laysOut M1 rfl (Nat.le_of_ble_eq_true rfl) dX5_without_2 rfl (Nat.le_of_ble_eq_true rfl) a1 a2 a3) ?_
  refine r_iload_n C dX5_without_5 rfl ?_
  refine r_if_ne (tgt := 16) C dX5_without_6 (by decide) (by omega) (fun c6 => ?_) (fun c6 => ?_)
  · skip
    refine r_iload_n C dX5_without_16 rfl ?_
    refine r_iconst C dX5_without_17 ?_
    refine r_icmp_ne (tgt := 28) C dX5_without_18 (by decide) (by omega) (by omega) (fun c18 => ?_) (fun c18 => ?_)
    · skip
      refine r_iload_n C dX5_without_28 rfl ?_
      refine r_iconst C dX5_without_29 ?_
      refine r_icmp_ne (tgt := 40) C dX5_without_30 (by decide) (by omega) (by omega) (fun c30 => ?_) (fun c30 => ?_)
      · skip
        refine r_aload_n C dX5_without_40 rfl ?_
        refine r_runI (fun aH aL aj a1 a2 a3 => run_V C hF.2.2.1 (kX5_stitches hM hvlp hLp) lm_X5_stitches ml_X5_65 im_X5_stitches se_X5_stitches M1 rfl (Nat.le_of_ble_eq_true rfl) dX5_without_41 rfl (Nat.le_of_ble_eq_true rfl) a1 a2 a3) ?_
        rw [elp, lay_1, stS_cong elN]
        exact r_iretr C hF dX5_without_44 (by
              unfold woT
              rw [if_neg (show ¬ w = 0 by omega), if_neg (show ¬ w = 1 by omega), if_neg (show ¬ w = 2 by omega)]
              skip) (MU_lay ..)
      · skip
        refine r_aload_n C dX5_without_33 rfl ?_
        refine r_runI (fun aH aL aj a1 a2 a3 => run_V C hF.2.2.1 (kX5_fewest hM hLp) lm_X5_fewest ml_X5_174 im_X5_fewest se_X5_fewest M1 rfl (Nat.le_of_ble_eq_true rfl) dX5_without_34 rfl (Nat.le_of_ble_eq_true rfl) a1 a2 a3) ?_
        refine r_goto (tgt := 44) C dX5_without_37 (by decide) ?_
        exact r_iretr C hF dX5_without_44 (by
              unfold woT
              rw [if_neg (show ¬ w = 0 by omega), if_neg (show ¬ w = 1 by omega), if_pos (show w = 2 by omega)]
              rw [elp, lis_e (by omega) elN]) (MU_tr (MU_lay ..) (MU_5 ..))
    · skip
      refine r_aload_n C dX5_without_21 rfl ?_
      refine r_runI (fun aH aL aj a1 a2 a3 => run_V C hF.2.2.1 (kX5_fault hM hvlp hLp) lm_X5_fault ml_X5_78 im_X5_fault se_X5_fault M1 rfl (Nat.le_of_ble_eq_true rfl) dX5_without_22 rfl (Nat.le_of_ble_eq_true rfl) a1 a2 a3) ?_
      rw [elp, lay_1, flt_cong elN elD]
      refine r_goto (tgt := 44) C dX5_without_25 (by decide) ?_
      exact r_iretr C hF dX5_without_44 (by
            unfold woT
            rw [if_neg (show ¬ w = 0 by omega), if_pos (show w = 1 by omega)]
            skip) (MU_lay ..)
  · skip
    refine r_aload_n C dX5_without_9 rfl ?_
    refine r_runI (fun aH aL aj a1 a2 a3 => run_V C hF.2.2.1 (kX5_breaks hM hvlp hLp) lm_X5_breaks ml_X5_75 im_X5_breaks se_X5_breaks M1 rfl (Nat.le_of_ble_eq_true rfl) dX5_without_10 rfl (Nat.le_of_ble_eq_true rfl) a1 a2 a3) ?_
    rw [elp, lay_1, brks_cong elN elD]
    refine r_goto (tgt := 44) C dX5_without_13 (by decide) ?_
    exact r_iretr C hF dX5_without_44 (by
          unfold woT
          rw [if_pos (show w = 0 by omega)]
          skip) (MU_lay ..)
set_option maxRecDepth 20000 in
set_option maxHeartbeats 2000000 in
theorem kX5_ifPulled_1 {V : Wo} {μ : Mem} {q : Nat} (hM : MoS V q) {K : Int} (hv : veW K (μ (q + 1))) {p w : Int} (hr : inR p) (hr2 : inR w) (h : ¬ (0 ≤ p ∧ p < (μ (q + 1)) 3)) : Con V 5 yX5_ifPulled cX5_ifPulled 3 (some .int) [vR q, vI p, vI w] (μ) (QIr V (0) ((fun ν => MR q μ ν 1 (μ q 2) (μ q 3) (μ q 5) (μ (q + 1)) (μ (q + 2))))) := by
  refine con_of (ls0 := [vR q, vI p, vI w]) (by decide +kernel) rfl (Nat.le_of_ble_eq_true rfl) (Nat.le_of_ble_eq_true rfl) (fun X hV C hF => ?_)
  subst hV
  have C : Ok X RX5 cX5_ifPulled 3 5 := C
  obtain ⟨M0, M1, Ms, Mt, Mr, Md, Ml⟩ := id hM
  obtain ⟨v0, v1, v2, v3, v4, v5, v6, v7, v8, v9, v10⟩ := id hv
  refine r_aload_n C dX5_ifPulled_0 rfl ?_
  refine r_aload_n C dX5_ifPulled_1 rfl ?_
  refine r_iload_n C dX5_ifPulled_2 rfl ?_
  refine r_runI (fun aH aL aj a1 a2 a3 => run_V C hF.2.2.1 (kX5_isPlace hM hv (x := p) (by omega)) lm_X5_isPlace ml_X5_103 im_X5_isPlace se_X5_isPlace M1 rfl (Nat.le_of_ble_eq_true rfl) dX5_ifPulled_3 rfl (Nat.le_of_ble_eq_true rfl) a1 a2 a3) ?_
  rw [b01_f (by omega)]
  refine r_if_ne (tgt := 13) C dX5_ifPulled_6 (by decide) (by omega) (fun c6 => absurd c6 (by omega)) (fun c6 => ?_)
  refine r_iconst C dX5_ifPulled_9 ?_
  refine r_goto (tgt := 27) C dX5_ifPulled_10 (by decide) ?_
  refine r_runI (fun aH aL aj a1 a2 a3 => run_V C hF.2.2.1 (kX5_holds hM (x := 1) (by omega)) lm_X5_holds ml_X5_94 im_X5_holds se_X5_holds M1 rfl (Nat.le_of_ble_eq_true rfl) dX5_ifPulled_27 rfl (Nat.le_of_ble_eq_true rfl) a1 a2 a3) ?_
  rw [b01_f (show ¬ (1 : Int) = 0 by omega)]
  refine r_if_eq (tgt := 42) C dX5_ifPulled_30 (by decide) (by omega) (fun c30 => ?_) (fun c30 => absurd c30 (by omega))
  refine r_iconst C dX5_ifPulled_42 ?_
  exact r_iretr C hF dX5_ifPulled_43 rfl (MR_th μ q _)
set_option maxRecDepth 20000 in
set_option maxHeartbeats 2000000 in
theorem kX5_ifPulled_2 {V : Wo} {μ : Mem} {q : Nat} (hM : MoS V q) {K : Int} (hv : veW K (μ (q + 1))) {p w : Int} (hr : inR p) (hr2 : inR w) (h : 0 ≤ p ∧ p < (μ (q + 1)) 3) (h2 : ¬ (0 ≤ w ∧ w ≤ 3)) : Con V 5 yX5_ifPulled cX5_ifPulled 3 (some .int) [vR q, vI p, vI w] (μ) (QIr V (0) ((fun ν => MR q μ ν 2 (μ q 2) (μ q 3) (μ q 5) (μ (q + 1)) (μ (q + 2))))) := by
  refine con_of (ls0 := [vR q, vI p, vI w]) (by decide +kernel) rfl (Nat.le_of_ble_eq_true rfl) (Nat.le_of_ble_eq_true rfl) (fun X hV C hF => ?_)
  subst hV
  have C : Ok X RX5 cX5_ifPulled 3 5 := C
  obtain ⟨M0, M1, Ms, Mt, Mr, Md, Ml⟩ := id hM
  obtain ⟨v0, v1, v2, v3, v4, v5, v6, v7, v8, v9, v10⟩ := id hv
  refine r_aload_n C dX5_ifPulled_0 rfl ?_
  refine r_aload_n C dX5_ifPulled_1 rfl ?_
  refine r_iload_n C dX5_ifPulled_2 rfl ?_
  refine r_runI (fun aH aL aj a1 a2 a3 => run_V C hF.2.2.1 (kX5_isPlace hM hv (x := p) (by omega)) lm_X5_isPlace ml_X5_103 im_X5_isPlace se_X5_isPlace M1 rfl (Nat.le_of_ble_eq_true rfl) dX5_ifPulled_3 rfl (Nat.le_of_ble_eq_true rfl) a1 a2 a3) ?_
  rw [b01_t (by omega)]
  refine r_if_ne (tgt := 13) C dX5_ifPulled_6 (by decide) (by omega) (fun c6 => ?_) (fun c6 => absurd c6 (by omega))
  refine r_iload_n C dX5_ifPulled_13 rfl ?_
  refine r_iconst C dX5_ifPulled_14 ?_
  refine r_iconst C dX5_ifPulled_15 ?_
  refine r_runI (fun aH aL aj a1 a2 a3 => run_S C hF.2.2.1 (kX5_in (v := w) (l := 0) (u := 3) (by omega) (by omega) (by omega)) lm_X5_in ml_X5_29 sm_X5_in (Nat.le_of_ble_eq_true rfl) dX5_ifPulled_16 rfl (Nat.le_of_ble_eq_true rfl) a1 a2 a3) ?_
  rw [b01_f (by omega)]
  refine r_if_ne (tgt := 26) C dX5_ifPulled_19 (by decide) (by omega) (fun c19 => absurd c19 (by omega)) (fun c19 => ?_)
  refine r_iconst C dX5_ifPulled_22 ?_
  refine r_goto (tgt := 27) C dX5_ifPulled_23 (by decide) ?_
  refine r_runI (fun aH aL aj a1 a2 a3 => run_V C hF.2.2.1 (kX5_holds hM (x := 2) (by omega)) lm_X5_holds ml_X5_94 im_X5_holds se_X5_holds M1 rfl (Nat.le_of_ble_eq_true rfl) dX5_ifPulled_27 rfl (Nat.le_of_ble_eq_true rfl) a1 a2 a3) ?_
  rw [b01_f (show ¬ (2 : Int) = 0 by omega)]
  refine r_if_eq (tgt := 42) C dX5_ifPulled_30 (by decide) (by omega) (fun c30 => ?_) (fun c30 => absurd c30 (by omega))
  refine r_iconst C dX5_ifPulled_42 ?_
  exact r_iretr C hF dX5_ifPulled_43 rfl (MR_th μ q _)
set_option maxRecDepth 20000 in
set_option maxHeartbeats 2000000 in
theorem kX5_ifPulled_0 {V : Wo} {μ : Mem} {q : Nat} (hM : MoS V q) {K : Int} (hv : veW K (μ (q + 1))) {p w : Int} (hr : inR p) (hr2 : inR w) (h : 0 ≤ p ∧ p < (μ (q + 1)) 3) (h2 : 0 ≤ w ∧ w ≤ 3) : Con V 5 yX5_ifPulled cX5_ifPulled 3 (some .int) [vR q, vI p, vI w] (μ) (QIr V (woT (μ (q + 1)) p w) ((fun ν => MR q μ ν 0 (μ q 2) (μ q 3) (μ q 5) (μ (q + 1)) (μ (q + 2))))) := by
  refine con_of (ls0 := [vR q, vI p, vI w]) (by decide +kernel) rfl (Nat.le_of_ble_eq_true rfl) (Nat.le_of_ble_eq_true rfl) (fun X hV C hF => ?_)
  subst hV
  have C : Ok X RX5 cX5_ifPulled 3 5 := C
  obtain ⟨M0, M1, Ms, Mt, Mr, Md, Ml⟩ := id hM
  obtain ⟨v0, v1, v2, v3, v4, v5, v6, v7, v8, v9, v10⟩ := id hv
  refine r_aload_n C dX5_ifPulled_0 rfl ?_
  refine r_aload_n C dX5_ifPulled_1 rfl ?_
  refine r_iload_n C dX5_ifPulled_2 rfl ?_
  refine r_runI (fun aH aL aj a1 a2 a3 => run_V C hF.2.2.1 (kX5_isPlace hM hv (x := p) (by omega)) lm_X5_isPlace ml_X5_103 im_X5_isPlace se_X5_isPlace M1 rfl (Nat.le_of_ble_eq_true rfl) dX5_ifPulled_3 rfl (Nat.le_of_ble_eq_true rfl) a1 a2 a3) ?_
  rw [b01_t (by omega)]
  refine r_if_ne (tgt := 13) C dX5_ifPulled_6 (by decide) (by omega) (fun c6 => ?_) (fun c6 => absurd c6 (by omega))
  refine r_iload_n C dX5_ifPulled_13 rfl ?_
  refine r_iconst C dX5_ifPulled_14 ?_
  refine r_iconst C dX5_ifPulled_15 ?_
  refine r_runI (fun aH aL aj a1 a2 a3 => run_S C hF.2.2.1 (kX5_in (v := w) (l := 0) (u := 3) (by omega) (by omega) (by omega)) lm_X5_in ml_X5_29 sm_X5_in (Nat.le_of_ble_eq_true rfl) dX5_ifPulled_16 rfl (Nat.le_of_ble_eq_true rfl) a1 a2 a3) ?_
  rw [b01_t (by omega)]
  refine r_if_ne (tgt := 26) C dX5_ifPulled_19 (by decide) (by omega) (fun c19 => ?_) (fun c19 => absurd c19 (by omega))
  refine r_iconst C dX5_ifPulled_26 ?_
  refine r_runI (fun aH aL aj a1 a2 a3 => run_V C hF.2.2.1 (kX5_holds hM (x := 0) (by omega)) lm_X5_holds ml_X5_94 im_X5_holds se_X5_holds M1 rfl (Nat.le_of_ble_eq_true rfl) dX5_ifPulled_27 rfl (Nat.le_of_ble_eq_true rfl) a1 a2 a3) ?_
  rw [b01_t rfl]
  refine r_if_eq (tgt := 42) C dX5_ifPulled_30 (by decide) (by omega) (fun c30 => absurd c30 (by omega)) (fun c30 => ?_)
  refine r_aload_n C dX5_ifPulled_33 rfl ?_
  refine r_iload_n C dX5_ifPulled_34 rfl ?_
  refine r_iload_n C dX5_ifPulled_35 rfl ?_
  refine r_runIr (fun aH aL aj a1 a2 a3 => run_V C hF.2.2.1 (kX5_without hM (K := K) (by rw [wr_n _ _ (by omega)]; exact hv) h.1 (by rw [wr_n _ _ (by omega)]; exact h.2) h2.1 h2.2) lm_X5_without ml_X5_198 im_X5_without se_X5_without M1 rfl (Nat.le_of_ble_eq_true rfl) dX5_ifPulled_36 rfl (Nat.le_of_ble_eq_true rfl) a1 a2 a3) (fun ν N => ?_)
  rw [wr_n μ _ (show q + 1 ≠ q by omega)]
  refine r_goto (tgt := 43) C dX5_ifPulled_39 (by decide) ?_
  exact r_iretr C hF dX5_ifPulled_43 rfl (MR_U (MR_th μ q _) N)
