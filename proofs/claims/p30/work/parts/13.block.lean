set_option maxRecDepth 20000 in
set_option maxHeartbeats 2000000 in
theorem kX0_hasPlace {V : Wo} {μ : Mem} {b : Nat} (hB : BlS V b) (hW : BlW μ b) {p : Int} (hp : inR p) : Con V 0 yX0_hasPlace cX0_hasPlace 2 (some .boolean) [vR b, vI p] (μ) (QI V (b01 (0 ≤ p ∧ p < μ b 2)) (μ)) := by
  refine con_of (ls0 := [vR b, vI p]) (by decide +kernel) rfl (Nat.le_of_ble_eq_true rfl) (Nat.le_of_ble_eq_true rfl) (fun X hV C hF => ?_)
  subst hV
  have C : Ok X RX0 cX0_hasPlace 2 0 := C
  obtain ⟨B0, B1, Bn, Bt, Ble, Blb, Bto⟩ := hB
  obtain ⟨W0, W1, W2, W3⟩ := hW
  refine r_iload_n C dX0_hasPlace_0 rfl ?_
  refine r_if_lt (tgt := 16) C dX0_hasPlace_1 (by decide) (by omega) (fun c1 => ?_) (fun c1 => ?_)
  · have _ := c1
    refine r_iconst C dX0_hasPlace_16 ?_
    exact r_zret C hF dX0_hasPlace_17 (by omega) (by unfold b01; split <;> omega) rfl
  · have _ := c1
    refine r_iload_n C dX0_hasPlace_4 rfl ?_
    refine r_aload_n C dX0_hasPlace_5 rfl ?_
    refine gf_X0_27 C B1 dX0_hasPlace_6 ?_
    refine r_icmp_ge (tgt := 16) C dX0_hasPlace_9 (by decide) (by omega) (by omega) (fun c9 => ?_) (fun c9 => ?_)
    · have _ := c9
      refine r_iconst C dX0_hasPlace_16 ?_
      exact r_zret C hF dX0_hasPlace_17 (by omega) (by unfold b01; split <;> omega) rfl
    · have _ := c9
      refine r_iconst C dX0_hasPlace_12 ?_
      refine r_goto (tgt := 17) C dX0_hasPlace_13 (by decide) ?_
      exact r_zret C hF dX0_hasPlace_17 (by omega) (by unfold b01; split <;> omega) rfl
set_option maxRecDepth 20000 in
set_option maxHeartbeats 2000000 in
theorem kX0_copyFrom {V : Wo} {μ : Mem} {b c : Nat} (hB : BlS V b) (hD : BlS V c) (hn : b + 5 < c ∨ c + 5 < b) : Con V 2 yX0_copyFrom cX0_copyFrom 2 (none) [vR b, vR c] (μ) (QV V (wr (wr (wr μ (b + 1) (μ (c + 1))) (b + 2) (μ (c + 2))) b (s1 (μ b) 2 (μ c 2)))) := by
  refine con_of (ls0 := [vR b, vR c]) (by decide +kernel) rfl (Nat.le_of_ble_eq_true rfl) (Nat.le_of_ble_eq_true rfl) (fun X hV C hF => ?_)
  subst hV
  have C : Ok X RX0 cX0_copyFrom 2 2 := C
  obtain ⟨B0, B1, Bn, Bt, Ble, Blb, Bto⟩ := hB
  obtain ⟨D0, D1, Dn, Dt, Dle, Dlb, Dto⟩ := hD
  refine r_aload_n C dX0_copyFrom_0 rfl ?_
  refine r_ifnull C dX0_copyFrom_1 ?_
  refine r_aload_n C dX0_copyFrom_4 rfl ?_
  refine gf_X0_9 C D1 dX0_copyFrom_5 ?_
  refine r_aload_n C dX0_copyFrom_8 rfl ?_
  refine gf_X0_9 C B1 dX0_copyFrom_9 ?_
  refine r_runV (fun aH aL aj a1 a2 a3 => run_SN C hF.2.2.1 (kX4_copyRow Dn Bn (by omega) (by decide)) lm_X4_copyRow mn_X0_31 sm_X4_copyRow (Nat.le_of_ble_eq_true rfl) dX0_copyFrom_12 rfl (Nat.le_of_ble_eq_true rfl) a1 a2 a3) ?_
  refine r_aload_n C dX0_copyFrom_15 rfl ?_
  refine gf_X0_15 C D1 dX0_copyFrom_16 ?_
  refine r_aload_n C dX0_copyFrom_19 rfl ?_
  refine gf_X0_15 C B1 dX0_copyFrom_20 ?_
  refine r_runV (fun aH aL aj a1 a2 a3 => run_SN C hF.2.2.1 (kX4_copyRow Dt Bt (by omega) (by decide)) lm_X4_copyRow mn_X0_31 sm_X4_copyRow (Nat.le_of_ble_eq_true rfl) dX0_copyFrom_23 rfl (Nat.le_of_ble_eq_true rfl) a1 a2 a3) ?_
  rw [wr_n _ _ (by omega)]
  refine r_aload_n C dX0_copyFrom_26 rfl ?_
  refine r_aload_n C dX0_copyFrom_27 rfl ?_
  refine gf_X0_27 C D1 dX0_copyFrom_28 ?_
  refine pf_X0_27 C B1 B0 dX0_copyFrom_31 ?_
  exact r_vret C hF dX0_copyFrom_34 (by rw [wr_n _ _ (by omega), wr_n _ _ (by omega), wr_n _ _ (by omega), wr_n _ _ (by omega)])
set_option maxRecDepth 20000 in
set_option maxHeartbeats 2000000 in
theorem kX0_putIn {V : Wo} {μ : Mem} {b : Nat} (hB : BlS V b) (hW : BlW μ b) {p x y : Int} (hp : 0 ≤ p) (hp2 : p ≤ μ b 2) (hs : μ b 2 < 20) : Con V 1 yX0_putIn cX0_putIn 5 (none) [vR b, vI p, vI x, vI y] (μ) (QV V (wr (wr (wr μ (b + 1) (insR (μ (b + 1)) p (μ b 2) x)) (b + 2) (insR (μ (b + 2)) p (μ b 2) y)) b (s1 (μ b) 2 (μ b 2 + 1)))) := by
  refine con_of (ls0 := [vR b, vI p, vI x, vI y, vU]) (by decide +kernel) rfl (Nat.le_of_ble_eq_true rfl) (Nat.le_of_ble_eq_true rfl) (fun X hV C hF => ?_)
  subst hV
  have C : Ok X RX0 cX0_putIn 5 1 := C
  obtain ⟨B0, B1, Bn, Bt, Ble, Blb, Bto⟩ := hB
  obtain ⟨W0, W1, W2, W3⟩ := hW
  have n12 : b + 1 ≠ b + 2 := by omega
  have n21 : b + 2 ≠ b + 1 := by omega
  have nb1 : b ≠ b + 1 := by omega
  have nb2 : b ≠ b + 2 := by omega
  have n1b : b + 1 ≠ b := by omega
  have n2b : b + 2 ≠ b := by omega
  have e0 : ∀ i, (wr (wr μ (b + 1) (shU (μ (b + 1)) i (μ b 2))) (b + 2) (shU (μ (b + 2)) i (μ b 2))) b 2 = μ b 2 := fun i => by rw [wr_n _ _ nb2, wr_n _ _ nb1]
  have e1 : ∀ i, (wr (wr μ (b + 1) (shU (μ (b + 1)) i (μ b 2))) (b + 2) (shU (μ (b + 2)) i (μ b 2))) (b + 1) = shU (μ (b + 1)) i (μ b 2) := fun i => by rw [wr_n _ _ n12, wr_s]
  have e2 : ∀ i, (wr (wr μ (b + 1) (shU (μ (b + 1)) i (μ b 2))) (b + 2) (shU (μ (b + 2)) i (μ b 2))) (b + 2) = shU (μ (b + 2)) i (μ b 2) := fun i => by rw [wr_s]
  refine r_iload_n C dX0_putIn_0 rfl ?_
  refine r_if_lt (tgt := 21) C dX0_putIn_1 (by decide) (by omega) (fun c1 => absurd c1 (by omega)) (fun c1 => ?_)
  refine r_iload_n C dX0_putIn_4 rfl ?_
  refine r_aload_n C dX0_putIn_5 rfl ?_
  refine gf_X0_27 C B1 dX0_putIn_6 ?_
  refine r_icmp_gt (tgt := 21) C dX0_putIn_9 (by decide) (by omega) (by omega) (fun c9 => absurd c9 (by omega)) (fun c9 => ?_)
  refine r_aload_n C dX0_putIn_12 rfl ?_
  refine gf_X0_27 C B1 dX0_putIn_13 ?_
  refine r_bipush C dX0_putIn_16 rfl ?_
  refine r_icmp_lt (tgt := 22) C dX0_putIn_18 (by decide) (by omega) (by omega) (fun c18 => ?_) (fun c18 => absurd c18 (by omega))
  refine r_aload_n C dX0_putIn_22 rfl ?_
  refine gf_X0_27 C B1 dX0_putIn_23 ?_
  refine r_istore C dX0_putIn_26 (by decide) rfl ?_
  refine r_eq (μ' := wr (wr μ (b + 1) (shU (μ (b + 1)) (μ b 2) (μ b 2))) (b + 2) (shU (μ (b + 2)) (μ b 2) (μ b 2))) ?_ (by rw [shU_n, shU_n, wr_self, wr_self])
  refine loop_dn (F := fun i => RR X (wr (wr μ (b + 1) (shU (μ (b + 1)) i (μ b 2))) (b + 2) (shU (μ (b + 2)) i (μ b 2))) 28 [vR b, vI p, vI x, vI y, vI i] []) (a := p) (b := μ b 2) hp2 ?_ ?_
  · show RR X _ _ [vR b, vI p, vI x, vI y, vI p] []
    refine r_iload C dX0_putIn_28 rfl ?_
    refine r_iload_n C dX0_putIn_30 rfl ?_
    refine r_icmp_le (tgt := 80) C dX0_putIn_31 (by decide) (by omega) (by omega) (fun c31 => ?_) (fun c31 => absurd c31 (by omega))
    refine r_aload_n C dX0_putIn_80 rfl ?_
    refine gf_X0_9 C B1 dX0_putIn_81 ?_
    refine r_iload_n C dX0_putIn_84 rfl ?_
    refine r_iload_n C dX0_putIn_85 rfl ?_
    refine r_runV (fun aH aL aj a1 a2 a3 => run_SN C hF.2.2.1 (kX4_put Bn (by omega) (by decide) (by omega) (by omega)) lm_X4_put mn_X0_39 sm_X4_put (Nat.le_of_ble_eq_true rfl) dX0_putIn_86 rfl (Nat.le_of_ble_eq_true rfl) a1 a2 a3) ?_
    refine r_aload_n C dX0_putIn_89 rfl ?_
    refine gf_X0_15 C B1 dX0_putIn_90 ?_
    refine r_iload_n C dX0_putIn_93 rfl ?_
    refine r_iload_n C dX0_putIn_94 rfl ?_
    refine r_runV (fun aH aL aj a1 a2 a3 => run_SN C hF.2.2.1 (kX4_put Bt (by omega) (by decide) (by omega) (by omega)) lm_X4_put mn_X0_39 sm_X4_put (Nat.le_of_ble_eq_true rfl) dX0_putIn_95 rfl (Nat.le_of_ble_eq_true rfl) a1 a2 a3) ?_
    refine r_aload_n C dX0_putIn_98 rfl ?_
    refine r_dup C dX0_putIn_99 rfl ?_
    refine gf_X0_27 C B1 dX0_putIn_100 ?_
    refine r_iconst C dX0_putIn_103 ?_
    refine r_iadd C dX0_putIn_104 ?_
    refine pf_X0_27 C B1 B0 dX0_putIn_105 ?_
    exact r_vret C hF dX0_putIn_108 (by simp only [e0, e1, e2, wr_s, wr_n _ _ n12, wr_n _ _ n21, wr_n _ _ nb1, wr_n _ _ nb2, wr_n _ _ n1b, wr_n _ _ n2b, wr2_1 _ _ _ _ n12, wr_ww]; rfl)
  · intro i h0 h1 K
    show RR X _ _ [vR b, vI p, vI x, vI y, vI i] []
    refine r_iload C dX0_putIn_28 rfl ?_
    refine r_iload_n C dX0_putIn_30 rfl ?_
    refine r_icmp_le (tgt := 80) C dX0_putIn_31 (by decide) (by omega) (by omega) (fun c31 => absurd c31 (by omega)) (fun c31 => ?_)
    refine r_aload_n C dX0_putIn_34 rfl ?_
    refine gf_X0_9 C B1 dX0_putIn_35 ?_
    refine r_iload C dX0_putIn_38 rfl ?_
    refine r_aload_n C dX0_putIn_40 rfl ?_
    refine gf_X0_9 C B1 dX0_putIn_41 ?_
    refine r_iload C dX0_putIn_44 rfl ?_
    refine r_iconst C dX0_putIn_46 ?_
    refine r_isub C dX0_putIn_47 ?_
    refine r_runI (fun aH aL aj a1 a2 a3 => run_SN C hF.2.2.1 (kX4_at Bn (by decide) (by omega) (by omega)) lm_X4_at mn_X0_35 sm_X4_at (Nat.le_of_ble_eq_true rfl) dX0_putIn_48 rfl (Nat.le_of_ble_eq_true rfl) a1 a2 a3) ?_
    refine r_runV (fun aH aL aj a1 a2 a3 => run_SN C hF.2.2.1 (kX4_put Bn (by omega) (by decide) (by omega) (by omega)) lm_X4_put mn_X0_39 sm_X4_put (Nat.le_of_ble_eq_true rfl) dX0_putIn_51 rfl (Nat.le_of_ble_eq_true rfl) a1 a2 a3) ?_
    refine r_aload_n C dX0_putIn_54 rfl ?_
    refine gf_X0_15 C B1 dX0_putIn_55 ?_
    refine r_iload C dX0_putIn_58 rfl ?_
    refine r_aload_n C dX0_putIn_60 rfl ?_
    refine gf_X0_15 C B1 dX0_putIn_61 ?_
    refine r_iload C dX0_putIn_64 rfl ?_
    refine r_iconst C dX0_putIn_66 ?_
    refine r_isub C dX0_putIn_67 ?_
    refine r_runI (fun aH aL aj a1 a2 a3 => run_SN C hF.2.2.1 (kX4_at Bt (by decide) (by omega) (by omega)) lm_X4_at mn_X0_35 sm_X4_at (Nat.le_of_ble_eq_true rfl) dX0_putIn_68 rfl (Nat.le_of_ble_eq_true rfl) a1 a2 a3) ?_
    refine r_runV (fun aH aL aj a1 a2 a3 => run_SN C hF.2.2.1 (kX4_put Bt (by omega) (by decide) (by omega) (by omega)) lm_X4_put mn_X0_39 sm_X4_put (Nat.le_of_ble_eq_true rfl) dX0_putIn_71 rfl (Nat.le_of_ble_eq_true rfl) a1 a2 a3) ?_
    refine r_iinc C dX0_putIn_74 rfl (by decide) rfl ?_
    refine r_goto (tgt := 28) C dX0_putIn_77 (by decide) ?_
    refine r_eq K ?_
    simp only [e0, e1, e2, wr_s, wr_n _ _ n12, wr_n _ _ n21, wr2_1 _ _ _ _ n12, wr_ww]
    rw [shU_s _ (by omega), shU_s _ (by omega)]
set_option maxRecDepth 20000 in
set_option maxHeartbeats 2000000 in
theorem kX0_takeOut {V : Wo} {μ : Mem} {b : Nat} (hB : BlS V b) (hW : BlW μ b) {p : Int} (hp : 0 ≤ p) (hp2 : p < μ b 2) : Con V 1 yX0_takeOut cX0_takeOut 3 (none) [vR b, vI p] (μ) (QV V (wr (wr (wr μ (b + 1) (remR (μ (b + 1)) p (μ b 2))) (b + 2) (remR (μ (b + 2)) p (μ b 2))) b (s1 (μ b) 2 (μ b 2 - 1)))) := by
  refine con_of (ls0 := [vR b, vI p, vU]) (by decide +kernel) rfl (Nat.le_of_ble_eq_true rfl) (Nat.le_of_ble_eq_true rfl) (fun X hV C hF => ?_)
  subst hV
  have C : Ok X RX0 cX0_takeOut 3 1 := C
  obtain ⟨B0, B1, Bn, Bt, Ble, Blb, Bto⟩ := id hB
  obtain ⟨W0, W1, W2, W3⟩ := id hW
  have n12 : b + 1 ≠ b + 2 := by omega
  have n21 : b + 2 ≠ b + 1 := by omega
  have nb1 : b ≠ b + 1 := by omega
  have nb2 : b ≠ b + 2 := by omega
  have n1b : b + 1 ≠ b := by omega
  have n2b : b + 2 ≠ b := by omega
  have e0 : ∀ i, (wr (wr μ (b + 1) (shD (μ (b + 1)) p i)) (b + 2) (shD (μ (b + 2)) p i)) b 2 = μ b 2 := fun i => by rw [wr_n _ _ nb2, wr_n _ _ nb1]
  have e1 : ∀ i, (wr (wr μ (b + 1) (shD (μ (b + 1)) p i)) (b + 2) (shD (μ (b + 2)) p i)) (b + 1) = shD (μ (b + 1)) p i := fun i => by rw [wr_n _ _ n12, wr_s]
  have e2 : ∀ i, (wr (wr μ (b + 1) (shD (μ (b + 1)) p i)) (b + 2) (shD (μ (b + 2)) p i)) (b + 2) = shD (μ (b + 2)) p i := fun i => by rw [wr_s]
  refine r_aload_n C dX0_takeOut_0 rfl ?_
  refine r_iload_n C dX0_takeOut_1 rfl ?_
  refine r_runI (fun aH aL aj a1 a2 a3 => run_V C hF.2.2.1 (kX0_hasPlace hB hW (by omega)) lm_X0_hasPlace ml_X0_43 im_X0_hasPlace se_X0_hasPlace B1 rfl (Nat.le_of_ble_eq_true rfl) dX0_takeOut_2 rfl (Nat.le_of_ble_eq_true rfl) a1 a2 a3) ?_
  rw [b01_t ⟨hp, hp2⟩]
  refine r_if_ne (tgt := 9) C dX0_takeOut_5 (by decide) (by omega) (fun c5 => ?_) (fun c5 => absurd c5 (by omega))
  refine r_iload_n C dX0_takeOut_9 rfl ?_
  refine r_istore_n C dX0_takeOut_10 (by decide) rfl ?_
  refine r_eq (μ' := wr (wr μ (b + 1) (shD (μ (b + 1)) p p)) (b + 2) (shD (μ (b + 2)) p p)) ?_ (by rw [shD_0, shD_0, wr_self, wr_self])
  refine loop_up (F := fun i => RR X (wr (wr μ (b + 1) (shD (μ (b + 1)) p i)) (b + 2) (shD (μ (b + 2)) p i)) 11 [vR b, vI p, vI i] []) (a := p) (b := μ b 2 - 1) (by omega) ?_ ?_
  · show RR X _ _ [vR b, vI p, vI (μ b 2 - 1)] []
    refine r_iload_n C dX0_takeOut_11 rfl ?_
    refine r_aload_n C dX0_takeOut_12 rfl ?_
    refine gf_X0_27 C B1 dX0_takeOut_13 ?_
    refine r_iconst C dX0_takeOut_16 ?_
    refine r_isub C dX0_takeOut_17 ?_
    rw [e0]
    refine r_icmp_ge (tgt := 63) C dX0_takeOut_18 (by decide) (by omega) (by omega) (fun c18 => ?_) (fun c18 => absurd c18 (by omega))
    refine r_aload_n C dX0_takeOut_63 rfl ?_
    refine r_dup C dX0_takeOut_64 rfl ?_
    refine gf_X0_27 C B1 dX0_takeOut_65 ?_
    refine r_iconst C dX0_takeOut_68 ?_
    refine r_isub C dX0_takeOut_69 ?_
    refine pf_X0_27 C B1 B0 dX0_takeOut_70 ?_
    exact r_vret C hF dX0_takeOut_73 (by simp only [e0, e1, e2, wr_s, wr_n _ _ n12, wr_n _ _ n21, wr_n _ _ nb1, wr_n _ _ nb2, wr_n _ _ n1b, wr_n _ _ n2b, wr2_1 _ _ _ _ n12, wr_ww])
  · intro i h0 h1 K
    show RR X _ _ [vR b, vI p, vI i] []
    refine r_iload_n C dX0_takeOut_11 rfl ?_
    refine r_aload_n C dX0_takeOut_12 rfl ?_
    refine gf_X0_27 C B1 dX0_takeOut_13 ?_
    refine r_iconst C dX0_takeOut_16 ?_
    refine r_isub C dX0_takeOut_17 ?_
    rw [e0]
    refine r_icmp_ge (tgt := 63) C dX0_takeOut_18 (by decide) (by omega) (by omega) (fun c18 => absurd c18 (by omega)) (fun c18 => ?_)
    refine r_aload_n C dX0_takeOut_21 rfl ?_
    refine gf_X0_9 C B1 dX0_takeOut_22 ?_
    refine r_iload_n C dX0_takeOut_25 rfl ?_
    refine r_aload_n C dX0_takeOut_26 rfl ?_
    refine gf_X0_9 C B1 dX0_takeOut_27 ?_
    refine r_iload_n C dX0_takeOut_30 rfl ?_
    refine r_iconst C dX0_takeOut_31 ?_
    refine r_iadd C dX0_takeOut_32 ?_
    refine r_runI (fun aH aL aj a1 a2 a3 => run_SN C hF.2.2.1 (kX4_at Bn (by decide) (by omega) (by omega)) lm_X4_at mn_X0_35 sm_X4_at (Nat.le_of_ble_eq_true rfl) dX0_takeOut_33 rfl (Nat.le_of_ble_eq_true rfl) a1 a2 a3) ?_
    refine r_runV (fun aH aL aj a1 a2 a3 => run_SN C hF.2.2.1 (kX4_put Bn (by omega) (by decide) (by omega) (by omega)) lm_X4_put mn_X0_39 sm_X4_put (Nat.le_of_ble_eq_true rfl) dX0_takeOut_36 rfl (Nat.le_of_ble_eq_true rfl) a1 a2 a3) ?_
    refine r_aload_n C dX0_takeOut_39 rfl ?_
    refine gf_X0_15 C B1 dX0_takeOut_40 ?_
    refine r_iload_n C dX0_takeOut_43 rfl ?_
    refine r_aload_n C dX0_takeOut_44 rfl ?_
    refine gf_X0_15 C B1 dX0_takeOut_45 ?_
    refine r_iload_n C dX0_takeOut_48 rfl ?_
    refine r_iconst C dX0_takeOut_49 ?_
    refine r_iadd C dX0_takeOut_50 ?_
    refine r_runI (fun aH aL aj a1 a2 a3 => run_SN C hF.2.2.1 (kX4_at Bt (by decide) (by omega) (by omega)) lm_X4_at mn_X0_35 sm_X4_at (Nat.le_of_ble_eq_true rfl) dX0_takeOut_51 rfl (Nat.le_of_ble_eq_true rfl) a1 a2 a3) ?_
    refine r_runV (fun aH aL aj a1 a2 a3 => run_SN C hF.2.2.1 (kX4_put Bt (by omega) (by decide) (by omega) (by omega)) lm_X4_put mn_X0_39 sm_X4_put (Nat.le_of_ble_eq_true rfl) dX0_takeOut_54 rfl (Nat.le_of_ble_eq_true rfl) a1 a2 a3) ?_
    refine r_iinc C dX0_takeOut_57 rfl (by decide) rfl ?_
    refine r_goto (tgt := 11) C dX0_takeOut_60 (by decide) ?_
    refine r_eq K ?_
    simp only [e0, e1, e2, wr_s, wr_n _ _ n12, wr_n _ _ n21, wr2_1 _ _ _ _ n12, wr_ww]
    rw [shD_s _ (by omega), shD_s _ (by omega)]
set_option maxRecDepth 20000 in
set_option maxHeartbeats 2000000 in
theorem kX0_turnOver {V : Wo} {μ : Mem} {b : Nat} (hB : BlS V b) (hW : BlW μ b) {p : Int} (hp : 0 ≤ p) (hp2 : p < μ b 2) : Con V 1 yX0_turnOver cX0_turnOver 2 (none) [vR b, vI p] (μ) (QV V (wr μ (b + 2) (s1 (μ (b + 2)) p (1 - μ (b + 2) p)))) := by
  refine con_of (ls0 := [vR b, vI p]) (by decide +kernel) rfl (Nat.le_of_ble_eq_true rfl) (Nat.le_of_ble_eq_true rfl) (fun X hV C hF => ?_)
  subst hV
  have C : Ok X RX0 cX0_turnOver 2 1 := C
  obtain ⟨B0, B1, Bn, Bt, Ble, Blb, Bto⟩ := id hB
  obtain ⟨W0, W1, W2, W3⟩ := id hW
  refine r_aload_n C dX0_turnOver_0 rfl ?_
  refine r_iload_n C dX0_turnOver_1 rfl ?_
  refine r_runI (fun aH aL aj a1 a2 a3 => run_V C hF.2.2.1 (kX0_hasPlace hB hW (by omega)) lm_X0_hasPlace ml_X0_43 im_X0_hasPlace se_X0_hasPlace B1 rfl (Nat.le_of_ble_eq_true rfl) dX0_turnOver_2 rfl (Nat.le_of_ble_eq_true rfl) a1 a2 a3) ?_
  rw [b01_t ⟨hp, hp2⟩]
  refine r_if_eq (tgt := 26) C dX0_turnOver_5 (by decide) (by omega) (fun c5 => absurd c5 (by omega)) (fun c5 => ?_)
  refine r_aload_n C dX0_turnOver_8 rfl ?_
  refine gf_X0_15 C B1 dX0_turnOver_9 ?_
  refine r_iload_n C dX0_turnOver_12 rfl ?_
  refine r_iconst C dX0_turnOver_13 ?_
  refine r_aload_n C dX0_turnOver_14 rfl ?_
  refine gf_X0_15 C B1 dX0_turnOver_15 ?_
  refine r_iload_n C dX0_turnOver_18 rfl ?_
  refine r_runI (fun aH aL aj a1 a2 a3 => run_SN C hF.2.2.1 (kX4_at Bt (by decide) (by omega) (by omega)) lm_X4_at mn_X0_35 sm_X4_at (Nat.le_of_ble_eq_true rfl) dX0_turnOver_19 rfl (Nat.le_of_ble_eq_true rfl) a1 a2 a3) ?_
  refine r_isub C dX0_turnOver_22 ?_
  refine r_runV (fun aH aL aj a1 a2 a3 => run_SN C hF.2.2.1 (kX4_put Bt (by omega) (by decide) (by omega) (by omega)) lm_X4_put mn_X0_39 sm_X4_put (Nat.le_of_ble_eq_true rfl) dX0_turnOver_23 rfl (Nat.le_of_ble_eq_true rfl) a1 a2 a3) ?_
  exact r_vret C hF dX0_turnOver_26 rfl
set_option maxRecDepth 20000 in
set_option maxHeartbeats 2000000 in
theorem kX0_shift {V : Wo} {μ : Mem} {b : Nat} (hB : BlS V b) (hW : BlW μ b) {p r : Int} (hp : 0 ≤ p) (hp2 : p < μ b 2) (hr : 0 ≤ r) (hr2 : r < μ b 2) : Con V 2 yX0_shift cX0_shift 5 (none) [vR b, vI p, vI r] (μ) (QV V (wr (wr μ (b + 1) (insR (remR (μ (b + 1)) p (μ b 2)) r (μ b 2 - 1) (μ (b + 1) p))) (b + 2) (insR (remR (μ (b + 2)) p (μ b 2)) r (μ b 2 - 1) (μ (b + 2) p)))) := by
  refine con_of (ls0 := [vR b, vI p, vI r, vU, vU]) (by decide +kernel) rfl (Nat.le_of_ble_eq_true rfl) (Nat.le_of_ble_eq_true rfl) (fun X hV C hF => ?_)
  subst hV
  have C : Ok X RX0 cX0_shift 5 2 := C
  obtain ⟨B0, B1, Bn, Bt, Ble, Blb, Bto⟩ := id hB
  obtain ⟨W0, W1, W2, W3⟩ := id hW
  have n12 : b + 1 ≠ b + 2 := by omega
  have n21 : b + 2 ≠ b + 1 := by omega
  have nb1 : b ≠ b + 1 := by omega
  have nb2 : b ≠ b + 2 := by omega
  have n1b : b + 1 ≠ b := by omega
  have n2b : b + 2 ≠ b := by omega
  refine r_aload_n C dX0_shift_0 rfl ?_
  refine r_iload_n C dX0_shift_1 rfl ?_
  refine r_runI (fun aH aL aj a1 a2 a3 => run_V C hF.2.2.1 (kX0_hasPlace hB hW (by omega)) lm_X0_hasPlace ml_X0_43 im_X0_hasPlace se_X0_hasPlace B1 rfl (Nat.le_of_ble_eq_true rfl) dX0_shift_2 rfl (Nat.le_of_ble_eq_true rfl) a1 a2 a3) ?_
  rw [b01_t ⟨hp, hp2⟩]
  refine r_if_eq (tgt := 16) C dX0_shift_5 (by decide) (by omega) (fun c5 => absurd c5 (by omega)) (fun c5 => ?_)
  refine r_aload_n C dX0_shift_8 rfl ?_
  refine r_iload_n C dX0_shift_9 rfl ?_
  refine r_runI (fun aH aL aj a1 a2 a3 => run_V C hF.2.2.1 (kX0_hasPlace hB hW (by omega)) lm_X0_hasPlace ml_X0_43 im_X0_hasPlace se_X0_hasPlace B1 rfl (Nat.le_of_ble_eq_true rfl) dX0_shift_10 rfl (Nat.le_of_ble_eq_true rfl) a1 a2 a3) ?_
  rw [b01_t ⟨hr, hr2⟩]
  refine r_if_ne (tgt := 17) C dX0_shift_13 (by decide) (by omega) (fun c13 => ?_) (fun c13 => absurd c13 (by omega))
  refine r_aload_n C dX0_shift_17 rfl ?_
  refine gf_X0_9 C B1 dX0_shift_18 ?_
  refine r_iload_n C dX0_shift_21 rfl ?_
  refine r_runI (fun aH aL aj a1 a2 a3 => run_SN C hF.2.2.1 (kX4_at Bn (by decide) (by omega) (by omega)) lm_X4_at mn_X0_35 sm_X4_at (Nat.le_of_ble_eq_true rfl) dX0_shift_22 rfl (Nat.le_of_ble_eq_true rfl) a1 a2 a3) ?_
  refine r_istore_n C dX0_shift_25 (by decide) rfl ?_
  refine r_aload_n C dX0_shift_26 rfl ?_
  refine gf_X0_15 C B1 dX0_shift_27 ?_
  refine r_iload_n C dX0_shift_30 rfl ?_
  refine r_runI (fun aH aL aj a1 a2 a3 => run_SN C hF.2.2.1 (kX4_at Bt (by decide) (by omega) (by omega)) lm_X4_at mn_X0_35 sm_X4_at (Nat.le_of_ble_eq_true rfl) dX0_shift_31 rfl (Nat.le_of_ble_eq_true rfl) a1 a2 a3) ?_
  refine r_istore C dX0_shift_34 (by decide) rfl ?_
  refine r_aload_n C dX0_shift_36 rfl ?_
  refine r_iload_n C dX0_shift_37 rfl ?_
  refine r_runV (fun aH aL aj a1 a2 a3 => run_V C hF.2.2.1 (kX0_takeOut hB hW hp hp2) lm_X0_takeOut ml_X0_47 im_X0_takeOut se_X0_takeOut B1 rfl (Nat.le_of_ble_eq_true rfl) dX0_shift_38 rfl (Nat.le_of_ble_eq_true rfl) a1 a2 a3) ?_
  refine r_aload_n C dX0_shift_41 rfl ?_
  refine r_iload_n C dX0_shift_42 rfl ?_
  refine r_iload_n C dX0_shift_43 rfl ?_
  refine r_iload C dX0_shift_44 rfl ?_
  have m0 : (wr (wr (wr μ (b + 1) (remR (μ (b + 1)) p (μ b 2))) (b + 2) (remR (μ (b + 2)) p (μ b 2))) b (s1 (μ b) 2 (μ b 2 - 1))) b 2 = μ b 2 - 1 := by rw [wr_s, s1_s]
  have m1 : (wr (wr (wr μ (b + 1) (remR (μ (b + 1)) p (μ b 2))) (b + 2) (remR (μ (b + 2)) p (μ b 2))) b (s1 (μ b) 2 (μ b 2 - 1))) (b + 1) = remR (μ (b + 1)) p (μ b 2) := by rw [wr_n _ _ n1b, wr_n _ _ n12, wr_s]
  have m2 : (wr (wr (wr μ (b + 1) (remR (μ (b + 1)) p (μ b 2))) (b + 2) (remR (μ (b + 2)) p (μ b 2))) b (s1 (μ b) 2 (μ b 2 - 1))) (b + 2) = remR (μ (b + 2)) p (μ b 2) := by rw [wr_n _ _ n2b, wr_s]
  have hWr : BlW (wr (wr (wr μ (b + 1) (remR (μ (b + 1)) p (μ b 2))) (b + 2) (remR (μ (b + 2)) p (μ b 2))) b (s1 (μ b) 2 (μ b 2 - 1))) b := by
    show wfB ((wr (wr (wr μ (b + 1) (remR (μ (b + 1)) p (μ b 2))) (b + 2) (remR (μ (b + 2)) p (μ b 2))) b (s1 (μ b) 2 (μ b 2 - 1))) b 2) ((wr (wr (wr μ (b + 1) (remR (μ (b + 1)) p (μ b 2))) (b + 2) (remR (μ (b + 2)) p (μ b 2))) b (s1 (μ b) 2 (μ b 2 - 1))) (b + 1)) ((wr (wr (wr μ (b + 1) (remR (μ (b + 1)) p (μ b 2))) (b + 2) (remR (μ (b + 2)) p (μ b 2))) b (s1 (μ b) 2 (μ b 2 - 1))) (b + 2))
    rw [m0, m1, m2]
    exact wfB_rem (d := μ (b + 2)) hW hp hp2
  refine r_runV (fun aH aL aj a1 a2 a3 => run_V C hF.2.2.1 (kX0_putIn hB hWr hr (by rw [m0]; omega) (by rw [m0]; omega)) lm_X0_putIn ml_X0_51 im_X0_putIn se_X0_putIn B1 rfl (Nat.le_of_ble_eq_true rfl) dX0_shift_46 rfl (Nat.le_of_ble_eq_true rfl) a1 a2 a3) ?_
  exact r_vret C hF dX0_shift_49 (by
        funext q
        simp only [m0, m1, m2]
        by_cases hq0 : q = b
        · subst hq0; rw [wr_s, wr_s, s1_ss, show μ q 2 - 1 + 1 = μ q 2 by omega, s1_id, wr_n _ _ nb2, wr_n _ _ nb1]
        · rw [wr_n _ _ hq0]
          by_cases hq2 : q = b + 2
          · subst hq2; rw [wr_s, wr_s]
          · rw [wr_n _ _ hq2, wr_n _ _ hq2]
            by_cases hq1 : q = b + 1
            · subst hq1; rw [wr_s, wr_s]
            · rw [wr_n _ _ hq1, wr_n _ _ hq1, wr_n _ _ hq0, wr_n _ _ hq2, wr_n _ _ hq1])
set_option maxRecDepth 20000 in
set_option maxHeartbeats 2000000 in
theorem kX0_copiesOf {V : Wo} {μ : Mem} {b : Nat} (hB : BlS V b) (hW : BlW μ b) {x : Int} (hx : inR x) : Con V 1 yX0_copiesOf cX0_copiesOf 4 (some .int) [vR b, vI x] (μ) (QI V (cn (fun e => μ (b + 1) e = x) (μ b 2)) (μ)) := by
  refine con_of (ls0 := [vR b, vI x, vU, vU]) (by decide +kernel) rfl (Nat.le_of_ble_eq_true rfl) (Nat.le_of_ble_eq_true rfl) (fun X hV C hF => ?_)
  subst hV
  have C : Ok X RX0 cX0_copiesOf 4 1 := C
  obtain ⟨B0, B1, Bn, Bt, Ble, Blb, Bto⟩ := hB
  obtain ⟨W0, W1, W2, W3⟩ := hW
  refine r_iconst C dX0_copiesOf_0 ?_
  refine r_istore_n C dX0_copiesOf_1 (by decide) rfl ?_
  refine r_iconst C dX0_copiesOf_2 ?_
  refine r_istore_n C dX0_copiesOf_3 (by decide) rfl ?_
  refine loop_up (F := fun i => RR X μ 4 [vR b, vI x, vI (cn (fun e => μ (b + 1) e = x) i), vI i] []) (a := 0) (b := μ b 2) W0 ?_ ?_
  · show RR X _ _ [vR b, vI x, vI (cn (fun e => μ (b + 1) e = x) (μ b 2)), vI (μ b 2)] []
    refine r_iload_n C dX0_copiesOf_4 rfl ?_
    refine r_aload_n C dX0_copiesOf_5 rfl ?_
    refine gf_X0_27 C B1 dX0_copiesOf_6 ?_
    refine r_icmp_ge (tgt := 33) C dX0_copiesOf_9 (by decide) (by omega) (by omega) (fun c9 => ?_) (fun c9 => absurd c9 (by omega))
    refine r_iload_n C dX0_copiesOf_33 rfl ?_
    exact r_iret C hF dX0_copiesOf_34 rfl rfl
  · intro i h0 h1 K
    show RR X _ _ [vR b, vI x, vI (cn (fun e => μ (b + 1) e = x) i), vI i] []
    refine r_iload_n C dX0_copiesOf_4 rfl ?_
    refine r_aload_n C dX0_copiesOf_5 rfl ?_
    refine gf_X0_27 C B1 dX0_copiesOf_6 ?_
    refine r_icmp_ge (tgt := 33) C dX0_copiesOf_9 (by decide) (by omega) (by omega) (fun c9 => absurd c9 (by omega)) (fun c9 => ?_)
    refine r_aload_n C dX0_copiesOf_12 rfl ?_
    refine gf_X0_9 C B1 dX0_copiesOf_13 ?_
    refine r_iload_n C dX0_copiesOf_16 rfl ?_
    refine r_runI (fun aH aL aj a1 a2 a3 => run_SN C hF.2.2.1 (kX4_at Bn (by decide) (by omega) (by omega)) lm_X4_at mn_X0_35 sm_X4_at (Nat.le_of_ble_eq_true rfl) dX0_copiesOf_17 rfl (Nat.le_of_ble_eq_true rfl) a1 a2 a3) ?_
    refine r_iload_n C dX0_copiesOf_20 rfl ?_
    refine r_icmp_ne (tgt := 27) C dX0_copiesOf_21 (by decide) (by have := W2 i h0 h1; omega) hx (fun c21 => ?_) (fun c21 => ?_)
    · skip
      refine r_iinc C dX0_copiesOf_27 rfl (by decide) rfl ?_
      refine r_goto (tgt := 4) C dX0_copiesOf_30 (by decide) ?_
      rw [cn_s _ h0, b01_f c21, Int.add_zero] at K
      exact K
    · skip
      refine r_iinc C dX0_copiesOf_24 rfl (by decide) rfl ?_
      refine r_iinc C dX0_copiesOf_27 rfl (by decide) rfl ?_
      refine r_goto (tgt := 4) C dX0_copiesOf_30 (by decide) ?_
      rw [cn_s _ h0, b01_t c21] at K
      exact K
set_option maxRecDepth 20000 in
set_option maxHeartbeats 2000000 in
theorem kX0_firstTurned {V : Wo} {μ : Mem} {b : Nat} (hB : BlS V b) (hW : BlW μ b) : Con V 1 yX0_firstTurned cX0_firstTurned 2 (some .int) [vR b] (μ) (QI V (fs (fun k => μ (b + 2) k ≠ 0) 0 (μ b 2)) (μ)) := by
  refine con_of (ls0 := [vR b, vU]) (by decide +kernel) rfl (Nat.le_of_ble_eq_true rfl) (Nat.le_of_ble_eq_true rfl) (fun X hV C hF => ?_)
  subst hV
  have C : Ok X RX0 cX0_firstTurned 2 1 := C
  obtain ⟨B0, B1, Bn, Bt, Ble, Blb, Bto⟩ := hB
  obtain ⟨W0, W1, W2, W3⟩ := hW
  refine r_iconst C dX0_firstTurned_0 ?_
  refine r_istore_n C dX0_firstTurned_1 (by decide) rfl ?_
  revert hF
  refine loop_up (F := fun i => Fnl X (some .int) (QI (xV X) (fs (fun k => μ (b + 2) k ≠ 0) i (μ b 2)) μ) → RR X μ 2 [vR b, vI i] []) (a := 0) (b := μ b 2) W0 ?_ ?_
  · intro hF
    show RR X _ _ [vR b, vI (μ b 2)] []
    refine r_iload_n C dX0_firstTurned_2 rfl ?_
    refine r_aload_n C dX0_firstTurned_3 rfl ?_
    refine gf_X0_27 C B1 dX0_firstTurned_4 ?_
    refine r_icmp_ge (tgt := 29) C dX0_firstTurned_7 (by decide) (by omega) (by omega) (fun c7 => ?_) (fun c7 => absurd c7 (by omega))
    refine r_iconst C dX0_firstTurned_29 ?_
    exact r_iret C hF dX0_firstTurned_30 (fs_e _ (Int.le_refl _)).symm rfl
  · intro i h0 h1 K hF
    show RR X _ _ [vR b, vI i] []
    refine r_iload_n C dX0_firstTurned_2 rfl ?_
    refine r_aload_n C dX0_firstTurned_3 rfl ?_
    refine gf_X0_27 C B1 dX0_firstTurned_4 ?_
    refine r_icmp_ge (tgt := 29) C dX0_firstTurned_7 (by decide) (by omega) (by omega) (fun c7 => absurd c7 (by omega)) (fun c7 => ?_)
    refine r_aload_n C dX0_firstTurned_10 rfl ?_
    refine gf_X0_15 C B1 dX0_firstTurned_11 ?_
    refine r_iload_n C dX0_firstTurned_14 rfl ?_
    refine r_runI (fun aH aL aj a1 a2 a3 => run_SN C hF.2.2.1 (kX4_at Bt (by decide) (by omega) (by omega)) lm_X4_at mn_X0_35 sm_X4_at (Nat.le_of_ble_eq_true rfl) dX0_firstTurned_15 rfl (Nat.le_of_ble_eq_true rfl) a1 a2 a3) ?_
    refine r_if_eq (tgt := 23) C dX0_firstTurned_18 (by decide) (by have := W3 i h0 h1; omega) (fun c18 => ?_) (fun c18 => ?_)
    · skip
      refine r_iinc C dX0_firstTurned_23 rfl (by decide) rfl ?_
      refine r_goto (tgt := 2) C dX0_firstTurned_26 (by decide) ?_
      exact K (fs_f (fun k => μ (b + 2) k ≠ 0) h1 (by first | exact c18 | (show ¬ _; omega)) ▸ hF)
    · skip
      refine r_iload_n C dX0_firstTurned_21 rfl ?_
      exact r_iret C hF dX0_firstTurned_22 (fs_t (fun k => μ (b + 2) k ≠ 0) h1 (by first | exact c18 | (show _; omega))).symm rfl
set_option maxRecDepth 20000 in
set_option maxHeartbeats 2000000 in
theorem kX0_firstNotBelow {V : Wo} {μ : Mem} {b : Nat} (hB : BlS V b) (hW : BlW μ b) {x : Int} (hx : inR x) : Con V 1 yX0_firstNotBelow cX0_firstNotBelow 3 (some .int) [vR b, vI x] (μ) (QI V (fs (fun k => x ≤ μ (b + 1) k) 0 (μ b 2)) (μ)) := by
  refine con_of (ls0 := [vR b, vI x, vU]) (by decide +kernel) rfl (Nat.le_of_ble_eq_true rfl) (Nat.le_of_ble_eq_true rfl) (fun X hV C hF => ?_)
  subst hV
  have C : Ok X RX0 cX0_firstNotBelow 3 1 := C
  obtain ⟨B0, B1, Bn, Bt, Ble, Blb, Bto⟩ := hB
  obtain ⟨W0, W1, W2, W3⟩ := hW
  refine r_iconst C dX0_firstNotBelow_0 ?_
  refine r_istore_n C dX0_firstNotBelow_1 (by decide) rfl ?_
  revert hF
  refine loop_up (F := fun i => Fnl X (some .int) (QI (xV X) (fs (fun k => x ≤ μ (b + 1) k) i (μ b 2)) μ) → RR X μ 2 [vR b, vI x, vI i] []) (a := 0) (b := μ b 2) W0 ?_ ?_
  · intro hF
    show RR X _ _ [vR b, vI x, vI (μ b 2)] []
    refine r_iload_n C dX0_firstNotBelow_2 rfl ?_
    refine r_aload_n C dX0_firstNotBelow_3 rfl ?_
    refine gf_X0_27 C B1 dX0_firstNotBelow_4 ?_
    refine r_icmp_ge (tgt := 30) C dX0_firstNotBelow_7 (by decide) (by omega) (by omega) (fun c7 => ?_) (fun c7 => absurd c7 (by omega))
    refine r_iconst C dX0_firstNotBelow_30 ?_
    exact r_iret C hF dX0_firstNotBelow_31 (fs_e _ (Int.le_refl _)).symm rfl
  · intro i h0 h1 K hF
    show RR X _ _ [vR b, vI x, vI i] []
    refine r_iload_n C dX0_firstNotBelow_2 rfl ?_
    refine r_aload_n C dX0_firstNotBelow_3 rfl ?_
    refine gf_X0_27 C B1 dX0_firstNotBelow_4 ?_
    refine r_icmp_ge (tgt := 30) C dX0_firstNotBelow_7 (by decide) (by omega) (by omega) (fun c7 => absurd c7 (by omega)) (fun c7 => ?_)
    refine r_aload_n C dX0_firstNotBelow_10 rfl ?_
    refine gf_X0_9 C B1 dX0_firstNotBelow_11 ?_
    refine r_iload_n C dX0_firstNotBelow_14 rfl ?_
    refine r_runI (fun aH aL aj a1 a2 a3 => run_SN C hF.2.2.1 (kX4_at Bn (by decide) (by omega) (by omega)) lm_X4_at mn_X0_35 sm_X4_at (Nat.le_of_ble_eq_true rfl) dX0_firstNotBelow_15 rfl (Nat.le_of_ble_eq_true rfl) a1 a2 a3) ?_
    refine r_iload_n C dX0_firstNotBelow_18 rfl ?_
    refine r_icmp_lt (tgt := 24) C dX0_firstNotBelow_19 (by decide) (by have := W2 i h0 h1; omega) hx (fun c19 => ?_) (fun c19 => ?_)
    · skip
      refine r_iinc C dX0_firstNotBelow_24 rfl (by decide) rfl ?_
      refine r_goto (tgt := 2) C dX0_firstNotBelow_27 (by decide) ?_
      exact K (fs_f (fun k => x ≤ μ (b + 1) k) h1 (by first | exact c19 | (show ¬ _; omega)) ▸ hF)
    · skip
      refine r_iload_n C dX0_firstNotBelow_22 rfl ?_
      exact r_iret C hF dX0_firstNotBelow_23 (fs_t (fun k => x ≤ μ (b + 1) k) h1 (by first | exact c19 | (show _; omega))).symm rfl
set_option maxRecDepth 20000 in
set_option maxHeartbeats 2000000 in
theorem kX0_firstFall {V : Wo} {μ : Mem} {b : Nat} (hB : BlS V b) (hW : BlW μ b) : Con V 1 yX0_firstFall cX0_firstFall 2 (some .int) [vR b] (μ) (QI V (fs (fun k => μ (b + 1) k < μ (b + 1) (k - 1)) 1 (μ b 2)) (μ)) := by
  refine con_of (ls0 := [vR b, vU]) (by decide +kernel) rfl (Nat.le_of_ble_eq_true rfl) (Nat.le_of_ble_eq_true rfl) (fun X hV C hF => ?_)
  subst hV
  have C : Ok X RX0 cX0_firstFall 2 1 := C
  obtain ⟨B0, B1, Bn, Bt, Ble, Blb, Bto⟩ := hB
  obtain ⟨W0, W1, W2, W3⟩ := hW
  refine r_iconst C dX0_firstFall_0 ?_
  refine r_istore_n C dX0_firstFall_1 (by decide) rfl ?_
  revert hF
  refine loop_ge (F := fun i => Fnl X (some .int) (QI (xV X) (fs (fun k => μ (b + 1) k < μ (b + 1) (k - 1)) i (μ b 2)) μ) → RR X μ 2 [vR b, vI i] []) (a := 1) (n := μ b 2) ?_ ?_
  · intro i g0 g1 g2 hF
    show RR X _ _ [vR b, vI i] []
    refine r_iload_n C dX0_firstFall_2 rfl ?_
    refine r_aload_n C dX0_firstFall_3 rfl ?_
    refine gf_X0_27 C B1 dX0_firstFall_4 ?_
    refine r_icmp_ge (tgt := 39) C dX0_firstFall_7 (by decide) (by omega) (by omega) (fun c7 => ?_) (fun c7 => absurd c7 (by omega))
    refine r_iconst C dX0_firstFall_39 ?_
    exact r_iret C hF dX0_firstFall_40 (fs_e _ g1).symm rfl
  · intro i h0 h1 K hF
    show RR X _ _ [vR b, vI i] []
    refine r_iload_n C dX0_firstFall_2 rfl ?_
    refine r_aload_n C dX0_firstFall_3 rfl ?_
    refine gf_X0_27 C B1 dX0_firstFall_4 ?_
    refine r_icmp_ge (tgt := 39) C dX0_firstFall_7 (by decide) (by omega) (by omega) (fun c7 => absurd c7 (by omega)) (fun c7 => ?_)
    refine r_aload_n C dX0_firstFall_10 rfl ?_
    refine gf_X0_9 C B1 dX0_firstFall_11 ?_
    refine r_iload_n C dX0_firstFall_14 rfl ?_
    refine r_runI (fun aH aL aj a1 a2 a3 => run_SN C hF.2.2.1 (kX4_at Bn (by decide) (by omega) (by omega)) lm_X4_at mn_X0_35 sm_X4_at (Nat.le_of_ble_eq_true rfl) dX0_firstFall_15 rfl (Nat.le_of_ble_eq_true rfl) a1 a2 a3) ?_
    refine r_aload_n C dX0_firstFall_18 rfl ?_
    refine gf_X0_9 C B1 dX0_firstFall_19 ?_
    refine r_iload_n C dX0_firstFall_22 rfl ?_
    refine r_iconst C dX0_firstFall_23 ?_
    refine r_isub C dX0_firstFall_24 ?_
    refine r_runI (fun aH aL aj a1 a2 a3 => run_SN C hF.2.2.1 (kX4_at Bn (by decide) (by omega) (by omega)) lm_X4_at mn_X0_35 sm_X4_at (Nat.le_of_ble_eq_true rfl) dX0_firstFall_25 rfl (Nat.le_of_ble_eq_true rfl) a1 a2 a3) ?_
    refine r_icmp_ge (tgt := 33) C dX0_firstFall_28 (by decide) (by have := W2 i (by omega) h1; omega) (by have := W2 (i - 1) (by omega) (by omega); omega) (fun c28 => ?_) (fun c28 => ?_)
    · skip
      refine r_iinc C dX0_firstFall_33 rfl (by decide) rfl ?_
      refine r_goto (tgt := 2) C dX0_firstFall_36 (by decide) ?_
      exact K (fs_f (fun k => μ (b + 1) k < μ (b + 1) (k - 1)) h1 (by first | exact c28 | (show ¬ _; omega)) ▸ hF)
    · skip
      refine r_iload_n C dX0_firstFall_31 rfl ?_
      exact r_iret C hF dX0_firstFall_32 (fs_t (fun k => μ (b + 1) k < μ (b + 1) (k - 1)) h1 (by first | exact c28 | (show _; omega))).symm rfl
set_option maxRecDepth 20000 in
set_option maxHeartbeats 2000000 in
theorem kX0_firstDouble {V : Wo} {μ : Mem} {b : Nat} (hB : BlS V b) (hW : BlW μ b) : Con V 1 yX0_firstDouble cX0_firstDouble 3 (some .int) [vR b] (μ) (QI V (fs (fun k => cn (fun e => μ (b + 1) e = μ (b + 1) k) k ≠ 0) 1 (μ b 2)) (μ)) := by
  refine con_of (ls0 := [vR b, vU, vU]) (by decide +kernel) rfl (Nat.le_of_ble_eq_true rfl) (Nat.le_of_ble_eq_true rfl) (fun X hV C hF => ?_)
  subst hV
  have C : Ok X RX0 cX0_firstDouble 3 1 := C
  obtain ⟨B0, B1, Bn, Bt, Ble, Blb, Bto⟩ := hB
  obtain ⟨W0, W1, W2, W3⟩ := hW
  refine r_iconst C dX0_firstDouble_0 ?_
  refine r_istore_n C dX0_firstDouble_1 (by decide) rfl ?_
  suffices hQ : Fnl X (some .int) (QI (xV X) (fs (fun k => cn (fun e => μ (b + 1) e = μ (b + 1) k) k ≠ 0) 1 (μ b 2)) μ) → ∀ z : AV, RR X μ 2 [vR b, vI 1, z] [] from hQ hF vU
  refine loop_ge (F := fun i => Fnl X (some .int) (QI (xV X) (fs (fun k => cn (fun e => μ (b + 1) e = μ (b + 1) k) k ≠ 0) i (μ b 2)) μ) → ∀ z : AV, RR X μ 2 [vR b, vI i, z] []) (a := 1) (n := μ b 2) ?_ ?_
  · intro i g0 g1 g2 hF z
    show RR X _ _ [vR b, vI i, z] []
    refine r_iload_n C dX0_firstDouble_2 rfl ?_
    refine r_aload_n C dX0_firstDouble_3 rfl ?_
    refine gf_X0_27 C B1 dX0_firstDouble_4 ?_
    refine r_icmp_ge (tgt := 50) C dX0_firstDouble_7 (by decide) (by omega) (by omega) (fun c7 => ?_) (fun c7 => absurd c7 (by omega))
    refine r_iconst C dX0_firstDouble_50 ?_
    exact r_iret C hF dX0_firstDouble_51 (fs_e _ g1).symm rfl
  · intro i h0 h1 K hF z
    show RR X _ _ [vR b, vI i, z] []
    refine r_iload_n C dX0_firstDouble_2 rfl ?_
    refine r_aload_n C dX0_firstDouble_3 rfl ?_
    refine gf_X0_27 C B1 dX0_firstDouble_4 ?_
    refine r_icmp_ge (tgt := 50) C dX0_firstDouble_7 (by decide) (by omega) (by omega) (fun c7 => absurd c7 (by omega)) (fun c7 => ?_)
    refine r_iconst C dX0_firstDouble_10 ?_
    refine r_istore_n C dX0_firstDouble_11 (by decide) rfl ?_
    have hz : cn (fun e => μ (b + 1) e = μ (b + 1) i) 0 = 0 := cn_0 _
    revert hz
    refine loop_up (F := fun j => cn (fun e => μ (b + 1) e = μ (b + 1) i) j = 0 → RR X μ 12 [vR b, vI i, vI j] []) (a := 0) (b := i) (by omega) ?_ ?_
    · intro hz
      show RR X _ _ [vR b, vI i, vI i] []
      refine r_iload_n C dX0_firstDouble_12 rfl ?_
      refine r_iload_n C dX0_firstDouble_13 rfl ?_
      refine r_icmp_ge (tgt := 44) C dX0_firstDouble_14 (by decide) (by omega) (by omega) (fun c14 => ?_) (fun c14 => absurd c14 (by omega))
      refine r_iinc C dX0_firstDouble_44 rfl (by decide) rfl ?_
      refine r_goto (tgt := 2) C dX0_firstDouble_47 (by decide) ?_
      exact K (fs_f (fun k => cn (fun e => μ (b + 1) e = μ (b + 1) k) k ≠ 0) h1 (fun z => z hz) ▸ hF) _
    · intro j g0 g1 K2 hz
      show RR X _ _ [vR b, vI i, vI j] []
      refine r_iload_n C dX0_firstDouble_12 rfl ?_
      refine r_iload_n C dX0_firstDouble_13 rfl ?_
      refine r_icmp_ge (tgt := 44) C dX0_firstDouble_14 (by decide) (by omega) (by omega) (fun c14 => absurd c14 (by omega)) (fun c14 => ?_)
      refine r_aload_n C dX0_firstDouble_17 rfl ?_
      refine gf_X0_9 C B1 dX0_firstDouble_18 ?_
      refine r_iload_n C dX0_firstDouble_21 rfl ?_
      refine r_runI (fun aH aL aj a1 a2 a3 => run_SN C hF.2.2.1 (kX4_at Bn (by decide) (by omega) (by omega)) lm_X4_at mn_X0_35 sm_X4_at (Nat.le_of_ble_eq_true rfl) dX0_firstDouble_22 rfl (Nat.le_of_ble_eq_true rfl) a1 a2 a3) ?_
      refine r_aload_n C dX0_firstDouble_25 rfl ?_
      refine gf_X0_9 C B1 dX0_firstDouble_26 ?_
      refine r_iload_n C dX0_firstDouble_29 rfl ?_
      refine r_runI (fun aH aL aj a1 a2 a3 => run_SN C hF.2.2.1 (kX4_at Bn (by decide) (by omega) (by omega)) lm_X4_at mn_X0_35 sm_X4_at (Nat.le_of_ble_eq_true rfl) dX0_firstDouble_30 rfl (Nat.le_of_ble_eq_true rfl) a1 a2 a3) ?_
      refine r_icmp_ne (tgt := 38) C dX0_firstDouble_33 (by decide) (by have := W2 j (by omega) (by omega); omega) (by have := W2 i (by omega) (by omega); omega) (fun c33 => ?_) (fun c33 => ?_)
      · skip
        refine r_iinc C dX0_firstDouble_38 rfl (by decide) rfl ?_
        refine r_goto (tgt := 12) C dX0_firstDouble_41 (by decide) ?_
        exact K2 (by rw [cn_s _ g0, b01_f c33, hz]; rfl)
      · skip
        refine r_iload_n C dX0_firstDouble_36 rfl ?_
        exact r_iret C hF dX0_firstDouble_37 (fs_t (fun k => cn (fun e => μ (b + 1) e = μ (b + 1) k) k ≠ 0) h1 (cn_pos g0 g1 c33)).symm rfl
set_option maxRecDepth 20000 in
set_option maxHeartbeats 2000000 in
theorem kX0_greaterAheadOf {V : Wo} {μ : Mem} {b : Nat} (hB : BlS V b) (hW : BlW μ b) {p : Int} (hp : 0 ≤ p) (hp2 : p < μ b 2) : Con V 1 yX0_greaterAheadOf cX0_greaterAheadOf 4 (some .int) [vR b, vI p] (μ) (QI V (cn (fun e => μ (b + 1) p < μ (b + 1) e) p) (μ)) := by
  refine con_of (ls0 := [vR b, vI p, vU, vU]) (by decide +kernel) rfl (Nat.le_of_ble_eq_true rfl) (Nat.le_of_ble_eq_true rfl) (fun X hV C hF => ?_)
  subst hV
  have C : Ok X RX0 cX0_greaterAheadOf 4 1 := C
  obtain ⟨B0, B1, Bn, Bt, Ble, Blb, Bto⟩ := hB
  obtain ⟨W0, W1, W2, W3⟩ := hW
  refine r_iconst C dX0_greaterAheadOf_0 ?_
  refine r_istore_n C dX0_greaterAheadOf_1 (by decide) rfl ?_
  refine r_iconst C dX0_greaterAheadOf_2 ?_
  refine r_istore_n C dX0_greaterAheadOf_3 (by decide) rfl ?_
  refine loop_up (F := fun i => RR X μ 4 [vR b, vI p, vI (cn (fun e => μ (b + 1) p < μ (b + 1) e) i), vI i] []) (a := 0) (b := p) hp ?_ ?_
  · show RR X _ _ [vR b, vI p, vI (cn (fun e => μ (b + 1) p < μ (b + 1) e) p), vI p] []
    refine r_iload_n C dX0_greaterAheadOf_4 rfl ?_
    refine r_iload_n C dX0_greaterAheadOf_5 rfl ?_
    refine r_icmp_ge (tgt := 45) C dX0_greaterAheadOf_6 (by decide) (by omega) (by omega) (fun c6 => ?_) (fun c6 => absurd c6 (by omega))
    refine r_iload_n C dX0_greaterAheadOf_45 rfl ?_
    exact r_iret C hF dX0_greaterAheadOf_46 rfl rfl
  · intro i h0 h1 K
    show RR X _ _ [vR b, vI p, vI (cn (fun e => μ (b + 1) p < μ (b + 1) e) i), vI i] []
    refine r_iload_n C dX0_greaterAheadOf_4 rfl ?_
    refine r_iload_n C dX0_greaterAheadOf_5 rfl ?_
    refine r_icmp_ge (tgt := 45) C dX0_greaterAheadOf_6 (by decide) (by omega) (by omega) (fun c6 => absurd c6 (by omega)) (fun c6 => ?_)
    refine r_iload_n C dX0_greaterAheadOf_9 rfl ?_
    refine r_aload_n C dX0_greaterAheadOf_10 rfl ?_
    refine gf_X0_27 C B1 dX0_greaterAheadOf_11 ?_
    refine r_icmp_ge (tgt := 45) C dX0_greaterAheadOf_14 (by decide) (by omega) (by omega) (fun c14 => absurd c14 (by omega)) (fun c14 => ?_)
    refine r_aload_n C dX0_greaterAheadOf_17 rfl ?_
    refine gf_X0_9 C B1 dX0_greaterAheadOf_18 ?_
    refine r_iload_n C dX0_greaterAheadOf_21 rfl ?_
    refine r_runI (fun aH aL aj a1 a2 a3 => run_SN C hF.2.2.1 (kX4_at Bn (by decide) (by omega) (by omega)) lm_X4_at mn_X0_35 sm_X4_at (Nat.le_of_ble_eq_true rfl) dX0_greaterAheadOf_22 rfl (Nat.le_of_ble_eq_true rfl) a1 a2 a3) ?_
    refine r_aload_n C dX0_greaterAheadOf_25 rfl ?_
    refine gf_X0_9 C B1 dX0_greaterAheadOf_26 ?_
    refine r_iload_n C dX0_greaterAheadOf_29 rfl ?_
    refine r_runI (fun aH aL aj a1 a2 a3 => run_SN C hF.2.2.1 (kX4_at Bn (by decide) (by omega) (by omega)) lm_X4_at mn_X0_35 sm_X4_at (Nat.le_of_ble_eq_true rfl) dX0_greaterAheadOf_30 rfl (Nat.le_of_ble_eq_true rfl) a1 a2 a3) ?_
    refine r_icmp_le (tgt := 39) C dX0_greaterAheadOf_33 (by decide) (by have := W2 i h0 (by omega); omega) (by have := W2 p hp hp2; omega) (fun c33 => ?_) (fun c33 => ?_)
    · skip
      refine r_iinc C dX0_greaterAheadOf_39 rfl (by decide) rfl ?_
      refine r_goto (tgt := 4) C dX0_greaterAheadOf_42 (by decide) ?_
      rw [cn_s _ h0, b01_f (by omega), Int.add_zero] at K
      exact K
    · skip
      refine r_iinc C dX0_greaterAheadOf_36 rfl (by decide) rfl ?_
      refine r_iinc C dX0_greaterAheadOf_39 rfl (by decide) rfl ?_
      refine r_goto (tgt := 4) C dX0_greaterAheadOf_42 (by decide) ?_
      rw [cn_s _ h0, b01_t c33] at K
      exact K
set_option maxRecDepth 20000 in
set_option maxHeartbeats 2000000 in
theorem kX0_fallingPairs {V : Wo} {μ : Mem} {b : Nat} (hB : BlS V b) (hW : BlW μ b) : Con V 2 yX0_fallingPairs cX0_fallingPairs 3 (some .int) [vR b] (μ) (QI V (sm (fun k => cn (fun e => μ (b + 1) k < μ (b + 1) e) k) (μ b 2)) (μ)) := by
  refine con_of (ls0 := [vR b, vU, vU]) (by decide +kernel) rfl (Nat.le_of_ble_eq_true rfl) (Nat.le_of_ble_eq_true rfl) (fun X hV C hF => ?_)
  subst hV
  have C : Ok X RX0 cX0_fallingPairs 3 2 := C
  obtain ⟨B0, B1, Bn, Bt, Ble, Blb, Bto⟩ := id hB
  obtain ⟨W0, W1, W2, W3⟩ := id hW
  refine r_iconst C dX0_fallingPairs_0 ?_
  refine r_istore_n C dX0_fallingPairs_1 (by decide) rfl ?_
  refine r_iconst C dX0_fallingPairs_2 ?_
  refine r_istore_n C dX0_fallingPairs_3 (by decide) rfl ?_
  refine loop_up (F := fun i => RR X μ 4 [vR b, vI (sm (fun k => cn (fun e => μ (b + 1) k < μ (b + 1) e) k) i), vI i] []) (a := 0) (b := μ b 2) W0 ?_ ?_
  · show RR X _ _ [vR b, vI (sm (fun k => cn (fun e => μ (b + 1) k < μ (b + 1) e) k) (μ b 2)), vI (μ b 2)] []
    refine r_iload_n C dX0_fallingPairs_4 rfl ?_
    refine r_aload_n C dX0_fallingPairs_5 rfl ?_
    refine gf_X0_27 C B1 dX0_fallingPairs_6 ?_
    refine r_icmp_ge (tgt := 26) C dX0_fallingPairs_9 (by decide) (by omega) (by omega) (fun c9 => ?_) (fun c9 => absurd c9 (by omega))
    refine r_iload_n C dX0_fallingPairs_26 rfl ?_
    exact r_iret C hF dX0_fallingPairs_27 rfl rfl
  · intro i h0 h1 K
    show RR X _ _ [vR b, vI (sm (fun k => cn (fun e => μ (b + 1) k < μ (b + 1) e) k) i), vI i] []
    refine r_iload_n C dX0_fallingPairs_4 rfl ?_
    refine r_aload_n C dX0_fallingPairs_5 rfl ?_
    refine gf_X0_27 C B1 dX0_fallingPairs_6 ?_
    refine r_icmp_ge (tgt := 26) C dX0_fallingPairs_9 (by decide) (by omega) (by omega) (fun c9 => absurd c9 (by omega)) (fun c9 => ?_)
    refine r_iload_n C dX0_fallingPairs_12 rfl ?_
    refine r_aload_n C dX0_fallingPairs_13 rfl ?_
    refine r_iload_n C dX0_fallingPairs_14 rfl ?_
    refine r_runI (fun aH aL aj a1 a2 a3 => run_V C hF.2.2.1 (kX0_greaterAheadOf hB hW h0 h1) lm_X0_greaterAheadOf ml_X0_55 im_X0_greaterAheadOf se_X0_greaterAheadOf B1 rfl (Nat.le_of_ble_eq_true rfl) dX0_fallingPairs_15 rfl (Nat.le_of_ble_eq_true rfl) a1 a2 a3) ?_
    refine r_iadd C dX0_fallingPairs_18 ?_
    refine r_istore_n C dX0_fallingPairs_19 (by decide) rfl ?_
    refine r_iinc C dX0_fallingPairs_20 rfl (by decide) rfl ?_
    refine r_goto (tgt := 4) C dX0_fallingPairs_23 (by decide) ?_
    rw [sm_s _ h0] at K
    exact K
set_option maxRecDepth 20000 in
set_option maxHeartbeats 2000000 in
theorem kX0_longestAhead {V : Wo} {μ : Mem} {b : Nat} (hB : BlS V b) (hW : BlW μ b) {p x : Int} (hp : 0 ≤ p) (hp2 : p ≤ μ b 2) (hx : inR x) (hL : ∀ e, 0 ≤ e → e < p → 0 ≤ μ (b + 3) e ∧ μ (b + 3) e ≤ 20) : Con V 1 yX0_longestAhead cX0_longestAhead 5 (some .int) [vR b, vI p, vI x] (μ) (QI V (mx (fun e => if μ (b + 1) e ≤ x then μ (b + 3) e else 0) p) (μ)) := by
  refine con_of (ls0 := [vR b, vI p, vI x, vU, vU]) (by decide +kernel) rfl (Nat.le_of_ble_eq_true rfl) (Nat.le_of_ble_eq_true rfl) (fun X hV C hF => ?_)
  subst hV
  have C : Ok X RX0 cX0_longestAhead 5 1 := C
  obtain ⟨B0, B1, Bn, Bt, Ble, Blb, Bto⟩ := hB
  obtain ⟨W0, W1, W2, W3⟩ := hW
  have hbd : ∀ i, i ≤ p → 0 ≤ mx (fun e => if μ (b + 1) e ≤ x then μ (b + 3) e else 0) i ∧ mx (fun e => if μ (b + 1) e ≤ x then μ (b + 3) e else 0) i ≤ 20 := fun i hi => ⟨mx_nn _ _, mx_le (by omega) (fun k k0 k1 => by
    have := hL k k0 (by omega)
    show (if μ (b + 1) k ≤ x then μ (b + 3) k else 0) ≤ 20
    split <;> omega)⟩
  refine r_iconst C dX0_longestAhead_0 ?_
  refine r_istore_n C dX0_longestAhead_1 (by decide) rfl ?_
  refine r_iconst C dX0_longestAhead_2 ?_
  refine r_istore C dX0_longestAhead_3 (by decide) rfl ?_
  refine loop_up (F := fun i => RR X μ 5 [vR b, vI p, vI x, vI (mx (fun e => if μ (b + 1) e ≤ x then μ (b + 3) e else 0) i), vI i] []) (a := 0) (b := p) hp ?_ ?_
  · show RR X _ _ [vR b, vI p, vI x, vI (mx (fun e => if μ (b + 1) e ≤ x then μ (b + 3) e else 0) p), vI p] []
    refine r_iload C dX0_longestAhead_5 rfl ?_
    refine r_iload_n C dX0_longestAhead_7 rfl ?_
    refine r_icmp_ge (tgt := 53) C dX0_longestAhead_8 (by decide) (by omega) (by omega) (fun c8 => ?_) (fun c8 => absurd c8 (by omega))
    refine r_iload_n C dX0_longestAhead_53 rfl ?_
    exact r_iret C hF dX0_longestAhead_54 rfl rfl
  · intro i h0 h1 K
    show RR X _ _ [vR b, vI p, vI x, vI (mx (fun e => if μ (b + 1) e ≤ x then μ (b + 3) e else 0) i), vI i] []
    refine r_iload C dX0_longestAhead_5 rfl ?_
    refine r_iload_n C dX0_longestAhead_7 rfl ?_
    refine r_icmp_ge (tgt := 53) C dX0_longestAhead_8 (by decide) (by omega) (by omega) (fun c8 => absurd c8 (by omega)) (fun c8 => ?_)
    refine r_iload C dX0_longestAhead_11 rfl ?_
    refine r_aload_n C dX0_longestAhead_13 rfl ?_
    refine gf_X0_27 C B1 dX0_longestAhead_14 ?_
    refine r_icmp_ge (tgt := 53) C dX0_longestAhead_17 (by decide) (by omega) (by omega) (fun c17 => absurd c17 (by omega)) (fun c17 => ?_)
    refine r_aload_n C dX0_longestAhead_20 rfl ?_
    refine gf_X0_9 C B1 dX0_longestAhead_21 ?_
    refine r_iload C dX0_longestAhead_24 rfl ?_
    refine r_runI (fun aH aL aj a1 a2 a3 => run_SN C hF.2.2.1 (kX4_at Bn (by decide) (by omega) (by omega)) lm_X4_at mn_X0_35 sm_X4_at (Nat.le_of_ble_eq_true rfl) dX0_longestAhead_26 rfl (Nat.le_of_ble_eq_true rfl) a1 a2 a3) ?_
    refine r_iload_n C dX0_longestAhead_29 rfl ?_
    refine r_icmp_gt (tgt := 47) C dX0_longestAhead_30 (by decide) (by have := W2 i h0 (by omega); omega) hx (fun c30 => ?_) (fun c30 => ?_)
    · skip
      refine r_iinc C dX0_longestAhead_47 rfl (by decide) rfl ?_
      refine r_goto (tgt := 5) C dX0_longestAhead_50 (by decide) ?_
      rw [mx_s _ h0, if_neg (by omega : ¬ μ (b + 1) i ≤ x), if_neg (by have := hbd i (by omega); omega)] at K
      exact K
    · skip
      refine r_iload_n C dX0_longestAhead_33 rfl ?_
      refine r_aload_n C dX0_longestAhead_34 rfl ?_
      refine gf_X0_18 C B1 dX0_longestAhead_35 ?_
      refine r_iload C dX0_longestAhead_38 rfl ?_
      refine r_runI (fun aH aL aj a1 a2 a3 => run_SN C hF.2.2.1 (kX4_at Ble (by decide) (by omega) (by omega)) lm_X4_at mn_X0_35 sm_X4_at (Nat.le_of_ble_eq_true rfl) dX0_longestAhead_40 rfl (Nat.le_of_ble_eq_true rfl) a1 a2 a3) ?_
      refine r_max C ml_X0_69 dX0_longestAhead_43 (by have := hbd i (by omega); omega) (by have := hL i h0 h1; omega) (Nat.le_of_ble_eq_true rfl) (Nat.le_of_ble_eq_true rfl) ?_
      refine r_istore_n C dX0_longestAhead_46 (by decide) rfl ?_
      refine r_iinc C dX0_longestAhead_47 rfl (by decide) rfl ?_
      refine r_goto (tgt := 5) C dX0_longestAhead_50 (by decide) ?_
      rw [mx_s _ h0, if_pos c30] at K
      exact K
set_option maxRecDepth 20000 in
set_option maxHeartbeats 2000000 in
theorem kX0_longestFrom {V : Wo} {μ : Mem} {b : Nat} (hB : BlS V b) (hW : BlW μ b) {p x : Int} (hp : 0 ≤ p) (hp2 : p ≤ μ b 2) (hx : inR x) (hL : ∀ e, p ≤ e → e < μ b 2 → 0 ≤ μ (b + 4) e ∧ μ (b + 4) e ≤ 20) : Con V 1 yX0_longestFrom cX0_longestFrom 5 (some .int) [vR b, vI p, vI x] (μ) (QI V (mx (fun e => if μ (b + 1) (p + e) ≥ x then μ (b + 4) (p + e) else 0) (μ b 2 - p)) (μ)) := by
  refine con_of (ls0 := [vR b, vI p, vI x, vU, vU]) (by decide +kernel) rfl (Nat.le_of_ble_eq_true rfl) (Nat.le_of_ble_eq_true rfl) (fun X hV C hF => ?_)
  subst hV
  have C : Ok X RX0 cX0_longestFrom 5 1 := C
  obtain ⟨B0, B1, Bn, Bt, Ble, Blb, Bto⟩ := hB
  obtain ⟨W0, W1, W2, W3⟩ := hW
  have hbd : ∀ i, i ≤ μ b 2 - p → 0 ≤ mx (fun e => if μ (b + 1) (p + e) ≥ x then μ (b + 4) (p + e) else 0) i ∧ mx (fun e => if μ (b + 1) (p + e) ≥ x then μ (b + 4) (p + e) else 0) i ≤ 20 := fun i hi => ⟨mx_nn _ _, mx_le (by omega) (fun k k0 k1 => by
    have := hL (p + k) (by omega) (by omega)
    show (if μ (b + 1) (p + k) ≥ x then μ (b + 4) (p + k) else 0) ≤ 20
    split <;> omega)⟩
  refine r_iconst C dX0_longestFrom_0 ?_
  refine r_istore_n C dX0_longestFrom_1 (by decide) rfl ?_
  refine r_iload_n C dX0_longestFrom_2 rfl ?_
  refine r_istore C dX0_longestFrom_3 (by decide) rfl ?_
  suffices hQ : RR X μ 5 [vR b, vI p, vI x, vI (mx (fun e => if μ (b + 1) (p + e) ≥ x then μ (b + 4) (p + e) else 0) (p - p)), vI p] [] by rw [Int.sub_self] at hQ; exact hQ
  refine loop_up (F := fun i => RR X μ 5 [vR b, vI p, vI x, vI (mx (fun e => if μ (b + 1) (p + e) ≥ x then μ (b + 4) (p + e) else 0) (i - p)), vI i] []) (a := p) (b := μ b 2) hp2 ?_ ?_
  · show RR X _ _ [vR b, vI p, vI x, vI (mx (fun e => if μ (b + 1) (p + e) ≥ x then μ (b + 4) (p + e) else 0) (μ b 2 - p)), vI (μ b 2)] []
    refine r_iload C dX0_longestFrom_5 rfl ?_
    refine r_aload_n C dX0_longestFrom_7 rfl ?_
    refine gf_X0_27 C B1 dX0_longestFrom_8 ?_
    refine r_icmp_ge (tgt := 47) C dX0_longestFrom_11 (by decide) (by omega) (by omega) (fun c11 => ?_) (fun c11 => absurd c11 (by omega))
    refine r_iload_n C dX0_longestFrom_47 rfl ?_
    exact r_iret C hF dX0_longestFrom_48 rfl rfl
  · intro i h0 h1 K
    show RR X _ _ [vR b, vI p, vI x, vI (mx (fun e => if μ (b + 1) (p + e) ≥ x then μ (b + 4) (p + e) else 0) (i - p)), vI i] []
    refine r_iload C dX0_longestFrom_5 rfl ?_
    refine r_aload_n C dX0_longestFrom_7 rfl ?_
    refine gf_X0_27 C B1 dX0_longestFrom_8 ?_
    refine r_icmp_ge (tgt := 47) C dX0_longestFrom_11 (by decide) (by omega) (by omega) (fun c11 => absurd c11 (by omega)) (fun c11 => ?_)
    refine r_aload_n C dX0_longestFrom_14 rfl ?_
    refine gf_X0_9 C B1 dX0_longestFrom_15 ?_
    refine r_iload C dX0_longestFrom_18 rfl ?_
    refine r_runI (fun aH aL aj a1 a2 a3 => run_SN C hF.2.2.1 (kX4_at Bn (by decide) (by omega) (by omega)) lm_X4_at mn_X0_35 sm_X4_at (Nat.le_of_ble_eq_true rfl) dX0_longestFrom_20 rfl (Nat.le_of_ble_eq_true rfl) a1 a2 a3) ?_
    refine r_iload_n C dX0_longestFrom_23 rfl ?_
    have e9 : p + (i - p) = i := by omega
    refine r_icmp_lt (tgt := 41) C dX0_longestFrom_24 (by decide) (by have := W2 i (by omega) h1; omega) hx (fun c24 => ?_) (fun c24 => ?_)
    · skip
      refine r_iinc C dX0_longestFrom_41 rfl (by decide) rfl ?_
      refine r_goto (tgt := 5) C dX0_longestFrom_44 (by decide) ?_
      rw [show i + 1 - p = i - p + 1 by omega, mx_s _ (by omega : 0 ≤ i - p), e9, if_neg (by omega : ¬ μ (b + 1) i ≥ x), if_neg (by have := hbd (i - p) (by omega); omega)] at K
      exact K
    · skip
      refine r_iload_n C dX0_longestFrom_27 rfl ?_
      refine r_aload_n C dX0_longestFrom_28 rfl ?_
      refine gf_X0_21 C B1 dX0_longestFrom_29 ?_
      refine r_iload C dX0_longestFrom_32 rfl ?_
      refine r_runI (fun aH aL aj a1 a2 a3 => run_SN C hF.2.2.1 (kX4_at Blb (by decide) (by omega) (by omega)) lm_X4_at mn_X0_35 sm_X4_at (Nat.le_of_ble_eq_true rfl) dX0_longestFrom_34 rfl (Nat.le_of_ble_eq_true rfl) a1 a2 a3) ?_
      refine r_max C ml_X0_69 dX0_longestFrom_37 (by have := hbd (i - p) (by omega); omega) (by have := hL i h0 h1; omega) (Nat.le_of_ble_eq_true rfl) (Nat.le_of_ble_eq_true rfl) ?_
      refine r_istore_n C dX0_longestFrom_40 (by decide) rfl ?_
      refine r_iinc C dX0_longestFrom_41 rfl (by decide) rfl ?_
      refine r_goto (tgt := 5) C dX0_longestFrom_44 (by decide) ?_
      rw [show i + 1 - p = i - p + 1 by omega, mx_s _ (by omega : 0 ≤ i - p), e9, if_pos (show μ (b + 1) i ≥ x from c24)] at K
      exact K
set_option maxRecDepth 20000 in
set_option maxHeartbeats 2000000 in
theorem kX0_findLongestEnding {V : Wo} {μ : Mem} {b : Nat} (hB : BlS V b) (hW : BlW μ b) : Con V 2 yX0_findLongestEnding cX0_findLongestEnding 2 (none) [vR b] (μ) (QV V (wr μ (b + 3) (leI (μ (b + 1)) (μ (b + 3)) (μ b 2)))) := by
  refine con_of (ls0 := [vR b, vU]) (by decide +kernel) rfl (Nat.le_of_ble_eq_true rfl) (Nat.le_of_ble_eq_true rfl) (fun X hV C hF => ?_)
  subst hV
  have C : Ok X RX0 cX0_findLongestEnding 2 2 := C
  obtain ⟨B0, B1, Bn, Bt, Ble, Blb, Bto⟩ := id hB
  obtain ⟨W0, W1, W2, W3⟩ := id hW
  have n13 : b + 1 ≠ b + 3 := by omega
  have nb3 : b ≠ b + 3 := by omega
  have n23 : b + 2 ≠ b + 3 := by omega
  have ei0 : ∀ i, (wr μ (b + 3) (leI (μ (b + 1)) (μ (b + 3)) i)) b 2 = μ b 2 := fun i => by rw [wr_n _ _ nb3]
  have ei1 : ∀ i, (wr μ (b + 3) (leI (μ (b + 1)) (μ (b + 3)) i)) (b + 1) = μ (b + 1) := fun i => by rw [wr_n _ _ n13]
  have ei2 : ∀ i, (wr μ (b + 3) (leI (μ (b + 1)) (μ (b + 3)) i)) (b + 2) = μ (b + 2) := fun i => by rw [wr_n _ _ n23]
  have hWi : ∀ i, BlW (wr μ (b + 3) (leI (μ (b + 1)) (μ (b + 3)) i)) b := fun i => by
    show wfB ((wr μ (b + 3) (leI (μ (b + 1)) (μ (b + 3)) i)) b 2) ((wr μ (b + 3) (leI (μ (b + 1)) (μ (b + 3)) i)) (b + 1)) ((wr μ (b + 3) (leI (μ (b + 1)) (μ (b + 3)) i)) (b + 2))
    rw [ei0, ei1, ei2]
    exact hW
  refine r_iconst C dX0_findLongestEnding_0 ?_
  refine r_istore_n C dX0_findLongestEnding_1 (by decide) rfl ?_
  refine r_eq (μ' := wr μ (b + 3) (leI (μ (b + 1)) (μ (b + 3)) 0)) ?_ (by rw [leI_0, wr_self])
  refine loop_up (F := fun i => RR X (wr μ (b + 3) (leI (μ (b + 1)) (μ (b + 3)) i)) 2 [vR b, vI i] []) (a := 0) (b := μ b 2) W0 ?_ ?_
  · show RR X _ _ [vR b, vI (μ b 2)] []
    refine r_iload_n C dX0_findLongestEnding_2 rfl ?_
    refine r_aload_n C dX0_findLongestEnding_3 rfl ?_
    refine gf_X0_27 C B1 dX0_findLongestEnding_4 ?_
    rw [ei0]
    refine r_icmp_ge (tgt := 39) C dX0_findLongestEnding_7 (by decide) (by omega) (by omega) (fun c7 => ?_) (fun c7 => absurd c7 (by omega))
    exact r_vret C hF dX0_findLongestEnding_39 rfl
  · intro i h0 h1 K
    show RR X _ _ [vR b, vI i] []
    refine r_iload_n C dX0_findLongestEnding_2 rfl ?_
    refine r_aload_n C dX0_findLongestEnding_3 rfl ?_
    refine gf_X0_27 C B1 dX0_findLongestEnding_4 ?_
    rw [ei0]
    refine r_icmp_ge (tgt := 39) C dX0_findLongestEnding_7 (by decide) (by omega) (by omega) (fun c7 => absurd c7 (by omega)) (fun c7 => ?_)
    refine r_aload_n C dX0_findLongestEnding_10 rfl ?_
    refine gf_X0_18 C B1 dX0_findLongestEnding_11 ?_
    refine r_iload_n C dX0_findLongestEnding_14 rfl ?_
    refine r_iconst C dX0_findLongestEnding_15 ?_
    refine r_aload_n C dX0_findLongestEnding_16 rfl ?_
    refine r_iload_n C dX0_findLongestEnding_17 rfl ?_
    refine r_aload_n C dX0_findLongestEnding_18 rfl ?_
    refine gf_X0_9 C B1 dX0_findLongestEnding_19 ?_
    refine r_iload_n C dX0_findLongestEnding_22 rfl ?_
    refine r_runI (fun aH aL aj a1 a2 a3 => run_SN C hF.2.2.1 (kX4_at Bn (by decide) (by omega) (by omega)) lm_X4_at mn_X0_35 sm_X4_at (Nat.le_of_ble_eq_true rfl) dX0_findLongestEnding_23 rfl (Nat.le_of_ble_eq_true rfl) a1 a2 a3) ?_
    refine r_runI (fun aH aL aj a1 a2 a3 => run_V C hF.2.2.1 (kX0_longestAhead hB (hWi i) h0 (by rw [ei0]; omega) (by rw [ei1]; have := W2 i h0 h1; omega) (by rw [wr_s]; intro e e0 e1; have := leI_bd (μ (b + 1)) (μ (b + 3)) h0 e e0 e1; omega)) lm_X0_longestAhead ml_X0_75 im_X0_longestAhead se_X0_longestAhead B1 rfl (Nat.le_of_ble_eq_true rfl) dX0_findLongestEnding_26 rfl (Nat.le_of_ble_eq_true rfl) a1 a2 a3) ?_
    refine r_iadd C dX0_findLongestEnding_29 ?_
    refine r_runV (fun aH aL aj a1 a2 a3 => run_SN C hF.2.2.1 (kX4_put Ble (by omega) (by decide) (by omega) (by omega)) lm_X4_put mn_X0_39 sm_X4_put (Nat.le_of_ble_eq_true rfl) dX0_findLongestEnding_30 rfl (Nat.le_of_ble_eq_true rfl) a1 a2 a3) ?_
    refine r_iinc C dX0_findLongestEnding_33 rfl (by decide) rfl ?_
    refine r_goto (tgt := 2) C dX0_findLongestEnding_36 (by decide) ?_
    refine r_eq K ?_
    rw [wr_ww, ei1, wr_s, leI_s _ _ h0]
set_option maxRecDepth 20000 in
set_option maxHeartbeats 2000000 in
theorem kX0_findLongestBeginning {V : Wo} {μ : Mem} {b : Nat} (hB : BlS V b) (hW : BlW μ b) : Con V 2 yX0_findLongestBeginning cX0_findLongestBeginning 2 (none) [vR b] (μ) (QV V (wr μ (b + 4) (lbI (μ (b + 1)) (μ (b + 4)) (μ b 2) 0))) := by
  refine con_of (ls0 := [vR b, vU]) (by decide +kernel) rfl (Nat.le_of_ble_eq_true rfl) (Nat.le_of_ble_eq_true rfl) (fun X hV C hF => ?_)
  subst hV
  have C : Ok X RX0 cX0_findLongestBeginning 2 2 := C
  obtain ⟨B0, B1, Bn, Bt, Ble, Blb, Bto⟩ := id hB
  obtain ⟨W0, W1, W2, W3⟩ := id hW
  have n14 : b + 1 ≠ b + 4 := by omega
  have nb4 : b ≠ b + 4 := by omega
  have n24 : b + 2 ≠ b + 4 := by omega
  have ei0 : ∀ i, (wr μ (b + 4) (lbI (μ (b + 1)) (μ (b + 4)) (μ b 2) i)) b 2 = μ b 2 := fun i => by rw [wr_n _ _ nb4]
  have ei1 : ∀ i, (wr μ (b + 4) (lbI (μ (b + 1)) (μ (b + 4)) (μ b 2) i)) (b + 1) = μ (b + 1) := fun i => by rw [wr_n _ _ n14]
  have ei2 : ∀ i, (wr μ (b + 4) (lbI (μ (b + 1)) (μ (b + 4)) (μ b 2) i)) (b + 2) = μ (b + 2) := fun i => by rw [wr_n _ _ n24]
  have hWi : ∀ i, BlW (wr μ (b + 4) (lbI (μ (b + 1)) (μ (b + 4)) (μ b 2) i)) b := fun i => by
    show wfB ((wr μ (b + 4) (lbI (μ (b + 1)) (μ (b + 4)) (μ b 2) i)) b 2) ((wr μ (b + 4) (lbI (μ (b + 1)) (μ (b + 4)) (μ b 2) i)) (b + 1)) ((wr μ (b + 4) (lbI (μ (b + 1)) (μ (b + 4)) (μ b 2) i)) (b + 2))
    rw [ei0, ei1, ei2]
    exact hW
  refine r_aload_n C dX0_findLongestBeginning_0 rfl ?_
  refine gf_X0_27 C B1 dX0_findLongestBeginning_1 ?_
  refine r_iconst C dX0_findLongestBeginning_4 ?_
  refine r_isub C dX0_findLongestBeginning_5 ?_
  refine r_istore_n C dX0_findLongestBeginning_6 (by decide) rfl ?_
  refine r_eq (μ' := wr μ (b + 4) (lbI (μ (b + 1)) (μ (b + 4)) (μ b 2) (μ b 2))) ?_ (by rw [lbI_n, wr_self])
  refine loop_dn (F := fun i => RR X (wr μ (b + 4) (lbI (μ (b + 1)) (μ (b + 4)) (μ b 2) i)) 7 [vR b, vI (i - 1)] []) (a := 0) (b := μ b 2) W0 ?_ ?_
  · show RR X _ _ [vR b, vI (0 - 1)] []
    refine r_iload_n C dX0_findLongestBeginning_7 rfl ?_
    refine r_if_lt (tgt := 42) C dX0_findLongestBeginning_8 (by decide) (by omega) (fun c8 => ?_) (fun c8 => absurd c8 (by omega))
    exact r_vret C hF dX0_findLongestBeginning_42 rfl
  · intro i h0 h1 K
    show RR X _ _ [vR b, vI (i - 1)] []
    refine r_iload_n C dX0_findLongestBeginning_7 rfl ?_
    refine r_if_lt (tgt := 42) C dX0_findLongestBeginning_8 (by decide) (by omega) (fun c8 => absurd c8 (by omega)) (fun c8 => ?_)
    refine r_aload_n C dX0_findLongestBeginning_11 rfl ?_
    refine gf_X0_21 C B1 dX0_findLongestBeginning_12 ?_
    refine r_iload_n C dX0_findLongestBeginning_15 rfl ?_
    refine r_iconst C dX0_findLongestBeginning_16 ?_
    refine r_aload_n C dX0_findLongestBeginning_17 rfl ?_
    refine r_iload_n C dX0_findLongestBeginning_18 rfl ?_
    refine r_iconst C dX0_findLongestBeginning_19 ?_
    refine r_iadd C dX0_findLongestBeginning_20 ?_
    refine r_aload_n C dX0_findLongestBeginning_21 rfl ?_
    refine gf_X0_9 C B1 dX0_findLongestBeginning_22 ?_
    refine r_iload_n C dX0_findLongestBeginning_25 rfl ?_
    refine r_runI (fun aH aL aj a1 a2 a3 => run_SN C hF.2.2.1 (kX4_at Bn (by decide) (by omega) (by omega)) lm_X4_at mn_X0_35 sm_X4_at (Nat.le_of_ble_eq_true rfl) dX0_findLongestBeginning_26 rfl (Nat.le_of_ble_eq_true rfl) a1 a2 a3) ?_
    rw [show i - 1 + 1 = i by omega]
    refine r_runI (fun aH aL aj a1 a2 a3 => run_V C hF.2.2.1 (kX0_longestFrom hB (hWi i) (by omega) (by rw [ei0]; omega) (by rw [ei1]; have := W2 (i - 1) (by omega) (by omega); omega) (by rw [wr_s, ei0]; intro e e0 e1; have := lbI_bd (μ (b + 1)) (μ (b + 4)) (n := μ b 2) (i := i) (by omega) (by omega) e (by omega) e1; omega)) lm_X0_longestFrom ml_X0_78 im_X0_longestFrom se_X0_longestFrom B1 rfl (Nat.le_of_ble_eq_true rfl) dX0_findLongestBeginning_29 rfl (Nat.le_of_ble_eq_true rfl) a1 a2 a3) ?_
    refine r_iadd C dX0_findLongestBeginning_32 ?_
    refine r_runV (fun aH aL aj a1 a2 a3 => run_SN C hF.2.2.1 (kX4_put Blb (by omega) (by decide) (by omega) (by omega)) lm_X4_put mn_X0_39 sm_X4_put (Nat.le_of_ble_eq_true rfl) dX0_findLongestBeginning_33 rfl (Nat.le_of_ble_eq_true rfl) a1 a2 a3) ?_
    refine r_iinc C dX0_findLongestBeginning_36 rfl (by decide) rfl ?_
    refine r_goto (tgt := 7) C dX0_findLongestBeginning_39 (by decide) ?_
    refine r_eq K ?_
    rw [wr_ww, ei1, wr_s, ei0, lbI_s _ _ (by omega : i - 1 < μ b 2), show i - 1 + 1 = i by omega]
set_option maxRecDepth 20000 in
set_option maxHeartbeats 2000000 in
theorem kX0_longestRowBySheets {V : Wo} {μ : Mem} {b : Nat} (hB : BlS V b) (hW : BlW μ b) : Con V 3 yX0_longestRowBySheets cX0_longestRowBySheets 3 (some .int) [vR b] (μ) (QI V (mx (leI (μ (b + 1)) (μ (b + 3)) (μ b 2)) (μ b 2)) (wr μ (b + 3) (leI (μ (b + 1)) (μ (b + 3)) (μ b 2)))) := by
  refine con_of (ls0 := [vR b, vU, vU]) (by decide +kernel) rfl (Nat.le_of_ble_eq_true rfl) (Nat.le_of_ble_eq_true rfl) (fun X hV C hF => ?_)
  subst hV
  have C : Ok X RX0 cX0_longestRowBySheets 3 3 := C
  obtain ⟨B0, B1, Bn, Bt, Ble, Blb, Bto⟩ := id hB
  obtain ⟨W0, W1, W2, W3⟩ := id hW
  have n13 : b + 1 ≠ b + 3 := by omega
  have nb3 : b ≠ b + 3 := by omega
  have n23 : b + 2 ≠ b + 3 := by omega
  have hbd : ∀ i, i ≤ μ b 2 → 0 ≤ mx (leI (μ (b + 1)) (μ (b + 3)) (μ b 2)) i ∧ mx (leI (μ (b + 1)) (μ (b + 3)) (μ b 2)) i ≤ 20 := fun i hi => ⟨mx_nn _ _, mx_le (by omega) (fun k k0 k1 => by have := leI_bd (μ (b + 1)) (μ (b + 3)) W0 k k0 (by omega); omega)⟩
  refine r_aload_n C dX0_longestRowBySheets_0 rfl ?_
  refine r_runV (fun aH aL aj a1 a2 a3 => run_V C hF.2.2.1 (kX0_findLongestEnding hB hW) lm_X0_findLongestEnding ml_X0_66 im_X0_findLongestEnding se_X0_findLongestEnding B1 rfl (Nat.le_of_ble_eq_true rfl) dX0_longestRowBySheets_1 rfl (Nat.le_of_ble_eq_true rfl) a1 a2 a3) ?_
  refine r_iconst C dX0_longestRowBySheets_4 ?_
  refine r_istore_n C dX0_longestRowBySheets_5 (by decide) rfl ?_
  refine r_iconst C dX0_longestRowBySheets_6 ?_
  refine r_istore_n C dX0_longestRowBySheets_7 (by decide) rfl ?_
  refine loop_up (F := fun i => RR X (wr μ (b + 3) (leI (μ (b + 1)) (μ (b + 3)) (μ b 2))) 8 [vR b, vI (mx (leI (μ (b + 1)) (μ (b + 3)) (μ b 2)) i), vI i] []) (a := 0) (b := μ b 2) W0 ?_ ?_
  · show RR X _ _ [vR b, vI (mx (leI (μ (b + 1)) (μ (b + 3)) (μ b 2)) (μ b 2)), vI (μ b 2)] []
    refine r_iload_n C dX0_longestRowBySheets_8 rfl ?_
    refine r_aload_n C dX0_longestRowBySheets_9 rfl ?_
    refine gf_X0_27 C B1 dX0_longestRowBySheets_10 ?_
    rw [wr_n _ _ nb3]
    refine r_icmp_ge (tgt := 35) C dX0_longestRowBySheets_13 (by decide) (by omega) (by omega) (fun c13 => ?_) (fun c13 => absurd c13 (by omega))
    refine r_iload_n C dX0_longestRowBySheets_35 rfl ?_
    exact r_iret C hF dX0_longestRowBySheets_36 rfl rfl
  · intro i h0 h1 K
    show RR X _ _ [vR b, vI (mx (leI (μ (b + 1)) (μ (b + 3)) (μ b 2)) i), vI i] []
    refine r_iload_n C dX0_longestRowBySheets_8 rfl ?_
    refine r_aload_n C dX0_longestRowBySheets_9 rfl ?_
    refine gf_X0_27 C B1 dX0_longestRowBySheets_10 ?_
    rw [wr_n _ _ nb3]
    refine r_icmp_ge (tgt := 35) C dX0_longestRowBySheets_13 (by decide) (by omega) (by omega) (fun c13 => absurd c13 (by omega)) (fun c13 => ?_)
    refine r_iload_n C dX0_longestRowBySheets_16 rfl ?_
    refine r_aload_n C dX0_longestRowBySheets_17 rfl ?_
    refine gf_X0_18 C B1 dX0_longestRowBySheets_18 ?_
    refine r_iload_n C dX0_longestRowBySheets_21 rfl ?_
    refine r_runI (fun aH aL aj a1 a2 a3 => run_SN C hF.2.2.1 (kX4_at Ble (by decide) (by omega) (by omega)) lm_X4_at mn_X0_35 sm_X4_at (Nat.le_of_ble_eq_true rfl) dX0_longestRowBySheets_22 rfl (Nat.le_of_ble_eq_true rfl) a1 a2 a3) ?_
    rw [wr_s]
    refine r_max C ml_X0_69 dX0_longestRowBySheets_25 (by have := hbd i (by omega); omega) (by have := leI_bd (μ (b + 1)) (μ (b + 3)) W0 i h0 h1; omega) (Nat.le_of_ble_eq_true rfl) (Nat.le_of_ble_eq_true rfl) ?_
    refine r_istore_n C dX0_longestRowBySheets_28 (by decide) rfl ?_
    refine r_iinc C dX0_longestRowBySheets_29 rfl (by decide) rfl ?_
    refine r_goto (tgt := 8) C dX0_longestRowBySheets_32 (by decide) ?_
    rw [mx_s _ h0] at K
    exact K
set_option maxRecDepth 20000 in
set_option maxHeartbeats 2000000 in
theorem kX0_fewestMovesBySheets {V : Wo} {μ : Mem} {b : Nat} (hB : BlS V b) (hW : BlW μ b) : Con V 4 yX0_fewestMovesBySheets cX0_fewestMovesBySheets 1 (some .int) [vR b] (μ) (QI V (μ b 2 - mx (leI (μ (b + 1)) (μ (b + 3)) (μ b 2)) (μ b 2)) (wr μ (b + 3) (leI (μ (b + 1)) (μ (b + 3)) (μ b 2)))) := by
  refine con_of (ls0 := [vR b]) (by decide +kernel) rfl (Nat.le_of_ble_eq_true rfl) (Nat.le_of_ble_eq_true rfl) (fun X hV C hF => ?_)
  subst hV
  have C : Ok X RX0 cX0_fewestMovesBySheets 1 4 := C
  obtain ⟨B0, B1, Bn, Bt, Ble, Blb, Bto⟩ := id hB
  refine r_aload_n C dX0_fewestMovesBySheets_0 rfl ?_
  refine gf_X0_27 C B1 dX0_fewestMovesBySheets_1 ?_
  refine r_aload_n C dX0_fewestMovesBySheets_4 rfl ?_
  refine r_runI (fun aH aL aj a1 a2 a3 => run_V C hF.2.2.1 (kX0_longestRowBySheets hB hW) lm_X0_longestRowBySheets ml_X0_59 im_X0_longestRowBySheets se_X0_longestRowBySheets B1 rfl (Nat.le_of_ble_eq_true rfl) dX0_fewestMovesBySheets_5 rfl (Nat.le_of_ble_eq_true rfl) a1 a2 a3) ?_
  refine r_isub C dX0_fewestMovesBySheets_8 ?_
  exact r_iret C hF dX0_fewestMovesBySheets_9 rfl rfl
set_option maxRecDepth 20000 in
set_option maxHeartbeats 2000000 in
theorem kX0_pilesOfSheets {V : Wo} {μ : Mem} {b : Nat} (hB : BlS V b) (hW : BlW μ b) : Con V 1 yX0_pilesOfSheets cX0_pilesOfSheets 5 (some .int) [vR b] (μ) (QI V ((plI (μ (b + 1)) (μ (b + 5)) (μ b 2)).2) (wr μ (b + 5) (plI (μ (b + 1)) (μ (b + 5)) (μ b 2)).1)) := by
  refine con_of (ls0 := [vR b, vU, vU, vU, vU]) (by decide +kernel) rfl (Nat.le_of_ble_eq_true rfl) (Nat.le_of_ble_eq_true rfl) (fun X hV C hF => ?_)
  subst hV
  have C : Ok X RX0 cX0_pilesOfSheets 5 1 := C
  obtain ⟨B0, B1, Bn, Bt, Ble, Blb, Bto⟩ := id hB
  obtain ⟨W0, W1, W2, W3⟩ := id hW
  have n15 : b + 1 ≠ b + 5 := by omega
  have nb5 : b ≠ b + 5 := by omega
  have n25 : b + 2 ≠ b + 5 := by omega
  refine r_iconst C dX0_pilesOfSheets_0 ?_
  refine r_istore_n C dX0_pilesOfSheets_1 (by decide) rfl ?_
  refine r_iconst C dX0_pilesOfSheets_2 ?_
  refine r_istore_n C dX0_pilesOfSheets_3 (by decide) rfl ?_
  suffices hQ : ∀ z w : AV, RR X (wr μ (b + 5) (plI (μ (b + 1)) (μ (b + 5)) 0).1) 4 [vR b, vI (plI (μ (b + 1)) (μ (b + 5)) 0).2, vI 0, z, w] [] by
    refine r_eq (hQ vU vU) ?_
    show μ = wr μ (b + 5) (μ (b + 5))
    rw [wr_self]
  refine loop_up (F := fun i => ∀ z w : AV, RR X (wr μ (b + 5) (plI (μ (b + 1)) (μ (b + 5)) i).1) 4 [vR b, vI (plI (μ (b + 1)) (μ (b + 5)) i).2, vI i, z, w] []) (a := 0) (b := μ b 2) W0 ?_ ?_
  · intro z w
    show RR X _ _ [vR b, vI (plI (μ (b + 1)) (μ (b + 5)) (μ b 2)).2, vI (μ b 2), z, w] []
    refine r_iload_n C dX0_pilesOfSheets_4 rfl ?_
    refine r_aload_n C dX0_pilesOfSheets_5 rfl ?_
    refine gf_X0_27 C B1 dX0_pilesOfSheets_6 ?_
    rw [wr_n _ _ nb5]
    refine r_icmp_ge (tgt := 74) C dX0_pilesOfSheets_9 (by decide) (by omega) (by omega) (fun c9 => ?_) (fun c9 => absurd c9 (by omega))
    refine r_iload_n C dX0_pilesOfSheets_74 rfl ?_
    exact r_iret C hF dX0_pilesOfSheets_75 rfl rfl
  · intro i h0 h1 K z w
    show RR X _ _ [vR b, vI (plI (μ (b + 1)) (μ (b + 5)) i).2, vI i, z, w] []
    have hpb := plI_bd (μ (b + 1)) (μ (b + 5)) (c := 15) h0 (fun k k0 k1 => by have := W2 k k0 (by omega); omega)
    have hps := ps_bd (plI (μ (b + 1)) (μ (b + 5)) i).1 (μ (b + 1) i) hpb.1.1
    have ha := W2 i h0 h1
    refine r_iload_n C dX0_pilesOfSheets_4 rfl ?_
    refine r_aload_n C dX0_pilesOfSheets_5 rfl ?_
    refine gf_X0_27 C B1 dX0_pilesOfSheets_6 ?_
    rw [wr_n _ _ nb5]
    refine r_icmp_ge (tgt := 74) C dX0_pilesOfSheets_9 (by decide) (by omega) (by omega) (fun c9 => absurd c9 (by omega)) (fun c9 => ?_)
    refine r_aload_n C dX0_pilesOfSheets_12 rfl ?_
    refine gf_X0_9 C B1 dX0_pilesOfSheets_13 ?_
    refine r_iload_n C dX0_pilesOfSheets_16 rfl ?_
    refine r_runI (fun aH aL aj a1 a2 a3 => run_SN C hF.2.2.1 (kX4_at Bn (by decide) (by omega) (by omega)) lm_X4_at mn_X0_35 sm_X4_at (Nat.le_of_ble_eq_true rfl) dX0_pilesOfSheets_17 rfl (Nat.le_of_ble_eq_true rfl) a1 a2 a3) ?_
    rw [wr_n _ _ n15]
    refine r_istore_n C dX0_pilesOfSheets_20 (by decide) rfl ?_
    refine r_iconst C dX0_pilesOfSheets_21 ?_
    refine r_istore C dX0_pilesOfSheets_22 (by decide) rfl ?_
    refine jn (A := RR X (wr μ (b + 5) (plI (μ (b + 1)) (μ (b + 5)) i).1) 49 [vR b, vI (plI (μ (b + 1)) (μ (b + 5)) i).2, vI i, vI (μ (b + 1) i), vI (ps (plI (μ (b + 1)) (μ (b + 5)) i).1 (μ (b + 1) i) (plI (μ (b + 1)) (μ (b + 5)) i).2)] []) ?_ (fun J => ?_)
    · skip
      refine r_aload_n C dX0_pilesOfSheets_49 rfl ?_
      refine gf_X0_24 C B1 dX0_pilesOfSheets_50 ?_
      refine r_iload C dX0_pilesOfSheets_53 rfl ?_
      refine r_iload_n C dX0_pilesOfSheets_55 rfl ?_
      refine r_runV (fun aH aL aj a1 a2 a3 => run_SN C hF.2.2.1 (kX4_put Bto (by omega) (by decide) (by omega) (by omega)) lm_X4_put mn_X0_39 sm_X4_put (Nat.le_of_ble_eq_true rfl) dX0_pilesOfSheets_56 rfl (Nat.le_of_ble_eq_true rfl) a1 a2 a3) ?_
      refine r_iload_n C dX0_pilesOfSheets_59 rfl ?_
      refine r_iload C dX0_pilesOfSheets_60 rfl ?_
      refine r_iconst C dX0_pilesOfSheets_62 ?_
      refine r_iadd C dX0_pilesOfSheets_63 ?_
      refine r_max C ml_X0_69 dX0_pilesOfSheets_64 (by omega) (by omega) (Nat.le_of_ble_eq_true rfl) (Nat.le_of_ble_eq_true rfl) ?_
      refine r_istore_n C dX0_pilesOfSheets_67 (by decide) rfl ?_
      refine r_iinc C dX0_pilesOfSheets_68 rfl (by decide) rfl ?_
      refine r_goto (tgt := 4) C dX0_pilesOfSheets_71 (by decide) ?_
      have e := plI_s (μ (b + 1)) (μ (b + 5)) h0
      have K1 := K (vI (μ (b + 1) i)) (vI (ps (plI (μ (b + 1)) (μ (b + 5)) i).1 (μ (b + 1) i) (plI (μ (b + 1)) (μ (b + 5)) i).2))
      rw [e] at K1
      refine r_eq K1 ?_
      rw [wr_ww, wr_s]
    · skip
      have hj : (ps (plI (μ (b + 1)) (μ (b + 5)) i).1 (μ (b + 1) i) (plI (μ (b + 1)) (μ (b + 5)) i).2) = (if fs (fun j => μ (b + 1) i < (plI (μ (b + 1)) (μ (b + 5)) i).1 j) 0 (plI (μ (b + 1)) (μ (b + 5)) i).2 < 0 then (plI (μ (b + 1)) (μ (b + 5)) i).2 else fs (fun j => μ (b + 1) i < (plI (μ (b + 1)) (μ (b + 5)) i).1 j) 0 (plI (μ (b + 1)) (μ (b + 5)) i).2) := rfl
      revert hj
      refine loop_up (F := fun j => (ps (plI (μ (b + 1)) (μ (b + 5)) i).1 (μ (b + 1) i) (plI (μ (b + 1)) (μ (b + 5)) i).2) = (if fs (fun j => μ (b + 1) i < (plI (μ (b + 1)) (μ (b + 5)) i).1 j) j (plI (μ (b + 1)) (μ (b + 5)) i).2 < 0 then (plI (μ (b + 1)) (μ (b + 5)) i).2 else fs (fun j => μ (b + 1) i < (plI (μ (b + 1)) (μ (b + 5)) i).1 j) j (plI (μ (b + 1)) (μ (b + 5)) i).2) → RR X (wr μ (b + 5) (plI (μ (b + 1)) (μ (b + 5)) i).1) 24 [vR b, vI (plI (μ (b + 1)) (μ (b + 5)) i).2, vI i, vI (μ (b + 1) i), vI j] []) (a := 0) (b := (plI (μ (b + 1)) (μ (b + 5)) i).2) hpb.1.1 ?_ ?_
      · intro hj
        rw [fs_e _ (Int.le_refl _), if_pos (by omega)] at hj
        show RR X _ _ [vR b, vI (plI (μ (b + 1)) (μ (b + 5)) i).2, vI i, vI (μ (b + 1) i), vI (plI (μ (b + 1)) (μ (b + 5)) i).2] []
        refine r_iload C dX0_pilesOfSheets_24 rfl ?_
        refine r_iload_n C dX0_pilesOfSheets_26 rfl ?_
        refine r_icmp_ge (tgt := 49) C dX0_pilesOfSheets_27 (by decide) (by omega) (by omega) (fun c27 => ?_) (fun c27 => absurd c27 (by omega))
        rw [hj] at J
        exact J
      · intro j g0 g1 K2 hj
        show RR X _ _ [vR b, vI (plI (μ (b + 1)) (μ (b + 5)) i).2, vI i, vI (μ (b + 1) i), vI j] []
        refine r_iload C dX0_pilesOfSheets_24 rfl ?_
        refine r_iload_n C dX0_pilesOfSheets_26 rfl ?_
        refine r_icmp_ge (tgt := 49) C dX0_pilesOfSheets_27 (by decide) (by omega) (by omega) (fun c27 => absurd c27 (by omega)) (fun c27 => ?_)
        refine r_aload_n C dX0_pilesOfSheets_30 rfl ?_
        refine gf_X0_24 C B1 dX0_pilesOfSheets_31 ?_
        refine r_iload C dX0_pilesOfSheets_34 rfl ?_
        refine r_runI (fun aH aL aj a1 a2 a3 => run_SN C hF.2.2.1 (kX4_at Bto (by decide) (by omega) (by omega)) lm_X4_at mn_X0_35 sm_X4_at (Nat.le_of_ble_eq_true rfl) dX0_pilesOfSheets_36 rfl (Nat.le_of_ble_eq_true rfl) a1 a2 a3) ?_
        rw [wr_s]
        refine r_iload_n C dX0_pilesOfSheets_39 rfl ?_
        refine r_icmp_gt (tgt := 49) C dX0_pilesOfSheets_40 (by decide) (by have := hpb.2 j g0 g1; omega) (by omega) (fun c40 => ?_) (fun c40 => ?_)
        · skip
          rw [fs_t (fun j => μ (b + 1) i < (plI (μ (b + 1)) (μ (b + 5)) i).1 j) g1 c40, if_neg (by omega)] at hj
          rw [hj] at J
          exact J
        · skip
          refine r_iinc C dX0_pilesOfSheets_43 rfl (by decide) rfl ?_
          refine r_goto (tgt := 24) C dX0_pilesOfSheets_46 (by decide) ?_
          exact K2 (by rw [hj, fs_f (fun j => μ (b + 1) i < (plI (μ (b + 1)) (μ (b + 5)) i).1 j) g1 (by omega)])
set_option maxRecDepth 20000 in
set_option maxHeartbeats 2000000 in
theorem kX0_fewestMovesByPiles {V : Wo} {μ : Mem} {b : Nat} (hB : BlS V b) (hW : BlW μ b) : Con V 2 yX0_fewestMovesByPiles cX0_fewestMovesByPiles 1 (some .int) [vR b] (μ) (QI V (μ b 2 - (plI (μ (b + 1)) (μ (b + 5)) (μ b 2)).2) (wr μ (b + 5) (plI (μ (b + 1)) (μ (b + 5)) (μ b 2)).1)) := by
  refine con_of (ls0 := [vR b]) (by decide +kernel) rfl (Nat.le_of_ble_eq_true rfl) (Nat.le_of_ble_eq_true rfl) (fun X hV C hF => ?_)
  subst hV
  have C : Ok X RX0 cX0_fewestMovesByPiles 1 2 := C
  obtain ⟨B0, B1, Bn, Bt, Ble, Blb, Bto⟩ := id hB
  refine r_aload_n C dX0_fewestMovesByPiles_0 rfl ?_
  refine gf_X0_27 C B1 dX0_fewestMovesByPiles_1 ?_
  refine r_aload_n C dX0_fewestMovesByPiles_4 rfl ?_
  refine r_runI (fun aH aL aj a1 a2 a3 => run_V C hF.2.2.1 (kX0_pilesOfSheets hB hW) lm_X0_pilesOfSheets ml_X0_63 im_X0_pilesOfSheets se_X0_pilesOfSheets B1 rfl (Nat.le_of_ble_eq_true rfl) dX0_fewestMovesByPiles_5 rfl (Nat.le_of_ble_eq_true rfl) a1 a2 a3) ?_
  refine r_isub C dX0_fewestMovesByPiles_8 ?_
  exact r_iret C hF dX0_fewestMovesByPiles_9 rfl rfl
set_option maxRecDepth 20000 in
set_option maxHeartbeats 2000000 in
theorem kX0_placeThatMakesRowOf {V : Wo} {μ : Mem} {b : Nat} (hB : BlS V b) (hW : BlW μ b) {l x : Int} (hl : inR l) (hx : inR x) : Con V 3 yX0_placeThatMakesRowOf cX0_placeThatMakesRowOf 4 (some .int) [vR b, vI l, vI x] (μ) (QI V (fs (fun p => l ≤ mx (fun e => if μ (b + 1) e ≤ x then (leI (μ (b + 1)) (μ (b + 3)) (μ b 2)) e else 0) p + 1 + mx (fun e => if μ (b + 1) (p + e) ≥ x then (lbI (μ (b + 1)) (μ (b + 4)) (μ b 2) 0) (p + e) else 0) (μ b 2 - p)) 0 (μ b 2 + 1)) ((wr (wr μ (b + 3) (leI (μ (b + 1)) (μ (b + 3)) (μ b 2))) (b + 4) (lbI (μ (b + 1)) (μ (b + 4)) (μ b 2) 0)))) := by
  refine con_of (ls0 := [vR b, vI l, vI x, vU]) (by decide +kernel) rfl (Nat.le_of_ble_eq_true rfl) (Nat.le_of_ble_eq_true rfl) (fun X hV C hF => ?_)
  subst hV
  have C : Ok X RX0 cX0_placeThatMakesRowOf 4 3 := C
  obtain ⟨B0, B1, Bn, Bt, Ble, Blb, Bto⟩ := id hB
  obtain ⟨W0, W1, W2, W3⟩ := id hW
  have n13 : b + 1 ≠ b + 3 := by omega
  have nb3 : b ≠ b + 3 := by omega
  have n23 : b + 2 ≠ b + 3 := by omega
  have n14 : b + 1 ≠ b + 4 := by omega
  have nb4 : b ≠ b + 4 := by omega
  have n24 : b + 2 ≠ b + 4 := by omega
  have n43 : b + 4 ≠ b + 3 := by omega
  have n34 : b + 3 ≠ b + 4 := by omega
  have q0 : (wr (wr μ (b + 3) (leI (μ (b + 1)) (μ (b + 3)) (μ b 2))) (b + 4) (lbI (μ (b + 1)) (μ (b + 4)) (μ b 2) 0)) b 2 = μ b 2 := by rw [wr_n _ _ nb4, wr_n _ _ nb3]
  have q1 : (wr (wr μ (b + 3) (leI (μ (b + 1)) (μ (b + 3)) (μ b 2))) (b + 4) (lbI (μ (b + 1)) (μ (b + 4)) (μ b 2) 0)) (b + 1) = μ (b + 1) := by rw [wr_n _ _ n14, wr_n _ _ n13]
  have q2 : (wr (wr μ (b + 3) (leI (μ (b + 1)) (μ (b + 3)) (μ b 2))) (b + 4) (lbI (μ (b + 1)) (μ (b + 4)) (μ b 2) 0)) (b + 2) = μ (b + 2) := by rw [wr_n _ _ n24, wr_n _ _ n23]
  have q3 : (wr (wr μ (b + 3) (leI (μ (b + 1)) (μ (b + 3)) (μ b 2))) (b + 4) (lbI (μ (b + 1)) (μ (b + 4)) (μ b 2) 0)) (b + 3) = (leI (μ (b + 1)) (μ (b + 3)) (μ b 2)) := by rw [wr_n _ _ n34, wr_s]
  have q4 : (wr (wr μ (b + 3) (leI (μ (b + 1)) (μ (b + 3)) (μ b 2))) (b + 4) (lbI (μ (b + 1)) (μ (b + 4)) (μ b 2) 0)) (b + 4) = (lbI (μ (b + 1)) (μ (b + 4)) (μ b 2) 0) := by rw [wr_s]
  have hW2 : BlW (wr (wr μ (b + 3) (leI (μ (b + 1)) (μ (b + 3)) (μ b 2))) (b + 4) (lbI (μ (b + 1)) (μ (b + 4)) (μ b 2) 0)) b := by
    show wfB ((wr (wr μ (b + 3) (leI (μ (b + 1)) (μ (b + 3)) (μ b 2))) (b + 4) (lbI (μ (b + 1)) (μ (b + 4)) (μ b 2) 0)) b 2) ((wr (wr μ (b + 3) (leI (μ (b + 1)) (μ (b + 3)) (μ b 2))) (b + 4) (lbI (μ (b + 1)) (μ (b + 4)) (μ b 2) 0)) (b + 1)) ((wr (wr μ (b + 3) (leI (μ (b + 1)) (μ (b + 3)) (μ b 2))) (b + 4) (lbI (μ (b + 1)) (μ (b + 4)) (μ b 2) 0)) (b + 2))
    rw [q0, q1, q2]
    exact hW
  refine r_aload_n C dX0_placeThatMakesRowOf_0 rfl ?_
  refine r_runV (fun aH aL aj a1 a2 a3 => run_V C hF.2.2.1 (kX0_findLongestEnding hB hW) lm_X0_findLongestEnding ml_X0_66 im_X0_findLongestEnding se_X0_findLongestEnding B1 rfl (Nat.le_of_ble_eq_true rfl) dX0_placeThatMakesRowOf_1 rfl (Nat.le_of_ble_eq_true rfl) a1 a2 a3) ?_
  refine r_aload_n C dX0_placeThatMakesRowOf_4 rfl ?_
  have hW1 : BlW (wr μ (b + 3) (leI (μ (b + 1)) (μ (b + 3)) (μ b 2))) b := by
    show wfB _ _ _
    rw [wr_n _ _ nb3, wr_n _ _ n13, wr_n _ _ n23]
    exact hW
  refine r_runV (fun aH aL aj a1 a2 a3 => run_V C hF.2.2.1 (kX0_findLongestBeginning hB hW1) lm_X0_findLongestBeginning ml_X0_81 im_X0_findLongestBeginning se_X0_findLongestBeginning B1 rfl (Nat.le_of_ble_eq_true rfl) dX0_placeThatMakesRowOf_5 rfl (Nat.le_of_ble_eq_true rfl) a1 a2 a3) ?_
  rw [wr_n _ _ n13, wr_n _ _ nb3, wr_n _ _ n43]
  refine r_iconst C dX0_placeThatMakesRowOf_8 ?_
  refine r_istore_n C dX0_placeThatMakesRowOf_9 (by decide) rfl ?_
  revert hF
  refine loop_up (F := fun i => Fnl X (some .int) (QI (xV X) (fs (fun p => l ≤ mx (fun e => if μ (b + 1) e ≤ x then (leI (μ (b + 1)) (μ (b + 3)) (μ b 2)) e else 0) p + 1 + mx (fun e => if μ (b + 1) (p + e) ≥ x then (lbI (μ (b + 1)) (μ (b + 4)) (μ b 2) 0) (p + e) else 0) (μ b 2 - p)) i (μ b 2 + 1)) (wr (wr μ (b + 3) (leI (μ (b + 1)) (μ (b + 3)) (μ b 2))) (b + 4) (lbI (μ (b + 1)) (μ (b + 4)) (μ b 2) 0))) → RR X (wr (wr μ (b + 3) (leI (μ (b + 1)) (μ (b + 3)) (μ b 2))) (b + 4) (lbI (μ (b + 1)) (μ (b + 4)) (μ b 2) 0)) 10 [vR b, vI l, vI x, vI i] []) (a := 0) (b := μ b 2 + 1) (by omega) ?_ ?_
  · intro hF
    show RR X _ _ [vR b, vI l, vI x, vI (μ b 2 + 1)] []
    refine r_iload_n C dX0_placeThatMakesRowOf_10 rfl ?_
    refine r_aload_n C dX0_placeThatMakesRowOf_11 rfl ?_
    refine gf_X0_27 C B1 dX0_placeThatMakesRowOf_12 ?_
    rw [q0]
    refine r_icmp_gt (tgt := 45) C dX0_placeThatMakesRowOf_15 (by decide) (by omega) (by omega) (fun c15 => ?_) (fun c15 => absurd c15 (by omega))
    refine r_iconst C dX0_placeThatMakesRowOf_45 ?_
    exact r_iret C hF dX0_placeThatMakesRowOf_46 (fs_e _ (Int.le_refl _)).symm rfl
  · intro i h0 h1 K hF
    show RR X _ _ [vR b, vI l, vI x, vI i] []
    have w1 : 0 ≤ mx (fun e => if μ (b + 1) e ≤ x then (leI (μ (b + 1)) (μ (b + 3)) (μ b 2)) e else 0) i ∧ mx (fun e => if μ (b + 1) e ≤ x then (leI (μ (b + 1)) (μ (b + 3)) (μ b 2)) e else 0) i ≤ 20 := ⟨mx_nn _ _, mx_le (by omega) (fun k k0 k1 => by
      have := leI_bd (μ (b + 1)) (μ (b + 3)) W0 k k0 (by omega)
      show (if μ (b + 1) k ≤ x then (leI (μ (b + 1)) (μ (b + 3)) (μ b 2)) k else 0) ≤ 20
      split <;> omega)⟩
    have w2 : 0 ≤ mx (fun e => if μ (b + 1) (i + e) ≥ x then (lbI (μ (b + 1)) (μ (b + 4)) (μ b 2) 0) (i + e) else 0) (μ b 2 - i) ∧ mx (fun e => if μ (b + 1) (i + e) ≥ x then (lbI (μ (b + 1)) (μ (b + 4)) (μ b 2) 0) (i + e) else 0) (μ b 2 - i) ≤ 20 := ⟨mx_nn _ _, mx_le (by omega) (fun k k0 k1 => by
      have := lbI_bd (μ (b + 1)) (μ (b + 4)) (Int.le_refl 0) W0 (i + k) (by omega) (by omega)
      show (if μ (b + 1) (i + k) ≥ x then (lbI (μ (b + 1)) (μ (b + 4)) (μ b 2) 0) (i + k) else 0) ≤ 20
      split <;> omega)⟩
    refine r_iload_n C dX0_placeThatMakesRowOf_10 rfl ?_
    refine r_aload_n C dX0_placeThatMakesRowOf_11 rfl ?_
    refine gf_X0_27 C B1 dX0_placeThatMakesRowOf_12 ?_
    rw [q0]
    refine r_icmp_gt (tgt := 45) C dX0_placeThatMakesRowOf_15 (by decide) (by omega) (by omega) (fun c15 => absurd c15 (by omega)) (fun c15 => ?_)
    refine r_aload_n C dX0_placeThatMakesRowOf_18 rfl ?_
    refine r_iload_n C dX0_placeThatMakesRowOf_19 rfl ?_
    refine r_iload_n C dX0_placeThatMakesRowOf_20 rfl ?_
    refine r_runI (fun aH aL aj a1 a2 a3 => run_V C hF.2.2.1 (kX0_longestAhead hB hW2 (p := i) (x := x) h0 (by rw [q0]; omega) hx (by rw [q3]; intro e e0 e1; have := leI_bd (μ (b + 1)) (μ (b + 3)) W0 e e0 (by omega); omega)) lm_X0_longestAhead ml_X0_75 im_X0_longestAhead se_X0_longestAhead B1 rfl (Nat.le_of_ble_eq_true rfl) dX0_placeThatMakesRowOf_21 rfl (Nat.le_of_ble_eq_true rfl) a1 a2 a3) ?_
    rw [q1, q3]
    refine r_iconst C dX0_placeThatMakesRowOf_24 ?_
    refine r_iadd C dX0_placeThatMakesRowOf_25 ?_
    refine r_aload_n C dX0_placeThatMakesRowOf_26 rfl ?_
    refine r_iload_n C dX0_placeThatMakesRowOf_27 rfl ?_
    refine r_iload_n C dX0_placeThatMakesRowOf_28 rfl ?_
    refine r_runI (fun aH aL aj a1 a2 a3 => run_V C hF.2.2.1 (kX0_longestFrom hB hW2 (p := i) (x := x) h0 (by rw [q0]; omega) hx (by rw [q4, q0]; intro e e0 e1; have := lbI_bd (μ (b + 1)) (μ (b + 4)) (Int.le_refl 0) W0 e (by omega) e1; omega)) lm_X0_longestFrom ml_X0_78 im_X0_longestFrom se_X0_longestFrom B1 rfl (Nat.le_of_ble_eq_true rfl) dX0_placeThatMakesRowOf_29 rfl (Nat.le_of_ble_eq_true rfl) a1 a2 a3) ?_
    rw [q1, q4, q0]
    refine r_iadd C dX0_placeThatMakesRowOf_32 ?_
    refine r_iload_n C dX0_placeThatMakesRowOf_33 rfl ?_
    refine r_icmp_lt (tgt := 39) C dX0_placeThatMakesRowOf_34 (by decide) (by omega) (by omega) (fun c34 => ?_) (fun c34 => ?_)
    · skip
      refine r_iinc C dX0_placeThatMakesRowOf_39 rfl (by decide) rfl ?_
      refine r_goto (tgt := 10) C dX0_placeThatMakesRowOf_42 (by decide) ?_
      exact K (fs_f (fun p => l ≤ mx (fun e => if μ (b + 1) e ≤ x then (leI (μ (b + 1)) (μ (b + 3)) (μ b 2)) e else 0) p + 1 + mx (fun e => if μ (b + 1) (p + e) ≥ x then (lbI (μ (b + 1)) (μ (b + 4)) (μ b 2) 0) (p + e) else 0) (μ b 2 - p)) h1 (by show ¬ _; omega) ▸ hF)
    · skip
      refine r_iload_n C dX0_placeThatMakesRowOf_37 rfl ?_
      exact r_iret C hF dX0_placeThatMakesRowOf_38 (fs_t (fun p => l ≤ mx (fun e => if μ (b + 1) e ≤ x then (leI (μ (b + 1)) (μ (b + 3)) (μ b 2)) e else 0) p + 1 + mx (fun e => if μ (b + 1) (p + e) ≥ x then (lbI (μ (b + 1)) (μ (b + 4)) (μ b 2) 0) (p + e) else 0) (μ b 2 - p)) h1 c34).symm rfl
