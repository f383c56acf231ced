set_option maxRecDepth 20000 in
set_option maxHeartbeats 2000000 in
theorem kX0_hasPlace {V : Wo} {μ : Mem} {b : Nat} (hB : BlS V b) (hW : BlW μ b) {p : Int} (hp : inR p) : Con V 0 yX0_hasPlace cX0_hasPlace 2 (some .boolean) [vR b, vI p] (μ) (QI V (b01 (0 ≤ p ∧ p < μ b 2)) (μ)) := by
  refine con_of (ls0 := [vR b, vI p]) (by decide +kernel) rfl (Nat.le_of_ble_eq_true rfl) (Nat.le_of_ble_eq_true rfl) (fun X hV C hF => ?_)
  subst hV
  have C : Ok X RX0 cX0_hasPlace 2 0 := C
  obtain ⟨B0, B1, Bn, Bt, Ble, Blb, Bto⟩ := hB
  obtain ⟨W0, W1, W2, W3⟩ := hW
  refine r_iload_n C dX0_hasPlace_0 rfl ?_
  refine r_if_lt (tgt := 16) C dX0_hasPlace_1 (by decide) (by omega) (fun c1 => ?_) (fun c1 => ?_)
  · have _ := c1
    refine r_iconst C dX0_hasPlace_16 ?_
    exact r_zret C hF dX0_hasPlace_17 (by omega) (by unfold b01; split <;> omega) rfl
  · have _ := c1
    refine r_iload_n C dX0_hasPlace_4 rfl ?_
    refine r_aload_n C dX0_hasPlace_5 rfl ?_
    refine gf_X0_27 C B1 dX0_hasPlace_6 ?_
    refine r_icmp_ge (tgt := 16) C dX0_hasPlace_9 (by decide) (by omega) (by omega) (fun c9 => ?_) (fun c9 => ?_)
    · have _ := c9
      refine r_iconst C dX0_hasPlace_16 ?_
      exact r_zret C hF dX0_hasPlace_17 (by omega) (by unfold b01; split <;> omega) rfl
    · have _ := c9
      refine r_iconst C dX0_hasPlace_12 ?_
      refine r_goto (tgt := 17) C dX0_hasPlace_13 (by decide) ?_
      exact r_zret C hF dX0_hasPlace_17 (by omega) (by unfold b01; split <;> omega) rfl
set_option maxRecDepth 20000 in
set_option maxHeartbeats 2000000 in
theorem kX0_copyFrom {V : Wo} {μ : Mem} {b c : Nat} (hB : BlS V b) (hD : BlS V c) (hn : b + 5 < c ∨ c + 5 < b) : Con V 2 yX0_copyFrom cX0_copyFrom 2 (none) [vR b, vR c] (μ) (QV V (wr (wr (wr μ (b + 1) (μ (c + 1))) (b + 2) (μ (c + 2))) b (s1 (μ b) 2 (μ c 2)))) := by
  refine con_of (ls0 := [vR b, vR c]) (by decide +kernel) rfl (Nat.le_of_ble_eq_true rfl) (Nat.le_of_ble_eq_true rfl) (fun X hV C hF => ?_)
  subst hV
  have C : Ok X RX0 cX0_copyFrom 2 2 := C
  obtain ⟨B0, B1, Bn, Bt, Ble, Blb, Bto⟩ := hB
  obtain ⟨D0, D1, Dn, Dt, Dle, Dlb, Dto⟩ := hD
  refine r_aload_n C dX0_copyFrom_0 rfl ?_
  refine r_ifnull C dX0_copyFrom_1 ?_
  refine r_aload_n C dX0_copyFrom_4 rfl ?_
  refine gf_X0_9 C D1 dX0_copyFrom_5 ?_
  refine r_aload_n C dX0_copyFrom_8 rfl ?_
  refine gf_X0_9 C B1 dX0_copyFrom_9 ?_
  refine r_runV (fun H locs jl h1 h2 h3 => run_SN C hF.2.2.1 (kX4_copyRow Dn Bn (by omega) (by decide)) lm_X4_copyRow mn_X0_31 sm_X4_copyRow (Nat.le_of_ble_eq_true rfl) dX0_copyFrom_12 rfl (Nat.le_of_ble_eq_true rfl) h1 h2 h3) ?_
  refine r_aload_n C dX0_copyFrom_15 rfl ?_
  refine gf_X0_15 C D1 dX0_copyFrom_16 ?_
  refine r_aload_n C dX0_copyFrom_19 rfl ?_
  refine gf_X0_15 C B1 dX0_copyFrom_20 ?_
  refine r_runV (fun H locs jl h1 h2 h3 => run_SN C hF.2.2.1 (kX4_copyRow Dt Bt (by omega) (by decide)) lm_X4_copyRow mn_X0_31 sm_X4_copyRow (Nat.le_of_ble_eq_true rfl) dX0_copyFrom_23 rfl (Nat.le_of_ble_eq_true rfl) h1 h2 h3) ?_
  rw [wr_n _ _ (by omega)]
  refine r_aload_n C dX0_copyFrom_26 rfl ?_
  refine r_aload_n C dX0_copyFrom_27 rfl ?_
  refine gf_X0_27 C D1 dX0_copyFrom_28 ?_
  refine pf_X0_27 C B1 B0 dX0_copyFrom_31 ?_
  exact r_vret C hF dX0_copyFrom_34 (by rw [wr_n _ _ (by omega), wr_n _ _ (by omega), wr_n _ _ (by omega), wr_n _ _ (by omega)])
set_option maxRecDepth 20000 in
set_option maxHeartbeats 2000000 in
theorem kX0_putIn {V : Wo} {μ : Mem} {b : Nat} (hB : BlS V b) (hW : BlW μ b) {p x y : Int} (hp : 0 ≤ p) (hp2 : p ≤ μ b 2) (hs : μ b 2 < 20) : Con V 1 yX0_putIn cX0_putIn 5 (none) [vR b, vI p, vI x, vI y] (μ) (QV V (wr (wr (wr μ (b + 1) (insR (μ (b + 1)) p (μ b 2) x)) (b + 2) (insR (μ (b + 2)) p (μ b 2) y)) b (s1 (μ b) 2 (μ b 2 + 1)))) := by
  refine con_of (ls0 := [vR b, vI p, vI x, vI y, vU]) (by decide +kernel) rfl (Nat.le_of_ble_eq_true rfl) (Nat.le_of_ble_eq_true rfl) (fun X hV C hF => ?_)
  subst hV
  have C : Ok X RX0 cX0_putIn 5 1 := C
  obtain ⟨B0, B1, Bn, Bt, Ble, Blb, Bto⟩ := hB
  obtain ⟨W0, W1, W2, W3⟩ := hW
  have n12 : b + 1 ≠ b + 2 := by omega
  have n21 : b + 2 ≠ b + 1 := by omega
  have nb1 : b ≠ b + 1 := by omega
  have nb2 : b ≠ b + 2 := by omega
  have n1b : b + 1 ≠ b := by omega
  have n2b : b + 2 ≠ b := by omega
  have e0 : ∀ i, (wr (wr μ (b + 1) (shU (μ (b + 1)) i (μ b 2))) (b + 2) (shU (μ (b + 2)) i (μ b 2))) b 2 = μ b 2 := fun i => by rw [wr_n _ _ nb2, wr_n _ _ nb1]
  have e1 : ∀ i, (wr (wr μ (b + 1) (shU (μ (b + 1)) i (μ b 2))) (b + 2) (shU (μ (b + 2)) i (μ b 2))) (b + 1) = shU (μ (b + 1)) i (μ b 2) := fun i => by rw [wr_n _ _ n12, wr_s]
  have e2 : ∀ i, (wr (wr μ (b + 1) (shU (μ (b + 1)) i (μ b 2))) (b + 2) (shU (μ (b + 2)) i (μ b 2))) (b + 2) = shU (μ (b + 2)) i (μ b 2) := fun i => by rw [wr_s]
  refine r_iload_n C dX0_putIn_0 rfl ?_
  refine r_if_lt (tgt := 21) C dX0_putIn_1 (by decide) (by omega) (fun c1 => absurd c1 (by omega)) (fun c1 => ?_)
  refine r_iload_n C dX0_putIn_4 rfl ?_
  refine r_aload_n C dX0_putIn_5 rfl ?_
  refine gf_X0_27 C B1 dX0_putIn_6 ?_
  refine r_icmp_gt (tgt := 21) C dX0_putIn_9 (by decide) (by omega) (by omega) (fun c9 => absurd c9 (by omega)) (fun c9 => ?_)
  refine r_aload_n C dX0_putIn_12 rfl ?_
  refine gf_X0_27 C B1 dX0_putIn_13 ?_
  refine r_bipush C dX0_putIn_16 rfl ?_
  refine r_icmp_lt (tgt := 22) C dX0_putIn_18 (by decide) (by omega) (by omega) (fun c18 => ?_) (fun c18 => absurd c18 (by omega))
  refine r_aload_n C dX0_putIn_22 rfl ?_
  refine gf_X0_27 C B1 dX0_putIn_23 ?_
  refine r_istore C dX0_putIn_26 (by decide) rfl ?_
  refine r_eq (μ' := wr (wr μ (b + 1) (shU (μ (b + 1)) (μ b 2) (μ b 2))) (b + 2) (shU (μ (b + 2)) (μ b 2) (μ b 2))) ?_ (by rw [shU_n, shU_n, wr_self, wr_self])
  refine loop_dn (F := fun i => RR X (wr (wr μ (b + 1) (shU (μ (b + 1)) i (μ b 2))) (b + 2) (shU (μ (b + 2)) i (μ b 2))) 28 [vR b, vI p, vI x, vI y, vI i] []) (a := p) (b := μ b 2) hp2 ?_ ?_
  · show RR X _ _ [vR b, vI p, vI x, vI y, vI p] []
    refine r_iload C dX0_putIn_28 rfl ?_
    refine r_iload_n C dX0_putIn_30 rfl ?_
    refine r_icmp_le (tgt := 80) C dX0_putIn_31 (by decide) (by omega) (by omega) (fun c31 => ?_) (fun c31 => absurd c31 (by omega))
    refine r_aload_n C dX0_putIn_80 rfl ?_
    refine gf_X0_9 C B1 dX0_putIn_81 ?_
    refine r_iload_n C dX0_putIn_84 rfl ?_
    refine r_iload_n C dX0_putIn_85 rfl ?_
    refine r_runV (fun H locs jl h1 h2 h3 => run_SN C hF.2.2.1 (kX4_put Bn (by omega) (by decide) (by omega) (by omega)) lm_X4_put mn_X0_39 sm_X4_put (Nat.le_of_ble_eq_true rfl) dX0_putIn_86 rfl (Nat.le_of_ble_eq_true rfl) h1 h2 h3) ?_
    refine r_aload_n C dX0_putIn_89 rfl ?_
    refine gf_X0_15 C B1 dX0_putIn_90 ?_
    refine r_iload_n C dX0_putIn_93 rfl ?_
    refine r_iload_n C dX0_putIn_94 rfl ?_
    refine r_runV (fun H locs jl h1 h2 h3 => run_SN C hF.2.2.1 (kX4_put Bt (by omega) (by decide) (by omega) (by omega)) lm_X4_put mn_X0_39 sm_X4_put (Nat.le_of_ble_eq_true rfl) dX0_putIn_95 rfl (Nat.le_of_ble_eq_true rfl) h1 h2 h3) ?_
    refine r_aload_n C dX0_putIn_98 rfl ?_
    refine r_dup C dX0_putIn_99 rfl ?_
    refine gf_X0_27 C B1 dX0_putIn_100 ?_
    refine r_iconst C dX0_putIn_103 ?_
    refine r_iadd C dX0_putIn_104 ?_
    refine pf_X0_27 C B1 B0 dX0_putIn_105 ?_
    exact r_vret C hF dX0_putIn_108 (by simp only [e0, e1, e2, wr_s, wr_n _ _ n12, wr_n _ _ n21, wr_n _ _ nb1, wr_n _ _ nb2, wr_n _ _ n1b, wr_n _ _ n2b, wr2_1 _ _ _ _ n12, wr_ww]; rfl)
  · intro i h0 h1 K
    show RR X _ _ [vR b, vI p, vI x, vI y, vI i] []
    refine r_iload C dX0_putIn_28 rfl ?_
    refine r_iload_n C dX0_putIn_30 rfl ?_
    refine r_icmp_le (tgt := 80) C dX0_putIn_31 (by decide) (by omega) (by omega) (fun c31 => absurd c31 (by omega)) (fun c31 => ?_)
    refine r_aload_n C dX0_putIn_34 rfl ?_
    refine gf_X0_9 C B1 dX0_putIn_35 ?_
    refine r_iload C dX0_putIn_38 rfl ?_
    refine r_aload_n C dX0_putIn_40 rfl ?_
    refine gf_X0_9 C B1 dX0_putIn_41 ?_
    refine r_iload C dX0_putIn_44 rfl ?_
    refine r_iconst C dX0_putIn_46 ?_
    refine r_isub C dX0_putIn_47 ?_
    refine r_runI (fun H locs jl h1 h2 h3 => run_SN C hF.2.2.1 (kX4_at Bn (by decide) (by omega) (by omega)) lm_X4_at mn_X0_35 sm_X4_at (Nat.le_of_ble_eq_true rfl) dX0_putIn_48 rfl (Nat.le_of_ble_eq_true rfl) h1 h2 h3) ?_
    refine r_runV (fun H locs jl h1 h2 h3 => run_SN C hF.2.2.1 (kX4_put Bn (by omega) (by decide) (by omega) (by omega)) lm_X4_put mn_X0_39 sm_X4_put (Nat.le_of_ble_eq_true rfl) dX0_putIn_51 rfl (Nat.le_of_ble_eq_true rfl) h1 h2 h3) ?_
    refine r_aload_n C dX0_putIn_54 rfl ?_
    refine gf_X0_15 C B1 dX0_putIn_55 ?_
    refine r_iload C dX0_putIn_58 rfl ?_
    refine r_aload_n C dX0_putIn_60 rfl ?_
    refine gf_X0_15 C B1 dX0_putIn_61 ?_
    refine r_iload C dX0_putIn_64 rfl ?_
    refine r_iconst C dX0_putIn_66 ?_
    refine r_isub C dX0_putIn_67 ?_
    refine r_runI (fun H locs jl h1 h2 h3 => run_SN C hF.2.2.1 (kX4_at Bt (by decide) (by omega) (by omega)) lm_X4_at mn_X0_35 sm_X4_at (Nat.le_of_ble_eq_true rfl) dX0_putIn_68 rfl (Nat.le_of_ble_eq_true rfl) h1 h2 h3) ?_
    refine r_runV (fun H locs jl h1 h2 h3 => run_SN C hF.2.2.1 (kX4_put Bt (by omega) (by decide) (by omega) (by omega)) lm_X4_put mn_X0_39 sm_X4_put (Nat.le_of_ble_eq_true rfl) dX0_putIn_71 rfl (Nat.le_of_ble_eq_true rfl) h1 h2 h3) ?_
    refine r_iinc C dX0_putIn_74 rfl (by decide) rfl ?_
    refine r_goto (tgt := 28) C dX0_putIn_77 (by decide) ?_
    refine r_eq K ?_
    simp only [e0, e1, e2, wr_s, wr_n _ _ n12, wr_n _ _ n21, wr2_1 _ _ _ _ n12, wr_ww]
    rw [shU_s _ (by omega), shU_s _ (by omega)]
