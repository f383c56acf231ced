theorem DG_z {q : Nat} {μ ν : Mem} {h y y' : Int64} (N : DG q μ ν (31 * h + y)) (e : y = y') : DG q μ ν (31 * h + y') := by rw [← e]; exact N
set_option maxRecDepth 20000 in
set_option maxHeartbeats 2000000 in
theorem kX5_share {V : Wo} {μ : Mem} {q : Nat} (hM : MoS V q) {K : Int} (hv : veW K (μ (q + 1))) : Con V 6 yX5_share cX5_share 1 (some .double) [vR q] (μ) (QDr V (shT (μ (q + 1))) ((MU q μ))) := by
  refine con_of (ls0 := [vR q]) (by decide +kernel) rfl (Nat.le_of_ble_eq_true rfl) (Nat.le_of_ble_eq_true rfl) (fun X hV C hF => ?_)
  subst hV
  have C : Ok X RX5 cX5_share 1 6 := C
  obtain ⟨M0, M1, Ms, Mt, Mr, Md, Ml⟩ := id hM
  obtain ⟨v0, v1, v2, v3, v4, v5, v6, v7, v8, v9, v10⟩ := id hv
  have ck := chkD_e (chk_sh hv)
  refine r_aload_n C dX5_share_0 rfl ?_
  refine gf_X5_7 C M1 dX5_share_1 ?_
  refine r_iconst C dX5_share_4 ?_
  refine r_iald C Ms (by omega) (by omega) dX5_share_5 ?_
  refine r_if_ne (tgt := 13) C dX5_share_6 (by decide) (by omega) (fun c6 => ?_) (fun c6 => ?_)
  · skip
    refine r_aload_n C dX5_share_13 rfl ?_
    refine gf_X5_7 C M1 dX5_share_14 ?_
    refine r_iconst C dX5_share_17 ?_
    refine r_iald C Ms (by omega) (by omega) dX5_share_18 ?_
    refine r_aload_n C dX5_share_19 rfl ?_
    refine r_iconst C dX5_share_20 ?_
    refine r_runIr (fun aH aL aj a1 a2 a3 => run_V C hF.2.2.1 (kX5_counted hM hv (w := 1) (by omega) (by omega)) lm_X5_counted ml_X5_189 im_X5_counted se_X5_counted M1 rfl (Nat.le_of_ble_eq_true rfl) dX5_share_21 rfl (Nat.le_of_ble_eq_true rfl) a1 a2 a3) (fun ν N => ?_)
    rw [show coT (μ (q + 1)) (μ q 2) 1 = brks ((μ (q + 1)) 1) (vN (μ (q + 1))) (vD (μ (q + 1))) ((μ (q + 1)) 3) from by unfold coT; rw [if_neg (by decide), if_pos rfl]]
    refine r_isub C dX5_share_24 ?_
    refine r_i2d C dX5_share_25 ?_
    refine r_aload_n C dX5_share_26 rfl ?_
    refine gf_X5_7 C M1 dX5_share_27 ?_
    refine r_iconst C dX5_share_30 ?_
    refine r_iald C Ms (by omega) (by omega) dX5_share_31 ?_
    rw [N.1.1]
    refine r_i2d C dX5_share_32 ?_
    refine r_ddiv C dX5_share_33 (by have := ck.1; unfold shT tD at this; rw [if_neg c6] at this; exact this) ?_
    exact r_dretr C hF dX5_share_34 (by unfold shT tD; rw [if_neg c6]) N
  · skip
    refine r_dconst1 C dX5_share_9 ?_
    refine r_goto (tgt := 34) C dX5_share_10 (by decide) ?_
    exact r_dretr C hF dX5_share_34 (by unfold shT; rw [if_pos c6]) (MU_refl q μ)
set_option maxRecDepth 20000 in
set_option maxHeartbeats 2000000 in
theorem kX5_mean {V : Wo} {μ : Mem} {q : Nat} (hM : MoS V q) {K : Int} (hv : veW K (μ (q + 1))) : Con V 6 yX5_mean cX5_mean 1 (some .float) [vR q] (μ) (QFr V (meT (μ (q + 1))) ((MU q μ))) := by
  refine con_of (ls0 := [vR q]) (by decide +kernel) rfl (Nat.le_of_ble_eq_true rfl) (Nat.le_of_ble_eq_true rfl) (fun X hV C hF => ?_)
  subst hV
  have C : Ok X RX5 cX5_mean 1 6 := C
  obtain ⟨M0, M1, Ms, Mt, Mr, Md, Ml⟩ := id hM
  obtain ⟨v0, v1, v2, v3, v4, v5, v6, v7, v8, v9, v10⟩ := id hv
  have cm := chkF_e (chk_me hv)
  refine r_aload_n C dX5_mean_0 rfl ?_
  refine gf_X5_7 C M1 dX5_mean_1 ?_
  refine r_iconst C dX5_mean_4 ?_
  refine r_iald C Ms (by omega) (by omega) dX5_mean_5 ?_
  refine r_if_ne (tgt := 13) C dX5_mean_6 (by decide) (by omega) (fun c6 => ?_) (fun c6 => ?_)
  · skip
    refine r_aload_n C dX5_mean_13 rfl ?_
    refine r_bipush C dX5_mean_14 rfl ?_
    refine r_runIr (fun aH aL aj a1 a2 a3 => run_V C hF.2.2.1 (kX5_counted hM hv (w := 10) (by omega) (by omega)) lm_X5_counted ml_X5_189 im_X5_counted se_X5_counted M1 rfl (Nat.le_of_ble_eq_true rfl) dX5_mean_16 rfl (Nat.le_of_ble_eq_true rfl) a1 a2 a3) (fun ν N => ?_)
    rw [show coT (μ (q + 1)) (μ q 2) 10 = thS ((μ (q + 1)) 2) (vH (μ (q + 1))) (vN (μ (q + 1))) ((μ (q + 1)) 3) from by unfold coT; simp]
    refine r_i2f C dX5_mean_19 ?_
    refine r_aload_n C dX5_mean_20 rfl ?_
    refine gf_X5_7 C M1 dX5_mean_21 ?_
    refine r_iconst C dX5_mean_24 ?_
    refine r_iald C Ms (by omega) (by omega) dX5_mean_25 ?_
    rw [N.1.1]
    refine r_i2f C dX5_mean_26 ?_
    refine r_fdiv C dX5_mean_27 (by have := cm.1; unfold meT tF at this; rw [if_neg c6] at this; exact this) ?_
    exact r_fretr C hF dX5_mean_28 (by unfold meT tF; rw [if_neg c6]) N
  · skip
    refine r_fconst0 C dX5_mean_9 ?_
    refine r_goto (tgt := 28) C dX5_mean_10 (by decide) ?_
    exact r_fretr C hF dX5_mean_28 (by unfold meT; rw [if_pos c6]) (MU_refl q μ)
set_option maxRecDepth 20000 in
set_option maxHeartbeats 2000000 in
theorem kX5_stairShare {V : Wo} {μ : Mem} {q : Nat} (hM : MoS V q) {K : Int} (hv : veW K (μ (q + 1))) : Con V 7 yX5_stairShare cX5_stairShare 1 (some .double) [vR q] (μ) (QDr V (shT (μ (q + 1))) ((fun ν => MR q μ ν 0 (μ q 2) (μ q 3) (μ q 5) (μ (q + 1)) (μ (q + 2))))) := by
  refine con_of (ls0 := [vR q]) (by decide +kernel) rfl (Nat.le_of_ble_eq_true rfl) (Nat.le_of_ble_eq_true rfl) (fun X hV C hF => ?_)
  subst hV
  have C : Ok X RX5 cX5_stairShare 1 7 := C
  obtain ⟨M0, M1, Ms, Mt, Mr, Md, Ml⟩ := id hM
  obtain ⟨v0, v1, v2, v3, v4, v5, v6, v7, v8, v9, v10⟩ := id hv
  refine r_aload_n C dX5_stairShare_0 rfl ?_
  refine r_iconst C dX5_stairShare_1 ?_
  refine pf_X5_25 C M1 M0 dX5_stairShare_2 ?_
  refine r_aload_n C dX5_stairShare_5 rfl ?_
  refine r_runDr (fun aH aL aj a1 a2 a3 => run_V C hF.2.2.1 (kX5_share hM (K := K) (by rw [wr_n _ _ (by omega)]; exact hv)) lm_X5_share ml_X5_207 im_X5_share se_X5_share M1 rfl (Nat.le_of_ble_eq_true rfl) dX5_stairShare_6 rfl (Nat.le_of_ble_eq_true rfl) a1 a2 a3) (fun ν N => ?_)
  rw [wr_n μ _ (show q + 1 ≠ q by omega)]
  exact r_dretr C hF dX5_stairShare_9 rfl (MR_U (MR_th μ q 0) N)
set_option maxRecDepth 20000 in
set_option maxHeartbeats 2000000 in
theorem kX5_meanThread {V : Wo} {μ : Mem} {q : Nat} (hM : MoS V q) {K : Int} (hv : veW K (μ (q + 1))) : Con V 7 yX5_meanThread cX5_meanThread 1 (some .float) [vR q] (μ) (QFr V (meT (μ (q + 1))) ((fun ν => MR q μ ν 0 (μ q 2) (μ q 3) (μ q 5) (μ (q + 1)) (μ (q + 2))))) := by
  refine con_of (ls0 := [vR q]) (by decide +kernel) rfl (Nat.le_of_ble_eq_true rfl) (Nat.le_of_ble_eq_true rfl) (fun X hV C hF => ?_)
  subst hV
  have C : Ok X RX5 cX5_meanThread 1 7 := C
  obtain ⟨M0, M1, Ms, Mt, Mr, Md, Ml⟩ := id hM
  obtain ⟨v0, v1, v2, v3, v4, v5, v6, v7, v8, v9, v10⟩ := id hv
  refine r_aload_n C dX5_meanThread_0 rfl ?_
  refine r_iconst C dX5_meanThread_1 ?_
  refine pf_X5_25 C M1 M0 dX5_meanThread_2 ?_
  refine r_aload_n C dX5_meanThread_5 rfl ?_
  refine r_runFr (fun aH aL aj a1 a2 a3 => run_V C hF.2.2.1 (kX5_mean hM (K := K) (by rw [wr_n _ _ (by omega)]; exact hv)) lm_X5_mean ml_X5_211 im_X5_mean se_X5_mean M1 rfl (Nat.le_of_ble_eq_true rfl) dX5_meanThread_6 rfl (Nat.le_of_ble_eq_true rfl) a1 a2 a3) (fun ν N => ?_)
  rw [wr_n μ _ (show q + 1 ≠ q by omega)]
  exact r_fretr C hF dX5_meanThread_9 rfl (MR_U (MR_th μ q 0) N)
set_option maxRecDepth 20000 in
set_option maxHeartbeats 2000000 in
theorem kX5_digest {V : Wo} {μ : Mem} {q : Nat} (hM : MoS V q) {K : Int} (hv : veW K (μ (q + 1))) (hs1 : 0 ≤ μ q 2 ∧ μ q 2 ≤ 6) (hB : BuW μ q) (hk1 : μ q 3 = 0 ∨ μ q 3 = 1) : Con V 7 yX5_digest cX5_digest 3 (some .long) [vR q] (μ) (QLr V (dgT (μ (q + 1)) (μ (q + 2)) (μ q 2) (μ q 3) (μ q 5)) ((fun ν => MR q μ ν 0 (μ q 2) (μ q 3) (μ q 5) (μ (q + 1)) (μ (q + 2))))) := by
  refine con_of (ls0 := [vR q, vU, vU]) (by decide +kernel) rfl (Nat.le_of_ble_eq_true rfl) (Nat.le_of_ble_eq_true rfl) (fun X hV C hF => ?_)
  subst hV
  have C : Ok X RX5 cX5_digest 3 7 := C
  obtain ⟨M0, M1, Ms, Mt, Mr, Md, Ml⟩ := id hM
  obtain ⟨v0, v1, v2, v3, v4, v5, v6, v7, v8, v9, v10⟩ := id hv
  obtain ⟨B0, B1⟩ := id hB
  have cs2 := (chkD_e (chk_sh hv)).2.2.1
  have cm2 := (chkF_e (chk_me hv)).2.2.2.2.1
  have cm3 := (chkF_e (chk_me hv)).2.2.2.1
  refine r_aload_n C dX5_digest_0 rfl ?_
  refine r_iconst C dX5_digest_1 ?_
  refine pf_X5_25 C M1 M0 dX5_digest_2 ?_
  refine r_aload_n C dX5_digest_5 rfl ?_
  refine r_ldc2 C dX5_digest_6 kl_X5_231  ?_
  refine pf_X5_217 C M1 M0 dX5_digest_9 ?_
  refine r_iconst C dX5_digest_12 ?_
  refine r_istore_n C dX5_digest_13 (by decide) rfl ?_
  have N0 := DG_0 q μ
  refine loop_up (F := fun k => ∀ (ν : Mem) (z : AV), DG q μ ν (hs (coT (μ (q + 1)) (μ q 2)) 3853 k) → RR X ν 14 [vR q, vI k, z] []) (a := 0) (b := 16) (by omega) ?_ ?_ _ _ N0
  · intro ν z N
    show RR X _ _ [vR q, vI (16), z] []
    refine r_iload_n C dX5_digest_14 rfl ?_
    refine r_bipush C dX5_digest_15 rfl ?_
    refine r_icmp_ge (tgt := 36) C dX5_digest_17 (by decide) (by omega) (by omega) (fun c17 => ?_) (fun c17 => absurd c17 (by omega))
    refine r_iconst C dX5_digest_36 ?_
    refine r_istore_n C dX5_digest_37 (by decide) rfl ?_
    have N0 := N
    refine loop_up (F := fun k => ∀ (ν : Mem) (z : AV), DG q μ ν (hs (μ (q + 1)) (hs (coT (μ (q + 1)) (μ q 2)) 3853 16) k) → RR X ν 38 [vR q, vI k, z] []) (a := 0) (b := 3) (by omega) ?_ ?_ _ _ N0
    · intro ν z N
      show RR X _ _ [vR q, vI (3), z] []
      refine r_iload_n C dX5_digest_38 rfl ?_
      refine r_iconst C dX5_digest_39 ?_
      refine r_icmp_ge (tgt := 62) C dX5_digest_40 (by decide) (by omega) (by omega) (fun c40 => ?_) (fun c40 => absurd c40 (by omega))
      refine r_iconst C dX5_digest_62 ?_
      refine r_istore_n C dX5_digest_63 (by decide) rfl ?_
      have N0 := N
      refine loop_up (F := fun k => ∀ (ν : Mem) (z : AV), DG q μ ν (hk (μ (q + 1)) (hs (μ (q + 1)) (hs (coT (μ (q + 1)) (μ q 2)) 3853 16) 3) k) → RR X ν 64 [vR q, vI k, z] []) (a := 0) (b := ((μ (q + 1)) 3)) v4.1 ?_ ?_ _ _ N0
      · intro ν z N
        show RR X _ _ [vR q, vI (((μ (q + 1)) 3)), z] []
        refine r_iload_n C dX5_digest_64 rfl ?_
        refine r_aload_n C dX5_digest_65 rfl ?_
        refine gf_X5_7 C M1 dX5_digest_66 ?_
        refine r_iconst C dX5_digest_69 ?_
        refine r_iald C Ms (by omega) (by omega) dX5_digest_70 ?_
        rw [N.1.1]
        refine r_icmp_ge (tgt := 129) C dX5_digest_71 (by decide) (by omega) (by omega) (fun c71 => ?_) (fun c71 => absurd c71 (by omega))
        refine r_iconst C dX5_digest_129 ?_
        refine r_istore_n C dX5_digest_130 (by decide) rfl ?_
        have N0 := N
        refine loop_up (F := fun k => ∀ (ν : Mem) (z : AV), DG q μ ν (hs (ob5 (μ (q + 1))) (hk (μ (q + 1)) (hs (μ (q + 1)) (hs (coT (μ (q + 1)) (μ q 2)) 3853 16) 3) ((μ (q + 1)) 3)) k) → RR X ν 131 [vR q, vI k, z] []) (a := 0) (b := 80) (by omega) ?_ ?_ _ _ N0
        · intro ν z N
          show RR X _ _ [vR q, vI (80), z] []
          refine r_iload_n C dX5_digest_131 rfl ?_
          refine r_bipush C dX5_digest_132 rfl ?_
          refine r_icmp_ge (tgt := 158) C dX5_digest_134 (by decide) (by omega) (by omega) (fun c134 => ?_) (fun c134 => absurd c134 (by omega))
          refine r_aload_n C dX5_digest_158 rfl ?_
          refine r_aload_n C dX5_digest_159 rfl ?_
          refine r_runIr (fun aH aL aj a1 a2 a3 => run_V C hF.2.2.1 (kX5_moveNext hM (K := K) (by rw [N.1.1]; exact hv)) lm_X5_moveNext ml_X5_195 im_X5_moveNext se_X5_moveNext M1 rfl (Nat.le_of_ble_eq_true rfl) dX5_digest_160 rfl (Nat.le_of_ble_eq_true rfl) a1 a2 a3) (fun ν R => ?_)
          rw [N.1.1]
          replace N := DG_U N R
          refine r_i2l C dX5_digest_163 (nmT_r hv) ?_
          refine r_runV (fun aH aL aj a1 a2 a3 => run_V C hF.2.2.1 (kX5_mix hM) lm_X5_mix ml_X5_233 im_X5_mix se_X5_mix M1 rfl (Nat.le_of_ble_eq_true rfl) dX5_digest_164 rfl (Nat.le_of_ble_eq_true rfl) a1 a2 a3) ?_
          replace N := DG_m N (Int64.ofInt (nmT (μ (q + 1))))
          refine r_aload_n C dX5_digest_167 rfl ?_
          refine r_aload_n C dX5_digest_168 rfl ?_
          refine r_runIr (fun aH aL aj a1 a2 a3 => run_V C hF.2.2.1 (kX5_fitting hM (K := K) (by rw [N.1.1]; exact hv)) lm_X5_fitting ml_X5_201 im_X5_fitting se_X5_fitting M1 rfl (Nat.le_of_ble_eq_true rfl) dX5_digest_169 rfl (Nat.le_of_ble_eq_true rfl) a1 a2 a3) (fun ν R => ?_)
          rw [N.1.1]
          replace N := DG_U N R
          refine r_i2l C dX5_digest_172 (fiT_r (μ (q + 1))) ?_
          refine r_runV (fun aH aL aj a1 a2 a3 => run_V C hF.2.2.1 (kX5_mix hM) lm_X5_mix ml_X5_233 im_X5_mix se_X5_mix M1 rfl (Nat.le_of_ble_eq_true rfl) dX5_digest_173 rfl (Nat.le_of_ble_eq_true rfl) a1 a2 a3) ?_
          replace N := DG_m N (Int64.ofInt (fiT (μ (q + 1))))
          refine r_aload_n C dX5_digest_176 rfl ?_
          refine r_aload_n C dX5_digest_177 rfl ?_
          refine r_runI (fun aH aL aj a1 a2 a3 => run_V C hF.2.2.1 (kX5_possible hM (K := K) (by rw [N.1.1]; exact hv)) lm_X5_possible ml_X5_204 im_X5_possible se_X5_possible M1 rfl (Nat.le_of_ble_eq_true rfl) dX5_digest_178 rfl (Nat.le_of_ble_eq_true rfl) a1 a2 a3) ?_
          rw [N.1.1]
          refine r_i2l C dX5_digest_181 (poT_r hv) ?_
          refine r_runV (fun aH aL aj a1 a2 a3 => run_V C hF.2.2.1 (kX5_mix hM) lm_X5_mix ml_X5_233 im_X5_mix se_X5_mix M1 rfl (Nat.le_of_ble_eq_true rfl) dX5_digest_182 rfl (Nat.le_of_ble_eq_true rfl) a1 a2 a3) ?_
          replace N := DG_m N (Int64.ofInt (poT (μ (q + 1))))
          refine r_aload_n C dX5_digest_185 rfl ?_
          refine r_aload_n C dX5_digest_186 rfl ?_
          refine r_runDr (fun aH aL aj a1 a2 a3 => run_V C hF.2.2.1 (kX5_share hM (K := K) (by rw [N.1.1]; exact hv)) lm_X5_share ml_X5_207 im_X5_share se_X5_share M1 rfl (Nat.le_of_ble_eq_true rfl) dX5_digest_187 rfl (Nat.le_of_ble_eq_true rfl) a1 a2 a3) (fun ν R => ?_)
          rw [N.1.1]
          replace N := DG_U N R
          refine r_runL (fun aH aL aj a1 a2 a3 => run_S C hF.2.2.1 (kX5_bits cs2) lm_X5_bits ml_X5_237 sm_X5_bits (Nat.le_of_ble_eq_true rfl) dX5_digest_190 rfl (Nat.le_of_ble_eq_true rfl) a1 a2 a3) ?_
          refine r_runV (fun aH aL aj a1 a2 a3 => run_V C hF.2.2.1 (kX5_mix hM) lm_X5_mix ml_X5_233 im_X5_mix se_X5_mix M1 rfl (Nat.le_of_ble_eq_true rfl) dX5_digest_193 rfl (Nat.le_of_ble_eq_true rfl) a1 a2 a3) ?_
          replace N := DG_m N (bD (shT (μ (q + 1))))
          refine r_aload_n C dX5_digest_196 rfl ?_
          refine r_aload_n C dX5_digest_197 rfl ?_
          refine r_runFr (fun aH aL aj a1 a2 a3 => run_V C hF.2.2.1 (kX5_mean hM (K := K) (by rw [N.1.1]; exact hv)) lm_X5_mean ml_X5_211 im_X5_mean se_X5_mean M1 rfl (Nat.le_of_ble_eq_true rfl) dX5_digest_198 rfl (Nat.le_of_ble_eq_true rfl) a1 a2 a3) (fun ν R => ?_)
          rw [N.1.1]
          replace N := DG_U N R
          refine r_runI (fun aH aL aj a1 a2 a3 => run_S C hF.2.2.1 (kX5_floatBits cm2) lm_X5_floatBits ml_X5_241 sm_X5_floatBits (Nat.le_of_ble_eq_true rfl) dX5_digest_201 rfl (Nat.le_of_ble_eq_true rfl) a1 a2 a3) ?_
          refine r_i2l C dX5_digest_204 cm3 ?_
          refine r_runV (fun aH aL aj a1 a2 a3 => run_V C hF.2.2.1 (kX5_mix hM) lm_X5_mix ml_X5_233 im_X5_mix se_X5_mix M1 rfl (Nat.le_of_ble_eq_true rfl) dX5_digest_205 rfl (Nat.le_of_ble_eq_true rfl) a1 a2 a3) ?_
          replace N := DG_m N (Int64.ofInt (bF (meT (μ (q + 1)))))
          refine r_aload_n C dX5_digest_208 rfl ?_
          refine r_aload_n C dX5_digest_209 rfl ?_
          refine gf_X5_158 C M1 dX5_digest_210 ?_
          rw [N.1.2.2.1.2.2.1]
          refine r_if_eq (tgt := 220) C dX5_digest_213 (by decide) (by omega) (fun c213 => ?_) (fun c213 => ?_)
          · skip
            refine r_lconst C dX5_digest_220 ?_
            refine r_runV (fun aH aL aj a1 a2 a3 => run_V C hF.2.2.1 (kX5_mix hM) lm_X5_mix ml_X5_233 im_X5_mix se_X5_mix M1 rfl (Nat.le_of_ble_eq_true rfl) dX5_digest_221 rfl (Nat.le_of_ble_eq_true rfl) a1 a2 a3) ?_
            replace N := DG_z (DG_m N (Int64.ofNat ((0 : Fin 2) : Nat))) (y' := Int64.ofInt (μ q 3)) (by rw [c213]; rfl)
            refine r_aload_n C dX5_digest_224 rfl ?_
            refine r_aload_n C dX5_digest_225 rfl ?_
            refine gf_X5_125 C M1 dX5_digest_226 ?_
            rw [N.1.2.2.1.2.2.2]
            refine r_i2l C dX5_digest_229 (by omega) ?_
            refine r_runV (fun aH aL aj a1 a2 a3 => run_V C hF.2.2.1 (kX5_mix hM) lm_X5_mix ml_X5_233 im_X5_mix se_X5_mix M1 rfl (Nat.le_of_ble_eq_true rfl) dX5_digest_230 rfl (Nat.le_of_ble_eq_true rfl) a1 a2 a3) ?_
            replace N := DG_m N (Int64.ofInt (μ q 5))
            refine r_iconst C dX5_digest_233 ?_
            refine r_istore_n C dX5_digest_234 (by decide) rfl ?_
            have N0 := N
            rw [show 31 * (31 * (31 * (31 * (31 * (31 * (31 * hs (ob5 (μ (q + 1))) (hk (μ (q + 1)) (hs (μ (q + 1)) (hs (coT (μ (q + 1)) (μ q 2)) 3853 16) 3) ((μ (q + 1)) 3)) 80 + Int64.ofInt (nmT (μ (q + 1)))) + Int64.ofInt (fiT (μ (q + 1)))) + Int64.ofInt (poT (μ (q + 1)))) + bD (shT (μ (q + 1)))) + Int64.ofInt (bF (meT (μ (q + 1))))) + Int64.ofInt (μ q 3)) + Int64.ofInt (μ q 5) = hs (μ (q + 2)) (31 * hd2 (μ (q + 1)) (μ q 2) (μ q 3) + Int64.ofInt (μ q 5)) 0 from rfl] at N0
            refine loop_up (F := fun k => ∀ (ν : Mem) (z : AV), DG q μ ν (hs (μ (q + 2)) (31 * hd2 (μ (q + 1)) (μ q 2) (μ q 3) + Int64.ofInt (μ q 5)) k) → RR X ν 235 [vR q, vI k, z] []) (a := 0) (b := (μ q 5)) B0.1 ?_ ?_ _ _ N0
            · intro ν z N
              show RR X _ _ [vR q, vI ((μ q 5)), z] []
              refine r_iload_n C dX5_digest_235 rfl ?_
              refine r_aload_n C dX5_digest_236 rfl ?_
              refine gf_X5_125 C M1 dX5_digest_237 ?_
              rw [N.1.2.2.1.2.2.2]
              refine r_icmp_ge (tgt := 260) C dX5_digest_240 (by decide) (by omega) (by omega) (fun c240 => ?_) (fun c240 => absurd c240 (by omega))
              refine r_aload_n C dX5_digest_260 rfl ?_
              refine gf_X5_217 C M1 dX5_digest_261 ?_
              exact r_lretr C hF dX5_digest_264 N.2 N.1
            · intro k h0 h1 K2 ν z N
              show RR X _ _ [vR q, vI k, z] []
              refine r_iload_n C dX5_digest_235 rfl ?_
              refine r_aload_n C dX5_digest_236 rfl ?_
              refine gf_X5_125 C M1 dX5_digest_237 ?_
              rw [N.1.2.2.1.2.2.2]
              refine r_icmp_ge (tgt := 260) C dX5_digest_240 (by decide) (by omega) (by omega) (fun c240 => absurd c240 (by omega)) (fun c240 => ?_)
              refine r_aload_n C dX5_digest_243 rfl ?_
              refine r_aload_n C dX5_digest_244 rfl ?_
              refine gf_X5_13 C M1 dX5_digest_245 ?_
              refine r_iload_n C dX5_digest_248 rfl ?_
              refine r_iald C Mt (by omega) (by omega) dX5_digest_249 ?_
              rw [N.1.2.1]
              refine r_i2l C dX5_digest_250 (by have := B1 k h0 h1; omega) ?_
              refine r_runV (fun aH aL aj a1 a2 a3 => run_V C hF.2.2.1 (kX5_mix hM) lm_X5_mix ml_X5_233 im_X5_mix se_X5_mix M1 rfl (Nat.le_of_ble_eq_true rfl) dX5_digest_251 rfl (Nat.le_of_ble_eq_true rfl) a1 a2 a3) ?_
              replace N := DG_m N (Int64.ofInt (μ (q + 2) k))
              refine r_iinc C dX5_digest_254 rfl (by decide) rfl ?_
              refine r_goto (tgt := 235) C dX5_digest_257 (by decide) ?_
              rw [hs_s _ _ h0] at K2
              exact K2 _ _ N
          · skip
            refine r_lconst C dX5_digest_216 ?_
            refine r_goto (tgt := 221) C dX5_digest_217 (by decide) ?_
            refine r_runV (fun aH aL aj a1 a2 a3 => run_V C hF.2.2.1 (kX5_mix hM) lm_X5_mix ml_X5_233 im_X5_mix se_X5_mix M1 rfl (Nat.le_of_ble_eq_true rfl) dX5_digest_221 rfl (Nat.le_of_ble_eq_true rfl) a1 a2 a3) ?_
            replace N := DG_z (DG_m N (Int64.ofNat ((1 : Fin 2) : Nat))) (y' := Int64.ofInt (μ q 3)) (by rw [show μ q 3 = 1 by omega]; rfl)
            refine r_aload_n C dX5_digest_224 rfl ?_
            refine r_aload_n C dX5_digest_225 rfl ?_
            refine gf_X5_125 C M1 dX5_digest_226 ?_
            rw [N.1.2.2.1.2.2.2]
            refine r_i2l C dX5_digest_229 (by omega) ?_
            refine r_runV (fun aH aL aj a1 a2 a3 => run_V C hF.2.2.1 (kX5_mix hM) lm_X5_mix ml_X5_233 im_X5_mix se_X5_mix M1 rfl (Nat.le_of_ble_eq_true rfl) dX5_digest_230 rfl (Nat.le_of_ble_eq_true rfl) a1 a2 a3) ?_
            replace N := DG_m N (Int64.ofInt (μ q 5))
            refine r_iconst C dX5_digest_233 ?_
            refine r_istore_n C dX5_digest_234 (by decide) rfl ?_
            have N0 := N
            rw [show 31 * (31 * (31 * (31 * (31 * (31 * (31 * hs (ob5 (μ (q + 1))) (hk (μ (q + 1)) (hs (μ (q + 1)) (hs (coT (μ (q + 1)) (μ q 2)) 3853 16) 3) ((μ (q + 1)) 3)) 80 + Int64.ofInt (nmT (μ (q + 1)))) + Int64.ofInt (fiT (μ (q + 1)))) + Int64.ofInt (poT (μ (q + 1)))) + bD (shT (μ (q + 1)))) + Int64.ofInt (bF (meT (μ (q + 1))))) + Int64.ofInt (μ q 3)) + Int64.ofInt (μ q 5) = hs (μ (q + 2)) (31 * hd2 (μ (q + 1)) (μ q 2) (μ q 3) + Int64.ofInt (μ q 5)) 0 from rfl] at N0
            refine loop_up (F := fun k => ∀ (ν : Mem) (z : AV), DG q μ ν (hs (μ (q + 2)) (31 * hd2 (μ (q + 1)) (μ q 2) (μ q 3) + Int64.ofInt (μ q 5)) k) → RR X ν 235 [vR q, vI k, z] []) (a := 0) (b := (μ q 5)) B0.1 ?_ ?_ _ _ N0
            · intro ν z N
              show RR X _ _ [vR q, vI ((μ q 5)), z] []
              refine r_iload_n C dX5_digest_235 rfl ?_
              refine r_aload_n C dX5_digest_236 rfl ?_
              refine gf_X5_125 C M1 dX5_digest_237 ?_
              rw [N.1.2.2.1.2.2.2]
              refine r_icmp_ge (tgt := 260) C dX5_digest_240 (by decide) (by omega) (by omega) (fun c240 => ?_) (fun c240 => absurd c240 (by omega))
              refine r_aload_n C dX5_digest_260 rfl ?_
              refine gf_X5_217 C M1 dX5_digest_261 ?_
              exact r_lretr C hF dX5_digest_264 N.2 N.1
            · intro k h0 h1 K2 ν z N
              show RR X _ _ [vR q, vI k, z] []
              refine r_iload_n C dX5_digest_235 rfl ?_
              refine r_aload_n C dX5_digest_236 rfl ?_
              refine gf_X5_125 C M1 dX5_digest_237 ?_
              rw [N.1.2.2.1.2.2.2]
              refine r_icmp_ge (tgt := 260) C dX5_digest_240 (by decide) (by omega) (by omega) (fun c240 => absurd c240 (by omega)) (fun c240 => ?_)
              refine r_aload_n C dX5_digest_243 rfl ?_
              refine r_aload_n C dX5_digest_244 rfl ?_
              refine gf_X5_13 C M1 dX5_digest_245 ?_
              refine r_iload_n C dX5_digest_248 rfl ?_
              refine r_iald C Mt (by omega) (by omega) dX5_digest_249 ?_
              rw [N.1.2.1]
              refine r_i2l C dX5_digest_250 (by have := B1 k h0 h1; omega) ?_
              refine r_runV (fun aH aL aj a1 a2 a3 => run_V C hF.2.2.1 (kX5_mix hM) lm_X5_mix ml_X5_233 im_X5_mix se_X5_mix M1 rfl (Nat.le_of_ble_eq_true rfl) dX5_digest_251 rfl (Nat.le_of_ble_eq_true rfl) a1 a2 a3) ?_
              replace N := DG_m N (Int64.ofInt (μ (q + 2) k))
              refine r_iinc C dX5_digest_254 rfl (by decide) rfl ?_
              refine r_goto (tgt := 235) C dX5_digest_257 (by decide) ?_
              rw [hs_s _ _ h0] at K2
              exact K2 _ _ N
        · intro k h0 h1 K2 ν z N
          show RR X _ _ [vR q, vI k, z] []
          refine r_iload_n C dX5_digest_131 rfl ?_
          refine r_bipush C dX5_digest_132 rfl ?_
          refine r_icmp_ge (tgt := 158) C dX5_digest_134 (by decide) (by omega) (by omega) (fun c134 => absurd c134 (by omega)) (fun c134 => ?_)
          refine r_aload_n C dX5_digest_137 rfl ?_
          refine r_aload_n C dX5_digest_138 rfl ?_
          refine r_iload_n C dX5_digest_139 rfl ?_
          refine r_iconst C dX5_digest_140 ?_
          refine r_idiv C dX5_digest_141 (by omega) (by omega) ?_
          refine r_iload_n C dX5_digest_142 rfl ?_
          refine r_iconst C dX5_digest_143 ?_
          refine r_irem C dX5_digest_144 (by omega) (by omega) ?_
          refine r_runI (fun aH aL aj a1 a2 a3 => run_V C hF.2.2.1 (kX5_ofBin hM (K := K) (by rw [N.1.1]; exact hv) (x := k / 5) (w := k % 5) (by omega) (by omega) (by omega) (by omega)) lm_X5_ofBin ml_X5_168 im_X5_ofBin se_X5_ofBin M1 rfl (Nat.le_of_ble_eq_true rfl) dX5_digest_145 rfl (Nat.le_of_ble_eq_true rfl) a1 a2 a3) ?_
          rw [N.1.1]
          refine r_i2l C dX5_digest_148 (ofB_r hv (by omega) (by omega)) ?_
          refine r_runV (fun aH aL aj a1 a2 a3 => run_V C hF.2.2.1 (kX5_mix hM) lm_X5_mix ml_X5_233 im_X5_mix se_X5_mix M1 rfl (Nat.le_of_ble_eq_true rfl) dX5_digest_149 rfl (Nat.le_of_ble_eq_true rfl) a1 a2 a3) ?_
          replace N := DG_m N (Int64.ofInt (ofB (μ (q + 1)) (k / 5) (k % 5)))
          refine r_iinc C dX5_digest_152 rfl (by decide) rfl ?_
          refine r_goto (tgt := 131) C dX5_digest_155 (by decide) ?_
          rw [hs_s _ _ h0] at K2
          exact K2 _ _ N
      · intro k h0 h1 K2 ν z N
        show RR X _ _ [vR q, vI k, z] []
        refine r_iload_n C dX5_digest_64 rfl ?_
        refine r_aload_n C dX5_digest_65 rfl ?_
        refine gf_X5_7 C M1 dX5_digest_66 ?_
        refine r_iconst C dX5_digest_69 ?_
        refine r_iald C Ms (by omega) (by omega) dX5_digest_70 ?_
        rw [N.1.1]
        refine r_icmp_ge (tgt := 129) C dX5_digest_71 (by decide) (by omega) (by omega) (fun c71 => absurd c71 (by omega)) (fun c71 => ?_)
        refine r_iconst C dX5_digest_74 ?_
        refine r_istore_n C dX5_digest_75 (by decide) rfl ?_
        refine loop_up (F := fun w => ∀ (ν : Mem), DG q μ ν (hs (ofS (μ (q + 1)) k) (hk (μ (q + 1)) (hs (μ (q + 1)) (hs (coT (μ (q + 1)) (μ q 2)) 3853 16) 3) k) w) → RR X ν 76 [vR q, vI k, vI w] []) (a := 0) (b := 6) (by omega) ?_ ?_ _ N
        · intro ν N
          show RR X _ _ [vR q, vI k, vI 6] []
          refine r_iload_n C dX5_digest_76 rfl ?_
          refine r_bipush C dX5_digest_77 rfl ?_
          refine r_icmp_ge (tgt := 99) C dX5_digest_79 (by decide) (by omega) (by omega) (fun c79 => ?_) (fun c79 => absurd c79 (by omega))
          refine r_iconst C dX5_digest_99 ?_
          refine r_istore_n C dX5_digest_100 (by decide) rfl ?_
          refine loop_up (F := fun w => ∀ (ν : Mem), DG q μ ν (hs (woT (μ (q + 1)) k) (hs (ofS (μ (q + 1)) k) (hk (μ (q + 1)) (hs (μ (q + 1)) (hs (coT (μ (q + 1)) (μ q 2)) 3853 16) 3) k) 6) w) → RR X ν 101 [vR q, vI k, vI w] []) (a := 0) (b := 4) (by omega) ?_ ?_ _ N
          · intro ν N
            show RR X _ _ [vR q, vI k, vI 4] []
            refine r_iload_n C dX5_digest_101 rfl ?_
            refine r_iconst C dX5_digest_102 ?_
            refine r_icmp_ge (tgt := 123) C dX5_digest_103 (by decide) (by omega) (by omega) (fun c103 => ?_) (fun c103 => absurd c103 (by omega))
            refine r_iinc C dX5_digest_123 rfl (by decide) rfl ?_
            refine r_goto (tgt := 64) C dX5_digest_126 (by decide) ?_
            rw [hk_s _ _ h0] at K2
            exact K2 _ _ N
          · intro w g0 g1 K3 ν N
            show RR X _ _ [vR q, vI k, vI w] []
            rw [hs_s _ _ g0] at K3
            refine r_iload_n C dX5_digest_101 rfl ?_
            refine r_iconst C dX5_digest_102 ?_
            refine r_icmp_ge (tgt := 123) C dX5_digest_103 (by decide) (by omega) (by omega) (fun c103 => absurd c103 (by omega)) (fun c103 => ?_)
            refine r_aload_n C dX5_digest_106 rfl ?_
            refine r_aload_n C dX5_digest_107 rfl ?_
            refine r_iload_n C dX5_digest_108 rfl ?_
            refine r_iload_n C dX5_digest_109 rfl ?_
            refine r_runIr (fun aH aL aj a1 a2 a3 => run_V C hF.2.2.1 (kX5_without hM (K := K) (by rw [N.1.1]; exact hv) (p := k) (w := w) h0 (by rw [N.1.1]; exact h1) g0 (by omega)) lm_X5_without ml_X5_198 im_X5_without se_X5_without M1 rfl (Nat.le_of_ble_eq_true rfl) dX5_digest_110 rfl (Nat.le_of_ble_eq_true rfl) a1 a2 a3) (fun ν R => ?_)
            rw [N.1.1]
            replace N := DG_U N R
            refine r_i2l C dX5_digest_113 (woT_r hv h0 h1) ?_
            refine r_runV (fun aH aL aj a1 a2 a3 => run_V C hF.2.2.1 (kX5_mix hM) lm_X5_mix ml_X5_233 im_X5_mix se_X5_mix M1 rfl (Nat.le_of_ble_eq_true rfl) dX5_digest_114 rfl (Nat.le_of_ble_eq_true rfl) a1 a2 a3) ?_
            replace N := DG_m N (Int64.ofInt (woT (μ (q + 1)) k w))
            refine r_iinc C dX5_digest_117 rfl (by decide) rfl ?_
            refine r_goto (tgt := 101) C dX5_digest_120 (by decide) ?_
            exact K3 _ N
        · intro w g0 g1 K3 ν N
          show RR X _ _ [vR q, vI k, vI w] []
          rw [hs_s _ _ g0] at K3
          refine r_iload_n C dX5_digest_76 rfl ?_
          refine r_bipush C dX5_digest_77 rfl ?_
          refine r_icmp_ge (tgt := 99) C dX5_digest_79 (by decide) (by omega) (by omega) (fun c79 => absurd c79 (by omega)) (fun c79 => ?_)
          refine r_aload_n C dX5_digest_82 rfl ?_
          refine r_aload_n C dX5_digest_83 rfl ?_
          refine r_iload_n C dX5_digest_84 rfl ?_
          refine r_iload_n C dX5_digest_85 rfl ?_
          refine r_runIr (fun aH aL aj a1 a2 a3 => run_V C hF.2.2.1 (kX5_ofSheet hM (K := K) (by rw [N.1.1]; exact hv) (k := k) (w := w) h0 (by rw [N.1.1]; exact h1) g0 (by omega)) lm_X5_ofSheet ml_X5_162 im_X5_ofSheet se_X5_ofSheet M1 rfl (Nat.le_of_ble_eq_true rfl) dX5_digest_86 rfl (Nat.le_of_ble_eq_true rfl) a1 a2 a3) (fun ν R => ?_)
          rw [N.1.1]
          replace N := DG_U N R
          refine r_i2l C dX5_digest_89 (ofS_r hv h0 h1) ?_
          refine r_runV (fun aH aL aj a1 a2 a3 => run_V C hF.2.2.1 (kX5_mix hM) lm_X5_mix ml_X5_233 im_X5_mix se_X5_mix M1 rfl (Nat.le_of_ble_eq_true rfl) dX5_digest_90 rfl (Nat.le_of_ble_eq_true rfl) a1 a2 a3) ?_
          replace N := DG_m N (Int64.ofInt (ofS (μ (q + 1)) k w))
          refine r_iinc C dX5_digest_93 rfl (by decide) rfl ?_
          refine r_goto (tgt := 76) C dX5_digest_96 (by decide) ?_
          exact K3 _ N
    · intro k h0 h1 K2 ν z N
      show RR X _ _ [vR q, vI k, z] []
      refine r_iload_n C dX5_digest_38 rfl ?_
      refine r_iconst C dX5_digest_39 ?_
      refine r_icmp_ge (tgt := 62) C dX5_digest_40 (by decide) (by omega) (by omega) (fun c40 => absurd c40 (by omega)) (fun c40 => ?_)
      refine r_aload_n C dX5_digest_43 rfl ?_
      refine r_aload_n C dX5_digest_44 rfl ?_
      refine gf_X5_7 C M1 dX5_digest_45 ?_
      refine r_iconst C dX5_digest_48 ?_
      refine r_iload_n C dX5_digest_49 rfl ?_
      refine r_iadd C dX5_digest_50 ?_
      refine r_iald C Ms (by omega) (by omega) dX5_digest_51 ?_
      rw [N.1.1, Int.zero_add]
      refine r_i2l C dX5_digest_52 (by rcases (by omega : k = 0 ∨ k = 1 ∨ k = 2) with e | e | e <;> rw [e] <;> omega) ?_
      refine r_runV (fun aH aL aj a1 a2 a3 => run_V C hF.2.2.1 (kX5_mix hM) lm_X5_mix ml_X5_233 im_X5_mix se_X5_mix M1 rfl (Nat.le_of_ble_eq_true rfl) dX5_digest_53 rfl (Nat.le_of_ble_eq_true rfl) a1 a2 a3) ?_
      replace N := DG_m N (Int64.ofInt ((μ (q + 1)) k))
      refine r_iinc C dX5_digest_56 rfl (by decide) rfl ?_
      refine r_goto (tgt := 38) C dX5_digest_59 (by decide) ?_
      rw [hs_s _ _ h0] at K2
      exact K2 _ _ N
  · intro k h0 h1 K2 ν z N
    show RR X _ _ [vR q, vI k, z] []
    refine r_iload_n C dX5_digest_14 rfl ?_
    refine r_bipush C dX5_digest_15 rfl ?_
    refine r_icmp_ge (tgt := 36) C dX5_digest_17 (by decide) (by omega) (by omega) (fun c17 => absurd c17 (by omega)) (fun c17 => ?_)
    refine r_aload_n C dX5_digest_20 rfl ?_
    refine r_aload_n C dX5_digest_21 rfl ?_
    refine r_iload_n C dX5_digest_22 rfl ?_
    refine r_runIr (fun aH aL aj a1 a2 a3 => run_V C hF.2.2.1 (kX5_counted hM (K := K) (by rw [N.1.1]; exact hv) (w := k) h0 (by omega)) lm_X5_counted ml_X5_189 im_X5_counted se_X5_counted M1 rfl (Nat.le_of_ble_eq_true rfl) dX5_digest_23 rfl (Nat.le_of_ble_eq_true rfl) a1 a2 a3) (fun ν R => ?_)
    rw [N.1.1, N.1.2.2.1.2.1]
    replace N := DG_U N R
    refine r_i2l C dX5_digest_26 (coT_r hv hs1) ?_
    refine r_runV (fun aH aL aj a1 a2 a3 => run_V C hF.2.2.1 (kX5_mix hM) lm_X5_mix ml_X5_233 im_X5_mix se_X5_mix M1 rfl (Nat.le_of_ble_eq_true rfl) dX5_digest_27 rfl (Nat.le_of_ble_eq_true rfl) a1 a2 a3) ?_
    replace N := DG_m N (Int64.ofInt (coT (μ (q + 1)) (μ q 2) k))
    refine r_iinc C dX5_digest_30 rfl (by decide) rfl ?_
    refine r_goto (tgt := 14) C dX5_digest_33 (by decide) ?_
    rw [hs_s _ _ h0] at K2
    exact K2 _ _ N
