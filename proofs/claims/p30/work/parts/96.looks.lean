/-! the law's small helpers, and its look at everything -/
set_option maxRecDepth 100000 in
theorem kl_L_9 : Cond.constantLong RL 9 (139) ∈ lwg := lwg_of (List.mem_of_getElem? (i := 423) rfl) rfl
set_option maxRecDepth 100000 in
theorem kl_L_11 : Cond.constantLong RL 11 (31) ∈ lwg := lwg_of (List.mem_of_getElem? (i := 424) rfl) rfl
theorem iAnd_r (x : Int) {y : Int} (m : Nat) (hy : (Int32.ofInt y).toBitVec.msb = false) (hn : (Int32.ofInt y).toBitVec.toNat = m) : 0 ≤ iAnd x y ∧ iAnd x y ≤ m := by
  have h : ((Int32.ofInt x).toBitVec &&& (Int32.ofInt y).toBitVec).msb = false := by rw [BitVec.msb_and, hy, Bool.and_false]
  have e : iAnd x y = (((Int32.ofInt x).toBitVec &&& (Int32.ofInt y).toBitVec).toNat : Int) := by
    unfold iAnd
    show (Int32.ofInt x &&& Int32.ofInt y).toBitVec.toInt = _
    rw [Int32.toBitVec_and]
    exact BitVec.toInt_eq_toNat_of_msb h
  rw [e, BitVec.toNat_and]
  have := Nat.and_le_right (n := (Int32.ofInt x).toBitVec.toNat) (m := (Int32.ofInt y).toBitVec.toNat)
  omega
theorem and3 (x : Int) : 0 ≤ iAnd x 3 ∧ iAnd x 3 ≤ 3 := iAnd_r x 3 (by decide +kernel) (by decide +kernel)
theorem andM (x : Int) : 0 ≤ iAnd x 2147483647 ∧ iAnd x 2147483647 ≤ 2147483647 := iAnd_r x 2147483647 (by decide +kernel) (by decide +kernel)
def upT (v n : Int) : Int := iAnd v 2147483647 % n
theorem upT_r (v : Int) {n : Int} (h : 0 < n) : 0 ≤ upT v n ∧ upT v n < n := ⟨Int.emod_nonneg _ (by omega), Int.emod_lt_of_pos _ h⟩
def ceT (B : Int → Int) (L k : Int) : Int := if k < L then B k else 1812433253 * (k + 347)
/-- the hash of everything -/
def l2N (u : Int → Int) (h : Int64) : Nat → Int64
  | 0 => h
  | n + 1 => 31 * (31 * l2N u h n + Int64.ofInt (ofS u n 0)) + Int64.ofInt (ofS u n 1)
def l2 (u : Int → Int) (h : Int64) (n : Int) : Int64 := l2N u h n.toNat
theorem l2_0 (u : Int → Int) (h : Int64) : l2 u h 0 = h := rfl
theorem l2_s (u : Int → Int) (h : Int64) {n : Int} (hn : 0 ≤ n) : l2 u h (n + 1) = 31 * (31 * l2 u h n + Int64.ofInt (ofS u n 0)) + Int64.ofInt (ofS u n 1) := by
  unfold l2
  rw [show (n + 1).toNat = n.toNat + 1 by omega]
  show 31 * (31 * l2N u h n.toNat + Int64.ofInt (ofS u ((n.toNat : Nat) : Int) 0)) + Int64.ofInt (ofS u ((n.toNat : Nat) : Int) 1) = _
  rw [Int.toNat_of_nonneg hn]
def lkA (u : Int → Int) : Int64 := hs (fun a => coT u 0 a) 139 15
def lkB (u : Int → Int) : Int64 := l2 u (lkA u) (u 3)
def lkC (u : Int → Int) : Int64 := hs (fun k => ofB u (k / 5) (k % 5)) (lkB u) 80
def lkH (u : Int → Int) : Int64 := 31 * (31 * (31 * lkC u + Int64.ofInt (u 0)) + Int64.ofInt (u 1)) + Int64.ofInt (u 2)
theorem coT_sv {u : Int → Int} {sv a : Int} (h0 : 0 ≤ a) (h1 : a < 15) : coT u sv a = coT u 0 a := by
  unfold coT
  by_cases c0 : a = 0
  · rw [if_pos c0, if_pos c0]
  rw [if_neg c0, if_neg c0]
  by_cases c1 : a = 1
  · rw [if_pos c1, if_pos c1]
  rw [if_neg c1, if_neg c1]
  by_cases c2 : a = 2
  · rw [if_pos c2, if_pos c2]
  rw [if_neg c2, if_neg c2]
  by_cases c3 : a = 3
  · rw [if_pos c3, if_pos c3]
  rw [if_neg c3, if_neg c3]
  by_cases c4 : a = 4
  · rw [if_pos c4, if_pos c4]
  rw [if_neg c4, if_neg c4]
  by_cases c5 : a = 5
  · rw [if_pos c5, if_pos c5]
  rw [if_neg c5, if_neg c5]
  by_cases c6 : a = 6 ∨ a = 7
  · rw [if_pos c6, if_pos c6]
  rw [if_neg c6, if_neg c6]
  by_cases c8 : a = 8
  · rw [if_pos c8, if_pos c8]
  rw [if_neg c8, if_neg c8]
  by_cases c9 : a = 9
  · rw [if_pos c9, if_pos c9]
  rw [if_neg c9, if_neg c9]
  by_cases c10 : a = 10
  · rw [if_pos c10, if_pos c10]
  rw [if_neg c10, if_neg c10]
  by_cases c11 : a = 11
  · rw [if_pos c11, if_pos c11]
  rw [if_neg c11, if_neg c11]
  by_cases c12 : a = 12
  · rw [if_pos c12, if_pos c12]
  rw [if_neg c12, if_neg c12]
  by_cases c13 : a = 13
  · rw [if_pos c13, if_pos c13]
  rw [if_neg c13, if_neg c13]
  by_cases c14 : a = 14
  · rw [if_pos c14, if_pos c14]
  rw [if_neg c14, if_neg c14]
  omega
theorem coT_0 (v : Int → Int) (sv : Int) : coT v sv 0 = v 3 := rfl
theorem coT_1 (v : Int → Int) (sv : Int) : coT v sv 1 = brks (v 1) (vN v) (vD v) (v 3) := rfl
theorem coT_2 (v : Int → Int) (sv : Int) : coT v sv 2 = flt (v 0) (vN v) (vD v) (v 3) := rfl
theorem coT_3 (v : Int → Int) (sv : Int) : coT v sv 3 = plf (v 0) (vN v) (vD v) (v 3) := rfl
theorem coT_4 (v : Int → Int) (sv : Int) : coT v sv 4 = misS (v 0) (vN v) (v 3) := rfl
theorem coT_5 (v : Int → Int) (sv : Int) : coT v sv 5 = b01 (0 < flt (v 0) (vN v) (vD v) (v 3) ∧ brks (v 1) (vN v) (vD v) (v 3) = 0) := rfl
theorem coT_6 (v : Int → Int) (sv : Int) : coT v sv 6 = v 3 - lis (vN v) (v 3) := rfl
theorem coT_7 (v : Int → Int) (sv : Int) : coT v sv 7 = v 3 - lis (vN v) (v 3) := rfl
theorem coT_8 (v : Int → Int) (sv : Int) : coT v sv 8 = sm (fun k => cn (fun e => vN v k < vN v e) k) (v 3) := rfl
theorem coT_9 (v : Int → Int) (sv : Int) : coT v sv 9 = stS (vH v) (vN v) (v 3) := rfl
theorem coT_10 (v : Int → Int) (sv : Int) : coT v sv 10 = thS (v 2) (vH v) (vN v) (v 3) := rfl
theorem coT_11 (v : Int → Int) (sv : Int) : coT v sv 11 = lsS (vH v) (vN v) (v 3) := rfl
theorem coT_12 (v : Int → Int) (sv : Int) : coT v sv 12 = v 4 := rfl
theorem coT_13 (v : Int → Int) (sv : Int) : coT v sv 13 = sm (fun k => v (22 + k)) 16 := rfl
theorem coT_14 (v : Int → Int) (sv : Int) : coT v sv 14 = v 5 := rfl
theorem coT_15 (v : Int → Int) (sv : Int) : coT v sv 15 = sv := rfl
theorem ofS_0 (v : Int → Int) (k : Int) : ofS v k 0 = v (70 + k) := rfl
theorem ofS_1 (v : Int → Int) (k : Int) : ofS v k 1 = v (90 + k) := rfl
theorem ofS_2 (v : Int → Int) (k : Int) : ofS v k 2 = mk (v 1) (v (70 + k)) (v (90 + k)) := rfl
theorem ofS_3 (v : Int → Int) (k : Int) : ofS v k 3 = b01 (brk (v 1) (vN v) (vD v) k) := rfl
theorem ofS_4 (v : Int → Int) (k : Int) : ofS v k 4 = stA (vH v) (vN v) k := rfl
theorem ofS_5 (v : Int → Int) (k : Int) : ofS v k 5 = cn (fun e => vN v k < vN v e) k := rfl
theorem ofB_0 (v : Int → Int) (x : Int) : ofB v x 0 = v (6 + x) := rfl
theorem ofB_1 (v : Int → Int) (x : Int) : ofB v x 1 = cnX v x := rfl
theorem ofB_2 (v : Int → Int) (x : Int) : ofB v x 2 = v (22 + x) := rfl
theorem ofB_3 (v : Int → Int) (x : Int) : ofB v x 3 = v (38 + x) := rfl
theorem ofB_4 (v : Int → Int) (x : Int) : ofB v x 4 = v (54 + x) := rfl
theorem r_skq {X : Cx} {ν : Mem} {pc : Nat} {h h1 : Int64} {x a b : AV} (e : h = h1) (k : RR X ν pc [x, vV (.long h1), a, b] []) : RR X ν pc [x, vV (.long h), a, b] [] := by rw [e]; exact k
set_option maxRecDepth 20000 in
set_option maxHeartbeats 2000000 in
theorem kL_cell_c {V : Wo} {μ : Mem} {b L : Nat} {k : Int} (hb : woS V b = some (.inr (0, L))) (hk : 0 ≤ k ∧ k < 1000) (hL : L < 1000) : Con V 0 yL_cell cL_cell 2 (some .int) [vR b, vI k] (μ) (QI V (ceT (μ b) L k) (μ)) := by
  refine con_of (ls0 := [vR b, vI k]) (by decide +kernel) rfl (Nat.le_of_ble_eq_true rfl) (Nat.le_of_ble_eq_true rfl) (fun X hV C hF => ?_)
  subst hV
  have C : Ok X RL cL_cell 2 0 := C
  refine r_iload_n C dL_cell_0 rfl ?_
  refine r_aload_n C dL_cell_1 rfl ?_
  refine r_alen C hb dL_cell_2 ?_
  refine r_icmp_ge (tgt := 12) C dL_cell_3 (by decide) (by omega) (by omega) (fun c3 => ?_) (fun c3 => ?_)
  · skip
    refine r_ldc (x := 1812433253) C  kc_L_7 rfl dL_cell_12 ?_
    refine r_iload_n C dL_cell_14 rfl ?_
    refine r_sipush C dL_cell_15 rfl ?_
    refine r_iadd C dL_cell_18 ?_
    refine r_imul C dL_cell_19 ?_
    exact r_iret C hF dL_cell_20 (by unfold ceT; rw [if_neg (by omega)]) rfl
  · skip
    refine r_aload_n C dL_cell_6 rfl ?_
    refine r_iload_n C dL_cell_7 rfl ?_
    refine r_iald C hb (by omega) (by omega) dL_cell_8 ?_
    refine r_goto (tgt := 20) C dL_cell_9 (by decide) ?_
    exact r_iret C hF dL_cell_20 (by unfold ceT; rw [if_pos (by omega)]) rfl
set_option maxRecDepth 20000 in
set_option maxHeartbeats 2000000 in
theorem kL_up_c {V : Wo} {μ : Mem} {v n : Int} (hn : 0 < n ∧ n < 1000) : Con V 0 yL_up cL_up 2 (some .int) [vI v, vI n] (μ) (QI V (upT v n) (μ)) := by
  refine con_of (ls0 := [vI v, vI n]) (by decide +kernel) rfl (Nat.le_of_ble_eq_true rfl) (Nat.le_of_ble_eq_true rfl) (fun X hV C hF => ?_)
  subst hV
  have C : Ok X RL cL_up 2 0 := C
  refine r_iload_n C dL_up_0 rfl ?_
  refine r_ldc (x := 2147483647) C  kc_L_8 rfl dL_up_1 ?_
  refine r_iand C dL_up_3 ?_
  refine r_iload_n C dL_up_4 rfl ?_
  refine r_irem C dL_up_5 (by have := andM v; omega) (by omega) ?_
  exact r_iret C hF dL_up_6 rfl rfl
set_option maxRecDepth 20000 in
set_option maxHeartbeats 2000000 in
theorem kL_looks_c {V : Wo} {μ : Mem} {q : Nat} {K : Int} {μ0 : Mem} {u z : Int → Int} {sv : Int} {st : List (Int → Int)} (N : CA V K q μ0 u z sv st μ) : Con V 6 yL_looks cL_looks 4 (some .long) [vR q] (μ) (QLr V (lkH u) (CA V K q μ0 u z sv st)) := by
  refine con_of (ls0 := [vR q, vU, vU, vU]) (by decide +kernel) rfl (Nat.le_of_ble_eq_true rfl) (Nat.le_of_ble_eq_true rfl) (fun X hV C hF => ?_)
  subst hV
  have C : Ok X RL cL_looks 4 6 := C
  have hv := ca_u N
  have h3 := veW_3 hv
  have hsv := ca_s N
  have hv0 := hv.2.1
  have hv1 := hv.2.2.1
  have hv2 := hv.2.2.2.1
  refine r_ldc2 C dL_looks_0 kl_L_9  ?_
  refine r_lstore_n C dL_looks_3 (by decide) rfl ?_
  refine r_iconst C dL_looks_4 ?_
  refine r_istore_n C dL_looks_5 (by decide) rfl ?_
  refine r_skq (h1 := hs (fun a => coT u 0 a) 139 0) (hs_0 _ _).symm ?_
  refine loop_up (F := fun k => ∀ (ν : Mem), CA (xV X) K q μ0 u z sv st ν → RR X ν 6 [vR q, vV (.long (hs (fun a => coT u 0 a) 139 k)), vU, vI k] []) (a := 0) (b := 15) (by omega) ?_ ?_ _ N
  · intro ν N
    show RR X _ _ [vR q, vV (.long (hs (fun a => coT u 0 a) 139 15)), vU, vI (15)] []
    refine r_iload_n C dL_looks_6 rfl ?_
    refine r_bipush C dL_looks_7 rfl ?_
    refine r_icmp_ge (tgt := 31) C dL_looks_9 (by decide) (by omega) (by omega) (fun c9 => ?_) (fun c9 => absurd c9 (by omega))
    refine r_iconst C dL_looks_31 ?_
    refine r_istore_n C dL_looks_32 (by decide) rfl ?_
    refine r_skq (h1 := l2 u (lkA u) 0) (l2_0 _ _).symm ?_
    refine loop_up (F := fun k => ∀ (ν : Mem), CA (xV X) K q μ0 u z sv st ν → RR X ν 33 [vR q, vV (.long (l2 u (lkA u) k)), vU, vI k] []) (a := 0) (b := (u 3)) h3.1 ?_ ?_ _ N
    · intro ν N
      show RR X _ _ [vR q, vV (.long (l2 u (lkA u) (u 3))), vU, vI ((u 3))] []
      refine r_iload_n C dL_looks_33 rfl ?_
      refine r_aload_n C dL_looks_34 rfl ?_
      refine r_iconst C dL_looks_35 ?_
      refine r_runIr (fun aH aL aj a1 a2 a3 => run_V C hF.2.2.1 (kA_count N (by omega)) lm_X4_count ml_L_13 im_X4_count se_X4_count (ca_q N) rfl (Nat.le_of_ble_eq_true rfl) dL_looks_36 rfl (Nat.le_of_ble_eq_true rfl) a1 a2 a3) (fun ν N => ?_)
      rw [coT_0]
      refine r_icmp_ge (tgt := 74) C dL_looks_39 (by decide) (by omega) (by omega) (fun c39 => ?_) (fun c39 => absurd c39 (by omega))
      refine r_iconst C dL_looks_74 ?_
      refine r_istore_n C dL_looks_75 (by decide) rfl ?_
      refine r_skq (h1 := hs (fun k => ofB u (k / 5) (k % 5)) (lkB u) 0) (hs_0 _ _).symm ?_
      refine loop_up (F := fun k => ∀ (ν : Mem), CA (xV X) K q μ0 u z sv st ν → RR X ν 76 [vR q, vV (.long (hs (fun k => ofB u (k / 5) (k % 5)) (lkB u) k)), vU, vI k] []) (a := 0) (b := 80) (by omega) ?_ ?_ _ N
      · intro ν N
        show RR X _ _ [vR q, vV (.long (hs (fun k => ofB u (k / 5) (k % 5)) (lkB u) 80)), vU, vI (80)] []
        refine r_iload_n C dL_looks_76 rfl ?_
        refine r_bipush C dL_looks_77 rfl ?_
        refine r_icmp_ge (tgt := 106) C dL_looks_79 (by decide) (by omega) (by omega) (fun c79 => ?_) (fun c79 => absurd c79 (by omega))
        refine r_ldc2 C dL_looks_106 kl_L_11  ?_
        refine r_ldc2 C dL_looks_109 kl_L_11  ?_
        refine r_ldc2 C dL_looks_112 kl_L_11  ?_
        refine r_lload_n C dL_looks_115 rfl ?_
        refine r_lmul C dL_looks_116 ?_
        refine r_aload_n C dL_looks_117 rfl ?_
        refine r_iconst C dL_looks_118 ?_
        refine r_runIr (fun aH aL aj a1 a2 a3 => run_V C hF.2.2.1 (kA_setting N (by omega)) lm_X4_setting ml_L_26 im_X4_setting se_X4_setting (ca_q N) rfl (Nat.le_of_ble_eq_true rfl) dL_looks_119 rfl (Nat.le_of_ble_eq_true rfl) a1 a2 a3) (fun ν N => ?_)
        refine r_i2l C dL_looks_122 (by omega) ?_
        refine r_ladd C dL_looks_123 ?_
        refine r_lmul C dL_looks_124 ?_
        refine r_aload_n C dL_looks_125 rfl ?_
        refine r_iconst C dL_looks_126 ?_
        refine r_runIr (fun aH aL aj a1 a2 a3 => run_V C hF.2.2.1 (kA_setting N (by omega)) lm_X4_setting ml_L_26 im_X4_setting se_X4_setting (ca_q N) rfl (Nat.le_of_ble_eq_true rfl) dL_looks_127 rfl (Nat.le_of_ble_eq_true rfl) a1 a2 a3) (fun ν N => ?_)
        refine r_i2l C dL_looks_130 (by omega) ?_
        refine r_ladd C dL_looks_131 ?_
        refine r_lmul C dL_looks_132 ?_
        refine r_aload_n C dL_looks_133 rfl ?_
        refine r_iconst C dL_looks_134 ?_
        refine r_runIr (fun aH aL aj a1 a2 a3 => run_V C hF.2.2.1 (kA_setting N (by omega)) lm_X4_setting ml_L_26 im_X4_setting se_X4_setting (ca_q N) rfl (Nat.le_of_ble_eq_true rfl) dL_looks_135 rfl (Nat.le_of_ble_eq_true rfl) a1 a2 a3) (fun ν N => ?_)
        refine r_i2l C dL_looks_138 (by omega) ?_
        refine r_ladd C dL_looks_139 ?_
        exact r_lretr C hF dL_looks_140 rfl N
      · intro k h0 h1 K2 ν N
        show RR X _ _ [vR q, vV (.long (hs (fun k => ofB u (k / 5) (k % 5)) (lkB u) k)), vU, vI k] []
        refine r_iload_n C dL_looks_76 rfl ?_
        refine r_bipush C dL_looks_77 rfl ?_
        refine r_icmp_ge (tgt := 106) C dL_looks_79 (by decide) (by omega) (by omega) (fun c79 => absurd c79 (by omega)) (fun c79 => ?_)
        refine r_ldc2 C dL_looks_82 kl_L_11  ?_
        refine r_lload_n C dL_looks_85 rfl ?_
        refine r_lmul C dL_looks_86 ?_
        refine r_aload_n C dL_looks_87 rfl ?_
        refine r_iload_n C dL_looks_88 rfl ?_
        refine r_iconst C dL_looks_89 ?_
        refine r_idiv C dL_looks_90 (by omega) (by omega) ?_
        refine r_iload_n C dL_looks_91 rfl ?_
        refine r_iconst C dL_looks_92 ?_
        refine r_irem C dL_looks_93 (by omega) (by omega) ?_
        refine r_runIr (fun aH aL aj a1 a2 a3 => run_V C hF.2.2.1 (kA_bin N (by omega) (by omega)) lm_X4_bin ml_L_23 im_X4_bin se_X4_bin (ca_q N) rfl (Nat.le_of_ble_eq_true rfl) dL_looks_94 rfl (Nat.le_of_ble_eq_true rfl) a1 a2 a3) (fun ν N => ?_)
        refine r_i2l C dL_looks_97 (ofB_r hv (by omega) (by omega)) ?_
        refine r_ladd C dL_looks_98 ?_
        refine r_lstore_n C dL_looks_99 (by decide) rfl ?_
        refine r_iinc C dL_looks_100 rfl (by decide) rfl ?_
        refine r_goto (tgt := 76) C dL_looks_103 (by decide) ?_
        refine r_skq ?_ (K2 _ N)
        rw [hs_s _ _ h0]
    · intro k h0 h1 K2 ν N
      show RR X _ _ [vR q, vV (.long (l2 u (lkA u) k)), vU, vI k] []
      refine r_iload_n C dL_looks_33 rfl ?_
      refine r_aload_n C dL_looks_34 rfl ?_
      refine r_iconst C dL_looks_35 ?_
      refine r_runIr (fun aH aL aj a1 a2 a3 => run_V C hF.2.2.1 (kA_count N (by omega)) lm_X4_count ml_L_13 im_X4_count se_X4_count (ca_q N) rfl (Nat.le_of_ble_eq_true rfl) dL_looks_36 rfl (Nat.le_of_ble_eq_true rfl) a1 a2 a3) (fun ν N => ?_)
      rw [coT_0]
      refine r_icmp_ge (tgt := 74) C dL_looks_39 (by decide) (by omega) (by omega) (fun c39 => absurd c39 (by omega)) (fun c39 => ?_)
      refine r_ldc2 C dL_looks_42 kl_L_11  ?_
      refine r_ldc2 C dL_looks_45 kl_L_11  ?_
      refine r_lload_n C dL_looks_48 rfl ?_
      refine r_lmul C dL_looks_49 ?_
      refine r_aload_n C dL_looks_50 rfl ?_
      refine r_iload_n C dL_looks_51 rfl ?_
      refine r_iconst C dL_looks_52 ?_
      refine r_runIr (fun aH aL aj a1 a2 a3 => run_V C hF.2.2.1 (kA_sheet N (by omega) (by omega)) lm_X4_sheet ml_L_19 im_X4_sheet se_X4_sheet (ca_q N) rfl (Nat.le_of_ble_eq_true rfl) dL_looks_53 rfl (Nat.le_of_ble_eq_true rfl) a1 a2 a3) (fun ν N => ?_)
      refine r_i2l C dL_looks_56 (ofS_r hv h0 h1) ?_
      refine r_ladd C dL_looks_57 ?_
      refine r_lmul C dL_looks_58 ?_
      refine r_aload_n C dL_looks_59 rfl ?_
      refine r_iload_n C dL_looks_60 rfl ?_
      refine r_iconst C dL_looks_61 ?_
      refine r_runIr (fun aH aL aj a1 a2 a3 => run_V C hF.2.2.1 (kA_sheet N (by omega) (by omega)) lm_X4_sheet ml_L_19 im_X4_sheet se_X4_sheet (ca_q N) rfl (Nat.le_of_ble_eq_true rfl) dL_looks_62 rfl (Nat.le_of_ble_eq_true rfl) a1 a2 a3) (fun ν N => ?_)
      refine r_i2l C dL_looks_65 (ofS_r hv h0 h1) ?_
      refine r_ladd C dL_looks_66 ?_
      refine r_lstore_n C dL_looks_67 (by decide) rfl ?_
      refine r_iinc C dL_looks_68 rfl (by decide) rfl ?_
      refine r_goto (tgt := 33) C dL_looks_71 (by decide) ?_
      refine r_skq ?_ (K2 _ N)
      rw [l2_s _ _ h0]
  · intro k h0 h1 K2 ν N
    show RR X _ _ [vR q, vV (.long (hs (fun a => coT u 0 a) 139 k)), vU, vI k] []
    refine r_iload_n C dL_looks_6 rfl ?_
    refine r_bipush C dL_looks_7 rfl ?_
    refine r_icmp_ge (tgt := 31) C dL_looks_9 (by decide) (by omega) (by omega) (fun c9 => absurd c9 (by omega)) (fun c9 => ?_)
    refine r_ldc2 C dL_looks_12 kl_L_11  ?_
    refine r_lload_n C dL_looks_15 rfl ?_
    refine r_lmul C dL_looks_16 ?_
    refine r_aload_n C dL_looks_17 rfl ?_
    refine r_iload_n C dL_looks_18 rfl ?_
    refine r_runIr (fun aH aL aj a1 a2 a3 => run_V C hF.2.2.1 (kA_count N (by omega)) lm_X4_count ml_L_13 im_X4_count se_X4_count (ca_q N) rfl (Nat.le_of_ble_eq_true rfl) dL_looks_19 rfl (Nat.le_of_ble_eq_true rfl) a1 a2 a3) (fun ν N => ?_)
    refine r_i2l C dL_looks_22 (coT_r hv hsv) ?_
    refine r_ladd C dL_looks_23 ?_
    refine r_lstore_n C dL_looks_24 (by decide) rfl ?_
    refine r_iinc C dL_looks_25 rfl (by decide) rfl ?_
    refine r_goto (tgt := 6) C dL_looks_28 (by decide) ?_
    refine r_skq ?_ (K2 _ N)
    rw [hs_s _ _ h0, coT_sv h0 h1]
