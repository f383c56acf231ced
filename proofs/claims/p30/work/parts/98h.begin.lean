/-! the world after the beginning -/
theorem k_toL {X : Cx} {ck cs a : Nat} {L : List Rg} {P : Heap → Prop} {pc : Nat} {ls st : List AV} {V : Wo} {μ : Mem} {r : Nat → Option SE} {j : Nat → Int → Int} (hV : xV X = bsV V a) (hlo : loV V) (ha : woB V ≤ a) (hHp : Hp V (xs X) μ (xs X).heap) (hfin : ∀ H : Heap, lgH (woG V) (xs X) H L → P H → rgH (woG V) (xs X) H (a, r, j))
    (kk : RR (toX X (exV V a r) ck cs) (omM μ a j) pc ls st) : KJ X ck cs L P pc ls st := fun H locs jl h0 h1 h1p h2 h3 => by
  have hG : woG (xV X) = woG V := by rw [hV]; rfl
  have hA : woA (xV X) = fun q => a ≤ q := by rw [hV]; rfl
  rw [hG] at h1
  rw [hA] at h2
  exact kk H locs jl (hp_ex (hp0_at hlo ha hHp h2) (hfin H h1 h1p)) h2 h3
theorem sts_of {V : Wo} {h : Nat} (hb : woB V ≤ h) (hs : ∀ j, j < 12 → woS V (h + j) = rS j) : StS V h :=
  ⟨hb, hs 0 (by decide), ⟨by omega, hs 1 (by decide), hs 2 (by decide), hs 3 (by decide), hs 4 (by decide), hs 5 (by decide), hs 6 (by decide)⟩, hs 7 (by decide), hs 8 (by decide), hs 9 (by decide), hs 10 (by decide), hs 11 (by decide)⟩
theorem rL_at {V : Wo} {N k : Nat} (hk : ∀ j, j < 12 → rP (k + j) = rS j) : ∀ j, j < 12 → woS (exV V N rP) (N + k + j) = rS j := fun j hj => by
  rw [Nat.add_assoc]
  show (if N ≤ N + (k + j) then rP (N + (k + j) - N) else woS V (N + (k + j))) = rS j
  rw [if_pos (Nat.le_add_right N (k + j)), Nat.add_sub_cancel_left]
  exact hk j hj
theorem rL_h : ∀ i, i < 6 → ∀ j, j < 12 → rP (39 + 12 * i + j) = rS j := by decide +kernel
theorem w16_0 : mIl 16 0 = 8 ∧ mIl 16 1 = 5 ∧ mIl 16 2 = 2 ∧ mIl 16 3 = 0 ∧ mIl 16 4 = 0 ∧ mIl 16 5 = -1 := by decide +kernel
theorem w16_a : ∀ i : Int, 0 ≤ i → i < 16 → mIl 16 (6 + i) = 2 ∧ mIl 16 (22 + i) = 0 ∧ mIl 16 (38 + i) = 2 ∧ mIl 16 (54 + i) = 31 := fun i i0 i1 => by
  have h6 : mIl 16 (6 + i) = 2 := by unfold mIl; rw [if_pos (by omega)]
  have h38 : mIl 16 (38 + i) = 2 := by unfold mIl; rw [if_neg (by omega), if_pos (by omega)]
  have h54 : mIl 16 (54 + i) = 31 := by unfold mIl; rw [if_neg (by omega), if_neg (by omega), if_pos (by omega)]
  have h22 : mIl 16 (22 + i) = 0 := by
    unfold mIl
    rw [if_neg (by omega), if_neg (by omega), if_neg (by omega)]
    unfold mI0
    rw [s1_n _ _ (by omega), s1_n _ _ (by omega), s1_n _ _ (by omega), s1_n _ _ (by omega)]
  exact ⟨h6, h22, h38, h54⟩
theorem w16_veW : veW 200 (mIl 16) := by
  obtain ⟨a0, a1, a2, a3, a4, a5⟩ := w16_0
  refine ⟨by decide, by rw [a0]; decide, by rw [a1]; decide, by rw [a2]; decide, by rw [a3]; decide, by rw [a4]; decide, by rw [a5]; decide, fun i i0 i1 => ?_, fun i i0 i1 => by rw [(w16_a i i0 i1).2.2.2]; decide, fun i i0 i1 => by rw [a3] at i1; omega, fun i i0 i1 => by rw [a3] at i1; omega⟩
  by_cases c1 : i < 16
  · rw [(w16_a i i0 c1).1]; decide
  · by_cases c2 : i < 32
    · rw [show 6 + i = 22 + (i - 16) by omega, (w16_a (i - 16) (by omega) (by omega)).2.1]; decide
    · rw [show 6 + i = 38 + (i - 32) by omega, (w16_a (i - 32) (by omega) (by omega)).2.2.1]; decide
set_option maxRecDepth 20000 in
set_option maxHeartbeats 2000000 in
theorem ci_0 {V : Wo} {μ : Mem} {N z : Nat} (hNb : woB V ≤ N) (hz : z < N) (h0 : μ z 0 = 8) (h1 : μ z 1 = 5) (h2 : μ z 2 = 2) : CI (exV V N rP) 200 N (omM μ N (iP μ z N)) (mIl 16) (fun _ => 0) 0 0 0 := by
  obtain ⟨a0, a1, a2, a3, a4, a5⟩ := w16_0
  have hB : ∀ k, woB (exV V N rP) ≤ N + k := fun k => Nat.le_add_right N k
  have om : ∀ k, omM μ N (iP μ z N) (N + k) = iP μ z N k := fun k => om_s μ N k _
  have omz : omM μ N (iP μ z N) N = fun _ => 0 := om_s μ N 0 _
  have St : ∀ k, (∀ j, j < 12 → rP (k + j) = rS j) → StS (exV V N rP) (N + k) := fun k hk => sts_of (hB k) (rL_at hk)
  have Sv : ∀ i : Int, (omM μ N (iP μ z N) (N + 37 + 1) i) = 12 * i + ((N : Int) + 39) := fun i => by
    rw [show N + 37 + 1 = N + 38 from rfl, om]
    show 12 * i + (((N + 37 : Nat) : Int) + 2) = _
    omega
  refine ⟨⟨hB 0, ex_s (o := 0) rfl, St 1 (by decide +kernel), St 13 (by decide +kernel), St 25 (by decide +kernel), ⟨hB 37, ex_s rfl, ex_s (o := 38) rfl⟩, ⟨hB 111, ex_s rfl⟩, ex_s rfl⟩, ⟨w16_veW, ?_⟩, ⟨Or.inl rfl, by rw [omz], fun h => absurd h (by decide)⟩, ⟨by decide, by rw [om]; rfl, ⟨by rw [om]; exact (by decide : (0 : Int) ≤ 0 ∧ (0 : Int) ≤ 6), fun i i0 i1 => ?_⟩, fun i i0 i1 => ?_, fun i j i0 i1 j0 j1 hij => ?_, fun i i0 i1 => absurd i1 (by omega)⟩, ⟨by rw [omz], by decide, fun i i0 i1 => absurd i1 (by omega), fun i i0 i1 => absurd i1 (by omega)⟩, ?_⟩
  · refine ⟨fun i i0 i1 => ?_, ?_, ?_, ?_, fun i i0 i1 => ?_, fun i i0 i1 => ?_, fun i i0 i1 => ?_, fun i i0 i1 => ?_, fun i i0 i1 => by rw [a3] at i1; omega, fun i i0 i1 => by rw [a3] at i1; omega⟩
    · rw [show N + 1 + 11 = N + 12 from rfl, om]
      show μ z i = mIl 16 i
      rcases (show i = 0 ∨ i = 1 ∨ i = 2 by omega) with c | c | c
      · rw [c, h0, a0]
      · rw [c, h1, a1]
      · rw [c, h2, a2]
    · rw [show N + 1 + 1 = N + 2 from rfl, om, a3]; rfl
    · rw [om, a4]; rfl
    · rw [om, a5]; rfl
    · rw [show N + 1 + 7 = N + 8 from rfl, om, (w16_a i i0 i1).1]
      show flA 16 2 (fun _ => 0) i = 2
      unfold flA; rw [if_pos ⟨i0, i1⟩]
    · rw [show N + 1 + 8 = N + 9 from rfl, om, (w16_a i i0 i1).2.1]; rfl
    · rw [show N + 1 + 9 = N + 10 from rfl, om, (w16_a i i0 i1).2.2.1]
      show flA 16 2 (fun _ => 0) i = 2
      unfold flA; rw [if_pos ⟨i0, i1⟩]
    · rw [show N + 1 + 10 = N + 11 from rfl, om, (w16_a i i0 i1).2.2.2]
      show flA 16 31 (fun _ => 0) i = 31
      unfold flA; rw [if_pos ⟨i0, i1⟩]
  · rw [Sv]
    obtain ⟨n, rfl⟩ := Int.eq_ofNat_of_zero_le i0
    have e : (12 * (n : Int) + ((N : Int) + 39)).toNat = N + (39 + 12 * n) := by omega
    refine ⟨by omega, ?_, Or.inl (by rw [e]; omega)⟩
    rw [e]
    exact St _ (rL_h n (by omega))
  · unfold svA
    rw [Sv]
    omega
  · unfold svA
    rw [Sv, Sv]
    omega
  · rw [om]
    exact (by decide : ((0 : Int) ≤ 0 ∧ (0 : Int) < 128) ∧ ((0 : Int) ≤ 0 ∧ (0 : Int) ≤ 19) ∧ ((0 : Int) ≤ 0 ∧ (0 : Int) ≤ 19) ∧ ((0 : Int) ≤ 0 ∧ (0 : Int) ≤ 3) ∧ ((0 : Int) = 0 ∨ (0 : Int) = 1))

theorem mo_T : moP (fun _ => True) := fun _ _ _ _ => trivial
theorem csI : Cs (mIl 16) := fun x x0 x1 => by
  have h := w16_a x x0 x1
  have e : cnX (mIl 16) x = 0 := by
    unfold cnX
    rw [w16_0.2.2.2.1]
    exact cn_0 _
  rw [h.1, h.2.1, h.2.2.1, e]
  rfl
theorem ca_beg {V : Wo} {q : Nat} {μ ν : Mem} (hC : CI V 200 q μ (mIl 16) (fun _ => 0) 0 0 0) (g : CI V 200 q ν (cpV (mIl 16) 0 7 110) (fun _ => 0) 0 1 0 ∧ ∀ r, (r < q ∨ q + 112 < r) → ν r = μ r) : CA V 200 q μ (mIl 16) (mIl 16) 0 [] ν := by
  refine ⟨⟨_, _, g.1, fun j j0 j1 => cpV_lo (by decide) j1, fun j j0 j1 => ?_, stk_nil _ _⟩, g.2⟩
  show cpV (mIl 16) 0 7 110 (110 * 7 + j) = mIl 16 j
  unfold cpV
  rw [if_pos (by omega), show 110 * 7 + j - 110 * 7 + 110 * 0 = j by omega]
set_option maxRecDepth 20000 in
set_option maxHeartbeats 2000000 in
theorem law_begin {X : Cx} {V : Wo} {b L : Nat} {μ : Mem} (C : Ok X RL cL_law 13 11) (hV : xV X = V) (hN : woB V = (xs X).heap.size) (hlo : loV V) (hHp : Hp V (xs X) μ (xs X).heap) (hAO : va_AO RX3 (xs X)) (hfl : (xl X).flags = flags0) (hc : 600172 ≤ (xR X).cells) (hs : 7300668 ≤ (xR X).slots)
    (Sb : woS V b = some (.inr (0, L))) (S1 : woS V (woZ V).1 = some (.inr (0, 3))) (S2 : woS V (woZ V).2.1 = some (.inr (0, 3))) (S3 : woS V (woZ V).2.2 = some (.inr (0, 3))) (hz : ∀ x : Int, 0 ≤ x → x < 3 → μ (woZ V).1 x = sLo x ∧ μ (woZ V).2.1 x = sUp x) (h0 : μ (woZ V).2.2 0 = 8) (h1 : μ (woZ V).2.2 1 = 5) (h2 : μ (woZ V).2.2 2 = 2) (hLL : L ≤ 260)
    (hend : ∀ (k n : Nat) (ν : Mem) (ls : List AV), k ≤ 600172 → n ≤ 7300668 → RR (toX X (exV V (woB V) rP) k n) ν 284 ls [vI 1]) : KJ X 0 0 [] (fun _ => True) 0 [vR b, vU, vU, vU, vU, vU, vU, vU, vU, vU, vU, vU, vU] [] := by
  have hV' : xV X = bsV V (woB V) := hV
  have hbN : b < woB V := hlo _ _ Sb
  have hz1 : (woZ V).1 < woB V := hlo _ _ S1
  have hz2 : (woZ V).2.1 < woB V := hlo _ _ S2
  have hz3 : (woZ V).2.2 < woB V := hlo _ _ S3
  refine k_mk (V := V) (μ := μ) (b := woB V) (a := woB V) (ci := 4) (N := 8) (k := 112) (n := 1702) (d' := 4) (Cn := RX4) (T := TX4) (fs := fs0X4) (r := rP) (i := iP μ (woZ V).2.2) C hV' hlo (Nat.le_refl _) hfl hHp hAO mo_T (by omega) (by omega) rfl ingX4 tyX4 tyX4_ok fs0X4_ok cl_L_14 in_X4 ini_X4 lm_X4_init rfl im_X4_init (Or.inl ml_L_88) (by decide) dL_law_0 dL_law_3 dL_law_4 (by omega) (by omega) (Nat.le_of_ble_eq_true rfl) (kX4_init hlo S3) (by decide) ?_
  refine k_astore_n C dL_law_7 (by decide) rfl ?_
  refine k_toL (r := rP) (j := iP μ (woZ V).2.2 (woB V)) hV' hlo (Nat.le_refl _) hHp (fun H h1 _ o e he => ?_) ?_
  · exact h1 _ (.head _) o e he
  have C2 : Ok (toX X (exV V (woB V) rP) (0 + 1 + 112) (0 + 8 + 1702)) RL cL_law 13 11 := ok_toX C hV' (by omega) (by omega)
  have hCI := ci_0 (V := V) (Nat.le_refl _) hz3 h0 h1 h2
  have hF : True ∧ True ∧ (xl (toX X (exV V (woB V) rP) (0 + 1 + 112) (0 + 8 + 1702))).flags = flags0 ∧ True := ⟨trivial, trivial, hfl, trivial⟩
  have hq : woS (xV (toX X (exV V (woB V) rP) (0 + 1 + 112) (0 + 8 + 1702))) (woB V) = some (.inl 4) := hCI.1.2.1
  have hb2 : woS (xV (toX X (exV V (woB V) rP) (0 + 1 + 112) (0 + 8 + 1702))) b = some (.inr (0, L)) := (ex_b hbN).trans Sb
  have hZ : ZS (xV (toX X (exV V (woB V) rP) (0 + 1 + 112) (0 + 8 + 1702))) (omM μ (woB V) (iP μ (woZ V).2.2 (woB V))) := by
    refine ⟨⟨(ex_b hz1).trans S1, hz1⟩, ⟨(ex_b hz2).trans S2, hz2⟩, fun x x0 x3 => ?_⟩
    have e1 : omM μ (woB V) (iP μ (woZ V).2.2 (woB V)) (woZ V).1 = μ (woZ V).1 := om_b _ _ _ _ hz1
    have e2 : omM μ (woB V) (iP μ (woZ V).2.2 (woB V)) (woZ V).2.1 = μ (woZ V).2.1 := om_b _ _ _ _ hz2
    show omM μ (woB V) (iP μ (woZ V).2.2 (woB V)) (woZ V).1 x = sLo x ∧ omM μ (woB V) (iP μ (woZ V).2.2 (woB V)) (woZ V).2.1 x = sUp x
    rw [e1, e2]
    exact hz x x0 x3
  have hZ1 : (woZ (xV (toX X (exV V (woB V) rP) (0 + 1 + 112) (0 + 8 + 1702)))).1 < woB V ∧ (woZ (xV (toX X (exV V (woB V) rP) (0 + 1 + 112) (0 + 8 + 1702)))).2.1 < woB V := ⟨hz1, hz2⟩
  have hend := fun ν ls => hend (0 + 1 + 112) (0 + 8 + 1702) ν ls (by decide) (by decide)
  show RR _ _ 8 [vR b, vR (woB V), vU, vU, vU, vU, vU, vU, vU, vU, vU, vU, vU] []
  have C := C2
  refine r_aload_n C dL_law_8 rfl ?_
  refine r_runIr (fun aH aL aj a1 a2 a3 => run_V C hF.2.2.1 (kX4_keep_0 hCI) lm_X4_keep ml_L_89 im_X4_keep se_X4_keep hq rfl (Nat.le_of_ble_eq_true rfl) dL_law_9 rfl (Nat.le_of_ble_eq_true rfl) a1 a2 a3) (fun ν R => ?_)
  rw [w16_0.2.2.2.1]
  have N := ca_beg hCI R
  refine r_if_ne (tgt := 26) C dL_law_12 (by decide) (by omega) (fun c12 => absurd c12 (by omega)) (fun c12 => ?_)
  refine r_aload_n C dL_law_15 rfl ?_
  refine r_runIr (fun aH aL aj a1 a2 a3 => run_S C hF.2.2.1 (kL_holds_c N csI) lm_L_holds ml_L_92 sm_L_holds (Nat.le_of_ble_eq_true rfl) dL_law_16 rfl (Nat.le_of_ble_eq_true rfl) a1 a2 a3) (fun ν N => ?_)
  refine r_if_eq (tgt := 26) C dL_law_19 (by decide) (by omega) (fun c19 => absurd c19 (by omega)) (fun c19 => ?_)
  refine r_iconst C dL_law_22 ?_
  refine r_goto (tgt := 27) C dL_law_23 (by decide) ?_
  refine r_istore_n C dL_law_27 (by decide) rfl ?_
  refine r_iconst C dL_law_28 ?_
  refine r_istore_n C dL_law_29 (by decide) rfl ?_
  exact law_loop C2 hF hb2 (by omega) hZ hZ1 hend (ca_mono N (by decide) (by decide)) csI csI
