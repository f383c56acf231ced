/-! constructors -/
def rB : Nat → Option SE
  | 0 => some (.inl 0)
  | 1 => some (.inr (0, 20))
  | 2 => some (.inr (0, 20))
  | 3 => some (.inr (0, 20))
  | 4 => some (.inr (0, 20))
  | 5 => some (.inr (0, 20))
  | _ => none
def rS : Nat → Option SE
  | 0 => some (.inl 3)
  | 1 => some (.inl 0)
  | 2 => some (.inr (0, 20))
  | 3 => some (.inr (0, 20))
  | 4 => some (.inr (0, 20))
  | 5 => some (.inr (0, 20))
  | 6 => some (.inr (0, 20))
  | 7 => some (.inr (0, 16))
  | 8 => some (.inr (0, 16))
  | 9 => some (.inr (0, 16))
  | 10 => some (.inr (0, 16))
  | 11 => some (.inr (0, 3))
  | _ => none
def fs0X0 : List Value := [.null, .null, i5 0, .null, .null, .null]
def fs0X1 : List Value := [.null, i5 0]
def fs0X2 : List Value := [i5 0, i5 0, i5 0, i5 0, i5 0]
def fs0X3 : List Value := [.null, .null, .null, .null, .null, .null, i5 0, i5 0]
def fs0X4 : List Value := [.null, .null, .null, .null, .null, .null, i5 0, i5 0]
theorem fs0X0_ok : ∀ j, j < 6 → defaultValue (tyX0 j) = vp_V fs0X0 j := by decide +kernel
theorem fs0X1_ok : ∀ j, j < 2 → defaultValue (tyX1 j) = vp_V fs0X1 j := by decide +kernel
theorem fs0X2_ok : ∀ j, j < 5 → defaultValue (tyX2 j) = vp_V fs0X2 j := by decide +kernel
theorem fs0X3_ok : ∀ j, j < 8 → defaultValue (tyX3 j) = vp_V fs0X3 j := by decide +kernel
theorem fs0X4_ok : ∀ j, j < 8 → defaultValue (tyX4 j) = vp_V fs0X4 j := by decide +kernel
theorem ex_s {V : Wo} {a o : Nat} {r : Nat → Option SE} {e : SE} (h : r o = some e) : woS (exV V a r) (a + o) = some e := by
  show (if a ≤ a + o then r (a + o - a) else woS V (a + o)) = some e
  rw [if_pos (Nat.le_add_right a o), Nat.add_sub_cancel_left]
  exact h
theorem ex_b {V : Wo} {a q : Nat} {r : Nat → Option SE} (h : q < a) : woS (exV V a r) q = woS V q := if_neg (Nat.not_le.mpr h)
theorem om_s (μ : Mem) (a o : Nat) (i : Nat → Int → Int) : omM μ a i (a + o) = i o := by
  show (if a ≤ a + o then i (a + o - a) else μ (a + o)) = i o
  rw [if_pos (Nat.le_add_right a o), Nat.add_sub_cancel_left]
theorem om_0 (μ : Mem) (a : Nat) (i : Nat → Int → Int) : omM μ a i a = i 0 := om_s μ a 0 i
theorem om_b (μ : Mem) (a q : Nat) (i : Nat → Int → Int) (h : q < a) : omM μ a i q = μ q := if_neg (Nat.not_le.mpr h)
theorem r_getsN {X : Cx} {own : String} {cc : ByteArray} {nL d : Nat} {μ : Mem} {pc : Nat} {ls st : List AV} (C : Ok X own cc nL d) {idx z : Nat} {n host : String} (hZ : va_Z RX4 n "[I" (.ref z) (woA (xV X)) (xs X) (xs X).heap) (hl : Cond.fieldLinkNest own idx RX4 n "[I" host ∈ lw_tbl) (hd : decode cc pc = .ok (.getstatic idx, 3)) (kk : RR X μ (pc + 3) ls (vR z :: st)) : RR X μ pc ls st := fun H locs jl h1 h2 h3 =>
  va_getsN C.1 C.2.1 hZ h2 C.2.2.2.1 (va_Nw.use rfl (C.2.2.2.2.2.2.1.2.1 _ hl rfl)) (fun _ h => h) hd (kk H locs jl h1 h2 h3)
theorem fn_X3_40 : Cond.fieldLinkNest RX3 40 RX4 "FIRST_VALUES" "[I" "SteppedSpines" ∈ lw_tbl := List.mem_of_getElem? (i := 72) (by decide +kernel)
theorem cI : ∀ n : Nat, inR (n : Int) ∨ True := fun _ => Or.inr trivial
def flA (N x : Int) (f : Int → Int) : Int → Int := fun j => if 0 ≤ j ∧ j < N then x else f j

set_option maxRecDepth 20000 in
set_option maxHeartbeats 2000000 in
theorem kJ7_fill {V : Wo} {μ : Mem} {q N : Nat} {x : Int} (hq : woS V q = some (.inr (0, N))) (hb : woB V ≤ q) (hN : N < 100000) : Con V 0 yJ7_fill_53178 cJ7_fill_53178 4 (none) [vR q, vI x] (μ) (QV V (wr μ q (flA N x (μ q)))) := by
  refine con_of (ls0 := [vR q, vI x, vU, vU]) (by decide +kernel) rfl (Nat.le_of_ble_eq_true rfl) (Nat.le_of_ble_eq_true rfl) (fun X hV C hF => ?_)
  subst hV
  have C : Ok X RJ7 cJ7_fill_53178 4 0 := C
  refine r_iconst C dJ7_fill_53178_0 ?_
  refine r_istore_n C dJ7_fill_53178_1 (by decide) rfl ?_
  refine r_aload_n C dJ7_fill_53178_2 rfl ?_
  refine r_alen C hq dJ7_fill_53178_3 ?_
  refine r_istore_n C dJ7_fill_53178_4 (by decide) rfl ?_
  have e0 : wr μ q (flA 0 x (μ q)) = μ := by
    rw [show flA 0 x (μ q) = μ q from funext fun j => if_neg (by omega)]
    exact wr_self μ q
  suffices h : RR X (wr μ q (flA 0 x (μ q))) 5 [vR q, vI x, vI 0, vI (N : Int)] [] by
    rw [e0] at h
    exact h
  refine loop_up (F := fun i => RR X (wr μ q (flA i x (μ q))) 5 [vR q, vI x, vI i, vI (N : Int)] []) (a := 0) (b := (N : Int)) (by omega) ?_ (fun i i0 i1 ih => ?_)
  · refine r_iload_n C dJ7_fill_53178_5 rfl ?_
    refine r_iload_n C dJ7_fill_53178_6 rfl ?_
    refine r_icmp_ge (tgt := 20) C dJ7_fill_53178_7 (by decide) (by omega) (by omega) (fun c7 => ?_) (fun c7 => absurd c7 (by omega))
    exact r_vret C hF dJ7_fill_53178_20 rfl
  · refine r_iload_n C dJ7_fill_53178_5 rfl ?_
    refine r_iload_n C dJ7_fill_53178_6 rfl ?_
    refine r_icmp_ge (tgt := 20) C dJ7_fill_53178_7 (by decide) (by omega) (by omega) (fun c7 => absurd c7 (by omega)) (fun c7 => ?_)
    refine r_aload_n C dJ7_fill_53178_10 rfl ?_
    refine r_iload_n C dJ7_fill_53178_11 rfl ?_
    refine r_iload_n C dJ7_fill_53178_12 rfl ?_
    refine r_iast C hq hb (by omega) (by omega) dJ7_fill_53178_13 ?_
    refine r_iinc C dJ7_fill_53178_14 rfl (by decide) rfl ?_
    refine r_goto (tgt := 5) C dJ7_fill_53178_17 (by decide) ?_
    rw [wr_ww, wr_s]
    rw [show s1 (flA i x (μ q)) i x = flA (i + 1) x (μ q) from funext fun j => by
      unfold s1 flA
      by_cases c : j = i
      · rw [if_pos c, if_pos (by omega)]
      · rw [if_neg c]
        by_cases c2 : 0 ≤ j ∧ j < i
        · rw [if_pos c2, if_pos (by omega)]
        · rw [if_neg c2, if_neg (by omega)]]
    exact ih
set_option maxRecDepth 20000 in
set_option maxHeartbeats 2000000 in
theorem kX0_init {V : Wo} {μ : Mem} (hlo : loV V) : ICon V μ 1 yX0_init cX0_init 1 0 fs0X0 5 100 rB (fun _ => z0) := by
  refine icon_of (ls0 := fun a => [vR a]) (by decide +kernel) rfl (fun a => rfl) (fun a => Nat.le_refl _) (Nat.le_refl _) (fun X a hV ha C hF => ?_)
  have C : Ok X RX0 cX0_init 1 1 := C
  obtain ⟨hF1, hFQ, hfl, hnm, hHp, hAO, hce, hsl, hsz⟩ := id hF
  have hba : woB (xV X) ≤ a := by rw [hV]; exact Nat.le_refl _
  refine k_aload_n C dX0_init_0 rfl ?_
  refine k_obj C (by decide) oi_X0 dX0_init_1 ?_
  refine k_aload_n C dX0_init_4 rfl ?_
  refine k_bipush C dX0_init_5 rfl ?_
  refine k_newa (N := 20) (a := a + 1) C mo_rw (by omega) (by decide) (by omega) (by omega) dX0_init_7 ?_
  refine k_putF (ci := 0) (k := 0) (N := 6) (Cn := RX0) (T := TX0) C hnm hba (lt_c (by show a < a + 1; omega) lt_n) rfl ingX0 tyX0 tyX0_ok nmX0 (by decide) fl_X0_9 rfl rfl (tyX0_ok 0 (by decide)) rfl rfl (Nat.le_of_ble_eq_true rfl) dX0_init_9 ?_
  refine k_aload_n C dX0_init_12 rfl ?_
  refine k_bipush C dX0_init_13 rfl ?_
  refine k_newa (N := 20) (a := a + 2) C mo_rw (by omega) (by decide) (by omega) (by omega) dX0_init_15 ?_
  refine k_putF (ci := 0) (k := 1) (N := 6) (Cn := RX0) (T := TX0) C hnm hba (lt_c (by show a < a + 2; omega) (lt_c (by show a < a + 1; omega) lt_n)) rfl ingX0 tyX0 tyX0_ok nmX0 (by decide) fl_X0_15 rfl rfl (tyX0_ok 1 (by decide)) rfl rfl (Nat.le_of_ble_eq_true rfl) dX0_init_17 ?_
  refine k_aload_n C dX0_init_20 rfl ?_
  refine k_bipush C dX0_init_21 rfl ?_
  refine k_newa (N := 20) (a := a + 3) C mo_rw (by omega) (by decide) (by omega) (by omega) dX0_init_23 ?_
  refine k_putF (ci := 0) (k := 3) (N := 6) (Cn := RX0) (T := TX0) C hnm hba (lt_c (by show a < a + 3; omega) (lt_c (by show a < a + 2; omega) (lt_c (by show a < a + 1; omega) lt_n))) rfl ingX0 tyX0 tyX0_ok nmX0 (by decide) fl_X0_18 rfl rfl (tyX0_ok 3 (by decide)) rfl rfl (Nat.le_of_ble_eq_true rfl) dX0_init_25 ?_
  refine k_aload_n C dX0_init_28 rfl ?_
  refine k_bipush C dX0_init_29 rfl ?_
  refine k_newa (N := 20) (a := a + 4) C mo_rw (by omega) (by decide) (by omega) (by omega) dX0_init_31 ?_
  refine k_putF (ci := 0) (k := 4) (N := 6) (Cn := RX0) (T := TX0) C hnm hba (lt_c (by show a < a + 4; omega) (lt_c (by show a < a + 3; omega) (lt_c (by show a < a + 2; omega) (lt_c (by show a < a + 1; omega) lt_n)))) rfl ingX0 tyX0 tyX0_ok nmX0 (by decide) fl_X0_21 rfl rfl (tyX0_ok 4 (by decide)) rfl rfl (Nat.le_of_ble_eq_true rfl) dX0_init_33 ?_
  refine k_aload_n C dX0_init_36 rfl ?_
  refine k_bipush C dX0_init_37 rfl ?_
  refine k_newa (N := 20) (a := a + 5) C mo_rw (by omega) (by decide) (by omega) (by omega) dX0_init_39 ?_
  refine k_putF (ci := 0) (k := 5) (N := 6) (Cn := RX0) (T := TX0) C hnm hba (lt_c (by show a < a + 5; omega) (lt_c (by show a < a + 4; omega) (lt_c (by show a < a + 3; omega) (lt_c (by show a < a + 2; omega) (lt_c (by show a < a + 1; omega) lt_n))))) rfl ingX0 tyX0 tyX0_ok nmX0 (by decide) fl_X0_24 rfl rfl (tyX0_ok 5 (by decide)) rfl rfl (Nat.le_of_ble_eq_true rfl) dX0_init_41 ?_
  refine k_vret C hV hF dX0_init_44 rfl rfl (fun H h1 h1p o e he => ?_)
  rw [hV] at h1p
  match o, he with
  | 0, he => cases (Option.some.inj he : _ = e); exact h1p
  | 1, he => cases (Option.some.inj he : _ = e); exact h1 _ (.tail _ (.tail _ (.tail _ (.tail _ (.head _))))) 0 _ rfl
  | 2, he => cases (Option.some.inj he : _ = e); exact h1 _ (.tail _ (.tail _ (.tail _ (.head _)))) 0 _ rfl
  | 3, he => cases (Option.some.inj he : _ = e); exact h1 _ (.tail _ (.tail _ (.head _))) 0 _ rfl
  | 4, he => cases (Option.some.inj he : _ = e); exact h1 _ (.tail _ (.head _)) 0 _ rfl
  | 5, he => cases (Option.some.inj he : _ = e); exact h1 _ (.head _) 0 _ rfl
  | n + 6, he => cases (he : (none : Option SE) = some e)
def rR : Nat → Option SE
  | 0 => some (.inl 2)
  | _ => none
set_option maxRecDepth 20000 in
set_option maxHeartbeats 2000000 in
theorem kX2_init {V : Wo} {μ : Mem} (hlo : loV V) : ICon V μ 1 yX2_init cX2_init 1 2 fs0X2 0 0 rR (fun _ => z0) := by
  refine icon_of (ls0 := fun a => [vR a]) (by decide +kernel) rfl (fun a => rfl) (fun a => Nat.le_refl _) (Nat.le_refl _) (fun X a hV ha C hF => ?_)
  have C : Ok X RX2 cX2_init 1 1 := C
  refine k_aload_n C dX2_init_0 rfl ?_
  refine k_obj C (by decide) oi_X2 dX2_init_1 ?_
  refine k_vret C hV hF dX2_init_4 rfl rfl (fun H h1 h1p o e he => ?_)
  rw [hV] at h1p
  match o, he with
  | 0, he => cases (Option.some.inj he : _ = e); exact h1p
  | n + 1, he => cases (he : (none : Option SE) = some e)
/-- a new state's numbers -/
def iS (μ : Mem) (z : Nat) : Nat → Int → Int
  | 0 => s1 (s1 (fun _ => 0) 6 0) 7 (-1)
  | 7 => flA 16 2 (fun _ => 0)
  | 9 => flA 16 2 (fun _ => 0)
  | 10 => flA 16 31 (fun _ => 0)
  | 11 => μ z
  | _ => fun _ => 0
set_option maxRecDepth 20000 in
set_option maxHeartbeats 2000000 in
theorem kX3_init {V : Wo} {μ : Mem} (hlo : loV V) (hz : woS V (woZ V).2.2 = some (.inr (0, 3))) : ICon V μ 2 yX3_init cX3_init 1 3 fs0X3 11 173 rS (fun _ => iS μ (woZ V).2.2) := by
  refine icon_of (ls0 := fun a => [vR a]) (by decide +kernel) rfl (fun a => rfl) (fun a => Nat.le_refl _) (Nat.le_refl _) (fun X a hV ha C hF => ?_)
  have C : Ok X RX3 cX3_init 1 2 := C
  have hza : (woZ V).2.2 < a := Nat.lt_of_lt_of_le (hlo _ _ hz) ha
  obtain ⟨hF1, hFQ, hfl, hnm, hHp, hAO, hce, hsl, hsz⟩ := id hF
  have hba : woB (xV X) ≤ a := by rw [hV]; exact Nat.le_refl _
  refine k_aload_n C dX3_init_0 rfl ?_
  refine k_obj C (by decide) oi_X3 dX3_init_1 ?_
  refine k_aload_n C dX3_init_4 rfl ?_
  refine k_mk (V := V) (μ := μ) (b := a) (a := a + 1) (ci := 0) (N := 6) (k := 5) (n := 100) (d' := 1) (Cn := RX0) (T := TX0) (fs := fs0X0) (r := rB) (i := (fun _ => z0)) C hV hlo ha hfl hHp hAO mo_rw (by omega) (by omega) rfl ingX0 tyX0 tyX0_ok fs0X0_ok cl_X3_9 in_X0 ini_X0 lm_X0_init rfl im_X0_init (Or.inr ⟨_, mn_X3_11⟩) (by decide) dX3_init_5 dX3_init_8 dX3_init_9 (by omega) (by omega) (Nat.le_of_ble_eq_true rfl) (kX0_init hlo) (by decide) ?_
  refine k_putF (ci := 3) (k := 0) (N := 8) (Cn := RX3) (T := TX3) C hnm hba (lt_c (by show a < a + 1; omega) lt_n) rfl ingX3 tyX3 tyX3_ok nmX3 (by decide) fl_X3_12 rfl rfl (tyX3_ok 0 (by decide)) rfl rfl (Nat.le_of_ble_eq_true rfl) dX3_init_12 ?_
  refine k_aload_n C dX3_init_15 rfl ?_
  refine k_bipush C dX3_init_16 rfl ?_
  refine k_newa (N := 16) (a := a + 7) C mo_rw (by omega) (by decide) (by omega) (by omega) dX3_init_18 ?_
  refine k_putF (ci := 3) (k := 1) (N := 8) (Cn := RX3) (T := TX3) C hnm hba (lt_c (by show a < a + 7; omega) (lt_c (by show a < a + 1; omega) lt_n)) rfl ingX3 tyX3 tyX3_ok nmX3 (by decide) fl_X3_18 rfl rfl (tyX3_ok 1 (by decide)) rfl rfl (Nat.le_of_ble_eq_true rfl) dX3_init_20 ?_
  refine k_aload_n C dX3_init_23 rfl ?_
  refine k_bipush C dX3_init_24 rfl ?_
  refine k_newa (N := 16) (a := a + 8) C mo_rw (by omega) (by decide) (by omega) (by omega) dX3_init_26 ?_
  refine k_putF (ci := 3) (k := 2) (N := 8) (Cn := RX3) (T := TX3) C hnm hba (lt_c (by show a < a + 8; omega) (lt_c (by show a < a + 7; omega) (lt_c (by show a < a + 1; omega) lt_n))) rfl ingX3 tyX3 tyX3_ok nmX3 (by decide) fl_X3_22 rfl rfl (tyX3_ok 2 (by decide)) rfl rfl (Nat.le_of_ble_eq_true rfl) dX3_init_28 ?_
  refine k_aload_n C dX3_init_31 rfl ?_
  refine k_bipush C dX3_init_32 rfl ?_
  refine k_newa (N := 16) (a := a + 9) C mo_rw (by omega) (by decide) (by omega) (by omega) dX3_init_34 ?_
  refine k_putF (ci := 3) (k := 3) (N := 8) (Cn := RX3) (T := TX3) C hnm hba (lt_c (by show a < a + 9; omega) (lt_c (by show a < a + 8; omega) (lt_c (by show a < a + 7; omega) (lt_c (by show a < a + 1; omega) lt_n)))) rfl ingX3 tyX3 tyX3_ok nmX3 (by decide) fl_X3_25 rfl rfl (tyX3_ok 3 (by decide)) rfl rfl (Nat.le_of_ble_eq_true rfl) dX3_init_36 ?_
  refine k_aload_n C dX3_init_39 rfl ?_
  refine k_bipush C dX3_init_40 rfl ?_
  refine k_newa (N := 16) (a := a + 10) C mo_rw (by omega) (by decide) (by omega) (by omega) dX3_init_42 ?_
  refine k_putF (ci := 3) (k := 4) (N := 8) (Cn := RX3) (T := TX3) C hnm hba (lt_c (by show a < a + 10; omega) (lt_c (by show a < a + 9; omega) (lt_c (by show a < a + 8; omega) (lt_c (by show a < a + 7; omega) (lt_c (by show a < a + 1; omega) lt_n))))) rfl ingX3 tyX3 tyX3_ok nmX3 (by decide) fl_X3_28 rfl rfl (tyX3_ok 4 (by decide)) rfl rfl (Nat.le_of_ble_eq_true rfl) dX3_init_44 ?_
  refine k_aload_n C dX3_init_47 rfl ?_
  refine k_iconst C dX3_init_48 ?_
  refine k_newa (N := 3) (a := a + 11) C mo_rw (by omega) (by decide) (by omega) (by omega) dX3_init_49 ?_
  refine k_putF (ci := 3) (k := 5) (N := 8) (Cn := RX3) (T := TX3) C hnm hba (lt_c (by show a < a + 11; omega) (lt_c (by show a < a + 10; omega) (lt_c (by show a < a + 9; omega) (lt_c (by show a < a + 8; omega) (lt_c (by show a < a + 7; omega) (lt_c (by show a < a + 1; omega) lt_n)))))) rfl ingX3 tyX3 tyX3_ok nmX3 (by decide) fl_X3_31 rfl rfl (tyX3_ok 5 (by decide)) rfl rfl (Nat.le_of_ble_eq_true rfl) dX3_init_51 ?_
  refine k_toR (r := rS) (j := fun _ => z0 0) hV hlo ha hF (fun H h1 h1p o e he => ?_) ?_
  · rw [hV] at h1p
    match o, he with
    | 0, he => cases (Option.some.inj he : _ = e); exact h1p
    | 1, he => cases (Option.some.inj he : _ = e); exact h1 _ (.tail _ (.tail _ (.tail _ (.tail _ (.tail _ (.head _)))))) 0 _ rfl
    | 2, he => cases (Option.some.inj he : _ = e); exact h1 _ (.tail _ (.tail _ (.tail _ (.tail _ (.tail _ (.head _)))))) 1 _ rfl
    | 3, he => cases (Option.some.inj he : _ = e); exact h1 _ (.tail _ (.tail _ (.tail _ (.tail _ (.tail _ (.head _)))))) 2 _ rfl
    | 4, he => cases (Option.some.inj he : _ = e); exact h1 _ (.tail _ (.tail _ (.tail _ (.tail _ (.tail _ (.head _)))))) 3 _ rfl
    | 5, he => cases (Option.some.inj he : _ = e); exact h1 _ (.tail _ (.tail _ (.tail _ (.tail _ (.tail _ (.head _)))))) 4 _ rfl
    | 6, he => cases (Option.some.inj he : _ = e); exact h1 _ (.tail _ (.tail _ (.tail _ (.tail _ (.tail _ (.head _)))))) 5 _ rfl
    | 7, he => cases (Option.some.inj he : _ = e); exact h1 _ (.tail _ (.tail _ (.tail _ (.tail _ (.head _))))) 0 _ rfl
    | 8, he => cases (Option.some.inj he : _ = e); exact h1 _ (.tail _ (.tail _ (.tail _ (.head _)))) 0 _ rfl
    | 9, he => cases (Option.some.inj he : _ = e); exact h1 _ (.tail _ (.tail _ (.head _))) 0 _ rfl
    | 10, he => cases (Option.some.inj he : _ = e); exact h1 _ (.tail _ (.head _)) 0 _ rfl
    | 11, he => cases (Option.some.inj he : _ = e); exact h1 _ (.head _) 0 _ rfl
    | n + 12, he => cases (he : (none : Option SE) = some e)
  have C : Ok (toX X (exV V a rS) 11 173) RX3 cX3_init 1 2 := ok_toX C hV (by omega) (by omega)
  have S0 : woS (exV V a rS) a = some (.inl 3) := ex_s (o := 0) rfl
  have S7 : woS (exV V a rS) (a + 7) = some (.inr (0, 16)) := ex_s rfl
  have S9 : woS (exV V a rS) (a + 9) = some (.inr (0, 16)) := ex_s rfl
  have S10 : woS (exV V a rS) (a + 10) = some (.inr (0, 16)) := ex_s rfl
  have S11 : woS (exV V a rS) (a + 11) = some (.inr (0, 3)) := ex_s rfl
  have SZ : woS (exV V a rS) (woZ V).2.2 = some (.inr (0, 3)) := (ex_b hza).trans hz
  have hB : ∀ o : Nat, woB (exV V a rS) ≤ a + o := fun o => Nat.le_add_right a o
  refine r_aload_n C dX3_init_54 rfl ?_
  refine gf_X3_18 C S0 dX3_init_55 ?_
  refine r_iconst C dX3_init_58 ?_
  refine r_runV (fun aH aL aj a1 a2 a3 => run_S C hfl (kJ7_fill S7 (hB _) (by decide)) lm_J7_fill_53178 ml_X3_34 sm_J7_fill_53178 (Nat.le_of_ble_eq_true rfl) dX3_init_59 rfl (Nat.le_of_ble_eq_true rfl) a1 a2 a3) ?_
  refine r_aload_n C dX3_init_62 rfl ?_
  refine gf_X3_25 C S0 dX3_init_63 ?_
  refine r_iconst C dX3_init_66 ?_
  refine r_runV (fun aH aL aj a1 a2 a3 => run_S C hfl (kJ7_fill S9 (hB _) (by decide)) lm_J7_fill_53178 ml_X3_34 sm_J7_fill_53178 (Nat.le_of_ble_eq_true rfl) dX3_init_67 rfl (Nat.le_of_ble_eq_true rfl) a1 a2 a3) ?_
  refine r_aload_n C dX3_init_70 rfl ?_
  refine gf_X3_28 C S0 dX3_init_71 ?_
  refine r_bipush C dX3_init_74 rfl ?_
  refine r_runV (fun aH aL aj a1 a2 a3 => run_S C hfl (kJ7_fill S10 (hB _) (by decide)) lm_J7_fill_53178 ml_X3_34 sm_J7_fill_53178 (Nat.le_of_ble_eq_true rfl) dX3_init_76 rfl (Nat.le_of_ble_eq_true rfl) a1 a2 a3) ?_
  refine r_getsN C C.2.2.2.2.2.2.1.2.2.2.2.2.1 fn_X3_40 dX3_init_79 ?_
  refine r_aload_n C dX3_init_82 rfl ?_
  refine gf_X3_31 C S0 dX3_init_83 ?_
  refine r_runV (fun aH aL aj a1 a2 a3 => run_SN C hfl (kX4_copyRow SZ S11 (hB _) (by decide)) lm_X4_copyRow mn_X3_43 sm_X4_copyRow (Nat.le_of_ble_eq_true rfl) dX3_init_86 rfl (Nat.le_of_ble_eq_true rfl) a1 a2 a3) ?_
  refine r_aload_n C dX3_init_89 rfl ?_
  refine r_iconst C dX3_init_90 ?_
  refine pf_X3_47 C S0 (hB 0) dX3_init_91 ?_
  refine r_aload_n C dX3_init_94 rfl ?_
  refine r_iconst C dX3_init_95 ?_
  refine pf_X3_51 C S0 (hB 0) dX3_init_96 ?_
  refine r_vretI (μ := μ) C hF dX3_init_99 (fun o ho => ?_)
  have hZ : (woZ (exV V a rS)).2.2 = (woZ V).2.2 := rfl
  match o, ho with
  | 0, ho => simp (disch := omega) only [Nat.add_zero, wr_s, wr_n, om_s, om_0, om_b, hZ]; rfl
  | 1, ho => simp (disch := omega) only [Nat.add_zero, wr_s, wr_n, om_s, om_0, om_b, hZ]; rfl
  | 2, ho => simp (disch := omega) only [Nat.add_zero, wr_s, wr_n, om_s, om_0, om_b, hZ]; rfl
  | 3, ho => simp (disch := omega) only [Nat.add_zero, wr_s, wr_n, om_s, om_0, om_b, hZ]; rfl
  | 4, ho => simp (disch := omega) only [Nat.add_zero, wr_s, wr_n, om_s, om_0, om_b, hZ]; rfl
  | 5, ho => simp (disch := omega) only [Nat.add_zero, wr_s, wr_n, om_s, om_0, om_b, hZ]; rfl
  | 6, ho => simp (disch := omega) only [Nat.add_zero, wr_s, wr_n, om_s, om_0, om_b, hZ]; rfl
  | 7, ho => simp (disch := omega) only [Nat.add_zero, wr_s, wr_n, om_s, om_0, om_b, hZ]; rfl
  | 8, ho => simp (disch := omega) only [Nat.add_zero, wr_s, wr_n, om_s, om_0, om_b, hZ]; rfl
  | 9, ho => simp (disch := omega) only [Nat.add_zero, wr_s, wr_n, om_s, om_0, om_b, hZ]; rfl
  | 10, ho => simp (disch := omega) only [Nat.add_zero, wr_s, wr_n, om_s, om_0, om_b, hZ]; rfl
  | 11, ho => simp (disch := omega) only [Nat.add_zero, wr_s, wr_n, om_s, om_0, om_b, hZ]; rfl
  | n + 12, ho => exact absurd rfl ho
