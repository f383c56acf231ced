/-! the two big objects -/
def rP : Nat → Option SE := fun o => if o = 0 then some (.inl 4) else if o < 13 then rS (o - 1) else if o < 25 then rS (o - 13) else if o < 37 then rS (o - 25) else if o < 111 then rH (o - 37) else if o = 111 then some (.inl 2) else if o = 112 then some (.inr (0, 60)) else none
def iP (μ : Mem) (z a : Nat) : Nat → Int → Int := fun o => if o = 0 then fun _ => 0 else if o < 13 then iS μ z (o - 1) else if o < 25 then iS μ z (o - 13) else if o < 37 then iS μ z (o - 25) else if o < 111 then iH μ z (a + 37) (o - 37) else fun _ => 0
def mI0 : Int → Int := s1 (s1 (s1 (s1 (fun _ => 0) 0 8) 1 5) 2 2) 5 (-1)
/-- the reference's first vector, when i of the sixteen bins are done -/
def mIl (i : Int) : Int → Int := fun q => if 6 ≤ q ∧ q < 6 + i then 2 else if 38 ≤ q ∧ q < 38 + i then 2 else if 54 ≤ q ∧ q < 54 + i then 31 else mI0 q
theorem mIl_0 : mIl 0 = mI0 := funext fun q => by
  unfold mIl
  rw [if_neg (by omega), if_neg (by omega), if_neg (by omega)]
theorem mIl_s {i : Int} (h0 : 0 ≤ i) (h1 : i < 16) : s1 (s1 (s1 (mIl i) (6 + i) 2) (38 + i) 2) (54 + i) 31 = mIl (i + 1) := funext fun q => by
  unfold s1 mIl
  by_cases c1 : q = 54 + i
  · rw [if_pos c1, if_neg (by omega), if_neg (by omega), if_pos (by omega)]
  · rw [if_neg c1]
    by_cases c2 : q = 38 + i
    · rw [if_pos c2, if_neg (by omega), if_pos (by omega)]
    · rw [if_neg c2]
      by_cases c3 : q = 6 + i
      · rw [if_pos c3, if_pos (by omega)]
      · rw [if_neg c3]
        by_cases d1 : 6 ≤ q ∧ q < 6 + i
        · rw [if_pos d1, if_pos (by omega)]
        · rw [if_neg d1, if_neg (show ¬(6 ≤ q ∧ q < 6 + (i + 1)) by omega)]
          by_cases d2 : 38 ≤ q ∧ q < 38 + i
          · rw [if_pos d2, if_pos (by omega)]
          · rw [if_neg d2, if_neg (show ¬(38 ≤ q ∧ q < 38 + (i + 1)) by omega)]
            by_cases d3 : 54 ≤ q ∧ q < 54 + i
            · rw [if_pos d3, if_pos (by omega)]
            · rw [if_neg d3, if_neg (show ¬(54 ≤ q ∧ q < 54 + (i + 1)) by omega)]

set_option maxRecDepth 20000 in
set_option maxHeartbeats 2000000 in
theorem kX4_init {V : Wo} {μ : Mem} (hlo : loV V) (hz : woS V (woZ V).2.2 = some (.inr (0, 3))) : ICon V μ 4 yX4_init cX4_init 1 4 fs0X4 112 1702 rP (iP μ (woZ V).2.2) := by
  refine icon_of (ls0 := fun a => [vR a]) (by decide +kernel) rfl (fun a => rfl) (fun a => Nat.le_refl _) (Nat.le_of_ble_eq_true rfl) (fun X a hV ha C hF => ?_)
  have C : Ok X RX4 cX4_init 1 4 := C
  obtain ⟨hF1, hFQ, hfl, hnm, hHp, hAO, hce, hsl, hsz⟩ := id hF
  have hba : woB (xV X) ≤ a := by rw [hV]; exact Nat.le_refl _
  refine k_aload_n C dX4_init_0 rfl ?_
  refine k_obj C (by decide) oi_X4 dX4_init_1 ?_
  refine k_aload_n C dX4_init_4 rfl ?_
  refine k_mk (V := V) (μ := μ) (b := a) (a := a + 1) (ci := 3) (N := 8) (k := 11) (n := 173) (d' := 2) (Cn := RX3) (T := TX3) (fs := fs0X3) (r := rS) (i := (fun _ => iS μ (woZ V).2.2)) C hV hlo ha hfl hHp hAO mo_rw (by omega) (by omega) rfl ingX3 tyX3 tyX3_ok fs0X3_ok cl_X4_7 in_X3 ini_X3 lm_X3_init rfl im_X3_init (Or.inl ml_X4_9) (by decide) dX4_init_5 dX4_init_8 dX4_init_9 (by omega) (by omega) (Nat.le_of_ble_eq_true rfl) (kX3_init hlo hz) (by decide) ?_
  refine k_putF (ci := 4) (k := 0) (N := 8) (Cn := RX4) (T := TX4) C hnm hba (lt_c (by show a < a + 1; omega) lt_n) rfl ingX4 tyX4 tyX4_ok nmX4 (by decide) fl_X4_10 rfl rfl (tyX4_ok 0 (by decide)) rfl rfl (Nat.le_of_ble_eq_true rfl) dX4_init_12 ?_
  refine k_aload_n C dX4_init_15 rfl ?_
  refine k_mk (V := V) (μ := μ) (b := a) (a := a + 13) (ci := 3) (N := 8) (k := 11) (n := 173) (d' := 2) (Cn := RX3) (T := TX3) (fs := fs0X3) (r := rS) (i := (fun _ => iS μ (woZ V).2.2)) C hV hlo ha hfl hHp hAO mo_rw (by omega) (by omega) rfl ingX3 tyX3 tyX3_ok fs0X3_ok cl_X4_7 in_X3 ini_X3 lm_X3_init rfl im_X3_init (Or.inl ml_X4_9) (by decide) dX4_init_16 dX4_init_19 dX4_init_20 (by omega) (by omega) (Nat.le_of_ble_eq_true rfl) (kX3_init hlo hz) (by decide) ?_
  refine k_putF (ci := 4) (k := 1) (N := 8) (Cn := RX4) (T := TX4) C hnm hba (lt_c (by show a < a + 13; omega) (lt_c (by show a < a + 1; omega) lt_n)) rfl ingX4 tyX4 tyX4_ok nmX4 (by decide) fl_X4_16 rfl rfl (tyX4_ok 1 (by decide)) rfl rfl (Nat.le_of_ble_eq_true rfl) dX4_init_23 ?_
  refine k_aload_n C dX4_init_26 rfl ?_
  refine k_mk (V := V) (μ := μ) (b := a) (a := a + 25) (ci := 3) (N := 8) (k := 11) (n := 173) (d' := 2) (Cn := RX3) (T := TX3) (fs := fs0X3) (r := rS) (i := (fun _ => iS μ (woZ V).2.2)) C hV hlo ha hfl hHp hAO mo_rw (by omega) (by omega) rfl ingX3 tyX3 tyX3_ok fs0X3_ok cl_X4_7 in_X3 ini_X3 lm_X3_init rfl im_X3_init (Or.inl ml_X4_9) (by decide) dX4_init_27 dX4_init_30 dX4_init_31 (by omega) (by omega) (Nat.le_of_ble_eq_true rfl) (kX3_init hlo hz) (by decide) ?_
  refine k_putF (ci := 4) (k := 2) (N := 8) (Cn := RX4) (T := TX4) C hnm hba (lt_c (by show a < a + 25; omega) (lt_c (by show a < a + 13; omega) (lt_c (by show a < a + 1; omega) lt_n))) rfl ingX4 tyX4 tyX4_ok nmX4 (by decide) fl_X4_19 rfl rfl (tyX4_ok 2 (by decide)) rfl rfl (Nat.le_of_ble_eq_true rfl) dX4_init_34 ?_
  refine k_aload_n C dX4_init_37 rfl ?_
  refine k_mk (V := V) (μ := μ) (b := a) (a := a + 37) (ci := 1) (N := 2) (k := 73) (n := 1092) (d' := 3) (Cn := RX1) (T := TX1) (fs := fs0X1) (r := rH) (i := (iH μ (woZ V).2.2)) C hV hlo ha hfl hHp hAO mo_rw (by omega) (by omega) rfl ingX1 tyX1 tyX1_ok fs0X1_ok cl_X4_22 in_X1 ini_X1 lm_X1_init rfl im_X1_init (Or.inl ml_X4_24) (by decide) dX4_init_38 dX4_init_41 dX4_init_42 (by omega) (by omega) (Nat.le_of_ble_eq_true rfl) (kX1_init hlo hz) (by decide) ?_
  refine k_putF (ci := 4) (k := 3) (N := 8) (Cn := RX4) (T := TX4) C hnm hba (lt_c (by show a < a + 37; omega) (lt_c (by show a < a + 25; omega) (lt_c (by show a < a + 13; omega) (lt_c (by show a < a + 1; omega) lt_n)))) rfl ingX4 tyX4 tyX4_ok nmX4 (by decide) fl_X4_25 rfl rfl (tyX4_ok 3 (by decide)) rfl rfl (Nat.le_of_ble_eq_true rfl) dX4_init_45 ?_
  refine k_aload_n C dX4_init_48 rfl ?_
  refine k_mk (V := V) (μ := μ) (b := a) (a := a + 111) (ci := 2) (N := 5) (k := 0) (n := 0) (d' := 1) (Cn := RX2) (T := TX2) (fs := fs0X2) (r := rR) (i := (fun _ => z0)) C hV hlo ha hfl hHp hAO mo_rw (by omega) (by omega) rfl ingX2 tyX2 tyX2_ok fs0X2_ok cl_X4_29 in_X2 ini_X2 lm_X2_init rfl im_X2_init (Or.inr ⟨_, mn_X4_31⟩) (by decide) dX4_init_49 dX4_init_52 dX4_init_53 (by omega) (by omega) (Nat.le_of_ble_eq_true rfl) (kX2_init hlo) (by decide) ?_
  refine k_putF (ci := 4) (k := 4) (N := 8) (Cn := RX4) (T := TX4) C hnm hba (lt_c (by show a < a + 111; omega) (lt_c (by show a < a + 37; omega) (lt_c (by show a < a + 25; omega) (lt_c (by show a < a + 13; omega) (lt_c (by show a < a + 1; omega) lt_n))))) rfl ingX4 tyX4 tyX4_ok nmX4 (by decide) fl_X4_32 rfl rfl (tyX4_ok 4 (by decide)) rfl rfl (Nat.le_of_ble_eq_true rfl) dX4_init_56 ?_
  refine k_aload_n C dX4_init_59 rfl ?_
  refine k_bipush C dX4_init_60 rfl ?_
  refine k_newa (N := 60) (a := a + 112) C mo_rw (by omega) (by decide) (by omega) (by omega) dX4_init_62 ?_
  refine k_putF (ci := 4) (k := 5) (N := 8) (Cn := RX4) (T := TX4) C hnm hba (lt_c (by show a < a + 112; omega) (lt_c (by show a < a + 111; omega) (lt_c (by show a < a + 37; omega) (lt_c (by show a < a + 25; omega) (lt_c (by show a < a + 13; omega) (lt_c (by show a < a + 1; omega) lt_n)))))) rfl ingX4 tyX4 tyX4_ok nmX4 (by decide) fl_X4_36 rfl rfl (tyX4_ok 5 (by decide)) rfl rfl (Nat.le_of_ble_eq_true rfl) dX4_init_64 ?_
  refine k_toR (r := rP) (j := iP μ (woZ V).2.2 a) hV hlo ha hF (fun H h1 h1p o e he => ?_) ?_
  · rw [hV] at h1p
    have he : (if o = 0 then some (.inl 4) else if o < 13 then rS (o - 1) else if o < 25 then rS (o - 13) else if o < 37 then rS (o - 25) else if o < 111 then rH (o - 37) else if o = 111 then some (.inl 2) else if o = 112 then some (.inr (0, 60)) else none) = some e := he
    by_cases c0 : o = 0
    · subst c0
      rw [if_pos rfl] at he
      cases he
      exact h1p
    rw [if_neg c0] at he
    by_cases c13 : o < 13
    · rw [if_pos c13] at he
      have h7 := h1 _ (.tail _ (.tail _ (.tail _ (.tail _ (.tail _ (.head _)))))) (o - 1) e he
      rw [show (a + 1, rS, iS μ (woZ V).2.2).1 + (o - 1) = a + o by show a + 1 + (o - 1) = a + o; omega] at h7
      show cellAt (woG V) (xs X) H (a + o) (iP μ (woZ V).2.2 a o) e
      rw [show iP μ (woZ V).2.2 a o = (iS μ (woZ V).2.2) (o - 1) from (if_neg c0).trans (if_pos c13)]
      exact h7
    rw [if_neg c13] at he
    by_cases c25 : o < 25
    · rw [if_pos c25] at he
      have h7 := h1 _ (.tail _ (.tail _ (.tail _ (.tail _ (.head _))))) (o - 13) e he
      rw [show (a + 13, rS, iS μ (woZ V).2.2).1 + (o - 13) = a + o by show a + 13 + (o - 13) = a + o; omega] at h7
      show cellAt (woG V) (xs X) H (a + o) (iP μ (woZ V).2.2 a o) e
      rw [show iP μ (woZ V).2.2 a o = (iS μ (woZ V).2.2) (o - 13) from (if_neg c0).trans ((if_neg c13).trans (if_pos c25))]
      exact h7
    rw [if_neg c25] at he
    by_cases c37 : o < 37
    · rw [if_pos c37] at he
      have h7 := h1 _ (.tail _ (.tail _ (.tail _ (.head _)))) (o - 25) e he
      rw [show (a + 25, rS, iS μ (woZ V).2.2).1 + (o - 25) = a + o by show a + 25 + (o - 25) = a + o; omega] at h7
      show cellAt (woG V) (xs X) H (a + o) (iP μ (woZ V).2.2 a o) e
      rw [show iP μ (woZ V).2.2 a o = (iS μ (woZ V).2.2) (o - 25) from (if_neg c0).trans ((if_neg c13).trans ((if_neg c25).trans (if_pos c37)))]
      exact h7
    rw [if_neg c37] at he
    by_cases c111 : o < 111
    · rw [if_pos c111] at he
      have h7 := h1 _ (.tail _ (.tail _ (.head _))) (o - 37) e he
      rw [show (a + 37, rH, iH μ (woZ V).2.2 (a + 37)).1 + (o - 37) = a + o by show a + 37 + (o - 37) = a + o; omega] at h7
      show cellAt (woG V) (xs X) H (a + o) (iP μ (woZ V).2.2 a o) e
      rw [show iP μ (woZ V).2.2 a o = (iH μ (woZ V).2.2 (a + 37)) (o - 37) from (if_neg c0).trans ((if_neg c13).trans ((if_neg c25).trans ((if_neg c37).trans (if_pos c111))))]
      exact h7
    rw [if_neg c111] at he
    by_cases d1 : o = 111
    · subst d1
      rw [if_pos rfl] at he
      cases he
      exact h1 _ (.tail _ (.head _)) 0 _ rfl
    rw [if_neg d1] at he
    by_cases d2 : o = 112
    · subst d2
      rw [if_pos rfl] at he
      cases he
      exact h1 _ (.head _) 0 _ rfl
    rw [if_neg d2] at he
    cases he
  have C : Ok (toX X (exV V a rP) 112 1702) RX4 cX4_init 1 4 := ok_toX C hV (by omega) (by omega)
  have S0 : woS (exV V a rP) a = some (.inl 4) := ex_s (o := 0) rfl
  refine r_aload_n C dX4_init_67 rfl ?_
  refine r_iconst C dX4_init_68 ?_
  refine pf_X4_40 C S0 (Nat.le_refl _) dX4_init_69 ?_
  refine r_aload_n C dX4_init_72 rfl ?_
  refine r_iconst C dX4_init_73 ?_
  refine pf_X4_44 C S0 (Nat.le_refl _) (Or.inl rfl) dX4_init_74 ?_
  refine r_vretI (μ := μ) C hF dX4_init_77 (fun o ho => ?_)
  by_cases c0 : o = 0
  · subst c0
    simp (disch := omega) only [Nat.add_zero, wr_s, om_0]
    refine funext fun x => ?_
    show s1 (s1 (fun _ => 0) 6 0) 7 0 x = 0
    unfold s1
    split
    · rfl
    · split <;> rfl
  · rw [wr_n _ _ (by omega), wr_n _ _ (by omega), om_s]