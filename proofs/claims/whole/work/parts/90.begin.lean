/-! the law's beginning -/
theorem mo_T : moP (fun _ => True) := fun _ _ _ _ => trivial
set_option maxRecDepth 20000 in
set_option maxHeartbeats 2000000 in
theorem law_begin {X : Cx} {V : Wo} {b L : Nat} {μ : Mem} (C : Ok X RL cL_law 9 10) (hV : xV X = V) (hN : woB V = (xs X).heap.size) (hlo : loV V) (hHp : Hp V (xs X) μ (xs X).heap) (hAO : va_AO RX3 (xs X)) (hE : ExU (xs X)) (hfl : (xl X).flags = flags0) (hc : 601024 ≤ (xR X).cells) (hs : 7293034 ≤ (xR X).slots)
    (Sb : woS V b = some (.inr (0, L))) (S1 : woS V (woZ V).1 = some (.inr (0, 3))) (S2 : woS V (woZ V).2.1 = some (.inr (0, 3))) (S3 : woS V (woZ V).2.2 = some (.inr (0, 3))) (hz : ∀ x : Int, 0 ≤ x → x < 3 → μ (woZ V).1 x = sLo x ∧ μ (woZ V).2.1 x = sUp x) (h0 : μ (woZ V).2.2 0 = 8) (h1 : μ (woZ V).2.2 1 = 5) (h2 : μ (woZ V).2.2 2 = 2) (hB : ∀ j, inR (μ b j)) (hLL : L ≤ 1536)
    (hend : ∀ (k n : Nat) (ν : Mem) (ls : List AV), k ≤ 601024 → n ≤ 7293034 → RR (toX X (exV V (woB V) rL) k n) ν 1398 ls []) : KJ X 0 0 [] (fun _ => True) 0 [vR b, vU, vU, vU, vU, vU, vU, vU, vU] [] := by
  have hV' : xV X = bsV V (woB V) := hV
  have hbN : b < woB V := hlo _ _ Sb
  have hz1 : (woZ V).1 < woB V := hlo _ _ S1
  have hz2 : (woZ V).2.1 < woB V := hlo _ _ S2
  have hz3 : (woZ V).2.2 < woB V := hlo _ _ S3
  refine k_mk (V := V) (μ := μ) (b := woB V) (a := woB V) (ci := 4) (N := 8) (k := 112) (n := 1702) (d' := 4) (Cn := RX4) (T := TX4) (fs := fs0X4) (r := rP) (i := iP μ (woZ V).2.2) C hV' hlo (Nat.le_refl _) hfl hHp hAO mo_T (by omega) (by omega) rfl ingX4 tyX4 tyX4_ok fs0X4_ok cl_L_8 in_X4 ini_X4 lm_X4_init rfl im_X4_init (Or.inl ml_L_72) (by decide) dL_law_0 dL_law_3 dL_law_4 (by omega) (by omega) (Nat.le_of_ble_eq_true rfl) (kX4_init hlo S3) (by decide) ?_
  refine k_astore_n C dL_law_7 (by decide) rfl ?_
  refine k_mk (V := V) (μ := μ) (b := woB V) (a := woB V + 113) (ci := 5) (N := 15) (k := 5) (n := 1003) (d' := 1) (Cn := RX5) (T := TX5) (fs := fs0X5) (r := rM) (i := fun _ => iM) C hV' hlo (Nat.le_refl _) hfl hHp hAO mo_T (by omega) (by omega) rfl ingX5 tyX5 tyX5_ok fs0X5_ok cl_L_73 in_X5 ini_X5 lm_X5_init rfl im_X5_init (Or.inl ml_L_75) (by decide) dL_law_8 dL_law_11 dL_law_12 (by omega) (by omega) (Nat.le_of_ble_eq_true rfl) (kX5_init hlo) (by decide) ?_
  refine k_astore_n C dL_law_15 (by decide) rfl ?_
  refine k_iconst C dL_law_16 ?_
  refine k_newaJ (N := 1) (a := woB V + 119) C mo_T (by omega) (by decide) (by omega) (by omega) dL_law_17 ?_
  refine k_astore_n C dL_law_19 (by decide) rfl ?_
  refine k_toL (r := rL) (j := iL μ (woZ V).2.2 (woB V)) hV' hlo (Nat.le_refl _) hHp (fun H h1 _ o e he => ?_) ?_
  · have he : (if o < 113 then rP o else if o < 119 then rM (o - 113) else if o = 119 then some (.inr (1, 1)) else none) = some e := he
    by_cases c1 : o < 113
    · rw [if_pos c1] at he
      have h7 := h1 _ (.tail _ (.tail _ (.head _))) o e he
      show cellAt (woG V) (xs X) H (woB V + o) (iL μ (woZ V).2.2 (woB V) o) e
      rw [show iL μ (woZ V).2.2 (woB V) o = iP μ (woZ V).2.2 (woB V) o from if_pos c1]
      exact h7
    rw [if_neg c1] at he
    by_cases c2 : o < 119
    · rw [if_pos c2] at he
      have h7 := h1 _ (.tail _ (.head _)) (o - 113) e he
      rw [show (woB V + 113, rM, iM).1 + (o - 113) = woB V + o by show woB V + 113 + (o - 113) = woB V + o; omega] at h7
      show cellAt (woG V) (xs X) H (woB V + o) (iL μ (woZ V).2.2 (woB V) o) e
      rw [show iL μ (woZ V).2.2 (woB V) o = iM (o - 113) from (if_neg c1).trans (if_pos c2)]
      exact h7
    rw [if_neg c2] at he
    by_cases c3 : o = 119
    · subst c3
      rw [if_pos rfl] at he
      cases he
      exact h1 _ (.head _) 0 _ rfl
    rw [if_neg c3] at he
    cases he
  have C' : Ok (toX X (exV V (woB V) rL) (0 + 1 + 112 + 1 + 5 + 1) (0 + 8 + 1702 + 15 + 1003 + 1)) RL cL_law 9 10 := ok_toX C hV' (by omega) (by omega)
  have C2 : Ok (toX X (exV V (woB V) rL) 0 0) RL cL_law 9 10 := ok_toX C hV' (Nat.zero_le _) (Nat.zero_le _)
  refine r_iconst C' dL_law_20 ?_
  refine r_istore C' dL_law_21 (by decide) rfl ?_
  have hB2 : ∀ k, woB (exV V (woB V) rL) ≤ woB V + k := fun k => Nat.le_add_right _ k
  have om : ∀ k, omM μ (woB V) (iL μ (woZ V).2.2 (woB V)) (woB V + k) = iL μ (woZ V).2.2 (woB V) k := fun k => om_s μ _ k _
  have hW : LW (toX X (exV V (woB V) rL) 0 0) b L (woB V) (woB V + 113) (woB V + 119) :=
    ⟨⟨⟨hB2 113, ex_s rfl, ex_s (o := 114) rfl, ex_s (o := 115) rfl, ex_s (o := 116) rfl, ex_s (o := 117) rfl, ex_s (o := 118) rfl⟩, ex_s rfl, hB2 119, ex_s (o := 0) rfl, (ex_b hbN).trans Sb⟩, ⟨hbN, by omega, by omega, hz1, hz2⟩, hfl, hE⟩
  have hLI : LI (xV (toX X (exV V (woB V) rL) 0 0)) (woB V) (woB V + 113) b (μ b) 200 (omM μ (woB V) (iL μ (woZ V).2.2 (woB V))) := by
    refine ⟨mIl 16, fun _ => 0, 0, 0, 0, ci_0 (Nat.le_refl _) hz3 h0 h1 h2, ⟨om_s μ _ 114 _, om_s μ _ 115 _, by rw [om]; rfl, by rw [om]; rfl, by rw [om]; rfl⟩, om_b _ _ _ _ hbN, ⟨(ex_b hz1).trans S1, hz1⟩, ⟨(ex_b hz2).trans S2, hz2⟩, fun x x0 x3 => ?_⟩
    have e1 : omM μ (woB V) (iL μ (woZ V).2.2 (woB V)) (woZ V).1 = μ (woZ V).1 := om_b _ _ _ _ hz1
    have e2 : omM μ (woB V) (iL μ (woZ V).2.2 (woB V)) (woZ V).2.1 = μ (woZ V).2.1 := om_b _ _ _ _ hz2
    show omM μ (woB V) (iL μ (woZ V).2.2 (woB V)) (woZ V).1 x = sLo x ∧ omM μ (woB V) (iL μ (woZ V).2.2 (woB V)) (woZ V).2.1 x = sUp x
    rw [e1, e2]
    exact hz x x0 x3
  refine r_wid (k := 120 + 0) (n := 3000 + 6 * 0) (Nat.le_of_ble_eq_true rfl) (Nat.le_of_ble_eq_true rfl) ?_
  exact law_loop (X := toX X (exV V (woB V) rL) 0 0) C2 hW hc hs hLL hB hend 513 0 0 200 _ rfl rfl (by decide) (by decide) hLI
theorem toInt_r (x : Int32) : inR x.toInt := ⟨Int32.le_toInt _, by have := Int32.toInt_lt x; omega⟩
theorem hpm_r (s : State) (q : Nat) (j : Int) : inR (hpm s q j) := by
  unfold hpm
  split
  · exact toInt_r _
  · exact ⟨by decide, by decide⟩
set_option maxRecDepth 20000 in
set_option maxHeartbeats 2000000 in
theorem whole_start {p : Program} {e : Env} {s : State} {m : MethodId} {below : List Frame} {meth : Method} {c : Code} (l : Launch) (hflags : l.flags = flags0) {b L : Nat} {xs : Nat → Int32} (hL : L ≤ 1536) (C0 : lw_At p s m meth c b L xs) : W p l e room_1 s m #[Value.ref b] below meth c s.heap [] 0 0 (lw_Z below #[Value.ref b] s) (entryFrame m ([Value.ref b] : List Value).toArray 9) := by
  obtain ⟨G, z, hWd, hHp, hE, hAO, hlo, ⟨z1, z2, z3⟩, ⟨n1, n2, n3⟩, hf, ⟨f0, f1, f2⟩⟩ := lw_world hL C0
  have hd0 := Drawn.sameBut.refl s.drawn lw_cs
  obtain ⟨hx, hb, hr, hml, hown, hts, -, hbl, hlk, -⟩ := C0
  have htg : ∀ w ∈ lwg, w.before #[Value.ref b] s = true := fun w hw => hts w (lwg_tbl hw)
  have C : Ok ((G, s.heap.size, z, sZ b L z), p, l, e, room_1, s, m, #[Value.ref b], below, meth, c, 0, 0, lw_Z below #[Value.ref b] s) RL cL_law 9 10 :=
    ⟨hx, hb, hml, hown, htg, hlk, hWd, rfl, Nat.le_of_ble_eq_true rfl, Nat.zero_le _, Nat.zero_le _⟩
  have K := law_begin (μ := hpm s) (b := b) (L := L) C rfl rfl hlo hHp hAO hE hflags (Nat.le_refl _) (Nat.le_refl _) ?_ ?_ ?_ ?_ (fun x x0 x3 => ?_) f0 f1 f2 (fun j => hpm_r s b j) hL (fun k n ν ls hk hn => ?_)
  · have hent := lv_entry [Value.ref b] (n := 9) (Nat.le_of_ble_eq_true rfl)
    rw [lg_entry_eq]
    refine K s.heap [] _ rfl (fun r hr => by cases hr) trivial va_S.rf ?_
    show lrel _ c.maxLocals _
    rw [hml]
    refine lrel_o hent (Nat.le_of_ble_eq_true rfl) (fun i a h1 h2 => ?_)
    exact (lvl_mem [vR b, vU, vU, vU, vU, vU, vU, vU, vU] 0 i _).mpr ⟨i, a, by omega, h1, h2, rfl⟩
  · show sZ b L z b = some (.inr (0, L))
    unfold sZ
    rw [if_neg (by omega), if_pos rfl]
  · show sZ b L z z.1 = some (.inr (0, 3))
    unfold sZ
    rw [if_pos (Or.inl rfl)]
  · show sZ b L z z.2.1 = some (.inr (0, 3))
    unfold sZ
    rw [if_pos (Or.inr (Or.inl rfl))]
  · show sZ b L z z.2.2 = some (.inr (0, 3))
    unfold sZ
    rw [if_pos (Or.inr (Or.inr rfl))]
  · obtain ⟨j, rfl⟩ := Int.eq_ofNat_of_zero_le x0
    exact hf j (by omega)
  · intro H locs jl h1 h2 h3
    have C' : Ok ((G, s.heap.size, z, sZ b L z), p, l, e, room_1, s, m, #[Value.ref b], below, meth, c, 0, 0, lw_Z below #[Value.ref b] s) RL cL_law 9 10 := C
    refine lv_iconst hx hb dL_law_1398 rfl ?_
    refine va_forget (fun q hq => h2.2.2 q hq) (W.widen hk hn ?_)
    exact W.base (lw_ret hd0 hx hb hr hlk dL_law_1399)
