/-! History: an array that fills -/
section RowsK2
variable {X : Cx} {own : String} {cc : ByteArray} {nL d ck cs : Nat} {L : List Rg} {P : Heap → Prop} {pc : Nat} {ls st : List AV}
/-- a final field of the raw object -/
theorem k_putF2 {P2 : Heap → Prop} {h : Nat} (hP2 : ∀ (H H1 : Heap), P2 H → (∀ q : Nat, q ≠ h → H1[q]? = H[q]?) → P2 H1) (C : Ok X own cc nL d) (hin2 : (xM X).name = "<init>") {ci k N idx a : Nat} {Cn : String} {T : u_T} {fs : List Value} (hb : woB (xV X) ≤ h) (hL : ∀ r ∈ L, h < r.1) (hc : vwCl[ci]? = some (Cn, T, N)) (hin : ∀ w ∈ u_ws Cn T N, w ∈ lwg) (ty0 : Nat → FieldType) (hty : ∀ k, k < N → parseFieldDescriptor (T k).2.2.1 = some (ty0 k)) (hnm : ∀ a, a < N → ∀ b, b < N → a ≠ b → (T a).2.1 ≠ (T b).2.1)
    (hk : k < N) (hl : Cond.fieldLink own idx (T k).1 (T k).2.1 (T k).2.2.1 ∈ lwg) (hfin : (T k).2.2.2 = true) (hdecl : (T k).1 = own) {ty : FieldType} (hd0 : parseFieldDescriptor (T k).2.2.1 = some ty) (hn : narrow ty (.ref a) = .ref a) (hfit : fits ty (.ref a) = true) (hkl : k < fs.length)
    (hd : decode cc pc = .ok (.putfield idx, 3)) (kk : KJ X ck cs L (fun H => rwO (woG (xV X)) h ci (fs.set k (.ref a)) H ∧ P2 H) (pc + 3) ls st) : KJ X ck cs L (fun H => rwO (woG (xV X)) h ci fs H ∧ P2 H) pc ls (vR a :: vR h :: st) := fun H locs jl h0 h1 h1q h2 h3 => by
  obtain ⟨h1p, h1r⟩ := h1q
  obtain ⟨hx, hb', hml, hown, hts, -, hW, -⟩ := C
  have hK := hW.1
  have hap := va_apart (own := own) hts hin ty0 hty hnm hK hc
  obtain ⟨r, e1, cell, q1, q2, q3, q4⟩ := h1p
  have hr : r = (Cn, T, N) := Option.some.inj (e1.symm.trans hc)
  subst hr
  obtain ⟨hS, hfc, kC, hkC, hkind⟩ := hK.1 ci _ hc
  obtain ⟨cf, kf, fi, f, hi, hsl⟩ := hS k hk
  have hlay := hts _ (hin _ (u_in_lay hk))
  unfold u_lay at hlay
  rw [if_pos hfin] at hlay
  have hst := (u_facts hfc hkC (u_lays hts hin hk) hi).1
  have hcf : (xm X).cls = cf := by
    obtain ⟨_, _, c', _, _, _, -, -, hf', -, -, -, hown2, -⟩ := Cond.laysFinal_spec hlay
    have e1 : c' = cf := by have := hi.symm.trans hf'; simp at this; exact this.1.symm
    rw [hdecl] at hown2
    rw [← e1]; exact Option.some.inj (hown.symm.trans hown2)
  have h6 := u_fits hfc hkC hkind (Or.inr hlay) hi hd0 hn hfit
  refine W.putFinK hx hb' hown (hts _ hl) hi hst hcf hin2 (by rw [q2]; exact h6) q1 q3 (by rw [hsl]; exact k2_hasslot (q4 k hk)) rfl rfl hd fun H' e1 e2 e3 => ?_
  rw [hsl] at e1 ⊢
  refine kk H' _ jl (by omega) (fun r hr o e he => cellAt_kept (h1 r hr o e he) (e3 (r.1 + o) (show r.1 + o ≠ h by have := hL r hr; omega))) ?_ (h2.put e2 e3 hb) h3
  exact ⟨⟨_, hc, t_OB.to (V := updV (vp_V fs) k (.ref a)) ⟨_, e1, q2, q3, t_set q4 hap hk (.ref a)⟩ (fun j _ => vp_updV_set hkl (.ref a) j)⟩, hP2 H _ h1r e3⟩

theorem arrV_ext {cI : ClassId} {N : Nat} {f g : Nat → Value} (h : ∀ j, j < N → f j = g j) : arrV cI N f = arrV cI N g := by
  unfold arrV
  congr 1
  refine congrArg Array.ofFn (funext fun j => h j.1 j.2)
def paP (s : State) (q N : Nat) (f : Nat → Option Nat) : Heap → Prop := fun H => ∃ cA : ClassId, ArrOfT s cA (.object RX3) ∧ va_RA s cA (.object RX3) ∧ H[q]? = some (vp_cell cA (N, .inr (.inr (.inr (.inr f)))))
theorem paP_k {s : State} {q N : Nat} {f : Nat → Option Nat} {H H1 : Heap} (h : paP s q N f H) (hq : H1[q]? = H[q]?) : paP s q N f H1 := by
  obtain ⟨cA, h1, h2, h3⟩ := h
  exact ⟨cA, h1, h2, by rw [hq]; exact h3⟩
theorem paP_lt {s : State} {q N : Nat} {f : Nat → Option Nat} {H : Heap} (h : paP s q N f H) : q < H.size := by
  obtain ⟨cA, h1, h2, h3⟩ := h
  exact (Array.getElem?_eq_some_iff.mp h3).1
theorem mo_pa {s : State} {q N : Nat} {f : Nat → Option Nat} : moP (paP s q N f) := fun H H1 hp hk => paP_k hp (hk q (paP_lt hp))
theorem mo_and {P1 P2 : Heap → Prop} (h1 : moP P1) (h2 : moP P2) : moP (fun H => P1 H ∧ P2 H) := fun H H1 hp hk => ⟨h1 H H1 hp.1 hk, h2 H H1 hp.2 hk⟩
theorem k_anew (C : Ok X own cc nL d) {N a idx : Nat} (hAO : va_AO RX3 (xs X)) (hP : moP P) (ha : (xs X).heap.size + ck = a) (hN : N < 100000) (hc : ck + 1 ≤ (xR X).cells) (hs : cs + N ≤ (xR X).slots) (hcl : Cond.classLink own idx RX3 ∈ lwg) (hd : decode cc pc = .ok (.anewarray idx, 3)) (kk : KJ X (ck + 1) (cs + N) L (fun H => P H ∧ paP (xs X) a N (fun _ => none) H) (pc + 3) ls (vR a :: st)) : KJ X ck cs L P pc ls (vI (N : Int) :: st) := fun H locs jl h0 h1 h1p h2 h3 => by
  have hn : inR (N : Int) := ⟨by omega, by omega⟩
  have hNn : (Int32.ofInt (N : Int)).toNatClampNeg = N := by rw [oi_nat hn]; omega
  refine W.anew C.1 C.2.1 C.2.2.2.1 (C.2.2.2.2.1 _ hcl) (va_AO.use hAO) rfl hd rfl (by rw [← oi_0, oi_lt hn (by decide)]; omega) (by rw [hNn]; omega) hc (by rw [hNn]; exact hs) fun cA kA comp f1 f2 f3 f4 => ?_
  rw [hNn]
  generalize hH1 : H.push ({ cls := cA, slots := Array.replicate N .null, vm := .none } : Cell) = H1
  have z1 : H1.size = H.size + 1 := by rw [← hH1, Array.size_push]
  have e1 : H1[H.size]? = some (arrV cA N (fun _ => .null)) := by rw [← hH1, Array.getElem?_push_size, ← arrV_new]
  have o1 : ∀ q : Nat, q < H.size → H1[q]? = H[q]? := fun q hq => by rw [← hH1, Array.getElem?_push, if_neg (Nat.ne_of_lt hq)]
  have hAr : ArrOfT (xs X) cA (.object RX3) := fun N z => ⟨(fun k h => by cases h), kA, f2, comp, f3⟩
  have hsz : H.size = a := h0.trans ha
  rw [hsz] at e1
  have := kk H1 locs jl (by omega) (lgH_k h1 o1) ⟨hP H H1 h1p o1, cA, hAr, ⟨kA, comp, f2, f3, f4, f1⟩, e1⟩ ⟨Nat.le_trans h2.1 (by omega), fun q h5 h6 => (o1 q (Nat.lt_of_lt_of_le h5 h2.1)).trans (h2.2.1 q h5 h6), h2.2.2⟩ h3
  show W _ _ _ _ _ _ _ _ _ _ _ _ _ _ _ (F0 _ _ _ (Value.ref H.size :: _))
  rw [hsz]
  exact this
theorem k_get {P2 : Heap → Prop} {h : Nat} (C : Ok X own cc nL d) {ci k N idx : Nat} {Cn : String} {T : u_T} {fs : List Value} {a : AV} (hc : vwCl[ci]? = some (Cn, T, N)) (hin : ∀ w ∈ u_ws Cn T N, w ∈ lwg) (hk : k < N) (hl : Cond.fieldLink own idx (T k).1 (T k).2.1 (T k).2.2.1 ∈ lwg) (ha : fs[k]? = some (cv a))
    (hd : decode cc pc = .ok (.getfield idx, 3)) (kk : KJ X ck cs L (fun H => rwO (woG (xV X)) h ci fs H ∧ P2 H) (pc + 3) ls (a :: st)) : KJ X ck cs L (fun H => rwO (woG (xV X)) h ci fs H ∧ P2 H) pc ls (vR h :: st) := fun H locs jl h0 h1 h1p h2 h3 =>
  va_get (D := woG (xV X)) (cl := vwCl) (ws := [(h, .inr (ci, fs))]) C.1 C.2.1 C.2.2.2.2.1 hin C.2.2.2.1 C.2.2.2.2.2.2.1.1 (by
    intro k e he
    have hk : k < 1 := (List.getElem?_eq_some_iff.mp he).1
    rw [show k = 0 by omega] at he
    cases he
    exact h1p.1) 0 rfl hc k hk (C.2.2.2.2.1 _ hl) (fun _ h => h) ha hd (kk H locs jl h0 h1 h1p h2 h3)
theorem k_alenP {P1 : Heap → Prop} {q N : Nat} {f : Nat → Option Nat} (C : Ok X own cc nL d) (hd : decode cc pc = .ok (.arraylength, 1)) (kk : KJ X ck cs L (fun H => P1 H ∧ paP (xs X) q N f H) (pc + 1) ls (vI (N : Int) :: st)) : KJ X ck cs L (fun H => P1 H ∧ paP (xs X) q N f H) pc ls (vR q :: st) := fun H locs jl h0 h1 h1p h2 h3 => by
  obtain ⟨cA, g1, g2, g3⟩ := h1p.2
  exact W.alen C.1 C.2.1 g3 (g1 N _) (by rw [vp_cell_q, arrV_size]; exact oi_ofNat N) rfl rfl hd (kk H locs jl h0 h1 h1p h2 h3)
theorem k_aastP {P1 : Heap → Prop} {q N v : Nat} {j : Nat} {f g : Nat → Option Nat} {L2 : List Rg} {r : Rg} (C : Ok X own cc nL d) (hL : L = r :: L2) (hr0 : r.2.1 0 = some (.inl 3)) (hrv : r.1 = v) (hP1 : ∀ H H1 : Heap, P1 H → (∀ x : Nat, x ≠ q → H1[x]? = H[x]?) → P1 H1) (hq : woB (xV X) ≤ q) (hLq : ∀ x ∈ L, q < x.1) (hj : j < N) (hN : N < 100000) (hg : ∀ i, i < N → g i = if i = j then some v else f i)
    (hd : decode cc pc = .ok (.aastore, 1)) (kk : KJ X ck cs L (fun H => P1 H ∧ paP (xs X) q N g H) (pc + 1) ls st) : KJ X ck cs L (fun H => P1 H ∧ paP (xs X) q N f H) pc ls (vR v :: vI (j : Int) :: vR q :: st) := fun H locs jl h0 h1 h1p h2 h3 => by
  obtain ⟨h1p, cA, g1, g2, g3⟩ := h1p
  have hr : inR (j : Int) := ⟨by omega, by omega⟩
  have hK := C.2.2.2.2.2.2.1.1
  have hcv : cellAt (woG (xV X)) (xs X) H v (r.2.2 0) (.inl 3) := by
    have := h1 r (by rw [hL]; exact List.mem_cons_self) 0 _ hr0
    rw [hrv] at this
    exact this
  obtain ⟨r', hr', cellV, v1, v2, v3, -⟩ := hcv
  have hcls := (hK.1 3 (RX3, TX3, 8) rfl).2
  obtain ⟨kA, comp, k1, k2, k3, k4⟩ := g2
  have hcomp : comp = (woG (xV X)).1 3 := Option.some.inj (k3.symm.trans hcls.1)
  subst hcomp
  obtain ⟨kC, hkC, -⟩ := hcls.2
  have hin := oi_in (i := (j : Int)) (N := N) (by omega) (by omega) (by omega) (Nat.le_refl N)
  refine W.aast C.1 C.2.1 g3 (fun q h => by cases h) (fun h => by cases h) k1 k2 rfl hkC ⟨fun z => hin (Or.inl z), by show _ < (arrV _ _ _).slots.size; rw [arrV_size]; exact Nat.not_le.mp fun z => hin (Or.inr z)⟩ v1 (fun q h => by rw [v3] at h; cases h) (by rw [v2]; exact hkC) (by rw [v2]; exact va_assign hcls) rfl rfl hd fun H' e1 e2 e3 => ?_
  refine kk H' _ jl (by omega) (fun x hx o e he => cellAt_kept (h1 x hx o e he) (e3 (x.1 + o) (show x.1 + o ≠ q by have := hLq x hx; omega))) ⟨hP1 H H' h1p e3, cA, g1, ⟨kA, _, k1, k2, k3, k4⟩, ?_⟩ (h2.put e2 e3 hq) h3
  rw [e1]
  rw [vp_cell_q, vp_cell_q, arrV_store]
  refine congrArg some (arrV_ext (fun i hi => ?_))
  rw [oi_nat hr]
  rw [hg i hi]
  by_cases hji : i = j
  · subst hji
    simp [updV, va_rf]
  · have : i ≠ (j : Int).toNat := by omega
    simp [updV, this, hji]
end RowsK2
def rH : Nat → Option SE := fun o => if o = 0 then some (.inl 1) else if o = 1 then some (.inr (2, 6)) else if o < 74 then rS ((o - 2) % 12) else none
def iH (μ : Mem) (z a : Nat) : Nat → Int → Int := fun o => if o = 0 then s1 (fun _ => 0) 1 0 else if o = 1 then fun q => 12 * q + (a + 2) else iS μ z ((o - 2) % 12)
/-- the states that are there -/
def lsH (μ : Mem) (z a : Nat) : Nat → List Rg
  | 0 => []
  | j + 1 => (a + (2 + 12 * j), rS, iS μ z) :: lsH μ z a j
theorem lsH_lt (μ : Mem) (z a : Nat) : ∀ j, ∀ x ∈ lsH μ z a j, a + 1 < x.1
  | 0, x, hx => by cases hx
  | j + 1, x, hx => (List.mem_cons.mp hx).elim (fun e => by subst e; show a + 1 < a + (2 + 12 * j); omega) (lsH_lt μ z a j x)
theorem lsH_in (μ : Mem) (z a : Nat) : ∀ j t, t < j → (a + (2 + 12 * t), rS, iS μ z) ∈ lsH μ z a j
  | 0, t, h => absurd h (Nat.not_lt_zero t)
  | j + 1, t, h => by
    by_cases c : t = j
    · subst c
      exact List.mem_cons_self
    · exact List.mem_cons_of_mem _ (lsH_in μ z a j t (by omega))
def paf (a j : Nat) : Nat → Option Nat := fun i => if i < j then some (a + (2 + 12 * i)) else none

set_option maxRecDepth 20000 in
set_option maxHeartbeats 2000000 in
theorem kX1_init {V : Wo} {μ : Mem} (hlo : loV V) (hz : woS V (woZ V).2.2 = some (.inr (0, 3))) : ICon V μ 3 yX1_init cX1_init 2 1 fs0X1 73 1092 rH (iH μ (woZ V).2.2) := by
  refine icon_of (ls0 := fun a => [vR a, vU]) (by decide +kernel) rfl (fun a => rfl) (fun a => Nat.le_refl _) (Nat.le_of_ble_eq_true rfl) (fun X a hV ha C hF => ?_)
  have C : Ok X RX1 cX1_init 2 3 := C
  obtain ⟨hF1, hFQ, hfl, hnm, hHp, hAO, hce, hsl, hsz⟩ := id hF
  have hba : woB (xV X) ≤ a := by rw [hV]; exact Nat.le_refl _
  refine k_aload_n C dX1_init_0 rfl ?_
  refine k_obj C (by decide) oi_X1 dX1_init_1 ?_
  refine k_aload_n C dX1_init_4 rfl ?_
  refine k_bipush C dX1_init_5 rfl ?_
  refine k_anew (N := 6) (a := a + 1) C hAO mo_rw (by omega) (by decide) (by omega) (by omega) cl_X1_9 dX1_init_7 ?_
  refine k_putF2 (ci := 1) (k := 0) (N := 2) (Cn := RX1) (T := TX1) (fun H H1 hp hk => paP_k hp (hk _ (by omega))) C hnm hba lt_n rfl ingX1 tyX1 tyX1_ok nmX1 (by decide) fl_X1_11 rfl rfl (tyX1_ok 0 (by decide)) rfl rfl (Nat.le_of_ble_eq_true rfl) dX1_init_10 ?_
  refine k_iconst C dX1_init_13 ?_
  refine k_istore_n C dX1_init_14 (by decide) rfl ?_
  suffices h : ∀ n j : Nat, j + n = 6 → KJ X (0 + 1 + 12 * j) (0 + 6 + 181 * j) (lsH μ (woZ V).2.2 a j) (fun H => rwO (woG (xV X)) a 1 (fs0X1.set 0 (.ref (a + 1))) H ∧ paP (xs X) (a + 1) 6 (paf a j) H) 15 [vR a, vI (j : Int)] [] by
    have h0 := h 6 0 rfl
    rw [show paf a 0 = fun _ => none from funext fun i => if_neg (Nat.not_lt_zero i)] at h0
    exact h0
  intro n
  induction n with
  | zero =>
    intro j hj
    have hj6 : j = 6 := by omega
    subst hj6
    refine k_iload_n C dX1_init_15 rfl ?_
    refine k_aload_n C dX1_init_16 rfl ?_
    refine k_get (k := 0) (N := 2) (T := TX1) (Cn := RX1) (a := vR (a + 1)) C rfl ingX1 (by decide) fl_X1_11 rfl dX1_init_17 ?_
    refine k_alenP C dX1_init_20 ?_
    refine k_icmp_ge (tgt := 43) C dX1_init_21 (by decide) (by decide) (by decide) (fun c => ?_) (fun c => absurd c (by decide))
    refine k_toR (r := rH) (j := iH μ (woZ V).2.2 a) hV hlo ha hF (fun H h1 h1p o e he => ?_) ?_
    · rw [hV] at h1p
      obtain ⟨p1, cA, p2, p3, p4⟩ := h1p
      have he : (if o = 0 then some (.inl 1) else if o = 1 then some (.inr (2, 6)) else if o < 74 then rS ((o - 2) % 12) else none) = some e := he
      by_cases c0 : o = 0
      · subst c0
        rw [if_pos rfl] at he
        cases he
        exact p1
      · rw [if_neg c0] at he
        by_cases c1 : o = 1
        · subst c1
          rw [if_pos rfl] at he
          cases he
          refine ⟨by decide, cA, p2, p3, ?_⟩
          show H[a + 1]? = _
          rw [p4]
          rw [vp_cell_q, vp_cell_q]
          refine congrArg some (arrV_ext (fun i hi => ?_))
          show va_rf (paf a 6 i) = va_rf (some (12 * (i : Int) + ((a : Int) + 2)).toNat)
          unfold paf
          rw [if_pos hi]
          congr 2
          omega
        · rw [if_neg c1] at he
          by_cases c2 : o < 74
          · rw [if_pos c2] at he
            have h7 := h1 _ (lsH_in μ (woZ V).2.2 a 6 ((o - 2) / 12) (by omega)) ((o - 2) % 12) e he
            have ea : (a + (2 + 12 * ((o - 2) / 12)), rS, iS μ (woZ V).2.2).1 + (o - 2) % 12 = a + o := by
              show a + (2 + 12 * ((o - 2) / 12)) + (o - 2) % 12 = a + o
              omega
            rw [ea] at h7
            show cellAt (woG V) (xs X) H (a + o) (iH μ (woZ V).2.2 a o) e
            rw [show iH μ (woZ V).2.2 a o = iS μ (woZ V).2.2 ((o - 2) % 12) from (if_neg c0).trans (if_neg c1)]
            exact h7
          · rw [if_neg c2] at he
            cases he
    have C : Ok (toX X (exV V a rH) (0 + 1 + 12 * 6) (0 + 6 + 181 * 6)) RX1 cX1_init 2 3 := ok_toX C hV (by omega) (by omega)
    have S0 : woS (exV V a rH) a = some (.inl 1) := ex_s (o := 0) rfl
    refine r_aload_n C dX1_init_43 rfl ?_
    refine r_iconst C dX1_init_44 ?_
    refine pf_X1_18 C S0 (Nat.le_refl _) dX1_init_45 ?_
    refine r_vretI (μ := μ) C hF dX1_init_48 (fun o ho => ?_)
    by_cases c0 : o = 0
    · subst c0
      simp (disch := omega) only [Nat.add_zero, wr_s, om_0]
      refine funext fun x => ?_
      show s1 (s1 (fun _ => 0) 1 0) 1 0 x = s1 (fun _ => 0) 1 0 x
      unfold s1
      split <;> rfl
    · rw [wr_n _ _ (by omega), om_s]
  | succ n ih =>
    intro j hj
    have hj6 : (j : Int) < 6 := by omega
    refine k_iload_n C dX1_init_15 rfl ?_
    refine k_aload_n C dX1_init_16 rfl ?_
    refine k_get (k := 0) (N := 2) (T := TX1) (Cn := RX1) (a := vR (a + 1)) C rfl ingX1 (by decide) fl_X1_11 rfl dX1_init_17 ?_
    refine k_alenP C dX1_init_20 ?_
    refine k_icmp_ge (tgt := 43) C dX1_init_21 (by decide) ⟨by omega, by omega⟩ (by decide) (fun c => absurd c (by omega)) (fun c => ?_)
    refine k_aload_n C dX1_init_24 rfl ?_
    refine k_get (k := 0) (N := 2) (T := TX1) (Cn := RX1) (a := vR (a + 1)) C rfl ingX1 (by decide) fl_X1_11 rfl dX1_init_25 ?_
    refine k_iload_n C dX1_init_28 rfl ?_
    refine k_mk (V := V) (μ := μ) (b := a) (a := a + (2 + 12 * j)) (ci := 3) (N := 8) (k := 11) (n := 173) (d' := 2) (Cn := RX3) (T := TX3) (fs := fs0X3) (r := rS) (i := (fun _ => iS μ (woZ V).2.2)) C hV hlo ha hfl hHp hAO (mo_and mo_rw mo_pa) (by omega) (by omega) rfl ingX3 tyX3 tyX3_ok fs0X3_ok cl_X1_9 in_X3 ini_X3 lm_X3_init rfl im_X3_init (Or.inl ml_X1_17) (by decide) dX1_init_29 dX1_init_32 dX1_init_33 (by omega) (by omega) (Nat.le_of_ble_eq_true rfl) (kX3_init hlo hz) (by decide) ?_
    refine k_aastP (g := paf a (j + 1)) C rfl rfl rfl (fun H H1 hp hk => va_at.kept (D := woG (xV X)) (cl := vwCl) (q := (a, .inr (1, fs0X1.set 0 (.ref (a + 1))))) hp (hk a (by omega))) (by omega) (lsH_lt μ _ a (j + 1)) (by omega) (by decide) (fun i hi => ?_) dX1_init_36 ?_
    · unfold paf
      by_cases c1 : i = j
      · subst c1
        rw [if_pos rfl, if_pos (by omega)]
      · rw [if_neg c1]
        by_cases c2 : i < j
        · rw [if_pos c2, if_pos (by omega)]
        · rw [if_neg c2, if_neg (by omega)]
    · refine k_iinc C dX1_init_37 rfl (by decide) rfl ?_
      refine k_goto (tgt := 15) C dX1_init_40 (by decide) ?_
      have h7 := ih (j + 1) (by omega)
      rw [show 0 + 1 + 12 * (j + 1) = 0 + 1 + 12 * j + 1 + 11 by omega, show 0 + 6 + 181 * (j + 1) = 0 + 6 + 181 * j + 8 + 173 by omega] at h7
      exact h7
