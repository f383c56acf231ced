/-! fields, arrays, contracts, calls, ends -/
theorem hp_end {V : Wo} {s t : State} {μ : Mem} {H : Heap} (h1 : Hp V s μ H) (ht : t.heap = H) (hW : s.WarmedH t.vm) : Hp V t μ t.heap := by rw [ht]; exact zHp_m hW.alike h1
section Rows2
variable {X : Cx} {own : String} {cc : ByteArray} {nL d : Nat} {μ : Mem} {pc : Nat} {ls st : List AV}
theorem one_P {V : Wo} {s : State} {H : Heap} {q ci : Nat} (h : Hp V s μ H) (hs : woS V q = some (.inl ci)) : va_P (woG V) vwCl [(q, .inr (ci, fv ci q (μ q)))] H := by
  intro k e he
  have hk : k < 1 := (List.getElem?_eq_some_iff.mp he).1
  rw [show k = 0 by omega] at he
  cases he
  exact h q _ hs
theorem r_get (C : Ok X own cc nL d) {q ci k N idx : Nat} {Cn : String} {T : u_T} {a : AV} (hs : woS (xV X) q = some (.inl ci)) (hc : vwCl[ci]? = some (Cn, T, N)) (hin : ∀ w ∈ u_ws Cn T N, w ∈ lwg) (hk : k < N) (hl : Cond.fieldLink own idx (T k).1 (T k).2.1 (T k).2.2.1 ∈ lwg) (ha : (fv ci q (μ q))[k]? = some (cv a))
    (hd : decode cc pc = .ok (.getfield idx, 3)) (kk : RR X μ (pc + 3) ls (a :: st)) : RR X μ pc ls (vR q :: st) := fun H locs jl h1 h2 h3 =>
  va_get C.1 C.2.1 C.2.2.2.2.1 hin C.2.2.2.1 C.2.2.2.2.2.2.1.1 (one_P h1 hs) 0 rfl hc k hk (C.2.2.2.2.1 _ hl) (fun _ h => h) ha hd (kk H locs jl h1 h2 h3)
theorem r_put (C : Ok X own cc nL d) {q ci k N idx : Nat} {kz x : Int} {Cn : String} {T : u_T} {a : AV} (hs : woS (xV X) q = some (.inl ci)) (hb : woB (xV X) ≤ q) (hc : vwCl[ci]? = some (Cn, T, N)) (hin : ∀ w ∈ u_ws Cn T N, w ∈ lwg) (ty0 : Nat → FieldType) (hty : ∀ k, k < N → parseFieldDescriptor (T k).2.2.1 = some (ty0 k)) (hnm : ∀ a, a < N → ∀ b, b < N → a ≠ b → (T a).2.1 ≠ (T b).2.1)
    (hk : k < N) (hl : Cond.fieldLink own idx (T k).1 (T k).2.1 (T k).2.2.1 ∈ lwg) (hfin : (T k).2.2.2 = false) {ty : FieldType} (hd0 : parseFieldDescriptor (T k).2.2.1 = some ty) (hn : narrow ty (cv a) = cv a) (hfit : fits ty (cv a) = true) (hkl : k < (fv ci q (μ q)).length) (hv : fv ci q (s1 (μ q) kz x) = (fv ci q (μ q)).set k (cv a))
    (hd : decode cc pc = .ok (.putfield idx, 3)) (kk : RR X (wr μ q (s1 (μ q) kz x)) (pc + 3) ls st) : RR X μ pc ls (a :: vR q :: st) := fun H locs jl h1 h2 h3 => by
  obtain ⟨hx, hb', hml, hown, hts, -, hW, -⟩ := C
  have hK := hW.1
  have hap := va_apart (own := own) hts hin ty0 hty hnm hK hc
  obtain ⟨r, e1, cell, q1, q2, q3, q4⟩ := h1 q _ hs
  have hr : r = (Cn, T, N) := Option.some.inj (e1.symm.trans hc)
  subst hr
  obtain ⟨hS, hfc, kC, hkC, hkind⟩ := hK.1 ci _ hc
  obtain ⟨cf, kf, fi, f, hi, hsl⟩ := hS k hk
  have hlay := hts _ (hin _ (u_in_lay hk))
  unfold u_lay at hlay
  rw [if_neg (by rw [hfin]; decide)] at hlay
  have hst := (u_facts hfc hkC (u_lays hts hin hk) hi).1
  have h6 := u_store hfc hkC hkind hlay hi hd0 hn hfit
  refine W.putK hx hb' (f := f) ⟨hown, hts _ hl, ⟨_, _, _, hi⟩, hst⟩ (by rw [q2]; exact h6) q1 q3 (by rw [hsl]; exact k2_hasslot (q4 k hk)) rfl rfl hd fun H' e1 e2 e3 => ?_
  rw [hsl] at e1 ⊢
  refine kk H' _ jl (zHp_w h1 e3 (fun e he => ?_)) (h2.put e2 e3 hb) h3
  rw [hs] at he
  cases he
  refine ⟨_, hc, ?_⟩
  rw [show (q, (Sum.inr (ci, fv ci q (s1 (μ q) kz x)) : va_E)).1 = q from rfl]
  show t_OB q _ _ _ H' (vp_V (fv ci q (s1 (μ q) kz x)))
  rw [hv]
  exact t_OB.to (V := updV (vp_V (fv ci q (μ q))) k (cv a)) ⟨_, e1, q2, q3, t_set q4 hap hk (cv a)⟩ (fun j _ => vp_updV_set hkl (cv a) j)
theorem toNat_cast {i : Int} (h : 0 ≤ i) : ((i.toNat : Nat) : Int) = i := Int.toNat_of_nonneg h
theorem r_iald (C : Ok X own cc nL d) {q N : Nat} {i : Int} (hs : woS (xV X) q = some (.inr (0, N))) (h0 : 0 ≤ i) (hi : i < (N : Int)) (hd : decode cc pc = .ok (.iaload, 1)) (kk : RR X μ (pc + 1) ls (vI (μ q i) :: st)) : RR X μ pc ls (vI i :: vR q :: st) := fun H locs jl h1 h2 h3 => by
  obtain ⟨cell, c1, c2, c3, c4, c5, c6, c7⟩ : zArr _ _ _ _ _ _ := h1 q _ hs
  refine W.iald (v := i5 (μ q i)) C.1 C.2.1 c1 c2 c3 (oi_in h0 hi c4 c5) ?_ rfl rfl hd (kk H locs jl h1 h2 h3)
  rw [oi_nat ⟨by omega, by omega⟩, c7 i.toNat (by omega)]
  show some (i5 (μ q ((i.toNat : Nat) : Int))) = _
  rw [toNat_cast h0]
theorem r_lald (C : Ok X own cc nL d) {q N : Nat} {i : Int} (hs : woS (xV X) q = some (.inr (1, N))) (h0 : 0 ≤ i) (hi : i < (N : Int)) (hd : decode cc pc = .ok (.laload, 1)) (kk : RR X μ (pc + 1) ls (vV (.long (Int64.ofInt (μ q i))) :: st)) : RR X μ pc ls (vI i :: vR q :: st) := fun H locs jl h1 h2 h3 => by
  obtain ⟨cell, c1, c2, c3, c4, c5, c6, c7⟩ : zArr _ _ _ _ _ _ := h1 q _ hs
  refine W.lald (v := .long (Int64.ofInt (μ q i))) C.1 C.2.1 c1 c2 c3 (oi_in h0 hi c4 c5) ?_ rfl rfl hd (kk H locs jl h1 h2 h3)
  rw [oi_nat ⟨by omega, by omega⟩, c7 i.toNat (by omega)]
  show some (Value.long (Int64.ofInt (μ q ((i.toNat : Nat) : Int)))) = _
  rw [toNat_cast h0]
theorem zArr_set {s : State} {H H' : Heap} {q N : Nat} {ty : FieldType} {f g : Nat → Value} {cell : Cell} {i : Nat} {v : Value} (hi : i < N) (c1 : H[q]? = some cell) (c2 : s.isArrayOf cell ty) (c3 : cell.vm ≠ .unknown) (c4 : N < 2 ^ 31) (c5 : N ≤ cell.slots.size) (c6 : cell.slots.size.toInt32 = Int32.ofNat N) (c7 : ∀ j : Nat, j < N → cell.slots[j]? = some (f j))
    (e1 : H'[q]? = some (cell.setSlot i v)) (hg : ∀ j, j < N → g j = if j = i then v else f j) : zArr s H' q ty N g := by
  refine ⟨_, e1, c2, c3, c4, ?_, ?_, fun j hj => ?_⟩
  · show N ≤ (cell.slots.setIfInBounds i v).size
    rw [Array.size_setIfInBounds]; exact c5
  · show (cell.slots.setIfInBounds i v).size.toInt32 = _
    rw [Array.size_setIfInBounds]; exact c6
  · show (cell.slots.setIfInBounds i v)[j]? = _
    rw [hg j hj]
    by_cases hji : j = i
    · subst hji
      rw [Array.getElem?_setIfInBounds_self_of_lt (by omega), if_pos rfl]
    · rw [Array.getElem?_setIfInBounds_ne (Ne.symm hji), if_neg hji]
      exact c7 j hj
theorem r_iast (C : Ok X own cc nL d) {q N : Nat} {i x : Int} (hs : woS (xV X) q = some (.inr (0, N))) (hb : woB (xV X) ≤ q) (h0 : 0 ≤ i) (hi : i < (N : Int)) (hd : decode cc pc = .ok (.iastore, 1)) (kk : RR X (wr μ q (s1 (μ q) i x)) (pc + 1) ls st) : RR X μ pc ls (vI x :: vI i :: vR q :: st) := fun H locs jl h1 h2 h3 => by
  obtain ⟨cell, c1, c2, c3, c4, c5, c6, c7⟩ : zArr _ _ _ _ _ _ := h1 q _ hs
  refine W.iast C.1 C.2.1 c1 c2 c3 (oi_in h0 hi c4 c5) rfl rfl hd fun H' e1 e2 e3 => ?_
  rw [oi_nat ⟨by omega, by omega⟩] at e1 ⊢
  refine kk H' _ jl (zHp_w h1 e3 (fun e he => ?_)) (h2.put e2 e3 hb) h3
  rw [hs] at he
  cases he
  refine zArr_set (f := aI (μ q)) (by omega) c1 c2 c3 c4 c5 c6 c7 e1 (fun j hj => ?_)
  show i5 (s1 (μ q) i x (j : Int)) = _
  by_cases hji : j = i.toNat
  · rw [if_pos hji, show (j : Int) = i by omega, s1_s]
  · rw [if_neg hji, s1_n _ _ (by omega)]
    rfl
theorem r_last (C : Ok X own cc nL d) {q N : Nat} {i : Int} {x : Int64} (hs : woS (xV X) q = some (.inr (1, N))) (hb : woB (xV X) ≤ q) (h0 : 0 ≤ i) (hi : i < (N : Int)) (hd : decode cc pc = .ok (.lastore, 1)) (kk : RR X (wr μ q (s1 (μ q) i x.toInt)) (pc + 1) ls st) : RR X μ pc ls (vV (.long x) :: vI i :: vR q :: st) := fun H locs jl h1 h2 h3 => by
  obtain ⟨cell, c1, c2, c3, c4, c5, c6, c7⟩ : zArr _ _ _ _ _ _ := h1 q _ hs
  refine W.last C.1 C.2.1 c1 c2 c3 (oi_in h0 hi c4 c5) rfl rfl hd fun H' e1 e2 e3 => ?_
  rw [oi_nat ⟨by omega, by omega⟩] at e1 ⊢
  refine kk H' _ jl (zHp_w h1 e3 (fun e he => ?_)) (h2.put e2 e3 hb) h3
  rw [hs] at he
  cases he
  refine zArr_set (f := aL (μ q)) (by omega) c1 c2 c3 c4 c5 c6 c7 e1 (fun j hj => ?_)
  show Value.long (Int64.ofInt (s1 (μ q) i x.toInt (j : Int))) = _
  by_cases hji : j = i.toNat
  · rw [if_pos hji, show (j : Int) = i by omega, s1_s, Int64.ofInt_toInt]
  · rw [if_neg hji, s1_n _ _ (by omega)]
    rfl
theorem oi_ofNat (n : Nat) : Int32.ofNat n = Int32.ofInt (n : Int) := by first | rfl | (rw [Int32.ofInt_eq_ofNat]) | simp
theorem r_alen (C : Ok X own cc nL d) {q N : Nat} (hs : woS (xV X) q = some (.inr (0, N))) (hd : decode cc pc = .ok (.arraylength, 1)) (kk : RR X μ (pc + 1) ls (vI (N : Int) :: st)) : RR X μ pc ls (vR q :: st) := fun H locs jl h1 h2 h3 => by
  obtain ⟨cell, c1, c2, c3, c4, c5, c6, c7⟩ : zArr _ _ _ _ _ _ := h1 q _ hs
  exact W.alen C.1 C.2.1 c1 c2 (c6.trans (oi_ofNat N)) rfl rfl hd (kk H locs jl h1 h2 h3)
theorem r_alenS (C : Ok X own cc nL d) {q N : Nat} (hs : woS (xV X) q = some (.inr (2, N))) (hd : decode cc pc = .ok (.arraylength, 1)) (kk : RR X μ (pc + 1) ls (vI (N : Int) :: st)) : RR X μ pc ls (vR q :: st) := fun H locs jl h1 h2 h3 => by
  obtain ⟨h0, cA, g1, g2, g3⟩ : _ ∧ ∃ cA : ClassId, _ := h1 q _ hs
  refine va_alen (D := woG (xV X)) (cl := vwCl) (tys := [(cA, .object RX3)]) (ws := [(q, .inl (cA, (N, .inr (.inr (.inr (.inr (fun j : Nat => some (μ q (j : Int)).toNat)))))))]) C.1 C.2.1 ⟨C.2.2.2.2.2.2.1.1.1, ?_⟩ ?_ 0 0 rfl rfl (oi_ofNat N) hd (kk H locs jl h1 h2 h3)
  · intro k e he
    have hk : k < 1 := (List.getElem?_eq_some_iff.mp he).1
    rw [show k = 0 by omega] at he
    cases he
    exact ⟨g1, g2⟩
  · intro k e he
    have hk : k < 1 := (List.getElem?_eq_some_iff.mp he).1
    rw [show k = 0 by omega] at he
    cases he
    exact g3
theorem r_aald (C : Ok X own cc nL d) {q N : Nat} {i : Int} (hs : woS (xV X) q = some (.inr (2, N))) (h0 : 0 ≤ i) (hi : i < (N : Int)) (hd : decode cc pc = .ok (.aaload, 1)) (kk : RR X μ (pc + 1) ls (vR (μ q i).toNat :: st)) : RR X μ pc ls (vI i :: vR q :: st) := fun H locs jl h1 h2 h3 => by
  obtain ⟨hN, cA, g1, g2, g3⟩ : _ ∧ ∃ cA : ClassId, _ := h1 q _ hs
  have hr : inR i := ⟨by omega, by omega⟩
  refine va_aldq (D := woG (xV X)) (cl := vwCl) (tys := [(cA, .object RX3)]) (ws := [(q, .inl (cA, (N, .inr (.inr (.inr (.inr (fun j : Nat => some (μ q (j : Int)).toNat)))))))]) C.1 C.2.1 ⟨C.2.2.2.2.2.2.1.1.1, ?_⟩ ?_ 0 0 rfl rfl (oi_in h0 hi hN (Nat.le_refl N)) hd ?_
  · intro k e he
    have hk : k < 1 := (List.getElem?_eq_some_iff.mp he).1
    rw [show k = 0 by omega] at he
    cases he
    exact ⟨g1, g2⟩
  · intro k e he
    have hk : k < 1 := (List.getElem?_eq_some_iff.mp he).1
    rw [show k = 0 by omega] at he
    cases he
    exact g3
  · have := kk H locs jl h1 h2 h3
    show W _ _ _ _ _ _ _ _ _ _ _ _ _ _ _ (F0 _ _ _ (Value.ref (μ q (((Int32.ofInt i).toNatClampNeg : Nat) : Int)).toNat :: _))
    rw [oi_nat hr, toNat_cast h0]
    exact this
theorem r_aast (C : Ok X own cc nL d) {q N v : Nat} {i : Int} (hs : woS (xV X) q = some (.inr (2, N))) (hb : woB (xV X) ≤ q) (hv : woS (xV X) v = some (.inl 3)) (h0 : 0 ≤ i) (hi : i < (N : Int)) (hd : decode cc pc = .ok (.aastore, 1)) (kk : RR X (wr μ q (s1 (μ q) i (v : Int))) (pc + 1) ls st) : RR X μ pc ls (vR v :: vI i :: vR q :: st) := fun H locs jl h1 h2 h3 => by
  obtain ⟨hN, cA, g1, g2, g3⟩ : _ ∧ ∃ cA : ClassId, _ := h1 q _ hs
  have hr : inR i := ⟨by omega, by omega⟩
  have hK := C.2.2.2.2.2.2.1.1
  obtain ⟨r', hr', cellV, v1, v2, v3, -⟩ := h1 v _ hv
  have hcls := (hK.1 3 (RX3, TX3, 8) rfl).2
  obtain ⟨kA, comp, k1, k2, k3, k4⟩ := g2
  have hcomp : comp = (woG (xV X)).1 3 := Option.some.inj (k3.symm.trans hcls.1)
  subst hcomp
  obtain ⟨kC, hkC, -⟩ := hcls.2
  have hin := oi_in h0 hi hN (Nat.le_refl N)
  refine W.aast C.1 C.2.1 g3 (fun q h => by cases h) (fun h => by cases h) k1 k2 rfl hkC ⟨fun z => hin (Or.inl z), by show _ < (arrV _ _ _).slots.size; rw [arrV_size]; exact Nat.not_le.mp fun z => hin (Or.inr z)⟩ v1 (fun q h => by rw [v3] at h; cases h) (by rw [v2]; exact hkC) (by rw [v2]; exact va_assign hcls) rfl rfl hd fun H' e1 e2 e3 => ?_
  refine kk H' _ jl (zHp_w h1 e3 (fun e he => ?_)) (h2.put e2 e3 hb) h3
  rw [hs] at he
  cases he
  refine ⟨hN, cA, g1, ⟨kA, _, k1, k2, k3, k4⟩, ?_⟩
  rw [e1]
  show some ((arrV cA N (fun j => va_rf (some (μ q (j : Int)).toNat))).setSlot _ _) = some (arrV cA N (fun j => va_rf (some (s1 (μ q) i (v : Int) (j : Int)).toNat)))
  rw [arrV_store]
  congr 2
  funext j
  rw [oi_nat hr]
  by_cases hji : j = i.toNat
  · have : (j : Int) = i := by omega
    simp [updV, hji, this, s1, va_rf, toNat_cast h0]
  · have : (j : Int) ≠ i := by omega
    simp [updV, hji, this, s1]
/-! contracts -/
def pcOf (V : Wo) (as : List AV) (μ : Mem) : Array Value → State → Prop := va_Pc (as.map cv) (fun U => Wd V U U.heap ∧ Hp V U μ U.heap)
def Con (V : Wo) (d : Nat) (y : MethodName) (bytes : ByteArray) (maxL : Nat) (ret : Option FieldType) (as : List AV) (μ : Mem) (Qc : Array Value → State → Outcome → State → Prop) : Prop :=
  ∀ l : Launch, l.flags = flags0 → Met l y (Cond.code y bytes maxL ret :: lwg) ({ frames := d, cells := 0, slots := 0, locals := 38 * d }) (pcOf V as μ) Qc 0 0 (woA V)
def QI (V : Wo) (x : Int) (μ : Mem) : Array Value → State → Outcome → State → Prop := va_Qi (fun r (_ : Unit) => r = Int32.ofInt x) (fun _ t => Hp V t μ t.heap) (woA V)
def QV (V : Wo) (μ : Mem) : Array Value → State → Outcome → State → Prop := va_Qv (fun (_ : Unit) => True) (fun _ t => Hp V t μ t.heap) (woA V)
def QL (V : Wo) (x : Int64) (μ : Mem) : Array Value → State → Outcome → State → Prop := va_Ql (fun r (_ : Unit) => r = x) (fun _ t => Hp V t μ t.heap) (woA V)
def QD (V : Wo) (x : UInt64) (μ : Mem) : Array Value → State → Outcome → State → Prop := va_Qd (fun r (_ : Unit) => r = x) (fun _ t => Hp V t μ t.heap) (woA V)
def QF (V : Wo) (x : UInt32) (μ : Mem) : Array Value → State → Outcome → State → Prop := va_Qf (fun r (_ : Unit) => r = x) (fun _ t => Hp V t μ t.heap) (woA V)
theorem pc_blind {V : Wo} {as : List AV} : FrameBlind (pcOf V as μ) := fun a U g mk h => by
  obtain ⟨h0, h1, h2⟩ := h
  exact ⟨h0, zWd_c h1, zHp_m (u := U) (U := U.calling g mk a) (Vm.Alike.refl U.vm) h2⟩
theorem pc_at {V : Wo} {as : List AV} {s : State} {H : Heap} {locs : List Loc} (hW : Wd V s s.heap) (hS : va_S (woA V) s.heap H locs) (hH : Hp V s μ H) : ∀ U : State, U.heap = H → s.WarmedH U.vm → pcOf V as μ (as.map cv).toArray U := fun U hU hw =>
  ⟨rfl, zWd_m hw (by rw [hU]; exact zWd_k hW hS.1 hS.2.1), zHp_m hw.alike (by rw [hU]; exact hH)⟩
def Fnl (X : Cx) (ret : Option FieldType) (Qc : Array Value → State → Outcome → State → Prop) : Prop := (xM X).sig.returnType = ret ∧ xQ X = MQ (xb X) Qc (xa X) (xs X) (xk X) (xn X) (woA (xV X)) ∧ (xl X).flags = flags0 ∧ (xk X = 0 ∧ xn X = 0)
theorem con_of {V : Wo} {d maxL : Nat} {y : MethodName} {bytes : ByteArray} {ret : Option FieldType} {as ls0 : List AV} {Qc : Array Value → State → Outcome → State → Prop} (hy : plainName y.cls = true) (hls : lvl 0 ls0 = lv_args 0 (as.map cv)) (hn : ls0.length ≤ maxL) (hn2 : (lg_sl (as.map cv)).length ≤ maxL)
    (body : ∀ X : Cx, xV X = V → Ok X y.cls bytes maxL d → Fnl X ret Qc → RR X μ 0 ls0 []) : Con V d y bytes maxL ret as μ Qc := by
  intro l hfl
  refine Met.ofW (cc := bytes) (maxL := maxL) (ret := ret) hy rfl ?_
  intro p e s m args below meth c s₁ B hml hv
  obtain ⟨rfl, hWd, hHp⟩ := hv
  have hts := atoms_spec (ws := Cond.code y bytes maxL ret :: lwg) B.pre
  have hent := lv_entry (as.map cv) (n := maxL) hn2
  have K := body (V, p, l, e, (headSpec (Cond.code y bytes maxL ret :: lwg) { frames := d, cells := 0, slots := 0, locals := 38 * d }).room, s, m, (as.map cv).toArray, below, meth, c, 0, 0, MQ below Qc (as.map cv).toArray s 0 0 (woA V)) rfl
    ⟨B.exec, B.bytes, hml, findClass_of_methodNamed B.named, fun w hw => hts w (List.mem_cons_of_mem _ hw), B.notSynchronized, hWd, rfl, Nat.le_refl _, Nat.zero_le _, Nat.zero_le _⟩ ⟨B.returns, rfl, hfl, rfl, rfl⟩ s.heap [] _ hHp va_S.rf
    (by
      show lrel ls0 c.maxLocals _
      rw [hml]
      refine lrel_o hent hn (fun i a h1 h2 => ?_)
      rw [← hls]
      exact (lvl_mem ls0 0 i _).mpr ⟨i, a, by omega, h1, h2, rfl⟩)
  rw [lg_entry_eq]
  exact K
theorem r_iret (C : Ok X own cc nL d) {x x' : Int} {μ' : Mem} (hF : Fnl X (some .int) (QI (xV X) x' μ')) (hd : decode cc pc = .ok (.ireturn, 1)) (hx : x = x') (hμ : μ = μ') : RR X μ pc ls [vI x] := fun H locs jl h1 h2 h3 => by
  subst hx; subst hμ
  rw [hF.2.1]
  exact W.iret C.1 C.2.1 hF.1 (fun t ht hW => ⟨⟨_, (), rfl, rfl, hp_end h1 ht hW⟩, h2.F ht⟩) h2.2.2 hd C.2.2.2.2.2.1
theorem r_zret (C : Ok X own cc nL d) {x x' : Int} {μ' : Mem} (hF : Fnl X (some .boolean) (QI (xV X) x' μ')) (hd : decode cc pc = .ok (.ireturn, 1)) (h01 : x = 0 ∨ x = 1) (hx : x = x') (hμ : μ = μ') : RR X μ pc ls [vI x] := fun H locs jl h1 h2 h3 => by
  subst hx; subst hμ
  rw [hF.2.1]
  exact W.zret C.1 C.2.1 hF.1 (by rcases h01 with rfl | rfl <;> rfl) (fun t ht hW => ⟨⟨_, (), rfl, rfl, hp_end h1 ht hW⟩, h2.F ht⟩) h2.2.2 hd C.2.2.2.2.2.1
theorem r_vret (C : Ok X own cc nL d) {μ' : Mem} (hF : Fnl X none (QV (xV X) μ')) (hd : decode cc pc = .ok (.return_, 1)) (hμ : μ = μ') : RR X μ pc ls [] := fun H locs jl h1 h2 h3 => by
  subst hμ
  rw [hF.2.1]
  exact W.vret C.1 C.2.1 hF.1 (fun t ht hW => ⟨⟨(), rfl, trivial, hp_end h1 ht hW⟩, h2.F ht⟩) h2.2.2 hd C.2.2.2.2.2.1
theorem r_lret (C : Ok X own cc nL d) {x x' : Int64} {μ' : Mem} (hF : Fnl X (some .long) (QL (xV X) x' μ')) (hd : decode cc pc = .ok (.lreturn, 1)) (hx : x = x') (hμ : μ = μ') : RR X μ pc ls [vV (.long x)] := fun H locs jl h1 h2 h3 => by
  subst hx; subst hμ
  rw [hF.2.1]
  exact W.lret C.1 C.2.1 hF.1 (fun t ht hW => ⟨⟨_, (), rfl, rfl, hp_end h1 ht hW⟩, h2.F ht⟩) h2.2.2 hd C.2.2.2.2.2.1
theorem r_dret (C : Ok X own cc nL d) {x x' : UInt64} {μ' : Mem} (hF : Fnl X (some .double) (QD (xV X) x' μ')) (hd : decode cc pc = .ok (.dreturn, 1)) (hx : x = x') (hμ : μ = μ') : RR X μ pc ls [vV (.double x)] := fun H locs jl h1 h2 h3 => by
  subst hx; subst hμ
  rw [hF.2.1]
  exact W.dret C.1 C.2.1 hF.1 (fun t ht hW => ⟨⟨_, (), rfl, rfl, hp_end h1 ht hW⟩, h2.F ht⟩) h2.2.2 hd C.2.2.2.2.2.1
theorem r_fret (C : Ok X own cc nL d) {x x' : UInt32} {μ' : Mem} (hF : Fnl X (some .float) (QF (xV X) x' μ')) (hd : decode cc pc = .ok (.freturn, 1)) (hx : x = x') (hμ : μ = μ') : RR X μ pc ls [vV (.float x)] := fun H locs jl h1 h2 h3 => by
  subst hx; subst hμ
  rw [hF.2.1]
  exact W.fret C.1 C.2.1 hF.1 (fun t ht hW => ⟨⟨_, (), rfl, rfl, hp_end h1 ht hW⟩, h2.F ht⟩) h2.2.2 hd C.2.2.2.2.2.1
/-! calls -/
def csum (st : List AV) : Nat := (st.map fun a => if cat2 a = true then 2 else 1).sum
theorem csum_cv (st : List AV) : ((st.map cv).map fun v => v.category).sum = csum st := by
  unfold csum
  rw [List.map_map]
  congr 1
  refine List.map_congr_left (fun a _ => ?_)
  show (cv a).category = _
  cases h : cat2 a
  · rw [cat_cv h]; rfl
  · rw [cat_cv2 h]; rfl
theorem rec_of {s : State} {V : Wo} {H : Heap} {q ci : Nat} {c : vw_C} (hK : va_K (woG V) vwCl [] s) (hH : Hp V s μ H) (hs : woS V q = some (.inl ci)) (hc : vwCl[ci]? = some c) : ∃ cell : Cell, H[q]? = some cell ∧ cell.vm.isStatics = false ∧ s.vm.findClass c.1 = some cell.cls :=
  va_recv hK (one_P hH hs) hc (q0 := 0) rfl
/-- what the tables say of a method that is called -/
def LkM (y : MethodName) (bytes : ByteArray) (maxL : Nat) (ret : Option FieldType) (n : Nat) : Prop := Cond.code y bytes maxL ret ∈ lwg ∧ Cond.initialized y.cls ∈ lwg ∧ (y.cls ≠ "java/lang/invoke/MethodHandle" ∧ y.cls ≠ "java/lang/invoke/VarHandle" ∧ (parseMethodDescriptor y.desc).map (fun d => d.parameters.length) = some n) ∧ maxL ≤ 19
theorem lk_B (C : Ok X own cc nL d) {y : MethodName} {bytes : ByteArray} {maxL n d' idx : Nat} {ret : Option FieldType} (hm : LkM y bytes maxL ret n) (hl : Cond.methodLink own idx y ∈ lwg) (hlev : d' + 1 ≤ d) :
    CallB (xR X) (xs X) (xa X) own idx y bytes maxL ret (Cond.code y bytes maxL ret :: lwg) ({ frames := d', cells := 0, slots := 0, locals := 38 * d' }) 0 0 n := by
  obtain ⟨m1, m2, m3, m4⟩ := hm
  have hts := C.2.2.2.2.1
  have h1 := C.2.2.2.2.2.2.2.1
  have h2 := C.2.2.2.2.2.2.2.2.1
  exact callB_of n hts (lwg_in (fun w hw => (List.mem_cons.mp hw).elim (fun e => by rw [e]; exact m1) (fun h => h))) rfl rfl rfl (hts _ m2) (hts _ hl) m3 ⟨by show d' + 1 ≤ _; omega, by show 8 + (maxL + 11) + 38 * d' ≤ _; omega⟩
theorem lk_N (C : Ok X own cc nL d) {y : MethodName} {bytes : ByteArray} {maxL n d' idx : Nat} {host : String} {ret : Option FieldType} (hm : LkM y bytes maxL ret n) (hl : Cond.methodLinkNest own idx y host ∈ lw_tbl) (hlev : d' + 1 ≤ d) :
    va_CN (xR X) (xs X) (xa X) own idx y host bytes maxL ret (Cond.code y bytes maxL ret :: lwg) ({ frames := d', cells := 0, slots := 0, locals := 38 * d' }) 0 0 n := by
  obtain ⟨m1, m2, m3, m4⟩ := hm
  have hts := C.2.2.2.2.1
  have h1 := C.2.2.2.2.2.2.2.1
  have h2 := C.2.2.2.2.2.2.2.2.1
  exact va_cnB n hts (lwg_in (fun w hw => (List.mem_cons.mp hw).elim (fun e => by rw [e]; exact m1) (fun h => h))) rfl rfl rfl (C.2.2.2.2.2.2.1.2.1 _ hl rfl) (hts _ m2) m3 ⟨by show d' + 1 ≤ _; omega, by show 8 + (maxL + 11) + 38 * d' ≤ _; omega⟩
theorem call_fix (C : Ok X own cc nL d) : CallFix (xp X) (xm X) (xc X) cc nL (xs X) (xa X) lwg own := ⟨C.1, C.2.1, C.2.2.1, C.2.2.2.1, C.2.2.2.2.1⟩
abbrev XRun (X : Cx) (H : Heap) (locs : List Loc) (pc : Nat) (jl : Array Slot) (st0 st : List AV) (Qa : State → Outcome → State → Prop) : Prop :=
  va_Run (xp X) (xl X) (xe X) (xR X) (xs X) (xm X) (xa X) (xb X) (xM X) (xc X) H locs (xk X) (xn X) 0 0 (F0 (xm X) pc jl (st0.map cv)) (st.map cv) Qa (woA (xV X))
theorem lrel_size {ls : List AV} {n : Nat} {jl : Array Slot} (h : lrel ls n jl) : jl.size = n := h.2.1
theorem map_rv (as : List AV) (st : List AV) : (as.reverse ++ st).map cv = (as.map cv).reverse ++ st.map cv := by rw [List.map_append, List.map_reverse]
theorem run_V (C : Ok X own cc nL d) {y : MethodName} {bytes : ByteArray} {maxL d' idx q ci : Nat} {ret : Option FieldType} {as st0 : List AV} {Qc : Array Value → State → Outcome → State → Prop} {c : vw_C} (hfl : (xl X).flags = flags0) (hcon : Con (xV X) d' y bytes maxL ret (vR q :: as) μ Qc) (hm : LkM y bytes maxL ret as.length)
    (hl : Cond.methodLink own idx y ∈ lwg) (hi : Cond.instanceMethod y ∈ lwg) (hse : Cond.selects c.1 y y ∈ lwg) (hs : woS (xV X) q = some (.inl ci)) (hc : vwCl[ci]? = some c) (hlev : d' + 1 ≤ d) (hd : decode cc pc = .ok (.invokevirtual idx, 3)) (hst : st0 = as.reverse ++ vR q :: st) (hw : csum st ≤ 8)
    {H : Heap} {locs : List Loc} {jl : Array Slot} (h1 : Hp (xV X) (xs X) μ H) (h2 : va_S (woA (xV X)) (xs X).heap H locs) (h3 : lrel ls (xc X).maxLocals jl) : XRun X H locs pc jl st0 st (Qc ((vR q :: as).map cv).toArray) := by
  have hts := C.2.2.2.2.1
  subst hst
  exact va_runV (As := as.map cv) (call_fix C) (hcon (xl X) hfl) ⟨lk_B C hm hl hlev, hts _ hi, hts _ hse⟩ ⟨pc_blind, rec_of C.2.2.2.2.2.2.1.1 h1 hs hc, pc_at C.2.2.2.2.2.2.1 h2 h1⟩ rfl (List.length_map ..) ((lrel_size h3).trans C.2.2.1) (map_rv as (vR q :: st)) (by show 2 * 0 + _ ≤ 8; rw [csum_cv]; omega) hd ⟨C.2.2.2.2.2.2.2.2.2.1, C.2.2.2.2.2.2.2.2.2.2⟩
theorem run_S (C : Ok X own cc nL d) {y : MethodName} {bytes : ByteArray} {maxL d' idx : Nat} {ret : Option FieldType} {as st0 : List AV} {Qc : Array Value → State → Outcome → State → Prop} (hfl : (xl X).flags = flags0) (hcon : Con (xV X) d' y bytes maxL ret as μ Qc) (hm : LkM y bytes maxL ret as.length)
    (hl : Cond.methodLink own idx y ∈ lwg) (hi : Cond.static y ∈ lwg) (hlev : d' + 1 ≤ d) (hd : decode cc pc = .ok (.invokestatic idx, 3)) (hst : st0 = as.reverse ++ st) (hw : csum st ≤ 8)
    {H : Heap} {locs : List Loc} {jl : Array Slot} (h1 : Hp (xV X) (xs X) μ H) (h2 : va_S (woA (xV X)) (xs X).heap H locs) (h3 : lrel ls (xc X).maxLocals jl) : XRun X H locs pc jl st0 st (Qc (as.map cv).toArray) := by
  have hts := C.2.2.2.2.1
  subst hst
  exact va_runS (As := as.map cv) (call_fix C) (hcon (xl X) hfl) ⟨lk_B C hm hl hlev, hts _ hi⟩ ⟨pc_blind, pc_at C.2.2.2.2.2.2.1 h2 h1⟩ rfl (List.length_map ..) ((lrel_size h3).trans C.2.2.1) (map_rv as st) (by show 2 * 0 + _ ≤ 8; rw [csum_cv]; omega) hd ⟨C.2.2.2.2.2.2.2.2.2.1, C.2.2.2.2.2.2.2.2.2.2⟩
theorem run_SN (C : Ok X own cc nL d) {y : MethodName} {bytes : ByteArray} {maxL d' idx : Nat} {host : String} {ret : Option FieldType} {as st0 : List AV} {Qc : Array Value → State → Outcome → State → Prop} (hfl : (xl X).flags = flags0) (hcon : Con (xV X) d' y bytes maxL ret as μ Qc) (hm : LkM y bytes maxL ret as.length)
    (hl : Cond.methodLinkNest own idx y host ∈ lw_tbl) (hi : Cond.static y ∈ lwg) (hlev : d' + 1 ≤ d) (hd : decode cc pc = .ok (.invokestatic idx, 3)) (hst : st0 = as.reverse ++ st) (hw : csum st ≤ 8)
    {H : Heap} {locs : List Loc} {jl : Array Slot} (h1 : Hp (xV X) (xs X) μ H) (h2 : va_S (woA (xV X)) (xs X).heap H locs) (h3 : lrel ls (xc X).maxLocals jl) : XRun X H locs pc jl st0 st (Qc (as.map cv).toArray) := by
  have hts := C.2.2.2.2.1
  subst hst
  exact va_runSN (As := as.map cv) (call_fix C) (hcon (xl X) hfl) ⟨lk_N C hm hl hlev, hts _ hi, trivial⟩ ⟨pc_blind, pc_at C.2.2.2.2.2.2.1 h2 h1⟩ rfl (List.length_map ..) ((lrel_size h3).trans C.2.2.1) (map_rv as st) (by show 2 * 0 + _ ≤ 8; rw [csum_cv]; omega) hd ⟨C.2.2.2.2.2.2.2.2.2.1, C.2.2.2.2.2.2.2.2.2.2⟩
theorem r_runI {x : Int} {μ' : Mem} {st0 : List AV} {aa : Array Value} (hr : ∀ (H : Heap) (locs : List Loc) (jl : Array Slot), Hp (xV X) (xs X) μ H → va_S (woA (xV X)) (xs X).heap H locs → lrel ls (xc X).maxLocals jl → XRun X H locs pc jl st0 st (QI (xV X) x μ' aa)) (kk : RR X μ' (pc + 3) ls (vI x :: st)) : RR X μ pc ls st0 := fun H locs jl h1 h2 h3 =>
  va_calli (hr H locs jl h1 h2 h3) h2 (fun _ _ h => h) (fun _ h => h) (fun r u t H1 locs1 ht hvm hp hb _ _ hS => by
    subst hp
    exact kk H1 locs1 jl (by rw [← ht]; exact zHp_m hvm.symm hb) hS h3)
theorem r_runV {μ' : Mem} {st0 : List AV} {aa : Array Value} (hr : ∀ (H : Heap) (locs : List Loc) (jl : Array Slot), Hp (xV X) (xs X) μ H → va_S (woA (xV X)) (xs X).heap H locs → lrel ls (xc X).maxLocals jl → XRun X H locs pc jl st0 st (QV (xV X) μ' aa)) (kk : RR X μ' (pc + 3) ls st) : RR X μ pc ls st0 := fun H locs jl h1 h2 h3 =>
  va_callv (hr H locs jl h1 h2 h3) h2 (fun _ _ h => h) (fun _ h => h) (fun u t H1 locs1 ht hvm hp hb _ _ hS => kk H1 locs1 jl (by rw [← ht]; exact zHp_m hvm.symm hb) hS h3)
theorem r_runL {x : Int64} {μ' : Mem} {st0 : List AV} {aa : Array Value} (hr : ∀ (H : Heap) (locs : List Loc) (jl : Array Slot), Hp (xV X) (xs X) μ H → va_S (woA (xV X)) (xs X).heap H locs → lrel ls (xc X).maxLocals jl → XRun X H locs pc jl st0 st (QL (xV X) x μ' aa)) (kk : RR X μ' (pc + 3) ls (vV (.long x) :: st)) : RR X μ pc ls st0 := fun H locs jl h1 h2 h3 =>
  va_calll (hr H locs jl h1 h2 h3) h2 (fun _ _ h => h) (fun _ h => h) (fun r u t H1 locs1 ht hvm hp hb _ _ hS => by
    subst hp
    exact kk H1 locs1 jl (by rw [← ht]; exact zHp_m hvm.symm hb) hS h3)
theorem r_runD {x : UInt64} {μ' : Mem} {st0 : List AV} {aa : Array Value} (hr : ∀ (H : Heap) (locs : List Loc) (jl : Array Slot), Hp (xV X) (xs X) μ H → va_S (woA (xV X)) (xs X).heap H locs → lrel ls (xc X).maxLocals jl → XRun X H locs pc jl st0 st (QD (xV X) x μ' aa)) (kk : RR X μ' (pc + 3) ls (vV (.double x) :: st)) : RR X μ pc ls st0 := fun H locs jl h1 h2 h3 =>
  va_calld (hr H locs jl h1 h2 h3) h2 (fun _ _ h => h) (fun _ h => h) (fun r u t H1 locs1 ht hvm hp hb _ _ hS => by
    subst hp
    exact kk H1 locs1 jl (by rw [← ht]; exact zHp_m hvm.symm hb) hS h3)
theorem r_runF {x : UInt32} {μ' : Mem} {st0 : List AV} {aa : Array Value} (hr : ∀ (H : Heap) (locs : List Loc) (jl : Array Slot), Hp (xV X) (xs X) μ H → va_S (woA (xV X)) (xs X).heap H locs → lrel ls (xc X).maxLocals jl → XRun X H locs pc jl st0 st (QF (xV X) x μ' aa)) (kk : RR X μ' (pc + 3) ls (vV (.float x) :: st)) : RR X μ pc ls st0 := fun H locs jl h1 h2 h3 =>
  va_callf (hr H locs jl h1 h2 h3) h2 (fun _ _ h => h) (fun _ h => h) (fun r u t H1 locs1 ht hvm hp hb _ _ hS => by
    subst hp
    exact kk H1 locs1 jl (by rw [← ht]; exact zHp_m hvm.symm hb) hS h3)
end Rows2
