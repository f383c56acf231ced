/-! THE CLAIM OUT OF ONE WALK OF THE LAW'S BODY. Your part is whole_start (and what it stands on); all else here is the same for every law, but numbers. -/
def R_law : String := "SteppedSpinesLaw"
def lw_P (b : Addr) (xs : List Int32) (args : Array Value) (s : State) : Prop := args = #[.ref b] ∧ s.IntsAt b xs ∧ xs.length ≤ 260 ∧ (Jvm.Cond.and given_1 narrow_1).before args s = true
/-- what a walk over the start with the record d0 says of its end, said of the start itself -/
theorem lw_closed {s t : State} {o : Outcome} {d0 : Drawn} {L : List Loc} {k n : Nat} (hd0 : s.drawn.sameBut d0 lw_cs) (hv : ∃ v, o = .returned v) (hW : (s.setDrawn d0).WarmedH t.vm) (hs : (s.setDrawn d0).sameButNew ({ t with vm := s.vm } : State) L k n) : State.butDraws s t lw_cs (fun t1 => Framed s o t1 L k n) := by
  have h2 : t.drawn = d0 := congrArg State.drawn hs.1
  refine ⟨⟨hv, hW, State.sameButNew.setDrawn hs s.drawn⟩, ?_, by decide⟩
  rw [h2]
  exact hd0
def lw_Q (_ : Array Value) (s : State) (o : Outcome) (t : State) : Prop := o = .returned (some (.int 1)) ∧ State.butDraws s t lw_cs (fun t1 => Framed s o t1 [] 600172 7300668)
def lw_Z (below : List Frame) (a : Array Value) (s : State) : State → Prop := fun t => ∃ o, t.status = .running ∧ Ended t below o ∧ lw_Q a s o t
/-- the law's own end, with 1 on the stack, nothing written that was there before, its room as the claim has it; d0: the record of draws at this point (at the entry s.drawn: begin with 'refine W.base ?_' and 'have hd0 := Drawn.sameBut.refl s.drawn lw_cs') -/
theorem lw_ret {p : Program} {l : Launch} {e : Env} {s : State} {m : MethodId} {below : List Frame} {meth : Method} {c : Code} {b : Nat} {d0 : Drawn} (hd0 : s.drawn.sameBut d0 lw_cs) (hx : p.tables.exec = Jvm.exec) (hb : c.code = code) (hr : meth.sig.returnType = ret) (hlocks : meth.locks = false) {pc : Nat} {H : Heap} {ls : Array Slot} (hdg : decode code pc = .ok (.ireturn, 1)) : W p l e room_1 (s.setDrawn d0) m #[Value.ref b] below meth c H [] 600172 7300668 (lw_Z below #[Value.ref b] s) (F0 m pc ls [.int 1]) := by
  intro T hT X
  obtain ⟨fs, hret, hrun, hended, hW, hframe⟩ := X.leave (v := some (.int 1)) (hlocks := hlocks) (fun h => by rw [hr] at h; cases h)
  have hmeth' : T.vm.method? m = some meth := X.method'
  refine ⟨T.setFrames fs, ?_, .returned (some (.int 1)), hrun, hended, rfl, lw_closed hd0 ⟨_, rfl⟩ hW hframe⟩
  jvm_step X.here [X.here.top, hx, hb, hdg, hmeth', hr, ret, narrow_b1]
  (try refine ⟨rfl, ?_⟩); (try refine ⟨rfl, ?_⟩)
  first | (intro acts; rw [hret _ acts rfl rfl rfl]) | rw [hret _ _ rfl rfl rfl]
  exact Steps.refl _
/-- what holds at the law's entry: the machine, the code, the tables' words (any of lw_tbl by 'hts w (by decide +kernel)'), the script of L ints xs at the cell b, what the Statement gives of the start (any of its parts by flat_of_before) -/
def lw_At (p : Program) (s : State) (m : MethodId) (meth : Method) (c : Code) (b L : Nat) (xs : Nat → Int32) : Prop :=
  p.tables.exec = Jvm.exec ∧ c.code = code ∧ meth.sig.returnType = ret ∧ c.maxLocals = 13 ∧ s.vm.findClass R_law = some m.cls ∧ (∀ w ∈ lw_tbl, w.before #[Value.ref b] s = true) ∧ va_X b L xs s s.heap ∧ b < s.heap.size ∧ meth.locks = false ∧ (Jvm.Cond.and given_1 narrow_1).before #[Value.ref b] s = true

/-! what holds at the entry -/
theorem eq_ev {args : Array Value} {s : State} {tm : Term} {z : Int32} (h : (Cond.eq tm (.int z)).before args s = true) : tm.eval args s none [] s = some (.int z) := by
  cases hv : tm.eval args s none [] s with
  | none => simp [Cond.before, Cond.holds, Cond.value, hv] at h
  | some w =>
    have hz : (Term.int z).eval args s none [] s = some (.int z) := rfl
    simp only [Cond.before, Cond.holds, Cond.value, hv, hz] at h
    cases w <;> simp_all
theorem ne_ev {args : Array Value} {s : State} {t1 t2 : Term} {a b : Nat} (h : (Cond.not (.eq t1 t2)).before args s = true) (h1 : t1.eval args s none [] s = some (.ref a)) (h2 : t2.eval args s none [] s = some (.ref b)) : a ≠ b := by
  intro e
  simp [Cond.before, Cond.holds, Cond.value, h1, h2, e] at h
/-- the ints of the heap's arrays -/
def hpm (s : State) : Mem := fun q j => match (s.heap[q]?).bind (fun c : Cell => c.slots[j.toNat]?) with
  | some (.int x) => x.toInt
  | _ => 0
theorem hpm_at {s : State} {q j : Nat} {cell : Cell} {v : Int32} (h1 : s.heap[q]? = some cell) (h2 : cell.slots[j]? = some (.int v)) : hpm s q (j : Int) = v.toInt := by
  have e : (s.heap[q]?).bind (fun c : Cell => c.slots[((j : Int)).toNat]?) = some (.int v) := by
    rw [h1, Int.toNat_natCast]
    exact h2
  show (match (s.heap[q]?).bind (fun c : Cell => c.slots[((j : Int)).toNat]?) with
    | some (.int x) => x.toInt
    | _ => 0) = v.toInt
  rw [e]
theorem zArr_h {s : State} {q N : Nat} {cell : Cell} {f : Nat → Int32} (h1 : s.heap[q]? = some cell) (h2 : s.isArrayOf cell .int) (h3 : cell.vm ≠ .unknown) (h4 : N < 2 ^ 31) (h5 : N ≤ cell.slots.size) (h6 : cell.slots.size.toInt32 = Int32.ofNat N) (h7 : ∀ j : Nat, j < N → cell.slots[j]? = some (.int (f j))) : zArr s s.heap q .int N (aI (hpm s q)) :=
  ⟨cell, h1, h2, h3, h4, h5, h6, fun j hj => by
    rw [h7 j hj]
    show some (Value.int (f j)) = some (Value.int (Int32.ofInt (hpm s q (j : Int))))
    rw [hpm_at h1 (h7 j hj), Int32.ofInt_toInt]⟩
def sZ (b L : Nat) (z : Nat × Nat × Nat) : Nat → Option SE := fun q => if q = z.1 ∨ q = z.2.1 ∨ q = z.2.2 then some (.inr (0, 3)) else if q = b then some (.inr (0, L)) else none
theorem k_known {s : State} {args : Array Value} (hts : ∀ w ∈ lwg, w.before args s = true) : ∃ G : va_G, va_K G vwCl [] s := by
  obtain ⟨c0, i0, k0⟩ := u_known (C := RX0) (T := TX0) (N := 6) hts ingX0 (hts _ in_X0)
  obtain ⟨c1, i1, k1⟩ := u_known (C := RX1) (T := TX1) (N := 2) hts ingX1 (hts _ in_X1)
  obtain ⟨c2, i2, k2⟩ := u_known (C := RX2) (T := TX2) (N := 5) hts ingX2 (hts _ in_X2)
  obtain ⟨c3, i3, k3⟩ := u_known (C := RX3) (T := TX3) (N := 8) hts ingX3 (hts _ in_X3)
  obtain ⟨c4, i4, k4⟩ := u_known (C := RX4) (T := TX4) (N := 8) hts ingX4 (hts _ in_X4)
  refine ⟨(fun c => match c with | 0 => c0 | 1 => c1 | 2 => c2 | 3 => c3 | _ => c4, fun c => match c with | 0 => i0 | 1 => i1 | 2 => i2 | 3 => i3 | _ => i4), fun c q hq => ?_, fun k q hq => by cases hq⟩
  match c, hq with
  | 0, hq => cases (Option.some.inj hq : _ = q); exact k0
  | 1, hq => cases (Option.some.inj hq : _ = q); exact k1
  | 2, hq => cases (Option.some.inj hq : _ = q); exact k2
  | 3, hq => cases (Option.some.inj hq : _ = q); exact k3
  | 4, hq => cases (Option.some.inj hq : _ = q); exact k4
  | n + 5, hq => exact absurd hq (by simp)
theorem st_arr {args : Array Value} {s : State} {n : String} {f : Nat → Int32} (harr : (Cond.arrayOf (.static RX4 n "[I") .int).before args s = true) (hlen : (Cond.eq (.length (.static RX4 n "[I")) (.int 3)).before args s = true) (h0 : (Cond.eq (.elem (.static RX4 n "[I") (.int 0)) (.int (f 0))).before args s = true) (h1 : (Cond.eq (.elem (.static RX4 n "[I") (.int 1)) (.int (f 1))).before args s = true) (h2 : (Cond.eq (.elem (.static RX4 n "[I") (.int 2)) (.int (f 2))).before args s = true)
    (hl : (Cond.laysStatic RX4 n "[I").before args s = true) (hini : (Cond.initialized RX4).before args s = true) : ∃ z : Nat, (Term.static RX4 n "[I").eval args s none [] s = some (.ref z) ∧ va_Z RX4 n "[I" (.ref z) (fun q => s.heap.size ≤ q) s s.heap ∧ z < s.heap.size ∧ zArr s s.heap z .int 3 (aI (hpm s z)) ∧ ∀ j : Nat, j < 3 → hpm s z (j : Int) = (f j).toInt := by
  obtain ⟨t, ht, cell, c1, c2, c3, c4, c5, c6, c7⟩ := va_Tof (N := 3) (f := fun j => .int (f j)) (A := fun q => s.heap.size ≤ q) (by decide) harr (eq_ev hlen) (fun j hj => by
    match j, hj with
    | 0, _ => exact eq_ev h0
    | 1, _ => exact eq_ev h1
    | 2, _ => exact eq_ev h2
    | k + 3, hk => exact absurd hk (by omega)) (fun a ha => Nat.not_le.mpr ha)
  exact ⟨t, ht, va_Zref hl hini ht (fun a ha => Nat.not_le.mpr ha), (Array.getElem?_eq_some_iff.mp c1).1, zArr_h c1 c2 c3 (by decide) c4 c5 c6, fun j hj => hpm_at c1 (c6 j hj)⟩
theorem ls_1 : Cond.laysStatic RX4 "LEAST_VALUES" "[I" ∈ lw_tbl := List.mem_of_getElem? (i := 492) (by decide +kernel)
theorem ls_2 : Cond.laysStatic RX4 "MOST_VALUES" "[I" ∈ lw_tbl := List.mem_of_getElem? (i := 494) (by decide +kernel)
theorem ls_3 : Cond.laysStatic RX4 "FIRST_VALUES" "[I" ∈ lw_tbl := List.mem_of_getElem? (i := 73) (by decide +kernel)
theorem ls_4 : Cond.laysStatic Bundle.tN "UNASSIGNED_STACK" Bundle.steD ∈ lw_tbl := List.mem_of_getElem? (i := 219) (by decide +kernel)
theorem ls_5 : Cond.laysStatic Bundle.tN "SUPPRESSED_SENTINEL" Bundle.listD ∈ lw_tbl := List.mem_of_getElem? (i := 221) (by decide +kernel)
theorem ls_6 : Cond.initialized Bundle.tN ∈ lw_tbl := List.mem_of_getElem? (i := 16) (by decide +kernel)
theorem ls_7 : Cond.arrayOver (.object RX3) ∈ lw_tbl := List.mem_of_getElem? (i := 123) (by decide +kernel)
set_option maxRecDepth 100000 in
set_option maxHeartbeats 2000000 in
theorem lw_world {p : Program} {s : State} {m : MethodId} {meth : Method} {c : Code} {b L : Nat} {xs : Nat → Int32} (hL : L ≤ 260) (C0 : lw_At p s m meth c b L xs) : ∃ (G : va_G) (z : Nat × Nat × Nat), Wd (G, s.heap.size, z, sZ b L z) s s.heap ∧ Hp (G, s.heap.size, z, sZ b L z) s (hpm s) s.heap ∧ va_AO RX3 s ∧ loV (G, s.heap.size, z, sZ b L z) ∧
    (z.1 < s.heap.size ∧ z.2.1 < s.heap.size ∧ z.2.2 < s.heap.size) ∧ (b ≠ z.1 ∧ b ≠ z.2.1 ∧ b ≠ z.2.2) ∧ (∀ j : Nat, j < 3 → hpm s z.1 (j : Int) = sLo j ∧ hpm s z.2.1 (j : Int) = sUp j) ∧ (hpm s z.2.2 0 = 8 ∧ hpm s z.2.2 1 = 5 ∧ hpm s z.2.2 2 = 2) := by
  obtain ⟨hx, hb, hr, hml, hown, hts, ⟨scr, x1, x2, x3, x4, x5⟩, hbl, hlk, hgv⟩ := C0
  have hs := flat_of_before _ hgv
  have htg : ∀ w ∈ lwg, w.before #[Value.ref b] s = true := fun w hw => hts w (lwg_tbl hw)
  obtain ⟨G, hK⟩ := k_known htg
  have hini := htg _ ini_X4
  obtain ⟨z1, a1, b1, d1, e1, f1⟩ := st_arr (n := "LEAST_VALUES") (f := fun j => if j = 1 then 2 else 1) (hs _ (by decide +kernel)) (hs _ (by decide +kernel)) (hs _ (by decide +kernel)) (hs _ (by decide +kernel)) (hs _ (by decide +kernel)) (hts _ ls_1) hini
  obtain ⟨z2, a2, b2, d2, e2, f2⟩ := st_arr (n := "MOST_VALUES") (f := fun j => if j = 0 then 16 else if j = 1 then 8 else 9) (hs _ (by decide +kernel)) (hs _ (by decide +kernel)) (hs _ (by decide +kernel)) (hs _ (by decide +kernel)) (hs _ (by decide +kernel)) (hts _ ls_2) hini
  obtain ⟨z3, a3, b3, d3, e3, f3⟩ := st_arr (n := "FIRST_VALUES") (f := fun j => if j = 0 then 8 else if j = 1 then 5 else 2) (hs _ (by decide +kernel)) (hs _ (by decide +kernel)) (hs _ (by decide +kernel)) (hs _ (by decide +kernel)) (hs _ (by decide +kernel)) (hts _ ls_3) hini
  have n1 : b ≠ z1 := ne_ev (hs (Cond.not (.eq (.arg 0) (.static RX4 "LEAST_VALUES" "[I"))) (by decide +kernel)) rfl a1
  have n2 : b ≠ z2 := ne_ev (hs (Cond.not (.eq (.arg 0) (.static RX4 "MOST_VALUES" "[I"))) (by decide +kernel)) rfl a2
  have n3 : b ≠ z3 := ne_ev (hs (Cond.not (.eq (.arg 0) (.static RX4 "FIRST_VALUES" "[I"))) (by decide +kernel)) rfl a3
  have hA : ∀ a : Nat, a < s.heap.size → ¬ (fun q => s.heap.size ≤ q) a := fun a ha => Nat.not_le.mpr ha
  have hbz : zArr s s.heap b .int L (aI (hpm s b)) := zArr_h x1 x2 x3 (by omega) (by omega) (by rw [x4]) x5
  refine ⟨G, (z1, z2, z3), ⟨hK, fun w hw hn => va_Nw.of (nest_tab hn) (hts w hw), Nat.le_refl _, b1, b2, b3, vx_Zqof (hts _ ls_4) (hts _ ls_6) (hs _ (by decide +kernel)) hA, vx_Zqof (hts _ ls_5) (hts _ ls_6) (hs _ (by decide +kernel)) hA⟩, ?_, va_AO.of (hts _ ls_7), ?_, ⟨d1, d2, d3⟩, ⟨n1, n2, n3⟩, ?_, ?_⟩
  · intro q e he
    have he : (if q = z1 ∨ q = z2 ∨ q = z3 then some (.inr (0, 3)) else if q = b then some (.inr (0, L)) else none) = some e := he
    by_cases c1 : q = z1 ∨ q = z2 ∨ q = z3
    · rw [if_pos c1] at he
      cases he
      rcases c1 with c1 | c1 | c1
      · subst c1; exact e1
      · subst c1; exact e2
      · subst c1; exact e3
    · rw [if_neg c1] at he
      by_cases c2 : q = b
      · rw [if_pos c2] at he
        cases he
        subst c2
        exact hbz
      · rw [if_neg c2] at he
        cases he
  · intro q e he
    have he : (if q = z1 ∨ q = z2 ∨ q = z3 then some (.inr (0, 3)) else if q = b then some (.inr (0, L)) else none) = some e := he
    show q < s.heap.size
    by_cases c1 : q = z1 ∨ q = z2 ∨ q = z3
    · omega
    · rw [if_neg c1] at he
      by_cases c2 : q = b
      · omega
      · rw [if_neg c2] at he
        cases he
  · intro j hj
    refine ⟨(f1 j hj).trans ?_, (f2 j hj).trans ?_⟩
    · match j, hj with
      | 0, _ => decide
      | 1, _ => decide
      | 2, _ => decide
      | k + 3, hk => exact absurd hk (by omega)
    · match j, hj with
      | 0, _ => decide
      | 1, _ => decide
      | 2, _ => decide
      | k + 3, hk => exact absurd hk (by omega)
  · exact ⟨(f3 0 (by decide)).trans (by decide), (f3 1 (by decide)).trans (by decide), (f3 2 (by decide)).trans (by decide)⟩
