/-! the law's helpers: methods with an exception table -/
def LCon (V : Wo) (y : MethodName) (bytes : ByteArray) (maxL : Nat) (hh : List (Nat × Nat × Nat × Nat)) (as : List AV) (μ : Mem) (Qc : Array Value → State → Outcome → State → Prop) : Prop :=
  ∀ l : Launch, l.flags = flags0 → Met l y (Cond.codeWith y bytes maxL (some .int) hh :: lwg) ({ frames := 9, cells := 1, slots := 6, locals := 34 * 9 }) (pcX V as μ) Qc 1 6 (woA V)
def FnL (X : Cx) (Qc : Array Value → State → Outcome → State → Prop) (hh : List (Nat × Nat × Nat × Nat)) : Prop := (xM X).sig.returnType = some .int ∧ xQ X = MQ (xb X) Qc (xa X) (xs X) 1 6 (woA (xV X)) ∧ (xl X).flags = flags0 ∧ (xc X).exceptionTable.toList = tableOf hh ∧ (xk X = 0 ∧ xn X = 0) ∧ (1 ≤ (xR X).cells ∧ 6 ≤ (xR X).slots) ∧ ExU (xs X)
theorem lcon_of {V : Wo} {maxL : Nat} {y : MethodName} {bytes : ByteArray} {hh : List (Nat × Nat × Nat × Nat)} {as ls0 : List AV} {μ : Mem} {Qc : Array Value → State → Outcome → State → Prop} (hy : plainName y.cls = true) (hls : lvl 0 ls0 = lv_args 0 (as.map cv)) (hn : ls0.length ≤ maxL) (hn2 : (lg_sl (as.map cv)).length ≤ maxL)
    (body : ∀ X : Cx, xV X = V → Ok X y.cls bytes maxL 9 → FnL X Qc hh → RR X μ 0 ls0 []) : LCon V y bytes maxL hh as μ Qc := by
  intro l hfl
  refine MetFree.of_bodyS (code := bytes) (maxLocals := maxL) (ret := some .int) hy ?_ ?_
  · intro args s m h hn
    obtain ⟨m9, meth, c, hn9, h1, h2, h3, h4, -, h5, h6, -⟩ := Cond.codeWith_spec (atoms_spec (ws := Cond.codeWith y bytes maxL (some .int) hh :: lwg) h _ List.mem_cons_self)
    cases hn.symm.trans hn9
    exact ⟨meth, c, h1, h2, h3, h4, h5, h6⟩
  · intro p e s m args below meth c s₁ B hml hP _
    obtain ⟨rfl, ⟨hWd, hHp⟩, hEx⟩ := hP
    have hh0 : s₁.heap = s.heap := by rw [B.state]; rfl
    have hts := atoms_spec (ws := Cond.codeWith y bytes maxL (some .int) hh :: lwg) B.pre
    have htb := vx_table (x := y) B (hts _ List.mem_cons_self)
    have hent := lv_entry (as.map cv) (n := maxL) hn2
    have K := body (V, p, l, e, (headSpec (Cond.codeWith y bytes maxL (some .int) hh :: lwg) { frames := 9, cells := 1, slots := 6, locals := 34 * 9 }).room, s, m, (as.map cv).toArray, below, meth, c, 0, 0, MQ below Qc (as.map cv).toArray s 1 6 (woA V)) rfl
      ⟨B.exec, B.bytes, hml, findClass_of_methodNamed B.named, fun w hw => hts w (List.mem_cons_of_mem _ hw), B.notSynchronized, hWd, rfl, Nat.le_refl _, Nat.zero_le _, Nat.zero_le _⟩ ⟨B.returns, rfl, hfl, htb, ⟨rfl, rfl⟩, ⟨Nat.le_refl _, Nat.le_refl _⟩, hEx⟩ s.heap [] _ hHp va_S.rf
      (by
        show lrel ls0 c.maxLocals _
        rw [hml]
        refine lrel_o hent hn (fun i a h1 h2 => ?_)
        rw [← hls]
        exact (lvl_mem ls0 0 i _).mpr ⟨i, a, by omega, h1, h2, rfl⟩)
    have K2 : W p l e (headSpec (Cond.codeWith y bytes maxL (some .int) hh :: lwg) { frames := 9, cells := 1, slots := 6, locals := 34 * 9 }).room s m (as.map cv).toArray below meth c s.heap [] 0 0 (MQ below Qc (as.map cv).toArray s 1 6 (woA V)) (entryFrame m (as.map cv).toArray maxL) := by
      rw [lg_entry_eq]
      exact K
    obtain ⟨t, a1, o, b1, b2, b3⟩ := K2 s₁ hh0 (Stand.of_body B)
    exact ⟨t, o, a1, b1, b2, b3.1, b3.2⟩
/-- one exception more -/
abbrev X1 (X : Cx) : Cx := toX X (xV X) (xk X + 1) (xn X + 6)
section RowsL
variable {X : Cx} {own : String} {cc : ByteArray} {nL d : Nat} {μ : Mem} {pc : Nat} {ls st : List AV}
theorem ok_1 (C : Ok X own cc nL d) (h1 : xk X + 1 ≤ (xR X).cells) (h2 : xn X + 6 ≤ (xR X).slots) : Ok (X1 X) own cc nL d := by
  obtain ⟨c1, c2, c3, c4, c5, c6, c7, c8, c9, c10, c11⟩ := C
  exact ⟨c1, c2, c3, c4, c5, c6, c7, c8, c9, h1, h2⟩
theorem r_iretL (C : Ok X own cc nL d) {x : Int} {P : Mem → Prop} (hr : (xM X).sig.returnType = some .int) (hQ : xQ X = MQ (xb X) (QIr (xV X) x P) (xa X) (xs X) 1 6 (woA (xV X))) (hk : xk X ≤ 1) (hn : xn X ≤ 6) (hd : decode cc pc = .ok (.ireturn, 1)) (hP : P μ) : RR X μ pc ls [vI x] := fun H locs jl h1 h2 h3 => by
  rw [hQ]
  exact W.widen hk hn (W.iret C.1 C.2.1 hr (fun t ht hW => ⟨⟨_, μ, rfl, ⟨rfl, hP⟩, hp_end h1 ht hW⟩, h2.F ht⟩) h2.2.2 hd C.2.2.2.2.2.1)
/-- what is known of the locals may be forgotten -/
theorem r_fgt {ls' : List AV} (hl : ls'.length = ls.length) (h : ∀ (i : Nat) (a : AV), ls'[i]? = some a → a ≠ vU → ls[i]? = some a) (kk : RR X μ pc ls' st) : RR X μ pc ls st := fun H locs jl h1 h2 h3 =>
  kk H locs jl h1 h2 ⟨h3.1, h3.2.1, by rw [hl]; exact h3.2.2.1, fun i a q1 q2 => h3.2.2.2 i a (h i a q1 q2) q2⟩
theorem r_catch (C : Ok X RL cc nL 9) {Qc : Array Value → State → Outcome → State → Prop} {hh : List (Nat × Nat × Nat × Nat)} (hF : FnL X Qc hh) {y : MethodName} {bytes : ByteArray} {maxL idx q : Nat} {ret : Option FieldType} {as st0 : List AV} {E : String} {P : Mem → Prop} (hcon : XCon (xV X) 8 y bytes maxL ret (vR q :: as) μ E P) (hm : LkM y bytes maxL ret as.length)
    (hl : Cond.methodLink RL idx y ∈ lwg) (hi : Cond.instanceMethod y ∈ lwg) (hse : Cond.selects RX4 y y ∈ lwg) (hs : woS (xV X) q = some (.inl 4)) (hd : decode cc pc = .ok (.invokevirtual idx, 3)) (hst : st0 = as.reverse ++ vR q :: st) (hw : csum st ≤ 8)
    {x : Nat × Nat × Nat × Nat} (pre suf : List (Nat × Nat × Nat × Nat)) (hsp : hh = pre ++ x :: suf) (hpass : ∀ z ∈ pre, z.2.2.2 ≠ 0 ∧ ∃ nm : String, Cond.classLink RL z.2.2.2 nm ∈ lwg ∧ (E, nm) ∈ ncs) (hcov : covers ⟨x.1, x.2.1, x.2.2.1, x.2.2.2⟩ pc = true) (h0 : x.2.2.2 ≠ 0) (hlink : Cond.classLink RL x.2.2.2 E ∈ lwg) (hcast : Cond.castable E E ∈ lw_tbl)
    (kk : ∀ (ν : Mem) (q9 : Nat), P ν → RR (X1 X) ν x.2.2.1 ls [vR q9]) : RR X μ pc ls st0 := fun H locs jl h1 h2 h3 => by
  have hts := C.2.2.2.2.1
  obtain ⟨hr, hQ, hfl, htb, ⟨k0, n0⟩, ⟨c1, c6⟩, hE⟩ := hF
  subst hst
  have hrun := vx_runV (As := as.map cv) (rest := st.map cv) (g := F0 (xm X) pc jl ((as.reverse ++ vR q :: st).map cv)) (p := xp X) (R := xR X) (e := xe X) (below := xb X) (meth := xM X) (locs := locs) (cells := xk X) (slots := xn X) (call_fix C) (hcon (xl X) hfl) ⟨callB_of as.length hts (lwg_in (fun w hw => (List.mem_cons.mp hw).elim (fun e => by rw [e]; exact hm.1) (fun h => h))) rfl rfl rfl (hts _ hm.2.1) (hts _ hl) hm.2.2.1 ⟨by show 8 + 1 ≤ _; have := C.2.2.2.2.2.2.2.1; omega, by show 8 + (maxL + 11) + 34 * 8 ≤ _; have := C.2.2.2.2.2.2.2.2.1; have := hm.2.2.2; omega⟩, hts _ hi, hts _ hse⟩
    ⟨pcX_blind, rec_of C.2.2.2.2.2.2.1.1 h1 hs (c := (RX4, TX4, 8)) rfl, pcX_at C.2.2.2.2.2.2.1 h2 h1 hE⟩ rfl (List.length_map ..) ((lrel_size h3).trans C.2.2.1) (map_rv as (vR q :: st)) (by show 2 * 0 + _ ≤ 8; rw [csum_cv]; omega) hd ⟨by omega, by omega⟩
  intro T hT XX
  rcases hrun T hT XX with ⟨v, st₀, t, T', L, g0, X', hL, e1, e2, ⟨⟨r, u, hv, hp, hb⟩, hF⟩, stp⟩ | ⟨q9, st₀, t, T', L, E', ce, g0, X', hL, e1, e2, ⟨ν, hp, ⟨hE', hb⟩, hF⟩, hce, hcv, hcl, stp⟩
  · exact hp.elim
  · subst hE'
    obtain ⟨g1, g2, g3⟩ := vx_keep g0 e1 h2 (fun _ _ h => h) (fun _ h => h) hL hF
    have hH : Hp (xV X) (xs X) ν T'.heap := by
      rw [e1]
      exact zHp_m (by rw [← e2]; exact X'.warmed.alike.symm) hb
    have K := kk ν q9 hp T'.heap (locs ++ L) jl hH g3 h3
    obtain ⟨t2, a1, b1⟩ := vx_catch (rest := st.map cv) (ls := jl) (pc := pc) (E := E') (name := E') (q := q9) (ce := ce) C.2.2.2.1 (tableOf pre) ⟨x.1, x.2.1, x.2.2.1, x.2.2.2⟩ (tableOf suf) (by show (xc X).exceptionTable.toList = _; rw [htb, hsp]; unfold tableOf; rw [List.map_append]; rfl)
      (fun z hz => by
        unfold tableOf at hz
        obtain ⟨z', hz', rfl⟩ := List.mem_map.mp hz
        obtain ⟨p1, nm, p2, p3⟩ := hpass z' hz'
        exact Or.inr ⟨p1, nm, hts _ p2, hE.2.1 _ p3⟩) hcov h0 (hts _ hlink) (va_Nw.use (A := xa X) rfl (hE.2.2 _ hcast rfl)) (by rw [e1]; exact hce) hcv hcl K T' rfl X'
    exact ⟨t2, stp.trans a1, b1⟩
end RowsL
theorem hl_13 : Cond.classLink RL 13 eX ∈ lwg := lwg_of (List.mem_of_getElem? (i := 629) (by decide +kernel)) (by decide +kernel)
theorem hl_15 : Cond.classLink RL 15 eS ∈ lwg := lwg_of (List.mem_of_getElem? (i := 630) (by decide +kernel)) (by decide +kernel)
theorem hl_37 : Cond.classLink RL 37 eA ∈ lwg := lwg_of (List.mem_of_getElem? (i := 736) (by decide +kernel)) (by decide +kernel)
theorem hc_A : Cond.castable eA eA ∈ lw_tbl := List.mem_of_getElem? (i := 434) (by decide +kernel)
theorem hc_X : Cond.castable eX eX ∈ lw_tbl := List.mem_of_getElem? (i := 571) (by decide +kernel)
theorem hc_S : Cond.castable eS eS ∈ lw_tbl := List.mem_of_getElem? (i := 641) (by decide +kernel)
