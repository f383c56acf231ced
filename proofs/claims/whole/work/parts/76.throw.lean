/-! calls that throw: what the class's object is then, which exception it is -/
abbrev eA : String := "java/lang/IllegalArgumentException"
abbrev eS : String := "java/lang/IllegalStateException"
abbrev eX : String := "java/lang/IndexOutOfBoundsException"
abbrev eN : List String := ["java/lang/RuntimeException", "java/lang/Exception"]
def txs : List (Nat × String) := [(54, "there is no such bin"), (64, "the bin is empty, or the block is full"), (84, "there is no such place or bin"), (89, "there is no such place"), (102, "there is no such place in the block"), (114, "the block has a fault"), (124, "copies is out of range"), (134, "the bin would have too many copies"), (143, "holes is out of range"), (154, "there is no such setting"), (162, "value is out of range"), (167, "the code is out of range"), (169, "the buffer is full"), (178, "the buffer is not complete work as a text"), (186, "there is no snapshot"), (189, "there is no saved state"), (194, "place is below 0"), (196, "what is out of range")]
def ncs : List (String × String) := [(eA, eS), (eA, eX), (eS, eA), (eS, eX), (eX, eA), (eX, eS)]
def isDC : Cond → Bool
  | .declares _ => true
  | .castable .. => true
  | _ => false
theorem dc_tab {w : Cond} (h : isDC w = true) : w.onTables = true := by
  cases w <;> first | rfl | (simp [isDC] at h)
theorem dc_warm {w : Cond} (h : isDC w = true) {s U : State} (hW : s.WarmedH U.vm) (hZ : va_Nw w s) : va_Nw w U := by
  cases w <;> first | (simp [isDC] at h; done) | exact va_Nw.warmD hW hZ | exact va_Nw.warmC hW hZ
def ExU (U : State) : Prop := (∀ k ∈ txs, ∃ sa, vk_R RX4 k.1 k.2 sa U) ∧ (∀ p ∈ ncs, va_Nc p.1 p.2 U) ∧ ∀ w ∈ lw_tbl, isDC w = true → va_Nw w U
theorem ExU_w {u U : State} (hW : u.WarmedH U.vm) (h : ExU u) : ExU U := ⟨fun k hk => by
  obtain ⟨sa, h1⟩ := h.1 k hk
  exact ⟨sa, vk_R.warm hW h1⟩, fun p hp => va_Nc.moved hW.alike (h.2.1 p hp), fun w hw hd => dc_warm hd hW (h.2.2 w hw hd)⟩
theorem ExU_c {U : State} {g : JFrame} {mk : MethodId} {a : Array Value} (h : ExU U) : ExU (U.calling g mk a) := ⟨fun k hk => by
  obtain ⟨sa, h1⟩ := h.1 k hk
  exact ⟨sa, vk_R.same (u := U) (U := U.calling g mk a) rfl h1⟩, fun p hp => va_Nc.moved (u := U) (U := U.calling g mk a) (Vm.Alike.refl U.vm) (h.2.1 p hp), fun w hw hd => va_Nw.same (u := U) (U := U.calling g mk a) (dc_tab hd) rfl (h.2.2 w hw hd)⟩
def twL (ik ic : Nat) (E : String) : List Cond := Cond.classLink RX4 ik E :: Cond.initialized E :: vx_atS RX4 ic E eN
theorem tw_A : ∀ w ∈ twL 122 126 eA, w ∈ lw_tbl ∧ (goodWord w = true ∨ isDC w = true) := by decide +kernel
theorem tw_S : ∀ w ∈ twL 62 66 eS, w ∈ lw_tbl ∧ (goodWord w = true ∨ isDC w = true) := by decide +kernel
theorem tw_X : ∀ w ∈ twL 52 56 eX, w ∈ lw_tbl ∧ (goodWord w = true ∨ isDC w = true) := by decide +kernel
def pcX (V : Wo) (as : List AV) (μ : Mem) : Array Value → State → Prop := va_Pc (as.map cv) (fun U => (Wd V U U.heap ∧ Hp V U μ U.heap) ∧ ExU U)
theorem pcX_blind {V : Wo} {as : List AV} {μ : Mem} : FrameBlind (pcX V as μ) := fun a U g mk h => by
  obtain ⟨h0, ⟨h1, h2⟩, h3⟩ := h
  exact ⟨h0, ⟨zWd_c h1, zHp_m (u := U) (U := U.calling g mk a) (Vm.Alike.refl U.vm) h2⟩, ExU_c h3⟩
theorem pcX_at {V : Wo} {as : List AV} {μ : Mem} {s : State} {H : Heap} {locs : List Loc} (hW : Wd V s s.heap) (hS : va_S (woA V) s.heap H locs) (hH : Hp V s μ H) (hE : ExU s) : ∀ U : State, U.heap = H → s.WarmedH U.vm → pcX V as μ (as.map cv).toArray U := fun U hU hw =>
  ⟨rfl, ⟨zWd_m hw (by rw [hU]; exact zWd_k hW hS.1 hS.2.1), zHp_m hw.alike (by rw [hU]; exact hH)⟩, ExU_w hw hE⟩
def XP (V : Wo) (E : String) (P : Mem → Prop) : String → State → State → Prop := vx_X (fun ν : Mem => P ν) (fun E' ν t => E' = E ∧ Hp V t ν t.heap) (woA V)
def QNo : Array Value → State → Outcome → State → Prop := va_Qi (fun _ (_ : Unit) => False) (fun _ _ => True) (fun _ => True)
def XCon (V : Wo) (d : Nat) (y : MethodName) (bytes : ByteArray) (maxL : Nat) (ret : Option FieldType) (as : List AV) (μ : Mem) (E : String) (P : Mem → Prop) : Prop :=
  ∀ l : Launch, l.flags = flags0 → vx_Met l y (Cond.code y bytes maxL ret :: lwg) ({ frames := d, cells := 1, slots := 6, locals := 34 * d }) (pcX V as μ) QNo (XP V E P) 1 6 (woA V)
def FnX (X : Cx) (E : String) (P : Mem → Prop) : Prop := xQ X = vx_MQ (xb X) QNo (XP (xV X) E P) (xa X) (xs X) 1 6 (woA (xV X)) ∧ (∀ x ∈ (xc X).exceptionTable.toList, False) ∧ (xl X).flags = flags0 ∧ (xk X = 0 ∧ xn X = 0) ∧ (1 ≤ (xR X).cells ∧ 6 ≤ (xR X).slots) ∧ ExU (xs X)
theorem xcon_of {V : Wo} {d maxL : Nat} {y : MethodName} {bytes : ByteArray} {ret : Option FieldType} {as ls0 : List AV} {μ : Mem} {E : String} {P : Mem → Prop} (hy : plainName y.cls = true) (hls : lvl 0 ls0 = lv_args 0 (as.map cv)) (hn : ls0.length ≤ maxL) (hn2 : (lg_sl (as.map cv)).length ≤ maxL)
    (body : ∀ X : Cx, xV X = V → Ok X y.cls bytes maxL d → FnX X E P → RR X μ 0 ls0 []) : XCon V d y bytes maxL ret as μ E P := by
  intro l hfl
  refine vx_ofW (cc := bytes) (maxL := maxL) (ret := ret) hy rfl ?_
  intro p e s m args below meth c s₁ B hml htb hv
  obtain ⟨rfl, ⟨hWd, hHp⟩, hEx⟩ := hv
  have hts := atoms_spec (ws := Cond.code y bytes maxL ret :: lwg) B.pre
  have hent := lv_entry (as.map cv) (n := maxL) hn2
  have K := body (V, p, l, e, (headSpec (Cond.code y bytes maxL ret :: lwg) { frames := d, cells := 1, slots := 6, locals := 34 * d }).room, s, m, (as.map cv).toArray, below, meth, c, 0, 0, vx_MQ below QNo (XP V E P) (as.map cv).toArray s 1 6 (woA V)) rfl
    ⟨B.exec, B.bytes, hml, findClass_of_methodNamed B.named, fun w hw => hts w (List.mem_cons_of_mem _ hw), B.notSynchronized, hWd, rfl, Nat.le_refl _, Nat.zero_le _, Nat.zero_le _⟩ ⟨rfl, htb, hfl, ⟨rfl, rfl⟩, ⟨Nat.le_refl _, Nat.le_refl _⟩, hEx⟩ s.heap [] _ hHp va_S.rf
    (by
      show lrel ls0 c.maxLocals _
      rw [hml]
      refine lrel_o hent hn (fun i a h1 h2 => ?_)
      rw [← hls]
      exact (lvl_mem ls0 0 i _).mpr ⟨i, a, by omega, h1, h2, rfl⟩)
  rw [lg_entry_eq]
  exact K
theorem nt_of {l : Launch} (h : l.flags = flags0) : l.stackTraces = false := by
  show (!l.flags.contains noTraceFlag) = false
  rw [h]
  decide +kernel
theorem eN_fit : ∀ n ∈ eN, Bundle.fit n = true := by decide +kernel
theorem hp_on {V : Wo} {s t : State} {μ : Mem} {H : Heap} (h : Hp V s μ H) (hvm : s.vm.Alike t.vm) (hk : ∀ q : Nat, q < H.size → t.heap[q]? = H[q]?) : Hp V t μ t.heap := fun q e he =>
  cellAt_moved hvm (cellAt_kept (h q e he) (hk q (cellAt_lt (h q e he))))
theorem r_throw {X : Cx} {cc : ByteArray} {nL d : Nat} {μ : Mem} {pc : Nat} {ls : List AV} {E text : String} {P : Mem → Prop} {ik is ic : Nat} (C : Ok X RX4 cc nL d) (hF : FnX X E P) (hw : ∀ w ∈ twL ik ic E, w ∈ lw_tbl ∧ (goodWord w = true ∨ isDC w = true)) (hfit : Bundle.fit E = true) (htx : (is, text) ∈ txs)
    (d0 : decode cc pc = .ok (.new ik, 3)) (d3 : decode cc (pc + 3) = .ok (.dup, 1)) (d4 : decode cc (pc + 4) = .ok (.ldc is, 2)) (d6 : decode cc (pc + 6) = .ok (.invokespecial ic, 3)) (d9 : decode cc (pc + 9) = .ok (.athrow, 1)) (hd : 5 < d) (hP : P μ) : RR X μ pc ls [] := fun H locs jl h1 h2 h3 => by
  obtain ⟨hQ, htb, hfl, ⟨k0, n0⟩, ⟨c1, c6⟩, hE1, hE2, hE3⟩ := hF
  obtain ⟨sa, hstr⟩ := hE1 _ htx
  have hWd := C.2.2.2.2.2.2.1
  have hts : ∀ w ∈ twL ik ic E, w.before (xa X) (xs X) = true := fun w h => by
    rcases (hw w h).2 with g | g
    · exact C.2.2.2.2.1 w (lwg_of (hw w h).1 g)
    · exact va_Nw.use (A := xa X) (dc_tab g) (hE3 w (hw w h).1 g)
  have hfr := C.2.2.2.2.2.2.2.1
  have hlo := C.2.2.2.2.2.2.2.2.1
  rw [hQ]
  refine vx_throwS (A := woA (xV X)) (names := eN) (text := text) (sa := sa) C.1 C.2.1 (nt_of hfl) C.2.2.2.1 hfit eN_fit (hts _ List.mem_cons_self) (hts _ (List.mem_cons_of_mem _ List.mem_cons_self)) hstr (fun w h => hts w (List.mem_cons_of_mem _ (List.mem_cons_of_mem _ h)))
    (fun w h => ?_) hWd.2.2.2.2.2.2.1 hWd.2.2.2.2.2.2.2 h2 h3.2.1 d0 d3 d4 d6 d9 (fun x hx => (htb x hx).elim) ?_ ?_ ?_ ?_ C.2.2.2.2.2.1 (fun t hvm hz hk => ?_) h2.2.2 ?_ ?_
  · unfold vx_ot
    rcases (hw w h).2 with g | g
    · rw [g]; exact Bool.or_true _
    · rw [dc_tab g]; exact Bool.true_or _
  · show 2 + 3 < _
    omega
  · show 0 + (13 * (2 + 1) + 43) ≤ _
    omega
  · omega
  · omega
  · exact ⟨μ, hP, ⟨rfl, hp_on h1 hvm hk⟩, Nat.le_trans h2.1 hz, fun q hq hA => (hk q (Nat.lt_of_lt_of_le hq h2.1)).trans (h2.2.1 q hq hA)⟩
  · omega
  · omega
