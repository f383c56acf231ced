/-! an object made: "new; dup; invokespecial" -/
theorem Wd_bs {V : Wo} {b a : Nat} {U : State} {H : Heap} (h : Wd (bsV V b) U H) (hba : b ≤ a) (ha : a ≤ H.size) : Wd (bsV V a) U H := by
  obtain ⟨h1, h2, h3, h4, h5, h6, h7, h8⟩ := h
  have hn : ∀ q : Nat, woA (bsV V a) q → woA (bsV V b) q := fun q hq => Nat.le_trans hba hq
  exact ⟨h1, h2, ha, h4.narrow hn, h5.narrow hn, h6.narrow hn, h7.narrow hn, h8.narrow hn⟩
theorem lt_n {a : Nat} : ∀ x ∈ ([] : List Rg), a < x.1 := fun x hx => by cases hx
theorem lt_c {a : Nat} {r : Rg} {L : List Rg} (h : a < r.1) (h2 : ∀ x ∈ L, a < x.1) : ∀ x ∈ r :: L, a < x.1 := fun x hx => (List.mem_cons.mp hx).elim (fun e => e ▸ h) (h2 x)
theorem pcI_at {V : Wo} {b a ci : Nat} {μ : Mem} {fs : List Value} {s : State} {H : Heap} {locs : List Loc} (hlo : loV V) (hb : woB V ≤ b) (hba : b ≤ a) (hW : Wd (bsV V b) s s.heap) (hS : va_S (fun q => b ≤ q) s.heap H locs) (hHp : Hp V s μ s.heap) (hAO : va_AO RX3 s) (hz : H.size = a + 1) (hob : va_at (woG V) vwCl (a, .inr (ci, fs)) H) :
    ∀ U : State, U.heap = H → s.WarmedH U.vm → pcI V μ a ci fs [Value.ref a].toArray U := fun U hU hw => by
  refine ⟨rfl, ⟨?_, ?_⟩, by rw [hU]; exact hz, by rw [hU]; exact hob, va_AO.moved hw.alike hAO⟩
  · rw [hU]
    exact zWd_m hw (Wd_bs (zWd_k hW hS.1 hS.2.1) hba (by omega))
  · rw [hU]
    refine zHp_m hw.alike (fun q e he => cellAt_kept (hHp q e he) (hS.2.1 q (cellAt_lt (hHp q e he)) ?_))
    have := hlo q e he
    omega
theorem k_mk {X : Cx} {own : String} {cc : ByteArray} {nL d ck cs a b : Nat} {L : List Rg} {P : Heap → Prop} {pc : Nat} {ls st : List AV} {V : Wo} {μ : Mem} {ci N k n d' maxL idx idx2 : Nat} {Cn : String} {T : u_T} {y : MethodName} {bytes : ByteArray} {fs : List Value} {r : Nat → Option SE} {i : Nat → Nat → Int → Int}
    (C : Ok X own cc nL d) (hV : xV X = bsV V b) (hlo : loV V) (hb : woB V ≤ b) (hfl : (xl X).flags = flags0) (hHp : Hp V (xs X) μ (xs X).heap) (hAO : va_AO RX3 (xs X)) (hP : moP P) (ha : (xs X).heap.size + ck = a) (hba : b ≤ (xs X).heap.size)
    (hc : vwCl[ci]? = some (Cn, T, N)) (hin : ∀ w ∈ u_ws Cn T N, w ∈ lwg) (ty0 : Nat → FieldType) (hty : ∀ j, j < N → parseFieldDescriptor (T j).2.2.1 = some (ty0 j)) (hfs : ∀ j, j < N → defaultValue (ty0 j) = vp_V fs j)
    (hcl : Cond.classLink own idx Cn ∈ lwg) (hinst : Cond.instantiable Cn N ∈ lwg) (hini : Cond.initialized Cn ∈ lwg) (hm : LkM y bytes maxL none 0) (hy : y.name = "<init>") (him : Cond.instanceMethod y ∈ lwg) (hl : Cond.methodLink own idx2 y ∈ lwg ∨ ∃ host, Cond.methodLinkNest own idx2 y host ∈ lw_tbl) (hlev : d' + 1 ≤ d)
    (d0 : decode cc pc = .ok (.new idx, 3)) (d3 : decode cc (pc + 3) = .ok (.dup, 1)) (d4 : decode cc (pc + 4) = .ok (.invokespecial idx2, 3)) (hcells : ck + 1 + k ≤ (xR X).cells) (hslots : cs + N + n ≤ (xR X).slots) (hw : csum st ≤ 7)
    (con : ICon V μ d' y bytes maxL ci fs k n r i) (hlast : r k ≠ none)
    (kk : KJ X (ck + 1 + k) (cs + N + n) ((a, r, i a) :: L) P (pc + 7) ls (vR a :: st)) : KJ X ck cs L P pc ls st := fun H locs jl h0 h1 h1p h2 h3 => by
  have hts := C.2.2.2.2.1
  have hWd := C.2.2.2.2.2.2.1
  have hf1 := C.2.2.2.2.2.2.2.1
  have hf2 := C.2.2.2.2.2.2.2.2.1
  have hKn := hWd.1.1 ci _ hc
  have hG : woG (xV X) = woG V := by rw [hV]; rfl
  have hA : woA (xV X) = fun q => b ≤ q := by rw [hV]; rfl
  rw [hV] at hWd
  rw [hA] at h2
  refine W.newcK (n := N) C.1 C.2.1 C.2.2.2.1 (hts _ hcl) (hts _ hinst) (hts _ hini) rfl d0 (by omega) (by omega) hKn.2.1 (h0.trans ha) fun H1 kC hkC e1 z1 o1 => ?_
  have hk1 : ∀ q : Nat, q < H.size → H1[q]? = H[q]? := fun q hq => o1 q (by omega)
  have hob : va_at (woG V) vwCl (a, .inr (ci, fs)) H1 := by
    rw [← hG]
    exact ⟨_, hc, (u_born ty0 hts hin hKn hkC e1 hty).to hfs⟩
  have hS1 : va_S (fun q => b ≤ q) (xs X).heap H1 locs := ⟨Nat.le_trans h2.1 (by omega), fun q h5 h6 => (hk1 q (Nat.lt_of_lt_of_le h5 h2.1)).trans (h2.2.1 q h5 h6), h2.2.2⟩
  refine lv_dup C.1 C.2.1 d3 rfl ?_
  have hpre : PreS (xs X) H1 (pcI V μ a ci fs) (.ref a :: []) := ⟨pcI_blind, pcI_at hlo hb (by omega) hWd hS1 hHp hAO z1 hob⟩
  have hsum : 2 * 0 + (((vR a :: st).map cv).map fun v => v.category).sum ≤ 8 := by
    have e : (((vR a :: st).map cv).map fun v => v.category).sum = 1 + csum st := by
      rw [List.map_cons, List.map_cons, List.sum_cons]
      rw [csum_cv]
      rfl
    omega
  have hM := con a (by omega) (xl X) hfl
  have hR : ({ frames := d', cells := k, slots := n, locals := 38 * d' } : Room).frames + 1 ≤ (xR X).frames ∧ 8 + (maxL + 11) + ({ frames := d', cells := k, slots := n, locals := 38 * d' } : Room).locals ≤ (xR X).locals := ⟨by show d' + 1 ≤ _; omega, by show 8 + (maxL + 11) + 38 * d' ≤ _; have := hm.2.2.2; omega⟩
  have hgi := lwg_in (ws := Cond.code y bytes maxL none :: lwg) (fun w hw => (List.mem_cons.mp hw).elim (fun e => by rw [e]; exact hm.1) (fun h => h))
  have hrun : va_Run (xp X) (xl X) (xe X) (xR X) (xs X) (xm X) (xa X) (xb X) (xM X) (xc X) H1 locs (ck + 1) (cs + N) k n (F0 (xm X) (pc + 4) jl (.ref a :: .ref a :: st.map cv)) ((vR a :: st).map cv) (QI9 V a r (i a) (Value.ref a :: []).toArray) (fun q => a ≤ q) := by
    rcases hl with hl | ⟨host, hl⟩
    · exact va_runI (As := []) (call_fix C) hM ⟨callB_of 0 hts hgi rfl rfl rfl (hts _ hm.2.1) (hts _ hl) hm.2.2.1 hR, hy, hts _ him⟩ hpre rfl rfl ((lrel_size h3).trans C.2.2.1) rfl hsum d4 ⟨hcells, hslots⟩
    · exact va_runIN (As := []) (call_fix C) hM ⟨va_cnB 0 hts hgi rfl rfl rfl (C.2.2.2.2.2.2.1.2.1 _ hl rfl) (hts _ hm.2.1) hm.2.2.1 hR, hy, hts _ him⟩ hpre rfl rfl ((lrel_size h3).trans C.2.2.1) rfl hsum d4 ⟨hcells, hslots⟩
  refine va_callv hrun hS1 (fun q _ h => by show b ≤ q; have : a ≤ q := h; omega) (fun q h => by show b ≤ q; have : a ≤ q := h; omega) fun u t H2 locs2 ht hvm _ hB z2 k2 hS2 => ?_
  refine W_size fun hsz => ?_
  have hB2 : rgH (woG V) (xs X) H2 (a, r, i a) := by rw [← ht]; exact rgH_m hvm.symm hB
  have hlow : a + k < H2.size := by
    obtain ⟨e, he⟩ := Option.ne_none_iff_exists'.mp hlast
    exact cellAt_lt (hB2 k e he)
  have hk2 : ∀ q : Nat, q < H.size → H2[q]? = H[q]? := fun q hq => (k2 q (by omega) (by show ¬ a ≤ q; omega)).trans (hk1 q hq)
  refine kk H2 locs2 jl (by omega) (lgH_c (by rw [hG]; exact hB2) (lgH_k h1 hk2)) (hP H H2 h1p hk2) ?_ h3
  rw [hA]
  exact hS2
/-! the small constructors -/
theorem oi_X0 : Cond.methodLink RX0 3 Lib.objectInit ∈ lwg := lwg_of (List.mem_of_getElem? (i := 42) (by decide +kernel)) (by decide +kernel)
theorem oi_X1 : Cond.methodLink RX1 3 Lib.objectInit ∈ lwg := lwg_of (List.mem_of_getElem? (i := 121) (by decide +kernel)) (by decide +kernel)
theorem oi_X2 : Cond.methodLink RX2 3 Lib.objectInit ∈ lwg := lwg_of (List.mem_of_getElem? (i := 138) (by decide +kernel)) (by decide +kernel)
theorem oi_X3 : Cond.methodLink RX3 3 Lib.objectInit ∈ lwg := lwg_of (List.mem_of_getElem? (i := 36) (by decide +kernel)) (by decide +kernel)
theorem oi_X4 : Cond.methodLink RX4 1 Lib.objectInit ∈ lwg := lwg_of (List.mem_of_getElem? (i := 28) (by decide +kernel)) (by decide +kernel)
theorem cl_X4_7 : Cond.classLink RX4 7 RX3 ∈ lwg := lwg_of (List.mem_of_getElem? (i := 31) (by decide +kernel)) (by decide +kernel)
theorem cl_X4_22 : Cond.classLink RX4 22 RX1 ∈ lwg := lwg_of (List.mem_of_getElem? (i := 116) (by decide +kernel)) (by decide +kernel)
theorem cl_X4_29 : Cond.classLink RX4 29 RX2 ∈ lwg := lwg_of (List.mem_of_getElem? (i := 133) (by decide +kernel)) (by decide +kernel)
theorem cl_X3_9 : Cond.classLink RX3 9 RX0 ∈ lwg := lwg_of (List.mem_of_getElem? (i := 37) (by decide +kernel)) (by decide +kernel)
theorem cl_X1_9 : Cond.classLink RX1 9 RX3 ∈ lwg := lwg_of (List.mem_of_getElem? (i := 122) (by decide +kernel)) (by decide +kernel)
theorem in_X4 : Cond.instantiable RX4 8 ∈ lwg := lwg_of (List.mem_of_getElem? (i := 24) (by decide +kernel)) (by decide +kernel)
theorem in_X3 : Cond.instantiable RX3 8 ∈ lwg := lwg_of (List.mem_of_getElem? (i := 32) (by decide +kernel)) (by decide +kernel)
theorem in_X0 : Cond.instantiable RX0 6 ∈ lwg := lwg_of (List.mem_of_getElem? (i := 38) (by decide +kernel)) (by decide +kernel)
theorem in_X1 : Cond.instantiable RX1 2 ∈ lwg := lwg_of (List.mem_of_getElem? (i := 117) (by decide +kernel)) (by decide +kernel)
theorem in_X2 : Cond.instantiable RX2 5 ∈ lwg := lwg_of (List.mem_of_getElem? (i := 134) (by decide +kernel)) (by decide +kernel)
theorem cl_L_14 : Cond.classLink RL 14 RX4 ∈ lwg := lwg_of (List.mem_of_getElem? (i := 23) (by decide +kernel)) (by decide +kernel)
