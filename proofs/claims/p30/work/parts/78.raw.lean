/-! objects that come: a raw object, the ranges of cells behind it, the cells counted -/
theorem W_size {p : Program} {l : Launch} {e : Env} {R : Room} {s : State} {m : MethodId} {args : Array Value} {below : List Frame} {meth : Method} {c : Code} {H : Heap} {locs : List Loc} {cells slots : Nat} {Q : State → Prop} {g : JFrame} (kk : H.size ≤ s.heap.size + cells → W p l e R s m args below meth c H locs cells slots Q g) : W p l e R s m args below meth c H locs cells slots Q g := fun T hT X =>
  kk (by rw [← hT]; exact X.same.2.2.1) T hT X
abbrev Rg : Type := Nat × (Nat → Option SE) × (Nat → Int → Int)
def rgH (G : va_G) (s : State) (H : Heap) (r : Rg) : Prop := ∀ (o : Nat) (e : SE), r.2.1 o = some e → cellAt G s H (r.1 + o) (r.2.2 o) e
def lgH (G : va_G) (s : State) (H : Heap) (L : List Rg) : Prop := ∀ r ∈ L, rgH G s H r
theorem rgH_m {G : va_G} {u U : State} {H : Heap} {r : Rg} (hvm : u.vm.Alike U.vm) (h : rgH G u H r) : rgH G U H r := fun o e he => cellAt_moved hvm (h o e he)
theorem lgH_k {G : va_G} {s : State} {H H1 : Heap} {L : List Rg} (h : lgH G s H L) (hk : ∀ q : Nat, q < H.size → H1[q]? = H[q]?) : lgH G s H1 L := fun r hr o e he => cellAt_kept (h r hr o e he) (hk _ (cellAt_lt (h r hr o e he)))
theorem lgH_c {G : va_G} {s : State} {H : Heap} {L : List Rg} {r : Rg} (h : rgH G s H r) (h2 : lgH G s H L) : lgH G s H (r :: L) := fun x hx => (List.mem_cons.mp hx).elim (fun e => e ▸ h) (h2 x)
/-- the world seen from a new object: all from its address on is its own -/
def bsV (V : Wo) (a : Nat) : Wo := (woG V, a, woZ V, woS V)
def exV (V : Wo) (a : Nat) (r : Nat → Option SE) : Wo := (woG V, a, woZ V, fun q => if a ≤ q then r (q - a) else woS V q)
def omM (μ : Mem) (a : Nat) (i : Nat → Int → Int) : Mem := fun q => if a ≤ q then i (q - a) else μ q
def loV (V : Wo) : Prop := ∀ (q : Nat) (e : SE), woS V q = some e → q < woB V
theorem hp_ex {V : Wo} {s : State} {μ : Mem} {H : Heap} {a : Nat} {r : Nat → Option SE} {i : Nat → Int → Int} (h : Hp V s μ H) (hr : rgH (woG V) s H (a, r, i)) : Hp (exV V a r) s (omM μ a i) H := fun q e he => by
  by_cases c : a ≤ q
  · have he2 : r (q - a) = some e := by
      have : (if a ≤ q then r (q - a) else woS V q) = some e := he
      rw [if_pos c] at this; exact this
    have := hr (q - a) e he2
    rw [show omM μ a i q = i (q - a) from if_pos c]
    rw [show (a, r, i).1 + (q - a) = q from Nat.add_sub_cancel' c] at this
    exact this
  · have he2 : woS V q = some e := by
      have : (if a ≤ q then r (q - a) else woS V q) = some e := he
      rw [if_neg c] at this; exact this
    rw [show omM μ a i q = μ q from if_neg c]
    exact h q e he2
theorem rg_hp {V : Wo} {s : State} {μ : Mem} {H : Heap} {a : Nat} {r : Nat → Option SE} (h : Hp (exV V a r) s μ H) : rgH (woG V) s H (a, r, fun o => μ (a + o)) := fun o e he => h (a + o) e (by
  show (if a ≤ a + o then r (a + o - a) else woS V (a + o)) = some e
  rw [if_pos (Nat.le_add_right a o), Nat.add_sub_cancel_left]
  exact he)
theorem rg_i {G : va_G} {s : State} {H : Heap} {a : Nat} {r : Nat → Option SE} {i j : Nat → Int → Int} (h : rgH G s H (a, r, i)) (e : ∀ o, r o ≠ none → i o = j o) : rgH G s H (a, r, j) := fun o x he => by
  have := h o x he
  rw [show (a, r, j).2.2 o = (a, r, i).2.2 o from (e o (by rw [show r o = some x from he]; simp)).symm]
  exact this
/-- the judgement while objects come -/
def KJ (X : Cx) (ck cs : Nat) (L : List Rg) (P : Heap → Prop) (pc : Nat) (ls st : List AV) : Prop := ∀ (H : Heap) (locs : List Loc) (jl : Array Slot), H.size = (xs X).heap.size + ck → lgH (woG (xV X)) (xs X) H L → P H → va_S (woA (xV X)) (xs X).heap H locs → lrel ls (xc X).maxLocals jl →
  W (xp X) (xl X) (xe X) (xR X) (xs X) (xm X) (xa X) (xb X) (xM X) (xc X) H locs ck cs (xQ X) (F0 (xm X) pc jl (st.map cv))
def moP (P : Heap → Prop) : Prop := ∀ H H1 : Heap, P H → (∀ q : Nat, q < H.size → H1[q]? = H[q]?) → P H1
def rwO (G : va_G) (h ci : Nat) (fs : List Value) : Heap → Prop := fun H => va_at G vwCl (h, .inr (ci, fs)) H
theorem mo_rw {G : va_G} {h ci : Nat} {fs : List Value} : moP (rwO G h ci fs) := fun H H1 hp hk => va_at.kept (D := G) (cl := vwCl) (q := (h, .inr (ci, fs))) hp (hk _ (va_at.lt (D := G) (cl := vwCl) (q := (h, .inr (ci, fs))) hp))
section RowsK
variable {X : Cx} {own : String} {cc : ByteArray} {nL d ck cs : Nat} {L : List Rg} {P : Heap → Prop} {pc : Nat} {ls st : List AV}
theorem k_aload_n (C : Ok X own cc nL d) {k : Fin 4} {q : Nat} (hd : decode cc pc = .ok (.aload_n k, 1)) (hl : ls[(k : Nat)]? = some (vR q)) (kk : KJ X ck cs L P (pc + 1) ls (vR q :: st)) : KJ X ck cs L P pc ls st := fun H locs jl h0 h1 h1p h2 h3 =>
  lv_aload_n C.1 C.2.1 hd rfl (h3.2.2.2 _ _ hl (by simp)) (kk H locs jl h0 h1 h1p h2 h3)
theorem k_astore_n (C : Ok X own cc nL d) {k : Fin 4} {q : Nat} (hd : decode cc pc = .ok (.astore_n k, 1)) (hk : (k : Nat) < nL) (hs : sok ls k = true) (kk : KJ X ck cs L P (pc + 1) (ls.set k (vR q)) st) : KJ X ck cs L P pc ls (vR q :: st) := fun H locs jl h0 h1 h1p h2 h3 =>
  lv_astore_n C.1 C.2.1 hd rfl (lrel_h h3) (by rw [C.2.2.1]; exact hk) rfl (fun ls' h => kk H locs ls' h0 h1 h1p h2 (lrel_keep1 h3.2.2.1 hs h))
theorem k_bipush (C : Ok X own cc nL d) {n : Int} (hd : decode cc pc = .ok (.bipush n, 2)) (hv : (Int8.ofInt n).toInt32 = Int32.ofInt n) (kk : KJ X ck cs L P (pc + 2) ls (vI n :: st)) : KJ X ck cs L P pc ls st := fun H locs jl h0 h1 h1p h2 h3 => lv_bipush C.1 C.2.1 hd hv (kk H locs jl h0 h1 h1p h2 h3)
theorem k_sipush (C : Ok X own cc nL d) {n : Int} (hd : decode cc pc = .ok (.sipush n, 3)) (hv : (Int16.ofInt n).toInt32 = Int32.ofInt n) (kk : KJ X ck cs L P (pc + 3) ls (vI n :: st)) : KJ X ck cs L P pc ls st := fun H locs jl h0 h1 h1p h2 h3 => lv_sipush C.1 C.2.1 hd hv (kk H locs jl h0 h1 h1p h2 h3)
theorem k_iconst (C : Ok X own cc nL d) {n : Int} (hd : decode cc pc = .ok (.iconst n, 1)) (kk : KJ X ck cs L P (pc + 1) ls (vI n :: st)) : KJ X ck cs L P pc ls st := fun H locs jl h0 h1 h1p h2 h3 => lv_iconst C.1 C.2.1 hd rfl (kk H locs jl h0 h1 h1p h2 h3)
theorem k_istore_n (C : Ok X own cc nL d) {k : Fin 4} {x : Int} (hd : decode cc pc = .ok (.istore_n k, 1)) (hk : (k : Nat) < nL) (hs : sok ls k = true) (kk : KJ X ck cs L P (pc + 1) (ls.set k (vI x)) st) : KJ X ck cs L P pc ls (vI x :: st) := fun H locs jl h0 h1 h1p h2 h3 =>
  lv_istore_n C.1 C.2.1 hd rfl (lrel_h h3) (by rw [C.2.2.1]; exact hk) rfl (fun ls' h => kk H locs ls' h0 h1 h1p h2 (lrel_keep1 h3.2.2.1 hs h))
theorem k_iload_n (C : Ok X own cc nL d) {k : Fin 4} {x : Int} (hd : decode cc pc = .ok (.iload_n k, 1)) (hl : ls[(k : Nat)]? = some (vI x)) (kk : KJ X ck cs L P (pc + 1) ls (vI x :: st)) : KJ X ck cs L P pc ls st := fun H locs jl h0 h1 h1p h2 h3 =>
  lv_iload_n C.1 C.2.1 hd rfl (h3.2.2.2 _ _ hl (by simp)) (kk H locs jl h0 h1 h1p h2 h3)
theorem k_iinc (C : Ok X own cc nL d) {i : Nat} {n x : Int} (hd : decode cc pc = .ok (.iinc i n, 3)) (hl : ls[i]? = some (vI x)) (hk : i < nL) (hs : sok ls i = true) (kk : KJ X ck cs L P (pc + 3) (ls.set i (vI (x + n))) st) : KJ X ck cs L P pc ls st := fun H locs jl h0 h1 h1p h2 h3 => by
  have hm : (i, Value.int (Int32.ofInt x)) ∈ lvl 0 ls := (lvl_mem ls 0 i _).mpr ⟨i, vI x, by omega, hl, by simp, rfl⟩
  obtain ⟨k, hk2⟩ := List.getElem?_of_mem hm
  exact lv_iinc C.1 C.2.1 hd (lrel_h h3) hk2 (by rw [← Int32.ofInt_add]) (by rw [C.2.2.1]; exact hk) rfl (fun ls' h => kk H locs ls' h0 h1 h1p h2 (lrel_keep1 h3.2.2.1 hs h))
theorem k_goto (C : Ok X own cc nL d) {off : Int} {tgt : Nat} (hd : decode cc pc = .ok (.goto off, 3)) (ht : (pc : Int) + off = (tgt : Int)) (kk : KJ X ck cs L P tgt ls st) : KJ X ck cs L P pc ls st := fun H locs jl h0 h1 h1p h2 h3 => lv_goto C.1 C.2.1 hd ht (kk H locs jl h0 h1 h1p h2 h3)
theorem k_icmp_ge (C : Ok X own cc nL d) {x y : Int} {off : Int} {tgt : Nat} (hd : decode cc pc = .ok (.if_icmp .ge off, 3)) (ht : (pc : Int) + off = (tgt : Int)) (hx : inR x) (hy : inR y) (kt : y ≤ x → KJ X ck cs L P tgt ls st) (kf : x < y → KJ X ck cs L P (pc + 3) ls st) : KJ X ck cs L P pc ls (vI y :: vI x :: st) := fun H locs jl h0 h1 h1p h2 h3 =>
  lv_icmp_ge C.1 C.2.1 hd ht (fun c => kt ((oi_le hy hx).mp c) H locs jl h0 h1 h1p h2 h3) (fun c => kf (Int.not_le.mp (fun e => c ((oi_le hy hx).mpr e))) H locs jl h0 h1 h1p h2 h3)
theorem oi_in1 : Cond.instanceMethod Lib.objectInit ∈ lwg := lwg_of (List.mem_of_getElem? (i := 29) (by decide +kernel)) (by decide +kernel)
theorem oi_in2 : Cond.code Lib.objectInit ⟨#[0xb1]⟩ 1 none ∈ lwg := lwg_of (List.mem_of_getElem? (i := 30) (by decide +kernel)) (by decide +kernel)
theorem k_obj (C : Ok X own cc nL d) {idx q : Nat} (hd1 : 1 ≤ d) (hl : Cond.methodLink own idx Lib.objectInit ∈ lwg) (hd : decode cc pc = .ok (.invokespecial idx, 3)) (kk : KJ X ck cs L P (pc + 3) ls []) : KJ X ck cs L P pc ls [vR q] := fun H locs jl h0 h1 h1p h2 h3 => by
  have hts := C.2.2.2.2.1
  have hf := C.2.2.2.2.2.2.2.1
  have hlo := C.2.2.2.2.2.2.2.2.1
  refine W.objInit C.1 C.2.1 C.2.2.2.1 (hts _ hl) (hts _ oi_in1) (hts _ oi_in2) rfl h3.2.1 rfl hd (by omega) (by show 2 * 0 + 0 + 12 ≤ _; omega) (kk H locs jl h0 h1 h1p h2 h3)
theorem ac_I : Cond.arrayClass .int ∈ lwg := lwg_of (List.mem_of_getElem? (i := 68) (by decide +kernel)) (by decide +kernel)
/-- one cell -/
def on1 (e : SE) : Nat → Option SE := fun o => if o = 0 then some e else none
def z0 : Nat → Int → Int := fun _ _ => 0
theorem k_newa (C : Ok X own cc nL d) {N a : Nat} (hP : moP P) (ha : (xs X).heap.size + ck = a) (hN : N < 100000) (hc : ck + 1 ≤ (xR X).cells) (hs : cs + N ≤ (xR X).slots) (hd : decode cc pc = .ok (.newarray .int, 2)) (kk : KJ X (ck + 1) (cs + N) ((a, on1 (.inr (0, N)), z0) :: L) P (pc + 2) ls (vR a :: st)) : KJ X ck cs L P pc ls (vI (N : Int) :: st) := fun H locs jl h0 h1 h1p h2 h3 => by
  have hn : inR (N : Int) := ⟨by omega, by omega⟩
  refine va_newaK (atype := .int) C.1 C.2.1 (C.2.2.2.2.1 _ ac_I) rfl hd rfl (N := N) (by rw [← oi_0, oi_lt hn (by decide)]; omega) (by rw [oi_nat hn]; omega) (by show N * 4 ≤ 536870912; omega) hc hs (h0.trans ha) fun H1 cA e1 z1 o1 hA hN => ?_
  have hk : ∀ q : Nat, q < H.size → H1[q]? = H[q]? := fun q hq => o1 q (by omega)
  refine kk H1 locs jl (by omega) (lgH_c (fun o e he => ?_) (lgH_k h1 hk)) (hP H H1 h1p hk) ⟨Nat.le_trans h2.1 (by omega), fun q h5 h6 => (o1 q (by omega)).trans (h2.2.1 q h5 h6), h2.2.2⟩ h3
  by_cases c : o = 0
  · have he2 : (Sum.inr (0, N) : SE) = e := by
      have : on1 (.inr (0, N)) o = some e := he
      unfold on1 at this
      rw [if_pos c] at this
      exact Option.some.inj this
    subst he2
    subst c
    exact ⟨_, e1, hA N _, (fun z => nomatch z), by omega, by rw [arrV_size]; exact Nat.le_refl _, by rw [arrV_size], fun j hj => arrV_read cA _ hj⟩
  · exfalso
    have : on1 (.inr (0, N)) o = some e := he
    unfold on1 at this
    rw [if_neg c] at this
    cases this
/-- a final field of the raw object -/
theorem k_putF (C : Ok X own cc nL d) (hin2 : (xM X).name = "<init>") {h ci k N idx a : Nat} {Cn : String} {T : u_T} {fs : List Value} (hb : woB (xV X) ≤ h) (hL : ∀ r ∈ L, h < r.1) (hc : vwCl[ci]? = some (Cn, T, N)) (hin : ∀ w ∈ u_ws Cn T N, w ∈ lwg) (ty0 : Nat → FieldType) (hty : ∀ k, k < N → parseFieldDescriptor (T k).2.2.1 = some (ty0 k)) (hnm : ∀ a, a < N → ∀ b, b < N → a ≠ b → (T a).2.1 ≠ (T b).2.1)
    (hk : k < N) (hl : Cond.fieldLink own idx (T k).1 (T k).2.1 (T k).2.2.1 ∈ lwg) (hfin : (T k).2.2.2 = true) (hdecl : (T k).1 = own) {ty : FieldType} (hd0 : parseFieldDescriptor (T k).2.2.1 = some ty) (hn : narrow ty (.ref a) = .ref a) (hfit : fits ty (.ref a) = true) (hkl : k < fs.length)
    (hd : decode cc pc = .ok (.putfield idx, 3)) (kk : KJ X ck cs L (rwO (woG (xV X)) h ci (fs.set k (.ref a))) (pc + 3) ls st) : KJ X ck cs L (rwO (woG (xV X)) h ci fs) pc ls (vR a :: vR h :: st) := fun H locs jl h0 h1 h1p h2 h3 => by
  obtain ⟨hx, hb', hml, hown, hts, -, hW, -⟩ := C
  have hK := hW.1
  have hap := va_apart (own := own) hts hin ty0 hty hnm hK hc
  obtain ⟨r, e1, cell, q1, q2, q3, q4⟩ := h1p
  have hr : r = (Cn, T, N) := Option.some.inj (e1.symm.trans hc)
  subst hr
  obtain ⟨hS, hfc, kC, hkC, hkind⟩ := hK.1 ci _ hc
  obtain ⟨cf, kf, fi, f, hi, hsl⟩ := hS k hk
  have hlay := hts _ (hin _ (u_in_lay hk))
  unfold u_lay at hlay
  rw [if_pos hfin] at hlay
  have hst := (u_facts hfc hkC (u_lays hts hin hk) hi).1
  have hcf : (xm X).cls = cf := by
    obtain ⟨_, _, c', _, _, _, -, -, hf', -, -, -, hown2, -⟩ := Cond.laysFinal_spec hlay
    have e1 : c' = cf := by have := hi.symm.trans hf'; simp at this; exact this.1.symm
    rw [hdecl] at hown2
    rw [← e1]; exact Option.some.inj (hown.symm.trans hown2)
  have h6 := u_fits hfc hkC hkind (Or.inr hlay) hi hd0 hn hfit
  refine W.putFinK hx hb' hown (hts _ hl) hi hst hcf hin2 (by rw [q2]; exact h6) q1 q3 (by rw [hsl]; exact k2_hasslot (q4 k hk)) rfl rfl hd fun H' e1 e2 e3 => ?_
  rw [hsl] at e1 ⊢
  refine kk H' _ jl (by omega) (fun r hr o e he => cellAt_kept (h1 r hr o e he) (e3 (r.1 + o) (show r.1 + o ≠ h by have := hL r hr; omega))) ?_ (h2.put e2 e3 hb) h3
  exact ⟨_, hc, t_OB.to (V := updV (vp_V fs) k (.ref a)) ⟨_, e1, q2, q3, t_set q4 hap hk (.ref a)⟩ (fun j _ => vp_updV_set hkl (.ref a) j)⟩
end RowsK
/-! constructors: their contracts -/
def pcI (V : Wo) (μ : Mem) (a ci : Nat) (fs : List Value) : Array Value → State → Prop := va_Pc [.ref a] (fun U => (Wd (bsV V a) U U.heap ∧ Hp V U μ U.heap) ∧ U.heap.size = a + 1 ∧ va_at (woG V) vwCl (a, .inr (ci, fs)) U.heap ∧ va_AO RX3 U)
def QI9 (V : Wo) (a : Nat) (r : Nat → Option SE) (i : Nat → Int → Int) : Array Value → State → Outcome → State → Prop := va_Qv (fun _ : Unit => True) (fun _ t => rgH (woG V) t t.heap (a, r, i)) (fun q => a ≤ q)
def ICon (V : Wo) (μ : Mem) (d : Nat) (y : MethodName) (bytes : ByteArray) (maxL ci : Nat) (fs : List Value) (k n : Nat) (r : Nat → Option SE) (i : Nat → Nat → Int → Int) : Prop :=
  ∀ a : Nat, woB V ≤ a → ∀ l : Launch, l.flags = flags0 → Met l y (Cond.code y bytes maxL none :: lwg) ({ frames := d, cells := k, slots := n, locals := 38 * d }) (pcI V μ a ci fs) (QI9 V a r (i a)) k n (fun q => a ≤ q)
theorem pcI_blind {V : Wo} {μ : Mem} {a ci : Nat} {fs : List Value} : FrameBlind (pcI V μ a ci fs) := fun v U g mk h => by
  obtain ⟨h0, ⟨h1, h2⟩, h3, h4, h5⟩ := h
  exact ⟨h0, ⟨zWd_c h1, zHp_m (u := U) (U := U.calling g mk v) (Vm.Alike.refl U.vm) h2⟩, h3, h4, va_AO.moved (u := U) (U := U.calling g mk v) (Vm.Alike.refl U.vm) h5⟩
def FnI (X : Cx) (V : Wo) (μ : Mem) (a k n : Nat) (r : Nat → Option SE) (i : Nat → Int → Int) : Prop :=
  (xM X).sig.returnType = none ∧ xQ X = MQ (xb X) (QI9 V a r i) (xa X) (xs X) k n (fun q => a ≤ q) ∧ (xl X).flags = flags0 ∧ (xM X).name = "<init>" ∧ Hp V (xs X) μ (xs X).heap ∧ va_AO RX3 (xs X) ∧ (xR X).cells = k ∧ (xR X).slots = n ∧ (xs X).heap.size = a + 1
theorem icon_of {V : Wo} {μ : Mem} {d maxL ci k n : Nat} {y : MethodName} {bytes : ByteArray} {fs : List Value} {r : Nat → Option SE} {i : Nat → Nat → Int → Int} {ls0 : Nat → List AV} (hy : plainName y.cls = true) (hyn : y.name = "<init>") (hls : ∀ a, lvl 0 (ls0 a) = [(0, .ref a)]) (hn : ∀ a, (ls0 a).length ≤ maxL) (hn2 : 1 ≤ maxL)
    (body : ∀ (X : Cx) (a : Nat), xV X = bsV V a → woB V ≤ a → Ok X y.cls bytes maxL d → FnI X V μ a k n r (i a) → KJ X 0 0 [] (rwO (woG (xV X)) a ci fs) 0 (ls0 a) []) : ICon V μ d y bytes maxL ci fs k n r i := by
  intro a ha l hfl
  refine Met.ofW (cc := bytes) (maxL := maxL) (ret := none) hy rfl ?_
  intro p e s m args below meth c s₁ B hml hv
  obtain ⟨rfl, ⟨hWd, hHp⟩, hsz, hob, hao⟩ := hv
  have hts := atoms_spec (ws := Cond.code y bytes maxL none :: lwg) B.pre
  have hent := lv_entry [Value.ref a] (n := maxL) hn2
  have K := body (bsV V a, p, l, e, (headSpec (Cond.code y bytes maxL none :: lwg) { frames := d, cells := k, slots := n, locals := 38 * d }).room, s, m, [Value.ref a].toArray, below, meth, c, 0, 0, MQ below (QI9 V a r (i a)) [Value.ref a].toArray s k n (fun q => a ≤ q)) a rfl ha
    ⟨B.exec, B.bytes, hml, findClass_of_methodNamed B.named, fun w hw => hts w (List.mem_cons_of_mem _ hw), B.notSynchronized, hWd, rfl, Nat.le_refl _, Nat.zero_le _, Nat.zero_le _⟩ ⟨B.returns, rfl, hfl, ((name_of_methodNamed B.named B.method).1).trans hyn, hHp, hao, rfl, rfl, hsz⟩ s.heap [] _ rfl (fun r hr => by cases hr) hob va_S.rf
    (by
      show lrel (ls0 a) c.maxLocals _
      rw [hml]
      refine lrel_o hent (hn a) (fun i x h1 h2 => ?_)
      have := (lvl_mem (ls0 a) 0 i _).mpr ⟨i, x, by omega, h1, h2, rfl⟩
      rw [hls a] at this
      exact this)
  rw [lg_entry_eq]
  exact K
theorem k_vret {X : Cx} {own : String} {cc : ByteArray} {nL d ck cs k n a : Nat} {L : List Rg} {P : Heap → Prop} {pc : Nat} {ls : List AV} {V : Wo} {μ : Mem} {r : Nat → Option SE} {i : Nat → Int → Int} (C : Ok X own cc nL d) (hV : xV X = bsV V a) (hF : FnI X V μ a k n r i) (hd : decode cc pc = .ok (.return_, 1)) (hk : ck = k) (hn : cs = n)
    (hfin : ∀ H : Heap, lgH (woG V) (xs X) H L → P H → rgH (woG V) (xs X) H (a, r, i)) : KJ X ck cs L P pc ls [] := fun H locs jl h0 h1 h1p h2 h3 => by
  subst hk; subst hn
  rw [hF.2.1]
  have hG : woG (xV X) = woG V := by rw [hV]; rfl
  have hA : woA (xV X) = fun q => a ≤ q := by rw [hV]; rfl
  rw [hG] at h1
  rw [hA] at h2
  exact W.vret C.1 C.2.1 hF.1 (fun t ht hW => ⟨⟨(), rfl, trivial, by show rgH (woG V) t t.heap (a, r, i); rw [ht]; exact rgH_m hW.alike (hfin H h1 h1p)⟩, h2.F ht⟩) h2.2.2 hd C.2.2.2.2.2.1
/-- on to the walk over whole objects -/
def toX (X : Cx) (V : Wo) (ck cs : Nat) : Cx := (V, xp X, xl X, xe X, xR X, xs X, xm X, xa X, xb X, xM X, xc X, ck, cs, xQ X)
theorem ok_toX {X : Cx} {own : String} {cc : ByteArray} {nL d a ck cs : Nat} {V : Wo} {r : Nat → Option SE} (C : Ok X own cc nL d) (hV : xV X = bsV V a) (h1 : ck ≤ (xR X).cells) (h2 : cs ≤ (xR X).slots) : Ok (toX X (exV V a r) ck cs) own cc nL d := by
  obtain ⟨c1, c2, c3, c4, c5, c6, c7, c8, c9, c10, c11⟩ := C
  rw [hV] at c7
  exact ⟨c1, c2, c3, c4, c5, c6, c7, c8, c9, h1, h2⟩
theorem hp0_at {X : Cx} {a : Nat} {V : Wo} {μ : Mem} {H : Heap} {locs : List Loc} (hlo : loV V) (ha : woB V ≤ a) (h : Hp V (xs X) μ (xs X).heap) (h2 : va_S (fun q => a ≤ q) (xs X).heap H locs) : Hp V (xs X) μ H := fun q e he =>
  cellAt_kept (h q e he) (h2.2.1 q (cellAt_lt (h q e he)) (by have := hlo q e he; omega))
theorem k_toR {X : Cx} {ck cs k n a : Nat} {L : List Rg} {P : Heap → Prop} {pc : Nat} {ls st : List AV} {V : Wo} {μ : Mem} {r : Nat → Option SE} {i j : Nat → Int → Int} (hV : xV X = bsV V a) (hlo : loV V) (ha : woB V ≤ a) (hF : FnI X V μ a k n r i) (hfin : ∀ H : Heap, lgH (woG V) (xs X) H L → P H → rgH (woG V) (xs X) H (a, r, j))
    (kk : RR (toX X (exV V a r) ck cs) (omM μ a j) pc ls st) : KJ X ck cs L P pc ls st := fun H locs jl h0 h1 h1p h2 h3 => by
  have hG : woG (xV X) = woG V := by rw [hV]; rfl
  have hA : woA (xV X) = fun q => a ≤ q := by rw [hV]; rfl
  rw [hG] at h1
  rw [hA] at h2
  exact kk H locs jl (hp_ex (hp0_at hlo ha hF.2.2.2.2.1 h2) (hfin H h1 h1p)) h2 h3
theorem r_vretI {X : Cx} {own : String} {cc : ByteArray} {nL d k n a : Nat} {μ' : Mem} {pc : Nat} {ls : List AV} {V : Wo} {μ : Mem} {r : Nat → Option SE} {i : Nat → Int → Int} (C : Ok (toX X (exV V a r) k n) own cc nL d) (hF : FnI X V μ a k n r i) (hd : decode cc pc = .ok (.return_, 1)) (hμ : ∀ o, r o ≠ none → μ' (a + o) = i o) : RR (toX X (exV V a r) k n) μ' pc ls [] := fun H locs jl h1 h2 h3 => by
  show W _ _ _ _ _ _ _ _ _ _ _ _ _ _ (xQ X) _
  rw [hF.2.1]
  exact W.vret C.1 C.2.1 hF.1 (fun t ht hW => ⟨⟨(), rfl, trivial, by show rgH (woG V) t t.heap (a, r, i); rw [ht]; exact rgH_m hW.alike (rg_i (rg_hp h1) hμ)⟩, h2.F ht⟩) h2.2.2 hd C.2.2.2.2.2.1
