/-! what is known of the locals may be forgotten -/
def fgl : List AV → List AV → Prop
  | [], [] => True
  | a :: l', b :: l => (a = vU ∨ a = b) ∧ fgl l' l
  | _, _ => False
theorem fgl_ok : ∀ (l' l : List AV), fgl l' l → l'.length = l.length ∧ ∀ (i : Nat) (a : AV), l'[i]? = some a → a ≠ vU → l[i]? = some a
  | [], [], _ => ⟨rfl, fun i a h => by cases h⟩
  | a :: l', b :: l, h => by
    have g := fgl_ok l' l h.2
    refine ⟨by rw [List.length_cons, List.length_cons, g.1], fun i c h1 h2 => ?_⟩
    cases i with
    | zero =>
      have e : a = c := Option.some.inj h1
      rcases h.1 with h3 | h3
      · exact absurd (e.symm.trans h3) h2
      · exact (congrArg some (h3.symm.trans e))
    | succ i => exact g.2 i c h1 h2
  | [], _ :: _, h => h.elim
  | _ :: _, [], h => h.elim
theorem r_fg {X : Cx} {μ : Mem} {pc : Nat} {ls ls' st : List AV} (h : fgl ls' ls) (kk : RR X μ pc ls' st) : RR X μ pc ls st := fun H locs jl h1 h2 h3 =>
  kk H locs jl h1 h2 ⟨h3.1, h3.2.1, by rw [(fgl_ok _ _ h).1]; exact h3.2.2.1, fun i a q1 q2 => h3.2.2.2 i a ((fgl_ok _ _ h).2 i a q1 q2) q2⟩
/-! a callee with many locals, two levels down -/
def LkW (y : MethodName) (bytes : ByteArray) (maxL : Nat) (ret : Option FieldType) (n : Nat) : Prop := Cond.code y bytes maxL ret ∈ lwg ∧ Cond.initialized y.cls ∈ lwg ∧ (y.cls ≠ "java/lang/invoke/MethodHandle" ∧ y.cls ≠ "java/lang/invoke/VarHandle" ∧ (parseMethodDescriptor y.desc).map (fun d => d.parameters.length) = some n) ∧ maxL ≤ 40
section RowsW
variable {X : Cx} {own : String} {cc : ByteArray} {nL d : Nat} {μ : Mem} {pc : Nat} {ls st : List AV}
theorem lk_W (C : Ok X own cc nL d) {y : MethodName} {bytes : ByteArray} {maxL n d' idx : Nat} {ret : Option FieldType} (hm : LkW y bytes maxL ret n) (hl : Cond.methodLink own idx y ∈ lwg) (hlev : d' + 2 ≤ d) :
    CallB (xR X) (xs X) (xa X) own idx y bytes maxL ret (Cond.code y bytes maxL ret :: lwg) ({ frames := d', cells := 0, slots := 0, locals := 38 * d' }) 0 0 n := by
  obtain ⟨m1, m2, m3, m4⟩ := hm
  have hts := C.2.2.2.2.1
  have h1 := C.2.2.2.2.2.2.2.1
  have h2 := C.2.2.2.2.2.2.2.2.1
  exact callB_of n hts (lwg_in (fun w hw => (List.mem_cons.mp hw).elim (fun e => by rw [e]; exact m1) (fun h => h))) rfl rfl rfl (hts _ m2) (hts _ hl) m3 ⟨by show d' + 1 ≤ _; omega, by show 8 + (maxL + 11) + 38 * d' ≤ _; omega⟩
theorem run_SW (C : Ok X own cc nL d) {y : MethodName} {bytes : ByteArray} {maxL d' idx : Nat} {ret : Option FieldType} {as st0 : List AV} {Qc : Array Value → State → Outcome → State → Prop} (hfl : (xl X).flags = flags0) (hcon : Con (xV X) d' y bytes maxL ret as μ Qc) (hm : LkW y bytes maxL ret as.length)
    (hl : Cond.methodLink own idx y ∈ lwg) (hi : Cond.static y ∈ lwg) (hlev : d' + 2 ≤ d) (hd : decode cc pc = .ok (.invokestatic idx, 3)) (hst : st0 = as.reverse ++ st) (hw : csum st ≤ 8)
    {H : Heap} {locs : List Loc} {jl : Array Slot} (h1 : Hp (xV X) (xs X) μ H) (h2 : va_S (woA (xV X)) (xs X).heap H locs) (h3 : lrel ls (xc X).maxLocals jl) : XRun X H locs pc jl st0 st (Qc (as.map cv).toArray) := by
  have hts := C.2.2.2.2.1
  subst hst
  exact va_runS (As := as.map cv) (call_fix C) (hcon (xl X) hfl) ⟨lk_W C hm hl hlev, hts _ hi⟩ ⟨pc_blind, pc_at C.2.2.2.2.2.2.1 h2 h1⟩ rfl (List.length_map ..) ((lrel_size h3).trans C.2.2.1) (map_rv as st) (by show 2 * 0 + _ ≤ 8; rw [csum_cv]; omega) hd ⟨C.2.2.2.2.2.2.2.2.2.1, C.2.2.2.2.2.2.2.2.2.2⟩
end RowsW
set_option maxRecDepth 100000 in
theorem lw_L_isAhead : LkW yL_isAhead cL_isAhead 20 (some .boolean) 3 := ⟨lwg_of (List.mem_of_getElem? (i := 607) rfl) rfl, ini_L, ⟨by decide +kernel, by decide +kernel, by decide +kernel⟩, by decide⟩
