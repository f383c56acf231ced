/-! the law's steps: class and reference side by side -/
def LW (X : Cx) (b L q m o : Nat) : Prop := (MoS (xV X) m ∧ woS (xV X) o = some (.inr (1, 1)) ∧ woB (xV X) ≤ o ∧ woS (xV X) q = some (.inl 4) ∧ woS (xV X) b = some (.inr (0, L))) ∧ (b < q ∧ q + 112 < m ∧ m + 5 < o ∧ (woZ (xV X)).1 < q ∧ (woZ (xV X)).2.1 < q) ∧ (xl X).flags = flags0 ∧ ExU (xs X)
/-- what the reference remembers -/
def MS (m : Nat) (μ : Mem) (w tx : Int → Int) (sv kp ln : Int) : Prop := μ (m + 1) = w ∧ μ (m + 2) = tx ∧ μ m 2 = sv ∧ μ m 3 = kp ∧ μ m 5 = ln
def LI (V : Wo) (q m b : Nat) (B : Int → Int) (K : Int) (μ : Mem) : Prop := ∃ (w tx : Int → Int) (sv kp ln : Int), CI V K q μ w tx sv kp ln ∧ MS m μ w tx sv kp ln ∧ μ b = B ∧ ZS V μ
theorem zs_k {V : Wo} {μ ν : Mem} (h : ZS V μ) (h1 : ν (woZ V).1 = μ (woZ V).1) (h2 : ν (woZ V).2.1 = μ (woZ V).2.1) : ZS V ν := ⟨h.1, h.2.1, fun x x0 x3 => by rw [h1, h2]; exact h.2.2 x x0 x3⟩
theorem lm_x {X : Cx} {b L q m o : Nat} {μ ρ : Mem} {w tx : Int → Int} {sv kp ln : Int} {B : Int → Int} (hW : LW X b L q m o) (hf : ∀ r, (r < q ∨ q + 112 < r) → ρ r = μ r) (hm : MS m μ w tx sv kp ln) (hb : μ b = B) (hz : ZS (xV X) μ) : MS m ρ w tx sv kp ln ∧ ρ b = B ∧ ZS (xV X) ρ := by
  obtain ⟨-, ⟨g1, g2, g3, g4, g5⟩, -⟩ := hW
  obtain ⟨m1, m2, m3, m4, m5⟩ := hm
  have e0 : ρ m = μ m := hf m (by omega)
  exact ⟨⟨(hf _ (by omega)).trans m1, (hf _ (by omega)).trans m2, by rw [e0]; exact m3, by rw [e0]; exact m4, by rw [e0]; exact m5⟩, (hf _ (by omega)).trans hb, zs_k hz (hf _ (by omega)) (hf _ (by omega))⟩
theorem lm_n {X : Cx} {b L q m o : Nat} {ρ : Mem} {w tx w' tx' : Int → Int} {sv kp ln sv' kp' ln' K' : Int} {B : Int → Int} (hW : LW X b L q m o) (hI : CI (xV X) K' q ρ w' tx' sv' kp' ln') (h : MS m ρ w tx sv kp ln ∧ ρ b = B ∧ ZS (xV X) ρ) (f : Int → Int) :
    CI (xV X) K' q (wr ρ o f) w' tx' sv' kp' ln' ∧ MS m (wr ρ o f) w tx sv kp ln ∧ (wr ρ o f) b = B ∧ ZS (xV X) (wr ρ o f) := by
  obtain ⟨-, ⟨g1, g2, g3, g4, g5⟩, -⟩ := hW
  obtain ⟨⟨m1, m2, m3, m4, m5⟩, hb, hz⟩ := h
  have e : ∀ r, r ≠ o → wr ρ o f r = ρ r := fun r hr => wr_n _ _ hr
  have e0 : wr ρ o f m = ρ m := e m (by omega)
  exact ⟨CI_f hI (fun r r0 r1 _ _ _ => e r (by omega)) (by rw [e _ (by omega)]; exact hI.2.2.2.2.2), ⟨(e _ (by omega)).trans m1, (e _ (by omega)).trans m2, by rw [e0]; exact m3, by rw [e0]; exact m4, by rw [e0]; exact m5⟩, (e _ (by omega)).trans hb, zs_k hz (e _ (by omega)) (e _ (by omega))⟩
theorem lm_v {X : Cx} {b L q m o : Nat} {ρ ν : Mem} {w tx w' tx' f : Int → Int} {sv kp ln sv' kp' ln' K' : Int} {B : Int → Int} (hν : ν = wr ρ o f) (hW : LW X b L q m o) (hI : CI (xV X) K' q ρ w' tx' sv' kp' ln') (h : MS m ρ w tx sv kp ln ∧ ρ b = B ∧ ZS (xV X) ρ) :
    CI (xV X) K' q ν w' tx' sv' kp' ln' ∧ MS m ν w tx sv kp ln ∧ ν b = B ∧ ZS (xV X) ν := by
  subst hν
  exact lm_n hW hI h f
theorem lm_r {X : Cx} {b L q m o : Nat} {ν σ : Mem} {w' tx' : Int → Int} {sv' kp' ln' K' th : Int} {B : Int → Int} (hW : LW X b L q m o) (hI : CI (xV X) K' q ν w' tx' sv' kp' ln') (hb : ν b = B) (hz : ZS (xV X) ν) (hM : MR m ν σ th sv' kp' ln' w' tx') : LI (xV X) q m b B K' σ ∧ σ m 0 = th ∧ σ o = ν o := by
  obtain ⟨-, ⟨g1, g2, g3, g4, g5⟩, -⟩ := hW
  obtain ⟨r1, r2, ⟨r3, r4, r5, r6⟩, hf⟩ := hM
  exact ⟨⟨w', tx', sv', kp', ln', CI_f hI (fun r r0 r1 _ _ _ => hf r (by omega)) (by rw [hf _ (by omega)]; exact hI.2.2.2.2.2), ⟨r1, r2, r4, r5, r6⟩, (hf _ (by omega)).trans hb, zs_k hz (hf _ (by omega)) (hf _ (by omega))⟩, r3, hf _ (by omega)⟩
theorem bu_of {V : Wo} {K : Int} {q m : Nat} {ν μ : Mem} {w tx : Int → Int} {sv kp ln : Int} (h : CI V K q μ w tx sv kp ln) (n2 : ν (m + 2) = tx) (n5 : ν m 5 = ln) : BuW ν m := by
  obtain ⟨-, -, -, -, ⟨b1, b2, b3, b4⟩, -⟩ := h
  unfold BuW
  rw [n2, n5]
  exact ⟨b2, b4⟩
theorem wkN_01 (b : Int → Int) (n : Int) : ∀ (k : Nat) (a : Int), (wkN b n k a).1 = 0 ∨ (wkN b n k a).1 = 1
  | 0, a => Or.inl rfl
  | k + 1, a => by
    unfold wkN
    split
    · split
      · exact Or.inr rfl
      · split
        · exact wkN_01 b n k _
        · exact Or.inl rfl
    · exact Or.inl rfl
theorem wk_01 (b : Int → Int) (n i a : Int) : (wk b n i a).1 = 0 ∨ (wk b n i a).1 = 1 := wkN_01 b n _ a
def LkL (y : MethodName) (bytes : ByteArray) (maxL : Nat) (hh : List (Nat × Nat × Nat × Nat)) (n : Nat) : Prop := Cond.codeWith y bytes maxL (some .int) hh ∈ lwg ∧ Cond.initialized y.cls ∈ lwg ∧ (y.cls ≠ "java/lang/invoke/MethodHandle" ∧ y.cls ≠ "java/lang/invoke/VarHandle" ∧ (parseMethodDescriptor y.desc).map (fun d => d.parameters.length) = some n) ∧ maxL ≤ 5
section RowsM
variable {X : Cx} {own : String} {cc : ByteArray} {nL d : Nat} {μ : Mem} {pc : Nat} {ls st : List AV}
theorem r_wid {k n : Nat} (hk : xk X ≤ k) (hn : xn X ≤ n) (kk : RR (toX X (xV X) k n) μ pc ls st) : RR X μ pc ls st := fun H locs jl h1 h2 h3 => W.widen hk hn (kk H locs jl h1 h2 h3)
theorem run_LW (C : Ok X RL cc nL 10) {y : MethodName} {bytes : ByteArray} {maxL idx : Nat} {hh : List (Nat × Nat × Nat × Nat)} {as st0 : List AV} {Qc : Array Value → State → Outcome → State → Prop} (hfl : (xl X).flags = flags0) (hE : ExU (xs X)) (hcon : LCon (xV X) y bytes maxL hh as μ Qc) (hm : LkL y bytes maxL hh as.length)
    (hl : Cond.methodLink RL idx y ∈ lwg) (hst : Cond.static y ∈ lwg) (hd : decode cc pc = .ok (.invokestatic idx, 3)) (hs : st0 = as.reverse ++ st) (hw : csum st ≤ 8) (r1 : xk X + 1 ≤ (xR X).cells) (r2 : xn X + 6 ≤ (xR X).slots)
    {H : Heap} {locs : List Loc} {jl : Array Slot} (h1 : Hp (xV X) (xs X) μ H) (h2 : va_S (woA (xV X)) (xs X).heap H locs) (h3 : lrel ls (xc X).maxLocals jl) :
    va_Run (xp X) (xl X) (xe X) (xR X) (xs X) (xm X) (xa X) (xb X) (xM X) (xc X) H locs (xk X) (xn X) 1 6 (F0 (xm X) pc jl (st0.map cv)) (st.map cv) (Qc (as.map cv).toArray) (woA (xV X)) := by
  have hts := C.2.2.2.2.1
  obtain ⟨m1, m2, m3, m4⟩ := hm
  have q1 := C.2.2.2.2.2.2.2.1
  have q2 := C.2.2.2.2.2.2.2.2.1
  subst hs
  exact vx_runSW (As := as.map cv) (call_fix C) (hcon (xl X) hfl) ⟨⟨rfl, rfl, by show 9 + 1 ≤ _; omega, by show 8 + (maxL + 11) + 34 * 9 ≤ _; omega, pay_in hts (lwg_in (fun w hw => (List.mem_cons.mp hw).elim (fun e => by rw [e]; exact m1) (fun h => h))), List.mem_cons_self⟩, hts _ m1, hts _ m2, ⟨m3.1, m3.2.1⟩, fun sig h => by
      have h2 := m3.2.2
      rw [h] at h2
      exact (Option.some.inj h2).symm, hts _ hl, hts _ hst⟩ ⟨pcX_blind, pcX_at C.2.2.2.2.2.2.1 h2 h1 hE⟩ rfl (List.length_map ..) ((lrel_size h3).trans C.2.2.1) (map_rv as st) (by show 2 * 0 + _ ≤ 8; rw [csum_cv]; omega) hd ⟨r1, r2⟩
theorem r_runI1 {x : Int} {P : Mem → Prop} {st0 : List AV} {aa : Array Value} (hr : ∀ (H : Heap) (locs : List Loc) (jl : Array Slot), Hp (xV X) (xs X) μ H → va_S (woA (xV X)) (xs X).heap H locs → lrel ls (xc X).maxLocals jl → va_Run (xp X) (xl X) (xe X) (xR X) (xs X) (xm X) (xa X) (xb X) (xM X) (xc X) H locs (xk X) (xn X) 1 6 (F0 (xm X) pc jl (st0.map cv)) (st.map cv) (QIr (xV X) x P aa) (woA (xV X)))
    (kk : ∀ ν : Mem, P ν → RR (X1 X) ν (pc + 3) ls (vI x :: st)) : RR X μ pc ls st0 := fun H locs jl h1 h2 h3 =>
  va_calli (hr H locs jl h1 h2 h3) h2 (fun _ _ h => h) (fun _ h => h) (fun r u t H1 locs1 ht hvm hp hb _ _ hS => by
    obtain ⟨rfl, hp2⟩ := hp
    exact kk u hp2 H1 locs1 jl (by rw [← ht]; exact zHp_m hvm.symm hb) hS h3)
theorem r_same {x : Int} (C : Ok X own cc nL d) {off : Int} {tgt : Nat} (hd : decode cc pc = .ok (.if_icmp .eq off, 3)) (ht : (pc : Int) + off = (tgt : Int)) (kt : RR X μ tgt ls st) : RR X μ pc ls (vI x :: vI x :: st) := by
  have h := r_icmp_eq (x := rI x) (y := rI x) C hd ht (rI_r x) (rI_r x) (fun _ => kt) (fun c => absurd rfl c)
  unfold RR at h ⊢
  have e : (vI (rI x) :: vI (rI x) :: st).map cv = (vI x :: vI x :: st).map cv := by
    show cv (vI (rI x)) :: cv (vI (rI x)) :: st.map cv = cv (vI x) :: cv (vI x) :: st.map cv
    rw [show cv (vI (rI x)) = cv (vI x) from congrArg Value.int (rI_o x)]
  rw [e] at h
  exact h
theorem r_lcmp0 (C : Ok X own cc nL d) {x y : Int64} (hd : decode cc pc = .ok (.lcmp, 1)) (e : x = y) (kk : RR X μ (pc + 1) ls (vI 0 :: st)) : RR X μ pc ls (vV (.long y) :: vV (.long x) :: st) := fun H locs jl h1 h2 h3 => by
  refine W.lcmp C.1 C.2.1 hd ?_
  rw [(lg_cmp_eq x y).mpr e]
  exact kk H locs jl h1 h2 h3
end RowsM
