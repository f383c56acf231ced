/-! the judgement, and a row an instruction -/
abbrev Cx : Type := Wo × Program × Launch × Env × Room × State × MethodId × Array Value × List Frame × Method × Code × Nat × Nat × (State → Prop)
abbrev xV (X : Cx) : Wo := X.1
abbrev xp (X : Cx) : Program := X.2.1
abbrev xl (X : Cx) : Launch := X.2.2.1
abbrev xe (X : Cx) : Env := X.2.2.2.1
abbrev xR (X : Cx) : Room := X.2.2.2.2.1
abbrev xs (X : Cx) : State := X.2.2.2.2.2.1
abbrev xm (X : Cx) : MethodId := X.2.2.2.2.2.2.1
abbrev xa (X : Cx) : Array Value := X.2.2.2.2.2.2.2.1
abbrev xb (X : Cx) : List Frame := X.2.2.2.2.2.2.2.2.1
abbrev xM (X : Cx) : Method := X.2.2.2.2.2.2.2.2.2.1
abbrev xc (X : Cx) : Code := X.2.2.2.2.2.2.2.2.2.2.1
abbrev xk (X : Cx) : Nat := X.2.2.2.2.2.2.2.2.2.2.2.1
abbrev xn (X : Cx) : Nat := X.2.2.2.2.2.2.2.2.2.2.2.2.1
abbrev xQ (X : Cx) : State → Prop := X.2.2.2.2.2.2.2.2.2.2.2.2.2
def RR (X : Cx) (μ : Mem) (pc : Nat) (ls st : List AV) : Prop := ∀ (H : Heap) (locs : List Loc) (jl : Array Slot), Hp (xV X) (xs X) μ H → va_S (woA (xV X)) (xs X).heap H locs → lrel ls (xc X).maxLocals jl →
  W (xp X) (xl X) (xe X) (xR X) (xs X) (xm X) (xa X) (xb X) (xM X) (xc X) H locs (xk X) (xn X) (xQ X) (F0 (xm X) pc jl (st.map cv))
def Ok (X : Cx) (own : String) (cc : ByteArray) (nL d : Nat) : Prop := (xp X).tables.exec = Jvm.exec ∧ (xc X).code = cc ∧ (xc X).maxLocals = nL ∧ (xs X).vm.findClass own = some (xm X).cls ∧ (∀ w ∈ lwg, w.before (xa X) (xs X) = true) ∧ (xM X).locks = false ∧
  Wd (xV X) (xs X) (xs X).heap ∧ (xR X).frames = d ∧ 38 * d ≤ (xR X).locals ∧ xk X ≤ (xR X).cells ∧ xn X ≤ (xR X).slots
section Rows1
variable {X : Cx} {own : String} {cc : ByteArray} {nL d : Nat} {μ : Mem} {pc : Nat} {ls st : List AV}
theorem r_iconst (C : Ok X own cc nL d) {n : Int} (hd : decode cc pc = .ok (.iconst n, 1)) (k : RR X μ (pc + 1) ls (vI n :: st)) : RR X μ pc ls st := fun H locs jl h1 h2 h3 => lv_iconst C.1 C.2.1 hd rfl (k H locs jl h1 h2 h3)
theorem r_bipush (C : Ok X own cc nL d) {n : Int} (hd : decode cc pc = .ok (.bipush n, 2)) (hv : (Int8.ofInt n).toInt32 = Int32.ofInt n) (k : RR X μ (pc + 2) ls (vI n :: st)) : RR X μ pc ls st := fun H locs jl h1 h2 h3 => lv_bipush C.1 C.2.1 hd hv (k H locs jl h1 h2 h3)
theorem r_sipush (C : Ok X own cc nL d) {n : Int} (hd : decode cc pc = .ok (.sipush n, 3)) (hv : (Int16.ofInt n).toInt32 = Int32.ofInt n) (k : RR X μ (pc + 3) ls (vI n :: st)) : RR X μ pc ls st := fun H locs jl h1 h2 h3 => lv_sipush C.1 C.2.1 hd hv (k H locs jl h1 h2 h3)
theorem r_lconst (C : Ok X own cc nL d) {n : Fin 2} (hd : decode cc pc = .ok (.lconst n, 1)) (k : RR X μ (pc + 1) ls (vV (.long (Int64.ofNat (n : Nat))) :: st)) : RR X μ pc ls st := fun H locs jl h1 h2 h3 => lv_lconst C.1 C.2.1 hd rfl (k H locs jl h1 h2 h3)
theorem r_iload_n (C : Ok X own cc nL d) {k : Fin 4} {x : Int} (hd : decode cc pc = .ok (.iload_n k, 1)) (hl : ls[(k : Nat)]? = some (vI x)) (kk : RR X μ (pc + 1) ls (vI x :: st)) : RR X μ pc ls st := fun H locs jl h1 h2 h3 =>
  lv_iload_n C.1 C.2.1 hd rfl (h3.2.2.2 _ _ hl (by simp)) (kk H locs jl h1 h2 h3)
theorem r_iload (C : Ok X own cc nL d) {i : Nat} {x : Int} (hd : decode cc pc = .ok (.iload i, 2)) (hl : ls[i]? = some (vI x)) (kk : RR X μ (pc + 2) ls (vI x :: st)) : RR X μ pc ls st := fun H locs jl h1 h2 h3 =>
  lv_iload C.1 C.2.1 hd (h3.2.2.2 _ _ hl (by simp)) (kk H locs jl h1 h2 h3)
theorem r_aload_n (C : Ok X own cc nL d) {k : Fin 4} {q : Nat} (hd : decode cc pc = .ok (.aload_n k, 1)) (hl : ls[(k : Nat)]? = some (vR q)) (kk : RR X μ (pc + 1) ls (vR q :: st)) : RR X μ pc ls st := fun H locs jl h1 h2 h3 =>
  lv_aload_n C.1 C.2.1 hd rfl (h3.2.2.2 _ _ hl (by simp)) (kk H locs jl h1 h2 h3)
theorem r_aload (C : Ok X own cc nL d) {i : Nat} {q : Nat} (hd : decode cc pc = .ok (.aload i, 2)) (hl : ls[i]? = some (vR q)) (kk : RR X μ (pc + 2) ls (vR q :: st)) : RR X μ pc ls st := fun H locs jl h1 h2 h3 =>
  lv_aload C.1 C.2.1 hd (h3.2.2.2 _ _ hl (by simp)) (kk H locs jl h1 h2 h3)
theorem r_lload_n (C : Ok X own cc nL d) {k : Fin 4} {x : Int64} (hd : decode cc pc = .ok (.lload_n k, 1)) (hl : ls[(k : Nat)]? = some (vV (.long x))) (kk : RR X μ (pc + 1) ls (vV (.long x) :: st)) : RR X μ pc ls st := fun H locs jl h1 h2 h3 =>
  lv_lload_n C.1 C.2.1 hd rfl (h3.2.2.2 _ _ hl (by simp)) (kk H locs jl h1 h2 h3)
theorem r_lload (C : Ok X own cc nL d) {i : Nat} {x : Int64} (hd : decode cc pc = .ok (.lload i, 2)) (hl : ls[i]? = some (vV (.long x))) (kk : RR X μ (pc + 2) ls (vV (.long x) :: st)) : RR X μ pc ls st := fun H locs jl h1 h2 h3 =>
  lv_lload C.1 C.2.1 hd (h3.2.2.2 _ _ hl (by simp)) (kk H locs jl h1 h2 h3)
theorem r_dload_n (C : Ok X own cc nL d) {k : Fin 4} {x : UInt64} (hd : decode cc pc = .ok (.dload_n k, 1)) (hl : ls[(k : Nat)]? = some (vV (.double x))) (kk : RR X μ (pc + 1) ls (vV (.double x) :: st)) : RR X μ pc ls st := fun H locs jl h1 h2 h3 =>
  lv_dload_n C.1 C.2.1 hd rfl (h3.2.2.2 _ _ hl (by simp)) (kk H locs jl h1 h2 h3)
theorem r_dload (C : Ok X own cc nL d) {i : Nat} {x : UInt64} (hd : decode cc pc = .ok (.dload i, 2)) (hl : ls[i]? = some (vV (.double x))) (kk : RR X μ (pc + 2) ls (vV (.double x) :: st)) : RR X μ pc ls st := fun H locs jl h1 h2 h3 =>
  lv_dload C.1 C.2.1 hd (h3.2.2.2 _ _ hl (by simp)) (kk H locs jl h1 h2 h3)
theorem r_fload_n (C : Ok X own cc nL d) {k : Fin 4} {x : UInt32} (hd : decode cc pc = .ok (.fload_n k, 1)) (hl : ls[(k : Nat)]? = some (vV (.float x))) (kk : RR X μ (pc + 1) ls (vV (.float x) :: st)) : RR X μ pc ls st := fun H locs jl h1 h2 h3 =>
  lv_fload_n C.1 C.2.1 hd rfl (h3.2.2.2 _ _ hl (by simp)) (kk H locs jl h1 h2 h3)
theorem r_istore_n (C : Ok X own cc nL d) {k : Fin 4} {x : Int} (hd : decode cc pc = .ok (.istore_n k, 1)) (hk : (k : Nat) < nL) (hs : sok ls k = true) (kk : RR X μ (pc + 1) (ls.set k (vI x)) st) : RR X μ pc ls (vI x :: st) := fun H locs jl h1 h2 h3 =>
  lv_istore_n C.1 C.2.1 hd rfl (lrel_h h3) (by rw [C.2.2.1]; exact hk) rfl (fun ls' h => kk H locs ls' h1 h2 (lrel_keep1 h3.2.2.1 hs h))
theorem r_istore (C : Ok X own cc nL d) {i : Nat} {x : Int} (hd : decode cc pc = .ok (.istore i, 2)) (hk : i < nL) (hs : sok ls i = true) (kk : RR X μ (pc + 2) (ls.set i (vI x)) st) : RR X μ pc ls (vI x :: st) := fun H locs jl h1 h2 h3 =>
  lv_istore C.1 C.2.1 hd (lrel_h h3) (by rw [C.2.2.1]; exact hk) rfl (fun ls' h => kk H locs ls' h1 h2 (lrel_keep1 h3.2.2.1 hs h))
theorem r_astore_n (C : Ok X own cc nL d) {k : Fin 4} {q : Nat} (hd : decode cc pc = .ok (.astore_n k, 1)) (hk : (k : Nat) < nL) (hs : sok ls k = true) (kk : RR X μ (pc + 1) (ls.set k (vR q)) st) : RR X μ pc ls (vR q :: st) := fun H locs jl h1 h2 h3 =>
  lv_astore_n C.1 C.2.1 hd rfl (lrel_h h3) (by rw [C.2.2.1]; exact hk) rfl (fun ls' h => kk H locs ls' h1 h2 (lrel_keep1 h3.2.2.1 hs h))
theorem r_astore (C : Ok X own cc nL d) {i : Nat} {q : Nat} (hd : decode cc pc = .ok (.astore i, 2)) (hk : i < nL) (hs : sok ls i = true) (kk : RR X μ (pc + 2) (ls.set i (vR q)) st) : RR X μ pc ls (vR q :: st) := fun H locs jl h1 h2 h3 =>
  lv_astore C.1 C.2.1 hd (lrel_h h3) (by rw [C.2.2.1]; exact hk) rfl (fun ls' h => kk H locs ls' h1 h2 (lrel_keep1 h3.2.2.1 hs h))
theorem r_lstore_n (C : Ok X own cc nL d) {k : Fin 4} {x : Int64} (hd : decode cc pc = .ok (.lstore_n k, 1)) (hk : (k : Nat) + 1 < nL) (hs : sok ls k = true) (kk : RR X μ (pc + 1) ((ls.set ((k : Nat) + 1) vU).set k (vV (.long x))) st) : RR X μ pc ls (vV (.long x) :: st) := fun H locs jl h1 h2 h3 =>
  lv_lstore_n C.1 C.2.1 hd rfl (lrel_h h3) (by rw [C.2.2.1]; exact hk) rfl (fun ls' h => kk H locs ls' h1 h2 (lrel_keep2 h3.2.2.1 hs h))
theorem r_lstore (C : Ok X own cc nL d) {i : Nat} {x : Int64} (hd : decode cc pc = .ok (.lstore i, 2)) (hk : i + 1 < nL) (hs : sok ls i = true) (kk : RR X μ (pc + 2) ((ls.set (i + 1) vU).set i (vV (.long x))) st) : RR X μ pc ls (vV (.long x) :: st) := fun H locs jl h1 h2 h3 =>
  lv_lstore C.1 C.2.1 hd (lrel_h h3) (by rw [C.2.2.1]; exact hk) rfl (fun ls' h => kk H locs ls' h1 h2 (lrel_keep2 h3.2.2.1 hs h))
theorem r_iinc (C : Ok X own cc nL d) {i : Nat} {n x : Int} (hd : decode cc pc = .ok (.iinc i n, 3)) (hl : ls[i]? = some (vI x)) (hk : i < nL) (hs : sok ls i = true) (kk : RR X μ (pc + 3) (ls.set i (vI (x + n))) st) : RR X μ pc ls st := fun H locs jl h1 h2 h3 => by
  have hm : (i, Value.int (Int32.ofInt x)) ∈ lvl 0 ls := (lvl_mem ls 0 i _).mpr ⟨i, vI x, by omega, hl, by simp, rfl⟩
  obtain ⟨k, hk2⟩ := List.getElem?_of_mem hm
  exact lv_iinc C.1 C.2.1 hd (lrel_h h3) hk2 (by rw [← Int32.ofInt_add]) (by rw [C.2.2.1]; exact hk) rfl (fun ls' h => kk H locs ls' h1 h2 (lrel_keep1 h3.2.2.1 hs h))
theorem r_iadd (C : Ok X own cc nL d) {x y : Int} (hd : decode cc pc = .ok (.iadd, 1)) (k : RR X μ (pc + 1) ls (vI (x + y) :: st)) : RR X μ pc ls (vI y :: vI x :: st) := fun H locs jl h1 h2 h3 => lv_iadd C.1 C.2.1 hd (by rw [← Int32.ofInt_add]; exact k H locs jl h1 h2 h3)
theorem r_isub (C : Ok X own cc nL d) {x y : Int} (hd : decode cc pc = .ok (.isub, 1)) (k : RR X μ (pc + 1) ls (vI (x - y) :: st)) : RR X μ pc ls (vI y :: vI x :: st) := fun H locs jl h1 h2 h3 => lv_isub C.1 C.2.1 hd (by rw [← Int32.ofInt_sub]; exact k H locs jl h1 h2 h3)
theorem r_imul (C : Ok X own cc nL d) {x y : Int} (hd : decode cc pc = .ok (.imul, 1)) (k : RR X μ (pc + 1) ls (vI (x * y) :: st)) : RR X μ pc ls (vI y :: vI x :: st) := fun H locs jl h1 h2 h3 => lv_imul C.1 C.2.1 hd (by rw [← Int32.ofInt_mul]; exact k H locs jl h1 h2 h3)
theorem r_ladd (C : Ok X own cc nL d) {x y : Int64} (hd : decode cc pc = .ok (.ladd, 1)) (k : RR X μ (pc + 1) ls (vV (.long (x + y)) :: st)) : RR X μ pc ls (vV (.long y) :: vV (.long x) :: st) := fun H locs jl h1 h2 h3 => lv_ladd C.1 C.2.1 hd (k H locs jl h1 h2 h3)
theorem r_lsub (C : Ok X own cc nL d) {x y : Int64} (hd : decode cc pc = .ok (.lsub, 1)) (k : RR X μ (pc + 1) ls (vV (.long (x - y)) :: st)) : RR X μ pc ls (vV (.long y) :: vV (.long x) :: st) := fun H locs jl h1 h2 h3 => lv_lsub C.1 C.2.1 hd (k H locs jl h1 h2 h3)
theorem r_lmul (C : Ok X own cc nL d) {x y : Int64} (hd : decode cc pc = .ok (.lmul, 1)) (k : RR X μ (pc + 1) ls (vV (.long (x * y)) :: st)) : RR X μ pc ls (vV (.long y) :: vV (.long x) :: st) := fun H locs jl h1 h2 h3 => lv_lmul C.1 C.2.1 hd (k H locs jl h1 h2 h3)
theorem oi_div {x y : Int} (hx : 0 ≤ x) (hx2 : x < 2147483648) (hy : 0 < y) (hy2 : y < 2147483648) : Int32.ofInt x / Int32.ofInt y = Int32.ofInt (x / y) := by
  have e1 : Int32.ofInt x = nI x.toNat := by rw [← Int32.toInt_inj, oi_toInt ⟨by omega, hx2⟩, nI_toInt (by omega)]; omega
  have e2 : Int32.ofInt y = nI y.toNat := by rw [← Int32.toInt_inj, oi_toInt ⟨by omega, hy2⟩, nI_toInt (by omega)]; omega
  rw [e1, e2, pk_div (by omega) (by omega) (by omega), ← Int32.toInt_inj]
  have h3 : x.toNat / y.toNat ≤ x.toNat := Nat.div_le_self _ _
  have h4 : ((x.toNat / y.toNat : Nat) : Int) = x / y := by
    rw [Int.natCast_ediv, Int.toNat_of_nonneg hx, Int.toNat_of_nonneg (by omega)]
  have h5 : 0 ≤ x / y := Int.ediv_nonneg hx (by omega)
  have h6 : x / y ≤ x := Int.ediv_le_self y hx
  rw [nI_toInt (by omega), h4, oi_toInt ⟨by omega, by omega⟩]
theorem r_idiv (C : Ok X own cc nL d) {x y : Int} (hd : decode cc pc = .ok (.idiv, 1)) (hx : 0 ≤ x ∧ x < 2147483648) (hy : 0 < y ∧ y < 2147483648) (k : RR X μ (pc + 1) ls (vI (x / y) :: st)) : RR X μ pc ls (vI y :: vI x :: st) := fun H locs jl h1 h2 h3 =>
  lv_idiv C.1 C.2.1 hd (by rw [← oi_0, oi_eq ⟨by omega, hy.2⟩ ⟨by omega, by omega⟩]; omega) (by rw [oi_div hx.1 hx.2 hy.1 hy.2]; exact k H locs jl h1 h2 h3)
theorem r_irem (C : Ok X own cc nL d) {x y : Int} (hd : decode cc pc = .ok (.irem, 1)) (hx : 0 ≤ x ∧ x < 2147483648) (hy : 0 < y ∧ y < 2147483648) (k : RR X μ (pc + 1) ls (vI (x % y) :: st)) : RR X μ pc ls (vI y :: vI x :: st) := fun H locs jl h1 h2 h3 =>
  lv_irem C.1 C.2.1 hd (by rw [← oi_0, oi_eq ⟨by omega, hy.2⟩ ⟨by omega, by omega⟩]; omega) (by
    rw [oi_div hx.1 hx.2 hy.1 hy.2, ← Int32.ofInt_mul, ← Int32.ofInt_sub]
    have e : x - x / y * y = x % y := by have := Int.emod_add_mul_ediv x y; rw [Int.mul_comm] at this; omega
    rw [e]
    exact k H locs jl h1 h2 h3)
def iAnd (x y : Int) : Int := (Int32.ofInt x &&& Int32.ofInt y).toInt
def iShr (x y : Int) : Int := (Int32.ofInt x >>> (Int32.ofInt y &&& 31)).toInt
theorem oi_of (z : Int32) : Int32.ofInt z.toInt = z := Int32.ofInt_toInt z
theorem r_iand (C : Ok X own cc nL d) {x y : Int} (hd : decode cc pc = .ok (.iand, 1)) (k : RR X μ (pc + 1) ls (vI (iAnd x y) :: st)) : RR X μ pc ls (vI y :: vI x :: st) := fun H locs jl h1 h2 h3 => lv_iand C.1 C.2.1 hd (by
  have := k H locs jl h1 h2 h3
  rw [show (vI (iAnd x y) :: st).map cv = .int (Int32.ofInt x &&& Int32.ofInt y) :: st.map cv by show Value.int (Int32.ofInt (iAnd x y)) :: _ = _; rw [iAnd, oi_of]] at this
  exact this)
theorem r_ishr (C : Ok X own cc nL d) {x y : Int} (hd : decode cc pc = .ok (.ishr, 1)) (k : RR X μ (pc + 1) ls (vI (iShr x y) :: st)) : RR X μ pc ls (vI y :: vI x :: st) := fun H locs jl h1 h2 h3 => lv_ishr C.1 C.2.1 hd (by
  have := k H locs jl h1 h2 h3
  rw [show (vI (iShr x y) :: st).map cv = .int (Int32.ofInt x >>> (Int32.ofInt y &&& 31)) :: st.map cv by show Value.int (Int32.ofInt (iShr x y)) :: _ = _; rw [iShr, oi_of]] at this
  exact this)
theorem r_dup (C : Ok X own cc nL d) {a : AV} (hd : decode cc pc = .ok (.dup, 1)) (ha : cat2 a = false) (k : RR X μ (pc + 1) ls (a :: a :: st)) : RR X μ pc ls (a :: st) := fun H locs jl h1 h2 h3 => lv_dup C.1 C.2.1 hd (cat_cv ha) (k H locs jl h1 h2 h3)
theorem r_pop (C : Ok X own cc nL d) {a : AV} (hd : decode cc pc = .ok (.pop, 1)) (ha : cat2 a = false) (k : RR X μ (pc + 1) ls st) : RR X μ pc ls (a :: st) := fun H locs jl h1 h2 h3 => lv_pop C.1 C.2.1 hd (cat_cv ha) (k H locs jl h1 h2 h3)
theorem r_dup_x1 (C : Ok X own cc nL d) {a b : AV} (hd : decode cc pc = .ok (.dup_x1, 1)) (ha : cat2 a = false) (hb : cat2 b = false) (k : RR X μ (pc + 1) ls (a :: b :: a :: st)) : RR X μ pc ls (a :: b :: st) := fun H locs jl h1 h2 h3 => lv_dup_x1 C.1 C.2.1 hd (cat_cv ha) (cat_cv hb) (k H locs jl h1 h2 h3)
theorem r_dup2 (C : Ok X own cc nL d) {a b : AV} (hd : decode cc pc = .ok (.dup2, 1)) (ha : cat2 a = false) (hb : cat2 b = false) (k : RR X μ (pc + 1) ls (a :: b :: a :: b :: st)) : RR X μ pc ls (a :: b :: st) := fun H locs jl h1 h2 h3 => lv_dup2_11 C.1 C.2.1 hd (cat_cv ha) (cat_cv hb) (k H locs jl h1 h2 h3)
theorem r_goto (C : Ok X own cc nL d) {off : Int} {tgt : Nat} (hd : decode cc pc = .ok (.goto off, 3)) (ht : (pc : Int) + off = (tgt : Int)) (k : RR X μ tgt ls st) : RR X μ pc ls st := fun H locs jl h1 h2 h3 => lv_goto C.1 C.2.1 hd ht (k H locs jl h1 h2 h3)
theorem r_ifnull (C : Ok X own cc nL d) {q : Nat} {off : Int} (hd : decode cc pc = .ok (.ifnull off, 3)) (k : RR X μ (pc + 3) ls st) : RR X μ pc ls (vR q :: st) := fun H locs jl h1 h2 h3 => lv_ifnull C.1 C.2.1 hd (k H locs jl h1 h2 h3)
theorem r_if_eq (C : Ok X own cc nL d) {x : Int} {off : Int} {tgt : Nat} (hd : decode cc pc = .ok (.ifCond .eq off, 3)) (ht : (pc : Int) + off = (tgt : Int)) (hx : inR x) (kt : x = 0 → RR X μ tgt ls st) (kf : x ≠ 0 → RR X μ (pc + 3) ls st) : RR X μ pc ls (vI x :: st) := fun H locs jl h1 h2 h3 =>
  lv_if_eq C.1 C.2.1 hd ht (fun c => kt ((oi_eq hx (by decide)).mp c) H locs jl h1 h2 h3) (fun c => kf (fun e => c ((oi_eq hx (by decide)).mpr e)) H locs jl h1 h2 h3)
theorem r_if_ne (C : Ok X own cc nL d) {x : Int} {off : Int} {tgt : Nat} (hd : decode cc pc = .ok (.ifCond .ne off, 3)) (ht : (pc : Int) + off = (tgt : Int)) (hx : inR x) (kt : x ≠ 0 → RR X μ tgt ls st) (kf : x = 0 → RR X μ (pc + 3) ls st) : RR X μ pc ls (vI x :: st) := fun H locs jl h1 h2 h3 =>
  lv_if_ne C.1 C.2.1 hd ht (fun c => kt (fun e => c ((oi_eq hx (by decide)).mpr e)) H locs jl h1 h2 h3) (fun c => kf ((oi_eq hx (by decide)).mp c) H locs jl h1 h2 h3)
theorem r_if_lt (C : Ok X own cc nL d) {x : Int} {off : Int} {tgt : Nat} (hd : decode cc pc = .ok (.ifCond .lt off, 3)) (ht : (pc : Int) + off = (tgt : Int)) (hx : inR x) (kt : x < 0 → RR X μ tgt ls st) (kf : 0 ≤ x → RR X μ (pc + 3) ls st) : RR X μ pc ls (vI x :: st) := fun H locs jl h1 h2 h3 =>
  lv_if_lt C.1 C.2.1 hd ht (fun c => kt ((oi_lt hx (by decide)).mp c) H locs jl h1 h2 h3) (fun c => kf (Int.not_lt.mp (fun e => c ((oi_lt hx (by decide)).mpr e))) H locs jl h1 h2 h3)
theorem r_if_ge (C : Ok X own cc nL d) {x : Int} {off : Int} {tgt : Nat} (hd : decode cc pc = .ok (.ifCond .ge off, 3)) (ht : (pc : Int) + off = (tgt : Int)) (hx : inR x) (kt : 0 ≤ x → RR X μ tgt ls st) (kf : x < 0 → RR X μ (pc + 3) ls st) : RR X μ pc ls (vI x :: st) := fun H locs jl h1 h2 h3 =>
  lv_if_ge C.1 C.2.1 hd ht (fun c => kt ((oi_le (by decide) hx).mp c) H locs jl h1 h2 h3) (fun c => kf (Int.not_le.mp (fun e => c ((oi_le (by decide) hx).mpr e))) H locs jl h1 h2 h3)
theorem r_if_gt (C : Ok X own cc nL d) {x : Int} {off : Int} {tgt : Nat} (hd : decode cc pc = .ok (.ifCond .gt off, 3)) (ht : (pc : Int) + off = (tgt : Int)) (hx : inR x) (kt : 0 < x → RR X μ tgt ls st) (kf : x ≤ 0 → RR X μ (pc + 3) ls st) : RR X μ pc ls (vI x :: st) := fun H locs jl h1 h2 h3 =>
  lv_if_gt C.1 C.2.1 hd ht (fun c => kt ((oi_lt (by decide) hx).mp c) H locs jl h1 h2 h3) (fun c => kf (Int.not_lt.mp (fun e => c ((oi_lt (by decide) hx).mpr e))) H locs jl h1 h2 h3)
theorem r_if_le (C : Ok X own cc nL d) {x : Int} {off : Int} {tgt : Nat} (hd : decode cc pc = .ok (.ifCond .le off, 3)) (ht : (pc : Int) + off = (tgt : Int)) (hx : inR x) (kt : x ≤ 0 → RR X μ tgt ls st) (kf : 0 < x → RR X μ (pc + 3) ls st) : RR X μ pc ls (vI x :: st) := fun H locs jl h1 h2 h3 =>
  lv_if_le C.1 C.2.1 hd ht (fun c => kt ((oi_le hx (by decide)).mp c) H locs jl h1 h2 h3) (fun c => kf (Int.not_le.mp (fun e => c ((oi_le hx (by decide)).mpr e))) H locs jl h1 h2 h3)
theorem r_icmp_eq (C : Ok X own cc nL d) {x y : Int} {off : Int} {tgt : Nat} (hd : decode cc pc = .ok (.if_icmp .eq off, 3)) (ht : (pc : Int) + off = (tgt : Int)) (hx : inR x) (hy : inR y) (kt : x = y → RR X μ tgt ls st) (kf : x ≠ y → RR X μ (pc + 3) ls st) : RR X μ pc ls (vI y :: vI x :: st) := fun H locs jl h1 h2 h3 =>
  lv_icmp_eq C.1 C.2.1 hd ht (fun c => kt ((oi_eq hx hy).mp c) H locs jl h1 h2 h3) (fun c => kf (fun e => c ((oi_eq hx hy).mpr e)) H locs jl h1 h2 h3)
theorem r_icmp_ne (C : Ok X own cc nL d) {x y : Int} {off : Int} {tgt : Nat} (hd : decode cc pc = .ok (.if_icmp .ne off, 3)) (ht : (pc : Int) + off = (tgt : Int)) (hx : inR x) (hy : inR y) (kt : x ≠ y → RR X μ tgt ls st) (kf : x = y → RR X μ (pc + 3) ls st) : RR X μ pc ls (vI y :: vI x :: st) := fun H locs jl h1 h2 h3 =>
  lv_icmp_ne C.1 C.2.1 hd ht (fun c => kt (fun e => c ((oi_eq hx hy).mpr e)) H locs jl h1 h2 h3) (fun c => kf ((oi_eq hx hy).mp c) H locs jl h1 h2 h3)
theorem r_icmp_lt (C : Ok X own cc nL d) {x y : Int} {off : Int} {tgt : Nat} (hd : decode cc pc = .ok (.if_icmp .lt off, 3)) (ht : (pc : Int) + off = (tgt : Int)) (hx : inR x) (hy : inR y) (kt : x < y → RR X μ tgt ls st) (kf : y ≤ x → RR X μ (pc + 3) ls st) : RR X μ pc ls (vI y :: vI x :: st) := fun H locs jl h1 h2 h3 =>
  lv_icmp_lt C.1 C.2.1 hd ht (fun c => kt ((oi_lt hx hy).mp c) H locs jl h1 h2 h3) (fun c => kf (Int.not_lt.mp (fun e => c ((oi_lt hx hy).mpr e))) H locs jl h1 h2 h3)
theorem r_icmp_ge (C : Ok X own cc nL d) {x y : Int} {off : Int} {tgt : Nat} (hd : decode cc pc = .ok (.if_icmp .ge off, 3)) (ht : (pc : Int) + off = (tgt : Int)) (hx : inR x) (hy : inR y) (kt : y ≤ x → RR X μ tgt ls st) (kf : x < y → RR X μ (pc + 3) ls st) : RR X μ pc ls (vI y :: vI x :: st) := fun H locs jl h1 h2 h3 =>
  lv_icmp_ge C.1 C.2.1 hd ht (fun c => kt ((oi_le hy hx).mp c) H locs jl h1 h2 h3) (fun c => kf (Int.not_le.mp (fun e => c ((oi_le hy hx).mpr e))) H locs jl h1 h2 h3)
theorem r_icmp_gt (C : Ok X own cc nL d) {x y : Int} {off : Int} {tgt : Nat} (hd : decode cc pc = .ok (.if_icmp .gt off, 3)) (ht : (pc : Int) + off = (tgt : Int)) (hx : inR x) (hy : inR y) (kt : y < x → RR X μ tgt ls st) (kf : x ≤ y → RR X μ (pc + 3) ls st) : RR X μ pc ls (vI y :: vI x :: st) := fun H locs jl h1 h2 h3 =>
  lv_icmp_gt C.1 C.2.1 hd ht (fun c => kt ((oi_lt hy hx).mp c) H locs jl h1 h2 h3) (fun c => kf (Int.not_lt.mp (fun e => c ((oi_lt hy hx).mpr e))) H locs jl h1 h2 h3)
theorem r_icmp_le (C : Ok X own cc nL d) {x y : Int} {off : Int} {tgt : Nat} (hd : decode cc pc = .ok (.if_icmp .le off, 3)) (ht : (pc : Int) + off = (tgt : Int)) (hx : inR x) (hy : inR y) (kt : x ≤ y → RR X μ tgt ls st) (kf : y < x → RR X μ (pc + 3) ls st) : RR X μ pc ls (vI y :: vI x :: st) := fun H locs jl h1 h2 h3 =>
  lv_icmp_le C.1 C.2.1 hd ht (fun c => kt ((oi_le hx hy).mp c) H locs jl h1 h2 h3) (fun c => kf (Int.not_le.mp (fun e => c ((oi_le hx hy).mpr e))) H locs jl h1 h2 h3)
theorem r_tsIn (C : Ok X own cc nL d) {x : Int} {dflt lo hi : Int} {offs : Array Int} {len : Nat} {off : Int} {tgt : Nat} (hd : decode cc pc = .ok (.tableswitch dflt lo hi offs, len)) (hx : inR x) (h1 : lo ≤ x) (h2 : x ≤ hi) (ho : offs[(x - lo).toNat]? = some off) (ht : (pc : Int) + off = (tgt : Int)) (k : RR X μ tgt ls st) : RR X μ pc ls (vI x :: st) := fun H locs jl g1 g2 g3 =>
  lv_tableIn C.1 C.2.1 hd (by rw [oi_toInt hx]; omega) (by rw [oi_toInt hx]; omega) (by rw [oi_toInt hx]; exact ho) ht (k H locs jl g1 g2 g3)
theorem r_tsOut (C : Ok X own cc nL d) {x : Int} {dflt lo hi : Int} {offs : Array Int} {len : Nat} {tgt : Nat} (hd : decode cc pc = .ok (.tableswitch dflt lo hi offs, len)) (hx : inR x) (h : x < lo ∨ hi < x) (ht : (pc : Int) + dflt = (tgt : Int)) (k : RR X μ tgt ls st) : RR X μ pc ls (vI x :: st) := fun H locs jl g1 g2 g3 =>
  lv_tableOut C.1 C.2.1 hd (by rw [oi_toInt hx]; exact h) ht (k H locs jl g1 g2 g3)
theorem r_lsw (C : Ok X own cc nL d) {x : Int} {dflt : Int} {ps : Array (Int × Int)} {len : Nat} {off : Int} {tgt : Nat} (hd : decode cc pc = .ok (.lookupswitch dflt ps, len)) (hp : (ps.toList.zip (ps.toList.drop 1)).all (fun (a, next) => a.1 < next.1) = true) (hx : inR x) (ho : Op.lookupswitch.offset ps.toList dflt x = off) (ht : (pc : Int) + off = (tgt : Int)) (k : RR X μ tgt ls st) : RR X μ pc ls (vI x :: st) := fun H locs jl g1 g2 g3 =>
  lv_lookup C.1 C.2.1 hd hp (by rw [oi_toInt hx]; exact ho) ht (k H locs jl g1 g2 g3)
theorem oi_long {x : Int} (hx : inR x) : (Int32.ofInt x).toInt64 = Int64.ofInt x := by
  rw [← Int64.toInt_inj, Int32.toInt_toInt64, oi_toInt hx, Int64.toInt_ofInt_of_le (by omega) (by omega)]
theorem r_i2l (C : Ok X own cc nL d) {x : Int} (hd : decode cc pc = .ok (.i2l, 1)) (hx : inR x) (k : RR X μ (pc + 1) ls (vV (.long (Int64.ofInt x)) :: st)) : RR X μ pc ls (vI x :: st) := fun H locs jl h1 h2 h3 => lv_i2l C.1 C.2.1 hd (oi_long hx) (k H locs jl h1 h2 h3)
theorem r_ldc (C : Ok X own cc nL d) {idx : Nat} {v : Int32} {x : Int} (hm : Cond.constant own idx v ∈ lwg) (hv : Int32.ofInt x = v) (hd : decode cc pc = .ok (.ldc idx, 2)) (k : RR X μ (pc + 2) ls (vI x :: st)) : RR X μ pc ls st := fun H locs jl h1 h2 h3 => by
  subst hv
  exact lv_ldc C.1 C.2.1 C.2.2.2.1 (C.2.2.2.2.1 _ hm) hd (k H locs jl h1 h2 h3)
/-- known less of the locals -/
theorem r_less {ls' : List AV} (C : Ok X own cc nL d) (hn : ls'.length ≤ nL) (hl : ∀ (i : Nat) (a : AV), ls'[i]? = some a → a ≠ vU → ls[i]? = some a) (k : RR X μ pc ls' st) : RR X μ pc ls st := fun H locs jl h1 h2 h3 => k H locs jl h1 h2 (lrel_l h3 (by rw [C.2.2.1]; exact hn) hl)
end Rows1
