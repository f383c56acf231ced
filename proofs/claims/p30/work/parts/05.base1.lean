/-! A LAYER OF MY OWN over the kit's rows: a whole memory as one function (address, place ↦ a number), contracts that tell answer and memory, and one row an instruction in those words. -/
def lwg : List Cond := lw_tbl.filter goodWord
theorem lwg_of {w : Cond} (h : w ∈ lw_tbl) (g : goodWord w = true) : w ∈ lwg := List.mem_filter.mpr ⟨h, g⟩
theorem lwg_tbl {w : Cond} (h : w ∈ lwg) : w ∈ lw_tbl := (List.mem_filter.mp h).1
theorem lwg_in {ws : List Cond} (h : ∀ w ∈ ws, w ∈ lwg) : GoodIn lwg ws := fun w hw => ⟨h w hw, good_of_word (List.mem_filter.mp (h w hw)).2⟩
def isNest : Cond → Bool
  | .methodLinkNest .. => true
  | .fieldLinkNest .. => true
  | _ => false
theorem nest_tab {w : Cond} (h : isNest w = true) : w.onTables = true := by
  cases w <;> first | rfl | (simp [isNest] at h)
theorem nest_warm {w : Cond} (h : isNest w = true) {s U : State} (hW : s.WarmedH U.vm) (hZ : va_Nw w s) : va_Nw w U := by
  cases w <;> first | (simp [isNest] at h; done) | exact va_Nw.warmM hW hZ | exact va_Nw.warmF hW hZ
abbrev Mem : Type := Nat → Int → Int
abbrev AV : Type := Int ⊕ Option Value
abbrev vI (x : Int) : AV := .inl x
abbrev vV (v : Value) : AV := .inr (some v)
abbrev vR (q : Nat) : AV := .inr (some (.ref q))
abbrev vU : AV := .inr none
def cv : AV → Value
  | .inl x => .int (Int32.ofInt x)
  | .inr (some v) => v
  | .inr none => .null
abbrev SE : Type := Nat ⊕ (Nat × Nat)
abbrev Wo : Type := va_G × Nat × (Nat × Nat × Nat) × (Nat → Option SE)
def woG (V : Wo) : va_G := V.1
def woB (V : Wo) : Nat := V.2.1
def woZ (V : Wo) : Nat × Nat × Nat := V.2.2.1
def woS (V : Wo) : Nat → Option SE := V.2.2.2
abbrev woA (V : Wo) : Nat → Prop := fun q => woB V ≤ q
abbrev i5 (x : Int) : Value := .int (Int32.ofInt x)
def fv (ci q : Nat) (f : Int → Int) : List Value := match ci with
  | 0 => [.ref (q + 1), .ref (q + 2), i5 (f 2), .ref (q + 3), .ref (q + 4), .ref (q + 5)]
  | 1 => [.ref (q + 1), i5 (f 1)]
  | 2 => [i5 (f 0), i5 (f 1), i5 (f 2), i5 (f 3), i5 (f 4)]
  | 3 => [.ref (q + 1), .ref (q + 7), .ref (q + 8), .ref (q + 9), .ref (q + 10), .ref (q + 11), i5 (f 6), i5 (f 7)]
  | 4 => [.ref (q + 1), .ref (q + 13), .ref (q + 25), .ref (q + 37), .ref (q + 111), .ref (q + 112), i5 (f 6), i5 (f 7)]
  | 5 => [i5 (f 0), .ref (q + 1), i5 (f 2), i5 (f 3), .ref (q + 2), i5 (f 5), i5 (f 6), i5 (f 7), i5 (f 8), i5 (f 9), .ref (q + 3), .ref (q + 4), i5 (f 12), .ref (q + 5), .long (Int64.ofInt (f 14))]
  | _ => []
def zArr (s : State) (H : Heap) (q : Nat) (ty : FieldType) (N : Nat) (f : Nat → Value) : Prop := ∃ cell : Cell, H[q]? = some cell ∧ s.isArrayOf cell ty ∧ cell.vm ≠ .unknown ∧ N < 2 ^ 31 ∧ N ≤ cell.slots.size ∧ cell.slots.size.toInt32 = Int32.ofNat N ∧ ∀ j : Nat, j < N → cell.slots[j]? = some (f j)
def aI (f : Int → Int) : Nat → Value := fun j => i5 (f (j : Int))
def aL (f : Int → Int) : Nat → Value := fun j => .long (Int64.ofInt (f (j : Int)))
def cellAt (G : va_G) (s : State) (H : Heap) (q : Nat) (f : Int → Int) : SE → Prop
  | .inl ci => va_at G vwCl (q, .inr (ci, fv ci q f)) H
  | .inr (0, n) => zArr s H q .int n (aI f)
  | .inr (1, n) => zArr s H q .long n (aL f)
  | .inr (_, n) => n < 2 ^ 31 ∧ ∃ cA : ClassId, ArrOfT s cA (.object RX3) ∧ va_RA s cA (.object RX3) ∧ H[q]? = some (vp_cell cA (n, .inr (.inr (.inr (.inr (fun j : Nat => some (f (j : Int)).toNat))))))
def Hp (V : Wo) (s : State) (μ : Mem) (H : Heap) : Prop := ∀ (q : Nat) (e : SE), woS V q = some e → cellAt (woG V) s H q (μ q) e
def wr (μ : Mem) (q : Nat) (f : Int → Int) : Mem := fun p => if p = q then f else μ p
def s1 (f : Int → Int) (k x : Int) : Int → Int := fun j => if j = k then x else f j
theorem wr_s (μ : Mem) (q : Nat) (f : Int → Int) : wr μ q f q = f := if_pos rfl
theorem wr_n (μ : Mem) {q p : Nat} (f : Int → Int) (h : p ≠ q) : wr μ q f p = μ p := if_neg h
theorem s1_s (f : Int → Int) (k x : Int) : s1 f k x k = x := if_pos rfl
theorem s1_n (f : Int → Int) {k j : Int} (x : Int) (h : j ≠ k) : s1 f k x j = f j := if_neg h
theorem zArr_k {s : State} {H H1 : Heap} {q : Nat} {ty : FieldType} {N : Nat} {f : Nat → Value} (h : zArr s H q ty N f) (hq : H1[q]? = H[q]?) : zArr s H1 q ty N f := by
  obtain ⟨cell, h1, h2⟩ := h
  exact ⟨cell, by rw [hq]; exact h1, h2⟩
theorem zArr_m {u U : State} {H : Heap} {q : Nat} {ty : FieldType} {N : Nat} {f : Nat → Value} (hvm : u.vm.Alike U.vm) (h : zArr u H q ty N f) : zArr U H q ty N f := by
  obtain ⟨cell, h1, h2, h3⟩ := h
  exact ⟨cell, h1, State.isArrayOf_alike hvm h2, h3⟩
theorem cellAt_kept {G : va_G} {s : State} {H H1 : Heap} {q : Nat} {f : Int → Int} {e : SE} (h : cellAt G s H q f e) (hq : H1[q]? = H[q]?) : cellAt G s H1 q f e := by
  rcases e with ci | ⟨_ | _ | k, n⟩
  · exact va_at.kept (D := G) (cl := vwCl) (q := (q, .inr (ci, fv ci q f))) h hq
  · exact zArr_k h hq
  · exact zArr_k h hq
  · obtain ⟨h0, cA, h1, h2, h3⟩ := h
    exact ⟨h0, cA, h1, h2, by rw [hq]; exact h3⟩
theorem cellAt_moved {G : va_G} {u U : State} {H : Heap} {q : Nat} {f : Int → Int} {e : SE} (hvm : u.vm.Alike U.vm) (h : cellAt G u H q f e) : cellAt G U H q f e := by
  rcases e with ci | ⟨_ | _ | k, n⟩
  · exact h
  · exact zArr_m hvm h
  · exact zArr_m hvm h
  · obtain ⟨h0, cA, h1, h2, h3⟩ := h
    exact ⟨h0, cA, arrOfT_moved hvm h1, h2.moved hvm, h3⟩
theorem cellAt_lt {G : va_G} {s : State} {H : Heap} {q : Nat} {f : Int → Int} {e : SE} (h : cellAt G s H q f e) : q < H.size := by
  rcases e with ci | ⟨_ | _ | k, n⟩
  · exact va_at.lt (D := G) (cl := vwCl) (q := (q, .inr (ci, fv ci q f))) h
  · obtain ⟨c, h1, -⟩ := h
    exact (Array.getElem?_eq_some_iff.mp h1).1
  · obtain ⟨c, h1, -⟩ := h
    exact (Array.getElem?_eq_some_iff.mp h1).1
  · obtain ⟨h0, cA, h1, h2, h3⟩ := h
    exact (Array.getElem?_eq_some_iff.mp h3).1
theorem zHp_m {V : Wo} {u U : State} {μ : Mem} {H : Heap} (hvm : u.vm.Alike U.vm) (h : Hp V u μ H) : Hp V U μ H := fun q e he => cellAt_moved hvm (h q e he)
theorem zHp_w {V : Wo} {s : State} {μ : Mem} {H H1 : Heap} {q : Nat} {f : Int → Int} (h : Hp V s μ H) (oq : ∀ p : Nat, p ≠ q → H1[p]? = H[p]?) (hq : ∀ e, woS V q = some e → cellAt (woG V) s H1 q f e) : Hp V s (wr μ q f) H1 := by
  intro p e he
  by_cases hp : p = q
  · subst hp
    rw [wr_s]
    exact hq e he
  · rw [wr_n _ _ hp]
    exact cellAt_kept (h p e he) (oq p hp)
/-- what holds of the tables and of what nobody writes -/
def Wd (V : Wo) (U : State) (H : Heap) : Prop :=
  va_K (woG V) vwCl [] U ∧ (∀ w ∈ lw_tbl, isNest w = true → va_Nw w U) ∧ woB V ≤ H.size ∧
  va_Z RX4 "LEAST_VALUES" "[I" (.ref (woZ V).1) (woA V) U H ∧ va_Z RX4 "MOST_VALUES" "[I" (.ref (woZ V).2.1) (woA V) U H ∧ va_Z RX4 "FIRST_VALUES" "[I" (.ref (woZ V).2.2) (woA V) U H ∧
  vx_Zq Bundle.tN "UNASSIGNED_STACK" Bundle.steD (woA V) U H ∧ vx_Zq Bundle.tN "SUPPRESSED_SENTINEL" Bundle.listD (woA V) U H
theorem zWd_m {V : Wo} {u U : State} {H : Heap} (hW : u.WarmedH U.vm) (h : Wd V u H) : Wd V U H := by
  obtain ⟨h1, h2, h3, h4, h5, h6, h7, h8⟩ := h
  have hvm := hW.alike
  exact ⟨va_K.moved hvm h1, fun w hw hn => nest_warm hn hW (h2 w hw hn), h3, h4.moved hvm, h5.moved hvm, h6.moved hvm, h7.moved hvm, h8.moved hvm⟩
theorem zWd_k {V : Wo} {U : State} {H H1 : Heap} (h : Wd V U H) (hz : H.size ≤ H1.size) (hq : ∀ a : Nat, a < H.size → ¬ woA V a → H1[a]? = H[a]?) : Wd V U H1 := by
  obtain ⟨h1, h2, h3, h4, h5, h6, h7, h8⟩ := h
  exact ⟨h1, h2, Nat.le_trans h3 hz, h4.kept hq, h5.kept hq, h6.kept hq, h7.kept hq, h8.kept hq⟩
theorem zWd_c {V : Wo} {U : State} {H : Heap} {g : JFrame} {mk : MethodId} {a : Array Value} (h : Wd V U H) : Wd V (U.calling g mk a) H := by
  obtain ⟨h1, h2, h3, h4, h5, h6, h7, h8⟩ := h
  have hvm : U.vm.Alike (U.calling g mk a).vm := Vm.Alike.refl U.vm
  exact ⟨va_K.moved hvm h1, fun w hw hn => va_Nw.same (u := U) (U := U.calling g mk a) (nest_tab hn) rfl (h2 w hw hn), h3, h4.moved hvm, h5.moved hvm, h6.moved hvm, h7.moved hvm, h8.moved hvm⟩
/-- locals: known ones by their places -/
def lrel (ls : List AV) (nL : Nat) (jl : Array Slot) : Prop := lv_wf jl ∧ jl.size = nL ∧ ls.length ≤ nL ∧ ∀ (i : Nat) (a : AV), ls[i]? = some a → a ≠ vU → jl[i]? = some (.val (cv a))
def lvl : Nat → List AV → List (Nat × Value)
  | _, [] => []
  | k, .inr none :: l => lvl (k + 1) l
  | k, a :: l => (k, cv a) :: lvl (k + 1) l
theorem lvl_mem : ∀ (l : List AV) (k i : Nat) (v : Value), (i, v) ∈ lvl k l ↔ ∃ (j : Nat) (a : AV), i = k + j ∧ l[j]? = some a ∧ a ≠ vU ∧ v = cv a
  | [], k, i, v => by simp [lvl]
  | a :: l, k, i, v => by
    have ih := lvl_mem l (k + 1) i v
    have key : (∃ (j : Nat) (b : AV), i = k + j ∧ (a :: l)[j]? = some b ∧ b ≠ vU ∧ v = cv b) ↔ ((i = k ∧ a ≠ vU ∧ v = cv a) ∨ ∃ (j : Nat) (b : AV), i = k + 1 + j ∧ l[j]? = some b ∧ b ≠ vU ∧ v = cv b) := by
      constructor
      · rintro ⟨j, b, h1, h2, h3, h4⟩
        cases j with
        | zero => simp at h2; subst h2; exact Or.inl ⟨by omega, h3, h4⟩
        | succ j => exact Or.inr ⟨j, b, by omega, by simpa using h2, h3, h4⟩
      · rintro (⟨h1, h3, h4⟩ | ⟨j, b, h1, h2, h3, h4⟩)
        · exact ⟨0, a, by omega, rfl, h3, h4⟩
        · exact ⟨j + 1, b, by omega, by simpa using h2, h3, h4⟩
    rw [key, ← ih]
    rcases a with x | _ | w
    · simp [lvl]
    · simp [lvl]
    · simp [lvl]
theorem lrel_h {ls : List AV} {nL : Nat} {jl : Array Slot} (h : lrel ls nL jl) : lv_has jl nL (lvl 0 ls) := by
  obtain ⟨h1, h2, -, h3⟩ := h
  refine ⟨h2, h1, fun q hq => ?_⟩
  obtain ⟨i, v⟩ := q
  obtain ⟨j, a, rfl, e2, e3, rfl⟩ := (lvl_mem ls 0 i v).mp hq
  have := h3 j a e2 e3
  simpa using this
theorem lrel_o {ls : List AV} {nL : Nat} {jl : Array Slot} {l : List (Nat × Value)} (h : lv_has jl nL l) (hn : ls.length ≤ nL) (hl : ∀ (i : Nat) (a : AV), ls[i]? = some a → a ≠ vU → (i, cv a) ∈ l) : lrel ls nL jl :=
  ⟨h.2.1, h.1, hn, fun i a h1 h2 => h.2.2 (i, cv a) (hl i a h1 h2)⟩
def cat2 : AV → Bool
  | .inr (some (.long _)) => true
  | .inr (some (.double _)) => true
  | _ => false
def sok (ls : List AV) (i : Nat) : Bool := match i with
  | 0 => true
  | k + 1 => match ls[k]? with
    | some a => !cat2 a
    | none => true
theorem cat_cv {a : AV} (h : cat2 a = false) : (cv a).category = 1 := by
  rcases a with x | _ | w
  · rfl
  · rfl
  · cases w <;> first | rfl | (simp [cat2] at h)
theorem cat_cv2 {a : AV} (h : cat2 a = true) : (cv a).category = 2 := by
  rcases a with x | _ | w
  · simp [cat2] at h
  · simp [cat2] at h
  · cases w <;> first | rfl | (simp [cat2] at h)
theorem sok_ne {ls : List AV} {i j : Nat} {a : AV} (h : sok ls i = true) (hj : ls[j]? = some a) (he : j + 1 = i) : (cv a).category = 1 := by
  subst he
  simp only [sok, hj, Bool.not_eq_true'] at h
  exact cat_cv h
theorem lrel_keep1 {ls : List AV} {nL i : Nat} {v : AV} {jl' : Array Slot} (hn : ls.length ≤ nL) (hs : sok ls i = true)
    (h : lv_has jl' nL ((i, cv v) :: (lvl 0 ls).filter (fun q => !(q.1 == i) && !(q.1 + 1 == i && q.2.category == 2)))) : lrel (ls.set i v) nL jl' := by
  refine lrel_o h (by rw [List.length_set]; exact hn) (fun j a hj ha => ?_)
  by_cases hji : j = i
  · subst hji
    have hlt : j < ls.length := by
      rcases Nat.lt_or_ge j ls.length with q | q
      · exact q
      · rw [List.getElem?_eq_none (by rw [List.length_set]; exact q)] at hj; cases hj
    rw [List.getElem?_set_self hlt] at hj
    cases hj
    exact List.mem_cons_self
  · rw [List.getElem?_set_ne (Ne.symm hji)] at hj
    refine List.mem_cons_of_mem _ (List.mem_filter.mpr ⟨(lvl_mem ls 0 j (cv a)).mpr ⟨j, a, by omega, hj, ha, rfl⟩, ?_⟩)
    have hb : (j == i) = false := by simpa using hji
    show (!(j == i) && !(j + 1 == i && (cv a).category == 2)) = true
    rw [hb]
    by_cases h1 : j + 1 = i
    · rw [sok_ne hs hj h1]; simp
    · have hb1 : (j + 1 == i) = false := by simpa using h1
      rw [hb1]; rfl
theorem lrel_keep2 {ls : List AV} {nL i : Nat} {v : AV} {jl' : Array Slot} (hn : ls.length ≤ nL) (hs : sok ls i = true)
    (h : lv_has jl' nL ((i, cv v) :: (lvl 0 ls).filter (fun q => !(q.1 == i) && (!(q.1 == i + 1) && !(q.1 + 1 == i && q.2.category == 2))))) : lrel ((ls.set (i + 1) vU).set i v) nL jl' := by
  refine lrel_o h (by rw [List.length_set, List.length_set]; exact hn) (fun j a hj ha => ?_)
  by_cases hji : j = i
  · subst hji
    have hlt : j < (ls.set (j + 1) vU).length := by
      rcases Nat.lt_or_ge j (ls.set (j + 1) vU).length with q | q
      · exact q
      · rw [List.getElem?_eq_none (by rw [List.length_set]; exact q)] at hj; cases hj
    rw [List.getElem?_set_self hlt] at hj
    cases hj
    exact List.mem_cons_self
  · rw [List.getElem?_set_ne (Ne.symm hji)] at hj
    by_cases hj1 : j = i + 1
    · subst hj1
      have hlt : i + 1 < ls.length := by
        rcases Nat.lt_or_ge (i + 1) ls.length with q | q
        · exact q
        · rw [List.getElem?_eq_none (by rw [List.length_set]; exact q)] at hj; cases hj
      rw [List.getElem?_set_self hlt] at hj
      cases hj
      exact absurd rfl ha
    · rw [List.getElem?_set_ne (Ne.symm hj1)] at hj
      refine List.mem_cons_of_mem _ (List.mem_filter.mpr ⟨(lvl_mem ls 0 j (cv a)).mpr ⟨j, a, by omega, hj, ha, rfl⟩, ?_⟩)
      have hb : (j == i) = false := by simpa using hji
      have hb2 : (j == i + 1) = false := by simpa using hj1
      show (!(j == i) && (!(j == i + 1) && !(j + 1 == i && (cv a).category == 2))) = true
      rw [hb, hb2]
      by_cases h1 : j + 1 = i
      · rw [sok_ne hs hj h1]; simp
      · have hb1 : (j + 1 == i) = false := by simpa using h1
        rw [hb1]; rfl
/-- known less -/
theorem lrel_l {ls ls' : List AV} {nL : Nat} {jl : Array Slot} (h : lrel ls nL jl) (hn : ls'.length ≤ nL) (hl : ∀ (i : Nat) (a : AV), ls'[i]? = some a → a ≠ vU → ls[i]? = some a) : lrel ls' nL jl :=
  ⟨h.1, h.2.1, hn, fun i a h1 h2 => h.2.2.2 i a (hl i a h1 h2) h2⟩
/-! numbers -/
abbrev inR (x : Int) : Prop := -2147483648 ≤ x ∧ x < 2147483648
theorem oi_toInt {x : Int} (h : inR x) : (Int32.ofInt x).toInt = x := Int32.toInt_ofInt_of_le (by have := h.1; omega) (by have := h.2; omega)
theorem oi_lt {x y : Int} (hx : inR x) (hy : inR y) : Int32.ofInt x < Int32.ofInt y ↔ x < y := by
  rw [Int32.lt_iff_toInt_lt, oi_toInt hx, oi_toInt hy]
theorem oi_le {x y : Int} (hx : inR x) (hy : inR y) : Int32.ofInt x ≤ Int32.ofInt y ↔ x ≤ y := by
  rw [Int32.le_iff_toInt_le, oi_toInt hx, oi_toInt hy]
theorem oi_eq {x y : Int} (hx : inR x) (hy : inR y) : Int32.ofInt x = Int32.ofInt y ↔ x = y := by
  rw [← Int32.toInt_inj, oi_toInt hx, oi_toInt hy]
theorem oi_0 : Int32.ofInt 0 = 0 := rfl
theorem oi_nat {x : Int} (hx : inR x) : (Int32.ofInt x).toNatClampNeg = x.toNat := by
  show (Int32.ofInt x).toInt.toNat = x.toNat
  rw [oi_toInt hx]
theorem oi_in {i : Int} {N k : Nat} (h0 : 0 ≤ i) (hi : i < (N : Int)) (hN : N < 2 ^ 31) (hk : N ≤ k) : ¬ (Int32.ofInt i < 0 ∨ k ≤ (Int32.ofInt i).toNatClampNeg) := by
  have hr : inR i := ⟨by omega, by omega⟩
  rw [oi_nat hr, ← oi_0, oi_lt hr ⟨by omega, by omega⟩]
  omega
