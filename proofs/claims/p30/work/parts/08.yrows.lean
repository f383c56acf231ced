/-! rows for Math, System.arraycopy, the static arrays -/
theorem mm_wmax : Cond.code Lib.Math.max.name Lib.Math.max.code 2 (some .int) ∈ lwg := lm_J9_max_7cf53.1
theorem mm_wmin : Cond.code Lib.Math.min.name Lib.Math.min.code 2 (some .int) ∈ lwg := lm_J9_min_7cf53.1
theorem ac_ml : Cond.methodLink RX4 356 arraycopyName ∈ lwg := lwg_of (List.mem_of_getElem? (i := 80) (by decide +kernel)) (by decide +kernel)
theorem ac_st : Cond.static arraycopyName ∈ lwg := lwg_of (List.mem_of_getElem? (i := 81) (by decide +kernel)) (by decide +kernel)
theorem ac_na : Cond.native arraycopyName ∈ lwg := lwg_of (List.mem_of_getElem? (i := 82) (by decide +kernel)) (by decide +kernel)
section Rows3
variable {X : Cx} {own : String} {cc : ByteArray} {nL d : Nat} {μ : Mem} {pc : Nat} {ls st : List AV}
theorem r_max (C : Ok X own cc nL d) {idx : Nat} {x y : Int} (hl : Cond.methodLink own idx yJ9_max_7cf53 ∈ lwg) (hd : decode cc pc = .ok (.invokestatic idx, 3)) (hx : inR x) (hy : inR y) (hw : csum st ≤ 8) (hlev : 1 ≤ d) (kk : RR X μ (pc + 3) ls (vI (if x < y then y else x) :: st)) : RR X μ pc ls (vI y :: vI x :: st) := fun H locs jl h1 h2 h3 => by
  have hts := C.2.2.2.2.1
  have e1 := C.2.2.2.2.2.2.2.1
  have e2 := C.2.2.2.2.2.2.2.2.1
  refine va_mmax C.1 C.2.1 (lrel_size h3).symm C.2.2.2.1 (hts _ hl) (hts _ sm_J9_max_7cf53) (hts _ ini_J9) (hts _ mm_wmax) (by omega) (by rw [csum_cv]; omega) C.2.2.2.2.2.2.2.2.2.1 C.2.2.2.2.2.2.2.2.2.2 hd ?_
  have := kk H locs jl h1 h2 h3
  have e : (if Int32.ofInt x < Int32.ofInt y then Int32.ofInt y else Int32.ofInt x) = Int32.ofInt (if x < y then y else x) := by
    by_cases hc : x < y
    · rw [if_pos hc, if_pos ((oi_lt hx hy).mpr hc)]
    · rw [if_neg hc, if_neg (fun z => hc ((oi_lt hx hy).mp z))]
  rw [e]
  exact this
theorem r_min (C : Ok X own cc nL d) {idx : Nat} {x y : Int} (hl : Cond.methodLink own idx yJ9_min_7cf53 ∈ lwg) (hd : decode cc pc = .ok (.invokestatic idx, 3)) (hx : inR x) (hy : inR y) (hw : csum st ≤ 8) (hlev : 1 ≤ d) (kk : RR X μ (pc + 3) ls (vI (if y < x then y else x) :: st)) : RR X μ pc ls (vI y :: vI x :: st) := fun H locs jl h1 h2 h3 => by
  have hts := C.2.2.2.2.1
  have e1 := C.2.2.2.2.2.2.2.1
  have e2 := C.2.2.2.2.2.2.2.2.1
  refine va_mmin C.1 C.2.1 (lrel_size h3).symm C.2.2.2.1 (hts _ hl) (hts _ sm_J9_min_7cf53) (hts _ ini_J9) (hts _ mm_wmin) (by omega) (by rw [csum_cv]; omega) C.2.2.2.2.2.2.2.2.2.1 C.2.2.2.2.2.2.2.2.2.2 hd ?_
  have := kk H locs jl h1 h2 h3
  have e : (if Int32.ofInt y < Int32.ofInt x then Int32.ofInt y else Int32.ofInt x) = Int32.ofInt (if y < x then y else x) := by
    by_cases hc : y < x
    · rw [if_pos hc, if_pos ((oi_lt hy hx).mpr hc)]
    · rw [if_neg hc, if_neg (fun z => hc ((oi_lt hy hx).mp z))]
  rw [e]
  exact this
theorem zsp_slots : ∀ (xs : List Value) (i : Nat) (c : Cell) (k : Nat), k < c.slots.size → (c.storePairs 0 (xs.zipIdx i)).slots[k]? = if i ≤ k ∧ k < i + xs.length then some (xs.getD (k - i) .null) else c.slots[k]?
  | [], i, c, k, _ => by
    rw [if_neg (by simp only [List.length_nil]; omega)]
    rfl
  | x :: xs, i, c, k, hk => by
    rw [List.zipIdx_cons]
    show ((c.setSlot (0 + i) x).storePairs 0 (xs.zipIdx (i + 1))).slots[k]? = _
    rw [zsp_slots xs (i + 1) _ k (by show k < (c.slots.setIfInBounds _ _).size; rw [Array.size_setIfInBounds]; exact hk)]
    by_cases h : i + 1 ≤ k ∧ k < i + 1 + xs.length
    · rw [if_pos h, if_pos (by simp only [List.length_cons]; omega)]
      have e : k - i = (k - (i + 1)) + 1 := by omega
      rw [e, List.getD_cons_succ]
    · rw [if_neg h]
      show (c.slots.setIfInBounds (0 + i) x)[k]? = _
      by_cases hki : k = i
      · subst hki
        rw [Nat.zero_add, Array.getElem?_setIfInBounds_self_of_lt hk, if_pos (by simp only [List.length_cons]; omega)]
        simp
      · rw [Array.getElem?_setIfInBounds_ne (by omega), if_neg (by simp only [List.length_cons]; omega)]
theorem r_acopy (C : Ok X own cc nL d) {idx q0 q1 N0 N1 : Nat} {n : Int} (g : Int → Int) (hl : Cond.methodLink own idx arraycopyName ∈ lwg) (hnat : Cond.native arraycopyName ∈ lwg) (hsta : Cond.static arraycopyName ∈ lwg)
    (hs0 : woS (xV X) q0 = some (.inr (0, N0))) (hs1 : woS (xV X) q1 = some (.inr (0, N1))) (hb : woB (xV X) ≤ q1) (hn : 0 ≤ n) (hn0 : n ≤ (N0 : Int)) (hn1 : n ≤ (N1 : Int)) (hg : ∀ j : Int, 0 ≤ j → j < (N1 : Int) → g j = if j < n then μ q0 j else μ q1 j)
    (hd : decode cc pc = .ok (.invokestatic idx, 3)) (hw : csum st ≤ 8) (hlev : 1 ≤ d) (kk : RR X (wr μ q1 g) (pc + 3) ls st) : RR X μ pc ls (vI n :: vI 0 :: vR q1 :: vI 0 :: vR q0 :: st) := fun H locs jl h1 h2 h3 => by
  have hts := C.2.2.2.2.1
  have e1 := C.2.2.2.2.2.2.2.1
  have e2 := C.2.2.2.2.2.2.2.2.1
  obtain ⟨c0, a1, a2, a3, a4, a5, a6, a7⟩ : zArr _ _ _ _ _ _ := h1 q0 _ hs0
  obtain ⟨c1, b1, b2, b3, b4, b5, b6, b7⟩ : zArr _ _ _ _ _ _ := h1 q1 _ hs1
  obtain ⟨a8, k0, a9, p0, a10⟩ := a2
  obtain ⟨b8, k1, b9, p1, b10⟩ := b2
  have hr : inR n := ⟨by omega, by omega⟩
  have z0 : (Int32.ofInt 0).toNatClampNeg = 0 := rfl
  have zt : (Int32.ofInt 0).toInt = 0 := rfl
  have nn : (Int32.ofInt n).toNatClampNeg = n.toNat := oi_nat hr
  have neg0 : ¬ Int32.ofInt 0 < 0 := by decide
  intro T hT X0
  subst hT
  obtain ⟨vm', X', step⟩ := X0.arraycopy C.1 C.2.2.2.1 (hts _ hl) (hts _ hnat) (hts _ hsta) (hts _ ini_J10) (src := q0) (dst := q1) (cs := c0) (cd := c1) (srcPos := Int32.ofInt 0) (destPos := Int32.ofInt 0) (n := Int32.ofInt n) a1 b1 a8 b8 a3 b3 a9 b9 a10 b10 (by decide) neg0 neg0
    (by rw [← oi_0, oi_lt hr (by decide)]; omega) (by rw [zt, oi_toInt hr]; omega) (by rw [zt, oi_toInt hr]; omega)
    (fun vm₁ _ i hi => by
      rw [nn] at hi
      have e : c0.slots.getD ((Int32.ofInt 0).toNatClampNeg + i) .null = i5 (μ q0 (i : Int)) := by
        rw [z0, Nat.zero_add, Array.getD_eq_getD_getElem?, a7 i (by omega)]
        rfl
      rw [e]
      exact ⟨rfl, trivial⟩)
    (g := F0 (xm X) pc jl ((vI n :: vI 0 :: vR q1 :: vI 0 :: vR q0 :: st).map cv)) rfl (lrel_size h3) (rest := st.map cv) rfl (by rw [C.2.1]; exact hd) (by omega) (by
      show 2 * 0 + _ + (7 + 11) ≤ _
      rw [csum_cv]; omega)
  have hlt : q1 < T.heap.size := (Array.getElem?_eq_some_iff.mp b1).1
  have hfac := Cell.storePairs_facts c1 0 ((c0.stretch 0 n.toNat).zipIdx)
  have hcop : copied c0 c1 (Int32.ofInt 0) (Int32.ofInt 0) (Int32.ofInt n) = c1.storePairs 0 ((c0.stretch 0 n.toNat).zipIdx) := by
    show c1.storeRun (Int32.ofInt 0).toNatClampNeg (c0.stretch (Int32.ofInt 0).toNatClampNeg (Int32.ofInt n).toNatClampNeg) = _
    rw [z0, nn]
    rfl
  rw [hcop] at X' step
  have hsl := zsp_slots (c0.stretch 0 n.toNat) 0 c1
  generalize c1.storePairs 0 ((c0.stretch 0 n.toNat).zipIdx) = Z at X' step hfac hsl
  have oq : ∀ q : Nat, q ≠ q1 → (T.heap.setIfInBounds q1 Z)[q]? = T.heap[q]? := fun q hq => by simp [Array.getElem?_setIfInBounds, Ne.symm hq]
  have hself : (T.heap.setIfInBounds q1 Z)[q1]? = some Z := by simp [Array.getElem?_setIfInBounds, hlt]
  obtain ⟨t, t1, t2⟩ := kk (T.heap.setIfInBounds q1 Z) (locs ++ (c0.stretch (Int32.ofInt 0).toNatClampNeg (Int32.ofInt n).toNatClampNeg).zipIdx.map fun q => ⟨q1, (Int32.ofInt 0).toNatClampNeg + q.2⟩) jl
    (zHp_w h1 oq (fun e he => by
      rw [hs1] at he
      cases he
      refine ⟨Z, hself, ⟨?_, k1, ?_, p1, b10⟩, ?_, b4, ?_, ?_, fun j hj => ?_⟩
      · rw [hfac.2.1]; exact b8
      · rw [hfac.1]; exact b9
      · rw [hfac.2.1]; exact b3
      · rw [hfac.2.2.1]; exact b5
      · rw [hfac.2.2.1]; exact b6
      · rw [hsl j (by omega)]
        have hlen : (c0.stretch 0 n.toNat).length = n.toNat := by unfold Cell.stretch; rw [List.length_map, List.length_range]
        show _ = some (i5 (g (j : Int)))
        rw [hg j (by omega) (by omega), hlen]
        by_cases hj2 : j < n.toNat
        · rw [if_pos ⟨Nat.zero_le _, by omega⟩, if_pos (by omega)]
          unfold Cell.stretch
          rw [List.getD_eq_getElem?_getD, List.getElem?_map, List.getElem?_range (by omega)]
          show some ((some (c0.slots.getD (0 + (j - 0)) .null)).getD .null) = _
          rw [Nat.zero_add, Nat.sub_zero, Array.getD_eq_getD_getElem?, a7 j (by omega)]
          rfl
        · rw [if_neg (by omega), if_neg (by omega)]
          exact b7 j hj))
    ⟨by rw [Array.size_setIfInBounds]; exact h2.1, fun q g1 g2 => by
      rw [oq q (fun e => g2 (by rw [e]; exact hb))]
      exact h2.2.1 q g1 g2, fun q hq => by
      rcases List.mem_append.mp hq with h | h
      · exact h2.2.2 q h
      · obtain ⟨z, -, hz⟩ := List.mem_map.mp h
        rw [← hz]
        exact hb⟩ h3 _ rfl X'
  exact ⟨t, step t t1, t2⟩
theorem r_gets (C : Ok X own cc nL d) {idx z : Nat} {n : String} (hZ : va_Z RX4 n "[I" (.ref z) (woA (xV X)) (xs X) (xs X).heap) (hl : Cond.fieldLink own idx RX4 n "[I" ∈ lwg) (hd : decode cc pc = .ok (.getstatic idx, 3)) (kk : RR X μ (pc + 3) ls (vR z :: st)) : RR X μ pc ls st := fun H locs jl h1 h2 h3 =>
  va_gets C.1 C.2.1 hZ h2 C.2.2.2.1 (C.2.2.2.2.1 _ hl) (fun _ h => h) hd (kk H locs jl h1 h2 h3)
end Rows3
