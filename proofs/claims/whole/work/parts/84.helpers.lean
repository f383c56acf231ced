/-! the eighteen helpers of the law, whatever the class answers -/
theorem i64_r {x : Int} (h : inR x) : (Int64.ofInt x).toInt = x := by
  obtain ⟨h1, h2⟩ := h
  exact Int64.toInt_ofInt_of_le (by omega) (by omega)
def rI (x : Int) : Int := (Int32.ofInt x).toInt
theorem rI_r (x : Int) : inR (rI x) := ⟨Int32.le_toInt _, by have := Int32.toInt_lt (Int32.ofInt x); unfold rI; omega⟩
theorem rI_o (x : Int) : Int32.ofInt (rI x) = Int32.ofInt x := Int32.ofInt_toInt _
theorem r_i2l0 {X : Cx} {own : String} {cc : ByteArray} {nL d : Nat} {μ : Mem} {pc : Nat} {ls st : List AV} (C : Ok X own cc nL d) {x : Int} (hd : decode cc pc = .ok (.i2l, 1)) (k : RR X μ (pc + 1) ls (vV (.long (Int64.ofInt (rI x))) :: st)) : RR X μ pc ls (vI x :: st) := by
  have h := r_i2l (x := rI x) C hd (rI_r x) k
  unfold RR at h ⊢
  have e : (vI (rI x) :: st).map cv = (vI x :: st).map cv := by
    show cv (vI (rI x)) :: st.map cv = cv (vI x) :: st.map cv
    rw [show cv (vI (rI x)) = cv (vI x) from congrArg Value.int (rI_o x)]
  rw [e] at h
  exact h
abbrev hhL_gather : List (Nat × Nat × Nat × Nat) := [(0, 9, 12, 13), (0, 9, 15, 15)]
theorem cw_gather : Cond.codeWith yL_gather cL_gather 4 (some .int) hhL_gather ∈ lwg := lwg_of (List.mem_of_getElem? (i := 628) (by decide +kernel)) (by decide +kernel)
set_option maxRecDepth 20000 in
set_option maxHeartbeats 2000000 in
theorem hL_gather_0 {V : Wo} {μ : Mem} {q o d' : Nat} {x0 : Int} {r : Int} {P : Mem → Prop} (hcon : Con V d' yX4_gather cX4_gather 2 (some .int) [vR q, vI x0] μ (QIr V r P)) (hd' : d' + 1 ≤ 9) (hq : woS V q = some (.inl 4)) (ho : woS V o = some (.inr (1, 1))) (hob : woB V ≤ o) : LCon V yL_gather cL_gather 4 hhL_gather [vR q, vI x0, vR o] μ (QIr V 0 (fun ν => ∃ ρ : Mem, P ρ ∧ ν = wr ρ o (s1 (ρ o) 0 (rI r)))) := by
  refine lcon_of (ls0 := [vR q, vI x0, vR o, vU]) (by decide +kernel) rfl (Nat.le_of_ble_eq_true rfl) (Nat.le_of_ble_eq_true rfl) (fun X hV C hF => ?_)
  subst hV
  have C : Ok X RL cL_gather 4 9 := C
  obtain ⟨f1, fQ, ffl, ftb, ⟨fk, fn⟩, fc, fE⟩ := id hF
  refine r_aload_n C dL_gather_0 rfl ?_
  refine r_iconst C dL_gather_1 ?_
  refine r_aload_n C dL_gather_2 rfl ?_
  refine r_iload_n C dL_gather_3 rfl ?_
  refine r_runIr (fun aH aL aj a1 a2 a3 => run_V C ffl hcon lm_X4_gather ml_L_7 im_X4_gather se_X4_gather hq rfl hd' dL_gather_4 rfl (Nat.le_of_ble_eq_true rfl) a1 a2 a3) (fun ρ hρ => ?_)
  refine r_i2l0 C dL_gather_7 ?_
  refine r_last C ho hob (by decide) (by decide) dL_gather_8 ?_
  refine r_goto (tgt := 18) C dL_gather_9 (by decide) ?_
  refine r_iconst C dL_gather_18 ?_
  exact r_iretL C f1 fQ (by omega) (by omega) dL_gather_19 ⟨ρ, hρ, by rw [i64_r (rI_r r)]⟩
set_option maxRecDepth 20000 in
set_option maxHeartbeats 2000000 in
theorem hL_gather_1 {V : Wo} {μ : Mem} {q o : Nat} {x0 : Int} {P : Mem → Prop} (hcon : XCon V 8 yX4_gather cX4_gather 2 (some .int) [vR q, vI x0] μ eX P) (hq : woS V q = some (.inl 4)) : LCon V yL_gather cL_gather 4 hhL_gather [vR q, vI x0, vR o] μ (QIr V 1 P) := by
  refine lcon_of (ls0 := [vR q, vI x0, vR o, vU]) (by decide +kernel) rfl (Nat.le_of_ble_eq_true rfl) (Nat.le_of_ble_eq_true rfl) (fun X hV C hF => ?_)
  subst hV
  have C : Ok X RL cL_gather 4 9 := C
  obtain ⟨f1, fQ, ffl, ftb, ⟨fk, fn⟩, fc, fE⟩ := id hF
  refine r_aload_n C dL_gather_0 rfl ?_
  refine r_iconst C dL_gather_1 ?_
  refine r_aload_n C dL_gather_2 rfl ?_
  refine r_iload_n C dL_gather_3 rfl ?_
  refine r_catch (x := (0, 9, 12, 13)) C hF hcon lm_X4_gather ml_L_7 im_X4_gather se_X4_gather hq dL_gather_4 rfl (Nat.le_of_ble_eq_true rfl) [] [(0, 9, 15, 15)] rfl (fun z hz => by cases hz) (by decide) (by decide) hl_13 hc_X (fun ρ q9 hρ => ?_)
  have C : Ok (X1 X) RL cL_gather 4 9 := ok_1 C (by omega) (by omega)
  refine r_astore_n C dL_gather_12 (by decide) rfl ?_
  refine r_iconst C dL_gather_13 ?_
  exact r_iretL C f1 fQ (by show xk X + 1 ≤ 1; omega) (by show xn X + 6 ≤ 6; omega) dL_gather_14 hρ
set_option maxRecDepth 20000 in
set_option maxHeartbeats 2000000 in
theorem hL_gather_2 {V : Wo} {μ : Mem} {q o : Nat} {x0 : Int} {P : Mem → Prop} (hcon : XCon V 8 yX4_gather cX4_gather 2 (some .int) [vR q, vI x0] μ eS P) (hq : woS V q = some (.inl 4)) : LCon V yL_gather cL_gather 4 hhL_gather [vR q, vI x0, vR o] μ (QIr V 2 P) := by
  refine lcon_of (ls0 := [vR q, vI x0, vR o, vU]) (by decide +kernel) rfl (Nat.le_of_ble_eq_true rfl) (Nat.le_of_ble_eq_true rfl) (fun X hV C hF => ?_)
  subst hV
  have C : Ok X RL cL_gather 4 9 := C
  obtain ⟨f1, fQ, ffl, ftb, ⟨fk, fn⟩, fc, fE⟩ := id hF
  refine r_aload_n C dL_gather_0 rfl ?_
  refine r_iconst C dL_gather_1 ?_
  refine r_aload_n C dL_gather_2 rfl ?_
  refine r_iload_n C dL_gather_3 rfl ?_
  refine r_catch (x := (0, 9, 15, 15)) C hF hcon lm_X4_gather ml_L_7 im_X4_gather se_X4_gather hq dL_gather_4 rfl (Nat.le_of_ble_eq_true rfl) [(0, 9, 12, 13)] [] rfl (fun z hz => by
    rcases List.mem_singleton.mp hz with rfl
    exact ⟨by decide, eX, hl_13, by decide⟩) (by decide) (by decide) hl_15 hc_S (fun ρ q9 hρ => ?_)
  have C : Ok (X1 X) RL cL_gather 4 9 := ok_1 C (by omega) (by omega)
  refine r_astore_n C dL_gather_15 (by decide) rfl ?_
  refine r_iconst C dL_gather_16 ?_
  exact r_iretL C f1 fQ (by show xk X + 1 ≤ 1; omega) (by show xn X + 6 ≤ 6; omega) dL_gather_17 hρ
abbrev hhL_insert : List (Nat × Nat × Nat × Nat) := [(0, 10, 13, 13), (0, 10, 17, 15)]
theorem cw_insert : Cond.codeWith yL_insert cL_insert 5 (some .int) hhL_insert ∈ lwg := lwg_of (List.mem_of_getElem? (i := 678) (by decide +kernel)) (by decide +kernel)
set_option maxRecDepth 20000 in
set_option maxHeartbeats 2000000 in
theorem hL_insert_0 {V : Wo} {μ : Mem} {q o d' : Nat} {x0 : Int} {x1 : Int} {r : Int} {P : Mem → Prop} (hcon : Con V d' yX4_insert cX4_insert 3 (some .int) [vR q, vI x0, vI x1] μ (QIr V r P)) (hd' : d' + 1 ≤ 9) (hq : woS V q = some (.inl 4)) (ho : woS V o = some (.inr (1, 1))) (hob : woB V ≤ o) : LCon V yL_insert cL_insert 5 hhL_insert [vR q, vI x0, vI x1, vR o] μ (QIr V 0 (fun ν => ∃ ρ : Mem, P ρ ∧ ν = wr ρ o (s1 (ρ o) 0 (rI r)))) := by
  refine lcon_of (ls0 := [vR q, vI x0, vI x1, vR o, vU]) (by decide +kernel) rfl (Nat.le_of_ble_eq_true rfl) (Nat.le_of_ble_eq_true rfl) (fun X hV C hF => ?_)
  subst hV
  have C : Ok X RL cL_insert 5 9 := C
  obtain ⟨f1, fQ, ffl, ftb, ⟨fk, fn⟩, fc, fE⟩ := id hF
  refine r_aload_n C dL_insert_0 rfl ?_
  refine r_iconst C dL_insert_1 ?_
  refine r_aload_n C dL_insert_2 rfl ?_
  refine r_iload_n C dL_insert_3 rfl ?_
  refine r_iload_n C dL_insert_4 rfl ?_
  refine r_runIr (fun aH aL aj a1 a2 a3 => run_V C ffl hcon lm_X4_insert ml_L_17 im_X4_insert se_X4_insert hq rfl hd' dL_insert_5 rfl (Nat.le_of_ble_eq_true rfl) a1 a2 a3) (fun ρ hρ => ?_)
  refine r_i2l0 C dL_insert_8 ?_
  refine r_last C ho hob (by decide) (by decide) dL_insert_9 ?_
  refine r_goto (tgt := 21) C dL_insert_10 (by decide) ?_
  refine r_iconst C dL_insert_21 ?_
  exact r_iretL C f1 fQ (by omega) (by omega) dL_insert_22 ⟨ρ, hρ, by rw [i64_r (rI_r r)]⟩
set_option maxRecDepth 20000 in
set_option maxHeartbeats 2000000 in
theorem hL_insert_1 {V : Wo} {μ : Mem} {q o : Nat} {x0 : Int} {x1 : Int} {P : Mem → Prop} (hcon : XCon V 8 yX4_insert cX4_insert 3 (some .int) [vR q, vI x0, vI x1] μ eX P) (hq : woS V q = some (.inl 4)) : LCon V yL_insert cL_insert 5 hhL_insert [vR q, vI x0, vI x1, vR o] μ (QIr V 1 P) := by
  refine lcon_of (ls0 := [vR q, vI x0, vI x1, vR o, vU]) (by decide +kernel) rfl (Nat.le_of_ble_eq_true rfl) (Nat.le_of_ble_eq_true rfl) (fun X hV C hF => ?_)
  subst hV
  have C : Ok X RL cL_insert 5 9 := C
  obtain ⟨f1, fQ, ffl, ftb, ⟨fk, fn⟩, fc, fE⟩ := id hF
  refine r_aload_n C dL_insert_0 rfl ?_
  refine r_iconst C dL_insert_1 ?_
  refine r_aload_n C dL_insert_2 rfl ?_
  refine r_iload_n C dL_insert_3 rfl ?_
  refine r_iload_n C dL_insert_4 rfl ?_
  refine r_catch (x := (0, 10, 13, 13)) C hF hcon lm_X4_insert ml_L_17 im_X4_insert se_X4_insert hq dL_insert_5 rfl (Nat.le_of_ble_eq_true rfl) [] [(0, 10, 17, 15)] rfl (fun z hz => by cases hz) (by decide) (by decide) hl_13 hc_X (fun ρ q9 hρ => ?_)
  have C : Ok (X1 X) RL cL_insert 5 9 := ok_1 C (by omega) (by omega)
  refine r_astore C dL_insert_13 (by decide) rfl ?_
  refine r_iconst C dL_insert_15 ?_
  exact r_iretL C f1 fQ (by show xk X + 1 ≤ 1; omega) (by show xn X + 6 ≤ 6; omega) dL_insert_16 hρ
set_option maxRecDepth 20000 in
set_option maxHeartbeats 2000000 in
theorem hL_insert_2 {V : Wo} {μ : Mem} {q o : Nat} {x0 : Int} {x1 : Int} {P : Mem → Prop} (hcon : XCon V 8 yX4_insert cX4_insert 3 (some .int) [vR q, vI x0, vI x1] μ eS P) (hq : woS V q = some (.inl 4)) : LCon V yL_insert cL_insert 5 hhL_insert [vR q, vI x0, vI x1, vR o] μ (QIr V 2 P) := by
  refine lcon_of (ls0 := [vR q, vI x0, vI x1, vR o, vU]) (by decide +kernel) rfl (Nat.le_of_ble_eq_true rfl) (Nat.le_of_ble_eq_true rfl) (fun X hV C hF => ?_)
  subst hV
  have C : Ok X RL cL_insert 5 9 := C
  obtain ⟨f1, fQ, ffl, ftb, ⟨fk, fn⟩, fc, fE⟩ := id hF
  refine r_aload_n C dL_insert_0 rfl ?_
  refine r_iconst C dL_insert_1 ?_
  refine r_aload_n C dL_insert_2 rfl ?_
  refine r_iload_n C dL_insert_3 rfl ?_
  refine r_iload_n C dL_insert_4 rfl ?_
  refine r_catch (x := (0, 10, 17, 15)) C hF hcon lm_X4_insert ml_L_17 im_X4_insert se_X4_insert hq dL_insert_5 rfl (Nat.le_of_ble_eq_true rfl) [(0, 10, 13, 13)] [] rfl (fun z hz => by
    rcases List.mem_singleton.mp hz with rfl
    exact ⟨by decide, eX, hl_13, by decide⟩) (by decide) (by decide) hl_15 hc_S (fun ρ q9 hρ => ?_)
  have C : Ok (X1 X) RL cL_insert 5 9 := ok_1 C (by omega) (by omega)
  refine r_astore C dL_insert_17 (by decide) rfl ?_
  refine r_iconst C dL_insert_19 ?_
  exact r_iretL C f1 fQ (by show xk X + 1 ≤ 1; omega) (by show xn X + 6 ≤ 6; omega) dL_insert_20 hρ
abbrev hhL_pull : List (Nat × Nat × Nat × Nat) := [(0, 9, 12, 13)]
theorem cw_pull : Cond.codeWith yL_pull cL_pull 4 (some .int) hhL_pull ∈ lwg := lwg_of (List.mem_of_getElem? (i := 686) (by decide +kernel)) (by decide +kernel)
set_option maxRecDepth 20000 in
set_option maxHeartbeats 2000000 in
theorem hL_pull_0 {V : Wo} {μ : Mem} {q o d' : Nat} {x0 : Int} {r : Int} {P : Mem → Prop} (hcon : Con V d' yX4_pull cX4_pull 2 (some .int) [vR q, vI x0] μ (QIr V r P)) (hd' : d' + 1 ≤ 9) (hq : woS V q = some (.inl 4)) (ho : woS V o = some (.inr (1, 1))) (hob : woB V ≤ o) : LCon V yL_pull cL_pull 4 hhL_pull [vR q, vI x0, vR o] μ (QIr V 0 (fun ν => ∃ ρ : Mem, P ρ ∧ ν = wr ρ o (s1 (ρ o) 0 (rI r)))) := by
  refine lcon_of (ls0 := [vR q, vI x0, vR o, vU]) (by decide +kernel) rfl (Nat.le_of_ble_eq_true rfl) (Nat.le_of_ble_eq_true rfl) (fun X hV C hF => ?_)
  subst hV
  have C : Ok X RL cL_pull 4 9 := C
  obtain ⟨f1, fQ, ffl, ftb, ⟨fk, fn⟩, fc, fE⟩ := id hF
  refine r_aload_n C dL_pull_0 rfl ?_
  refine r_iconst C dL_pull_1 ?_
  refine r_aload_n C dL_pull_2 rfl ?_
  refine r_iload_n C dL_pull_3 rfl ?_
  refine r_runIr (fun aH aL aj a1 a2 a3 => run_V C ffl hcon lm_X4_pull ml_L_21 im_X4_pull se_X4_pull hq rfl hd' dL_pull_4 rfl (Nat.le_of_ble_eq_true rfl) a1 a2 a3) (fun ρ hρ => ?_)
  refine r_i2l0 C dL_pull_7 ?_
  refine r_last C ho hob (by decide) (by decide) dL_pull_8 ?_
  refine r_goto (tgt := 15) C dL_pull_9 (by decide) ?_
  refine r_iconst C dL_pull_15 ?_
  exact r_iretL C f1 fQ (by omega) (by omega) dL_pull_16 ⟨ρ, hρ, by rw [i64_r (rI_r r)]⟩
set_option maxRecDepth 20000 in
set_option maxHeartbeats 2000000 in
theorem hL_pull_1 {V : Wo} {μ : Mem} {q o : Nat} {x0 : Int} {P : Mem → Prop} (hcon : XCon V 8 yX4_pull cX4_pull 2 (some .int) [vR q, vI x0] μ eX P) (hq : woS V q = some (.inl 4)) : LCon V yL_pull cL_pull 4 hhL_pull [vR q, vI x0, vR o] μ (QIr V 1 P) := by
  refine lcon_of (ls0 := [vR q, vI x0, vR o, vU]) (by decide +kernel) rfl (Nat.le_of_ble_eq_true rfl) (Nat.le_of_ble_eq_true rfl) (fun X hV C hF => ?_)
  subst hV
  have C : Ok X RL cL_pull 4 9 := C
  obtain ⟨f1, fQ, ffl, ftb, ⟨fk, fn⟩, fc, fE⟩ := id hF
  refine r_aload_n C dL_pull_0 rfl ?_
  refine r_iconst C dL_pull_1 ?_
  refine r_aload_n C dL_pull_2 rfl ?_
  refine r_iload_n C dL_pull_3 rfl ?_
  refine r_catch (x := (0, 9, 12, 13)) C hF hcon lm_X4_pull ml_L_21 im_X4_pull se_X4_pull hq dL_pull_4 rfl (Nat.le_of_ble_eq_true rfl) [] [] rfl (fun z hz => by cases hz) (by decide) (by decide) hl_13 hc_X (fun ρ q9 hρ => ?_)
  have C : Ok (X1 X) RL cL_pull 4 9 := ok_1 C (by omega) (by omega)
  refine r_astore_n C dL_pull_12 (by decide) rfl ?_
  refine r_iconst C dL_pull_13 ?_
  exact r_iretL C f1 fQ (by show xk X + 1 ≤ 1; omega) (by show xn X + 6 ≤ 6; omega) dL_pull_14 hρ
abbrev hhL_flip : List (Nat × Nat × Nat × Nat) := [(0, 9, 12, 13)]
theorem cw_flip : Cond.codeWith yL_flip cL_flip 4 (some .int) hhL_flip ∈ lwg := lwg_of (List.mem_of_getElem? (i := 698) (by decide +kernel)) (by decide +kernel)
set_option maxRecDepth 20000 in
set_option maxHeartbeats 2000000 in
theorem hL_flip_0 {V : Wo} {μ : Mem} {q o d' : Nat} {x0 : Int} {r : Int} {P : Mem → Prop} (hcon : Con V d' yX4_flip cX4_flip 2 (some .int) [vR q, vI x0] μ (QIr V r P)) (hd' : d' + 1 ≤ 9) (hq : woS V q = some (.inl 4)) (ho : woS V o = some (.inr (1, 1))) (hob : woB V ≤ o) : LCon V yL_flip cL_flip 4 hhL_flip [vR q, vI x0, vR o] μ (QIr V 0 (fun ν => ∃ ρ : Mem, P ρ ∧ ν = wr ρ o (s1 (ρ o) 0 (rI r)))) := by
  refine lcon_of (ls0 := [vR q, vI x0, vR o, vU]) (by decide +kernel) rfl (Nat.le_of_ble_eq_true rfl) (Nat.le_of_ble_eq_true rfl) (fun X hV C hF => ?_)
  subst hV
  have C : Ok X RL cL_flip 4 9 := C
  obtain ⟨f1, fQ, ffl, ftb, ⟨fk, fn⟩, fc, fE⟩ := id hF
  refine r_aload_n C dL_flip_0 rfl ?_
  refine r_iconst C dL_flip_1 ?_
  refine r_aload_n C dL_flip_2 rfl ?_
  refine r_iload_n C dL_flip_3 rfl ?_
  refine r_runIr (fun aH aL aj a1 a2 a3 => run_V C ffl hcon lm_X4_flip ml_L_24 im_X4_flip se_X4_flip hq rfl hd' dL_flip_4 rfl (Nat.le_of_ble_eq_true rfl) a1 a2 a3) (fun ρ hρ => ?_)
  refine r_i2l0 C dL_flip_7 ?_
  refine r_last C ho hob (by decide) (by decide) dL_flip_8 ?_
  refine r_goto (tgt := 15) C dL_flip_9 (by decide) ?_
  refine r_iconst C dL_flip_15 ?_
  exact r_iretL C f1 fQ (by omega) (by omega) dL_flip_16 ⟨ρ, hρ, by rw [i64_r (rI_r r)]⟩
set_option maxRecDepth 20000 in
set_option maxHeartbeats 2000000 in
theorem hL_flip_1 {V : Wo} {μ : Mem} {q o : Nat} {x0 : Int} {P : Mem → Prop} (hcon : XCon V 8 yX4_flip cX4_flip 2 (some .int) [vR q, vI x0] μ eX P) (hq : woS V q = some (.inl 4)) : LCon V yL_flip cL_flip 4 hhL_flip [vR q, vI x0, vR o] μ (QIr V 1 P) := by
  refine lcon_of (ls0 := [vR q, vI x0, vR o, vU]) (by decide +kernel) rfl (Nat.le_of_ble_eq_true rfl) (Nat.le_of_ble_eq_true rfl) (fun X hV C hF => ?_)
  subst hV
  have C : Ok X RL cL_flip 4 9 := C
  obtain ⟨f1, fQ, ffl, ftb, ⟨fk, fn⟩, fc, fE⟩ := id hF
  refine r_aload_n C dL_flip_0 rfl ?_
  refine r_iconst C dL_flip_1 ?_
  refine r_aload_n C dL_flip_2 rfl ?_
  refine r_iload_n C dL_flip_3 rfl ?_
  refine r_catch (x := (0, 9, 12, 13)) C hF hcon lm_X4_flip ml_L_24 im_X4_flip se_X4_flip hq dL_flip_4 rfl (Nat.le_of_ble_eq_true rfl) [] [] rfl (fun z hz => by cases hz) (by decide) (by decide) hl_13 hc_X (fun ρ q9 hρ => ?_)
  have C : Ok (X1 X) RL cL_flip 4 9 := ok_1 C (by omega) (by omega)
  refine r_astore_n C dL_flip_12 (by decide) rfl ?_
  refine r_iconst C dL_flip_13 ?_
  exact r_iretL C f1 fQ (by show xk X + 1 ≤ 1; omega) (by show xn X + 6 ≤ 6; omega) dL_flip_14 hρ
abbrev hhL_move : List (Nat × Nat × Nat × Nat) := [(0, 10, 13, 13)]
theorem cw_move : Cond.codeWith yL_move cL_move 5 (some .int) hhL_move ∈ lwg := lwg_of (List.mem_of_getElem? (i := 709) (by decide +kernel)) (by decide +kernel)
set_option maxRecDepth 20000 in
set_option maxHeartbeats 2000000 in
theorem hL_move_0 {V : Wo} {μ : Mem} {q o d' : Nat} {x0 : Int} {x1 : Int} {r : Int} {P : Mem → Prop} (hcon : Con V d' yX4_move cX4_move 3 (some .int) [vR q, vI x0, vI x1] μ (QIr V r P)) (hd' : d' + 1 ≤ 9) (hq : woS V q = some (.inl 4)) (ho : woS V o = some (.inr (1, 1))) (hob : woB V ≤ o) : LCon V yL_move cL_move 5 hhL_move [vR q, vI x0, vI x1, vR o] μ (QIr V 0 (fun ν => ∃ ρ : Mem, P ρ ∧ ν = wr ρ o (s1 (ρ o) 0 (rI r)))) := by
  refine lcon_of (ls0 := [vR q, vI x0, vI x1, vR o, vU]) (by decide +kernel) rfl (Nat.le_of_ble_eq_true rfl) (Nat.le_of_ble_eq_true rfl) (fun X hV C hF => ?_)
  subst hV
  have C : Ok X RL cL_move 5 9 := C
  obtain ⟨f1, fQ, ffl, ftb, ⟨fk, fn⟩, fc, fE⟩ := id hF
  refine r_aload_n C dL_move_0 rfl ?_
  refine r_iconst C dL_move_1 ?_
  refine r_aload_n C dL_move_2 rfl ?_
  refine r_iload_n C dL_move_3 rfl ?_
  refine r_iload_n C dL_move_4 rfl ?_
  refine r_runIr (fun aH aL aj a1 a2 a3 => run_V C ffl hcon lm_X4_move ml_L_27 im_X4_move se_X4_move hq rfl hd' dL_move_5 rfl (Nat.le_of_ble_eq_true rfl) a1 a2 a3) (fun ρ hρ => ?_)
  refine r_i2l0 C dL_move_8 ?_
  refine r_last C ho hob (by decide) (by decide) dL_move_9 ?_
  refine r_goto (tgt := 17) C dL_move_10 (by decide) ?_
  refine r_iconst C dL_move_17 ?_
  exact r_iretL C f1 fQ (by omega) (by omega) dL_move_18 ⟨ρ, hρ, by rw [i64_r (rI_r r)]⟩
set_option maxRecDepth 20000 in
set_option maxHeartbeats 2000000 in
theorem hL_move_1 {V : Wo} {μ : Mem} {q o : Nat} {x0 : Int} {x1 : Int} {P : Mem → Prop} (hcon : XCon V 8 yX4_move cX4_move 3 (some .int) [vR q, vI x0, vI x1] μ eX P) (hq : woS V q = some (.inl 4)) : LCon V yL_move cL_move 5 hhL_move [vR q, vI x0, vI x1, vR o] μ (QIr V 1 P) := by
  refine lcon_of (ls0 := [vR q, vI x0, vI x1, vR o, vU]) (by decide +kernel) rfl (Nat.le_of_ble_eq_true rfl) (Nat.le_of_ble_eq_true rfl) (fun X hV C hF => ?_)
  subst hV
  have C : Ok X RL cL_move 5 9 := C
  obtain ⟨f1, fQ, ffl, ftb, ⟨fk, fn⟩, fc, fE⟩ := id hF
  refine r_aload_n C dL_move_0 rfl ?_
  refine r_iconst C dL_move_1 ?_
  refine r_aload_n C dL_move_2 rfl ?_
  refine r_iload_n C dL_move_3 rfl ?_
  refine r_iload_n C dL_move_4 rfl ?_
  refine r_catch (x := (0, 10, 13, 13)) C hF hcon lm_X4_move ml_L_27 im_X4_move se_X4_move hq dL_move_5 rfl (Nat.le_of_ble_eq_true rfl) [] [] rfl (fun z hz => by cases hz) (by decide) (by decide) hl_13 hc_X (fun ρ q9 hρ => ?_)
  have C : Ok (X1 X) RL cL_move 5 9 := ok_1 C (by omega) (by omega)
  refine r_astore C dL_move_13 (by decide) rfl ?_
  refine r_iconst C dL_move_15 ?_
  exact r_iretL C f1 fQ (by show xk X + 1 ≤ 1; omega) (by show xn X + 6 ≤ 6; omega) dL_move_16 hρ
abbrev hhL_bind : List (Nat × Nat × Nat × Nat) := [(0, 8, 11, 15)]
theorem cw_bind : Cond.codeWith yL_bind cL_bind 3 (some .int) hhL_bind ∈ lwg := lwg_of (List.mem_of_getElem? (i := 723) (by decide +kernel)) (by decide +kernel)
set_option maxRecDepth 20000 in
set_option maxHeartbeats 2000000 in
theorem hL_bind_0 {V : Wo} {μ : Mem} {q o d' : Nat} {r : Int} {P : Mem → Prop} (hcon : Con V d' yX4_bind cX4_bind 1 (some .int) [vR q] μ (QIr V r P)) (hd' : d' + 1 ≤ 9) (hq : woS V q = some (.inl 4)) (ho : woS V o = some (.inr (1, 1))) (hob : woB V ≤ o) : LCon V yL_bind cL_bind 3 hhL_bind [vR q, vR o] μ (QIr V 0 (fun ν => ∃ ρ : Mem, P ρ ∧ ν = wr ρ o (s1 (ρ o) 0 (rI r)))) := by
  refine lcon_of (ls0 := [vR q, vR o, vU]) (by decide +kernel) rfl (Nat.le_of_ble_eq_true rfl) (Nat.le_of_ble_eq_true rfl) (fun X hV C hF => ?_)
  subst hV
  have C : Ok X RL cL_bind 3 9 := C
  obtain ⟨f1, fQ, ffl, ftb, ⟨fk, fn⟩, fc, fE⟩ := id hF
  refine r_aload_n C dL_bind_0 rfl ?_
  refine r_iconst C dL_bind_1 ?_
  refine r_aload_n C dL_bind_2 rfl ?_
  refine r_runIr (fun aH aL aj a1 a2 a3 => run_V C ffl hcon lm_X4_bind ml_L_30 im_X4_bind se_X4_bind hq rfl hd' dL_bind_3 rfl (Nat.le_of_ble_eq_true rfl) a1 a2 a3) (fun ρ hρ => ?_)
  refine r_i2l0 C dL_bind_6 ?_
  refine r_last C ho hob (by decide) (by decide) dL_bind_7 ?_
  refine r_goto (tgt := 14) C dL_bind_8 (by decide) ?_
  refine r_iconst C dL_bind_14 ?_
  exact r_iretL C f1 fQ (by omega) (by omega) dL_bind_15 ⟨ρ, hρ, by rw [i64_r (rI_r r)]⟩
set_option maxRecDepth 20000 in
set_option maxHeartbeats 2000000 in
theorem hL_bind_1 {V : Wo} {μ : Mem} {q o : Nat} {P : Mem → Prop} (hcon : XCon V 8 yX4_bind cX4_bind 1 (some .int) [vR q] μ eS P) (hq : woS V q = some (.inl 4)) : LCon V yL_bind cL_bind 3 hhL_bind [vR q, vR o] μ (QIr V 1 P) := by
  refine lcon_of (ls0 := [vR q, vR o, vU]) (by decide +kernel) rfl (Nat.le_of_ble_eq_true rfl) (Nat.le_of_ble_eq_true rfl) (fun X hV C hF => ?_)
  subst hV
  have C : Ok X RL cL_bind 3 9 := C
  obtain ⟨f1, fQ, ffl, ftb, ⟨fk, fn⟩, fc, fE⟩ := id hF
  refine r_aload_n C dL_bind_0 rfl ?_
  refine r_iconst C dL_bind_1 ?_
  refine r_aload_n C dL_bind_2 rfl ?_
  refine r_catch (x := (0, 8, 11, 15)) C hF hcon lm_X4_bind ml_L_30 im_X4_bind se_X4_bind hq dL_bind_3 rfl (Nat.le_of_ble_eq_true rfl) [] [] rfl (fun z hz => by cases hz) (by decide) (by decide) hl_15 hc_S (fun ρ q9 hρ => ?_)
  have C : Ok (X1 X) RL cL_bind 3 9 := ok_1 C (by omega) (by omega)
  refine r_astore_n C dL_bind_11 (by decide) rfl ?_
  refine r_iconst C dL_bind_12 ?_
  exact r_iretL C f1 fQ (by show xk X + 1 ≤ 1; omega) (by show xn X + 6 ≤ 6; omega) dL_bind_13 hρ
abbrev hhL_print : List (Nat × Nat × Nat × Nat) := [(0, 10, 13, 13), (0, 10, 17, 37), (0, 10, 21, 15)]
theorem cw_print : Cond.codeWith yL_print cL_print 5 (some .int) hhL_print ∈ lwg := lwg_of (List.mem_of_getElem? (i := 735) (by decide +kernel)) (by decide +kernel)
set_option maxRecDepth 20000 in
set_option maxHeartbeats 2000000 in
theorem hL_print_0 {V : Wo} {μ : Mem} {q o d' : Nat} {x0 : Int} {x1 : Int} {r : Int} {P : Mem → Prop} (hcon : Con V d' yX4_print cX4_print 3 (some .int) [vR q, vI x0, vI x1] μ (QIr V r P)) (hd' : d' + 1 ≤ 9) (hq : woS V q = some (.inl 4)) (ho : woS V o = some (.inr (1, 1))) (hob : woB V ≤ o) : LCon V yL_print cL_print 5 hhL_print [vR q, vI x0, vI x1, vR o] μ (QIr V 0 (fun ν => ∃ ρ : Mem, P ρ ∧ ν = wr ρ o (s1 (ρ o) 0 (rI r)))) := by
  refine lcon_of (ls0 := [vR q, vI x0, vI x1, vR o, vU]) (by decide +kernel) rfl (Nat.le_of_ble_eq_true rfl) (Nat.le_of_ble_eq_true rfl) (fun X hV C hF => ?_)
  subst hV
  have C : Ok X RL cL_print 5 9 := C
  obtain ⟨f1, fQ, ffl, ftb, ⟨fk, fn⟩, fc, fE⟩ := id hF
  refine r_aload_n C dL_print_0 rfl ?_
  refine r_iconst C dL_print_1 ?_
  refine r_aload_n C dL_print_2 rfl ?_
  refine r_iload_n C dL_print_3 rfl ?_
  refine r_iload_n C dL_print_4 rfl ?_
  refine r_runIr (fun aH aL aj a1 a2 a3 => run_V C ffl hcon lm_X4_print ml_L_34 im_X4_print se_X4_print hq rfl hd' dL_print_5 rfl (Nat.le_of_ble_eq_true rfl) a1 a2 a3) (fun ρ hρ => ?_)
  refine r_i2l0 C dL_print_8 ?_
  refine r_last C ho hob (by decide) (by decide) dL_print_9 ?_
  refine r_goto (tgt := 25) C dL_print_10 (by decide) ?_
  refine r_iconst C dL_print_25 ?_
  exact r_iretL C f1 fQ (by omega) (by omega) dL_print_26 ⟨ρ, hρ, by rw [i64_r (rI_r r)]⟩
set_option maxRecDepth 20000 in
set_option maxHeartbeats 2000000 in
theorem hL_print_1 {V : Wo} {μ : Mem} {q o : Nat} {x0 : Int} {x1 : Int} {P : Mem → Prop} (hcon : XCon V 8 yX4_print cX4_print 3 (some .int) [vR q, vI x0, vI x1] μ eX P) (hq : woS V q = some (.inl 4)) : LCon V yL_print cL_print 5 hhL_print [vR q, vI x0, vI x1, vR o] μ (QIr V 1 P) := by
  refine lcon_of (ls0 := [vR q, vI x0, vI x1, vR o, vU]) (by decide +kernel) rfl (Nat.le_of_ble_eq_true rfl) (Nat.le_of_ble_eq_true rfl) (fun X hV C hF => ?_)
  subst hV
  have C : Ok X RL cL_print 5 9 := C
  obtain ⟨f1, fQ, ffl, ftb, ⟨fk, fn⟩, fc, fE⟩ := id hF
  refine r_aload_n C dL_print_0 rfl ?_
  refine r_iconst C dL_print_1 ?_
  refine r_aload_n C dL_print_2 rfl ?_
  refine r_iload_n C dL_print_3 rfl ?_
  refine r_iload_n C dL_print_4 rfl ?_
  refine r_catch (x := (0, 10, 13, 13)) C hF hcon lm_X4_print ml_L_34 im_X4_print se_X4_print hq dL_print_5 rfl (Nat.le_of_ble_eq_true rfl) [] [(0, 10, 17, 37), (0, 10, 21, 15)] rfl (fun z hz => by cases hz) (by decide) (by decide) hl_13 hc_X (fun ρ q9 hρ => ?_)
  have C : Ok (X1 X) RL cL_print 5 9 := ok_1 C (by omega) (by omega)
  refine r_astore C dL_print_13 (by decide) rfl ?_
  refine r_iconst C dL_print_15 ?_
  exact r_iretL C f1 fQ (by show xk X + 1 ≤ 1; omega) (by show xn X + 6 ≤ 6; omega) dL_print_16 hρ
set_option maxRecDepth 20000 in
set_option maxHeartbeats 2000000 in
theorem hL_print_2 {V : Wo} {μ : Mem} {q o : Nat} {x0 : Int} {x1 : Int} {P : Mem → Prop} (hcon : XCon V 8 yX4_print cX4_print 3 (some .int) [vR q, vI x0, vI x1] μ eA P) (hq : woS V q = some (.inl 4)) : LCon V yL_print cL_print 5 hhL_print [vR q, vI x0, vI x1, vR o] μ (QIr V 2 P) := by
  refine lcon_of (ls0 := [vR q, vI x0, vI x1, vR o, vU]) (by decide +kernel) rfl (Nat.le_of_ble_eq_true rfl) (Nat.le_of_ble_eq_true rfl) (fun X hV C hF => ?_)
  subst hV
  have C : Ok X RL cL_print 5 9 := C
  obtain ⟨f1, fQ, ffl, ftb, ⟨fk, fn⟩, fc, fE⟩ := id hF
  refine r_aload_n C dL_print_0 rfl ?_
  refine r_iconst C dL_print_1 ?_
  refine r_aload_n C dL_print_2 rfl ?_
  refine r_iload_n C dL_print_3 rfl ?_
  refine r_iload_n C dL_print_4 rfl ?_
  refine r_catch (x := (0, 10, 17, 37)) C hF hcon lm_X4_print ml_L_34 im_X4_print se_X4_print hq dL_print_5 rfl (Nat.le_of_ble_eq_true rfl) [(0, 10, 13, 13)] [(0, 10, 21, 15)] rfl (fun z hz => by
    rcases List.mem_singleton.mp hz with rfl
    exact ⟨by decide, eX, hl_13, by decide⟩) (by decide) (by decide) hl_37 hc_A (fun ρ q9 hρ => ?_)
  have C : Ok (X1 X) RL cL_print 5 9 := ok_1 C (by omega) (by omega)
  refine r_astore C dL_print_17 (by decide) rfl ?_
  refine r_iconst C dL_print_19 ?_
  exact r_iretL C f1 fQ (by show xk X + 1 ≤ 1; omega) (by show xn X + 6 ≤ 6; omega) dL_print_20 hρ
set_option maxRecDepth 20000 in
set_option maxHeartbeats 2000000 in
theorem hL_print_3 {V : Wo} {μ : Mem} {q o : Nat} {x0 : Int} {x1 : Int} {P : Mem → Prop} (hcon : XCon V 8 yX4_print cX4_print 3 (some .int) [vR q, vI x0, vI x1] μ eS P) (hq : woS V q = some (.inl 4)) : LCon V yL_print cL_print 5 hhL_print [vR q, vI x0, vI x1, vR o] μ (QIr V 3 P) := by
  refine lcon_of (ls0 := [vR q, vI x0, vI x1, vR o, vU]) (by decide +kernel) rfl (Nat.le_of_ble_eq_true rfl) (Nat.le_of_ble_eq_true rfl) (fun X hV C hF => ?_)
  subst hV
  have C : Ok X RL cL_print 5 9 := C
  obtain ⟨f1, fQ, ffl, ftb, ⟨fk, fn⟩, fc, fE⟩ := id hF
  refine r_aload_n C dL_print_0 rfl ?_
  refine r_iconst C dL_print_1 ?_
  refine r_aload_n C dL_print_2 rfl ?_
  refine r_iload_n C dL_print_3 rfl ?_
  refine r_iload_n C dL_print_4 rfl ?_
  refine r_catch (x := (0, 10, 21, 15)) C hF hcon lm_X4_print ml_L_34 im_X4_print se_X4_print hq dL_print_5 rfl (Nat.le_of_ble_eq_true rfl) [(0, 10, 13, 13), (0, 10, 17, 37)] [] rfl (fun z hz => by
    rcases List.mem_cons.mp hz with rfl | hz
    · exact ⟨by decide, eX, hl_13, by decide⟩
    · rcases List.mem_singleton.mp hz with rfl
      exact ⟨by decide, eA, hl_37, by decide⟩) (by decide) (by decide) hl_15 hc_S (fun ρ q9 hρ => ?_)
  have C : Ok (X1 X) RL cL_print 5 9 := ok_1 C (by omega) (by omega)
  refine r_astore C dL_print_21 (by decide) rfl ?_
  refine r_iconst C dL_print_23 ?_
  exact r_iretL C f1 fQ (by show xk X + 1 ≤ 1; omega) (by show xn X + 6 ≤ 6; omega) dL_print_24 hρ
abbrev hhL_punch : List (Nat × Nat × Nat × Nat) := [(0, 10, 13, 13), (0, 10, 17, 37)]
theorem cw_punch : Cond.codeWith yL_punch cL_punch 5 (some .int) hhL_punch ∈ lwg := lwg_of (List.mem_of_getElem? (i := 746) (by decide +kernel)) (by decide +kernel)
set_option maxRecDepth 20000 in
set_option maxHeartbeats 2000000 in
theorem hL_punch_0 {V : Wo} {μ : Mem} {q o d' : Nat} {x0 : Int} {x1 : Int} {r : Int} {P : Mem → Prop} (hcon : Con V d' yX4_punch cX4_punch 4 (some .int) [vR q, vI x0, vI x1] μ (QIr V r P)) (hd' : d' + 1 ≤ 9) (hq : woS V q = some (.inl 4)) (ho : woS V o = some (.inr (1, 1))) (hob : woB V ≤ o) : LCon V yL_punch cL_punch 5 hhL_punch [vR q, vI x0, vI x1, vR o] μ (QIr V 0 (fun ν => ∃ ρ : Mem, P ρ ∧ ν = wr ρ o (s1 (ρ o) 0 (rI r)))) := by
  refine lcon_of (ls0 := [vR q, vI x0, vI x1, vR o, vU]) (by decide +kernel) rfl (Nat.le_of_ble_eq_true rfl) (Nat.le_of_ble_eq_true rfl) (fun X hV C hF => ?_)
  subst hV
  have C : Ok X RL cL_punch 5 9 := C
  obtain ⟨f1, fQ, ffl, ftb, ⟨fk, fn⟩, fc, fE⟩ := id hF
  refine r_aload_n C dL_punch_0 rfl ?_
  refine r_iconst C dL_punch_1 ?_
  refine r_aload_n C dL_punch_2 rfl ?_
  refine r_iload_n C dL_punch_3 rfl ?_
  refine r_iload_n C dL_punch_4 rfl ?_
  refine r_runIr (fun aH aL aj a1 a2 a3 => run_V C ffl hcon lm_X4_punch ml_L_39 im_X4_punch se_X4_punch hq rfl hd' dL_punch_5 rfl (Nat.le_of_ble_eq_true rfl) a1 a2 a3) (fun ρ hρ => ?_)
  refine r_i2l0 C dL_punch_8 ?_
  refine r_last C ho hob (by decide) (by decide) dL_punch_9 ?_
  refine r_goto (tgt := 21) C dL_punch_10 (by decide) ?_
  refine r_iconst C dL_punch_21 ?_
  exact r_iretL C f1 fQ (by omega) (by omega) dL_punch_22 ⟨ρ, hρ, by rw [i64_r (rI_r r)]⟩
set_option maxRecDepth 20000 in
set_option maxHeartbeats 2000000 in
theorem hL_punch_1 {V : Wo} {μ : Mem} {q o : Nat} {x0 : Int} {x1 : Int} {P : Mem → Prop} (hcon : XCon V 8 yX4_punch cX4_punch 4 (some .int) [vR q, vI x0, vI x1] μ eX P) (hq : woS V q = some (.inl 4)) : LCon V yL_punch cL_punch 5 hhL_punch [vR q, vI x0, vI x1, vR o] μ (QIr V 1 P) := by
  refine lcon_of (ls0 := [vR q, vI x0, vI x1, vR o, vU]) (by decide +kernel) rfl (Nat.le_of_ble_eq_true rfl) (Nat.le_of_ble_eq_true rfl) (fun X hV C hF => ?_)
  subst hV
  have C : Ok X RL cL_punch 5 9 := C
  obtain ⟨f1, fQ, ffl, ftb, ⟨fk, fn⟩, fc, fE⟩ := id hF
  refine r_aload_n C dL_punch_0 rfl ?_
  refine r_iconst C dL_punch_1 ?_
  refine r_aload_n C dL_punch_2 rfl ?_
  refine r_iload_n C dL_punch_3 rfl ?_
  refine r_iload_n C dL_punch_4 rfl ?_
  refine r_catch (x := (0, 10, 13, 13)) C hF hcon lm_X4_punch ml_L_39 im_X4_punch se_X4_punch hq dL_punch_5 rfl (Nat.le_of_ble_eq_true rfl) [] [(0, 10, 17, 37)] rfl (fun z hz => by cases hz) (by decide) (by decide) hl_13 hc_X (fun ρ q9 hρ => ?_)
  have C : Ok (X1 X) RL cL_punch 5 9 := ok_1 C (by omega) (by omega)
  refine r_astore C dL_punch_13 (by decide) rfl ?_
  refine r_iconst C dL_punch_15 ?_
  exact r_iretL C f1 fQ (by show xk X + 1 ≤ 1; omega) (by show xn X + 6 ≤ 6; omega) dL_punch_16 hρ
set_option maxRecDepth 20000 in
set_option maxHeartbeats 2000000 in
theorem hL_punch_2 {V : Wo} {μ : Mem} {q o : Nat} {x0 : Int} {x1 : Int} {P : Mem → Prop} (hcon : XCon V 8 yX4_punch cX4_punch 4 (some .int) [vR q, vI x0, vI x1] μ eA P) (hq : woS V q = some (.inl 4)) : LCon V yL_punch cL_punch 5 hhL_punch [vR q, vI x0, vI x1, vR o] μ (QIr V 2 P) := by
  refine lcon_of (ls0 := [vR q, vI x0, vI x1, vR o, vU]) (by decide +kernel) rfl (Nat.le_of_ble_eq_true rfl) (Nat.le_of_ble_eq_true rfl) (fun X hV C hF => ?_)
  subst hV
  have C : Ok X RL cL_punch 5 9 := C
  obtain ⟨f1, fQ, ffl, ftb, ⟨fk, fn⟩, fc, fE⟩ := id hF
  refine r_aload_n C dL_punch_0 rfl ?_
  refine r_iconst C dL_punch_1 ?_
  refine r_aload_n C dL_punch_2 rfl ?_
  refine r_iload_n C dL_punch_3 rfl ?_
  refine r_iload_n C dL_punch_4 rfl ?_
  refine r_catch (x := (0, 10, 17, 37)) C hF hcon lm_X4_punch ml_L_39 im_X4_punch se_X4_punch hq dL_punch_5 rfl (Nat.le_of_ble_eq_true rfl) [(0, 10, 13, 13)] [] rfl (fun z hz => by
    rcases List.mem_singleton.mp hz with rfl
    exact ⟨by decide, eX, hl_13, by decide⟩) (by decide) (by decide) hl_37 hc_A (fun ρ q9 hρ => ?_)
  have C : Ok (X1 X) RL cL_punch 5 9 := ok_1 C (by omega) (by omega)
  refine r_astore C dL_punch_17 (by decide) rfl ?_
  refine r_iconst C dL_punch_19 ?_
  exact r_iretL C f1 fQ (by show xk X + 1 ≤ 1; omega) (by show xn X + 6 ≤ 6; omega) dL_punch_20 hρ
abbrev hhL_set : List (Nat × Nat × Nat × Nat) := [(0, 10, 13, 13), (0, 10, 17, 37)]
theorem cw_set : Cond.codeWith yL_set cL_set 5 (some .int) hhL_set ∈ lwg := lwg_of (List.mem_of_getElem? (i := 754) (by decide +kernel)) (by decide +kernel)
set_option maxRecDepth 20000 in
set_option maxHeartbeats 2000000 in
theorem hL_set_0 {V : Wo} {μ : Mem} {q o d' : Nat} {x0 : Int} {x1 : Int} {r : Int} {P : Mem → Prop} (hcon : Con V d' yX4_set cX4_set 4 (some .int) [vR q, vI x0, vI x1] μ (QIr V r P)) (hd' : d' + 1 ≤ 9) (hq : woS V q = some (.inl 4)) (ho : woS V o = some (.inr (1, 1))) (hob : woB V ≤ o) : LCon V yL_set cL_set 5 hhL_set [vR q, vI x0, vI x1, vR o] μ (QIr V 0 (fun ν => ∃ ρ : Mem, P ρ ∧ ν = wr ρ o (s1 (ρ o) 0 (rI r)))) := by
  refine lcon_of (ls0 := [vR q, vI x0, vI x1, vR o, vU]) (by decide +kernel) rfl (Nat.le_of_ble_eq_true rfl) (Nat.le_of_ble_eq_true rfl) (fun X hV C hF => ?_)
  subst hV
  have C : Ok X RL cL_set 5 9 := C
  obtain ⟨f1, fQ, ffl, ftb, ⟨fk, fn⟩, fc, fE⟩ := id hF
  refine r_aload_n C dL_set_0 rfl ?_
  refine r_iconst C dL_set_1 ?_
  refine r_aload_n C dL_set_2 rfl ?_
  refine r_iload_n C dL_set_3 rfl ?_
  refine r_iload_n C dL_set_4 rfl ?_
  refine r_runIr (fun aH aL aj a1 a2 a3 => run_V C ffl hcon lm_X4_set ml_L_42 im_X4_set se_X4_set hq rfl hd' dL_set_5 rfl (Nat.le_of_ble_eq_true rfl) a1 a2 a3) (fun ρ hρ => ?_)
  refine r_i2l0 C dL_set_8 ?_
  refine r_last C ho hob (by decide) (by decide) dL_set_9 ?_
  refine r_goto (tgt := 21) C dL_set_10 (by decide) ?_
  refine r_iconst C dL_set_21 ?_
  exact r_iretL C f1 fQ (by omega) (by omega) dL_set_22 ⟨ρ, hρ, by rw [i64_r (rI_r r)]⟩
set_option maxRecDepth 20000 in
set_option maxHeartbeats 2000000 in
theorem hL_set_1 {V : Wo} {μ : Mem} {q o : Nat} {x0 : Int} {x1 : Int} {P : Mem → Prop} (hcon : XCon V 8 yX4_set cX4_set 4 (some .int) [vR q, vI x0, vI x1] μ eX P) (hq : woS V q = some (.inl 4)) : LCon V yL_set cL_set 5 hhL_set [vR q, vI x0, vI x1, vR o] μ (QIr V 1 P) := by
  refine lcon_of (ls0 := [vR q, vI x0, vI x1, vR o, vU]) (by decide +kernel) rfl (Nat.le_of_ble_eq_true rfl) (Nat.le_of_ble_eq_true rfl) (fun X hV C hF => ?_)
  subst hV
  have C : Ok X RL cL_set 5 9 := C
  obtain ⟨f1, fQ, ffl, ftb, ⟨fk, fn⟩, fc, fE⟩ := id hF
  refine r_aload_n C dL_set_0 rfl ?_
  refine r_iconst C dL_set_1 ?_
  refine r_aload_n C dL_set_2 rfl ?_
  refine r_iload_n C dL_set_3 rfl ?_
  refine r_iload_n C dL_set_4 rfl ?_
  refine r_catch (x := (0, 10, 13, 13)) C hF hcon lm_X4_set ml_L_42 im_X4_set se_X4_set hq dL_set_5 rfl (Nat.le_of_ble_eq_true rfl) [] [(0, 10, 17, 37)] rfl (fun z hz => by cases hz) (by decide) (by decide) hl_13 hc_X (fun ρ q9 hρ => ?_)
  have C : Ok (X1 X) RL cL_set 5 9 := ok_1 C (by omega) (by omega)
  refine r_astore C dL_set_13 (by decide) rfl ?_
  refine r_iconst C dL_set_15 ?_
  exact r_iretL C f1 fQ (by show xk X + 1 ≤ 1; omega) (by show xn X + 6 ≤ 6; omega) dL_set_16 hρ
set_option maxRecDepth 20000 in
set_option maxHeartbeats 2000000 in
theorem hL_set_2 {V : Wo} {μ : Mem} {q o : Nat} {x0 : Int} {x1 : Int} {P : Mem → Prop} (hcon : XCon V 8 yX4_set cX4_set 4 (some .int) [vR q, vI x0, vI x1] μ eA P) (hq : woS V q = some (.inl 4)) : LCon V yL_set cL_set 5 hhL_set [vR q, vI x0, vI x1, vR o] μ (QIr V 2 P) := by
  refine lcon_of (ls0 := [vR q, vI x0, vI x1, vR o, vU]) (by decide +kernel) rfl (Nat.le_of_ble_eq_true rfl) (Nat.le_of_ble_eq_true rfl) (fun X hV C hF => ?_)
  subst hV
  have C : Ok X RL cL_set 5 9 := C
  obtain ⟨f1, fQ, ffl, ftb, ⟨fk, fn⟩, fc, fE⟩ := id hF
  refine r_aload_n C dL_set_0 rfl ?_
  refine r_iconst C dL_set_1 ?_
  refine r_aload_n C dL_set_2 rfl ?_
  refine r_iload_n C dL_set_3 rfl ?_
  refine r_iload_n C dL_set_4 rfl ?_
  refine r_catch (x := (0, 10, 17, 37)) C hF hcon lm_X4_set ml_L_42 im_X4_set se_X4_set hq dL_set_5 rfl (Nat.le_of_ble_eq_true rfl) [(0, 10, 13, 13)] [] rfl (fun z hz => by
    rcases List.mem_singleton.mp hz with rfl
    exact ⟨by decide, eX, hl_13, by decide⟩) (by decide) (by decide) hl_37 hc_A (fun ρ q9 hρ => ?_)
  have C : Ok (X1 X) RL cL_set 5 9 := ok_1 C (by omega) (by omega)
  refine r_astore C dL_set_17 (by decide) rfl ?_
  refine r_iconst C dL_set_19 ?_
  exact r_iretL C f1 fQ (by show xk X + 1 ≤ 1; omega) (by show xn X + 6 ≤ 6; omega) dL_set_20 hρ
abbrev hhL_append : List (Nat × Nat × Nat × Nat) := [(0, 9, 12, 37), (0, 9, 15, 15)]
theorem cw_append : Cond.codeWith yL_append cL_append 4 (some .int) hhL_append ∈ lwg := lwg_of (List.mem_of_getElem? (i := 770) (by decide +kernel)) (by decide +kernel)
set_option maxRecDepth 20000 in
set_option maxHeartbeats 2000000 in
theorem hL_append_0 {V : Wo} {μ : Mem} {q o d' : Nat} {x0 : Int} {r : Int} {P : Mem → Prop} (hcon : Con V d' yX4_append cX4_append 2 (some .int) [vR q, vI x0] μ (QIr V r P)) (hd' : d' + 1 ≤ 9) (hq : woS V q = some (.inl 4)) (ho : woS V o = some (.inr (1, 1))) (hob : woB V ≤ o) : LCon V yL_append cL_append 4 hhL_append [vR q, vI x0, vR o] μ (QIr V 0 (fun ν => ∃ ρ : Mem, P ρ ∧ ν = wr ρ o (s1 (ρ o) 0 (rI r)))) := by
  refine lcon_of (ls0 := [vR q, vI x0, vR o, vU]) (by decide +kernel) rfl (Nat.le_of_ble_eq_true rfl) (Nat.le_of_ble_eq_true rfl) (fun X hV C hF => ?_)
  subst hV
  have C : Ok X RL cL_append 4 9 := C
  obtain ⟨f1, fQ, ffl, ftb, ⟨fk, fn⟩, fc, fE⟩ := id hF
  refine r_aload_n C dL_append_0 rfl ?_
  refine r_iconst C dL_append_1 ?_
  refine r_aload_n C dL_append_2 rfl ?_
  refine r_iload_n C dL_append_3 rfl ?_
  refine r_runIr (fun aH aL aj a1 a2 a3 => run_V C ffl hcon lm_X4_append ml_L_45 im_X4_append se_X4_append hq rfl hd' dL_append_4 rfl (Nat.le_of_ble_eq_true rfl) a1 a2 a3) (fun ρ hρ => ?_)
  refine r_i2l0 C dL_append_7 ?_
  refine r_last C ho hob (by decide) (by decide) dL_append_8 ?_
  refine r_goto (tgt := 18) C dL_append_9 (by decide) ?_
  refine r_iconst C dL_append_18 ?_
  exact r_iretL C f1 fQ (by omega) (by omega) dL_append_19 ⟨ρ, hρ, by rw [i64_r (rI_r r)]⟩
set_option maxRecDepth 20000 in
set_option maxHeartbeats 2000000 in
theorem hL_append_1 {V : Wo} {μ : Mem} {q o : Nat} {x0 : Int} {P : Mem → Prop} (hcon : XCon V 8 yX4_append cX4_append 2 (some .int) [vR q, vI x0] μ eA P) (hq : woS V q = some (.inl 4)) : LCon V yL_append cL_append 4 hhL_append [vR q, vI x0, vR o] μ (QIr V 1 P) := by
  refine lcon_of (ls0 := [vR q, vI x0, vR o, vU]) (by decide +kernel) rfl (Nat.le_of_ble_eq_true rfl) (Nat.le_of_ble_eq_true rfl) (fun X hV C hF => ?_)
  subst hV
  have C : Ok X RL cL_append 4 9 := C
  obtain ⟨f1, fQ, ffl, ftb, ⟨fk, fn⟩, fc, fE⟩ := id hF
  refine r_aload_n C dL_append_0 rfl ?_
  refine r_iconst C dL_append_1 ?_
  refine r_aload_n C dL_append_2 rfl ?_
  refine r_iload_n C dL_append_3 rfl ?_
  refine r_catch (x := (0, 9, 12, 37)) C hF hcon lm_X4_append ml_L_45 im_X4_append se_X4_append hq dL_append_4 rfl (Nat.le_of_ble_eq_true rfl) [] [(0, 9, 15, 15)] rfl (fun z hz => by cases hz) (by decide) (by decide) hl_37 hc_A (fun ρ q9 hρ => ?_)
  have C : Ok (X1 X) RL cL_append 4 9 := ok_1 C (by omega) (by omega)
  refine r_astore_n C dL_append_12 (by decide) rfl ?_
  refine r_iconst C dL_append_13 ?_
  exact r_iretL C f1 fQ (by show xk X + 1 ≤ 1; omega) (by show xn X + 6 ≤ 6; omega) dL_append_14 hρ
set_option maxRecDepth 20000 in
set_option maxHeartbeats 2000000 in
theorem hL_append_2 {V : Wo} {μ : Mem} {q o : Nat} {x0 : Int} {P : Mem → Prop} (hcon : XCon V 8 yX4_append cX4_append 2 (some .int) [vR q, vI x0] μ eS P) (hq : woS V q = some (.inl 4)) : LCon V yL_append cL_append 4 hhL_append [vR q, vI x0, vR o] μ (QIr V 2 P) := by
  refine lcon_of (ls0 := [vR q, vI x0, vR o, vU]) (by decide +kernel) rfl (Nat.le_of_ble_eq_true rfl) (Nat.le_of_ble_eq_true rfl) (fun X hV C hF => ?_)
  subst hV
  have C : Ok X RL cL_append 4 9 := C
  obtain ⟨f1, fQ, ffl, ftb, ⟨fk, fn⟩, fc, fE⟩ := id hF
  refine r_aload_n C dL_append_0 rfl ?_
  refine r_iconst C dL_append_1 ?_
  refine r_aload_n C dL_append_2 rfl ?_
  refine r_iload_n C dL_append_3 rfl ?_
  refine r_catch (x := (0, 9, 15, 15)) C hF hcon lm_X4_append ml_L_45 im_X4_append se_X4_append hq dL_append_4 rfl (Nat.le_of_ble_eq_true rfl) [(0, 9, 12, 37)] [] rfl (fun z hz => by
    rcases List.mem_singleton.mp hz with rfl
    exact ⟨by decide, eA, hl_37, by decide⟩) (by decide) (by decide) hl_15 hc_S (fun ρ q9 hρ => ?_)
  have C : Ok (X1 X) RL cL_append 4 9 := ok_1 C (by omega) (by omega)
  refine r_astore_n C dL_append_15 (by decide) rfl ?_
  refine r_iconst C dL_append_16 ?_
  exact r_iretL C f1 fQ (by show xk X + 1 ≤ 1; omega) (by show xn X + 6 ≤ 6; omega) dL_append_17 hρ
abbrev hhL_work : List (Nat × Nat × Nat × Nat) := [(0, 8, 11, 37)]
theorem cw_work : Cond.codeWith yL_work cL_work 3 (some .int) hhL_work ∈ lwg := lwg_of (List.mem_of_getElem? (i := 779) (by decide +kernel)) (by decide +kernel)
set_option maxRecDepth 20000 in
set_option maxHeartbeats 2000000 in
theorem hL_work_0 {V : Wo} {μ : Mem} {q o d' : Nat} {r : Int} {P : Mem → Prop} (hcon : Con V d' yX4_work cX4_work 2 (some .int) [vR q] μ (QIr V r P)) (hd' : d' + 1 ≤ 9) (hq : woS V q = some (.inl 4)) (ho : woS V o = some (.inr (1, 1))) (hob : woB V ≤ o) : LCon V yL_work cL_work 3 hhL_work [vR q, vR o] μ (QIr V 0 (fun ν => ∃ ρ : Mem, P ρ ∧ ν = wr ρ o (s1 (ρ o) 0 (rI r)))) := by
  refine lcon_of (ls0 := [vR q, vR o, vU]) (by decide +kernel) rfl (Nat.le_of_ble_eq_true rfl) (Nat.le_of_ble_eq_true rfl) (fun X hV C hF => ?_)
  subst hV
  have C : Ok X RL cL_work 3 9 := C
  obtain ⟨f1, fQ, ffl, ftb, ⟨fk, fn⟩, fc, fE⟩ := id hF
  refine r_aload_n C dL_work_0 rfl ?_
  refine r_iconst C dL_work_1 ?_
  refine r_aload_n C dL_work_2 rfl ?_
  refine r_runIr (fun aH aL aj a1 a2 a3 => run_V C ffl hcon lm_X4_work ml_L_48 im_X4_work se_X4_work hq rfl hd' dL_work_3 rfl (Nat.le_of_ble_eq_true rfl) a1 a2 a3) (fun ρ hρ => ?_)
  refine r_i2l0 C dL_work_6 ?_
  refine r_last C ho hob (by decide) (by decide) dL_work_7 ?_
  refine r_goto (tgt := 14) C dL_work_8 (by decide) ?_
  refine r_iconst C dL_work_14 ?_
  exact r_iretL C f1 fQ (by omega) (by omega) dL_work_15 ⟨ρ, hρ, by rw [i64_r (rI_r r)]⟩
set_option maxRecDepth 20000 in
set_option maxHeartbeats 2000000 in
theorem hL_work_1 {V : Wo} {μ : Mem} {q o : Nat} {P : Mem → Prop} (hcon : XCon V 8 yX4_work cX4_work 2 (some .int) [vR q] μ eA P) (hq : woS V q = some (.inl 4)) : LCon V yL_work cL_work 3 hhL_work [vR q, vR o] μ (QIr V 1 P) := by
  refine lcon_of (ls0 := [vR q, vR o, vU]) (by decide +kernel) rfl (Nat.le_of_ble_eq_true rfl) (Nat.le_of_ble_eq_true rfl) (fun X hV C hF => ?_)
  subst hV
  have C : Ok X RL cL_work 3 9 := C
  obtain ⟨f1, fQ, ffl, ftb, ⟨fk, fn⟩, fc, fE⟩ := id hF
  refine r_aload_n C dL_work_0 rfl ?_
  refine r_iconst C dL_work_1 ?_
  refine r_aload_n C dL_work_2 rfl ?_
  refine r_catch (x := (0, 8, 11, 37)) C hF hcon lm_X4_work ml_L_48 im_X4_work se_X4_work hq dL_work_3 rfl (Nat.le_of_ble_eq_true rfl) [] [] rfl (fun z hz => by cases hz) (by decide) (by decide) hl_37 hc_A (fun ρ q9 hρ => ?_)
  have C : Ok (X1 X) RL cL_work 3 9 := ok_1 C (by omega) (by omega)
  refine r_astore_n C dL_work_11 (by decide) rfl ?_
  refine r_iconst C dL_work_12 ?_
  exact r_iretL C f1 fQ (by show xk X + 1 ≤ 1; omega) (by show xn X + 6 ≤ 6; omega) dL_work_13 hρ
abbrev hhL_goBack : List (Nat × Nat × Nat × Nat) := [(0, 8, 11, 15)]
theorem cw_goBack : Cond.codeWith yL_goBack cL_goBack 3 (some .int) hhL_goBack ∈ lwg := lwg_of (List.mem_of_getElem? (i := 800) (by decide +kernel)) (by decide +kernel)
set_option maxRecDepth 20000 in
set_option maxHeartbeats 2000000 in
theorem hL_goBack_0 {V : Wo} {μ : Mem} {q o d' : Nat} {r : Int} {P : Mem → Prop} (hcon : Con V d' yX4_goBack cX4_goBack 1 (some .int) [vR q] μ (QIr V r P)) (hd' : d' + 1 ≤ 9) (hq : woS V q = some (.inl 4)) (ho : woS V o = some (.inr (1, 1))) (hob : woB V ≤ o) : LCon V yL_goBack cL_goBack 3 hhL_goBack [vR q, vR o] μ (QIr V 0 (fun ν => ∃ ρ : Mem, P ρ ∧ ν = wr ρ o (s1 (ρ o) 0 (rI r)))) := by
  refine lcon_of (ls0 := [vR q, vR o, vU]) (by decide +kernel) rfl (Nat.le_of_ble_eq_true rfl) (Nat.le_of_ble_eq_true rfl) (fun X hV C hF => ?_)
  subst hV
  have C : Ok X RL cL_goBack 3 9 := C
  obtain ⟨f1, fQ, ffl, ftb, ⟨fk, fn⟩, fc, fE⟩ := id hF
  refine r_aload_n C dL_goBack_0 rfl ?_
  refine r_iconst C dL_goBack_1 ?_
  refine r_aload_n C dL_goBack_2 rfl ?_
  refine r_runIr (fun aH aL aj a1 a2 a3 => run_V C ffl hcon lm_X4_goBack ml_L_51 im_X4_goBack se_X4_goBack hq rfl hd' dL_goBack_3 rfl (Nat.le_of_ble_eq_true rfl) a1 a2 a3) (fun ρ hρ => ?_)
  refine r_i2l0 C dL_goBack_6 ?_
  refine r_last C ho hob (by decide) (by decide) dL_goBack_7 ?_
  refine r_goto (tgt := 14) C dL_goBack_8 (by decide) ?_
  refine r_iconst C dL_goBack_14 ?_
  exact r_iretL C f1 fQ (by omega) (by omega) dL_goBack_15 ⟨ρ, hρ, by rw [i64_r (rI_r r)]⟩
set_option maxRecDepth 20000 in
set_option maxHeartbeats 2000000 in
theorem hL_goBack_1 {V : Wo} {μ : Mem} {q o : Nat} {P : Mem → Prop} (hcon : XCon V 8 yX4_goBack cX4_goBack 1 (some .int) [vR q] μ eS P) (hq : woS V q = some (.inl 4)) : LCon V yL_goBack cL_goBack 3 hhL_goBack [vR q, vR o] μ (QIr V 1 P) := by
  refine lcon_of (ls0 := [vR q, vR o, vU]) (by decide +kernel) rfl (Nat.le_of_ble_eq_true rfl) (Nat.le_of_ble_eq_true rfl) (fun X hV C hF => ?_)
  subst hV
  have C : Ok X RL cL_goBack 3 9 := C
  obtain ⟨f1, fQ, ffl, ftb, ⟨fk, fn⟩, fc, fE⟩ := id hF
  refine r_aload_n C dL_goBack_0 rfl ?_
  refine r_iconst C dL_goBack_1 ?_
  refine r_aload_n C dL_goBack_2 rfl ?_
  refine r_catch (x := (0, 8, 11, 15)) C hF hcon lm_X4_goBack ml_L_51 im_X4_goBack se_X4_goBack hq dL_goBack_3 rfl (Nat.le_of_ble_eq_true rfl) [] [] rfl (fun z hz => by cases hz) (by decide) (by decide) hl_15 hc_S (fun ρ q9 hρ => ?_)
  have C : Ok (X1 X) RL cL_goBack 3 9 := ok_1 C (by omega) (by omega)
  refine r_astore_n C dL_goBack_11 (by decide) rfl ?_
  refine r_iconst C dL_goBack_12 ?_
  exact r_iretL C f1 fQ (by show xk X + 1 ≤ 1; omega) (by show xn X + 6 ≤ 6; omega) dL_goBack_13 hρ
abbrev hhL_undo : List (Nat × Nat × Nat × Nat) := [(0, 8, 11, 15)]
theorem cw_undo : Cond.codeWith yL_undo cL_undo 3 (some .int) hhL_undo ∈ lwg := lwg_of (List.mem_of_getElem? (i := 808) (by decide +kernel)) (by decide +kernel)
set_option maxRecDepth 20000 in
set_option maxHeartbeats 2000000 in
theorem hL_undo_0 {V : Wo} {μ : Mem} {q o d' : Nat} {r : Int} {P : Mem → Prop} (hcon : Con V d' yX4_undo cX4_undo 1 (some .int) [vR q] μ (QIr V r P)) (hd' : d' + 1 ≤ 9) (hq : woS V q = some (.inl 4)) (ho : woS V o = some (.inr (1, 1))) (hob : woB V ≤ o) : LCon V yL_undo cL_undo 3 hhL_undo [vR q, vR o] μ (QIr V 0 (fun ν => ∃ ρ : Mem, P ρ ∧ ν = wr ρ o (s1 (ρ o) 0 (rI r)))) := by
  refine lcon_of (ls0 := [vR q, vR o, vU]) (by decide +kernel) rfl (Nat.le_of_ble_eq_true rfl) (Nat.le_of_ble_eq_true rfl) (fun X hV C hF => ?_)
  subst hV
  have C : Ok X RL cL_undo 3 9 := C
  obtain ⟨f1, fQ, ffl, ftb, ⟨fk, fn⟩, fc, fE⟩ := id hF
  refine r_aload_n C dL_undo_0 rfl ?_
  refine r_iconst C dL_undo_1 ?_
  refine r_aload_n C dL_undo_2 rfl ?_
  refine r_runIr (fun aH aL aj a1 a2 a3 => run_V C ffl hcon lm_X4_undo ml_L_54 im_X4_undo se_X4_undo hq rfl hd' dL_undo_3 rfl (Nat.le_of_ble_eq_true rfl) a1 a2 a3) (fun ρ hρ => ?_)
  refine r_i2l0 C dL_undo_6 ?_
  refine r_last C ho hob (by decide) (by decide) dL_undo_7 ?_
  refine r_goto (tgt := 14) C dL_undo_8 (by decide) ?_
  refine r_iconst C dL_undo_14 ?_
  exact r_iretL C f1 fQ (by omega) (by omega) dL_undo_15 ⟨ρ, hρ, by rw [i64_r (rI_r r)]⟩
set_option maxRecDepth 20000 in
set_option maxHeartbeats 2000000 in
theorem hL_undo_1 {V : Wo} {μ : Mem} {q o : Nat} {P : Mem → Prop} (hcon : XCon V 8 yX4_undo cX4_undo 1 (some .int) [vR q] μ eS P) (hq : woS V q = some (.inl 4)) : LCon V yL_undo cL_undo 3 hhL_undo [vR q, vR o] μ (QIr V 1 P) := by
  refine lcon_of (ls0 := [vR q, vR o, vU]) (by decide +kernel) rfl (Nat.le_of_ble_eq_true rfl) (Nat.le_of_ble_eq_true rfl) (fun X hV C hF => ?_)
  subst hV
  have C : Ok X RL cL_undo 3 9 := C
  obtain ⟨f1, fQ, ffl, ftb, ⟨fk, fn⟩, fc, fE⟩ := id hF
  refine r_aload_n C dL_undo_0 rfl ?_
  refine r_iconst C dL_undo_1 ?_
  refine r_aload_n C dL_undo_2 rfl ?_
  refine r_catch (x := (0, 8, 11, 15)) C hF hcon lm_X4_undo ml_L_54 im_X4_undo se_X4_undo hq dL_undo_3 rfl (Nat.le_of_ble_eq_true rfl) [] [] rfl (fun z hz => by cases hz) (by decide) (by decide) hl_15 hc_S (fun ρ q9 hρ => ?_)
  have C : Ok (X1 X) RL cL_undo 3 9 := ok_1 C (by omega) (by omega)
  refine r_astore_n C dL_undo_11 (by decide) rfl ?_
  refine r_iconst C dL_undo_12 ?_
  exact r_iretL C f1 fQ (by show xk X + 1 ≤ 1; omega) (by show xn X + 6 ≤ 6; omega) dL_undo_13 hρ
abbrev hhL_sheet : List (Nat × Nat × Nat × Nat) := [(0, 10, 13, 13), (0, 10, 17, 37)]
theorem cw_sheet : Cond.codeWith yL_sheet cL_sheet 5 (some .int) hhL_sheet ∈ lwg := lwg_of (List.mem_of_getElem? (i := 820) (by decide +kernel)) (by decide +kernel)
set_option maxRecDepth 20000 in
set_option maxHeartbeats 2000000 in
theorem hL_sheet_0 {V : Wo} {μ : Mem} {q o d' : Nat} {x0 : Int} {x1 : Int} {r : Int} {P : Mem → Prop} (hcon : Con V d' yX4_sheet cX4_sheet 3 (some .int) [vR q, vI x0, vI x1] μ (QIr V r P)) (hd' : d' + 1 ≤ 9) (hq : woS V q = some (.inl 4)) (ho : woS V o = some (.inr (1, 1))) (hob : woB V ≤ o) : LCon V yL_sheet cL_sheet 5 hhL_sheet [vR q, vI x0, vI x1, vR o] μ (QIr V 0 (fun ν => ∃ ρ : Mem, P ρ ∧ ν = wr ρ o (s1 (ρ o) 0 (rI r)))) := by
  refine lcon_of (ls0 := [vR q, vI x0, vI x1, vR o, vU]) (by decide +kernel) rfl (Nat.le_of_ble_eq_true rfl) (Nat.le_of_ble_eq_true rfl) (fun X hV C hF => ?_)
  subst hV
  have C : Ok X RL cL_sheet 5 9 := C
  obtain ⟨f1, fQ, ffl, ftb, ⟨fk, fn⟩, fc, fE⟩ := id hF
  refine r_aload_n C dL_sheet_0 rfl ?_
  refine r_iconst C dL_sheet_1 ?_
  refine r_aload_n C dL_sheet_2 rfl ?_
  refine r_iload_n C dL_sheet_3 rfl ?_
  refine r_iload_n C dL_sheet_4 rfl ?_
  refine r_runIr (fun aH aL aj a1 a2 a3 => run_V C ffl hcon lm_X4_sheet ml_L_57 im_X4_sheet se_X4_sheet hq rfl hd' dL_sheet_5 rfl (Nat.le_of_ble_eq_true rfl) a1 a2 a3) (fun ρ hρ => ?_)
  refine r_i2l0 C dL_sheet_8 ?_
  refine r_last C ho hob (by decide) (by decide) dL_sheet_9 ?_
  refine r_goto (tgt := 21) C dL_sheet_10 (by decide) ?_
  refine r_iconst C dL_sheet_21 ?_
  exact r_iretL C f1 fQ (by omega) (by omega) dL_sheet_22 ⟨ρ, hρ, by rw [i64_r (rI_r r)]⟩
set_option maxRecDepth 20000 in
set_option maxHeartbeats 2000000 in
theorem hL_sheet_1 {V : Wo} {μ : Mem} {q o : Nat} {x0 : Int} {x1 : Int} {P : Mem → Prop} (hcon : XCon V 8 yX4_sheet cX4_sheet 3 (some .int) [vR q, vI x0, vI x1] μ eX P) (hq : woS V q = some (.inl 4)) : LCon V yL_sheet cL_sheet 5 hhL_sheet [vR q, vI x0, vI x1, vR o] μ (QIr V 1 P) := by
  refine lcon_of (ls0 := [vR q, vI x0, vI x1, vR o, vU]) (by decide +kernel) rfl (Nat.le_of_ble_eq_true rfl) (Nat.le_of_ble_eq_true rfl) (fun X hV C hF => ?_)
  subst hV
  have C : Ok X RL cL_sheet 5 9 := C
  obtain ⟨f1, fQ, ffl, ftb, ⟨fk, fn⟩, fc, fE⟩ := id hF
  refine r_aload_n C dL_sheet_0 rfl ?_
  refine r_iconst C dL_sheet_1 ?_
  refine r_aload_n C dL_sheet_2 rfl ?_
  refine r_iload_n C dL_sheet_3 rfl ?_
  refine r_iload_n C dL_sheet_4 rfl ?_
  refine r_catch (x := (0, 10, 13, 13)) C hF hcon lm_X4_sheet ml_L_57 im_X4_sheet se_X4_sheet hq dL_sheet_5 rfl (Nat.le_of_ble_eq_true rfl) [] [(0, 10, 17, 37)] rfl (fun z hz => by cases hz) (by decide) (by decide) hl_13 hc_X (fun ρ q9 hρ => ?_)
  have C : Ok (X1 X) RL cL_sheet 5 9 := ok_1 C (by omega) (by omega)
  refine r_astore C dL_sheet_13 (by decide) rfl ?_
  refine r_iconst C dL_sheet_15 ?_
  exact r_iretL C f1 fQ (by show xk X + 1 ≤ 1; omega) (by show xn X + 6 ≤ 6; omega) dL_sheet_16 hρ
set_option maxRecDepth 20000 in
set_option maxHeartbeats 2000000 in
theorem hL_sheet_2 {V : Wo} {μ : Mem} {q o : Nat} {x0 : Int} {x1 : Int} {P : Mem → Prop} (hcon : XCon V 8 yX4_sheet cX4_sheet 3 (some .int) [vR q, vI x0, vI x1] μ eA P) (hq : woS V q = some (.inl 4)) : LCon V yL_sheet cL_sheet 5 hhL_sheet [vR q, vI x0, vI x1, vR o] μ (QIr V 2 P) := by
  refine lcon_of (ls0 := [vR q, vI x0, vI x1, vR o, vU]) (by decide +kernel) rfl (Nat.le_of_ble_eq_true rfl) (Nat.le_of_ble_eq_true rfl) (fun X hV C hF => ?_)
  subst hV
  have C : Ok X RL cL_sheet 5 9 := C
  obtain ⟨f1, fQ, ffl, ftb, ⟨fk, fn⟩, fc, fE⟩ := id hF
  refine r_aload_n C dL_sheet_0 rfl ?_
  refine r_iconst C dL_sheet_1 ?_
  refine r_aload_n C dL_sheet_2 rfl ?_
  refine r_iload_n C dL_sheet_3 rfl ?_
  refine r_iload_n C dL_sheet_4 rfl ?_
  refine r_catch (x := (0, 10, 17, 37)) C hF hcon lm_X4_sheet ml_L_57 im_X4_sheet se_X4_sheet hq dL_sheet_5 rfl (Nat.le_of_ble_eq_true rfl) [(0, 10, 13, 13)] [] rfl (fun z hz => by
    rcases List.mem_singleton.mp hz with rfl
    exact ⟨by decide, eX, hl_13, by decide⟩) (by decide) (by decide) hl_37 hc_A (fun ρ q9 hρ => ?_)
  have C : Ok (X1 X) RL cL_sheet 5 9 := ok_1 C (by omega) (by omega)
  refine r_astore C dL_sheet_17 (by decide) rfl ?_
  refine r_iconst C dL_sheet_19 ?_
  exact r_iretL C f1 fQ (by show xk X + 1 ≤ 1; omega) (by show xn X + 6 ≤ 6; omega) dL_sheet_20 hρ
abbrev hhL_bin : List (Nat × Nat × Nat × Nat) := [(0, 10, 13, 13), (0, 10, 17, 37)]
theorem cw_bin : Cond.codeWith yL_bin cL_bin 5 (some .int) hhL_bin ∈ lwg := lwg_of (List.mem_of_getElem? (i := 824) (by decide +kernel)) (by decide +kernel)
set_option maxRecDepth 20000 in
set_option maxHeartbeats 2000000 in
theorem hL_bin_0 {V : Wo} {μ : Mem} {q o d' : Nat} {x0 : Int} {x1 : Int} {r : Int} {P : Mem → Prop} (hcon : Con V d' yX4_bin cX4_bin 3 (some .int) [vR q, vI x0, vI x1] μ (QIr V r P)) (hd' : d' + 1 ≤ 9) (hq : woS V q = some (.inl 4)) (ho : woS V o = some (.inr (1, 1))) (hob : woB V ≤ o) : LCon V yL_bin cL_bin 5 hhL_bin [vR q, vI x0, vI x1, vR o] μ (QIr V 0 (fun ν => ∃ ρ : Mem, P ρ ∧ ν = wr ρ o (s1 (ρ o) 0 (rI r)))) := by
  refine lcon_of (ls0 := [vR q, vI x0, vI x1, vR o, vU]) (by decide +kernel) rfl (Nat.le_of_ble_eq_true rfl) (Nat.le_of_ble_eq_true rfl) (fun X hV C hF => ?_)
  subst hV
  have C : Ok X RL cL_bin 5 9 := C
  obtain ⟨f1, fQ, ffl, ftb, ⟨fk, fn⟩, fc, fE⟩ := id hF
  refine r_aload_n C dL_bin_0 rfl ?_
  refine r_iconst C dL_bin_1 ?_
  refine r_aload_n C dL_bin_2 rfl ?_
  refine r_iload_n C dL_bin_3 rfl ?_
  refine r_iload_n C dL_bin_4 rfl ?_
  refine r_runIr (fun aH aL aj a1 a2 a3 => run_V C ffl hcon lm_X4_bin ml_L_60 im_X4_bin se_X4_bin hq rfl hd' dL_bin_5 rfl (Nat.le_of_ble_eq_true rfl) a1 a2 a3) (fun ρ hρ => ?_)
  refine r_i2l0 C dL_bin_8 ?_
  refine r_last C ho hob (by decide) (by decide) dL_bin_9 ?_
  refine r_goto (tgt := 21) C dL_bin_10 (by decide) ?_
  refine r_iconst C dL_bin_21 ?_
  exact r_iretL C f1 fQ (by omega) (by omega) dL_bin_22 ⟨ρ, hρ, by rw [i64_r (rI_r r)]⟩
set_option maxRecDepth 20000 in
set_option maxHeartbeats 2000000 in
theorem hL_bin_1 {V : Wo} {μ : Mem} {q o : Nat} {x0 : Int} {x1 : Int} {P : Mem → Prop} (hcon : XCon V 8 yX4_bin cX4_bin 3 (some .int) [vR q, vI x0, vI x1] μ eX P) (hq : woS V q = some (.inl 4)) : LCon V yL_bin cL_bin 5 hhL_bin [vR q, vI x0, vI x1, vR o] μ (QIr V 1 P) := by
  refine lcon_of (ls0 := [vR q, vI x0, vI x1, vR o, vU]) (by decide +kernel) rfl (Nat.le_of_ble_eq_true rfl) (Nat.le_of_ble_eq_true rfl) (fun X hV C hF => ?_)
  subst hV
  have C : Ok X RL cL_bin 5 9 := C
  obtain ⟨f1, fQ, ffl, ftb, ⟨fk, fn⟩, fc, fE⟩ := id hF
  refine r_aload_n C dL_bin_0 rfl ?_
  refine r_iconst C dL_bin_1 ?_
  refine r_aload_n C dL_bin_2 rfl ?_
  refine r_iload_n C dL_bin_3 rfl ?_
  refine r_iload_n C dL_bin_4 rfl ?_
  refine r_catch (x := (0, 10, 13, 13)) C hF hcon lm_X4_bin ml_L_60 im_X4_bin se_X4_bin hq dL_bin_5 rfl (Nat.le_of_ble_eq_true rfl) [] [(0, 10, 17, 37)] rfl (fun z hz => by cases hz) (by decide) (by decide) hl_13 hc_X (fun ρ q9 hρ => ?_)
  have C : Ok (X1 X) RL cL_bin 5 9 := ok_1 C (by omega) (by omega)
  refine r_astore C dL_bin_13 (by decide) rfl ?_
  refine r_iconst C dL_bin_15 ?_
  exact r_iretL C f1 fQ (by show xk X + 1 ≤ 1; omega) (by show xn X + 6 ≤ 6; omega) dL_bin_16 hρ
set_option maxRecDepth 20000 in
set_option maxHeartbeats 2000000 in
theorem hL_bin_2 {V : Wo} {μ : Mem} {q o : Nat} {x0 : Int} {x1 : Int} {P : Mem → Prop} (hcon : XCon V 8 yX4_bin cX4_bin 3 (some .int) [vR q, vI x0, vI x1] μ eA P) (hq : woS V q = some (.inl 4)) : LCon V yL_bin cL_bin 5 hhL_bin [vR q, vI x0, vI x1, vR o] μ (QIr V 2 P) := by
  refine lcon_of (ls0 := [vR q, vI x0, vI x1, vR o, vU]) (by decide +kernel) rfl (Nat.le_of_ble_eq_true rfl) (Nat.le_of_ble_eq_true rfl) (fun X hV C hF => ?_)
  subst hV
  have C : Ok X RL cL_bin 5 9 := C
  obtain ⟨f1, fQ, ffl, ftb, ⟨fk, fn⟩, fc, fE⟩ := id hF
  refine r_aload_n C dL_bin_0 rfl ?_
  refine r_iconst C dL_bin_1 ?_
  refine r_aload_n C dL_bin_2 rfl ?_
  refine r_iload_n C dL_bin_3 rfl ?_
  refine r_iload_n C dL_bin_4 rfl ?_
  refine r_catch (x := (0, 10, 17, 37)) C hF hcon lm_X4_bin ml_L_60 im_X4_bin se_X4_bin hq dL_bin_5 rfl (Nat.le_of_ble_eq_true rfl) [(0, 10, 13, 13)] [] rfl (fun z hz => by
    rcases List.mem_singleton.mp hz with rfl
    exact ⟨by decide, eX, hl_13, by decide⟩) (by decide) (by decide) hl_37 hc_A (fun ρ q9 hρ => ?_)
  have C : Ok (X1 X) RL cL_bin 5 9 := ok_1 C (by omega) (by omega)
  refine r_astore C dL_bin_17 (by decide) rfl ?_
  refine r_iconst C dL_bin_19 ?_
  exact r_iretL C f1 fQ (by show xk X + 1 ≤ 1; omega) (by show xn X + 6 ≤ 6; omega) dL_bin_20 hρ
abbrev hhL_count : List (Nat × Nat × Nat × Nat) := [(0, 9, 12, 37)]
theorem cw_count : Cond.codeWith yL_count cL_count 4 (some .int) hhL_count ∈ lwg := lwg_of (List.mem_of_getElem? (i := 828) (by decide +kernel)) (by decide +kernel)
set_option maxRecDepth 20000 in
set_option maxHeartbeats 2000000 in
theorem hL_count_0 {V : Wo} {μ : Mem} {q o d' : Nat} {x0 : Int} {r : Int} {P : Mem → Prop} (hcon : Con V d' yX4_count cX4_count 2 (some .int) [vR q, vI x0] μ (QIr V r P)) (hd' : d' + 1 ≤ 9) (hq : woS V q = some (.inl 4)) (ho : woS V o = some (.inr (1, 1))) (hob : woB V ≤ o) : LCon V yL_count cL_count 4 hhL_count [vR q, vI x0, vR o] μ (QIr V 0 (fun ν => ∃ ρ : Mem, P ρ ∧ ν = wr ρ o (s1 (ρ o) 0 (rI r)))) := by
  refine lcon_of (ls0 := [vR q, vI x0, vR o, vU]) (by decide +kernel) rfl (Nat.le_of_ble_eq_true rfl) (Nat.le_of_ble_eq_true rfl) (fun X hV C hF => ?_)
  subst hV
  have C : Ok X RL cL_count 4 9 := C
  obtain ⟨f1, fQ, ffl, ftb, ⟨fk, fn⟩, fc, fE⟩ := id hF
  refine r_aload_n C dL_count_0 rfl ?_
  refine r_iconst C dL_count_1 ?_
  refine r_aload_n C dL_count_2 rfl ?_
  refine r_iload_n C dL_count_3 rfl ?_
  refine r_runIr (fun aH aL aj a1 a2 a3 => run_V C ffl hcon lm_X4_count ml_L_63 im_X4_count se_X4_count hq rfl hd' dL_count_4 rfl (Nat.le_of_ble_eq_true rfl) a1 a2 a3) (fun ρ hρ => ?_)
  refine r_i2l0 C dL_count_7 ?_
  refine r_last C ho hob (by decide) (by decide) dL_count_8 ?_
  refine r_goto (tgt := 15) C dL_count_9 (by decide) ?_
  refine r_iconst C dL_count_15 ?_
  exact r_iretL C f1 fQ (by omega) (by omega) dL_count_16 ⟨ρ, hρ, by rw [i64_r (rI_r r)]⟩
set_option maxRecDepth 20000 in
set_option maxHeartbeats 2000000 in
theorem hL_count_1 {V : Wo} {μ : Mem} {q o : Nat} {x0 : Int} {P : Mem → Prop} (hcon : XCon V 8 yX4_count cX4_count 2 (some .int) [vR q, vI x0] μ eA P) (hq : woS V q = some (.inl 4)) : LCon V yL_count cL_count 4 hhL_count [vR q, vI x0, vR o] μ (QIr V 1 P) := by
  refine lcon_of (ls0 := [vR q, vI x0, vR o, vU]) (by decide +kernel) rfl (Nat.le_of_ble_eq_true rfl) (Nat.le_of_ble_eq_true rfl) (fun X hV C hF => ?_)
  subst hV
  have C : Ok X RL cL_count 4 9 := C
  obtain ⟨f1, fQ, ffl, ftb, ⟨fk, fn⟩, fc, fE⟩ := id hF
  refine r_aload_n C dL_count_0 rfl ?_
  refine r_iconst C dL_count_1 ?_
  refine r_aload_n C dL_count_2 rfl ?_
  refine r_iload_n C dL_count_3 rfl ?_
  refine r_catch (x := (0, 9, 12, 37)) C hF hcon lm_X4_count ml_L_63 im_X4_count se_X4_count hq dL_count_4 rfl (Nat.le_of_ble_eq_true rfl) [] [] rfl (fun z hz => by cases hz) (by decide) (by decide) hl_37 hc_A (fun ρ q9 hρ => ?_)
  have C : Ok (X1 X) RL cL_count 4 9 := ok_1 C (by omega) (by omega)
  refine r_astore_n C dL_count_12 (by decide) rfl ?_
  refine r_iconst C dL_count_13 ?_
  exact r_iretL C f1 fQ (by show xk X + 1 ≤ 1; omega) (by show xn X + 6 ≤ 6; omega) dL_count_14 hρ
abbrev hhL_setting : List (Nat × Nat × Nat × Nat) := [(0, 9, 12, 13)]
theorem cw_setting : Cond.codeWith yL_setting cL_setting 4 (some .int) hhL_setting ∈ lwg := lwg_of (List.mem_of_getElem? (i := 832) (by decide +kernel)) (by decide +kernel)
set_option maxRecDepth 20000 in
set_option maxHeartbeats 2000000 in
theorem hL_setting_0 {V : Wo} {μ : Mem} {q o d' : Nat} {x0 : Int} {r : Int} {P : Mem → Prop} (hcon : Con V d' yX4_setting cX4_setting 2 (some .int) [vR q, vI x0] μ (QIr V r P)) (hd' : d' + 1 ≤ 9) (hq : woS V q = some (.inl 4)) (ho : woS V o = some (.inr (1, 1))) (hob : woB V ≤ o) : LCon V yL_setting cL_setting 4 hhL_setting [vR q, vI x0, vR o] μ (QIr V 0 (fun ν => ∃ ρ : Mem, P ρ ∧ ν = wr ρ o (s1 (ρ o) 0 (rI r)))) := by
  refine lcon_of (ls0 := [vR q, vI x0, vR o, vU]) (by decide +kernel) rfl (Nat.le_of_ble_eq_true rfl) (Nat.le_of_ble_eq_true rfl) (fun X hV C hF => ?_)
  subst hV
  have C : Ok X RL cL_setting 4 9 := C
  obtain ⟨f1, fQ, ffl, ftb, ⟨fk, fn⟩, fc, fE⟩ := id hF
  refine r_aload_n C dL_setting_0 rfl ?_
  refine r_iconst C dL_setting_1 ?_
  refine r_aload_n C dL_setting_2 rfl ?_
  refine r_iload_n C dL_setting_3 rfl ?_
  refine r_runIr (fun aH aL aj a1 a2 a3 => run_V C ffl hcon lm_X4_setting ml_L_66 im_X4_setting se_X4_setting hq rfl hd' dL_setting_4 rfl (Nat.le_of_ble_eq_true rfl) a1 a2 a3) (fun ρ hρ => ?_)
  refine r_i2l0 C dL_setting_7 ?_
  refine r_last C ho hob (by decide) (by decide) dL_setting_8 ?_
  refine r_goto (tgt := 15) C dL_setting_9 (by decide) ?_
  refine r_iconst C dL_setting_15 ?_
  exact r_iretL C f1 fQ (by omega) (by omega) dL_setting_16 ⟨ρ, hρ, by rw [i64_r (rI_r r)]⟩
set_option maxRecDepth 20000 in
set_option maxHeartbeats 2000000 in
theorem hL_setting_1 {V : Wo} {μ : Mem} {q o : Nat} {x0 : Int} {P : Mem → Prop} (hcon : XCon V 8 yX4_setting cX4_setting 2 (some .int) [vR q, vI x0] μ eX P) (hq : woS V q = some (.inl 4)) : LCon V yL_setting cL_setting 4 hhL_setting [vR q, vI x0, vR o] μ (QIr V 1 P) := by
  refine lcon_of (ls0 := [vR q, vI x0, vR o, vU]) (by decide +kernel) rfl (Nat.le_of_ble_eq_true rfl) (Nat.le_of_ble_eq_true rfl) (fun X hV C hF => ?_)
  subst hV
  have C : Ok X RL cL_setting 4 9 := C
  obtain ⟨f1, fQ, ffl, ftb, ⟨fk, fn⟩, fc, fE⟩ := id hF
  refine r_aload_n C dL_setting_0 rfl ?_
  refine r_iconst C dL_setting_1 ?_
  refine r_aload_n C dL_setting_2 rfl ?_
  refine r_iload_n C dL_setting_3 rfl ?_
  refine r_catch (x := (0, 9, 12, 13)) C hF hcon lm_X4_setting ml_L_66 im_X4_setting se_X4_setting hq dL_setting_4 rfl (Nat.le_of_ble_eq_true rfl) [] [] rfl (fun z hz => by cases hz) (by decide) (by decide) hl_13 hc_X (fun ρ q9 hρ => ?_)
  have C : Ok (X1 X) RL cL_setting 4 9 := ok_1 C (by omega) (by omega)
  refine r_astore_n C dL_setting_12 (by decide) rfl ?_
  refine r_iconst C dL_setting_13 ?_
  exact r_iretL C f1 fQ (by show xk X + 1 ≤ 1; omega) (by show xn X + 6 ≤ 6; omega) dL_setting_14 hρ
abbrev hhL_ifPulled : List (Nat × Nat × Nat × Nat) := [(0, 10, 13, 13), (0, 10, 17, 37)]
theorem cw_ifPulled : Cond.codeWith yL_ifPulled cL_ifPulled 5 (some .int) hhL_ifPulled ∈ lwg := lwg_of (List.mem_of_getElem? (i := 839) (by decide +kernel)) (by decide +kernel)
set_option maxRecDepth 20000 in
set_option maxHeartbeats 2000000 in
theorem hL_ifPulled_0 {V : Wo} {μ : Mem} {q o d' : Nat} {x0 : Int} {x1 : Int} {r : Int} {P : Mem → Prop} (hcon : Con V d' yX4_ifPulled cX4_ifPulled 3 (some .int) [vR q, vI x0, vI x1] μ (QIr V r P)) (hd' : d' + 1 ≤ 9) (hq : woS V q = some (.inl 4)) (ho : woS V o = some (.inr (1, 1))) (hob : woB V ≤ o) : LCon V yL_ifPulled cL_ifPulled 5 hhL_ifPulled [vR q, vI x0, vI x1, vR o] μ (QIr V 0 (fun ν => ∃ ρ : Mem, P ρ ∧ ν = wr ρ o (s1 (ρ o) 0 (rI r)))) := by
  refine lcon_of (ls0 := [vR q, vI x0, vI x1, vR o, vU]) (by decide +kernel) rfl (Nat.le_of_ble_eq_true rfl) (Nat.le_of_ble_eq_true rfl) (fun X hV C hF => ?_)
  subst hV
  have C : Ok X RL cL_ifPulled 5 9 := C
  obtain ⟨f1, fQ, ffl, ftb, ⟨fk, fn⟩, fc, fE⟩ := id hF
  refine r_aload_n C dL_ifPulled_0 rfl ?_
  refine r_iconst C dL_ifPulled_1 ?_
  refine r_aload_n C dL_ifPulled_2 rfl ?_
  refine r_iload_n C dL_ifPulled_3 rfl ?_
  refine r_iload_n C dL_ifPulled_4 rfl ?_
  refine r_runIr (fun aH aL aj a1 a2 a3 => run_V C ffl hcon lm_X4_ifPulled ml_L_69 im_X4_ifPulled se_X4_ifPulled hq rfl hd' dL_ifPulled_5 rfl (Nat.le_of_ble_eq_true rfl) a1 a2 a3) (fun ρ hρ => ?_)
  refine r_i2l0 C dL_ifPulled_8 ?_
  refine r_last C ho hob (by decide) (by decide) dL_ifPulled_9 ?_
  refine r_goto (tgt := 21) C dL_ifPulled_10 (by decide) ?_
  refine r_iconst C dL_ifPulled_21 ?_
  exact r_iretL C f1 fQ (by omega) (by omega) dL_ifPulled_22 ⟨ρ, hρ, by rw [i64_r (rI_r r)]⟩
set_option maxRecDepth 20000 in
set_option maxHeartbeats 2000000 in
theorem hL_ifPulled_1 {V : Wo} {μ : Mem} {q o : Nat} {x0 : Int} {x1 : Int} {P : Mem → Prop} (hcon : XCon V 8 yX4_ifPulled cX4_ifPulled 3 (some .int) [vR q, vI x0, vI x1] μ eX P) (hq : woS V q = some (.inl 4)) : LCon V yL_ifPulled cL_ifPulled 5 hhL_ifPulled [vR q, vI x0, vI x1, vR o] μ (QIr V 1 P) := by
  refine lcon_of (ls0 := [vR q, vI x0, vI x1, vR o, vU]) (by decide +kernel) rfl (Nat.le_of_ble_eq_true rfl) (Nat.le_of_ble_eq_true rfl) (fun X hV C hF => ?_)
  subst hV
  have C : Ok X RL cL_ifPulled 5 9 := C
  obtain ⟨f1, fQ, ffl, ftb, ⟨fk, fn⟩, fc, fE⟩ := id hF
  refine r_aload_n C dL_ifPulled_0 rfl ?_
  refine r_iconst C dL_ifPulled_1 ?_
  refine r_aload_n C dL_ifPulled_2 rfl ?_
  refine r_iload_n C dL_ifPulled_3 rfl ?_
  refine r_iload_n C dL_ifPulled_4 rfl ?_
  refine r_catch (x := (0, 10, 13, 13)) C hF hcon lm_X4_ifPulled ml_L_69 im_X4_ifPulled se_X4_ifPulled hq dL_ifPulled_5 rfl (Nat.le_of_ble_eq_true rfl) [] [(0, 10, 17, 37)] rfl (fun z hz => by cases hz) (by decide) (by decide) hl_13 hc_X (fun ρ q9 hρ => ?_)
  have C : Ok (X1 X) RL cL_ifPulled 5 9 := ok_1 C (by omega) (by omega)
  refine r_astore C dL_ifPulled_13 (by decide) rfl ?_
  refine r_iconst C dL_ifPulled_15 ?_
  exact r_iretL C f1 fQ (by show xk X + 1 ≤ 1; omega) (by show xn X + 6 ≤ 6; omega) dL_ifPulled_16 hρ
set_option maxRecDepth 20000 in
set_option maxHeartbeats 2000000 in
theorem hL_ifPulled_2 {V : Wo} {μ : Mem} {q o : Nat} {x0 : Int} {x1 : Int} {P : Mem → Prop} (hcon : XCon V 8 yX4_ifPulled cX4_ifPulled 3 (some .int) [vR q, vI x0, vI x1] μ eA P) (hq : woS V q = some (.inl 4)) : LCon V yL_ifPulled cL_ifPulled 5 hhL_ifPulled [vR q, vI x0, vI x1, vR o] μ (QIr V 2 P) := by
  refine lcon_of (ls0 := [vR q, vI x0, vI x1, vR o, vU]) (by decide +kernel) rfl (Nat.le_of_ble_eq_true rfl) (Nat.le_of_ble_eq_true rfl) (fun X hV C hF => ?_)
  subst hV
  have C : Ok X RL cL_ifPulled 5 9 := C
  obtain ⟨f1, fQ, ffl, ftb, ⟨fk, fn⟩, fc, fE⟩ := id hF
  refine r_aload_n C dL_ifPulled_0 rfl ?_
  refine r_iconst C dL_ifPulled_1 ?_
  refine r_aload_n C dL_ifPulled_2 rfl ?_
  refine r_iload_n C dL_ifPulled_3 rfl ?_
  refine r_iload_n C dL_ifPulled_4 rfl ?_
  refine r_catch (x := (0, 10, 17, 37)) C hF hcon lm_X4_ifPulled ml_L_69 im_X4_ifPulled se_X4_ifPulled hq dL_ifPulled_5 rfl (Nat.le_of_ble_eq_true rfl) [(0, 10, 13, 13)] [] rfl (fun z hz => by
    rcases List.mem_singleton.mp hz with rfl
    exact ⟨by decide, eX, hl_13, by decide⟩) (by decide) (by decide) hl_37 hc_A (fun ρ q9 hρ => ?_)
  have C : Ok (X1 X) RL cL_ifPulled 5 9 := ok_1 C (by omega) (by omega)
  refine r_astore C dL_ifPulled_17 (by decide) rfl ?_
  refine r_iconst C dL_ifPulled_19 ?_
  exact r_iretL C f1 fQ (by show xk X + 1 ≤ 1; omega) (by show xn X + 6 ≤ 6; omega) dL_ifPulled_20 hρ
