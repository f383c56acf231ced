def iUshr (x y : Int) : Int := (((Int32.ofInt x).toUInt32 >>> ((Int32.ofInt y).toUInt32 &&& Int32.toUInt32 31)).toInt32).toInt
section RJ
variable {X : Cx} {own : String} {cc : ByteArray} {nL d : Nat} {μ : Mem} {pc : Nat} {ls st : List AV}
theorem r_iushr (C : Ok X own cc nL d) {x y : Int} (hd : decode cc pc = .ok (.iushr, 1)) (k : RR X μ (pc + 1) ls (vI (iUshr x y) :: st)) : RR X μ pc ls (vI y :: vI x :: st) := fun H locs jl h1 h2 h3 => lv_iushr C.1 C.2.1 hd (by show _ = Int32.ofInt (iUshr x y); rw [iUshr, oi_of]) (k H locs jl h1 h2 h3)
theorem r_ldcw (C : Ok X own cc nL d) {idx : Nat} {v : Int32} {x : Int} (hm : Cond.constant own idx v ∈ lwg) (hv : Int32.ofInt x = v) (hd : decode cc pc = .ok (.ldc_w idx, 3)) (k : RR X μ (pc + 3) ls (vI x :: st)) : RR X μ pc ls st := fun H locs jl h1 h2 h3 => by
  subst hv
  exact lv_ldcw C.1 C.2.1 C.2.2.2.1 (C.2.2.2.2.1 _ hm) hd (k H locs jl h1 h2 h3)
end RJ
def bq1 (x : Int) : Int := (x - (iAnd (iUshr x 1) 1431655765))
def bq2 (x : Int) : Int := ((iAnd (bq1 x) 858993459) + (iAnd (iUshr (bq1 x) 2) 858993459))
def bq3 (x : Int) : Int := (iAnd ((bq2 x) + (iUshr (bq2 x) 4)) 252645135)
def bq4 (x : Int) : Int := ((bq3 x) + (iUshr (bq3 x) 8))
def bq5 (x : Int) : Int := ((bq4 x) + (iUshr (bq4 x) 16))
theorem bq_all : ∀ m : Fin 32, (fun x : Int => (iAnd (bq5 x) 63)) ((m : Nat) : Int) = bc ((m : Nat) : Int) := by decide +kernel
set_option maxRecDepth 20000 in
set_option maxHeartbeats 2000000 in
theorem kJ6_bitCount {V : Wo} {μ : Mem} {x : Int} (hx : 0 ≤ x) (hx2 : x < 32) : Con V 1 yJ6_bitCount_0f7a4 cJ6_bitCount_0f7a4 1 (some .int) [vI x] μ (QI V (bc x) μ) := by
  refine con_of (ls0 := [vI x]) (by decide +kernel) rfl (Nat.le_of_ble_eq_true rfl) (Nat.le_of_ble_eq_true rfl) (fun X hV C hF => ?_)
  subst hV
  have C : Ok X RJ6 cJ6_bitCount_0f7a4 1 1 := C
  refine r_iload_n C dJ6_bitCount_0f7a4_0 rfl ?_
  refine r_iload_n C dJ6_bitCount_0f7a4_1 rfl ?_
  refine r_iconst C dJ6_bitCount_0f7a4_2 ?_
  refine r_iushr C dJ6_bitCount_0f7a4_3 ?_
  refine r_ldcw (x := 1431655765) C kc_J6_265 rfl dJ6_bitCount_0f7a4_4 ?_
  refine r_iand C dJ6_bitCount_0f7a4_7 ?_
  refine r_isub C dJ6_bitCount_0f7a4_8 ?_
  refine r_istore_n C dJ6_bitCount_0f7a4_9 (by decide) rfl ?_
  refine r_loc (ls' := [vI (bq1 x)]) ?_ rfl
  refine r_iload_n C dJ6_bitCount_0f7a4_10 rfl ?_
  refine r_ldcw (x := 858993459) C kc_J6_266 rfl dJ6_bitCount_0f7a4_11 ?_
  refine r_iand C dJ6_bitCount_0f7a4_14 ?_
  refine r_iload_n C dJ6_bitCount_0f7a4_15 rfl ?_
  refine r_iconst C dJ6_bitCount_0f7a4_16 ?_
  refine r_iushr C dJ6_bitCount_0f7a4_17 ?_
  refine r_ldcw (x := 858993459) C kc_J6_266 rfl dJ6_bitCount_0f7a4_18 ?_
  refine r_iand C dJ6_bitCount_0f7a4_21 ?_
  refine r_iadd C dJ6_bitCount_0f7a4_22 ?_
  refine r_istore_n C dJ6_bitCount_0f7a4_23 (by decide) rfl ?_
  refine r_loc (ls' := [vI (bq2 x)]) ?_ rfl
  refine r_iload_n C dJ6_bitCount_0f7a4_24 rfl ?_
  refine r_iload_n C dJ6_bitCount_0f7a4_25 rfl ?_
  refine r_iconst C dJ6_bitCount_0f7a4_26 ?_
  refine r_iushr C dJ6_bitCount_0f7a4_27 ?_
  refine r_iadd C dJ6_bitCount_0f7a4_28 ?_
  refine r_ldcw (x := 252645135) C kc_J6_267 rfl dJ6_bitCount_0f7a4_29 ?_
  refine r_iand C dJ6_bitCount_0f7a4_32 ?_
  refine r_istore_n C dJ6_bitCount_0f7a4_33 (by decide) rfl ?_
  refine r_loc (ls' := [vI (bq3 x)]) ?_ rfl
  refine r_iload_n C dJ6_bitCount_0f7a4_34 rfl ?_
  refine r_iload_n C dJ6_bitCount_0f7a4_35 rfl ?_
  refine r_bipush C dJ6_bitCount_0f7a4_36 rfl ?_
  refine r_iushr C dJ6_bitCount_0f7a4_38 ?_
  refine r_iadd C dJ6_bitCount_0f7a4_39 ?_
  refine r_istore_n C dJ6_bitCount_0f7a4_40 (by decide) rfl ?_
  refine r_loc (ls' := [vI (bq4 x)]) ?_ rfl
  refine r_iload_n C dJ6_bitCount_0f7a4_41 rfl ?_
  refine r_iload_n C dJ6_bitCount_0f7a4_42 rfl ?_
  refine r_bipush C dJ6_bitCount_0f7a4_43 rfl ?_
  refine r_iushr C dJ6_bitCount_0f7a4_45 ?_
  refine r_iadd C dJ6_bitCount_0f7a4_46 ?_
  refine r_istore_n C dJ6_bitCount_0f7a4_47 (by decide) rfl ?_
  refine r_loc (ls' := [vI (bq5 x)]) ?_ rfl
  refine r_iload_n C dJ6_bitCount_0f7a4_48 rfl ?_
  refine r_bipush C dJ6_bitCount_0f7a4_49 rfl ?_
  refine r_iand C dJ6_bitCount_0f7a4_51 ?_
  exact r_iret C hF dJ6_bitCount_0f7a4_52 (by obtain ⟨m, rfl⟩ := zna_of (n := 32) hx hx2; exact bq_all m) rfl
