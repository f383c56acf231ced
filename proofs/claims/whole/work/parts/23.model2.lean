set_option maxRecDepth 20000 in
set_option maxHeartbeats 2000000 in
theorem kX5_fault {V : Wo} {μ : Mem} {q : Nat} (hM : MoS V q) {K : Int} (hv : veW K (μ (q + 1))) (hL : LaW μ q) : Con V 3 yX5_fault cX5_fault 3 (some .int) [vR q] (μ) (QI V (flt (μ (q + 1) 0) (μ (q + 3)) (μ (q + 4)) (μ q 12)) (μ)) := by
  refine con_of (ls0 := [vR q, vU, vU]) (by decide +kernel) rfl (Nat.le_of_ble_eq_true rfl) (Nat.le_of_ble_eq_true rfl) (fun X hV C hF => ?_)
  subst hV
  have C : Ok X RX5 cX5_fault 3 3 := C
  obtain ⟨M0, M1, Ms, Mt, Mr, Md, Ml⟩ := id hM
  obtain ⟨v0, v1, v2, v3, v4, v5, v6, v7, v8, v9, v10⟩ := id hv
  obtain ⟨L0, L1, L2, L3⟩ := id hL
  have rT : -1 ≤ fT (μ (q + 4)) (μ q 12) ∧ fT (μ (q + 4)) (μ q 12) ≤ 1000 := fs_rng _ (by omega) (by omega)
  have rN : -1 ≤ fN (μ (q + 1) 0) (μ (q + 3)) (μ q 12) ∧ fN (μ (q + 1) 0) (μ (q + 3)) (μ q 12) ≤ 1000 := fs_rng _ (by omega) (by omega)
  have rD : -1 ≤ fD (μ (q + 3)) (μ q 12) ∧ fD (μ (q + 3)) (μ q 12) ≤ 1000 := fs_rng _ (by omega) (by omega)
  have rM : -1 ≤ misS (μ (q + 1) 0) (μ (q + 3)) (μ q 12) ∧ misS (μ (q + 1) 0) (μ (q + 3)) (μ q 12) ≤ 1000 := fs_rng _ (by omega) (by omega)
  have rF : -1 ≤ fF (μ (q + 3)) (μ q 12) ∧ fF (μ (q + 3)) (μ q 12) ≤ 1000 := fs_rng _ (by omega) (by omega)
  refine r_aload_n C dX5_fault_0 rfl ?_
  refine gf_X5_33 C M1 dX5_fault_1 ?_
  refine r_if_ne (tgt := 9) C dX5_fault_4 (by decide) (by omega) (fun c4 => ?_) (fun c4 => ?_)
  · have _ := c4
    refine r_iconst C dX5_fault_9 ?_
    refine r_istore_n C dX5_fault_10 (by decide) rfl ?_
    refine r_loc (ls' := [vR q, vI 2, vU]) ?_ rfl
    · skip
      refine r_iload_n C dX5_fault_11 rfl ?_
      refine r_bipush C dX5_fault_12 rfl ?_
      refine r_icmp_ge (tgt := 65) C dX5_fault_14 (by decide) (by omega) (by omega) (fun c14 => absurd c14 (by omega)) (fun c14 => ?_)
      refine r_iload_n C dX5_fault_17 rfl ?_
      refine r_iconst C dX5_fault_18 ?_
      refine r_icmp_ne (tgt := 38) C dX5_fault_19 (by decide) (by omega) (by omega) (fun c19 => ?_) (fun c19 => absurd c19 (by omega))
      refine r_aload_n C dX5_fault_38 rfl ?_
      refine r_iload_n C dX5_fault_39 rfl ?_
      refine r_runI (fun aH aL aj a1 a2 a3 => run_V C hF.2.2.1 (kX5_placeOf hM hv hL (by omega) (by omega)) lm_X5_placeOf ml_X5_55 im_X5_placeOf se_X5_placeOf M1 rfl (Nat.le_of_ble_eq_true rfl) dX5_fault_40 rfl (Nat.le_of_ble_eq_true rfl) a1 a2 a3) ?_
      refine r_iconst C dX5_fault_43 ?_
      refine r_icmp_eq (tgt := 51) C dX5_fault_44 (by decide) (by show inR (fT (μ (q + 4)) (μ q 12)); omega) (by omega) (fun c44 => ?_) (fun c44 => ?_)
      · have e2 : fT (μ (q + 4)) (μ q 12) = -1 := c44
        refine r_iconst C dX5_fault_51 ?_
        refine r_istore_n C dX5_fault_52 (by decide) rfl ?_
        refine r_iload_n C dX5_fault_53 rfl ?_
        refine r_if_eq (tgt := 59) C dX5_fault_54 (by decide) (by omega) (fun c54 => ?_) (fun c54 => absurd c54 (by omega))
        refine r_iinc C dX5_fault_59 rfl (by decide) rfl ?_
        refine r_goto (tgt := 11) C dX5_fault_62 (by decide) ?_
        refine r_loc (ls' := [vR q, vI 3, vI 0]) ?_ rfl
        · skip
          refine r_iload_n C dX5_fault_11 rfl ?_
          refine r_bipush C dX5_fault_12 rfl ?_
          refine r_icmp_ge (tgt := 65) C dX5_fault_14 (by decide) (by omega) (by omega) (fun c14 => absurd c14 (by omega)) (fun c14 => ?_)
          refine r_iload_n C dX5_fault_17 rfl ?_
          refine r_iconst C dX5_fault_18 ?_
          refine r_icmp_ne (tgt := 38) C dX5_fault_19 (by decide) (by omega) (by omega) (fun c19 => ?_) (fun c19 => absurd c19 (by omega))
          refine r_aload_n C dX5_fault_38 rfl ?_
          refine r_iload_n C dX5_fault_39 rfl ?_
          refine r_runI (fun aH aL aj a1 a2 a3 => run_V C hF.2.2.1 (kX5_placeOf hM hv hL (by omega) (by omega)) lm_X5_placeOf ml_X5_55 im_X5_placeOf se_X5_placeOf M1 rfl (Nat.le_of_ble_eq_true rfl) dX5_fault_40 rfl (Nat.le_of_ble_eq_true rfl) a1 a2 a3) ?_
          refine r_iconst C dX5_fault_43 ?_
          refine r_icmp_eq (tgt := 51) C dX5_fault_44 (by decide) (by show inR (fN (μ (q + 1) 0) (μ (q + 3)) (μ q 12)); omega) (by omega) (fun c44 => ?_) (fun c44 => ?_)
          · have e3 : fN (μ (q + 1) 0) (μ (q + 3)) (μ q 12) = -1 := c44
            refine r_iconst C dX5_fault_51 ?_
            refine r_istore_n C dX5_fault_52 (by decide) rfl ?_
            refine r_iload_n C dX5_fault_53 rfl ?_
            refine r_if_eq (tgt := 59) C dX5_fault_54 (by decide) (by omega) (fun c54 => ?_) (fun c54 => absurd c54 (by omega))
            refine r_iinc C dX5_fault_59 rfl (by decide) rfl ?_
            refine r_goto (tgt := 11) C dX5_fault_62 (by decide) ?_
            refine r_loc (ls' := [vR q, vI 4, vI 0]) ?_ rfl
            · skip
              refine r_iload_n C dX5_fault_11 rfl ?_
              refine r_bipush C dX5_fault_12 rfl ?_
              refine r_icmp_ge (tgt := 65) C dX5_fault_14 (by decide) (by omega) (by omega) (fun c14 => absurd c14 (by omega)) (fun c14 => ?_)
              refine r_iload_n C dX5_fault_17 rfl ?_
              refine r_iconst C dX5_fault_18 ?_
              refine r_icmp_ne (tgt := 38) C dX5_fault_19 (by decide) (by omega) (by omega) (fun c19 => ?_) (fun c19 => absurd c19 (by omega))
              refine r_aload_n C dX5_fault_38 rfl ?_
              refine r_iload_n C dX5_fault_39 rfl ?_
              refine r_runI (fun aH aL aj a1 a2 a3 => run_V C hF.2.2.1 (kX5_placeOf hM hv hL (by omega) (by omega)) lm_X5_placeOf ml_X5_55 im_X5_placeOf se_X5_placeOf M1 rfl (Nat.le_of_ble_eq_true rfl) dX5_fault_40 rfl (Nat.le_of_ble_eq_true rfl) a1 a2 a3) ?_
              refine r_iconst C dX5_fault_43 ?_
              refine r_icmp_eq (tgt := 51) C dX5_fault_44 (by decide) (by show inR (fD (μ (q + 3)) (μ q 12)); omega) (by omega) (fun c44 => ?_) (fun c44 => ?_)
              · have e4 : fD (μ (q + 3)) (μ q 12) = -1 := c44
                refine r_iconst C dX5_fault_51 ?_
                refine r_istore_n C dX5_fault_52 (by decide) rfl ?_
                refine r_iload_n C dX5_fault_53 rfl ?_
                refine r_if_eq (tgt := 59) C dX5_fault_54 (by decide) (by omega) (fun c54 => ?_) (fun c54 => absurd c54 (by omega))
                refine r_iinc C dX5_fault_59 rfl (by decide) rfl ?_
                refine r_goto (tgt := 11) C dX5_fault_62 (by decide) ?_
                refine r_loc (ls' := [vR q, vI 5, vI 0]) ?_ rfl
                · skip
                  refine r_iload_n C dX5_fault_11 rfl ?_
                  refine r_bipush C dX5_fault_12 rfl ?_
                  refine r_icmp_ge (tgt := 65) C dX5_fault_14 (by decide) (by omega) (by omega) (fun c14 => absurd c14 (by omega)) (fun c14 => ?_)
                  refine r_iload_n C dX5_fault_17 rfl ?_
                  refine r_iconst C dX5_fault_18 ?_
                  refine r_icmp_ne (tgt := 38) C dX5_fault_19 (by decide) (by omega) (by omega) (fun c19 => absurd c19 (by omega)) (fun c19 => ?_)
                  refine r_aload_n C dX5_fault_22 rfl ?_
                  refine r_runI (fun aH aL aj a1 a2 a3 => run_V C hF.2.2.1 (kX5_missing hM hv hL) lm_X5_missing ml_X5_51 im_X5_missing se_X5_missing M1 rfl (Nat.le_of_ble_eq_true rfl) dX5_fault_23 rfl (Nat.le_of_ble_eq_true rfl) a1 a2 a3) ?_
                  refine r_iconst C dX5_fault_26 ?_
                  refine r_icmp_eq (tgt := 34) C dX5_fault_27 (by decide) (by omega) (by omega) (fun c27 => ?_) (fun c27 => ?_)
                  · have e5 : misS (μ (q + 1) 0) (μ (q + 3)) (μ q 12) = -1 := c27
                    refine r_iconst C dX5_fault_34 ?_
                    refine r_goto (tgt := 52) C dX5_fault_35 (by decide) ?_
                    refine r_istore_n C dX5_fault_52 (by decide) rfl ?_
                    refine r_iload_n C dX5_fault_53 rfl ?_
                    refine r_if_eq (tgt := 59) C dX5_fault_54 (by decide) (by omega) (fun c54 => ?_) (fun c54 => absurd c54 (by omega))
                    refine r_iinc C dX5_fault_59 rfl (by decide) rfl ?_
                    refine r_goto (tgt := 11) C dX5_fault_62 (by decide) ?_
                    refine r_loc (ls' := [vR q, vI 6, vI 0]) ?_ rfl
                    · skip
                      refine r_iload_n C dX5_fault_11 rfl ?_
                      refine r_bipush C dX5_fault_12 rfl ?_
                      refine r_icmp_ge (tgt := 65) C dX5_fault_14 (by decide) (by omega) (by omega) (fun c14 => absurd c14 (by omega)) (fun c14 => ?_)
                      refine r_iload_n C dX5_fault_17 rfl ?_
                      refine r_iconst C dX5_fault_18 ?_
                      refine r_icmp_ne (tgt := 38) C dX5_fault_19 (by decide) (by omega) (by omega) (fun c19 => ?_) (fun c19 => absurd c19 (by omega))
                      refine r_aload_n C dX5_fault_38 rfl ?_
                      refine r_iload_n C dX5_fault_39 rfl ?_
                      refine r_runI (fun aH aL aj a1 a2 a3 => run_V C hF.2.2.1 (kX5_placeOf hM hv hL (by omega) (by omega)) lm_X5_placeOf ml_X5_55 im_X5_placeOf se_X5_placeOf M1 rfl (Nat.le_of_ble_eq_true rfl) dX5_fault_40 rfl (Nat.le_of_ble_eq_true rfl) a1 a2 a3) ?_
                      refine r_iconst C dX5_fault_43 ?_
                      refine r_icmp_eq (tgt := 51) C dX5_fault_44 (by decide) (by show inR (fF (μ (q + 3)) (μ q 12)); omega) (by omega) (fun c44 => ?_) (fun c44 => ?_)
                      · have e6 : fF (μ (q + 3)) (μ q 12) = -1 := c44
                        refine r_iconst C dX5_fault_51 ?_
                        refine r_istore_n C dX5_fault_52 (by decide) rfl ?_
                        refine r_iload_n C dX5_fault_53 rfl ?_
                        refine r_if_eq (tgt := 59) C dX5_fault_54 (by decide) (by omega) (fun c54 => ?_) (fun c54 => absurd c54 (by omega))
                        refine r_iinc C dX5_fault_59 rfl (by decide) rfl ?_
                        refine r_goto (tgt := 11) C dX5_fault_62 (by decide) ?_
                        refine r_loc (ls' := [vR q, vI 7, vI 0]) ?_ rfl
                        · skip
                          refine r_iload_n C dX5_fault_11 rfl ?_
                          refine r_bipush C dX5_fault_12 rfl ?_
                          refine r_icmp_ge (tgt := 65) C dX5_fault_14 (by decide) (by omega) (by omega) (fun c14 => ?_) (fun c14 => absurd c14 (by omega))
                          refine r_iconst C dX5_fault_65 ?_
                          exact r_iret C hF dX5_fault_66 (by unfold flt; rw [if_neg c4, if_neg (fun z => z e2), if_neg (fun z => z e3), if_neg (fun z => z e4), if_neg (fun z => z e5), if_neg (fun z => z e6)]) rfl
                      · have e6 : fF (μ (q + 3)) (μ q 12) ≠ -1 := c44
                        refine r_iconst C dX5_fault_47 ?_
                        refine r_goto (tgt := 52) C dX5_fault_48 (by decide) ?_
                        refine r_istore_n C dX5_fault_52 (by decide) rfl ?_
                        refine r_iload_n C dX5_fault_53 rfl ?_
                        refine r_if_eq (tgt := 59) C dX5_fault_54 (by decide) (by omega) (fun c54 => absurd c54 (by omega)) (fun c54 => ?_)
                        refine r_iload_n C dX5_fault_57 rfl ?_
                        exact r_iret C hF dX5_fault_58 (by unfold flt; rw [if_neg c4, if_neg (fun z => z e2), if_neg (fun z => z e3), if_neg (fun z => z e4), if_neg (fun z => z e5), if_pos e6]) rfl
                  · have e5 : misS (μ (q + 1) 0) (μ (q + 3)) (μ q 12) ≠ -1 := c27
                    refine r_iconst C dX5_fault_30 ?_
                    refine r_goto (tgt := 52) C dX5_fault_31 (by decide) ?_
                    refine r_istore_n C dX5_fault_52 (by decide) rfl ?_
                    refine r_iload_n C dX5_fault_53 rfl ?_
                    refine r_if_eq (tgt := 59) C dX5_fault_54 (by decide) (by omega) (fun c54 => absurd c54 (by omega)) (fun c54 => ?_)
                    refine r_iload_n C dX5_fault_57 rfl ?_
                    exact r_iret C hF dX5_fault_58 (by unfold flt; rw [if_neg c4, if_neg (fun z => z e2), if_neg (fun z => z e3), if_neg (fun z => z e4), if_pos e5]) rfl
              · have e4 : fD (μ (q + 3)) (μ q 12) ≠ -1 := c44
                refine r_iconst C dX5_fault_47 ?_
                refine r_goto (tgt := 52) C dX5_fault_48 (by decide) ?_
                refine r_istore_n C dX5_fault_52 (by decide) rfl ?_
                refine r_iload_n C dX5_fault_53 rfl ?_
                refine r_if_eq (tgt := 59) C dX5_fault_54 (by decide) (by omega) (fun c54 => absurd c54 (by omega)) (fun c54 => ?_)
                refine r_iload_n C dX5_fault_57 rfl ?_
                exact r_iret C hF dX5_fault_58 (by unfold flt; rw [if_neg c4, if_neg (fun z => z e2), if_neg (fun z => z e3), if_pos e4]) rfl
          · have e3 : fN (μ (q + 1) 0) (μ (q + 3)) (μ q 12) ≠ -1 := c44
            refine r_iconst C dX5_fault_47 ?_
            refine r_goto (tgt := 52) C dX5_fault_48 (by decide) ?_
            refine r_istore_n C dX5_fault_52 (by decide) rfl ?_
            refine r_iload_n C dX5_fault_53 rfl ?_
            refine r_if_eq (tgt := 59) C dX5_fault_54 (by decide) (by omega) (fun c54 => absurd c54 (by omega)) (fun c54 => ?_)
            refine r_iload_n C dX5_fault_57 rfl ?_
            exact r_iret C hF dX5_fault_58 (by unfold flt; rw [if_neg c4, if_neg (fun z => z e2), if_pos e3]) rfl
      · have e2 : fT (μ (q + 4)) (μ q 12) ≠ -1 := c44
        refine r_iconst C dX5_fault_47 ?_
        refine r_goto (tgt := 52) C dX5_fault_48 (by decide) ?_
        refine r_istore_n C dX5_fault_52 (by decide) rfl ?_
        refine r_iload_n C dX5_fault_53 rfl ?_
        refine r_if_eq (tgt := 59) C dX5_fault_54 (by decide) (by omega) (fun c54 => absurd c54 (by omega)) (fun c54 => ?_)
        refine r_iload_n C dX5_fault_57 rfl ?_
        exact r_iret C hF dX5_fault_58 (by unfold flt; rw [if_neg c4, if_pos e2]) rfl
  · have _ := c4
    refine r_iconst C dX5_fault_7 ?_
    exact r_iret C hF dX5_fault_8 (by unfold flt; rw [if_pos c4]) rfl
set_option maxRecDepth 20000 in
set_option maxHeartbeats 2000000 in
theorem kX5_faultPlace {V : Wo} {μ : Mem} {q : Nat} (hM : MoS V q) {K : Int} (hv : veW K (μ (q + 1))) (hL : LaW μ q) : Con V 4 yX5_faultPlace cX5_faultPlace 2 (some .int) [vR q] (μ) (QI V (plf (μ (q + 1) 0) (μ (q + 3)) (μ (q + 4)) (μ q 12)) (μ)) := by
  refine con_of (ls0 := [vR q, vU]) (by decide +kernel) rfl (Nat.le_of_ble_eq_true rfl) (Nat.le_of_ble_eq_true rfl) (fun X hV C hF => ?_)
  subst hV
  have C : Ok X RX5 cX5_faultPlace 2 4 := C
  obtain ⟨M0, M1, Ms, Mt, Mr, Md, Ml⟩ := id hM
  obtain ⟨v0, v1, v2, v3, v4, v5, v6, v7, v8, v9, v10⟩ := id hv
  obtain ⟨L0, L1, L2, L3⟩ := id hL
  refine r_aload_n C dX5_faultPlace_0 rfl ?_
  refine r_runI (fun aH aL aj a1 a2 a3 => run_V C hF.2.2.1 (kX5_fault hM hv hL) lm_X5_fault ml_X5_78 im_X5_fault se_X5_fault M1 rfl (Nat.le_of_ble_eq_true rfl) dX5_faultPlace_1 rfl (Nat.le_of_ble_eq_true rfl) a1 a2 a3) ?_
  refine r_istore_n C dX5_faultPlace_4 (by decide) rfl ?_
  refine r_iload_n C dX5_faultPlace_5 rfl ?_
  refine r_iconst C dX5_faultPlace_6 ?_
  have rr := flt_r (μ (q + 1) 0) (μ (q + 3)) (μ (q + 4)) (μ q 12)
  refine r_icmp_lt (tgt := 15) C dX5_faultPlace_7 (by decide) (by omega) (by omega) (fun c7 => ?_) (fun c7 => ?_)
  · skip
    refine r_iconst C dX5_faultPlace_15 ?_
    refine r_goto (tgt := 24) C dX5_faultPlace_16 (by decide) ?_
    exact r_iret C hF dX5_faultPlace_24 (by unfold plf; rw [if_neg (by omega), if_neg (by omega), if_neg (by omega), if_neg (by omega)]) rfl
  · have _ := c7
    refine r_iload_n C dX5_faultPlace_10 rfl ?_
    refine r_iconst C dX5_faultPlace_11 ?_
    refine r_icmp_ne (tgt := 19) C dX5_faultPlace_12 (by decide) (by omega) (by omega) (fun c12 => ?_) (fun c12 => ?_)
    · skip
      refine r_aload_n C dX5_faultPlace_19 rfl ?_
      refine r_iload_n C dX5_faultPlace_20 rfl ?_
      refine r_runI (fun aH aL aj a1 a2 a3 => run_V C hF.2.2.1 (kX5_placeOf hM hv hL (by omega) (by omega)) lm_X5_placeOf ml_X5_55 im_X5_placeOf se_X5_placeOf M1 rfl (Nat.le_of_ble_eq_true rfl) dX5_faultPlace_21 rfl (Nat.le_of_ble_eq_true rfl) a1 a2 a3) ?_
      exact r_iret C hF dX5_faultPlace_24 (plf_p (by omega)).symm rfl
    · skip
      refine r_iconst C dX5_faultPlace_15 ?_
      refine r_goto (tgt := 24) C dX5_faultPlace_16 (by decide) ?_
      exact r_iret C hF dX5_faultPlace_24 (by unfold plf; rw [if_neg (by omega), if_neg (by omega), if_neg (by omega), if_neg (by omega)]) rfl
set_option maxRecDepth 20000 in
set_option maxHeartbeats 2000000 in
theorem kX5_fewest {V : Wo} {μ : Mem} {q : Nat} (hM : MoS V q) (hL : LaW μ q) : Con V 0 yX5_fewest cX5_fewest 4 (some .int) [vR q] (μ) (QI V ((μ q 12) - mx (leI (μ (q + 3)) (μ (q + 5)) (μ q 12)) (μ q 12)) (wr μ (q + 5) (leI (μ (q + 3)) (μ (q + 5)) (μ q 12)))) := by
  refine con_of (ls0 := [vR q, vU, vU, vU]) (by decide +kernel) rfl (Nat.le_of_ble_eq_true rfl) (Nat.le_of_ble_eq_true rfl) (fun X hV C hF => ?_)
  subst hV
  have C : Ok X RX5 cX5_fewest 4 0 := C
  obtain ⟨M0, M1, Ms, Mt, Mr, Md, Ml⟩ := id hM
  obtain ⟨L0, L1, L2, L3⟩ := id hL
  have n05 : q ≠ q + 5 := by omega
  have n35 : q + 3 ≠ q + 5 := by omega
  have n45 : q + 4 ≠ q + 5 := by omega
  have n15 : q + 1 ≠ q + 5 := by omega
  refine r_iconst C dX5_fewest_0 ?_
  refine r_istore_n C dX5_fewest_1 (by decide) rfl ?_
  refine r_iconst C dX5_fewest_2 ?_
  refine r_istore_n C dX5_fewest_3 (by decide) rfl ?_
  refine r_eq (μ' := wr μ (q + 5) (leI (μ (q + 3)) (μ (q + 5)) 0)) ?_ (by rw [leI_0, wr_self])
  suffices hQ : ∀ z : AV, RR X (wr μ (q + 5) (leI (μ (q + 3)) (μ (q + 5)) 0)) 4 [vR q, vI (mx (leI (μ (q + 3)) (μ (q + 5)) 0) 0), vI 0, z] [] from hQ vU
  refine loop_up (F := fun k => ∀ z : AV, RR X (wr μ (q + 5) (leI (μ (q + 3)) (μ (q + 5)) k)) 4 [vR q, vI (mx (leI (μ (q + 3)) (μ (q + 5)) k) k), vI k, z] []) (a := 0) (b := (μ q 12)) L0 ?_ ?_
  · intro z
    show RR X _ _ [vR q, vI (mx (leI (μ (q + 3)) (μ (q + 5)) (μ q 12)) (μ q 12)), vI (μ q 12), z] []
    refine r_iload_n C dX5_fewest_4 rfl ?_
    refine r_aload_n C dX5_fewest_5 rfl ?_
    refine gf_X5_33 C M1 dX5_fewest_6 ?_
    rw [wr_n _ _ n05]
    refine r_icmp_ge (tgt := 112) C dX5_fewest_9 (by decide) (by omega) (by omega) (fun c9 => ?_) (fun c9 => absurd c9 (by omega))
    refine r_aload_n C dX5_fewest_112 rfl ?_
    refine gf_X5_33 C M1 dX5_fewest_113 ?_
    refine r_iload_n C dX5_fewest_116 rfl ?_
    rw [wr_n _ _ n05]
    refine r_isub C dX5_fewest_117 ?_
    exact r_iret C hF dX5_fewest_118 rfl rfl
  · intro k h0 h1 K2 z
    show RR X _ _ [vR q, vI (mx (leI (μ (q + 3)) (μ (q + 5)) k) k), vI k, z] []
    have hle := leI_bd (μ (q + 3)) (μ (q + 5)) h0
    have hG : ∀ j, j ≤ k → 0 ≤ mx (fun e => if (μ (q + 3)) e ≤ (μ (q + 3)) k then (leI (μ (q + 3)) (μ (q + 5)) k) e else 0) j ∧ mx (fun e => if (μ (q + 3)) e ≤ (μ (q + 3)) k then (leI (μ (q + 3)) (μ (q + 5)) k) e else 0) j ≤ 21 := fun j hj => ⟨mx_nn _ _, mx_le (by omega) (fun e e0 e1 => by
      have := hle e e0 (by omega)
      show (if (μ (q + 3)) e ≤ (μ (q + 3)) k then (leI (μ (q + 3)) (μ (q + 5)) k) e else 0) ≤ 21
      split <;> omega)⟩
    have hmk : 0 ≤ mx (leI (μ (q + 3)) (μ (q + 5)) k) k ∧ mx (leI (μ (q + 3)) (μ (q + 5)) k) k ≤ 21 := ⟨mx_nn _ _, mx_le (by omega) (fun e e0 e1 => by have := hle e e0 e1; omega)⟩
    refine r_iload_n C dX5_fewest_4 rfl ?_
    refine r_aload_n C dX5_fewest_5 rfl ?_
    refine gf_X5_33 C M1 dX5_fewest_6 ?_
    rw [wr_n _ _ n05]
    refine r_icmp_ge (tgt := 112) C dX5_fewest_9 (by decide) (by omega) (by omega) (fun c9 => absurd c9 (by omega)) (fun c9 => ?_)
    refine r_aload_n C dX5_fewest_12 rfl ?_
    refine gf_X5_22 C M1 dX5_fewest_13 ?_
    refine r_iload_n C dX5_fewest_16 rfl ?_
    refine r_iconst C dX5_fewest_17 ?_
    refine r_iast C Ml (by omega) (by omega) (by omega) dX5_fewest_18 ?_
    refine r_iconst C dX5_fewest_19 ?_
    refine r_istore_n C dX5_fewest_20 (by decide) rfl ?_
    refine r_eq (μ' := wr μ (q + 5) (s1 (leI (μ (q + 3)) (μ (q + 5)) k) k (1 + mx (fun e => if (μ (q + 3)) e ≤ (μ (q + 3)) k then (leI (μ (q + 3)) (μ (q + 5)) k) e else 0) 0))) ?_ (by rw [wr_ww, wr_s, mx_0]; rfl)
    refine loop_up (F := fun e => RR X (wr μ (q + 5) (s1 (leI (μ (q + 3)) (μ (q + 5)) k) k (1 + mx (fun e => if (μ (q + 3)) e ≤ (μ (q + 3)) k then (leI (μ (q + 3)) (μ (q + 5)) k) e else 0) e))) 21 [vR q, vI (mx (leI (μ (q + 3)) (μ (q + 5)) k) k), vI k, vI e] []) (a := 0) (b := k) h0 ?_ ?_
    · show RR X (wr μ (q + 5) (s1 (leI (μ (q + 3)) (μ (q + 5)) k) k (1 + mx (fun e => if (μ (q + 3)) e ≤ (μ (q + 3)) k then (leI (μ (q + 3)) (μ (q + 5)) k) e else 0) k))) _ [vR q, vI (mx (leI (μ (q + 3)) (μ (q + 5)) k) k), vI k, vI k] []
      have hk := hG k (Int.le_refl k)
      have K3 := K2 (vI k)
      rw [mx_leI _ _ h0, leI_s _ _ h0] at K3
      refine r_iload_n C dX5_fewest_21 rfl ?_
      refine r_iload_n C dX5_fewest_22 rfl ?_
      refine r_icmp_ge (tgt := 85) C dX5_fewest_23 (by decide) (by omega) (by omega) (fun c23 => ?_) (fun c23 => absurd c23 (by omega))
      refine r_aload_n C dX5_fewest_85 rfl ?_
      refine gf_X5_22 C M1 dX5_fewest_86 ?_
      refine r_iload_n C dX5_fewest_89 rfl ?_
      refine r_iald C Ml (by omega) (by omega) dX5_fewest_90 ?_
      rw [wr_s, s1_s]
      refine r_iload_n C dX5_fewest_91 rfl ?_
      refine r_icmp_le (tgt := 104) C dX5_fewest_92 (by decide) (by omega) (by omega) (fun c92 => ?_) (fun c92 => ?_)
      · rw [if_neg (by omega)] at K3
        refine r_iload_n C dX5_fewest_104 rfl ?_
        refine r_istore_n C dX5_fewest_105 (by decide) rfl ?_
        refine r_iinc C dX5_fewest_106 rfl (by decide) rfl ?_
        refine r_goto (tgt := 4) C dX5_fewest_109 (by decide) ?_
        exact K3
      · rw [if_pos (by omega)] at K3
        refine r_aload_n C dX5_fewest_95 rfl ?_
        refine gf_X5_22 C M1 dX5_fewest_96 ?_
        refine r_iload_n C dX5_fewest_99 rfl ?_
        refine r_iald C Ml (by omega) (by omega) dX5_fewest_100 ?_
        refine r_goto (tgt := 105) C dX5_fewest_101 (by decide) ?_
        refine r_istore_n C dX5_fewest_105 (by decide) rfl ?_
        refine r_iinc C dX5_fewest_106 rfl (by decide) rfl ?_
        refine r_goto (tgt := 4) C dX5_fewest_109 (by decide) ?_
        simp only [wr_s, s1_s] at *
        exact K3
    · intro e g0 g1 K4
      show RR X (wr μ (q + 5) (s1 (leI (μ (q + 3)) (μ (q + 5)) k) k (1 + mx (fun e => if (μ (q + 3)) e ≤ (μ (q + 3)) k then (leI (μ (q + 3)) (μ (q + 5)) k) e else 0) e))) _ [vR q, vI (mx (leI (μ (q + 3)) (μ (q + 5)) k) k), vI k, vI e] []
      have hge := hG e (by omega)
      have hee := hle e g0 g1
      have he := L2 e g0 (by omega)
      have hek := L2 k h0 h1
      refine r_iload_n C dX5_fewest_21 rfl ?_
      refine r_iload_n C dX5_fewest_22 rfl ?_
      refine r_icmp_ge (tgt := 85) C dX5_fewest_23 (by decide) (by omega) (by omega) (fun c23 => absurd c23 (by omega)) (fun c23 => ?_)
      refine r_aload_n C dX5_fewest_26 rfl ?_
      refine gf_X5_22 C M1 dX5_fewest_27 ?_
      refine r_iload_n C dX5_fewest_30 rfl ?_
      refine r_aload_n C dX5_fewest_31 rfl ?_
      refine gf_X5_16 C M1 dX5_fewest_32 ?_
      refine r_iload_n C dX5_fewest_35 rfl ?_
      refine r_iald C Mr (by omega) (by omega) dX5_fewest_36 ?_
      refine r_aload_n C dX5_fewest_37 rfl ?_
      refine gf_X5_16 C M1 dX5_fewest_38 ?_
      refine r_iload_n C dX5_fewest_41 rfl ?_
      refine r_iald C Mr (by omega) (by omega) dX5_fewest_42 ?_
      rw [wr_n _ _ n35]
      refine r_icmp_gt (tgt := 72) C dX5_fewest_43 (by decide) (by omega) (by omega) (fun c43 => ?_) (fun c43 => ?_)
      · skip
        refine r_aload_n C dX5_fewest_72 rfl ?_
        refine gf_X5_22 C M1 dX5_fewest_73 ?_
        refine r_iload_n C dX5_fewest_76 rfl ?_
        refine r_iald C Ml (by omega) (by omega) dX5_fewest_77 ?_
        simp (disch := omega) only [wr_s, s1_s, s1_n]
        refine r_iast C Ml (by omega) (by omega) (by omega) dX5_fewest_78 ?_
        refine r_iinc C dX5_fewest_79 rfl (by decide) rfl ?_
        refine r_goto (tgt := 21) C dX5_fewest_82 (by decide) ?_
        refine r_eq K4 ?_
        simp only [wr_ww, wr_s, s1_ss]
        rw [mx_s _ g0, if_neg (by omega : ¬ (μ (q + 3)) e ≤ (μ (q + 3)) k), if_neg (by omega)]
      · have _ := c43
        refine r_aload_n C dX5_fewest_46 rfl ?_
        refine gf_X5_22 C M1 dX5_fewest_47 ?_
        refine r_iload_n C dX5_fewest_50 rfl ?_
        refine r_iald C Ml (by omega) (by omega) dX5_fewest_51 ?_
        refine r_aload_n C dX5_fewest_52 rfl ?_
        refine gf_X5_22 C M1 dX5_fewest_53 ?_
        refine r_iload_n C dX5_fewest_56 rfl ?_
        refine r_iald C Ml (by omega) (by omega) dX5_fewest_57 ?_
        simp (disch := omega) only [wr_s, s1_s, s1_n]
        refine r_icmp_lt (tgt := 72) C dX5_fewest_58 (by decide) (by omega) (by omega) (fun c58 => ?_) (fun c58 => ?_)
        · skip
          refine r_aload_n C dX5_fewest_72 rfl ?_
          refine gf_X5_22 C M1 dX5_fewest_73 ?_
          refine r_iload_n C dX5_fewest_76 rfl ?_
          refine r_iald C Ml (by omega) (by omega) dX5_fewest_77 ?_
          simp (disch := omega) only [wr_s, s1_s, s1_n]
          refine r_iast C Ml (by omega) (by omega) (by omega) dX5_fewest_78 ?_
          refine r_iinc C dX5_fewest_79 rfl (by decide) rfl ?_
          refine r_goto (tgt := 21) C dX5_fewest_82 (by decide) ?_
          refine r_eq K4 ?_
          simp only [wr_ww, wr_s, s1_ss]
          rw [mx_s _ g0, if_pos c43, if_neg (by omega)]
        · skip
          refine r_aload_n C dX5_fewest_61 rfl ?_
          refine gf_X5_22 C M1 dX5_fewest_62 ?_
          refine r_iload_n C dX5_fewest_65 rfl ?_
          refine r_iald C Ml (by omega) (by omega) dX5_fewest_66 ?_
          refine r_iconst C dX5_fewest_67 ?_
          refine r_iadd C dX5_fewest_68 ?_
          refine r_goto (tgt := 78) C dX5_fewest_69 (by decide) ?_
          simp (disch := omega) only [wr_s, s1_s, s1_n]
          refine r_iast C Ml (by omega) (by omega) (by omega) dX5_fewest_78 ?_
          refine r_iinc C dX5_fewest_79 rfl (by decide) rfl ?_
          refine r_goto (tgt := 21) C dX5_fewest_82 (by decide) ?_
          refine r_eq K4 ?_
          simp only [wr_ww, wr_s, s1_ss]
          rw [mx_s _ g0, if_pos c43, if_pos (by omega), Int.add_comm]
set_option maxRecDepth 20000 in
set_option maxHeartbeats 2000000 in
theorem kX5_greaterAhead {V : Wo} {μ : Mem} {q : Nat} (hM : MoS V q) (hL : LaW μ q) {k : Int} (hk : 0 ≤ k) (hk2 : k < (μ q 12)) : Con V 0 yX5_greaterAhead cX5_greaterAhead 4 (some .int) [vR q, vI k] (μ) (QI V (cn (fun e => μ (q + 3) k < μ (q + 3) e) k) (μ)) := by
  refine con_of (ls0 := [vR q, vI k, vU, vU]) (by decide +kernel) rfl (Nat.le_of_ble_eq_true rfl) (Nat.le_of_ble_eq_true rfl) (fun X hV C hF => ?_)
  subst hV
  have C : Ok X RX5 cX5_greaterAhead 4 0 := C
  obtain ⟨M0, M1, Ms, Mt, Mr, Md, Ml⟩ := id hM
  obtain ⟨L0, L1, L2, L3⟩ := id hL
  refine r_iconst C dX5_greaterAhead_0 ?_
  refine r_istore_n C dX5_greaterAhead_1 (by decide) rfl ?_
  refine r_iconst C dX5_greaterAhead_2 ?_
  refine r_istore_n C dX5_greaterAhead_3 (by decide) rfl ?_
  refine loop_up (F := fun i => RR X μ 4 [vR q, vI k, vI (cn (fun e => μ (q + 3) k < μ (q + 3) e) i), vI i] []) (a := 0) (b := k) hk ?_ ?_
  · show RR X _ _ [vR q, vI k, vI (cn (fun e => μ (q + 3) k < μ (q + 3) e) k), vI k] []
    refine r_iload_n C dX5_greaterAhead_4 rfl ?_
    refine r_iload_n C dX5_greaterAhead_5 rfl ?_
    refine r_icmp_ge (tgt := 38) C dX5_greaterAhead_6 (by decide) (by omega) (by omega) (fun c6 => ?_) (fun c6 => absurd c6 (by omega))
    refine r_iload_n C dX5_greaterAhead_38 rfl ?_
    exact r_iret C hF dX5_greaterAhead_39 rfl rfl
  · intro i h0 h1 K2
    show RR X _ _ [vR q, vI k, vI (cn (fun e => μ (q + 3) k < μ (q + 3) e) i), vI i] []
    rw [cn_s _ h0] at K2
    refine r_iload_n C dX5_greaterAhead_4 rfl ?_
    refine r_iload_n C dX5_greaterAhead_5 rfl ?_
    refine r_icmp_ge (tgt := 38) C dX5_greaterAhead_6 (by decide) (by omega) (by omega) (fun c6 => absurd c6 (by omega)) (fun c6 => ?_)
    refine r_iload_n C dX5_greaterAhead_9 rfl ?_
    refine r_aload_n C dX5_greaterAhead_10 rfl ?_
    refine gf_X5_16 C M1 dX5_greaterAhead_11 ?_
    refine r_iload_n C dX5_greaterAhead_14 rfl ?_
    refine r_iald C Mr (by omega) (by omega) dX5_greaterAhead_15 ?_
    refine r_aload_n C dX5_greaterAhead_16 rfl ?_
    refine gf_X5_16 C M1 dX5_greaterAhead_17 ?_
    refine r_iload_n C dX5_greaterAhead_20 rfl ?_
    refine r_iald C Mr (by omega) (by omega) dX5_greaterAhead_21 ?_
    refine r_icmp_le (tgt := 29) C dX5_greaterAhead_22 (by decide) (by have := L2 i h0 (by omega); omega) (by have := L2 k hk hk2; omega) (fun c22 => ?_) (fun c22 => ?_)
    · skip
      refine r_iconst C dX5_greaterAhead_29 ?_
      refine r_iadd C dX5_greaterAhead_30 ?_
      refine r_istore_n C dX5_greaterAhead_31 (by decide) rfl ?_
      refine r_iinc C dX5_greaterAhead_32 rfl (by decide) rfl ?_
      refine r_goto (tgt := 4) C dX5_greaterAhead_35 (by decide) ?_
      rw [b01_f (by omega)] at K2
      exact K2
    · skip
      refine r_iconst C dX5_greaterAhead_25 ?_
      refine r_goto (tgt := 30) C dX5_greaterAhead_26 (by decide) ?_
      refine r_iadd C dX5_greaterAhead_30 ?_
      refine r_istore_n C dX5_greaterAhead_31 (by decide) rfl ?_
      refine r_iinc C dX5_greaterAhead_32 rfl (by decide) rfl ?_
      refine r_goto (tgt := 4) C dX5_greaterAhead_35 (by decide) ?_
      rw [b01_t c22] at K2
      exact K2
set_option maxRecDepth 20000 in
set_option maxHeartbeats 2000000 in
theorem kX5_pairs {V : Wo} {μ : Mem} {q : Nat} (hM : MoS V q) (hL : LaW μ q) : Con V 1 yX5_pairs cX5_pairs 3 (some .int) [vR q] (μ) (QI V (sm (fun k => cn (fun e => μ (q + 3) k < μ (q + 3) e) k) (μ q 12)) (μ)) := by
  refine con_of (ls0 := [vR q, vU, vU]) (by decide +kernel) rfl (Nat.le_of_ble_eq_true rfl) (Nat.le_of_ble_eq_true rfl) (fun X hV C hF => ?_)
  subst hV
  have C : Ok X RX5 cX5_pairs 3 1 := C
  obtain ⟨M0, M1, Ms, Mt, Mr, Md, Ml⟩ := id hM
  obtain ⟨L0, L1, L2, L3⟩ := id hL
  refine r_iconst C dX5_pairs_0 ?_
  refine r_istore_n C dX5_pairs_1 (by decide) rfl ?_
  refine r_iconst C dX5_pairs_2 ?_
  refine r_istore_n C dX5_pairs_3 (by decide) rfl ?_
  refine loop_up (F := fun i => RR X μ 4 [vR q, vI (sm (fun k => cn (fun e => μ (q + 3) k < μ (q + 3) e) k) i), vI i] []) (a := 0) (b := (μ q 12)) L0 ?_ ?_
  · show RR X _ _ [vR q, vI (sm (fun k => cn (fun e => μ (q + 3) k < μ (q + 3) e) k) (μ q 12)), vI (μ q 12)] []
    refine r_iload_n C dX5_pairs_4 rfl ?_
    refine r_aload_n C dX5_pairs_5 rfl ?_
    refine gf_X5_33 C M1 dX5_pairs_6 ?_
    refine r_icmp_ge (tgt := 26) C dX5_pairs_9 (by decide) (by omega) (by omega) (fun c9 => ?_) (fun c9 => absurd c9 (by omega))
    refine r_iload_n C dX5_pairs_26 rfl ?_
    exact r_iret C hF dX5_pairs_27 rfl rfl
  · intro i h0 h1 K2
    show RR X _ _ [vR q, vI (sm (fun k => cn (fun e => μ (q + 3) k < μ (q + 3) e) k) i), vI i] []
    rw [sm_s _ h0] at K2
    refine r_iload_n C dX5_pairs_4 rfl ?_
    refine r_aload_n C dX5_pairs_5 rfl ?_
    refine gf_X5_33 C M1 dX5_pairs_6 ?_
    refine r_icmp_ge (tgt := 26) C dX5_pairs_9 (by decide) (by omega) (by omega) (fun c9 => absurd c9 (by omega)) (fun c9 => ?_)
    refine r_iload_n C dX5_pairs_12 rfl ?_
    refine r_aload_n C dX5_pairs_13 rfl ?_
    refine r_iload_n C dX5_pairs_14 rfl ?_
    refine r_runI (fun aH aL aj a1 a2 a3 => run_V C hF.2.2.1 (kX5_greaterAhead hM hL h0 h1) lm_X5_greaterAhead ml_X5_59 im_X5_greaterAhead se_X5_greaterAhead M1 rfl (Nat.le_of_ble_eq_true rfl) dX5_pairs_15 rfl (Nat.le_of_ble_eq_true rfl) a1 a2 a3) ?_
    refine r_iadd C dX5_pairs_18 ?_
    refine r_istore_n C dX5_pairs_19 (by decide) rfl ?_
    refine r_iinc C dX5_pairs_20 rfl (by decide) rfl ?_
    refine r_goto (tgt := 4) C dX5_pairs_23 (by decide) ?_
    exact K2
set_option maxRecDepth 20000 in
set_option maxHeartbeats 2000000 in
theorem kX5_stitchesAt {V : Wo} {μ : Mem} {q : Nat} (hM : MoS V q) {K : Int} (hv : veW K (μ (q + 1))) (hL : LaW μ q) {k : Int} (hk : 0 ≤ k) (hk2 : k < (μ q 12)) : Con V 0 yX5_stitchesAt cX5_stitchesAt 5 (some .int) [vR q, vI k] (μ) (QI V (stA (fun j => μ (q + 1) (54 + j)) (μ (q + 3)) k) (μ)) := by
  refine con_of (ls0 := [vR q, vI k, vU, vU, vU]) (by decide +kernel) rfl (Nat.le_of_ble_eq_true rfl) (Nat.le_of_ble_eq_true rfl) (fun X hV C hF => ?_)
  subst hV
  have C : Ok X RX5 cX5_stitchesAt 5 0 := C
  obtain ⟨M0, M1, Ms, Mt, Mr, Md, Ml⟩ := id hM
  obtain ⟨v0, v1, v2, v3, v4, v5, v6, v7, v8, v9, v10⟩ := id hv
  obtain ⟨L0, L1, L2, L3⟩ := id hL
  refine jn (A := ∀ x : Int, 0 ≤ x → x < 32 → stA (fun j => μ (q + 1) (54 + j)) (μ (q + 3)) k = bc x → RR X μ 39 [vR q, vI k, vU, vU, vU] [vI x]) ?_ (fun J => ?_)
  · intro x x0 x1 hx
    refine r_istore_n C dX5_stitchesAt_39 (by decide) rfl ?_
    refine r_iconst C dX5_stitchesAt_40 ?_
    refine r_istore_n C dX5_stitchesAt_41 (by decide) rfl ?_
    refine r_iconst C dX5_stitchesAt_42 ?_
    refine r_istore C dX5_stitchesAt_43 (by decide) rfl ?_
    refine r_loc (ls' := [vR q, vI k, vI x, vI (sm (fun h => bit x h) 0), vI 0]) ?_ rfl
    refine loop_up (F := fun i => RR X μ 45 [vR q, vI k, vI x, vI (sm (fun h => bit x h) i), vI i] []) (a := 0) (b := 5) (by omega) ?_ ?_
    · show RR X _ _ [vR q, vI k, vI x, vI (sm (fun h => bit x h) 5), vI 5] []
      refine r_iload C dX5_stitchesAt_45 rfl ?_
      refine r_iconst C dX5_stitchesAt_47 ?_
      refine r_icmp_ge (tgt := 66) C dX5_stitchesAt_48 (by decide) (by omega) (by omega) (fun c48 => ?_) (fun c48 => absurd c48 (by omega))
      refine r_iload_n C dX5_stitchesAt_66 rfl ?_
      exact r_iret C hF dX5_stitchesAt_67 (by rw [bc_e, hx]) rfl
    · intro i h0 h1 K2
      show RR X _ _ [vR q, vI k, vI x, vI (sm (fun h => bit x h) i), vI i] []
      rw [sm_s _ h0] at K2
      refine r_iload C dX5_stitchesAt_45 rfl ?_
      refine r_iconst C dX5_stitchesAt_47 ?_
      refine r_icmp_ge (tgt := 66) C dX5_stitchesAt_48 (by decide) (by omega) (by omega) (fun c48 => absurd c48 (by omega)) (fun c48 => ?_)
      refine r_iload_n C dX5_stitchesAt_51 rfl ?_
      refine r_iload_n C dX5_stitchesAt_52 rfl ?_
      refine r_iload C dX5_stitchesAt_53 rfl ?_
      refine r_ishr C dX5_stitchesAt_55 ?_
      refine r_iconst C dX5_stitchesAt_56 ?_
      refine r_iand C dX5_stitchesAt_57 ?_
      refine r_iadd C dX5_stitchesAt_58 ?_
      refine r_istore_n C dX5_stitchesAt_59 (by decide) rfl ?_
      refine r_iinc C dX5_stitchesAt_60 rfl (by decide) rfl ?_
      refine r_goto (tgt := 45) C dX5_stitchesAt_63 (by decide) ?_
      exact K2
  · skip
    refine r_iload_n C dX5_stitchesAt_0 rfl ?_
    refine r_if_ne (tgt := 8) C dX5_stitchesAt_1 (by decide) (by omega) (fun c1 => ?_) (fun c1 => ?_)
    · have hand := and_r (v8 _ (L2 (k - 1) (by omega) (by omega)).1 (L2 (k - 1) (by omega) (by omega)).2) (v8 _ (L2 k (by omega) (by omega)).1 (L2 k (by omega) (by omega)).2)
      refine r_aload_n C dX5_stitchesAt_8 rfl ?_
      refine gf_X5_7 C M1 dX5_stitchesAt_9 ?_
      refine r_bipush C dX5_stitchesAt_12 rfl ?_
      refine r_aload_n C dX5_stitchesAt_14 rfl ?_
      refine gf_X5_16 C M1 dX5_stitchesAt_15 ?_
      refine r_iload_n C dX5_stitchesAt_18 rfl ?_
      refine r_iconst C dX5_stitchesAt_19 ?_
      refine r_isub C dX5_stitchesAt_20 ?_
      refine r_iald C Mr (by omega) (by omega) dX5_stitchesAt_21 ?_
      refine r_iadd C dX5_stitchesAt_22 ?_
      refine r_iald C Ms (by have := L2 (k - 1) (by omega) (by omega); omega) (by have := L2 (k - 1) (by omega) (by omega); omega) dX5_stitchesAt_23 ?_
      refine r_aload_n C dX5_stitchesAt_24 rfl ?_
      refine gf_X5_7 C M1 dX5_stitchesAt_25 ?_
      refine r_bipush C dX5_stitchesAt_28 rfl ?_
      refine r_aload_n C dX5_stitchesAt_30 rfl ?_
      refine gf_X5_16 C M1 dX5_stitchesAt_31 ?_
      refine r_iload_n C dX5_stitchesAt_34 rfl ?_
      refine r_iald C Mr (by omega) (by omega) dX5_stitchesAt_35 ?_
      refine r_iadd C dX5_stitchesAt_36 ?_
      refine r_iald C Ms (by have := L2 k hk hk2; omega) (by have := L2 k hk hk2; omega) dX5_stitchesAt_37 ?_
      refine r_iand C dX5_stitchesAt_38 ?_
      exact J (iAnd ((fun j => μ (q + 1) (54 + j)) ((μ (q + 3)) (k - 1))) ((fun j => μ (q + 1) (54 + j)) ((μ (q + 3)) k))) hand.1 hand.2 (if_neg c1)
    · skip
      refine r_iconst C dX5_stitchesAt_4 ?_
      refine r_goto (tgt := 39) C dX5_stitchesAt_5 (by decide) ?_
      exact J 0 (by omega) (by omega) (by rw [show stA (fun j => μ (q + 1) (54 + j)) (μ (q + 3)) k = 0 from if_pos c1]; decide)
set_option maxRecDepth 20000 in
set_option maxHeartbeats 2000000 in
theorem kX5_stitches {V : Wo} {μ : Mem} {q : Nat} (hM : MoS V q) {K : Int} (hv : veW K (μ (q + 1))) (hL : LaW μ q) : Con V 1 yX5_stitches cX5_stitches 3 (some .int) [vR q] (μ) (QI V (stS (fun j => μ (q + 1) (54 + j)) (μ (q + 3)) (μ q 12)) (μ)) := by
  refine con_of (ls0 := [vR q, vU, vU]) (by decide +kernel) rfl (Nat.le_of_ble_eq_true rfl) (Nat.le_of_ble_eq_true rfl) (fun X hV C hF => ?_)
  subst hV
  have C : Ok X RX5 cX5_stitches 3 1 := C
  obtain ⟨M0, M1, Ms, Mt, Mr, Md, Ml⟩ := id hM
  obtain ⟨v0, v1, v2, v3, v4, v5, v6, v7, v8, v9, v10⟩ := id hv
  obtain ⟨L0, L1, L2, L3⟩ := id hL
  refine r_iconst C dX5_stitches_0 ?_
  refine r_istore_n C dX5_stitches_1 (by decide) rfl ?_
  refine r_iconst C dX5_stitches_2 ?_
  refine r_istore_n C dX5_stitches_3 (by decide) rfl ?_
  suffices hQ : RR X μ 4 [vR q, vI (sm (fun k => stA (fun j => μ (q + 1) (54 + j)) (μ (q + 3)) k) 1), vI 1] [] from hQ
  refine loop_ge (F := fun i => RR X μ 4 [vR q, vI (sm (fun k => stA (fun j => μ (q + 1) (54 + j)) (μ (q + 3)) k) i), vI i] []) (a := 1) (n := (μ q 12)) ?_ ?_
  · intro i g0 g1 g2
    show RR X _ _ [vR q, vI (sm (fun k => stA (fun j => μ (q + 1) (54 + j)) (μ (q + 3)) k) i), vI i] []
    refine r_iload_n C dX5_stitches_4 rfl ?_
    refine r_aload_n C dX5_stitches_5 rfl ?_
    refine gf_X5_33 C M1 dX5_stitches_6 ?_
    refine r_icmp_ge (tgt := 26) C dX5_stitches_9 (by decide) (by omega) (by omega) (fun c9 => ?_) (fun c9 => absurd c9 (by omega))
    refine r_iload_n C dX5_stitches_26 rfl ?_
    exact r_iret C hF dX5_stitches_27 (by
      unfold stS
      rcases (by omega : i = (μ q 12) ∨ (i = 1 ∧ (μ q 12) = 0)) with e | ⟨e, e2⟩
      · rw [e]
      · rw [e, e2]; rfl) rfl
  · intro i h0 h1 K2
    show RR X _ _ [vR q, vI (sm (fun k => stA (fun j => μ (q + 1) (54 + j)) (μ (q + 3)) k) i), vI i] []
    rw [sm_s _ (by omega)] at K2
    refine r_iload_n C dX5_stitches_4 rfl ?_
    refine r_aload_n C dX5_stitches_5 rfl ?_
    refine gf_X5_33 C M1 dX5_stitches_6 ?_
    refine r_icmp_ge (tgt := 26) C dX5_stitches_9 (by decide) (by omega) (by omega) (fun c9 => absurd c9 (by omega)) (fun c9 => ?_)
    refine r_iload_n C dX5_stitches_12 rfl ?_
    refine r_aload_n C dX5_stitches_13 rfl ?_
    refine r_iload_n C dX5_stitches_14 rfl ?_
    refine r_runI (fun aH aL aj a1 a2 a3 => run_V C hF.2.2.1 (kX5_stitchesAt hM hv hL (by omega) h1) lm_X5_stitchesAt ml_X5_62 im_X5_stitchesAt se_X5_stitchesAt M1 rfl (Nat.le_of_ble_eq_true rfl) dX5_stitches_15 rfl (Nat.le_of_ble_eq_true rfl) a1 a2 a3) ?_
    refine r_iadd C dX5_stitches_18 ?_
    refine r_istore_n C dX5_stitches_19 (by decide) rfl ?_
    refine r_iinc C dX5_stitches_20 rfl (by decide) rfl ?_
    refine r_goto (tgt := 4) C dX5_stitches_23 (by decide) ?_
    exact K2
set_option maxRecDepth 20000 in
set_option maxHeartbeats 2000000 in
theorem kX5_loose {V : Wo} {μ : Mem} {q : Nat} (hM : MoS V q) {K : Int} (hv : veW K (μ (q + 1))) (hL : LaW μ q) : Con V 1 yX5_loose cX5_loose 3 (some .int) [vR q] (μ) (QI V (lsS (fun j => μ (q + 1) (54 + j)) (μ (q + 3)) (μ q 12)) (μ)) := by
  refine con_of (ls0 := [vR q, vU, vU]) (by decide +kernel) rfl (Nat.le_of_ble_eq_true rfl) (Nat.le_of_ble_eq_true rfl) (fun X hV C hF => ?_)
  subst hV
  have C : Ok X RX5 cX5_loose 3 1 := C
  obtain ⟨M0, M1, Ms, Mt, Mr, Md, Ml⟩ := id hM
  obtain ⟨v0, v1, v2, v3, v4, v5, v6, v7, v8, v9, v10⟩ := id hv
  obtain ⟨L0, L1, L2, L3⟩ := id hL
  refine r_iconst C dX5_loose_0 ?_
  refine r_istore_n C dX5_loose_1 (by decide) rfl ?_
  refine r_iconst C dX5_loose_2 ?_
  refine r_istore_n C dX5_loose_3 (by decide) rfl ?_
  suffices hQ : RR X μ 4 [vR q, vI (cn (fun k => k ≠ 0 ∧ stA (fun j => μ (q + 1) (54 + j)) (μ (q + 3)) k = 0) 1), vI 1] [] from hQ
  refine loop_ge (F := fun i => RR X μ 4 [vR q, vI (cn (fun k => k ≠ 0 ∧ stA (fun j => μ (q + 1) (54 + j)) (μ (q + 3)) k = 0) i), vI i] []) (a := 1) (n := (μ q 12)) ?_ ?_
  · intro i g0 g1 g2
    show RR X _ _ [vR q, vI (cn (fun k => k ≠ 0 ∧ stA (fun j => μ (q + 1) (54 + j)) (μ (q + 3)) k = 0) i), vI i] []
    refine r_iload_n C dX5_loose_4 rfl ?_
    refine r_aload_n C dX5_loose_5 rfl ?_
    refine gf_X5_33 C M1 dX5_loose_6 ?_
    refine r_icmp_ge (tgt := 34) C dX5_loose_9 (by decide) (by omega) (by omega) (fun c9 => ?_) (fun c9 => absurd c9 (by omega))
    refine r_iload_n C dX5_loose_34 rfl ?_
    exact r_iret C hF dX5_loose_35 (by
      unfold lsS
      rcases (by omega : i = (μ q 12) ∨ (i = 1 ∧ (μ q 12) = 0)) with e | ⟨e, e2⟩
      · rw [e]
      · rw [e, e2]; rfl) rfl
  · intro i h0 h1 K2
    show RR X _ _ [vR q, vI (cn (fun k => k ≠ 0 ∧ stA (fun j => μ (q + 1) (54 + j)) (μ (q + 3)) k = 0) i), vI i] []
    rw [cn_s _ (by omega)] at K2
    refine r_iload_n C dX5_loose_4 rfl ?_
    refine r_aload_n C dX5_loose_5 rfl ?_
    refine gf_X5_33 C M1 dX5_loose_6 ?_
    refine r_icmp_ge (tgt := 34) C dX5_loose_9 (by decide) (by omega) (by omega) (fun c9 => absurd c9 (by omega)) (fun c9 => ?_)
    refine r_iload_n C dX5_loose_12 rfl ?_
    refine r_aload_n C dX5_loose_13 rfl ?_
    refine r_iload_n C dX5_loose_14 rfl ?_
    refine r_runI (fun aH aL aj a1 a2 a3 => run_V C hF.2.2.1 (kX5_stitchesAt hM hv hL (by omega) h1) lm_X5_stitchesAt ml_X5_62 im_X5_stitchesAt se_X5_stitchesAt M1 rfl (Nat.le_of_ble_eq_true rfl) dX5_loose_15 rfl (Nat.le_of_ble_eq_true rfl) a1 a2 a3) ?_
    refine r_if_ne (tgt := 25) C dX5_loose_18 (by decide) (by have := stA_r (ho := (fun j => μ (q + 1) (54 + j))) (a := (μ (q + 3))) (fun j j0 j1 => v8 j j0 j1) L2 (by omega : 0 ≤ i) h1; omega) (fun c18 => ?_) (fun c18 => ?_)
    · skip
      refine r_iconst C dX5_loose_25 ?_
      refine r_iadd C dX5_loose_26 ?_
      refine r_istore_n C dX5_loose_27 (by decide) rfl ?_
      refine r_iinc C dX5_loose_28 rfl (by decide) rfl ?_
      refine r_goto (tgt := 4) C dX5_loose_31 (by decide) ?_
      rw [b01_f (fun z => c18 z.2)] at K2
      exact K2
    · skip
      refine r_iconst C dX5_loose_21 ?_
      refine r_goto (tgt := 26) C dX5_loose_22 (by decide) ?_
      refine r_iadd C dX5_loose_26 ?_
      refine r_istore_n C dX5_loose_27 (by decide) rfl ?_
      refine r_iinc C dX5_loose_28 rfl (by decide) rfl ?_
      refine r_goto (tgt := 4) C dX5_loose_31 (by decide) ?_
      rw [b01_t ⟨by omega, c18⟩] at K2
      exact K2
set_option maxRecDepth 20000 in
set_option maxHeartbeats 2000000 in
theorem kX5_span {V : Wo} {μ : Mem} {m : Int} (hm : 1 ≤ m) (hm2 : m ≤ 31) : Con V 0 yX5_span cX5_span 3 (some .int) [vI m] (μ) (QI V (spn m) (μ)) := by
  refine con_of (ls0 := [vI m, vU, vU]) (by decide +kernel) rfl (Nat.le_of_ble_eq_true rfl) (Nat.le_of_ble_eq_true rfl) (fun X hV C hF => ?_)
  subst hV
  have C : Ok X RX5 cX5_span 3 0 := C
  obtain ⟨f1, f2, f3, f4, f5⟩ := sp_f hm hm2
  refine r_iconst C dX5_span_0 ?_
  refine r_istore_n C dX5_span_1 (by decide) rfl ?_
  refine r_iconst C dX5_span_2 ?_
  refine r_istore_n C dX5_span_3 (by decide) rfl ?_
  suffices hQ : RR X μ 4 [vI m, vI 0, vI 4] [] from hQ
  refine loop_up (F := fun i => RR X μ 4 [vI m, vI i, vI 4] []) (a := 0) (b := lo m) f1.1 ?_ ?_
  · show RR X _ _ [vI m, vI (lo m), vI 4] []
    refine r_iload_n C dX5_span_4 rfl ?_
    refine r_iload_n C dX5_span_5 rfl ?_
    refine r_ishr C dX5_span_6 ?_
    refine r_iconst C dX5_span_7 ?_
    refine r_iand C dX5_span_8 ?_
    refine r_if_ne (tgt := 18) C dX5_span_9 (by decide) (by have := bit_r (by omega : 0 ≤ m) hm2 f1.1 (by omega); exact ⟨by show -2147483648 ≤ bit m (lo m); omega, by show bit m (lo m) < 2147483648; omega⟩) (fun c9 => ?_) (fun c9 => absurd c9 f2)
    suffices hQ : RR X μ 18 [vI m, vI (lo m), vI 4] [] from hQ
    refine loop_dn (F := fun i => RR X μ 18 [vI m, vI (lo m), vI i] []) (a := hi m) (b := 4) f1.2.2 ?_ ?_
    · show RR X _ _ [vI m, vI (lo m), vI (hi m)] []
      refine r_iload_n C dX5_span_18 rfl ?_
      refine r_iload_n C dX5_span_19 rfl ?_
      refine r_ishr C dX5_span_20 ?_
      refine r_iconst C dX5_span_21 ?_
      refine r_iand C dX5_span_22 ?_
      refine r_if_ne (tgt := 32) C dX5_span_23 (by decide) (by have := bit_r (by omega : 0 ≤ m) hm2 (by omega : 0 ≤ hi m) (by omega); exact ⟨by show -2147483648 ≤ bit m (hi m); omega, by show bit m (hi m) < 2147483648; omega⟩) (fun c23 => ?_) (fun c23 => absurd c23 f3)
      refine r_iload_n C dX5_span_32 rfl ?_
      refine r_iload_n C dX5_span_33 rfl ?_
      refine r_isub C dX5_span_34 ?_
      exact r_iret C hF dX5_span_35 rfl rfl
    · intro i h0 h1 K2
      show RR X _ _ [vI m, vI (lo m), vI i] []
      have z0 := f5 i h0 h1
      refine r_iload_n C dX5_span_18 rfl ?_
      refine r_iload_n C dX5_span_19 rfl ?_
      refine r_ishr C dX5_span_20 ?_
      refine r_iconst C dX5_span_21 ?_
      refine r_iand C dX5_span_22 ?_
      refine r_if_ne (tgt := 32) C dX5_span_23 (by decide) (by show inR (bit m i); omega) (fun c23 => absurd c23 (fun z => z z0)) (fun c23 => ?_)
      refine r_iinc C dX5_span_26 rfl (by decide) rfl ?_
      refine r_goto (tgt := 18) C dX5_span_29 (by decide) ?_
      exact K2
  · intro i h0 h1 K2
    show RR X _ _ [vI m, vI i, vI 4] []
    have z0 := f4 i h0 h1
    refine r_iload_n C dX5_span_4 rfl ?_
    refine r_iload_n C dX5_span_5 rfl ?_
    refine r_ishr C dX5_span_6 ?_
    refine r_iconst C dX5_span_7 ?_
    refine r_iand C dX5_span_8 ?_
    refine r_if_ne (tgt := 18) C dX5_span_9 (by decide) (by show inR (bit m i); omega) (fun c9 => absurd c9 (fun z => z z0)) (fun c9 => ?_)
    refine r_iinc C dX5_span_12 rfl (by decide) rfl ?_
    refine r_goto (tgt := 4) C dX5_span_15 (by decide) ?_
    exact K2
set_option maxRecDepth 20000 in
set_option maxHeartbeats 2000000 in
theorem kX5_thread {V : Wo} {μ : Mem} {q : Nat} (hM : MoS V q) {K : Int} (hv : veW K (μ (q + 1))) (hL : LaW μ q) : Con V 2 yX5_thread cX5_thread 3 (some .int) [vR q] (μ) (QI V (thS (μ (q + 1) 2) (fun j => μ (q + 1) (54 + j)) (μ (q + 3)) (μ q 12)) (μ)) := by
  refine con_of (ls0 := [vR q, vU, vU]) (by decide +kernel) rfl (Nat.le_of_ble_eq_true rfl) (Nat.le_of_ble_eq_true rfl) (fun X hV C hF => ?_)
  subst hV
  have C : Ok X RX5 cX5_thread 3 2 := C
  obtain ⟨M0, M1, Ms, Mt, Mr, Md, Ml⟩ := id hM
  obtain ⟨v0, v1, v2, v3, v4, v5, v6, v7, v8, v9, v10⟩ := id hv
  obtain ⟨L0, L1, L2, L3⟩ := id hL
  refine r_aload_n C dX5_thread_0 rfl ?_
  refine gf_X5_7 C M1 dX5_thread_1 ?_
  refine r_iconst C dX5_thread_4 ?_
  refine r_iald C Ms (by omega) (by omega) dX5_thread_5 ?_
  refine r_aload_n C dX5_thread_6 rfl ?_
  refine r_runI (fun aH aL aj a1 a2 a3 => run_V C hF.2.2.1 (kX5_stitches hM hv hL) lm_X5_stitches ml_X5_65 im_X5_stitches se_X5_stitches M1 rfl (Nat.le_of_ble_eq_true rfl) dX5_thread_7 rfl (Nat.le_of_ble_eq_true rfl) a1 a2 a3) ?_
  refine r_imul C dX5_thread_10 ?_
  refine r_istore_n C dX5_thread_11 (by decide) rfl ?_
  refine r_iconst C dX5_thread_12 ?_
  refine r_istore_n C dX5_thread_13 (by decide) rfl ?_
  refine r_loc (ls' := [vR q, vI (stS (fun j => μ (q + 1) (54 + j)) (μ (q + 3)) (μ q 12) * (μ (q + 1) 2) + sm (fun k => spn ((fun j => μ (q + 1) (54 + j)) ((μ (q + 3)) k))) 0), vI 0]) ?_ (by rw [sm_0, Int.add_zero, Int.mul_comm]; rfl)
  refine loop_up (F := fun i => RR X μ 14 [vR q, vI (stS (fun j => μ (q + 1) (54 + j)) (μ (q + 3)) (μ q 12) * (μ (q + 1) 2) + sm (fun k => spn ((fun j => μ (q + 1) (54 + j)) ((μ (q + 3)) k))) i), vI i] []) (a := 0) (b := (μ q 12)) L0 ?_ ?_
  · show RR X _ _ [vR q, vI (stS (fun j => μ (q + 1) (54 + j)) (μ (q + 3)) (μ q 12) * (μ (q + 1) 2) + sm (fun k => spn ((fun j => μ (q + 1) (54 + j)) ((μ (q + 3)) k))) (μ q 12)), vI (μ q 12)] []
    refine r_iload_n C dX5_thread_14 rfl ?_
    refine r_aload_n C dX5_thread_15 rfl ?_
    refine gf_X5_33 C M1 dX5_thread_16 ?_
    refine r_icmp_ge (tgt := 48) C dX5_thread_19 (by decide) (by omega) (by omega) (fun c19 => ?_) (fun c19 => absurd c19 (by omega))
    refine r_iload_n C dX5_thread_48 rfl ?_
    exact r_iret C hF dX5_thread_49 rfl rfl
  · intro i h0 h1 K2
    show RR X _ _ [vR q, vI (stS (fun j => μ (q + 1) (54 + j)) (μ (q + 3)) (μ q 12) * (μ (q + 1) 2) + sm (fun k => spn ((fun j => μ (q + 1) (54 + j)) ((μ (q + 3)) k))) i), vI i] []
    rw [sm_s _ h0, ← Int.add_assoc] at K2
    refine r_iload_n C dX5_thread_14 rfl ?_
    refine r_aload_n C dX5_thread_15 rfl ?_
    refine gf_X5_33 C M1 dX5_thread_16 ?_
    refine r_icmp_ge (tgt := 48) C dX5_thread_19 (by decide) (by omega) (by omega) (fun c19 => absurd c19 (by omega)) (fun c19 => ?_)
    refine r_iload_n C dX5_thread_22 rfl ?_
    refine r_aload_n C dX5_thread_23 rfl ?_
    refine gf_X5_7 C M1 dX5_thread_24 ?_
    refine r_bipush C dX5_thread_27 rfl ?_
    refine r_aload_n C dX5_thread_29 rfl ?_
    refine gf_X5_16 C M1 dX5_thread_30 ?_
    refine r_iload_n C dX5_thread_33 rfl ?_
    refine r_iald C Mr (by omega) (by omega) dX5_thread_34 ?_
    refine r_iadd C dX5_thread_35 ?_
    refine r_iald C Ms (by have := L2 i h0 h1; omega) (by have := L2 i h0 h1; omega) dX5_thread_36 ?_
    refine r_runI (fun aH aL aj a1 a2 a3 => run_S C hF.2.2.1 (kX5_span (v8 _ (L2 i h0 h1).1 (L2 i h0 h1).2).1 (v8 _ (L2 i h0 h1).1 (L2 i h0 h1).2).2) lm_X5_span ml_X5_68 sm_X5_span (Nat.le_of_ble_eq_true rfl) dX5_thread_37 rfl (Nat.le_of_ble_eq_true rfl) a1 a2 a3) ?_
    refine r_iadd C dX5_thread_40 ?_
    refine r_istore_n C dX5_thread_41 (by decide) rfl ?_
    refine r_iinc C dX5_thread_42 rfl (by decide) rfl ?_
    refine r_goto (tgt := 14) C dX5_thread_45 (by decide) ?_
    exact K2
