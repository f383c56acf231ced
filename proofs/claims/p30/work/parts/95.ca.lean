/-! an object as the law sees it: its state u, its snapshot z, the states saved last st -/
def CA (V : Wo) (K : Int) (q : Nat) (μ0 : Mem) (u z : Int → Int) (sv : Int) (st : List (Int → Int)) (ν : Mem) : Prop := (∃ w tx, CI V K q ν w tx sv 1 0 ∧ Lw w u ∧ Lw (seg w 7) z ∧ Stk w sv st) ∧ ∀ r, (r < q ∨ q + 112 < r) → ν r = μ0 r
theorem con_mI {V : Wo} {d maxL : Nat} {y : MethodName} {b : ByteArray} {rt : Option FieldType} {as : List AV} {μ : Mem} {x x' : Int} {P P' : Mem → Prop} (h : Con V d y b maxL rt as μ (QIr V x P)) (e : x = x') (hp : ∀ ν, P ν → P' ν) : Con V d y b maxL rt as μ (QIr V x' P') := fun l hl =>
  MetFree.mono (h l hl) (fun _ _ g => g) (fun _ _ _ _ _ g => g) (fun a s o t _ g => ⟨⟨by
    obtain ⟨⟨⟨r, m, g1, ⟨g2, g3⟩, g4⟩, -⟩, -⟩ := g
    exact ⟨r, m, g1, ⟨e ▸ g2, hp m g3⟩, g4⟩, g.1.2⟩, g.2⟩)
theorem con_mD {V : Wo} {d maxL : Nat} {y : MethodName} {b : ByteArray} {rt : Option FieldType} {as : List AV} {μ : Mem} {x x' : UInt64} {P P' : Mem → Prop} (h : Con V d y b maxL rt as μ (QDr V x P)) (e : x = x') (hp : ∀ ν, P ν → P' ν) : Con V d y b maxL rt as μ (QDr V x' P') := fun l hl =>
  MetFree.mono (h l hl) (fun _ _ g => g) (fun _ _ _ _ _ g => g) (fun a s o t _ g => ⟨⟨by
    obtain ⟨⟨⟨r, m, g1, ⟨g2, g3⟩, g4⟩, -⟩, -⟩ := g
    exact ⟨r, m, g1, ⟨e ▸ g2, hp m g3⟩, g4⟩, g.1.2⟩, g.2⟩)
section CAs
variable {V : Wo} {K : Int} {q : Nat} {μ0 μ : Mem} {u z : Int → Int} {sv : Int} {st : List (Int → Int)}
theorem ca_q (h : CA V K q μ0 u z sv st μ) : woS V q = some (.inl 4) := by
  obtain ⟨⟨w, tx, hC, -⟩, -⟩ := h
  exact hC.1.2.1
theorem ca_u (h : CA V K q μ0 u z sv st μ) : veW K u := by
  obtain ⟨⟨w, tx, hC, hu, -⟩, -⟩ := h
  exact lw_v hC.2.1.1 hu
theorem ca_z (h : CA V K q μ0 u z sv st μ) : veW K z := by
  obtain ⟨⟨w, tx, hC, hu, hz, -⟩, -⟩ := h
  exact lw_v (hC.2.2.1.2.2 rfl).1 hz
theorem ca_s (h : CA V K q μ0 u z sv st μ) : 0 ≤ sv ∧ sv ≤ 6 := by
  obtain ⟨⟨w, tx, hC, -⟩, -⟩ := h
  exact hC.2.2.2.1.1
theorem ca_o (h : CA V K q μ0 u z sv st μ) : ∀ r, (r < q ∨ q + 112 < r) → μ r = μ0 r := h.2
theorem ca_mono {K' : Int} (h : CA V K q μ0 u z sv st μ) (h1 : K ≤ K') (h2 : K' ≤ 1000000) : CA V K' q μ0 u z sv st μ := by
  obtain ⟨⟨w, tx, hC, hu, hz, hs⟩, ho⟩ := h
  exact ⟨⟨w, tx, CI_now hC (fun _ _ => rfl) (veW_mono hC.2.1.1 h1 h2) hC.2.1.2 (fun _ _ => rfl) h1 h2, hu, hz, hs⟩, ho⟩
theorem stk_nil (w : Int → Int) (sv : Int) : Stk w sv [] := by
  unfold Stk
  trivial
theorem ca_drop (h : CA V K q μ0 u z sv st μ) : CA V K q μ0 u z sv [] μ := by
  obtain ⟨⟨w, tx, hC, hu, hz, hs⟩, ho⟩ := h
  exact ⟨⟨w, tx, hC, hu, hz, stk_nil w sv⟩, ho⟩
theorem ca_op {K' : Int} {w w' tx u' : Int → Int} {ν : Mem} (hC : CI V K' q ν w' tx (sv1 sv) 1 0) (h06 : 0 ≤ sv ∧ sv ≤ 6) (hl : st.length ≤ 5) (hu : Lw w u) (hz : Lw (seg w 7) z) (hs : Stk w sv st) (hlow : Lw w' u') (hhi : ∀ j, 110 ≤ j → w' j = mSav w sv j) (ho : ∀ r, (r < q ∨ q + 112 < r) → ν r = μ0 r) : CA V K' q μ0 u' z (sv1 sv) (u :: st) ν :=
  ⟨⟨w', tx, hC, hlow, lw_t (lw_hi hhi (by decide)) (lw7_sav h06.1 h06.2 hz), stk_f _ _ (fun k k1 _ => lw_hi hhi k1) (stk_sav h06.1 h06.2 hl hu hs)⟩, ho⟩
theorem kA_gather (h : CA V K q μ0 u z sv st μ) (hl : st.length ≤ 5) (hK : K + 20 ≤ 1000000) {x : Int} (hx : 0 ≤ x ∧ x < 16) (hh : 0 < u (6 + x) ∧ u 3 < 20) : Con V 5 yX4_gather cX4_gather 2 (some .int) [vR q, vI x] μ (QIr V (u 3 + 1) (CA V (K + 20) q μ0 (mIns u (u 3) x) z (sv1 sv) (u :: st))) := by
  have hv := ca_u h
  have hN := veW_N hv
  have h3 := veW_3 hv
  obtain ⟨⟨w, tx, hC, hu, hz, hs⟩, ho⟩ := h
  have h06 := hC.2.2.2.1.1
  have e3 := hu 3 (by omega) (by omega)
  have hS := lw_sav (sv := sv) h06.1 hu
  have s3 := hS 3 (by omega) (by omega)
  have ex := hu (6 + x) (by omega) (by omega)
  refine con_mI (kX4_gather_0 hC hK (by omega) hx (by omega)) (by omega) (fun ν g => ca_op g.1 h06 hl hu hz hs (by rw [e3]; exact lw_ins hS (by omega) (Int.le_refl _) hh.2 hx.1 hx.2) (fun j hj => mIns_hi (by omega) (by omega) (by omega) hx.2 hj) (fun r hr => (g.2 r hr).trans (ho r hr)))
theorem kA_insert (h : CA V K q μ0 u z sv st μ) (hl : st.length ≤ 5) (hK : K + 20 ≤ 1000000) {p x : Int} (hp : 0 ≤ p ∧ p ≤ u 3) (hx : 0 ≤ x ∧ x < 16) (hh : 0 < u (6 + x) ∧ u 3 < 20) : Con V 5 yX4_insert cX4_insert 3 (some .int) [vR q, vI p, vI x] μ (QIr V (u 3 + 1) (CA V (K + 20) q μ0 (mIns u p x) z (sv1 sv) (u :: st))) := by
  have hv := ca_u h
  have hN := veW_N hv
  have h3 := veW_3 hv
  obtain ⟨⟨w, tx, hC, hu, hz, hs⟩, ho⟩ := h
  have h06 := hC.2.2.2.1.1
  have e3 := hu 3 (by omega) (by omega)
  have hS := lw_sav (sv := sv) h06.1 hu
  have s3 := hS 3 (by omega) (by omega)
  have ex := hu (6 + x) (by omega) (by omega)
  refine con_mI (kX4_insert_0 hC hK (by omega) (by omega) (by omega) hx (by omega)) (by omega) (fun ν g => ca_op g.1 h06 hl hu hz hs (lw_ins hS hp.1 hp.2 hh.2 hx.1 hx.2) (fun j hj => mIns_hi hp.1 (by omega) (by omega) hx.2 hj) (fun r hr => (g.2 r hr).trans (ho r hr)))
theorem kA_pull (h : CA V K q μ0 u z sv st μ) (hl : st.length ≤ 5) (hK : K + 20 ≤ 1000000) {p : Int} (hp : 0 ≤ p ∧ p < u 3) : Con V 5 yX4_pull cX4_pull 2 (some .int) [vR q, vI p] μ (QIr V (u (70 + p)) (CA V (K + 20) q μ0 (mPul u p) z (sv1 sv) (u :: st))) := by
  have hv := ca_u h
  have hN := veW_N hv
  have h3 := veW_3 hv
  obtain ⟨⟨w, tx, hC, hu, hz, hs⟩, ho⟩ := h
  have h06 := hC.2.2.2.1.1
  have e3 := hu 3 (by omega) (by omega)
  have hS := lw_sav (sv := sv) h06.1 hu
  have s3 := hS 3 (by omega) (by omega)
  have hn : 0 ≤ u (70 + p) ∧ u (70 + p) < 16 := hN p hp.1 hp.2
  have sp := hS (70 + p) (by omega) (by omega)
  refine con_mI (kX4_pull_0 hC hK (by omega) (by omega)) (hu (70 + p) (by omega) (by omega)) (fun ν g => ca_op g.1 h06 hl hu hz hs (lw_pul hS hp.1 hp.2 h3.2 hn.1 hn.2) (fun j hj => mPul_hi hp.1 (by omega) (by omega) hj) (fun r hr => (g.2 r hr).trans (ho r hr)))
theorem kA_flip (h : CA V K q μ0 u z sv st μ) (hl : st.length ≤ 5) (hK : K + 20 ≤ 1000000) {p : Int} (hp : 0 ≤ p ∧ p < u 3) : Con V 5 yX4_flip cX4_flip 2 (some .int) [vR q, vI p] μ (QIr V (mk (u 1) (u (70 + p)) (1 - u (90 + p))) (CA V (K + 20) q μ0 (mFli u p) z (sv1 sv) (u :: st))) := by
  have hv := ca_u h
  have hN := veW_N hv
  have h3 := veW_3 hv
  obtain ⟨⟨w, tx, hC, hu, hz, hs⟩, ho⟩ := h
  have h06 := hC.2.2.2.1.1
  have e3 := hu 3 (by omega) (by omega)
  have hS := lw_sav (sv := sv) h06.1 hu
  have s3 := hS 3 (by omega) (by omega)
  refine con_mI (kX4_flip_0 hC hK (by omega) (by omega)) (by rw [hu 1 (by omega) (by omega), hu (70 + p) (by omega) (by omega), hu (90 + p) (by omega) (by omega)]) (fun ν g => ca_op g.1 h06 hl hu hz hs (lw_fli hS hp.1 (by omega)) (fun j hj => mFli_hi (by omega) hj) (fun r hr => (g.2 r hr).trans (ho r hr)))
theorem kA_move (h : CA V K q μ0 u z sv st μ) (hl : st.length ≤ 5) (hK : K + 20 ≤ 1000000) {p r : Int} (hp : 0 ≤ p ∧ p < u 3) (hr : 0 ≤ r ∧ r < u 3) : Con V 5 yX4_move cX4_move 3 (some .int) [vR q, vI p, vI r] μ (QIr V (brks (u 1) (vN (mMov u p r)) (vD (mMov u p r)) (u 3)) (CA V (K + 20) q μ0 (mMov u p r) z (sv1 sv) (u :: st))) := by
  have hv := ca_u h
  have hN := veW_N hv
  have h3 := veW_3 hv
  obtain ⟨⟨w, tx, hC, hu, hz, hs⟩, ho⟩ := h
  have h06 := hC.2.2.2.1.1
  have e3 := hu 3 (by omega) (by omega)
  have hS := lw_sav (sv := sv) h06.1 hu
  have s3 := hS 3 (by omega) (by omega)
  have hm := lw_mov (p := p) (r := r) hS hp.1 (by omega) hr.1 (by omega)
  refine con_mI (kX4_move_0 hC hK (by omega) (by omega) (by omega) (by omega)) (by rw [hu 1 (by omega) (by omega), e3]; exact brks_cong (fun i i0 i1 => hm (70 + i) (by omega) (by omega)) (fun i i0 i1 => hm (90 + i) (by omega) (by omega))) (fun ν g => ca_op g.1 h06 hl hu hz hs (hm) (fun j hj => mMov_hi hp.1 hr.1 (by omega) (by omega) hj) (fun r hr => (g.2 r hr).trans (ho r hr)))
theorem kA_bind (h : CA V K q μ0 u z sv st μ) (hl : st.length ≤ 5) (hK : K + 20 ≤ 1000000)  (hf : flt (u 0) (vN u) (vD u) (u 3) = 0) : Con V 5 yX4_bind cX4_bind 1 (some .int) [vR q] μ (QIr V (u 4 + 1) (CA V (K + 20) q μ0 (mBin u) z (sv1 sv) (u :: st))) := by
  have hv := ca_u h
  have hN := veW_N hv
  have h3 := veW_3 hv
  obtain ⟨⟨w, tx, hC, hu, hz, hs⟩, ho⟩ := h
  have h06 := hC.2.2.2.1.1
  have e3 := hu 3 (by omega) (by omega)
  have hS := lw_sav (sv := sv) h06.1 hu
  have s3 := hS 3 (by omega) (by omega)
  refine con_mI (kX4_bind_0 hC hK (by rw [hu 0 (by omega) (by omega), e3, flt_cong (lw_N hv hu) (lw_D hv hu)]; exact hf)) (by rw [hu 4 (by omega) (by omega)]) (fun ν g => ca_op g.1 h06 hl hu hz hs (lw_bin hS h3.2) (fun j hj => by rw [mBin_e, if_neg (by omega), if_neg (by omega), if_neg (by omega)]) (fun r hr => (g.2 r hr).trans (ho r hr)))
theorem kA_print (h : CA V K q μ0 u z sv st μ) (hl : st.length ≤ 5) (hK : K + 20 ≤ 1000000) {x c : Int} (hx : 0 ≤ x ∧ x < 16) (hc : 1 ≤ c ∧ c ≤ 20) (hh : u (6 + x) + c ≤ 99) : Con V 5 yX4_print cX4_print 3 (some .int) [vR q, vI x, vI c] μ (QIr V (u (6 + x) + c) (CA V (K + 20) q μ0 (s1 (s1 u (6 + x) (u (6 + x) + c)) (38 + x) (u (38 + x) + c)) z (sv1 sv) (u :: st))) := by
  have hv := ca_u h
  have hN := veW_N hv
  have h3 := veW_3 hv
  obtain ⟨⟨w, tx, hC, hu, hz, hs⟩, ho⟩ := h
  have h06 := hC.2.2.2.1.1
  have e3 := hu 3 (by omega) (by omega)
  have hS := lw_sav (sv := sv) h06.1 hu
  have s3 := hS 3 (by omega) (by omega)
  have ex := hu (6 + x) (by omega) (by omega)
  have ey := hu (38 + x) (by omega) (by omega)
  refine con_mI (kX4_print_0 hC hK (by omega) (by omega) hx hc (by omega)) (by omega) (fun ν g => ca_op g.1 h06 hl hu hz hs (by rw [ex, ey]; exact lw_s1 (lw_s1 hS)) (fun j hj => by rw [s1_n _ _ (by omega), s1_n _ _ (by omega)]) (fun r hr => (g.2 r hr).trans (ho r hr)))
theorem kA_punch (h : CA V K q μ0 u z sv st μ) (hl : st.length ≤ 5) (hK : K + 20 ≤ 1000000) {x c : Int} (hx : 0 ≤ x ∧ x < 16) (hc : 1 ≤ c ∧ c ≤ 31) : Con V 5 yX4_punch cX4_punch 4 (some .int) [vR q, vI x, vI c] μ (QIr V (u (54 + x)) (CA V (K + 20) q μ0 (s1 u (54 + x) c) z (sv1 sv) (u :: st))) := by
  have hv := ca_u h
  have hN := veW_N hv
  have h3 := veW_3 hv
  obtain ⟨⟨w, tx, hC, hu, hz, hs⟩, ho⟩ := h
  have h06 := hC.2.2.2.1.1
  have e3 := hu 3 (by omega) (by omega)
  have hS := lw_sav (sv := sv) h06.1 hu
  have s3 := hS 3 (by omega) (by omega)
  refine con_mI (kX4_punch_0 hC hK (by omega) (by omega) hx hc) (hu (54 + x) (by omega) (by omega)) (fun ν g => ca_op g.1 h06 hl hu hz hs (lw_s1 hS) (fun j hj => s1_n _ _ (by omega)) (fun r hr => (g.2 r hr).trans (ho r hr)))
theorem kA_set (h : CA V K q μ0 u z sv st μ) (hl : st.length ≤ 5) (hK : K + 20 ≤ 1000000) {x c : Int} (hZ : ZS V μ) (hx : 0 ≤ x ∧ x < 3) (hc : sLo x ≤ c ∧ c ≤ sUp x) : Con V 5 yX4_set cX4_set 4 (some .int) [vR q, vI x, vI c] μ (QIr V (u x) (CA V (K + 20) q μ0 (s1 u x c) z (sv1 sv) (u :: st))) := by
  have hv := ca_u h
  have hN := veW_N hv
  have h3 := veW_3 hv
  obtain ⟨⟨w, tx, hC, hu, hz, hs⟩, ho⟩ := h
  have h06 := hC.2.2.2.1.1
  have e3 := hu 3 (by omega) (by omega)
  have hS := lw_sav (sv := sv) h06.1 hu
  have s3 := hS 3 (by omega) (by omega)
  have hlo := sLo_r x
  have hup := sUp_r x
  refine con_mI (kX4_set_0 hC hK (by omega) (by omega) hZ hx hc) (hu x (by omega) (by omega)) (fun ν g => ca_op g.1 h06 hl hu hz hs (lw_s1 hS) (fun j hj => s1_n _ _ (by omega)) (fun r hr => (g.2 r hr).trans (ho r hr)))
theorem kA_goBack (h : CA V K q μ0 u z sv st μ) (hl : st.length ≤ 5) (hK : K + 20 ≤ 1000000)   : Con V 5 yX4_goBack cX4_goBack 1 (some .int) [vR q] μ (QIr V (z 3) (CA V (K + 20) q μ0 (z) z (sv1 sv) (u :: st))) := by
  have hv := ca_u h
  have hN := veW_N hv
  have h3 := veW_3 hv
  obtain ⟨⟨w, tx, hC, hu, hz, hs⟩, ho⟩ := h
  have h06 := hC.2.2.2.1.1
  have e3 := hu 3 (by omega) (by omega)
  have hS := lw_sav (sv := sv) h06.1 hu
  have s3 := hS 3 (by omega) (by omega)
  refine con_mI (kX4_goBack_0 hC hK rfl) (hz 3 (by omega) (by omega)) (fun ν g => ca_op g.1 h06 hl hu hz hs (fun j j0 j1 => by
    refine Eq.trans ?_ (lw7_sav h06.1 h06.2 hz j j0 j1)
    show cpV (mSav w sv) 7 0 110 j = mSav w sv (110 * 7 + j)
    unfold cpV
    rw [if_pos (by omega), show j - 110 * 0 + 110 * 7 = 110 * 7 + j by omega]) (fun j hj => by unfold cpV; rw [if_neg (by omega)]) (fun r hr => (g.2 r hr).trans (ho r hr)))
theorem kA_undo {t : Int → Int} (h : CA V K q μ0 u z sv (t :: st) μ) : Con V 5 yX4_undo cX4_undo 1 (some .int) [vR q] μ (QIr V (sv - 1) (CA V K q μ0 t z (sv - 1) st)) := by
  obtain ⟨⟨w, tx, hC, hu, hz, hs⟩, ho⟩ := h
  have hi : ∀ j, 110 ≤ j → cpV w sv 0 110 j = w j := fun j hj => by unfold cpV; rw [if_neg (by omega)]
  refine con_mI (kX4_undo_0 hC hs.1) rfl (fun ν g => ⟨⟨_, tx, g.1, fun j j0 j1 => ?_, lw_t (lw_hi hi (by decide)) hz, stk_f _ _ (fun k k1 _ => lw_hi hi k1) hs.2.2⟩, fun r hr => (g.2 r hr).trans (ho r hr)⟩)
  refine Eq.trans ?_ (hs.2.1 j j0 j1)
  show cpV w sv 0 110 j = w (110 * sv + j)
  unfold cpV
  rw [if_pos (by omega), show j - 110 * 0 + 110 * sv = 110 * sv + j by omega]
theorem kA_keep (h : CA V K q μ0 u z sv st μ) : Con V 4 yX4_keep cX4_keep 1 (some .int) [vR q] μ (QIr V (u 3) (CA V K q μ0 u u sv [])) := by
  obtain ⟨⟨w, tx, hC, hu, hz, hs⟩, ho⟩ := h
  have h06 := hC.2.2.2.1.1
  refine con_mI (kX4_keep_0 hC) (hu 3 (by omega) (by omega)) (fun ν g => ⟨⟨_, tx, g.1, fun j j0 j1 => (cpV_lo (by omega) j1).trans (hu j j0 j1), fun j j0 j1 => ?_, stk_nil _ _⟩, fun r hr => (g.2 r hr).trans (ho r hr)⟩)
  refine Eq.trans ?_ (hu j j0 j1)
  show cpV w 0 7 110 (110 * 7 + j) = w j
  unfold cpV
  rw [if_pos (by omega), show 110 * 7 + j - 110 * 7 + 110 * 0 = j by omega]
theorem kA_count (h : CA V K q μ0 u z sv st μ) {a : Int} (ha : 0 ≤ a ∧ a ≤ 15) : Con V 5 yX4_count cX4_count 2 (some .int) [vR q, vI a] μ (QIr V (coT u sv a) (CA V K q μ0 u z sv st)) := by
  have hv := ca_u h
  have h3 := veW_3 hv
  obtain ⟨⟨w, tx, hC, hu, hz, hs⟩, ho⟩ := h
  have e3 := hu 3 (by omega) (by omega)
  exact con_mI (kX4_count_0 hC (by omega) ha) (coT_c hv hu) (fun ν g => ⟨⟨w, tx, g.1, hu, hz, hs⟩, fun r hr => (g.2 r hr).trans (ho r hr)⟩)
theorem kA_sheet (h : CA V K q μ0 u z sv st μ) {k a : Int} (hk : 0 ≤ k ∧ k < u 3) (ha : 0 ≤ a ∧ a ≤ 5) : Con V 5 yX4_sheet cX4_sheet 3 (some .int) [vR q, vI k, vI a] μ (QIr V (ofS u k a) (CA V K q μ0 u z sv st)) := by
  have hv := ca_u h
  have h3 := veW_3 hv
  obtain ⟨⟨w, tx, hC, hu, hz, hs⟩, ho⟩ := h
  have e3 := hu 3 (by omega) (by omega)
  exact con_mI (kX4_sheet_0 hC (by omega) (by omega) hk.1 ha (by omega)) (ofS_c hv hu hk.1 hk.2) (fun ν g => ⟨⟨w, tx, g.1, hu, hz, hs⟩, fun r hr => (g.2 r hr).trans (ho r hr)⟩)
theorem kA_sheet_n (h : CA V K q μ0 u z sv st μ) {k a : Int} (hk : u 3 ≤ k ∧ k < 1000) (ha : 0 ≤ a ∧ a ≤ 5) : Con V 5 yX4_sheet cX4_sheet 3 (some .int) [vR q, vI k, vI a] μ (QIr V (-1) (CA V K q μ0 u z sv st)) := by
  have hv := ca_u h
  have h3 := veW_3 hv
  obtain ⟨⟨w, tx, hC, hu, hz, hs⟩, ho⟩ := h
  have e3 := hu 3 (by omega) (by omega)
  exact con_mI (kX4_sheet_3 hC (by omega) (by omega) (by omega) ha (by omega)) (rfl) (fun ν g => ⟨⟨w, tx, g.1, hu, hz, hs⟩, fun r hr => (g.2 r hr).trans (ho r hr)⟩)
theorem kA_bin (h : CA V K q μ0 u z sv st μ) {x a : Int} (hx : 0 ≤ x ∧ x < 16) (ha : 0 ≤ a ∧ a ≤ 4) : Con V 2 yX4_bin cX4_bin 3 (some .int) [vR q, vI x, vI a] μ (QIr V (ofB u x a) (CA V K q μ0 u z sv st)) := by
  have hv := ca_u h
  have h3 := veW_3 hv
  obtain ⟨⟨w, tx, hC, hu, hz, hs⟩, ho⟩ := h
  have e3 := hu 3 (by omega) (by omega)
  exact con_mI (kX4_bin_0 hC (by omega) (by omega) hx ha) (ofB_c hv hu hx.1 hx.2) (fun ν g => ⟨⟨w, tx, g.1, hu, hz, hs⟩, fun r hr => (g.2 r hr).trans (ho r hr)⟩)
theorem kA_setting (h : CA V K q μ0 u z sv st μ) {x : Int} (hx : 0 ≤ x ∧ x < 3) : Con V 1 yX4_setting cX4_setting 2 (some .int) [vR q, vI x] μ (QIr V (u x) (CA V K q μ0 u z sv st)) := by
  have hv := ca_u h
  have h3 := veW_3 hv
  obtain ⟨⟨w, tx, hC, hu, hz, hs⟩, ho⟩ := h
  have e3 := hu 3 (by omega) (by omega)
  exact con_mI (kX4_setting_0 hC (by omega) hx) (hu x (by omega) (by omega)) (fun ν g => ⟨⟨w, tx, g.1, hu, hz, hs⟩, fun r hr => (g.2 r hr).trans (ho r hr)⟩)
theorem kA_nextMove (h : CA V K q μ0 u z sv st μ)   : Con V 4 yX4_nextMove cX4_nextMove 6 (some .int) [vR q] μ (QIr V (nmT u) (CA V K q μ0 u z sv st)) := by
  have hv := ca_u h
  have h3 := veW_3 hv
  obtain ⟨⟨w, tx, hC, hu, hz, hs⟩, ho⟩ := h
  have e3 := hu 3 (by omega) (by omega)
  exact con_mI (kX4_nextMove_c hC) (nmT_c hv hu) (fun ν g => ⟨⟨w, tx, g.1, hu, hz, hs⟩, fun r hr => (g.2 r hr).trans (ho r hr)⟩)
theorem kA_fits (h : CA V K q μ0 u z sv st μ)   : Con V 4 yX4_fits cX4_fits 3 (some .int) [vR q] μ (QIr V (fiT u) (CA V K q μ0 u z sv st)) := by
  have hv := ca_u h
  have h3 := veW_3 hv
  obtain ⟨⟨w, tx, hC, hu, hz, hs⟩, ho⟩ := h
  have e3 := hu 3 (by omega) (by omega)
  exact con_mI (kX4_fits_c hC) (fiT_c hv hu) (fun ν g => ⟨⟨w, tx, g.1, hu, hz, hs⟩, fun r hr => (g.2 r hr).trans (ho r hr)⟩)
theorem kA_books (h : CA V K q μ0 u z sv st μ)   : Con V 3 yX4_books cX4_books 3 (some .int) [vR q] μ (QIr V (poT u) (CA V K q μ0 u z sv st)) := by
  have hv := ca_u h
  have h3 := veW_3 hv
  obtain ⟨⟨w, tx, hC, hu, hz, hs⟩, ho⟩ := h
  have e3 := hu 3 (by omega) (by omega)
  exact con_mI (kX4_books_c hC) (poT_c hv hu) (fun ν g => ⟨⟨w, tx, g.1, hu, hz, hs⟩, fun r hr => (g.2 r hr).trans (ho r hr)⟩)
theorem kA_ifPulled (h : CA V K q μ0 u z sv st μ) {p a : Int} (hp : 0 ≤ p ∧ p < u 3) (ha : 0 ≤ a ∧ a ≤ 3) : Con V 5 yX4_ifPulled cX4_ifPulled 3 (some .int) [vR q, vI p, vI a] μ (QIr V (woT u p a) (CA V K q μ0 u z sv st)) := by
  have hv := ca_u h
  have h3 := veW_3 hv
  obtain ⟨⟨w, tx, hC, hu, hz, hs⟩, ho⟩ := h
  have e3 := hu 3 (by omega) (by omega)
  exact con_mI (kX4_ifPulled_0 hC (by omega) (by omega) (by omega) ha) (woT_c hv hu hp.1 hp.2) (fun ν g => ⟨⟨w, tx, g.1, hu, hz, hs⟩, fun r hr => (g.2 r hr).trans (ho r hr)⟩)
theorem kA_stairShare (h : CA V K q μ0 u z sv st μ)   : Con V 4 yX4_stairShare cX4_stairShare 2 (some .double) [vR q] μ (QDr V (shT u) (CA V K q μ0 u z sv st)) := by
  have hv := ca_u h
  have h3 := veW_3 hv
  obtain ⟨⟨w, tx, hC, hu, hz, hs⟩, ho⟩ := h
  have e3 := hu 3 (by omega) (by omega)
  exact con_mD (kX4_stairShare_c hC) (shT_c hv hu) (fun ν g => ⟨⟨w, tx, g.1, hu, hz, hs⟩, fun r hr => (g.2 r hr).trans (ho r hr)⟩)
end CAs
