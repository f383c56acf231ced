/-! the law's loop, its beginning -/
theorem ok_k {X : Cx} {own : String} {cc : ByteArray} {nL d k n : Nat} (C : Ok X own cc nL d) (h1 : k ≤ (xR X).cells) (h2 : n ≤ (xR X).slots) : Ok (toX X (xV X) k n) own cc nL d := by
  obtain ⟨c1, c2, c3, c4, c5, c6, c7, c8, c9, c10, c11⟩ := C
  exact ⟨c1, c2, c3, c4, c5, c6, c7, c8, c9, h1, h2⟩
theorem iAnd_r (x y : Int) : inR (iAnd x y) := ⟨Int32.le_toInt _, by have := Int32.toInt_lt (Int32.ofInt x &&& Int32.ofInt y); unfold iAnd; omega⟩
set_option maxRecDepth 20000 in
set_option maxHeartbeats 2000000 in
theorem law_loop {X : Cx} {b L q m o : Nat} {B : Int → Int} (C : Ok X RL cL_law 9 10) (hW : LW X b L q m o) (hc : 601024 ≤ (xR X).cells) (hs : 7293034 ≤ (xR X).slots) (hLL : L ≤ 1536) (hB : ∀ j, inR (B j))
    (hend : ∀ (k n : Nat) (ν : Mem) (ls : List AV), k ≤ 601024 → n ≤ 7293034 → RR (toX X (xV X) k n) ν 1398 ls []) :
    ∀ (f t : Nat) (i : Int) (K : Int) (μ : Mem), i = 3 * (t : Int) → f + t = 513 → t ≤ 512 → K ≤ 200 + 1300 * (t : Int) → LI (xV X) q m b B K μ → RR (toX X (xV X) (120 + t) (3000 + 6 * t)) μ 23 [vR b, vR q, vR m, vR o, vI i, vU, vU, vU, vU] [] := by
  intro f
  induction f with
  | zero => intro t i K μ hi hf ht hK hL; omega
  | succ f ih =>
    intro t i K μ hi hf ht hK hL
    obtain ⟨⟨hM, So, Bo, S4, Sb⟩, hord, hfl, hE⟩ := id hW
    have C0 : Ok (toX X (xV X) (120 + t) (3000 + 6 * t)) RL cL_law 9 10 := ok_k C (by omega) (by omega)
    have hb : μ b = B := by obtain ⟨w, tx, sv, kp, ln, -, -, hb, -⟩ := hL; exact hb
    have kk0 : ∀ (ν : Mem) (K' : Int), i + 3 ≤ (L : Int) → K' ≤ K + 1300 → LI (xV X) q m b B K' ν → RR (toX X (xV X) (120 + (t + 1)) (3000 + 6 * (t + 1))) ν 1392 [vR b, vR q, vR m, vR o, vI i, vU, vU, vU, vU] [] := fun ν K' hi3 hK' hL' => by
      have C1 : Ok (toX X (xV X) (120 + (t + 1)) (3000 + 6 * (t + 1))) RL cL_law 9 10 := ok_k C (by omega) (by omega)
      refine r_iinc C1 dL_law_1392 rfl (by decide) rfl ?_
      refine r_goto (tgt := 23) C1 dL_law_1395 (by decide) ?_
      exact ih (t + 1) (i + 3) K' ν (by omega) (by omega) (by omega) (by omega) hL'
    refine r_iload C0 dL_law_23 rfl ?_
    refine r_aload_n C0 dL_law_25 rfl ?_
    refine r_alen C0 Sb dL_law_26 ?_
    refine r_iconst C0 dL_law_27 ?_
    refine r_isub C0 dL_law_28 ?_
    refine r_icmp_gt (tgt := 1398) C0 dL_law_29 (by decide) (by omega) (by omega) (fun c => hend _ _ _ _ (by omega) (by omega)) (fun c => ?_)
    have hi3 : i + 3 ≤ (L : Int) := by omega
    have hi0 : 0 ≤ i := by omega
    have kk : ∀ (ν : Mem) (K' : Int), K' ≤ K + 1300 → LI (xV X) q m b B K' ν → RR (X1 (toX X (xV X) (120 + t) (3000 + 6 * t))) ν 1392 [vR b, vR q, vR m, vR o, vI i, vU, vU, vU, vU] [] := fun ν K' hK' hL' => kk0 ν K' hi3 hK' hL'
    have hW0 : LW (toX X (xV X) (120 + t) (3000 + 6 * t)) b L q m o := hW
    have R1 : xk (toX X (xV X) (120 + t) (3000 + 6 * t)) + 1 ≤ (xR (toX X (xV X) (120 + t) (3000 + 6 * t))).cells := by show 120 + t + 1 ≤ (xR X).cells; omega
    have R2 : xn (toX X (xV X) (120 + t) (3000 + 6 * t)) + 6 ≤ (xR (toX X (xV X) (120 + t) (3000 + 6 * t))).slots := by show 3000 + 6 * t + 6 ≤ (xR X).slots; omega
    have hK13 : K + 1300 ≤ 1000000 := by omega
    refine r_aload_n C0 dL_law_32 rfl ?_
    refine r_iload C0 dL_law_33 rfl ?_
    refine r_iald C0 Sb (by omega) (by omega) dL_law_35 ?_
    refine r_bipush C0 dL_law_36 rfl ?_
    refine r_iand C0 dL_law_38 ?_
    generalize hv : iAnd (μ b i) 31 = v
    have hvr : inR v := by rw [← hv]; exact iAnd_r _ _
    rcases (show v = 0 ∨ v = 1 ∨ v = 2 ∨ v = 3 ∨ v = 4 ∨ v = 5 ∨ v = 6 ∨ v = 7 ∨ v = 8 ∨ v = 9 ∨ v = 10 ∨ v = 11 ∨ v = 12 ∨ v = 13 ∨ v = 14 ∨ v = 15 ∨ v = 16 ∨ v = 17 ∨ v = 18 ∨ v = 19 ∨ v = 20 ∨ v = 21 ∨ v = 22 ∨ v = 23 ∨ v = 24 ∨ v = 25 ∨ v = 26 ∨ (v < 0 ∨ 26 < v) by omega) with h | h | h | h | h | h | h | h | h | h | h | h | h | h | h | h | h | h | h | h | h | h | h | h | h | h | h | h
    · rw [h]
      refine r_tsIn (tgt := 160) C0 dL_law_39 (by decide) (by decide) (by decide) rfl (by decide) ?_
      exact kL_gather C0 hW0 R1 R2 hK13 hL hi0 hi3 hLL hB kk
    · rw [h]
      refine r_tsIn (tgt := 216) C0 dL_law_39 (by decide) (by decide) (by decide) rfl (by decide) ?_
      exact kL_insert C0 hW0 R1 R2 hK13 hL hi0 hi3 hLL hB kk
    · rw [h]
      refine r_tsIn (tgt := 284) C0 dL_law_39 (by decide) (by decide) (by decide) rfl (by decide) ?_
      exact kL_pull C0 hW0 R1 R2 hK13 hL hi0 hi3 hLL hB kk
    · rw [h]
      refine r_tsIn (tgt := 340) C0 dL_law_39 (by decide) (by decide) (by decide) rfl (by decide) ?_
      exact kL_flip C0 hW0 R1 R2 hK13 hL hi0 hi3 hLL hB kk
    · rw [h]
      refine r_tsIn (tgt := 396) C0 dL_law_39 (by decide) (by decide) (by decide) rfl (by decide) ?_
      exact kL_move C0 hW0 R1 R2 hK13 hL hi0 hi3 hLL hB kk
    · rw [h]
      refine r_tsIn (tgt := 464) C0 dL_law_39 (by decide) (by decide) (by decide) rfl (by decide) ?_
      exact kL_bind C0 hW0 R1 R2 hK13 hL hi0 hi3 hLL hB kk
    · rw [h]
      refine r_tsIn (tgt := 508) C0 dL_law_39 (by decide) (by decide) (by decide) rfl (by decide) ?_
      exact kL_print C0 hW0 R1 R2 hK13 hL hi0 hi3 hLL hB kk
    · rw [h]
      refine r_tsIn (tgt := 576) C0 dL_law_39 (by decide) (by decide) (by decide) rfl (by decide) ?_
      exact kL_punch C0 hW0 R1 R2 hK13 hL hi0 hi3 hLL hB kk
    · rw [h]
      refine r_tsIn (tgt := 644) C0 dL_law_39 (by decide) (by decide) (by decide) rfl (by decide) ?_
      exact kL_set C0 hW0 R1 R2 hK13 hL hi0 hi3 hLL hB kk
    · rw [h]
      refine r_tsIn (tgt := 712) C0 dL_law_39 (by decide) (by decide) (by decide) rfl (by decide) ?_
      exact kL_append C0 hW0 R1 R2 hK13 hL hi0 hi3 hLL hB kk
    · rw [h]
      refine r_tsIn (tgt := 768) C0 dL_law_39 (by decide) (by decide) (by decide) rfl (by decide) ?_
      exact kL_clearBuffer C0 hW0 R1 R2 hK13 hL hi0 hi3 hLL hB kk
    · rw [h]
      refine r_tsIn (tgt := 781) C0 dL_law_39 (by decide) (by decide) (by decide) rfl (by decide) ?_
      exact kL_firstError C0 hW0 R1 R2 hK13 hL hi0 hi3 hLL hB kk
    · rw [h]
      refine r_tsIn (tgt := 794) C0 dL_law_39 (by decide) (by decide) (by decide) rfl (by decide) ?_
      exact kL_work C0 hW0 R1 R2 hK13 hL hi0 hi3 hLL hB kk
    · rw [h]
      refine r_tsIn (tgt := 838) C0 dL_law_39 (by decide) (by decide) (by decide) rfl (by decide) ?_
      exact kL_keep C0 hW0 R1 R2 hK13 hL hi0 hi3 hLL hB kk
    · rw [h]
      refine r_tsIn (tgt := 851) C0 dL_law_39 (by decide) (by decide) (by decide) rfl (by decide) ?_
      exact kL_goBack C0 hW0 R1 R2 hK13 hL hi0 hi3 hLL hB kk
    · rw [h]
      refine r_tsIn (tgt := 895) C0 dL_law_39 (by decide) (by decide) (by decide) rfl (by decide) ?_
      exact kL_undo C0 hW0 R1 R2 hK13 hL hi0 hi3 hLL hB kk
    · rw [h]
      refine r_tsIn (tgt := 939) C0 dL_law_39 (by decide) (by decide) (by decide) rfl (by decide) ?_
      exact kL_sheet C0 hW0 R1 R2 hK13 hL hi0 hi3 hLL hB kk
    · rw [h]
      refine r_tsIn (tgt := 1007) C0 dL_law_39 (by decide) (by decide) (by decide) rfl (by decide) ?_
      exact kL_bin C0 hW0 R1 R2 hK13 hL hi0 hi3 hLL hB kk
    · rw [h]
      refine r_tsIn (tgt := 1075) C0 dL_law_39 (by decide) (by decide) (by decide) rfl (by decide) ?_
      exact kL_count C0 hW0 R1 R2 hK13 hL hi0 hi3 hLL hB kk
    · rw [h]
      refine r_tsIn (tgt := 1131) C0 dL_law_39 (by decide) (by decide) (by decide) rfl (by decide) ?_
      exact kL_setting C0 hW0 R1 R2 hK13 hL hi0 hi3 hLL hB kk
    · rw [h]
      refine r_tsIn (tgt := 1187) C0 dL_law_39 (by decide) (by decide) (by decide) rfl (by decide) ?_
      exact kL_nextMove C0 hW0 R1 R2 hK13 hL hi0 hi3 hLL hB kk
    · rw [h]
      refine r_tsIn (tgt := 1200) C0 dL_law_39 (by decide) (by decide) (by decide) rfl (by decide) ?_
      exact kL_ifPulled C0 hW0 R1 R2 hK13 hL hi0 hi3 hLL hB kk
    · rw [h]
      refine r_tsIn (tgt := 1268) C0 dL_law_39 (by decide) (by decide) (by decide) rfl (by decide) ?_
      exact kL_fits C0 hW0 R1 R2 hK13 hL hi0 hi3 hLL hB kk
    · rw [h]
      refine r_tsIn (tgt := 1281) C0 dL_law_39 (by decide) (by decide) (by decide) rfl (by decide) ?_
      exact kL_books C0 hW0 R1 R2 hK13 hL hi0 hi3 hLL hB kk
    · rw [h]
      refine r_tsIn (tgt := 1294) C0 dL_law_39 (by decide) (by decide) (by decide) rfl (by decide) ?_
      exact kL_stairShare C0 hW0 R1 R2 hK13 hL hi0 hi3 hLL hB kk
    · rw [h]
      refine r_tsIn (tgt := 1335) C0 dL_law_39 (by decide) (by decide) (by decide) rfl (by decide) ?_
      exact kL_meanThread C0 hW0 R1 R2 hK13 hL hi0 hi3 hLL hB kk
    · rw [h]
      refine r_tsIn (tgt := 1378) C0 dL_law_39 (by decide) (by decide) (by decide) rfl (by decide) ?_
      exact kL_digest C0 hW0 R1 R2 hK13 hL hi0 hi3 hLL hB kk
    · refine r_tsOut (tgt := 1392) C0 dL_law_39 hvr h (by decide) ?_
      exact r_wid (k := 120 + (t + 1)) (n := 3000 + 6 * (t + 1)) (by show 120 + t ≤ _; omega) (by show 3000 + 6 * t ≤ _; omega) (kk0 μ K hi3 (by omega) hL)
/-! the world after the beginning -/
def rL : Nat → Option SE := fun o => if o < 113 then rP o else if o < 119 then rM (o - 113) else if o = 119 then some (.inr (1, 1)) else none
def iL (μ : Mem) (z a : Nat) : Nat → Int → Int := fun o => if o < 113 then iP μ z a o else if o < 119 then iM (o - 113) else fun _ => 0
theorem k_newaJ {X : Cx} {own : String} {cc : ByteArray} {nL d ck cs : Nat} {L : List Rg} {P : Heap → Prop} {pc : Nat} {ls st : List AV} (C : Ok X own cc nL d) {N a : Nat} (hP : moP P) (ha : (xs X).heap.size + ck = a) (hN : N < 100000) (hc : ck + 1 ≤ (xR X).cells) (hs : cs + N ≤ (xR X).slots) (hd : decode cc pc = .ok (.newarray .long, 2)) (kk : KJ X (ck + 1) (cs + N) ((a, on1 (.inr (1, N)), z0) :: L) P (pc + 2) ls (vR a :: st)) : KJ X ck cs L P pc ls (vI (N : Int) :: st) := fun H locs jl h0 h1 h1p h2 h3 => by
  have hn : inR (N : Int) := ⟨by omega, by omega⟩
  refine va_newaK (atype := .long) C.1 C.2.1 (C.2.2.2.2.1 _ ac_J) rfl hd rfl (N := N) (by rw [← oi_0, oi_lt hn (by decide)]; omega) (by rw [oi_nat hn]; omega) (by show N * 8 ≤ 536870912; omega) hc hs (h0.trans ha) fun H1 cA e1 z1 o1 hA hN => ?_
  have hk : ∀ q : Nat, q < H.size → H1[q]? = H[q]? := fun q hq => o1 q (by omega)
  refine kk H1 locs jl (by omega) (lgH_c (fun o e he => ?_) (lgH_k h1 hk)) (hP H H1 h1p hk) ⟨Nat.le_trans h2.1 (by omega), fun q h5 h6 => (o1 q (by omega)).trans (h2.2.1 q h5 h6), h2.2.2⟩ h3
  by_cases c : o = 0
  · have he2 : (Sum.inr (1, N) : SE) = e := by
      have : on1 (.inr (1, N)) o = some e := he
      unfold on1 at this
      rw [if_pos c] at this
      exact Option.some.inj this
    subst he2
    subst c
    exact ⟨_, e1, hA N _, (fun z => nomatch z), by omega, by rw [arrV_size]; exact Nat.le_refl _, by rw [arrV_size], fun j hj => arrV_read cA _ hj⟩
  · exfalso
    have : on1 (.inr (1, N)) o = some e := he
    unfold on1 at this
    rw [if_neg c] at this
    cases this
theorem k_toL {X : Cx} {ck cs a : Nat} {L : List Rg} {P : Heap → Prop} {pc : Nat} {ls st : List AV} {V : Wo} {μ : Mem} {r : Nat → Option SE} {j : Nat → Int → Int} (hV : xV X = bsV V a) (hlo : loV V) (ha : woB V ≤ a) (hHp : Hp V (xs X) μ (xs X).heap) (hfin : ∀ H : Heap, lgH (woG V) (xs X) H L → P H → rgH (woG V) (xs X) H (a, r, j))
    (kk : RR (toX X (exV V a r) ck cs) (omM μ a j) pc ls st) : KJ X ck cs L P pc ls st := fun H locs jl h0 h1 h1p h2 h3 => by
  have hG : woG (xV X) = woG V := by rw [hV]; rfl
  have hA : woA (xV X) = fun q => a ≤ q := by rw [hV]; rfl
  rw [hG] at h1
  rw [hA] at h2
  exact kk H locs jl (hp_ex (hp0_at hlo ha hHp h2) (hfin H h1 h1p)) h2 h3
theorem sts_of {V : Wo} {h : Nat} (hb : woB V ≤ h) (hs : ∀ j, j < 12 → woS V (h + j) = rS j) : StS V h :=
  ⟨hb, hs 0 (by decide), ⟨by omega, hs 1 (by decide), hs 2 (by decide), hs 3 (by decide), hs 4 (by decide), hs 5 (by decide), hs 6 (by decide)⟩, hs 7 (by decide), hs 8 (by decide), hs 9 (by decide), hs 10 (by decide), hs 11 (by decide)⟩
theorem rL_at {V : Wo} {N k : Nat} (hk : ∀ j, j < 12 → rL (k + j) = rS j) : ∀ j, j < 12 → woS (exV V N rL) (N + k + j) = rS j := fun j hj => by
  rw [Nat.add_assoc]
  show (if N ≤ N + (k + j) then rL (N + (k + j) - N) else woS V (N + (k + j))) = rS j
  rw [if_pos (Nat.le_add_right N (k + j)), Nat.add_sub_cancel_left]
  exact hk j hj
theorem rL_h : ∀ i, i < 6 → ∀ j, j < 12 → rL (39 + 12 * i + j) = rS j := by decide +kernel
theorem w16_0 : mIl 16 0 = 8 ∧ mIl 16 1 = 5 ∧ mIl 16 2 = 2 ∧ mIl 16 3 = 0 ∧ mIl 16 4 = 0 ∧ mIl 16 5 = -1 := by decide +kernel
theorem w16_a : ∀ i : Int, 0 ≤ i → i < 16 → mIl 16 (6 + i) = 2 ∧ mIl 16 (22 + i) = 0 ∧ mIl 16 (38 + i) = 2 ∧ mIl 16 (54 + i) = 31 := fun i i0 i1 => by
  have h6 : mIl 16 (6 + i) = 2 := by unfold mIl; rw [if_pos (by omega)]
  have h38 : mIl 16 (38 + i) = 2 := by unfold mIl; rw [if_neg (by omega), if_pos (by omega)]
  have h54 : mIl 16 (54 + i) = 31 := by unfold mIl; rw [if_neg (by omega), if_neg (by omega), if_pos (by omega)]
  have h22 : mIl 16 (22 + i) = 0 := by
    unfold mIl
    rw [if_neg (by omega), if_neg (by omega), if_neg (by omega)]
    unfold mI0
    rw [s1_n _ _ (by omega), s1_n _ _ (by omega), s1_n _ _ (by omega), s1_n _ _ (by omega)]
  exact ⟨h6, h22, h38, h54⟩
theorem w16_veW : veW 200 (mIl 16) := by
  obtain ⟨a0, a1, a2, a3, a4, a5⟩ := w16_0
  refine ⟨by decide, by rw [a0]; decide, by rw [a1]; decide, by rw [a2]; decide, by rw [a3]; decide, by rw [a4]; decide, by rw [a5]; decide, fun i i0 i1 => ?_, fun i i0 i1 => by rw [(w16_a i i0 i1).2.2.2]; decide, fun i i0 i1 => by rw [a3] at i1; omega, fun i i0 i1 => by rw [a3] at i1; omega⟩
  by_cases c1 : i < 16
  · rw [(w16_a i i0 c1).1]; decide
  · by_cases c2 : i < 32
    · rw [show 6 + i = 22 + (i - 16) by omega, (w16_a (i - 16) (by omega) (by omega)).2.1]; decide
    · rw [show 6 + i = 38 + (i - 32) by omega, (w16_a (i - 32) (by omega) (by omega)).2.2.1]; decide
set_option maxRecDepth 20000 in
set_option maxHeartbeats 2000000 in
theorem ci_0 {V : Wo} {μ : Mem} {N z : Nat} (hNb : woB V ≤ N) (hz : z < N) (h0 : μ z 0 = 8) (h1 : μ z 1 = 5) (h2 : μ z 2 = 2) : CI (exV V N rL) 200 N (omM μ N (iL μ z N)) (mIl 16) (fun _ => 0) 0 0 0 := by
  obtain ⟨a0, a1, a2, a3, a4, a5⟩ := w16_0
  have hB : ∀ k, woB (exV V N rL) ≤ N + k := fun k => Nat.le_add_right N k
  have om : ∀ k, omM μ N (iL μ z N) (N + k) = iL μ z N k := fun k => om_s μ N k _
  have omz : omM μ N (iL μ z N) N = fun _ => 0 := om_s μ N 0 _
  have St : ∀ k, (∀ j, j < 12 → rL (k + j) = rS j) → StS (exV V N rL) (N + k) := fun k hk => sts_of (hB k) (rL_at hk)
  have Sv : ∀ i : Int, (omM μ N (iL μ z N) (N + 37 + 1) i) = 12 * i + ((N : Int) + 39) := fun i => by
    rw [show N + 37 + 1 = N + 38 from rfl, om]
    show 12 * i + (((N + 37 : Nat) : Int) + 2) = _
    omega
  refine ⟨⟨hB 0, ex_s (o := 0) rfl, St 1 (by decide +kernel), St 13 (by decide +kernel), St 25 (by decide +kernel), ⟨hB 37, ex_s rfl, ex_s (o := 38) rfl⟩, ⟨hB 111, ex_s rfl⟩, ex_s rfl⟩, ⟨w16_veW, ?_⟩, ⟨Or.inl rfl, by rw [omz], fun h => absurd h (by decide)⟩, ⟨by decide, by rw [om]; rfl, ⟨by rw [om]; exact (by decide : (0 : Int) ≤ 0 ∧ (0 : Int) ≤ 6), fun i i0 i1 => ?_⟩, fun i i0 i1 => ?_, fun i j i0 i1 j0 j1 hij => ?_, fun i i0 i1 => absurd i1 (by omega)⟩, ⟨by rw [omz], by decide, fun i i0 i1 => absurd i1 (by omega), fun i i0 i1 => absurd i1 (by omega)⟩, ?_⟩
  · refine ⟨fun i i0 i1 => ?_, ?_, ?_, ?_, fun i i0 i1 => ?_, fun i i0 i1 => ?_, fun i i0 i1 => ?_, fun i i0 i1 => ?_, fun i i0 i1 => by rw [a3] at i1; omega, fun i i0 i1 => by rw [a3] at i1; omega⟩
    · rw [show N + 1 + 11 = N + 12 from rfl, om]
      show μ z i = mIl 16 i
      rcases (show i = 0 ∨ i = 1 ∨ i = 2 by omega) with c | c | c
      · rw [c, h0, a0]
      · rw [c, h1, a1]
      · rw [c, h2, a2]
    · rw [show N + 1 + 1 = N + 2 from rfl, om, a3]; rfl
    · rw [om, a4]; rfl
    · rw [om, a5]; rfl
    · rw [show N + 1 + 7 = N + 8 from rfl, om, (w16_a i i0 i1).1]
      show flA 16 2 (fun _ => 0) i = 2
      unfold flA; rw [if_pos ⟨i0, i1⟩]
    · rw [show N + 1 + 8 = N + 9 from rfl, om, (w16_a i i0 i1).2.1]; rfl
    · rw [show N + 1 + 9 = N + 10 from rfl, om, (w16_a i i0 i1).2.2.1]
      show flA 16 2 (fun _ => 0) i = 2
      unfold flA; rw [if_pos ⟨i0, i1⟩]
    · rw [show N + 1 + 10 = N + 11 from rfl, om, (w16_a i i0 i1).2.2.2]
      show flA 16 31 (fun _ => 0) i = 31
      unfold flA; rw [if_pos ⟨i0, i1⟩]
  · rw [Sv]
    obtain ⟨n, rfl⟩ := Int.eq_ofNat_of_zero_le i0
    have e : (12 * (n : Int) + ((N : Int) + 39)).toNat = N + (39 + 12 * n) := by omega
    refine ⟨by omega, ?_, Or.inl (by rw [e]; omega)⟩
    rw [e]
    exact St _ (rL_h n (by omega))
  · unfold svA
    rw [Sv]
    omega
  · unfold svA
    rw [Sv, Sv]
    omega
  · rw [om]
    exact (by decide : ((0 : Int) ≤ 0 ∧ (0 : Int) < 128) ∧ ((0 : Int) ≤ 0 ∧ (0 : Int) ≤ 19) ∧ ((0 : Int) ≤ 0 ∧ (0 : Int) ≤ 19) ∧ ((0 : Int) ≤ 0 ∧ (0 : Int) ≤ 3) ∧ ((0 : Int) = 0 ∨ (0 : Int) = 1))
