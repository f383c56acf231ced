/-! two vectors that agree on the present state tell the same, and their deeds agree -/
def Lw (w u : Int → Int) : Prop := ∀ j, 0 ≤ j → j < 110 → w j = u j
theorem lw_r (u : Int → Int) : Lw u u := fun _ _ _ => rfl
theorem lw_t {a b c : Int → Int} (h : Lw a b) (g : Lw b c) : Lw a c := fun j j0 j1 => (h j j0 j1).trans (g j j0 j1)
theorem lw_m {a b : Int → Int} (h : Lw a b) : Lw b a := fun j j0 j1 => (h j j0 j1).symm
section Low
variable {K : Int} {w u : Int → Int}
theorem lw_v (hv : veW K w) (h : Lw w u) : veW K u := veW_lo hv (fun j j0 j1 => (h j j0 j1).symm)
theorem lw_N (hv : veW K u) (h : Lw w u) : ∀ i, 0 ≤ i → i < u 3 → vN w i = vN u i := fun i i0 i1 => h (70 + i) (by omega) (by have := veW_3 hv; omega)
theorem lw_D (hv : veW K u) (h : Lw w u) : ∀ i, 0 ≤ i → i < u 3 → vD w i = vD u i := fun i i0 i1 => h (90 + i) (by omega) (by have := veW_3 hv; omega)
theorem lw_H (h : Lw w u) : ∀ i, 0 ≤ i → i < 16 → vH w i = vH u i := fun i i0 i1 => h (54 + i) (by omega) (by omega)
theorem coT_c {sv a : Int} (hv : veW K u) (h : Lw w u) : coT w sv a = coT u sv a := by
  have N := lw_N hv h
  have D := lw_D hv h
  have H := lw_H h
  have ha := veW_N hv
  have h3 := veW_3 hv
  unfold coT
  rw [h 0 (by omega) (by omega), h 1 (by omega) (by omega), h 2 (by omega) (by omega), h 3 (by omega) (by omega), h 4 (by omega) (by omega), h 5 (by omega) (by omega), brks_cong N D, flt_cong N D, plf_cong N D, misS_cong N, lis_c h3.1 N, pr_cong N, stS_cong N, stS_hc H ha, thS_cong N, thS_hc H ha, lsS_cong N, lsS_hc H ha, sm_cong (f := fun k => w (22 + k)) (g := fun k => u (22 + k)) (fun k k0 k1 => h (22 + k) (by omega) (by omega))]
theorem ofS_c {k a : Int} (hv : veW K u) (h : Lw w u) (k0 : 0 ≤ k) (k1 : k < u 3) : ofS w k a = ofS u k a := by
  have N := lw_N hv h
  have D := lw_D hv h
  have H := lw_H h
  have ha := veW_N hv
  have h3 := veW_3 hv
  unfold ofS
  rw [h 1 (by omega) (by omega), h (70 + k) (by omega) (by omega), h (90 + k) (by omega) (by omega), b01_i (brk_cong N D k0 k1), stA_cong N k0 k1, stA_hc H ha k0 k1, gr_cong N k0 k1]
theorem cnX_c {x : Int} (hv : veW K u) (h : Lw w u) : cnX w x = cnX u x := by
  have N := lw_N hv h
  unfold cnX
  rw [h 3 (by omega) (by omega)]
  exact cn_cong (fun k k0 k1 => by rw [show w (70 + k) = u (70 + k) from N k k0 k1])
theorem ofB_c {x a : Int} (hv : veW K u) (h : Lw w u) (x0 : 0 ≤ x) (x1 : x < 16) : ofB w x a = ofB u x a := by
  unfold ofB
  rw [cnX_c hv h, h (6 + x) (by omega) (by omega), h (22 + x) (by omega) (by omega), h (38 + x) (by omega) (by omega), h (54 + x) (by omega) (by omega)]
theorem fiT_c (hv : veW K u) (h : Lw w u) : fiT w = fiT u := by
  have N := lw_N hv h
  have D := lw_D hv h
  have h3 := veW_3 hv
  unfold fiT
  exact fs_cong (fun x x0 x1 => by
    rw [h 3 (by omega) (by omega), h 1 (by omega) (by omega), h (6 + x) (by omega) (by omega), due_cong N D h3.1 (Int.le_refl _)])
theorem mn_cong {f g : Int → Int} {n : Int} (hn : 0 ≤ n) (h : ∀ k, 0 ≤ k → k ≤ n → f k = g k) : mn f n = mn g n := by
  refine loop_up (F := fun i => mn f i = mn g i → mn f n = mn g n) (a := 0) (b := n) hn (fun z => z) (fun i i0 i1 K z => K ?_) (by rw [mn_0, mn_0]; exact h 0 (Int.le_refl 0) hn)
  rw [mn_s f i0, mn_s g i0, z, h (i + 1) (by omega) (by omega)]
theorem poT_c (hv : veW K u) (h : Lw w u) : poT w = poT u := by
  have h0 := hv.2.1
  unfold poT
  rw [h 0 (by omega) (by omega)]
  exact mn_cong (by omega) (fun k k0 k1 => by
    unfold poF
    rw [cnX_c hv h, h (6 + k) (by omega) (by omega)])
theorem wN_c {p : Int} (hv : veW K u) (h : Lw w u) : ∀ i, 0 ≤ i → i < u 3 - 1 → wN w p i = wN u p i := fun i i0 i1 => by
  have h3 := veW_3 hv
  unfold wN
  rw [h (70 + (i + 1)) (by omega) (by omega), h (70 + i) (by omega) (by omega)]
theorem wD_c {p : Int} (hv : veW K u) (h : Lw w u) : ∀ i, 0 ≤ i → i < u 3 - 1 → wD w p i = wD u p i := fun i i0 i1 => by
  have h3 := veW_3 hv
  unfold wD
  rw [h (90 + (i + 1)) (by omega) (by omega), h (90 + i) (by omega) (by omega)]
theorem woT_c {p a : Int} (hv : veW K u) (h : Lw w u) (p0 : 0 ≤ p) (p1 : p < u 3) : woT w p a = woT u p a := by
  have N := wN_c (p := p) hv h
  have D := wD_c (p := p) hv h
  unfold woT
  rw [h 0 (by omega) (by omega), h 1 (by omega) (by omega), h 3 (by omega) (by omega), brks_cong N D, flt_cong N D, lis_c (by omega) N, stS_cong N, stS_hc (lw_H h) (wN_b2 hv p1)]
theorem nmT_c (hv : veW K u) (h : Lw w u) : nmT w = nmT u := by
  have N := lw_N hv h
  have h3 := veW_3 hv
  have e : fs (fun k => nmP w k) 0 (u 3 * u 3) = fs (fun k => nmP u k) 0 (u 3 * u 3) := fs_cong (fun k k0 k1 => by
    have hb : 0 < u 3 := sq_pos k0 h3.1 k1
    have dm := dm_bd k0 hb k1
    unfold nmP fwB
    rw [h 3 (by omega) (by omega), lis_c h3.1 N, lis_c (a := bhN w (k / u 3) (k % u 3)) (a' := bhN u (k / u 3) (k % u 3)) h3.1 (fun j j0 j1 => by
      unfold bhN
      rw [insR_at, insR_at, h 3 (by omega) (by omega), h (70 + k / u 3) (by omega) (by omega)]
      by_cases c : j = k % u 3
      · rw [if_pos c, if_pos c]
      · rw [if_neg c, if_neg c]
        by_cases c2 : k % u 3 < j ∧ j ≤ u 3 - 1
        · rw [if_pos c2, if_pos c2, wN_c hv h (j - 1) (by omega) (by omega)]
        · rw [if_neg c2, if_neg c2]
          exact wN_c hv h j j0 (by omega))])
  have e2 : fs (fun k => nmP w k) 0 (w 3 * w 3) = fs (fun k => nmP u k) 0 (u 3 * u 3) := by
    rw [show w 3 * w 3 = u 3 * u 3 by rw [h 3 (by omega) (by omega)]]
    exact e
  unfold nmT
  rw [e2, h 3 (by omega) (by omega)]
theorem shT_c (hv : veW K u) (h : Lw w u) : shT w = shT u := by
  unfold shT
  rw [h 1 (by omega) (by omega), h 3 (by omega) (by omega), brks_cong (lw_N hv h) (lw_D hv h)]
theorem lw_ins {p x : Int} (h : Lw w u) (hp : 0 ≤ p) (hp2 : p ≤ u 3) (h3 : u 3 < 20) (hx0 : 0 ≤ x) (hx : x < 16) : Lw (mIns w p x) (mIns u p x) := fun j j0 j1 => by
  have e3 := h 3 (by omega) (by omega)
  by_cases c : j < 70
  · rw [mIns_lo hp c, mIns_lo hp c, e3, h (6 + x) (by omega) (by omega), h j j0 j1]
  · by_cases c2 : j < 90
    · obtain ⟨i, rfl⟩ : ∃ i, j = 70 + i := ⟨j - 70, by omega⟩
      rw [mIns_N hp (by omega) (by omega) hx (by omega) (by omega), mIns_N hp hp2 h3 hx (by omega) (by omega), e3, h (70 + i) j0 j1]
      by_cases d : i = p
      · rw [if_pos d, if_pos d]
      · rw [if_neg d, if_neg d]
        by_cases d2 : p < i ∧ i ≤ u 3
        · rw [if_pos d2, if_pos d2, h (70 + i - 1) (by omega) (by omega)]
        · rw [if_neg d2, if_neg d2]
    · obtain ⟨i, rfl⟩ : ∃ i, j = 90 + i := ⟨j - 90, by omega⟩
      rw [mIns_D hp (by omega) (by omega) hx (by omega) (by omega), mIns_D hp hp2 h3 hx (by omega) (by omega), e3, h (90 + i) j0 j1]
      by_cases d : i = p
      · rw [if_pos d, if_pos d]
      · rw [if_neg d, if_neg d]
        by_cases d2 : p < i ∧ i ≤ u 3
        · rw [if_pos d2, if_pos d2, h (90 + i - 1) (by omega) (by omega)]
        · rw [if_neg d2, if_neg d2]
theorem lw_pul {p : Int} (h : Lw w u) (hp : 0 ≤ p) (hp2 : p < u 3) (h3 : u 3 ≤ 20) (hn0 : 0 ≤ u (70 + p)) (hn : u (70 + p) < 16) : Lw (mPul w p) (mPul u p) := fun j j0 j1 => by
  have e3 := h 3 (by omega) (by omega)
  have ep := h (70 + p) (by omega) (by omega)
  by_cases c : j < 70
  · rw [mPul_lo hp c, mPul_lo hp c, e3, ep, h (6 + u (70 + p)) (by omega) (by omega), h j j0 j1]
  · by_cases c2 : j < 90
    · obtain ⟨i, rfl⟩ : ∃ i, j = 70 + i := ⟨j - 70, by omega⟩
      rw [mPul_N hp (by omega) (by omega) (by omega) (by omega), mPul_N hp hn h3 (by omega) (by omega), e3, h (70 + i) j0 j1]
      by_cases d2 : p ≤ i ∧ i < u 3 - 1
      · rw [if_pos d2, if_pos d2, h (70 + i + 1) (by omega) (by omega)]
      · rw [if_neg d2, if_neg d2]
    · obtain ⟨i, rfl⟩ : ∃ i, j = 90 + i := ⟨j - 90, by omega⟩
      rw [mPul_D hp (by omega) (by omega) (by omega) (by omega), mPul_D hp hn h3 (by omega) (by omega), e3, h (90 + i) j0 j1]
      by_cases d2 : p ≤ i ∧ i < u 3 - 1
      · rw [if_pos d2, if_pos d2, h (90 + i + 1) (by omega) (by omega)]
      · rw [if_neg d2, if_neg d2]
theorem lw_mov {p r : Int} (h : Lw w u) (hp : 0 ≤ p) (hp2 : p < 20) (hr : 0 ≤ r) (hr2 : r < 20) : Lw (mMov w p r) (mMov u p r) := fun j j0 j1 => by
  by_cases c : j < 70
  · rw [mMov_o hp hr c, mMov_o hp hr c, h j j0 j1]
  · by_cases c2 : j < 90
    · obtain ⟨i, rfl⟩ : ∃ i, j = 70 + i := ⟨j - 70, by omega⟩
      rw [mMov_N hp hr hp2 hr2 (by omega) (by omega), mMov_N hp hr hp2 hr2 (by omega) (by omega), h (70 + i) j0 j1, h (70 + p) (by omega) (by omega)]
      by_cases d : i = r
      · rw [if_pos d, if_pos d]
      · rw [if_neg d, if_neg d]
        by_cases d2 : p ≤ i ∧ i < r
        · rw [if_pos d2, if_pos d2, h (70 + i + 1) (by omega) (by omega)]
        · rw [if_neg d2, if_neg d2]
          by_cases d3 : r < i ∧ i ≤ p
          · rw [if_pos d3, if_pos d3, h (70 + i - 1) (by omega) (by omega)]
          · rw [if_neg d3, if_neg d3]
    · obtain ⟨i, rfl⟩ : ∃ i, j = 90 + i := ⟨j - 90, by omega⟩
      rw [mMov_D hp hr hp2 hr2 (by omega) (by omega), mMov_D hp hr hp2 hr2 (by omega) (by omega), h (90 + i) j0 j1, h (90 + p) (by omega) (by omega)]
      by_cases d : i = r
      · rw [if_pos d, if_pos d]
      · rw [if_neg d, if_neg d]
        by_cases d2 : p ≤ i ∧ i < r
        · rw [if_pos d2, if_pos d2, h (90 + i + 1) (by omega) (by omega)]
        · rw [if_neg d2, if_neg d2]
          by_cases d3 : r < i ∧ i ≤ p
          · rw [if_pos d3, if_pos d3, h (90 + i - 1) (by omega) (by omega)]
          · rw [if_neg d3, if_neg d3]
theorem lw_s1 {k c : Int} (h : Lw w u) : Lw (s1 w k c) (s1 u k c) := fun j j0 j1 => by
  by_cases d : j = k
  · rw [d, s1_s, s1_s]
  · rw [s1_n _ _ d, s1_n _ _ d, h j j0 j1]
theorem lw_fli {p : Int} (h : Lw w u) (hp : 0 ≤ p) (hp2 : p < 20) : Lw (mFli w p) (mFli u p) := by
  unfold mFli
  rw [h (90 + p) (by omega) (by omega)]
  exact lw_s1 h
theorem lw_bin (h : Lw w u) (h3 : u 3 ≤ 20) : Lw (mBin w) (mBin u) := fun j j0 j1 => by
  rw [mBin_e, mBin_e, h 4 (by omega) (by omega), h j j0 j1, h 3 (by omega) (by omega), cn_cong (p := fun e => w (70 + e) = j - 22) (q := fun e => u (70 + e) = j - 22) (fun k k0 k1 => by rw [h (70 + k) (by omega) (by omega)])]
end Low
/-- the states that were saved last -/
def Stk (w : Int → Int) : Int → List (Int → Int) → Prop
  | _, [] => True
  | sv, t :: st => 0 < sv ∧ Lw (seg w sv) t ∧ Stk w (sv - 1) st
theorem stk_f {w w' : Int → Int} : ∀ (st : List (Int → Int)) (sv : Int), (∀ k, 1 ≤ k → k ≤ sv → Lw (seg w' k) (seg w k)) → Stk w sv st → Stk w' sv st
  | [], _, _, _ => trivial
  | t :: st, sv, f, h => ⟨h.1, lw_t (f sv (by have := h.1; omega) (Int.le_refl _)) h.2.1, stk_f st (sv - 1) (fun k k1 k2 => f k k1 (by omega)) h.2.2⟩
theorem stk_s {w w' : Int → Int} : ∀ (st : List (Int → Int)) (sv : Int), (st.length : Int) ≤ sv - 1 → (∀ k, 1 ≤ k → k ≤ sv - 1 → Lw (seg w' k) (seg w (k + 1))) → Stk w sv st → Stk w' (sv - 1) st
  | [], _, _, _, _ => trivial
  | t :: st, sv, hl, f, h => by
    have hl' : ((st.length + 1 : Nat) : Int) ≤ sv - 1 := hl
    refine ⟨by omega, lw_t (f (sv - 1) (by omega) (Int.le_refl _)) ?_, stk_s st (sv - 1) (by omega) (fun k k1 k2 => f k k1 (by omega)) h.2.2⟩
    rw [show sv - 1 + 1 = sv by omega]
    exact h.2.1
theorem stk_sav {w u : Int → Int} {sv : Int} {st : List (Int → Int)} (h0 : 0 ≤ sv) (h6 : sv ≤ 6) (hl : st.length ≤ 5) (hu : Lw w u) (h : Stk w sv st) : Stk (mSav w sv) (sv1 sv) (u :: st) := by
  by_cases c : sv = 6
  · subst c
    have e : mSav w 6 = cpV (sh5 w 6) 0 6 110 := if_pos rfl
    rw [e]
    refine ⟨by decide, fun j j0 j1 => ?_, stk_s st 6 (by omega) (fun k k1 k2 j j0 j1 => ?_) h⟩
    · show cpV (sh5 w 6) 0 6 110 (110 * 6 + j) = u j
      unfold cpV sh5
      rw [if_pos (by omega), if_neg (by omega), show 110 * 6 + j - 110 * 6 + 110 * 0 = j by omega]
      exact hu j j0 j1
    · show cpV (sh5 w 6) 0 6 110 (110 * k + j) = w (110 * (k + 1) + j)
      unfold cpV sh5
      rw [if_neg (by omega), if_pos (by omega), show 110 * k + j + 110 = 110 * (k + 1) + j by omega]
  · have e : mSav w sv = cpV w 0 (sv + 1) 110 := if_neg c
    have e1 : sv1 sv = sv + 1 := if_pos (by omega)
    rw [e, e1]
    refine ⟨by omega, fun j j0 j1 => ?_, ?_⟩
    · show cpV w 0 (sv + 1) 110 (110 * (sv + 1) + j) = u j
      unfold cpV
      rw [if_pos (by omega), show 110 * (sv + 1) + j - 110 * (sv + 1) + 110 * 0 = j by omega]
      exact hu j j0 j1
    · rw [show sv + 1 - 1 = sv by omega]
      refine stk_f st sv (fun k k1 k2 j j0 j1 => ?_) h
      show cpV w 0 (sv + 1) 110 (110 * k + j) = w (110 * k + j)
      unfold cpV
      rw [if_neg (by omega)]
theorem lw7_sav {w z : Int → Int} {sv : Int} (h0 : 0 ≤ sv) (h6 : sv ≤ 6) (h : Lw (seg w 7) z) : Lw (seg (mSav w sv) 7) z := fun j j0 j1 => by
  refine Eq.trans ?_ (h j j0 j1)
  show mSav w sv (110 * 7 + j) = w (110 * 7 + j)
  unfold mSav
  split
  · unfold cpV sh5
    rw [if_neg (by omega), if_neg (by omega)]
  · unfold cpV
    rw [if_neg (by omega)]
theorem lw_sav {w u : Int → Int} {sv : Int} (h0 : 0 ≤ sv) (h : Lw w u) : Lw (mSav w sv) u := fun j j0 j1 => (mSav_lo h0 j1).trans (h j j0 j1)
theorem lw_hi {w w' : Int → Int} (f : ∀ j, 110 ≤ j → w' j = w j) {k : Int} (hk : 1 ≤ k) : Lw (seg w' k) (seg w k) := fun j j0 j1 => f (110 * k + j) (by omega)
