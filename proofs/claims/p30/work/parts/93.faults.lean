/-! faults, counts, copies -/
theorem fs_no {p : Int → Prop} [DecidablePred p] {i n : Int} (hi : 0 ≤ i) (h : fs p i n = -1) : ∀ k, i ≤ k → k < n → ¬ p k := by
  rcases fs_r p i n with ⟨-, g⟩ | ⟨g, -⟩
  · exact g
  · omega
theorem fs_is {p : Int → Prop} [DecidablePred p] {i n : Int} (h : fs p i n ≠ -1) : i ≤ fs p i n ∧ fs p i n < n ∧ p (fs p i n) ∧ ∀ k, i ≤ k → k < fs p i n → ¬ p k := by
  rcases fs_r p i n with ⟨g, -⟩ | g
  · exact absurd g h
  · exact g
theorem flt_c (s0 : Int) (a d : Int → Int) (n : Int) :
    (n = 0 ∧ flt s0 a d n = 1 ∧ plf s0 a d n = -1) ∨ (n ≠ 0 ∧ fT d n ≠ -1 ∧ flt s0 a d n = 2 ∧ plf s0 a d n = fT d n) ∨ (n ≠ 0 ∧ fN s0 a n ≠ -1 ∧ flt s0 a d n = 3 ∧ plf s0 a d n = fN s0 a n) ∨ (n ≠ 0 ∧ fD a n ≠ -1 ∧ flt s0 a d n = 4 ∧ plf s0 a d n = fD a n) ∨
    (n ≠ 0 ∧ misS s0 a n ≠ -1 ∧ flt s0 a d n = 5 ∧ plf s0 a d n = -1) ∨ (n ≠ 0 ∧ fF a n ≠ -1 ∧ flt s0 a d n = 6 ∧ plf s0 a d n = fF a n) ∨ (n ≠ 0 ∧ fT d n = -1 ∧ fN s0 a n = -1 ∧ fD a n = -1 ∧ misS s0 a n = -1 ∧ fF a n = -1 ∧ flt s0 a d n = 0 ∧ plf s0 a d n = -1) := by
  by_cases h0 : n = 0
  · have e : flt s0 a d n = 1 := by unfold flt; rw [if_pos h0]
    refine Or.inl ⟨h0, e, ?_⟩
    unfold plf
    rw [e, if_neg (by decide), if_neg (by decide), if_neg (by decide), if_neg (by decide)]
  by_cases h1 : fT d n ≠ -1
  · have e : flt s0 a d n = 2 := by unfold flt; rw [if_neg h0, if_pos h1]
    refine Or.inr (Or.inl ⟨h0, h1, e, ?_⟩)
    unfold plf
    rw [if_pos e]
  by_cases h2 : fN s0 a n ≠ -1
  · have e : flt s0 a d n = 3 := by unfold flt; rw [if_neg h0, if_neg h1, if_pos h2]
    refine Or.inr (Or.inr (Or.inl ⟨h0, h2, e, ?_⟩))
    unfold plf
    rw [if_neg (by omega), if_pos e]
  by_cases h3 : fD a n ≠ -1
  · have e : flt s0 a d n = 4 := by unfold flt; rw [if_neg h0, if_neg h1, if_neg h2, if_pos h3]
    refine Or.inr (Or.inr (Or.inr (Or.inl ⟨h0, h3, e, ?_⟩)))
    unfold plf
    rw [if_neg (by omega), if_neg (by omega), if_pos e]
  by_cases h4 : misS s0 a n ≠ -1
  · have e : flt s0 a d n = 5 := by unfold flt; rw [if_neg h0, if_neg h1, if_neg h2, if_neg h3, if_pos h4]
    refine Or.inr (Or.inr (Or.inr (Or.inr (Or.inl ⟨h0, h4, e, ?_⟩))))
    unfold plf
    rw [e, if_neg (by decide), if_neg (by decide), if_neg (by decide), if_neg (by decide)]
  by_cases h5 : fF a n ≠ -1
  · have e : flt s0 a d n = 6 := by unfold flt; rw [if_neg h0, if_neg h1, if_neg h2, if_neg h3, if_neg h4, if_pos h5]
    refine Or.inr (Or.inr (Or.inr (Or.inr (Or.inr (Or.inl ⟨h0, h5, e, ?_⟩)))))
    unfold plf
    rw [if_neg (by omega), if_neg (by omega), if_neg (by omega), if_pos e]
  · have e : flt s0 a d n = 0 := by unfold flt; rw [if_neg h0, if_neg h1, if_neg h2, if_neg h3, if_neg h4, if_neg h5]
    refine Or.inr (Or.inr (Or.inr (Or.inr (Or.inr (Or.inr ⟨h0, by omega, by omega, by omega, by omega, by omega, e, ?_⟩)))))
    unfold plf
    rw [e, if_neg (by decide), if_neg (by decide), if_neg (by decide), if_neg (by decide)]
/-- a block without a fault: every sheet at its place -/
theorem flt_0 {s0 n : Int} {a d : Int → Int} (hn : 0 ≤ n) (ha : ∀ i, 0 ≤ i → i < n → 0 ≤ a i) (h : flt s0 a d n = 0) : n = s0 ∧ ∀ k, 0 ≤ k → k < n → a k = k ∧ d k = 0 := by
  rcases flt_c s0 a d n with ⟨-, e, -⟩ | ⟨-, -, e, -⟩ | ⟨-, -, e, -⟩ | ⟨-, -, e, -⟩ | ⟨-, -, e, -⟩ | ⟨-, -, e, -⟩ | ⟨n0, hT, hN, hD, hM, hF, -, -⟩
  · omega
  · omega
  · omega
  · omega
  · omega
  · omega
  have T := fs_no (Int.le_refl 0) hT
  have N := fs_no (Int.le_refl 0) hN
  have D := fs_no (show (0 : Int) ≤ 1 by decide) hD
  have M := fs_no (Int.le_refl 0) hM
  have F := fs_no (show (0 : Int) ≤ 1 by decide) hF
  have inc : ∀ k, 1 ≤ k → k < n → a (k - 1) < a k := fun k k1 kn => by
    have h1 := F k k1 kn
    have h2 : cn (fun e => a e = a k) k = 0 := Decidable.of_not_not (D k k1 kn)
    have h3 := cn_zero h2 (k - 1) (by omega) (by omega)
    have h1' : ¬ a k < a (k - 1) := h1
    have h3' : ¬ a (k - 1) = a k := h3
    omega
  have ge : ∀ m : Nat, (m : Int) < n → (m : Int) ≤ a m := by
    intro m
    induction m with
    | zero => intro h1; exact ha 0 (by omega) h1
    | succ m ih =>
      intro h1
      have h2 := inc ((m + 1 : Nat) : Int) (by omega) h1
      rw [show ((m + 1 : Nat) : Int) - 1 = (m : Int) by omega] at h2
      have := ih (by omega)
      omega
  have mono : ∀ i j, 0 ≤ i → i < j → j < n → a i < a j := fun i j i0 ij jn => by
    refine loop_up (F := fun k => a i < a k → a i < a j) (a := i + 1) (b := j) (by omega) (fun g => g) (fun k k0 k1 K g => K ?_) ?_
    · have := inc (k + 1) (by omega) (by omega)
      rw [show k + 1 - 1 = k by omega] at this
      omega
    · have := inc (i + 1) (by omega) (by omega)
      rw [show i + 1 - 1 = i by omega] at this
      exact this
  have has : ∀ x, 0 ≤ x → x < s0 → ∃ e, 0 ≤ e ∧ e < n ∧ a e = x := fun x x0 x1 => by
    by_cases c : ∃ e, 0 ≤ e ∧ e < n ∧ a e = x
    · exact c
    · exact absurd (cn_none (fun e e0 e1 z => c ⟨e, e0, e1, z⟩)) (M x x0 x1)
  have lt : ∀ k, 0 ≤ k → k < n → a k < s0 := fun k k0 k1 => by
    have h1 : ¬ s0 ≤ a k := N k k0 k1
    omega
  have id : ∀ m : Nat, ∀ k : Int, 0 ≤ k → k < m → k < n → a k = k := by
    intro m
    induction m with
    | zero => intro k k0 k1; omega
    | succ m ih =>
      intro k k0 k1 kn
      by_cases c : k < m
      · exact ih k k0 c kn
      · have hk : k = (m : Int) := by omega
        have g := ge m (by omega)
        rw [← hk] at g
        by_cases c2 : a k = k
        · exact c2
        · obtain ⟨e, e0, e1, e2⟩ := has k k0 (by have := lt k k0 kn; omega)
          rcases (by omega : e < k ∨ e = k ∨ k < e) with c3 | c3 | c3
          · have := ih e e0 (by omega) e1
            omega
          · rw [c3] at e2
            exact absurd e2 c2
          · have := mono k e k0 c3 e1
            omega
  have idd : ∀ k, 0 ≤ k → k < n → a k = k := fun k k0 k1 => id (k.toNat + 1) k k0 (by omega) k1
  refine ⟨?_, fun k k0 k1 => ⟨idd k k0 k1, Decidable.of_not_not (T k k0 k1)⟩⟩
  have h1 := idd (n - 1) (by omega) (by omega)
  have h2 := lt (n - 1) (by omega) (by omega)
  by_cases c : n < s0
  · obtain ⟨e, e0, e1, e2⟩ := has n hn c
    have := idd e e0 e1
    omega
  · omega
theorem brks_0 {st n : Int} {a d : Int → Int} (h : ∀ k, 0 ≤ k → k < n → a k = k ∧ d k = 0) : brks st a d n = 0 := by
  refine cn_none (fun k k0 k1 z => z ?_)
  have h1 := h k k0 k1
  unfold due mk
  rw [if_pos h1.2, h1.1]
  by_cases c : k = 0
  · rw [if_pos c, c]; exact Int.zero_emod st
  · rw [if_neg c, if_pos (h (k - 1) (by omega) (by omega)).2, (h (k - 1) (by omega) (by omega)).1, Int.emod_add_emod, show k - 1 + 1 = k by omega]
theorem prs_0 {n : Int} {a : Int → Int} (h : ∀ k, 0 ≤ k → k < n → a k = k) : sm (fun k => cn (fun e => a k < a e) k) n = 0 := sm_zero (fun k k0 k1 => cn_none (fun e e0 e1 z => by
  rw [h k k0 k1, h e e0 (by omega)] at z
  omega))
theorem mn_le {f : Int → Int} {n k : Int} (hk : 0 ≤ k) (hn : k ≤ n) : mn f n ≤ f k := by
  refine loop_up (F := fun i => (∀ j, 0 ≤ j → j ≤ i → mn f i ≤ f j) → ∀ j, 0 ≤ j → j ≤ n → mn f n ≤ f j) (a := 0) (b := n) (by omega) (fun g => g) (fun i i0 i1 K g => K (fun j j0 j1 => ?_)) (fun j j0 j1 => by rw [show j = 0 by omega, mn_0]; exact Int.le_refl _) k hk hn
  rw [mn_s f i0]
  by_cases c : j = i + 1
  · rw [c]; split <;> omega
  · have := g j j0 (by omega)
    split <;> omega
/-- how often a number lies in a block with a sheet more; all together -/
theorem cn_ins (a : Int → Int) {p n x y : Int} (hp : 0 ≤ p) (h : p ≤ n) : cn (fun e => insR a p n x e = y) (n + 1) = cn (fun e => a e = y) n + b01 (x = y) := by
  refine loop_up (F := fun i => cn (fun e => insR a p i x e = y) (i + 1) = cn (fun e => a e = y) i + b01 (x = y) → cn (fun e => insR a p n x e = y) (n + 1) = cn (fun e => a e = y) n + b01 (x = y)) (a := p) (b := n) h (fun g => g) (fun i h0 h1 K g => K ?_) ?_
  · have e1 : cn (fun e => insR a p (i + 1) x e = y) (i + 1) = cn (fun e => insR a p i x e = y) (i + 1) := cn_cong (fun k k0 k1 => by
      rw [insR_at, insR_at]
      by_cases c : k = p
      · rw [if_pos c, if_pos c]
      · rw [if_neg c, if_neg c]
        by_cases c2 : p < k
        · rw [if_pos (by omega), if_pos (by omega)]
        · rw [if_neg (by omega), if_neg (by omega)])
    have e2 : b01 (insR a p (i + 1) x (i + 1) = y) = b01 (a i = y) := b01_i (by rw [insR_at, if_neg (by omega), if_pos (by omega), show i + 1 - 1 = i by omega])
    have e3 := cn_s (fun e => insR a p (i + 1) x e = y) (show 0 ≤ i + 1 by omega)
    have e4 := cn_s (fun e => a e = y) (show 0 ≤ i by omega)
    omega
  · have e1 : cn (fun e => insR a p p x e = y) p = cn (fun e => a e = y) p := cn_cong (fun k k0 k1 => by rw [insR_at, if_neg (by omega), if_neg (by omega)])
    have e2 : b01 (insR a p p x p = y) = b01 (x = y) := b01_i (by rw [insR_at, if_pos rfl])
    have e3 := cn_s (fun e => insR a p p x e = y) hp
    omega
theorem cn_wN (w : Int → Int) {p y : Int} (hp : 0 ≤ p) (hp2 : p < w 3) : cn (fun e => vN w e = y) (w 3) = cn (fun e => wN w p e = y) (w 3 - 1) + b01 (w (70 + p) = y) := by
  have h := cn_ins (wN w p) (x := w (70 + p)) (y := y) hp (show p ≤ w 3 - 1 by omega)
  rw [show w 3 - 1 + 1 = w 3 by omega] at h
  rw [← h]
  exact cn_cong (fun k k0 k1 => by rw [vN_ins hp k k0 k1])
theorem sm_add (f g : Int → Int) (n : Int) : sm (fun k => f k + g k) n = sm f n + sm g n := by
  have key : ∀ m : Nat, smN (fun k => f k + g k) m = smN f m + smN g m := by
    intro m
    induction m with
    | zero => rfl
    | succ m ih =>
      show smN (fun k => f k + g k) m + (f m + g m) = smN f m + f m + (smN g m + g m)
      omega
  exact key _
theorem sm_one {y : Int} (h0 : 0 ≤ y) (h1 : y < 16) : sm (fun x => b01 (y = x)) 16 = 1 := by
  rcases (by omega : y = 0 ∨ y = 1 ∨ y = 2 ∨ y = 3 ∨ y = 4 ∨ y = 5 ∨ y = 6 ∨ y = 7 ∨ y = 8 ∨ y = 9 ∨ y = 10 ∨ y = 11 ∨ y = 12 ∨ y = 13 ∨ y = 14 ∨ y = 15) with e | e | e | e | e | e | e | e | e | e | e | e | e | e | e | e <;> subst e <;> decide +kernel
theorem cn_tot {a : Int → Int} {n : Int} (hn : 0 ≤ n) (ha : ∀ i, 0 ≤ i → i < n → 0 ≤ a i ∧ a i < 16) : sm (fun x => cn (fun e => a e = x) n) 16 = n := by
  refine loop_up (F := fun i => sm (fun x => cn (fun e => a e = x) i) 16 = i → sm (fun x => cn (fun e => a e = x) n) 16 = n) (a := 0) (b := n) hn (fun g => g) (fun i h0 h1 K g => K ?_) (sm_zero (fun k _ _ => rfl))
  have e : (fun x => cn (fun e => a e = x) (i + 1)) = fun x => cn (fun e => a e = x) i + b01 (a i = x) := funext fun x => cn_s (fun e => a e = x) h0
  rw [e, sm_add, g, sm_one (ha i h0 h1).1 (ha i h0 h1).2]
/-- copies add up -/
def Cs (u : Int → Int) : Prop := ∀ x, 0 ≤ x → x < 16 → u (6 + x) + cnX u x + u (22 + x) = u (38 + x)
theorem Cs_c {u v : Int → Int} (h : Cs u) (h3 : v 3 = u 3) (hn : ∀ i, 0 ≤ i → i < u 3 → v (70 + i) = u (70 + i)) (hl : ∀ j, 6 ≤ j → j < 54 → v j = u j) : Cs v := fun x x0 x1 => by
  have := h x x0 x1
  have e : cnX v x = cnX u x := by
    unfold cnX
    rw [h3]
    exact cn_cong (fun k k0 k1 => by rw [hn k k0 k1])
  rw [hl _ (by omega) (by omega), hl _ (by omega) (by omega), hl _ (by omega) (by omega), e]
  exact this
theorem cnX_wN {u : Int → Int} {p x : Int} (hp : 0 ≤ p) (hp2 : p < u 3) : cnX u x = cn (fun e => wN u p e = x) (u 3 - 1) + b01 (u (70 + p) = x) := cn_wN u hp hp2
theorem mIns_R {u : Int → Int} {p x : Int} (hp : 0 ≤ p) (hp2 : p ≤ u 3) (h3 : u 3 < 20) (hx : x < 16) : ∀ i, 0 ≤ i → i < 20 → mIns u p x (70 + i) = insR (vN u) p (u 3) x i := fun i i0 i1 => by
  rw [mIns_N hp hp2 h3 hx i0 i1, insR_at, show 70 + i - 1 = 70 + (i - 1) by omega]
theorem Cs_ins {u : Int → Int} {p x : Int} (h : Cs u) (hp : 0 ≤ p) (hp2 : p ≤ u 3) (h3 : u 3 < 20) (hx0 : 0 ≤ x) (hx : x < 16) : Cs (mIns u p x) := fun y y0 y1 => by
  have g := h y y0 y1
  have e3 : mIns u p x 3 = u 3 + 1 := by rw [mIns_lo hp (by omega), if_pos rfl]
  have e : cnX (mIns u p x) y = cnX u y + b01 (x = y) := by
    unfold cnX
    rw [e3, ← cn_ins (vN u) (x := x) (y := y) hp hp2]
    exact cn_cong (fun k k0 k1 => by rw [mIns_R hp hp2 h3 hx k k0 (by omega)])
  have h1 : mIns u p x (6 + y) = if 6 + y = 6 + x then u (6 + x) - 1 else u (6 + y) := by rw [mIns_lo hp (by omega), if_neg (by omega)]
  have h2 : mIns u p x (22 + y) = u (22 + y) := by rw [mIns_lo hp (by omega), if_neg (by omega), if_neg (by omega)]
  have h4 : mIns u p x (38 + y) = u (38 + y) := by rw [mIns_lo hp (by omega), if_neg (by omega), if_neg (by omega)]
  rw [h1, h2, h4, e]
  by_cases c : x = y
  · rw [if_pos (by omega), b01_t c, c]; omega
  · rw [if_neg (by omega), b01_f c]; omega
theorem mPul_w {u : Int → Int} {p : Int} (hp : 0 ≤ p) (hn : u (70 + p) < 16) (h3 : u 3 ≤ 20) : ∀ i, 0 ≤ i → i < u 3 - 1 → mPul u p (70 + i) = wN u p i ∧ mPul u p (90 + i) = wD u p i := fun i i0 i1 => by
  rw [mPul_N hp hn h3 i0 (by omega), mPul_D hp hn h3 i0 (by omega)]
  unfold wN wD
  by_cases c : p ≤ i
  · have c1 : p ≤ i ∧ i < u 3 - 1 := ⟨c, i1⟩
    have c2 : 0 ≤ p ∧ p ≤ i := ⟨hp, c⟩
    rw [if_pos c1, if_pos c1, if_pos c2, if_pos c2, show 70 + i + 1 = 70 + (i + 1) by omega, show 90 + i + 1 = 90 + (i + 1) by omega]
    exact ⟨rfl, rfl⟩
  · rw [if_neg (by omega), if_neg (by omega), if_neg (by omega), if_neg (by omega)]
    exact ⟨rfl, rfl⟩
theorem Cs_pul {u : Int → Int} {p : Int} (h : Cs u) (hp : 0 ≤ p) (hp2 : p < u 3) (h3 : u 3 ≤ 20) (hn0 : 0 ≤ u (70 + p)) (hn : u (70 + p) < 16) : Cs (mPul u p) := fun y y0 y1 => by
  have g := h y y0 y1
  have e3 : mPul u p 3 = u 3 - 1 := by rw [mPul_lo hp (by omega), if_neg (by omega), if_pos rfl]
  have e : cnX (mPul u p) y + b01 (u (70 + p) = y) = cnX u y := by
    rw [cnX_wN hp hp2]
    unfold cnX
    rw [e3, cn_cong (q := fun e => wN u p e = y) (fun k k0 k1 => by rw [(mPul_w hp hn h3 k k0 k1).1])]
  have h1 : mPul u p (6 + y) = if 6 + y = 6 + u (70 + p) then u (6 + u (70 + p)) + 1 else u (6 + y) := by rw [mPul_lo hp (by omega), if_neg (show ¬ 6 + y = 3 by omega)]
  have h2 : mPul u p (22 + y) = u (22 + y) := by rw [mPul_lo hp (by omega), if_neg (by omega), if_neg (by omega)]
  have h4 : mPul u p (38 + y) = u (38 + y) := by rw [mPul_lo hp (by omega), if_neg (by omega), if_neg (by omega)]
  rw [h1, h2, h4]
  by_cases c : u (70 + p) = y
  · rw [b01_t c] at e
    rw [if_pos (by omega), c]; omega
  · rw [b01_f c] at e
    rw [if_neg (by omega)]; omega
theorem mMov_b {u : Int → Int} {p r : Int} (hp : 0 ≤ p) (hp2 : p < u 3) (hr : 0 ≤ r) (hr2 : r < u 3) (h3 : u 3 ≤ 20) : ∀ i, 0 ≤ i → i < u 3 → mMov u p r (70 + i) = bhN u p r i := fun i i0 i1 => by
  rw [mMov_N hp hr (by omega) (by omega) i0 (by omega)]
  unfold bhN
  rw [insR_at]
  unfold wN
  by_cases c : i = r
  · rw [if_pos c, if_pos c]
  · rw [if_neg c, if_neg c]
    by_cases c2 : p ≤ i ∧ i < r
    · rw [if_pos c2, if_neg (by omega), if_pos (by omega), show 70 + i + 1 = 70 + (i + 1) by omega]
    · rw [if_neg c2]
      by_cases c3 : r < i ∧ i ≤ p
      · rw [if_pos c3, if_pos (by omega), if_neg (by omega), show 70 + i - 1 = 70 + (i - 1) by omega]
      · rw [if_neg c3]
        by_cases c4 : r < i
        · rw [if_pos (by omega), if_pos (by omega), show i - 1 + 1 = i by omega]
        · rw [if_neg (by omega), if_neg (by omega)]
theorem Cs_mov {u : Int → Int} {p r : Int} (h : Cs u) (hp : 0 ≤ p) (hp2 : p < u 3) (hr : 0 ≤ r) (hr2 : r < u 3) (h3 : u 3 ≤ 20) : Cs (mMov u p r) := fun y y0 y1 => by
  have g := h y y0 y1
  have e : cnX (mMov u p r) y = cnX u y := by
    rw [cnX_wN hp hp2, ← cn_ins (wN u p) (x := u (70 + p)) (y := y) hr (show r ≤ u 3 - 1 by omega), show u 3 - 1 + 1 = u 3 by omega]
    unfold cnX
    rw [mMov_o hp hr (by omega)]
    exact cn_cong (fun k k0 k1 => by rw [mMov_b hp hp2 hr hr2 h3 k k0 k1]; exact Iff.rfl)
  rw [mMov_o hp hr (by omega), mMov_o hp hr (by omega), mMov_o hp hr (by omega), e]
  exact g
theorem Cs_fli {u : Int → Int} {p : Int} (h : Cs u) (h3 : u 3 ≤ 20) (hp : 0 ≤ p) : Cs (mFli u p) := Cs_c h (s1_n _ _ (by omega)) (fun i i0 i1 => s1_n _ _ (by omega)) (fun j j0 j1 => s1_n _ _ (by omega))
theorem Cs_bin {u : Int → Int} (h : Cs u) : Cs (mBin u) := fun y y0 y1 => by
  have g := h y y0 y1
  have e : cnX (mBin u) y = 0 := by
    unfold cnX
    rw [mBin_e, if_neg (by omega), if_pos rfl]
    exact cn_0 _
  have h1 : mBin u (6 + y) = u (6 + y) := by rw [mBin_e, if_neg (by omega), if_neg (by omega), if_neg (by omega)]
  have h2 : mBin u (22 + y) = u (22 + y) + cn (fun e => u (70 + e) = y) (u 3) := by rw [mBin_e, if_neg (by omega), if_neg (by omega), if_pos (by omega), show 22 + y - 22 = y by omega]
  have h4 : mBin u (38 + y) = u (38 + y) := by rw [mBin_e, if_neg (by omega), if_neg (by omega), if_neg (by omega)]
  rw [h1, h2, h4, e]
  unfold cnX at g
  omega
