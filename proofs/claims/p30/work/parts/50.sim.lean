/-! the class's object beside the reference's vector -/
def StE (μ : Mem) (h : Nat) (w : Int → Int) : Prop := (∀ i, 0 ≤ i → i < 3 → μ (h + 11) i = w i) ∧ μ (h + 1) 2 = w 3 ∧ μ h 6 = w 4 ∧ μ h 7 = w 5 ∧ (∀ i, 0 ≤ i → i < 16 → μ (h + 7) i = w (6 + i)) ∧ (∀ i, 0 ≤ i → i < 16 → μ (h + 8) i = w (22 + i)) ∧ (∀ i, 0 ≤ i → i < 16 → μ (h + 9) i = w (38 + i)) ∧ (∀ i, 0 ≤ i → i < 16 → μ (h + 10) i = w (54 + i)) ∧
  (∀ i, 0 ≤ i → i < w 3 → μ (h + 1 + 1) i = w (70 + i)) ∧ ∀ i, 0 ≤ i → i < w 3 → μ (h + 1 + 2) i = w (90 + i)
def seg (w : Int → Int) (k : Int) : Int → Int := fun j => w (110 * k + j)
theorem StE_c {μ : Mem} {h : Nat} {w w' : Int → Int} (e : StE μ h w) (c : ∀ j, 0 ≤ j → j < 110 → w' j = w j) (hn : w 3 ≤ 20) : StE μ h w' := by
  obtain ⟨e1, e2, e3, e4, e5, e6, e7, e8, e9, e10⟩ := e
  unfold StE
  rw [c 3 (by omega) (by omega), c 4 (by omega) (by omega), c 5 (by omega) (by omega)]
  exact ⟨fun i h0 h1 => by rw [c i h0 (by omega)]; exact e1 i h0 h1, e2, e3, e4, fun i h0 h1 => by rw [c _ (by omega) (by omega)]; exact e5 i h0 h1, fun i h0 h1 => by rw [c _ (by omega) (by omega)]; exact e6 i h0 h1, fun i h0 h1 => by rw [c _ (by omega) (by omega)]; exact e7 i h0 h1, fun i h0 h1 => by rw [c _ (by omega) (by omega)]; exact e8 i h0 h1, fun i h0 h1 => by rw [c _ (by omega) (by omega)]; exact e9 i h0 h1, fun i h0 h1 => by rw [c _ (by omega) (by omega)]; exact e10 i h0 h1⟩
theorem StE_f {μ ν : Mem} {h : Nat} {w : Int → Int} (e : StE μ h w) (f : ∀ r, h ≤ r → r ≤ h + 11 → (r < h + 4 ∨ h + 6 < r) → ν r = μ r) : StE ν h w := by
  obtain ⟨e1, e2, e3, e4, e5, e6, e7, e8, e9, e10⟩ := e
  unfold StE
  rw [f (h + 11) (by omega) (by omega) (by omega), f (h + 1) (by omega) (by omega) (by omega), f h (by omega) (by omega) (by omega), f (h + 7) (by omega) (by omega) (by omega), f (h + 8) (by omega) (by omega) (by omega), f (h + 9) (by omega) (by omega) (by omega), f (h + 10) (by omega) (by omega) (by omega), f (h + 1 + 1) (by omega) (by omega) (by omega), f (h + 1 + 2) (by omega) (by omega) (by omega)]
  exact ⟨e1, e2, e3, e4, e5, e6, e7, e8, e9, e10⟩
theorem StE_W {K : Int} {μ : Mem} {h : Nat} {w : Int → Int} (hv : veW K w) (e : StE μ h w) : StW K μ h := by
  obtain ⟨v0, v1, v2, v3, v4, v5, v6, v7, v8, v9, v10⟩ := hv
  obtain ⟨e1, e2, e3, e4, e5, e6, e7, e8, e9, e10⟩ := e
  unfold StW BlW
  rw [e2, e3, e4, e1 0 (by omega) (by omega), e1 1 (by omega) (by omega), e1 2 (by omega) (by omega)]
  exact ⟨v0, ⟨v4.1, v4.2, fun i h0 h1 => by rw [e9 i h0 h1]; exact v9 i h0 h1, fun i h0 h1 => by rw [e10 i h0 h1]; exact v10 i h0 h1⟩,
    fun i h0 h1 => by rw [e5 i h0 h1]; exact v7 i h0 (by omega),
    fun i h0 h1 => by rw [e6 i h0 h1, show 22 + i = 6 + (16 + i) by omega]; exact v7 (16 + i) (by omega) (by omega),
    fun i h0 h1 => by rw [e7 i h0 h1, show 38 + i = 6 + (32 + i) by omega]; exact v7 (32 + i) (by omega) (by omega),
    fun i h0 h1 => by rw [e8 i h0 h1]; exact v8 i h0 h1, v1, v2, v3, v5, v6⟩
theorem StE_cp {μ : Mem} {h g : Nat} {w : Int → Int} (e : StE μ g w) (hd : h + 11 < g ∨ g + 11 < h) : StE (cpS μ h g) h w := by
  obtain ⟨e1, e2, e3, e4, e5, e6, e7, e8, e9, e10⟩ := e
  have a11 : cpS μ h g (h + 11) = μ (g + 11) := by unfold cpS; simp (disch := omega) only [wr_n, wr_s]
  have a10 : cpS μ h g (h + 10) = μ (g + 10) := by unfold cpS; simp (disch := omega) only [wr_n, wr_s]
  have a9 : cpS μ h g (h + 9) = μ (g + 9) := by unfold cpS; simp (disch := omega) only [wr_n, wr_s]
  have a8 : cpS μ h g (h + 8) = μ (g + 8) := by unfold cpS; simp (disch := omega) only [wr_n, wr_s]
  have a7 : cpS μ h g (h + 7) = μ (g + 7) := by unfold cpS; simp (disch := omega) only [wr_n, wr_s]
  have a2 : cpS μ h g (h + 1 + 1) = μ (g + 1 + 1) := by unfold cpS; simp (disch := omega) only [wr_n, wr_s]
  have a3 : cpS μ h g (h + 1 + 2) = μ (g + 1 + 2) := by unfold cpS; simp (disch := omega) only [wr_n, wr_s]
  have a1 : cpS μ h g (h + 1) 2 = μ (g + 1) 2 := by unfold cpS; simp (disch := omega) only [wr_n, wr_s, s1_s]
  have a6 : cpS μ h g h 6 = μ g 6 := by unfold cpS; simp (disch := omega) only [wr_n, wr_s, s1_s, s1_n]
  have a70 : cpS μ h g h 7 = μ g 7 := by unfold cpS; simp (disch := omega) only [wr_n, wr_s, s1_s, s1_n]
  unfold StE
  rw [a11, a10, a9, a8, a7, a2, a3, a1, a6, a70]
  exact ⟨e1, e2, e3, e4, e5, e6, e7, e8, e9, e10⟩
/-- the class's object does what the reference's numbers say: w its vector, tx its characters, sv saved, kp kept, ln characters -/
def CI (V : Wo) (K : Int) (q : Nat) (μ : Mem) (w tx : Int → Int) (sv kp ln : Int) : Prop := SpS V q ∧ (veW K w ∧ StE μ (q + 1) w) ∧ ((kp = 0 ∨ kp = 1) ∧ μ q 7 = kp ∧ (kp = 1 → veW K (seg w 7) ∧ StE μ (q + 13) (seg w 7))) ∧
  ((0 ≤ sv ∧ sv ≤ 6) ∧ μ (q + 37) 1 = sv ∧ HiW V μ (q + 37) ∧ (∀ i, 0 ≤ i → i < 6 → q + 38 < svA μ (q + 37) i ∧ svA μ (q + 37) i + 11 < q + 111) ∧ (∀ i j, 0 ≤ i → i < 6 → 0 ≤ j → j < 6 → i ≠ j → svA μ (q + 37) i + 11 < svA μ (q + 37) j ∨ svA μ (q + 37) j + 11 < svA μ (q + 37) i) ∧ ∀ i, 0 ≤ i → i < sv → veW K (seg w (i + 1)) ∧ StE μ (svA μ (q + 37) i) (seg w (i + 1))) ∧
  (μ q 6 = ln ∧ (0 ≤ ln ∧ ln ≤ 60) ∧ (∀ i, 0 ≤ i → i < ln → μ (q + 112) i = tx i) ∧ ∀ i, 0 ≤ i → i < ln → 33 ≤ tx i ∧ tx i ≤ 126) ∧ ReW (μ (q + 111))
theorem CI_SpW {V : Wo} {K : Int} {q : Nat} {μ : Mem} {w tx : Int → Int} {sv kp ln : Int} (h : CI V K q μ w tx sv kp ln) : SpW V K μ q := by
  obtain ⟨h0, ⟨h1, h2⟩, ⟨k1, k2, k3⟩, ⟨s1, s2, s3, s4, s5, s6⟩, ⟨b1, b2, b3, b4⟩, r⟩ := h
  refine ⟨StE_W h1 h2, s3, by rw [b1]; exact b2, by rw [k2]; exact k1, fun i i0 i1 => ?_, r, fun i i0 i1 => s4 i i0 i1⟩
  rw [b1] at i1
  rw [b3 i i0 i1]
  exact b4 i i0 i1
theorem seg_c {w w' : Int → Int} {k : Int} (e : ∀ j, 0 ≤ j → j < 110 → w' (110 * k + j) = w (110 * k + j)) : ∀ j, 0 ≤ j → j < 110 → seg w' k j = seg w k j := fun j h0 h1 => e j h0 h1
/-- what stays, stays -/
theorem CI_f {V : Wo} {K : Int} {q : Nat} {μ ν : Mem} {w tx : Int → Int} {sv kp ln : Int} (h : CI V K q μ w tx sv kp ln) (f : ∀ r, q ≤ r → r ≤ q + 112 → (r < q + 25 ∨ q + 36 < r) → (r < q + 5 ∨ q + 7 < r) → r ≠ q + 111 → ν r = μ r) (hr : ReW (ν (q + 111))) : CI V K q ν w tx sv kp ln := by
  obtain ⟨h0, ⟨h1, h2⟩, ⟨k1, k2, k3⟩, ⟨s1, s2, s3, s4, s5, s6⟩, ⟨b1, b2, b3, b4⟩, r⟩ := h
  have g0 : ν q = μ q := f q (by omega) (by omega) (by omega) (by omega) (by omega)
  have g37 : ν (q + 37) = μ (q + 37) := f (q + 37) (by omega) (by omega) (by omega) (by omega) (by omega)
  have g38 : ν (q + 37 + 1) = μ (q + 37 + 1) := f (q + 37 + 1) (by omega) (by omega) (by omega) (by omega) (by omega)
  have gs : ∀ i, svA ν (q + 37) i = svA μ (q + 37) i := fun i => by unfold svA; rw [g38]
  refine ⟨h0, ⟨h1, StE_f h2 (fun r r0 r1 r2 => f r (by omega) (by omega) (by omega) (by omega) (by omega))⟩, ⟨k1, by rw [g0]; exact k2, fun z => ⟨(k3 z).1, StE_f (k3 z).2 (fun r r0 r1 r2 => f r (by omega) (by omega) (by omega) (by omega) (by omega))⟩⟩, ⟨s1, by rw [g37]; exact s2, ?_, ?_, ?_, ?_⟩, ⟨by rw [g0]; exact b1, b2, ?_, b4⟩, hr⟩
  · unfold HiW at s3 ⊢
    rw [g37, g38]
    exact s3
  · intro i i0 i1; rw [gs]; exact s4 i i0 i1
  · intro i j i0 i1 j0 j1 ij; rw [gs, gs]; exact s5 i j i0 i1 j0 j1 ij
  · intro i i0 i1
    rw [gs]
    have := s4 i i0 (by omega)
    exact ⟨(s6 i i0 i1).1, StE_f (s6 i i0 i1).2 (fun r r0 r1 r2 => f r (by omega) (by omega) (by omega) (by omega) (by omega))⟩
  · intro i i0 i1
    rw [f (q + 112) (by omega) (by omega) (by omega) (by omega) (by omega)]
    exact b3 i i0 i1
