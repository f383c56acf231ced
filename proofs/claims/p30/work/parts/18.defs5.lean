/-! the saved states go on -/
theorem HiW_drp {V : Wo} {μ : Mem} {q : Nat} (h : HiW V μ q) (h6 : μ q 1 = 6) : HiW V (drp μ q) q := by
  obtain ⟨w1, w2⟩ := h
  have e0 : drp μ q q 1 = 5 := by unfold drp; rw [wr_s, s1_s, h6]; rfl
  have e1 : drp μ q (q + 1) = rtR (μ (q + 1)) 6 := by unfold drp; rw [wr_n _ _ (by omega), wr_s]
  refine ⟨by rw [e0]; decide, fun i h0 h1 => ?_⟩
  rw [e1]
  unfold rtR
  by_cases c1 : 0 ≤ i ∧ i < 6 - 1
  · rw [if_pos c1]; exact w2 (i + 1) (by omega) (by omega)
  · rw [if_neg c1, if_pos (by omega)]; exact w2 0 (by omega) (by omega)
def sepS (μ : Mem) (q g : Nat) : Prop := ∀ i, 0 ≤ i → i < 6 → svA μ q i + 11 < g ∨ g + 11 < svA μ q i
theorem sep_drp {μ : Mem} {q g : Nat} (h : sepS μ q g) : sepS (drp μ q) q g := by
  intro i h0 h1
  have e1 : drp μ q (q + 1) = rtR (μ (q + 1)) 6 := by unfold drp; rw [wr_n _ _ (by omega), wr_s]
  unfold svA
  rw [e1]
  unfold rtR
  by_cases c1 : 0 ≤ i ∧ i < 6 - 1
  · rw [if_pos c1]; exact h (i + 1) (by omega) (by omega)
  · rw [if_neg c1, if_pos (by omega)]; exact h 0 (by omega) (by omega)
/-- the reader's row behind i characters -/
def rdN (f b : Int → Int) : Nat → (Int → Int)
  | 0 => rS0 f
  | k + 1 => (nX (rdN f b k) (b k)).2
def rdI (f b : Int → Int) (i : Int) : Int → Int := rdN f b i.toNat
theorem rdI_0 (f b : Int → Int) : rdI f b 0 = rS0 f := rfl
theorem rdI_s (f b : Int → Int) {i : Int} (h : 0 ≤ i) : rdI f b (i + 1) = (nX (rdI f b i) (b i)).2 := by
  unfold rdI
  rw [show (i + 1).toNat = i.toNat + 1 by omega]
  show (nX (rdN f b i.toNat) (b ((i.toNat : Nat) : Int))).2 = _
  rw [Int.toNat_of_nonneg h]
theorem rdI_W (f b : Int → Int) {n : Int} (h : 0 ≤ n) (hb : ∀ i, 0 ≤ i → i < n → 0 ≤ b i ∧ b i < 128) : ReW (rdI f b n) := by
  refine loop_up (F := fun i => ReW (rdI f b i) → ReW (rdI f b n)) (a := 0) (b := n) h (fun g => g) (fun i h0 h1 K g => K ?_) (rS0_W f)
  rw [rdI_s f b h0]
  exact nX_W g (hb i h0 h1).1 (hb i h0 h1).2
abbrev rdP (f b : Int → Int) : Int → Prop := fun i => (nX (rdI f b i) (b i)).1 = 0
/-- the first error -/
def fEr (f b : Int → Int) (n : Int) : Int := if fs (rdP f b) 0 n < 0 then n else fs (rdP f b) 0 n
theorem fEr_r (f b : Int → Int) {n : Int} (h : 0 ≤ n) : 0 ≤ fEr f b n ∧ fEr f b n ≤ n := by
  unfold fEr
  rcases fs_r (rdP f b) 0 n with ⟨h1, -⟩ | ⟨h1, h2, -⟩
  · rw [if_pos (by omega)]; omega
  · rw [if_neg (by omega)]; omega
def SpS (V : Wo) (q : Nat) : Prop := woB V ≤ q ∧ woS V q = some (.inl 4) ∧ StS V (q + 1) ∧ StS V (q + 13) ∧ StS V (q + 25) ∧ HiS V (q + 37) ∧ ReS V (q + 111) ∧ woS V (q + 112) = some (.inr (0, 60))
/-- what a whole object keeps to -/
def SpW (V : Wo) (K : Int) (μ : Mem) (q : Nat) : Prop := StW K μ (q + 1) ∧ HiW V μ (q + 37) ∧ (0 ≤ μ q 6 ∧ μ q 6 ≤ 60) ∧ (μ q 7 = 0 ∨ μ q 7 = 1) ∧ (∀ i, 0 ≤ i → i < μ q 6 → 33 ≤ μ (q + 112) i ∧ μ (q + 112) i ≤ 126) ∧ ReW (μ (q + 111)) ∧
  (∀ i, 0 ≤ i → i < 6 → q + 37 + 1 < svA μ (q + 37) i ∧ svA μ (q + 37) i + 11 < q + 111)
def eI (p : Int → Prop) [DecidablePred p] (i n : Int) : Int := if fs p i n < 0 then n else fs p i n
theorem eI_e (p : Int → Prop) [DecidablePred p] {i n : Int} (h : n ≤ i) : eI p i n = n := by unfold eI; rw [fs_e p h, if_pos (by omega)]
theorem eI_t (p : Int → Prop) [DecidablePred p] {i n : Int} (h0 : 0 ≤ i) (h : i < n) (hp : p i) : eI p i n = i := by unfold eI; rw [fs_t p h hp, if_neg (by omega)]
theorem eI_f (p : Int → Prop) [DecidablePred p] {i n : Int} (h : i < n) (hp : ¬ p i) : eI p i n = eI p (i + 1) n := by unfold eI; rw [fs_f p h hp]
/-- may the part be done; what it does -/
def pcn (μ : Mem) (q : Nat) (f : Int → Int) : Int := if f 0 = 103 then b01 (0 < μ (q + 1 + 7) (f 2) ∧ μ (q + 1 + 1) 2 < 20) else if f 0 = 112 ∨ f 0 = 102 then b01 (0 ≤ f 2 ∧ f 2 < μ (q + 1 + 1) 2) else if f 0 = 109 then b01 ((0 ≤ f 1 ∧ f 1 < μ (q + 1 + 1) 2) ∧ (0 ≤ f 2 ∧ f 2 < μ (q + 1 + 1) 2)) else b01 (flt (μ (q + 1 + 11) 0) (μ (q + 1 + 1 + 1)) (μ (q + 1 + 1 + 2)) (μ (q + 1 + 1) 2) = 0)
theorem b01_1 {p : Prop} [Decidable p] (h : b01 p = 1) : p := Decidable.byContradiction (fun z => by rw [b01_f z] at h; cases h)
def opG (μ : Mem) (h : Nat) (p x : Int) : Mem := wr (wr (wr (wr μ (h + 7) (s1 (μ (h + 7)) x (μ (h + 7) x + -1))) (h + 1 + 1) (insR (μ (h + 1 + 1)) p (μ (h + 1) 2) x)) (h + 1 + 2) (insR (μ (h + 1 + 2)) p (μ (h + 1) 2) 0)) (h + 1) (s1 (μ (h + 1)) 2 (μ (h + 1) 2 + 1))
def opP (μ : Mem) (h : Nat) (p : Int) : Mem := wr (wr (wr (wr μ (h + 1 + 1) (remR (μ (h + 1 + 1)) p (μ (h + 1) 2))) (h + 1 + 2) (remR (μ (h + 1 + 2)) p (μ (h + 1) 2))) (h + 1) (s1 (μ (h + 1)) 2 (μ (h + 1) 2 - 1))) (h + 7) (s1 (μ (h + 7)) (μ (h + 1 + 1) p) (μ (h + 7) (μ (h + 1 + 1) p) + 1))
def opF (μ : Mem) (h : Nat) (p : Int) : Mem := wr μ (h + 1 + 2) (s1 (μ (h + 1 + 2)) p (1 - μ (h + 1 + 2) p))
def opM (μ : Mem) (h : Nat) (p r : Int) : Mem := wr (wr μ (h + 1 + 1) (insR (remR (μ (h + 1 + 1)) p (μ (h + 1) 2)) r (μ (h + 1) 2 - 1) (μ (h + 1 + 1) p))) (h + 1 + 2) (insR (remR (μ (h + 1 + 2)) p (μ (h + 1) 2)) r (μ (h + 1) 2 - 1) (μ (h + 1 + 2) p))
def opB (μ : Mem) (h : Nat) : Mem := wr (wr (wr μ (h + 8) (bkR (μ (h + 1 + 1)) (μ (h + 8)) (μ (h + 1) 2))) (h + 1) (s1 (μ (h + 1)) 2 0)) h (s1 (μ h) 6 (μ h 6 + 1))
def pDo (μ : Mem) (q : Nat) (f : Int → Int) : Mem := if f 0 = 103 then opG μ (q + 1) (μ (q + 1 + 1) 2) (f 2) else if f 0 = 112 then opP μ (q + 1) (f 2) else if f 0 = 102 then opF μ (q + 1) (f 2) else if f 0 = 109 then opM μ (q + 1) (f 1) (f 2) else opB μ (q + 1)
theorem fEr_I (f b : Int → Int) (n : Int) : fEr f b n = eI (rdP f b) 0 n := rfl
theorem lsw_1 {a o dd x : Int} {r : List (Int × Int)} (h : x ≠ a) : Op.lookupswitch.offset ((a, o) :: r) dd x = Op.lookupswitch.offset r dd x := by
  rw [Op.lookupswitch.offset_cons, if_neg (fun z => h z.symm)]
theorem lsw_4 (a b c d o1 o2 o3 o4 dd x : Int) (h1 : x ≠ a) (h2 : x ≠ b) (h3 : x ≠ c) (h4 : x ≠ d) : Op.lookupswitch.offset (#[(a, o1), (b, o2), (c, o3), (d, o4)] : Array (Int × Int)).toList dd x = dd := by
  show Op.lookupswitch.offset [(a, o1), (b, o2), (c, o3), (d, o4)] dd x = dd
  rw [lsw_1 h1, lsw_1 h2, lsw_1 h3, lsw_1 h4]
  rfl
theorem b01_i {p r : Prop} [Decidable p] [Decidable r] (h : p ↔ r) : b01 p = b01 r := by
  by_cases g : r
  · rw [b01_t g, b01_t (h.mpr g)]
  · rw [b01_f g, b01_f (fun z => g (h.mp z))]
theorem b01_z (p : Prop) [Decidable p] : b01 p = 0 ∨ b01 p = 1 := by
  by_cases g : p
  · rw [b01_t g]; exact Or.inr rfl
  · rw [b01_f g]; exact Or.inl rfl
