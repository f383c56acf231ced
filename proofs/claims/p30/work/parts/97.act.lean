/-! a deed of the law: what it tells and what it leaves -/
def acN (u : Int → Int) (y : Int) : Int := if iAnd y 3 = 0 then upT (iShr y 2) 16 else u 3 % 16
def acP (u : Int → Int) (y : Int) : Int := if u 3 = 0 then 0 else upT (iShr y 6) (u 3)
def acO (u : Int → Int) (y : Int) : Int := if u 3 = 0 then 0 else upT (iShr y 11) (u 3)
theorem acN_r (u : Int → Int) (y : Int) : 0 ≤ acN u y ∧ acN u y < 16 := by
  unfold acN
  split
  · exact upT_r _ (by decide)
  · omega
theorem acP_r {u : Int → Int} (y : Int) (h : 0 < u 3) : 0 ≤ acP u y ∧ acP u y < u 3 := by
  unfold acP
  rw [if_neg (by omega)]
  exact upT_r _ h
theorem acO_r {u : Int → Int} (y : Int) (h : 0 < u 3) : 0 ≤ acO u y ∧ acO u y < u 3 := by
  unfold acO
  rw [if_neg (by omega)]
  exact upT_r _ h
theorem fiT_f {u : Int → Int} (h : 0 ≤ fiT u) : fiT u < 16 ∧ u 3 < 20 ∧ 0 < u (6 + fiT u) ∧ fiT u % u 1 = due (u 1) (vN u) (vD u) (u 3) := by
  have g := fs_is (p := fun x => u 3 < 20 ∧ 0 < u (6 + x) ∧ x % u 1 = due (u 1) (vN u) (vD u) (u 3)) (i := 0) (n := 16) (by
    have : fiT u = fs (fun x => u 3 < 20 ∧ 0 < u (6 + x) ∧ x % u 1 = due (u 1) (vN u) (vD u) (u 3)) 0 16 := rfl
    omega)
  exact ⟨g.2.1, g.2.2.1⟩
theorem set_0 {c : Int} (h : 1 ≤ c ∧ c ≤ 16) : sLo 0 ≤ c ∧ c ≤ sUp 0 := h
theorem set_1 {c : Int} (h : 2 ≤ c ∧ c ≤ 8) : sLo 1 ≤ c ∧ c ≤ sUp 1 := h
theorem set_2 {c : Int} (h : 1 ≤ c ∧ c ≤ 9) : sLo 2 ≤ c ∧ c ≤ sUp 2 := h
theorem Cs_s1 {u : Int → Int} {k c : Int} (h : Cs u) (h3 : u 3 ≤ 20) (hk : k ≠ 3) (hk2 : k < 6 ∨ 54 ≤ k) (hk3 : k < 70) : Cs (s1 u k c) := Cs_c h (s1_n _ _ (by omega)) (fun i i0 i1 => s1_n _ _ (by omega)) (fun j j0 j1 => s1_n _ _ (by omega))
theorem Cs_pri {u : Int → Int} {x c : Int} (h : Cs u) (h3 : u 3 ≤ 20) (hx : 0 ≤ x ∧ x < 16) : Cs (s1 (s1 u (6 + x) (u (6 + x) + c)) (38 + x) (u (38 + x) + c)) := fun y y0 y1 => by
  have g := h y y0 y1
  have e : cnX (s1 (s1 u (6 + x) (u (6 + x) + c)) (38 + x) (u (38 + x) + c)) y = cnX u y := by
    unfold cnX
    rw [s1_n _ _ (show (3 : Int) ≠ 38 + x by omega), s1_n _ _ (show (3 : Int) ≠ 6 + x by omega)]
    exact cn_cong (fun k k0 k1 => by rw [s1_n _ _ (by omega), s1_n _ _ (by omega)])
  rw [e, s1_n _ _ (show 6 + y ≠ 38 + x by omega), s1_n _ _ (show 22 + y ≠ 38 + x by omega), s1_n _ _ (show 22 + y ≠ 6 + x by omega)]
  by_cases d : y = x
  · rw [d, s1_s, s1_s, ← d]; omega
  · rw [s1_n _ _ (show 6 + y ≠ 6 + x by omega), s1_n _ _ (show 38 + y ≠ 38 + x by omega), s1_n _ _ (show 38 + y ≠ 6 + x by omega)]; exact g
def acT (u z : Int → Int) (x y : Int) : Int × (Int → Int) :=
  if upT x 20 = 0 then ((u 0, s1 u 0 (1 + upT y (if 0 < iAnd (iShr y 8) 3 then 5 else 16))))
  else if upT x 20 = 1 then ((u 1, s1 u 1 (2 + upT y 7)))
  else if upT x 20 = 2 then ((u 2, s1 u 2 (1 + upT y 9)))
  else if upT x 20 = 3 then ((u (54 + upT y 16), s1 u (54 + upT y 16) (1 + upT (iShr y 4) 31)))
  else if upT x 20 = 4 then (if u (6 + acN u y) < 80 then (u (6 + acN u y) + (1 + upT (iShr y 6) 4), s1 (s1 u (6 + acN u y) (u (6 + acN u y) + (1 + upT (iShr y 6) 4))) (38 + acN u y) (u (38 + acN u y) + (1 + upT (iShr y 6) 4))) else (u (54 + acN u y), s1 u (54 + acN u y) 31))
  else if upT x 20 = 5 ∨ upT x 20 = 6 then (if 0 < u 3 then (u (70 + acP u y), mPul u (acP u y)) else (u (54 + acN u y), s1 u (54 + acN u y) 31))
  else if upT x 20 = 7 then (if 0 < u 3 then (mk (u 1) (u (70 + acP u y)) (1 - u (90 + acP u y)), mFli u (acP u y)) else (u (54 + acN u y), s1 u (54 + acN u y) 31))
  else if upT x 20 = 8 ∨ upT x 20 = 9 then (if 0 < u 3 then (brks (u 1) (vN (mMov u (acP u y) (acO u y))) (vD (mMov u (acP u y) (acO u y))) (u 3), mMov u (acP u y) (acO u y)) else (u (54 + acN u y), s1 u (54 + acN u y) 31))
  else if upT x 20 = 10 then (if flt (u 0) (vN u) (vD u) (u 3) = 0 then (u 4 + 1, mBin u) else (z 3, z))
  else if upT x 20 = 11 then (if u 3 < 20 ∧ 0 < u (6 + acN u y) then (u 3 + 1, mIns u (acP u y) (acN u y)) else (u (54 + acN u y), s1 u (54 + acN u y) 31))
  else if upT x 20 = 12 ∨ upT x 20 = 13 then (if 0 ≤ fiT u then (u 3 + 1, mIns u (u 3) (fiT u)) else (u 0, s1 u 0 (1 + upT y 6)))
  else (if u 3 < 20 ∧ 0 < u (6 + acN u y) then (u 3 + 1, mIns u (u 3) (acN u y)) else if 0 < u 3 then (u (70 + acP u y), mPul u (acP u y)) else (u (54 + acN u y), s1 u (54 + acN u y) 31))
theorem acL_0a {u z : Int → Int} {x y : Int} (e : upT x 20 = 0) (c0 : 0 < iAnd (iShr y 8) 3) : acT u z x y = (u 0, s1 u 0 (1 + upT y 5)) := by
  unfold acT
  rw [if_pos e, if_pos c0]
theorem acL_0b {u z : Int → Int} {x y : Int} (e : upT x 20 = 0) (c0 : ¬ (0 < iAnd (iShr y 8) 3)) : acT u z x y = (u 0, s1 u 0 (1 + upT y 16)) := by
  unfold acT
  rw [if_pos e, if_neg c0]
theorem acL_1 {u z : Int → Int} {x y : Int} (e : upT x 20 = 1) : acT u z x y = (u 1, s1 u 1 (2 + upT y 7)) := by
  unfold acT
  rw [if_neg (by omega), if_pos e]
theorem acL_2 {u z : Int → Int} {x y : Int} (e : upT x 20 = 2) : acT u z x y = (u 2, s1 u 2 (1 + upT y 9)) := by
  unfold acT
  rw [if_neg (by omega), if_neg (by omega), if_pos e]
theorem acL_3 {u z : Int → Int} {x y : Int} (e : upT x 20 = 3) : acT u z x y = (u (54 + upT y 16), s1 u (54 + upT y 16) (1 + upT (iShr y 4) 31)) := by
  unfold acT
  rw [if_neg (by omega), if_neg (by omega), if_neg (by omega), if_pos e]
theorem acL_4a {u z : Int → Int} {x y : Int} (e : upT x 20 = 4) (c0 : u (6 + acN u y) < 80) : acT u z x y = (u (6 + acN u y) + (1 + upT (iShr y 6) 4), s1 (s1 u (6 + acN u y) (u (6 + acN u y) + (1 + upT (iShr y 6) 4))) (38 + acN u y) (u (38 + acN u y) + (1 + upT (iShr y 6) 4))) := by
  unfold acT
  rw [if_neg (by omega), if_neg (by omega), if_neg (by omega), if_neg (by omega), if_pos e, if_pos c0]
theorem acL_4b {u z : Int → Int} {x y : Int} (e : upT x 20 = 4) (c0 : ¬ (u (6 + acN u y) < 80)) : acT u z x y = (u (54 + acN u y), s1 u (54 + acN u y) 31) := by
  unfold acT
  rw [if_neg (by omega), if_neg (by omega), if_neg (by omega), if_neg (by omega), if_pos e, if_neg c0]
theorem acL_5a {u z : Int → Int} {x y : Int} (e : upT x 20 = 5 ∨ upT x 20 = 6) (c0 : 0 < u 3) : acT u z x y = (u (70 + acP u y), mPul u (acP u y)) := by
  unfold acT
  rw [if_neg (by omega), if_neg (by omega), if_neg (by omega), if_neg (by omega), if_neg (by omega), if_pos e, if_pos c0]
theorem acL_5b {u z : Int → Int} {x y : Int} (e : upT x 20 = 5 ∨ upT x 20 = 6) (c0 : ¬ (0 < u 3)) : acT u z x y = (u (54 + acN u y), s1 u (54 + acN u y) 31) := by
  unfold acT
  rw [if_neg (by omega), if_neg (by omega), if_neg (by omega), if_neg (by omega), if_neg (by omega), if_pos e, if_neg c0]
theorem acL_7a {u z : Int → Int} {x y : Int} (e : upT x 20 = 7) (c0 : 0 < u 3) : acT u z x y = (mk (u 1) (u (70 + acP u y)) (1 - u (90 + acP u y)), mFli u (acP u y)) := by
  unfold acT
  rw [if_neg (by omega), if_neg (by omega), if_neg (by omega), if_neg (by omega), if_neg (by omega), if_neg (by omega), if_pos e, if_pos c0]
theorem acL_7b {u z : Int → Int} {x y : Int} (e : upT x 20 = 7) (c0 : ¬ (0 < u 3)) : acT u z x y = (u (54 + acN u y), s1 u (54 + acN u y) 31) := by
  unfold acT
  rw [if_neg (by omega), if_neg (by omega), if_neg (by omega), if_neg (by omega), if_neg (by omega), if_neg (by omega), if_pos e, if_neg c0]
theorem acL_8a {u z : Int → Int} {x y : Int} (e : upT x 20 = 8 ∨ upT x 20 = 9) (c0 : 0 < u 3) : acT u z x y = (brks (u 1) (vN (mMov u (acP u y) (acO u y))) (vD (mMov u (acP u y) (acO u y))) (u 3), mMov u (acP u y) (acO u y)) := by
  unfold acT
  rw [if_neg (by omega), if_neg (by omega), if_neg (by omega), if_neg (by omega), if_neg (by omega), if_neg (by omega), if_neg (by omega), if_pos e, if_pos c0]
theorem acL_8b {u z : Int → Int} {x y : Int} (e : upT x 20 = 8 ∨ upT x 20 = 9) (c0 : ¬ (0 < u 3)) : acT u z x y = (u (54 + acN u y), s1 u (54 + acN u y) 31) := by
  unfold acT
  rw [if_neg (by omega), if_neg (by omega), if_neg (by omega), if_neg (by omega), if_neg (by omega), if_neg (by omega), if_neg (by omega), if_pos e, if_neg c0]
theorem acL_10a {u z : Int → Int} {x y : Int} (e : upT x 20 = 10) (c0 : flt (u 0) (vN u) (vD u) (u 3) = 0) : acT u z x y = (u 4 + 1, mBin u) := by
  unfold acT
  rw [if_neg (by omega), if_neg (by omega), if_neg (by omega), if_neg (by omega), if_neg (by omega), if_neg (by omega), if_neg (by omega), if_neg (by omega), if_pos e, if_pos c0]
theorem acL_10b {u z : Int → Int} {x y : Int} (e : upT x 20 = 10) (c0 : ¬ (flt (u 0) (vN u) (vD u) (u 3) = 0)) : acT u z x y = (z 3, z) := by
  unfold acT
  rw [if_neg (by omega), if_neg (by omega), if_neg (by omega), if_neg (by omega), if_neg (by omega), if_neg (by omega), if_neg (by omega), if_neg (by omega), if_pos e, if_neg c0]
theorem acL_11a {u z : Int → Int} {x y : Int} (e : upT x 20 = 11) (c0 : u 3 < 20 ∧ 0 < u (6 + acN u y)) : acT u z x y = (u 3 + 1, mIns u (acP u y) (acN u y)) := by
  unfold acT
  rw [if_neg (by omega), if_neg (by omega), if_neg (by omega), if_neg (by omega), if_neg (by omega), if_neg (by omega), if_neg (by omega), if_neg (by omega), if_neg (by omega), if_pos e, if_pos c0]
theorem acL_11b {u z : Int → Int} {x y : Int} (e : upT x 20 = 11) (c0 : ¬ (u 3 < 20 ∧ 0 < u (6 + acN u y))) : acT u z x y = (u (54 + acN u y), s1 u (54 + acN u y) 31) := by
  unfold acT
  rw [if_neg (by omega), if_neg (by omega), if_neg (by omega), if_neg (by omega), if_neg (by omega), if_neg (by omega), if_neg (by omega), if_neg (by omega), if_neg (by omega), if_pos e, if_neg c0]
theorem acL_12a {u z : Int → Int} {x y : Int} (e : upT x 20 = 12 ∨ upT x 20 = 13) (c0 : 0 ≤ fiT u) : acT u z x y = (u 3 + 1, mIns u (u 3) (fiT u)) := by
  unfold acT
  rw [if_neg (by omega), if_neg (by omega), if_neg (by omega), if_neg (by omega), if_neg (by omega), if_neg (by omega), if_neg (by omega), if_neg (by omega), if_neg (by omega), if_neg (by omega), if_pos e, if_pos c0]
theorem acL_12b {u z : Int → Int} {x y : Int} (e : upT x 20 = 12 ∨ upT x 20 = 13) (c0 : ¬ (0 ≤ fiT u)) : acT u z x y = (u 0, s1 u 0 (1 + upT y 6)) := by
  unfold acT
  rw [if_neg (by omega), if_neg (by omega), if_neg (by omega), if_neg (by omega), if_neg (by omega), if_neg (by omega), if_neg (by omega), if_neg (by omega), if_neg (by omega), if_neg (by omega), if_pos e, if_neg c0]
theorem acL_14a {u z : Int → Int} {x y : Int} (e : 14 ≤ upT x 20) (c0 : u 3 < 20 ∧ 0 < u (6 + acN u y)) : acT u z x y = (u 3 + 1, mIns u (u 3) (acN u y)) := by
  unfold acT
  rw [if_neg (by omega), if_neg (by omega), if_neg (by omega), if_neg (by omega), if_neg (by omega), if_neg (by omega), if_neg (by omega), if_neg (by omega), if_neg (by omega), if_neg (by omega), if_neg (by omega), if_pos c0]
theorem acL_14b {u z : Int → Int} {x y : Int} (e : 14 ≤ upT x 20) (c0 : ¬ (u 3 < 20 ∧ 0 < u (6 + acN u y))) (c1 : 0 < u 3) : acT u z x y = (u (70 + acP u y), mPul u (acP u y)) := by
  unfold acT
  rw [if_neg (by omega), if_neg (by omega), if_neg (by omega), if_neg (by omega), if_neg (by omega), if_neg (by omega), if_neg (by omega), if_neg (by omega), if_neg (by omega), if_neg (by omega), if_neg (by omega), if_neg c0, if_pos c1]
theorem acL_14c {u z : Int → Int} {x y : Int} (e : 14 ≤ upT x 20) (c0 : ¬ (u 3 < 20 ∧ 0 < u (6 + acN u y))) (c1 : ¬ (0 < u 3)) : acT u z x y = (u (54 + acN u y), s1 u (54 + acN u y) 31) := by
  unfold acT
  rw [if_neg (by omega), if_neg (by omega), if_neg (by omega), if_neg (by omega), if_neg (by omega), if_neg (by omega), if_neg (by omega), if_neg (by omega), if_neg (by omega), if_neg (by omega), if_neg (by omega), if_neg c0, if_neg c1]
theorem acT_p {K : Int} {u z : Int → Int} (x y : Int) (h : Cs u) (hz : Cs z) (hv : veW K u) (hw : veW K z) : Cs (acT u z x y).2 ∧ 0 ≤ (acT u z x y).1 ∧ (acT u z x y).1 ≤ 2000000 := by
  have h3 := veW_3 hv
  have g3 := veW_3 hw
  have hH : ∀ i, 0 ≤ i → i < 16 → 1 ≤ u (54 + i) ∧ u (54 + i) ≤ 31 := veW_H hv
  have hA : ∀ i, 0 ≤ i → i < u 3 → 0 ≤ u (70 + i) ∧ u (70 + i) < 16 := veW_N hv
  have hN := acN_r u y
  have h16 := upT_r y (n := 16) (by decide)
  have h4 := upT_r (iShr y 6) (n := 4) (by decide)
  obtain ⟨v0, v1, v2, v3, v4, v5, v6, v7, v8, v9, v10⟩ := id hv
  have htt := upT_r x (n := 20) (by decide)
  by_cases e : upT x 20 = 0
  · by_cases c : 0 < iAnd (iShr y 8) 3
    · rw [acL_0a e c]
      exact ⟨Cs_s1 h h3.2 (by decide) (by decide) (by decide), by show 0 ≤ u 0 ∧ u 0 ≤ 2000000; omega⟩
    · rw [acL_0b e c]
      exact ⟨Cs_s1 h h3.2 (by decide) (by decide) (by decide), by show 0 ≤ u 0 ∧ u 0 ≤ 2000000; omega⟩
  by_cases e : upT x 20 = 1
  · rw [acL_1 e]
    exact ⟨Cs_s1 h h3.2 (by decide) (by decide) (by decide), by show 0 ≤ u 1 ∧ u 1 ≤ 2000000; omega⟩
  by_cases e : upT x 20 = 2
  · rw [acL_2 e]
    exact ⟨Cs_s1 h h3.2 (by decide) (by decide) (by decide), by show 0 ≤ u 2 ∧ u 2 ≤ 2000000; omega⟩
  by_cases e : upT x 20 = 3
  · rw [acL_3 e]
    exact ⟨Cs_s1 h h3.2 (by omega) (by omega) (by omega), by have := hH (upT y 16) h16.1 h16.2; show 0 ≤ u (54 + upT y 16) ∧ u (54 + upT y 16) ≤ 2000000; omega⟩
  by_cases e : upT x 20 = 4
  · by_cases c : u (6 + acN u y) < 80
    · rw [acL_4a e c]
      exact ⟨Cs_pri h h3.2 hN, by have := v7 _ hN.1 (by omega); show 0 ≤ u (6 + acN u y) + (1 + upT (iShr y 6) 4) ∧ u (6 + acN u y) + (1 + upT (iShr y 6) 4) ≤ 2000000; omega⟩
    · rw [acL_4b e c]
      exact ⟨Cs_s1 h h3.2 (by omega) (by omega) (by omega), by have := hH _ hN.1 hN.2; show 0 ≤ u (54 + acN u y) ∧ u (54 + acN u y) ≤ 2000000; omega⟩
  by_cases e : upT x 20 = 5 ∨ upT x 20 = 6
  · by_cases c : 0 < u 3
    · rw [acL_5a e c]
      exact ⟨Cs_pul h (acP_r y c).1 (acP_r y c).2 h3.2 (hA _ (acP_r y c).1 (acP_r y c).2).1 (hA _ (acP_r y c).1 (acP_r y c).2).2, by have := hA _ (acP_r y c).1 (acP_r y c).2; show 0 ≤ u (70 + acP u y) ∧ u (70 + acP u y) ≤ 2000000; omega⟩
    · rw [acL_5b e c]
      exact ⟨Cs_s1 h h3.2 (by omega) (by omega) (by omega), by have := hH _ hN.1 hN.2; show 0 ≤ u (54 + acN u y) ∧ u (54 + acN u y) ≤ 2000000; omega⟩
  by_cases e : upT x 20 = 7
  · by_cases c : 0 < u 3
    · rw [acL_7a e c]
      exact ⟨Cs_fli h h3.2 (acP_r y c).1, by have := mk_bd (st := u 1) (a := u (70 + acP u y)) (d := 1 - u (90 + acP u y)) (by omega); show 0 ≤ mk (u 1) (u (70 + acP u y)) (1 - u (90 + acP u y)) ∧ mk (u 1) (u (70 + acP u y)) (1 - u (90 + acP u y)) ≤ 2000000; omega⟩
    · rw [acL_7b e c]
      exact ⟨Cs_s1 h h3.2 (by omega) (by omega) (by omega), by have := hH _ hN.1 hN.2; show 0 ≤ u (54 + acN u y) ∧ u (54 + acN u y) ≤ 2000000; omega⟩
  by_cases e : upT x 20 = 8 ∨ upT x 20 = 9
  · by_cases c : 0 < u 3
    · rw [acL_8a e c]
      exact ⟨Cs_mov h (acP_r y c).1 (acP_r y c).2 (acO_r y c).1 (acO_r y c).2 h3.2, by have := brks_r (u 1) (vN (mMov u (acP u y) (acO u y))) (vD (mMov u (acP u y) (acO u y))) h3.1; show 0 ≤ brks (u 1) (vN (mMov u (acP u y) (acO u y))) (vD (mMov u (acP u y) (acO u y))) (u 3) ∧ brks (u 1) (vN (mMov u (acP u y) (acO u y))) (vD (mMov u (acP u y) (acO u y))) (u 3) ≤ 2000000; omega⟩
    · rw [acL_8b e c]
      exact ⟨Cs_s1 h h3.2 (by omega) (by omega) (by omega), by have := hH _ hN.1 hN.2; show 0 ≤ u (54 + acN u y) ∧ u (54 + acN u y) ≤ 2000000; omega⟩
  by_cases e : upT x 20 = 10
  · by_cases c : flt (u 0) (vN u) (vD u) (u 3) = 0
    · rw [acL_10a e c]
      exact ⟨Cs_bin h, by show 0 ≤ u 4 + 1 ∧ u 4 + 1 ≤ 2000000; omega⟩
    · rw [acL_10b e c]
      exact ⟨hz, by show 0 ≤ z 3 ∧ z 3 ≤ 2000000; omega⟩
  by_cases e : upT x 20 = 11
  · by_cases c : u 3 < 20 ∧ 0 < u (6 + acN u y)
    · rw [acL_11a e c]
      exact ⟨Cs_ins h (by unfold acP; split; exact Int.le_refl 0; exact (upT_r _ (by omega)).1) (by unfold acP; split; omega; exact Int.le_of_lt (upT_r _ (by omega)).2) c.1 hN.1 hN.2, by show 0 ≤ u 3 + 1 ∧ u 3 + 1 ≤ 2000000; omega⟩
    · rw [acL_11b e c]
      exact ⟨Cs_s1 h h3.2 (by omega) (by omega) (by omega), by have := hH _ hN.1 hN.2; show 0 ≤ u (54 + acN u y) ∧ u (54 + acN u y) ≤ 2000000; omega⟩
  by_cases e : upT x 20 = 12 ∨ upT x 20 = 13
  · by_cases c : 0 ≤ fiT u
    · rw [acL_12a e c]
      exact ⟨Cs_ins h h3.1 (Int.le_refl _) (fiT_f c).2.1 c (fiT_f c).1, by show 0 ≤ u 3 + 1 ∧ u 3 + 1 ≤ 2000000; omega⟩
    · rw [acL_12b e c]
      exact ⟨Cs_s1 h h3.2 (by decide) (by decide) (by decide), by show 0 ≤ u 0 ∧ u 0 ≤ 2000000; omega⟩
  have e : 14 ≤ upT x 20 := by omega
  by_cases d : u 3 < 20 ∧ 0 < u (6 + acN u y)
  · rw [acL_14a e d]
    exact ⟨Cs_ins h h3.1 (Int.le_refl _) d.1 hN.1 hN.2, by show 0 ≤ u 3 + 1 ∧ u 3 + 1 ≤ 2000000; omega⟩
  · by_cases c : 0 < u 3
    · rw [acL_14b e d c]
      exact ⟨Cs_pul h (acP_r y c).1 (acP_r y c).2 h3.2 (hA _ (acP_r y c).1 (acP_r y c).2).1 (hA _ (acP_r y c).1 (acP_r y c).2).2, by have := hA _ (acP_r y c).1 (acP_r y c).2; show 0 ≤ u (70 + acP u y) ∧ u (70 + acP u y) ≤ 2000000; omega⟩
    · rw [acL_14c e d c]
      exact ⟨Cs_s1 h h3.2 (by omega) (by omega) (by omega), by have := hH _ hN.1 hN.2; show 0 ≤ u (54 + acN u y) ∧ u (54 + acN u y) ≤ 2000000; omega⟩
set_option maxRecDepth 20000 in
set_option maxHeartbeats 2000000 in
theorem kL_act_c {V : Wo} {μ : Mem} {q : Nat} {K : Int} {μ0 : Mem} {u z : Int → Int} {sv : Int} {x y : Int} (N : CA V K q μ0 u z sv [] μ) (hZ : ZS V μ0) (hZ1 : (woZ V).1 < q ∧ (woZ V).2.1 < q) (hK : K + 20 ≤ 1000000) : Con V 6 yL_act cL_act 8 (some .int) [vR q, vI x, vI y] (μ) (QIr V ((acT u z x y).1) (CA V (K + 20) q μ0 (acT u z x y).2 z (sv1 sv) [u])) := by
  refine con_of (ls0 := [vR q, vI x, vI y, vU, vU, vU, vU, vU]) (by decide +kernel) rfl (Nat.le_of_ble_eq_true rfl) (Nat.le_of_ble_eq_true rfl) (fun X hV C hF => ?_)
  subst hV
  have C : Ok X RL cL_act 8 6 := C
  have hv := ca_u N
  have h3 := veW_3 hv
  have hN := acN_r u y
  have hz : ∀ ν, CA (xV X) K q μ0 u z sv [] ν → ZS (xV X) ν := fun ν N => zs_k hZ (ca_o N _ (Or.inl hZ1.1)) (ca_o N _ (Or.inl hZ1.2))
  have hcp : ∀ i, 0 ≤ i → i < 16 → 0 ≤ u (6 + i) ∧ u (6 + i) ≤ 1000000 := fun i i0 i1 => by
    have g1 := hv.2.2.2.2.2.2.2.1 i i0 (by omega)
    have g2 := hv.1
    omega
  refine r_aload_n C dL_act_0 rfl ?_
  refine r_iconst C dL_act_1 ?_
  refine r_runIr (fun aH aL aj a1 a2 a3 => run_V C hF.2.2.1 (kA_count N (by omega)) lm_X4_count ml_L_13 im_X4_count se_X4_count (ca_q N) rfl (Nat.le_of_ble_eq_true rfl) dL_act_2 rfl (Nat.le_of_ble_eq_true rfl) a1 a2 a3) (fun ν N => ?_)
  rw [coT_0]
  refine r_istore_n C dL_act_5 (by decide) rfl ?_
  refine jn (A := RR X ν 27 [vR q, vI x, vI y, vI (u 3), vU, vU, vU, vU] [vI (acN u y)]) ?_ (fun K2 => ?_)
  · skip
    refine r_istore C dL_act_27 (by decide) rfl ?_
    refine jn (A := RR X ν 45 [vR q, vI x, vI y, vI (u 3), vI (acN u y), vU, vU, vU] [vI (acP u y)]) ?_ (fun K2 => ?_)
    · skip
      refine r_istore C dL_act_45 (by decide) rfl ?_
      refine jn (A := RR X ν 63 [vR q, vI x, vI y, vI (u 3), vI (acN u y), vI (acP u y), vU, vU] [vI (acO u y)]) ?_ (fun K2 => ?_)
      · skip
        refine r_istore C dL_act_63 (by decide) rfl ?_
        refine r_aload_n C dL_act_65 rfl ?_
        refine r_runIr (fun aH aL aj a1 a2 a3 => run_V C hF.2.2.1 (kA_fits N) lm_X4_fits ml_L_34 im_X4_fits se_X4_fits (ca_q N) rfl (Nat.le_of_ble_eq_true rfl) dL_act_66 rfl (Nat.le_of_ble_eq_true rfl) a1 a2 a3) (fun ν N => ?_)
        refine r_istore C dL_act_69 (by decide) rfl ?_
        refine r_iload_n C dL_act_71 rfl ?_
        refine r_bipush C dL_act_72 rfl ?_
        refine r_runI (fun aH aL aj a1 a2 a3 => run_S C hF.2.2.1 (kL_up_c (by omega)) lm_L_up ml_L_29 sm_L_up (Nat.le_of_ble_eq_true rfl) dL_act_74 rfl (Nat.le_of_ble_eq_true rfl) a1 a2 a3) ?_
        have htt := upT_r x (n := 20) (by decide)
        have hw3 : upT x 20 = 0 ∨ upT x 20 = 1 ∨ upT x 20 = 2 ∨ upT x 20 = 3 ∨ upT x 20 = 4 ∨ upT x 20 = 5 ∨ upT x 20 = 6 ∨ upT x 20 = 7 ∨ upT x 20 = 8 ∨ upT x 20 = 9 ∨ upT x 20 = 10 ∨ upT x 20 = 11 ∨ upT x 20 = 12 ∨ upT x 20 = 13 ∨ (14 ≤ upT x 20 ∧ upT x 20 ≤ 19) := by omega
        rcases hw3 with e | e | e | e | e | e | e | e | e | e | e | e | e | e | e
        · rw [e]
          refine r_tsIn (tgt := 148) C dL_act_77 (by omega) (by omega) (by omega) rfl (by decide) ?_
          refine r_aload_n C dL_act_148 rfl ?_
          refine r_iconst C dL_act_149 ?_
          refine r_iconst C dL_act_150 ?_
          refine r_iload_n C dL_act_151 rfl ?_
          refine r_iload_n C dL_act_152 rfl ?_
          refine r_bipush C dL_act_153 rfl ?_
          refine r_ishr C dL_act_155 ?_
          refine r_iconst C dL_act_156 ?_
          refine r_iand C dL_act_157 ?_
          refine r_if_le (tgt := 165) C dL_act_158 (by decide) (by have := and3 (iShr y 8); omega) (fun c158 => ?_) (fun c158 => ?_)
          · skip
            refine r_bipush C dL_act_165 rfl ?_
            refine r_runI (fun aH aL aj a1 a2 a3 => run_S C hF.2.2.1 (kL_up_c (by omega)) lm_L_up ml_L_29 sm_L_up (Nat.le_of_ble_eq_true rfl) dL_act_167 rfl (Nat.le_of_ble_eq_true rfl) a1 a2 a3) ?_
            refine r_iadd C dL_act_170 ?_
            refine r_runIr (fun aH aL aj a1 a2 a3 => run_V C hF.2.2.1 (kA_set N (by decide) hK (hz _ N) (by decide) (set_0 (by have := upT_r y (n := 16) (by decide); omega))) lm_X4_set ml_L_38 im_X4_set se_X4_set (ca_q N) rfl (Nat.le_of_ble_eq_true rfl) dL_act_171 rfl (Nat.le_of_ble_eq_true rfl) a1 a2 a3) (fun ν N => ?_)
            exact r_iretr C hF dL_act_174 (by rw [acL_0b e (by omega)]) (by rw [acL_0b e (by omega)]; exact N)
          · skip
            refine r_iconst C dL_act_161 ?_
            refine r_goto (tgt := 167) C dL_act_162 (by decide) ?_
            refine r_runI (fun aH aL aj a1 a2 a3 => run_S C hF.2.2.1 (kL_up_c (by omega)) lm_L_up ml_L_29 sm_L_up (Nat.le_of_ble_eq_true rfl) dL_act_167 rfl (Nat.le_of_ble_eq_true rfl) a1 a2 a3) ?_
            refine r_iadd C dL_act_170 ?_
            refine r_runIr (fun aH aL aj a1 a2 a3 => run_V C hF.2.2.1 (kA_set N (by decide) hK (hz _ N) (by decide) (set_0 (by have := upT_r y (n := 5) (by decide); omega))) lm_X4_set ml_L_38 im_X4_set se_X4_set (ca_q N) rfl (Nat.le_of_ble_eq_true rfl) dL_act_171 rfl (Nat.le_of_ble_eq_true rfl) a1 a2 a3) (fun ν N => ?_)
            exact r_iretr C hF dL_act_174 (by rw [acL_0a e c158]) (by rw [acL_0a e c158]; exact N)
        · rw [e]
          refine r_tsIn (tgt := 175) C dL_act_77 (by omega) (by omega) (by omega) rfl (by decide) ?_
          refine r_aload_n C dL_act_175 rfl ?_
          refine r_iconst C dL_act_176 ?_
          refine r_iconst C dL_act_177 ?_
          refine r_iload_n C dL_act_178 rfl ?_
          refine r_bipush C dL_act_179 rfl ?_
          refine r_runI (fun aH aL aj a1 a2 a3 => run_S C hF.2.2.1 (kL_up_c (by omega)) lm_L_up ml_L_29 sm_L_up (Nat.le_of_ble_eq_true rfl) dL_act_181 rfl (Nat.le_of_ble_eq_true rfl) a1 a2 a3) ?_
          refine r_iadd C dL_act_184 ?_
          refine r_runIr (fun aH aL aj a1 a2 a3 => run_V C hF.2.2.1 (kA_set N (by decide) hK (hz _ N) (by decide) (set_1 (by have := upT_r y (n := 7) (by decide); omega))) lm_X4_set ml_L_38 im_X4_set se_X4_set (ca_q N) rfl (Nat.le_of_ble_eq_true rfl) dL_act_185 rfl (Nat.le_of_ble_eq_true rfl) a1 a2 a3) (fun ν N => ?_)
          exact r_iretr C hF dL_act_188 (by rw [acL_1 e]) (by rw [acL_1 e]; exact N)
        · rw [e]
          refine r_tsIn (tgt := 189) C dL_act_77 (by omega) (by omega) (by omega) rfl (by decide) ?_
          refine r_aload_n C dL_act_189 rfl ?_
          refine r_iconst C dL_act_190 ?_
          refine r_iconst C dL_act_191 ?_
          refine r_iload_n C dL_act_192 rfl ?_
          refine r_bipush C dL_act_193 rfl ?_
          refine r_runI (fun aH aL aj a1 a2 a3 => run_S C hF.2.2.1 (kL_up_c (by omega)) lm_L_up ml_L_29 sm_L_up (Nat.le_of_ble_eq_true rfl) dL_act_195 rfl (Nat.le_of_ble_eq_true rfl) a1 a2 a3) ?_
          refine r_iadd C dL_act_198 ?_
          refine r_runIr (fun aH aL aj a1 a2 a3 => run_V C hF.2.2.1 (kA_set N (by decide) hK (hz _ N) (by decide) (set_2 (by have := upT_r y (n := 9) (by decide); omega))) lm_X4_set ml_L_38 im_X4_set se_X4_set (ca_q N) rfl (Nat.le_of_ble_eq_true rfl) dL_act_199 rfl (Nat.le_of_ble_eq_true rfl) a1 a2 a3) (fun ν N => ?_)
          exact r_iretr C hF dL_act_202 (by rw [acL_2 e]) (by rw [acL_2 e]; exact N)
        · rw [e]
          refine r_tsIn (tgt := 203) C dL_act_77 (by omega) (by omega) (by omega) rfl (by decide) ?_
          refine r_aload_n C dL_act_203 rfl ?_
          refine r_iload_n C dL_act_204 rfl ?_
          refine r_bipush C dL_act_205 rfl ?_
          refine r_runI (fun aH aL aj a1 a2 a3 => run_S C hF.2.2.1 (kL_up_c (by omega)) lm_L_up ml_L_29 sm_L_up (Nat.le_of_ble_eq_true rfl) dL_act_207 rfl (Nat.le_of_ble_eq_true rfl) a1 a2 a3) ?_
          refine r_iconst C dL_act_210 ?_
          refine r_iload_n C dL_act_211 rfl ?_
          refine r_iconst C dL_act_212 ?_
          refine r_ishr C dL_act_213 ?_
          refine r_bipush C dL_act_214 rfl ?_
          refine r_runI (fun aH aL aj a1 a2 a3 => run_S C hF.2.2.1 (kL_up_c (by omega)) lm_L_up ml_L_29 sm_L_up (Nat.le_of_ble_eq_true rfl) dL_act_216 rfl (Nat.le_of_ble_eq_true rfl) a1 a2 a3) ?_
          refine r_iadd C dL_act_219 ?_
          refine r_runIr (fun aH aL aj a1 a2 a3 => run_V C hF.2.2.1 (kA_punch N (by decide) hK (upT_r y (by decide)) (by have := upT_r (iShr y 4) (n := 31) (by decide); omega)) lm_X4_punch ml_L_41 im_X4_punch se_X4_punch (ca_q N) rfl (Nat.le_of_ble_eq_true rfl) dL_act_220 rfl (Nat.le_of_ble_eq_true rfl) a1 a2 a3) (fun ν N => ?_)
          exact r_iretr C hF dL_act_223 (by rw [acL_3 e]) (by rw [acL_3 e]; exact N)
        · rw [e]
          refine r_tsIn (tgt := 224) C dL_act_77 (by omega) (by omega) (by omega) rfl (by decide) ?_
          refine r_aload_n C dL_act_224 rfl ?_
          refine r_iload C dL_act_225 rfl ?_
          refine r_iconst C dL_act_227 ?_
          refine r_runIr (fun aH aL aj a1 a2 a3 => run_V C hF.2.2.1 (kA_bin N (by omega) (by omega)) lm_X4_bin ml_L_23 im_X4_bin se_X4_bin (ca_q N) rfl (Nat.le_of_ble_eq_true rfl) dL_act_228 rfl (Nat.le_of_ble_eq_true rfl) a1 a2 a3) (fun ν N => ?_)
          rw [ofB_0]
          have hc1 := hcp _ hN.1 hN.2
          refine r_bipush C dL_act_231 rfl ?_
          refine r_icmp_ge (tgt := 255) C dL_act_233 (by decide) (by omega) (by omega) (fun c233 => ?_) (fun c233 => ?_)
          · skip
            refine r_aload_n C dL_act_255 rfl ?_
            refine r_iload C dL_act_256 rfl ?_
            refine r_bipush C dL_act_258 rfl ?_
            refine r_runIr (fun aH aL aj a1 a2 a3 => run_V C hF.2.2.1 (kA_punch N (by decide) hK (by omega) (by decide)) lm_X4_punch ml_L_41 im_X4_punch se_X4_punch (ca_q N) rfl (Nat.le_of_ble_eq_true rfl) dL_act_260 rfl (Nat.le_of_ble_eq_true rfl) a1 a2 a3) (fun ν N => ?_)
            exact r_iretr C hF dL_act_263 (by rw [acL_4b e (by omega)]) (by rw [acL_4b e (by omega)]; exact N)
          · skip
            refine r_aload_n C dL_act_236 rfl ?_
            refine r_iload C dL_act_237 rfl ?_
            refine r_iconst C dL_act_239 ?_
            refine r_iload_n C dL_act_240 rfl ?_
            refine r_bipush C dL_act_241 rfl ?_
            refine r_ishr C dL_act_243 ?_
            refine r_iconst C dL_act_244 ?_
            refine r_runI (fun aH aL aj a1 a2 a3 => run_S C hF.2.2.1 (kL_up_c (by omega)) lm_L_up ml_L_29 sm_L_up (Nat.le_of_ble_eq_true rfl) dL_act_245 rfl (Nat.le_of_ble_eq_true rfl) a1 a2 a3) ?_
            refine r_iadd C dL_act_248 ?_
            refine r_runIr (fun aH aL aj a1 a2 a3 => run_V C hF.2.2.1 (kA_print N (by decide) hK (by omega) (by have := upT_r (iShr y 6) (n := 4) (by decide); omega) (by have := upT_r (iShr y 6) (n := 4) (by decide); omega)) lm_X4_print ml_L_44 im_X4_print se_X4_print (ca_q N) rfl (Nat.le_of_ble_eq_true rfl) dL_act_249 rfl (Nat.le_of_ble_eq_true rfl) a1 a2 a3) (fun ν N => ?_)
            refine r_goto (tgt := 263) C dL_act_252 (by decide) ?_
            exact r_iretr C hF dL_act_263 (by rw [acL_4a e c233]) (by rw [acL_4a e c233]; exact N)
        · rw [e]
          refine r_tsIn (tgt := 264) C dL_act_77 (by omega) (by omega) (by omega) rfl (by decide) ?_
          refine r_iload_n C dL_act_264 rfl ?_
          refine r_if_le (tgt := 277) C dL_act_265 (by decide) (by omega) (fun c265 => ?_) (fun c265 => ?_)
          · skip
            refine r_aload_n C dL_act_277 rfl ?_
            refine r_iload C dL_act_278 rfl ?_
            refine r_bipush C dL_act_280 rfl ?_
            refine r_runIr (fun aH aL aj a1 a2 a3 => run_V C hF.2.2.1 (kA_punch N (by decide) hK (by omega) (by decide)) lm_X4_punch ml_L_41 im_X4_punch se_X4_punch (ca_q N) rfl (Nat.le_of_ble_eq_true rfl) dL_act_282 rfl (Nat.le_of_ble_eq_true rfl) a1 a2 a3) (fun ν N => ?_)
            exact r_iretr C hF dL_act_285 (by rw [acL_5b (Or.inl e) (by omega)]) (by rw [acL_5b (Or.inl e) (by omega)]; exact N)
          · have hP := acP_r (u := u) y (by omega)
            have hO := acO_r (u := u) y (by omega)
            refine r_aload_n C dL_act_268 rfl ?_
            refine r_iload C dL_act_269 rfl ?_
            refine r_runIr (fun aH aL aj a1 a2 a3 => run_V C hF.2.2.1 (kA_pull N (by decide) hK hP) lm_X4_pull ml_L_47 im_X4_pull se_X4_pull (ca_q N) rfl (Nat.le_of_ble_eq_true rfl) dL_act_271 rfl (Nat.le_of_ble_eq_true rfl) a1 a2 a3) (fun ν N => ?_)
            refine r_goto (tgt := 285) C dL_act_274 (by decide) ?_
            exact r_iretr C hF dL_act_285 (by rw [acL_5a (Or.inl e) c265]) (by rw [acL_5a (Or.inl e) c265]; exact N)
        · rw [e]
          refine r_tsIn (tgt := 264) C dL_act_77 (by omega) (by omega) (by omega) rfl (by decide) ?_
          refine r_iload_n C dL_act_264 rfl ?_
          refine r_if_le (tgt := 277) C dL_act_265 (by decide) (by omega) (fun c265 => ?_) (fun c265 => ?_)
          · skip
            refine r_aload_n C dL_act_277 rfl ?_
            refine r_iload C dL_act_278 rfl ?_
            refine r_bipush C dL_act_280 rfl ?_
            refine r_runIr (fun aH aL aj a1 a2 a3 => run_V C hF.2.2.1 (kA_punch N (by decide) hK (by omega) (by decide)) lm_X4_punch ml_L_41 im_X4_punch se_X4_punch (ca_q N) rfl (Nat.le_of_ble_eq_true rfl) dL_act_282 rfl (Nat.le_of_ble_eq_true rfl) a1 a2 a3) (fun ν N => ?_)
            exact r_iretr C hF dL_act_285 (by rw [acL_5b (Or.inr e) (by omega)]) (by rw [acL_5b (Or.inr e) (by omega)]; exact N)
          · have hP := acP_r (u := u) y (by omega)
            have hO := acO_r (u := u) y (by omega)
            refine r_aload_n C dL_act_268 rfl ?_
            refine r_iload C dL_act_269 rfl ?_
            refine r_runIr (fun aH aL aj a1 a2 a3 => run_V C hF.2.2.1 (kA_pull N (by decide) hK hP) lm_X4_pull ml_L_47 im_X4_pull se_X4_pull (ca_q N) rfl (Nat.le_of_ble_eq_true rfl) dL_act_271 rfl (Nat.le_of_ble_eq_true rfl) a1 a2 a3) (fun ν N => ?_)
            refine r_goto (tgt := 285) C dL_act_274 (by decide) ?_
            exact r_iretr C hF dL_act_285 (by rw [acL_5a (Or.inr e) c265]) (by rw [acL_5a (Or.inr e) c265]; exact N)
        · rw [e]
          refine r_tsIn (tgt := 286) C dL_act_77 (by omega) (by omega) (by omega) rfl (by decide) ?_
          refine r_iload_n C dL_act_286 rfl ?_
          refine r_if_le (tgt := 299) C dL_act_287 (by decide) (by omega) (fun c287 => ?_) (fun c287 => ?_)
          · skip
            refine r_aload_n C dL_act_299 rfl ?_
            refine r_iload C dL_act_300 rfl ?_
            refine r_bipush C dL_act_302 rfl ?_
            refine r_runIr (fun aH aL aj a1 a2 a3 => run_V C hF.2.2.1 (kA_punch N (by decide) hK (by omega) (by decide)) lm_X4_punch ml_L_41 im_X4_punch se_X4_punch (ca_q N) rfl (Nat.le_of_ble_eq_true rfl) dL_act_304 rfl (Nat.le_of_ble_eq_true rfl) a1 a2 a3) (fun ν N => ?_)
            exact r_iretr C hF dL_act_307 (by rw [acL_7b e (by omega)]) (by rw [acL_7b e (by omega)]; exact N)
          · have hP := acP_r (u := u) y (by omega)
            have hO := acO_r (u := u) y (by omega)
            refine r_aload_n C dL_act_290 rfl ?_
            refine r_iload C dL_act_291 rfl ?_
            refine r_runIr (fun aH aL aj a1 a2 a3 => run_V C hF.2.2.1 (kA_flip N (by decide) hK hP) lm_X4_flip ml_L_50 im_X4_flip se_X4_flip (ca_q N) rfl (Nat.le_of_ble_eq_true rfl) dL_act_293 rfl (Nat.le_of_ble_eq_true rfl) a1 a2 a3) (fun ν N => ?_)
            refine r_goto (tgt := 307) C dL_act_296 (by decide) ?_
            exact r_iretr C hF dL_act_307 (by rw [acL_7a e c287]) (by rw [acL_7a e c287]; exact N)
        · rw [e]
          refine r_tsIn (tgt := 308) C dL_act_77 (by omega) (by omega) (by omega) rfl (by decide) ?_
          refine r_iload_n C dL_act_308 rfl ?_
          refine r_if_le (tgt := 323) C dL_act_309 (by decide) (by omega) (fun c309 => ?_) (fun c309 => ?_)
          · skip
            refine r_aload_n C dL_act_323 rfl ?_
            refine r_iload C dL_act_324 rfl ?_
            refine r_bipush C dL_act_326 rfl ?_
            refine r_runIr (fun aH aL aj a1 a2 a3 => run_V C hF.2.2.1 (kA_punch N (by decide) hK (by omega) (by decide)) lm_X4_punch ml_L_41 im_X4_punch se_X4_punch (ca_q N) rfl (Nat.le_of_ble_eq_true rfl) dL_act_328 rfl (Nat.le_of_ble_eq_true rfl) a1 a2 a3) (fun ν N => ?_)
            exact r_iretr C hF dL_act_331 (by rw [acL_8b (Or.inl e) (by omega)]) (by rw [acL_8b (Or.inl e) (by omega)]; exact N)
          · have hP := acP_r (u := u) y (by omega)
            have hO := acO_r (u := u) y (by omega)
            refine r_aload_n C dL_act_312 rfl ?_
            refine r_iload C dL_act_313 rfl ?_
            refine r_iload C dL_act_315 rfl ?_
            refine r_runIr (fun aH aL aj a1 a2 a3 => run_V C hF.2.2.1 (kA_move N (by decide) hK hP hO) lm_X4_move ml_L_53 im_X4_move se_X4_move (ca_q N) rfl (Nat.le_of_ble_eq_true rfl) dL_act_317 rfl (Nat.le_of_ble_eq_true rfl) a1 a2 a3) (fun ν N => ?_)
            refine r_goto (tgt := 331) C dL_act_320 (by decide) ?_
            exact r_iretr C hF dL_act_331 (by rw [acL_8a (Or.inl e) c309]) (by rw [acL_8a (Or.inl e) c309]; exact N)
        · rw [e]
          refine r_tsIn (tgt := 308) C dL_act_77 (by omega) (by omega) (by omega) rfl (by decide) ?_
          refine r_iload_n C dL_act_308 rfl ?_
          refine r_if_le (tgt := 323) C dL_act_309 (by decide) (by omega) (fun c309 => ?_) (fun c309 => ?_)
          · skip
            refine r_aload_n C dL_act_323 rfl ?_
            refine r_iload C dL_act_324 rfl ?_
            refine r_bipush C dL_act_326 rfl ?_
            refine r_runIr (fun aH aL aj a1 a2 a3 => run_V C hF.2.2.1 (kA_punch N (by decide) hK (by omega) (by decide)) lm_X4_punch ml_L_41 im_X4_punch se_X4_punch (ca_q N) rfl (Nat.le_of_ble_eq_true rfl) dL_act_328 rfl (Nat.le_of_ble_eq_true rfl) a1 a2 a3) (fun ν N => ?_)
            exact r_iretr C hF dL_act_331 (by rw [acL_8b (Or.inr e) (by omega)]) (by rw [acL_8b (Or.inr e) (by omega)]; exact N)
          · have hP := acP_r (u := u) y (by omega)
            have hO := acO_r (u := u) y (by omega)
            refine r_aload_n C dL_act_312 rfl ?_
            refine r_iload C dL_act_313 rfl ?_
            refine r_iload C dL_act_315 rfl ?_
            refine r_runIr (fun aH aL aj a1 a2 a3 => run_V C hF.2.2.1 (kA_move N (by decide) hK hP hO) lm_X4_move ml_L_53 im_X4_move se_X4_move (ca_q N) rfl (Nat.le_of_ble_eq_true rfl) dL_act_317 rfl (Nat.le_of_ble_eq_true rfl) a1 a2 a3) (fun ν N => ?_)
            refine r_goto (tgt := 331) C dL_act_320 (by decide) ?_
            exact r_iretr C hF dL_act_331 (by rw [acL_8a (Or.inr e) c309]) (by rw [acL_8a (Or.inr e) c309]; exact N)
        · rw [e]
          refine r_tsIn (tgt := 332) C dL_act_77 (by omega) (by omega) (by omega) rfl (by decide) ?_
          refine r_aload_n C dL_act_332 rfl ?_
          refine r_iconst C dL_act_333 ?_
          refine r_runIr (fun aH aL aj a1 a2 a3 => run_V C hF.2.2.1 (kA_count N (by omega)) lm_X4_count ml_L_13 im_X4_count se_X4_count (ca_q N) rfl (Nat.le_of_ble_eq_true rfl) dL_act_334 rfl (Nat.le_of_ble_eq_true rfl) a1 a2 a3) (fun ν N => ?_)
          rw [coT_2]
          have hfl := flt_r (u 0) (vN u) (vD u) (u 3)
          refine r_if_ne (tgt := 347) C dL_act_337 (by decide) (by omega) (fun c337 => ?_) (fun c337 => ?_)
          · skip
            refine r_aload_n C dL_act_347 rfl ?_
            refine r_runIr (fun aH aL aj a1 a2 a3 => run_V C hF.2.2.1 (kA_goBack N (by decide) hK) lm_X4_goBack ml_L_59 im_X4_goBack se_X4_goBack (ca_q N) rfl (Nat.le_of_ble_eq_true rfl) dL_act_348 rfl (Nat.le_of_ble_eq_true rfl) a1 a2 a3) (fun ν N => ?_)
            exact r_iretr C hF dL_act_351 (by rw [acL_10b e c337]) (by rw [acL_10b e c337]; exact N)
          · skip
            refine r_aload_n C dL_act_340 rfl ?_
            refine r_runIr (fun aH aL aj a1 a2 a3 => run_V C hF.2.2.1 (kA_bind N (by decide) hK c337) lm_X4_bind ml_L_56 im_X4_bind se_X4_bind (ca_q N) rfl (Nat.le_of_ble_eq_true rfl) dL_act_341 rfl (Nat.le_of_ble_eq_true rfl) a1 a2 a3) (fun ν N => ?_)
            refine r_goto (tgt := 351) C dL_act_344 (by decide) ?_
            exact r_iretr C hF dL_act_351 (by rw [acL_10a e c337]) (by rw [acL_10a e c337]; exact N)
        · rw [e]
          refine r_tsIn (tgt := 352) C dL_act_77 (by omega) (by omega) (by omega) rfl (by decide) ?_
          refine r_iload_n C dL_act_352 rfl ?_
          refine r_bipush C dL_act_353 rfl ?_
          refine r_icmp_ge (tgt := 379) C dL_act_355 (by decide) (by omega) (by omega) (fun c355 => ?_) (fun c355 => ?_)
          · skip
            refine r_aload_n C dL_act_379 rfl ?_
            refine r_iload C dL_act_380 rfl ?_
            refine r_bipush C dL_act_382 rfl ?_
            refine r_runIr (fun aH aL aj a1 a2 a3 => run_V C hF.2.2.1 (kA_punch N (by decide) hK (by omega) (by decide)) lm_X4_punch ml_L_41 im_X4_punch se_X4_punch (ca_q N) rfl (Nat.le_of_ble_eq_true rfl) dL_act_384 rfl (Nat.le_of_ble_eq_true rfl) a1 a2 a3) (fun ν N => ?_)
            exact r_iretr C hF dL_act_387 (by rw [acL_11b e (by omega)]) (by rw [acL_11b e (by omega)]; exact N)
          · skip
            refine r_aload_n C dL_act_358 rfl ?_
            refine r_iload C dL_act_359 rfl ?_
            refine r_iconst C dL_act_361 ?_
            refine r_runIr (fun aH aL aj a1 a2 a3 => run_V C hF.2.2.1 (kA_bin N (by omega) (by omega)) lm_X4_bin ml_L_23 im_X4_bin se_X4_bin (ca_q N) rfl (Nat.le_of_ble_eq_true rfl) dL_act_362 rfl (Nat.le_of_ble_eq_true rfl) a1 a2 a3) (fun ν N => ?_)
            rw [ofB_0]
            have hc1 := hcp _ hN.1 hN.2
            refine r_if_le (tgt := 379) C dL_act_365 (by decide) (by omega) (fun c365 => ?_) (fun c365 => ?_)
            · skip
              refine r_aload_n C dL_act_379 rfl ?_
              refine r_iload C dL_act_380 rfl ?_
              refine r_bipush C dL_act_382 rfl ?_
              refine r_runIr (fun aH aL aj a1 a2 a3 => run_V C hF.2.2.1 (kA_punch N (by decide) hK (by omega) (by decide)) lm_X4_punch ml_L_41 im_X4_punch se_X4_punch (ca_q N) rfl (Nat.le_of_ble_eq_true rfl) dL_act_384 rfl (Nat.le_of_ble_eq_true rfl) a1 a2 a3) (fun ν N => ?_)
              exact r_iretr C hF dL_act_387 (by rw [acL_11b e (by omega)]) (by rw [acL_11b e (by omega)]; exact N)
            · have hP : 0 ≤ acP u y ∧ acP u y ≤ u 3 := by
                unfold acP
                split
                · omega
                · have := upT_r (iShr y 6) (n := u 3) (by omega)
                  omega
              refine r_aload_n C dL_act_368 rfl ?_
              refine r_iload C dL_act_369 rfl ?_
              refine r_iload C dL_act_371 rfl ?_
              refine r_runIr (fun aH aL aj a1 a2 a3 => run_V C hF.2.2.1 (kA_insert N (by decide) hK hP hN (by omega)) lm_X4_insert ml_L_62 im_X4_insert se_X4_insert (ca_q N) rfl (Nat.le_of_ble_eq_true rfl) dL_act_373 rfl (Nat.le_of_ble_eq_true rfl) a1 a2 a3) (fun ν N => ?_)
              refine r_goto (tgt := 387) C dL_act_376 (by decide) ?_
              exact r_iretr C hF dL_act_387 (by rw [acL_11a e (by omega)]) (by rw [acL_11a e (by omega)]; exact N)
        · rw [e]
          refine r_tsIn (tgt := 388) C dL_act_77 (by omega) (by omega) (by omega) rfl (by decide) ?_
          refine r_iload C dL_act_388 rfl ?_
          refine r_if_lt (tgt := 402) C dL_act_390 (by decide) (fiT_r u) (fun c390 => ?_) (fun c390 => ?_)
          · skip
            refine r_aload_n C dL_act_402 rfl ?_
            refine r_iconst C dL_act_403 ?_
            refine r_iconst C dL_act_404 ?_
            refine r_iload_n C dL_act_405 rfl ?_
            refine r_bipush C dL_act_406 rfl ?_
            refine r_runI (fun aH aL aj a1 a2 a3 => run_S C hF.2.2.1 (kL_up_c (by omega)) lm_L_up ml_L_29 sm_L_up (Nat.le_of_ble_eq_true rfl) dL_act_408 rfl (Nat.le_of_ble_eq_true rfl) a1 a2 a3) ?_
            refine r_iadd C dL_act_411 ?_
            refine r_runIr (fun aH aL aj a1 a2 a3 => run_V C hF.2.2.1 (kA_set N (by decide) hK (hz _ N) (by decide) (set_0 (by have := upT_r y (n := 6) (by decide); omega))) lm_X4_set ml_L_38 im_X4_set se_X4_set (ca_q N) rfl (Nat.le_of_ble_eq_true rfl) dL_act_412 rfl (Nat.le_of_ble_eq_true rfl) a1 a2 a3) (fun ν N => ?_)
            exact r_iretr C hF dL_act_415 (by rw [acL_12b (Or.inl e) (by omega)]) (by rw [acL_12b (Or.inl e) (by omega)]; exact N)
          · have hf := fiT_f (u := u) (by omega)
            refine r_aload_n C dL_act_393 rfl ?_
            refine r_iload C dL_act_394 rfl ?_
            refine r_runIr (fun aH aL aj a1 a2 a3 => run_V C hF.2.2.1 (kA_gather N (by decide) hK (by omega) (by omega)) lm_X4_gather ml_L_65 im_X4_gather se_X4_gather (ca_q N) rfl (Nat.le_of_ble_eq_true rfl) dL_act_396 rfl (Nat.le_of_ble_eq_true rfl) a1 a2 a3) (fun ν N => ?_)
            refine r_goto (tgt := 415) C dL_act_399 (by decide) ?_
            exact r_iretr C hF dL_act_415 (by rw [acL_12a (Or.inl e) (by omega)]) (by rw [acL_12a (Or.inl e) (by omega)]; exact N)
        · rw [e]
          refine r_tsIn (tgt := 388) C dL_act_77 (by omega) (by omega) (by omega) rfl (by decide) ?_
          refine r_iload C dL_act_388 rfl ?_
          refine r_if_lt (tgt := 402) C dL_act_390 (by decide) (fiT_r u) (fun c390 => ?_) (fun c390 => ?_)
          · skip
            refine r_aload_n C dL_act_402 rfl ?_
            refine r_iconst C dL_act_403 ?_
            refine r_iconst C dL_act_404 ?_
            refine r_iload_n C dL_act_405 rfl ?_
            refine r_bipush C dL_act_406 rfl ?_
            refine r_runI (fun aH aL aj a1 a2 a3 => run_S C hF.2.2.1 (kL_up_c (by omega)) lm_L_up ml_L_29 sm_L_up (Nat.le_of_ble_eq_true rfl) dL_act_408 rfl (Nat.le_of_ble_eq_true rfl) a1 a2 a3) ?_
            refine r_iadd C dL_act_411 ?_
            refine r_runIr (fun aH aL aj a1 a2 a3 => run_V C hF.2.2.1 (kA_set N (by decide) hK (hz _ N) (by decide) (set_0 (by have := upT_r y (n := 6) (by decide); omega))) lm_X4_set ml_L_38 im_X4_set se_X4_set (ca_q N) rfl (Nat.le_of_ble_eq_true rfl) dL_act_412 rfl (Nat.le_of_ble_eq_true rfl) a1 a2 a3) (fun ν N => ?_)
            exact r_iretr C hF dL_act_415 (by rw [acL_12b (Or.inr e) (by omega)]) (by rw [acL_12b (Or.inr e) (by omega)]; exact N)
          · have hf := fiT_f (u := u) (by omega)
            refine r_aload_n C dL_act_393 rfl ?_
            refine r_iload C dL_act_394 rfl ?_
            refine r_runIr (fun aH aL aj a1 a2 a3 => run_V C hF.2.2.1 (kA_gather N (by decide) hK (by omega) (by omega)) lm_X4_gather ml_L_65 im_X4_gather se_X4_gather (ca_q N) rfl (Nat.le_of_ble_eq_true rfl) dL_act_396 rfl (Nat.le_of_ble_eq_true rfl) a1 a2 a3) (fun ν N => ?_)
            refine r_goto (tgt := 415) C dL_act_399 (by decide) ?_
            exact r_iretr C hF dL_act_415 (by rw [acL_12a (Or.inr e) (by omega)]) (by rw [acL_12a (Or.inr e) (by omega)]; exact N)
        · skip
          refine r_tsOut (tgt := 416) C dL_act_77 (by omega) (by omega) (by decide) ?_
          refine r_iload_n C dL_act_416 rfl ?_
          refine r_bipush C dL_act_417 rfl ?_
          refine r_icmp_ge (tgt := 441) C dL_act_419 (by decide) (by omega) (by omega) (fun c419 => ?_) (fun c419 => ?_)
          · skip
            refine r_iload_n C dL_act_441 rfl ?_
            refine r_if_le (tgt := 454) C dL_act_442 (by decide) (by omega) (fun c442 => ?_) (fun c442 => ?_)
            · skip
              refine r_aload_n C dL_act_454 rfl ?_
              refine r_iload C dL_act_455 rfl ?_
              refine r_bipush C dL_act_457 rfl ?_
              refine r_runIr (fun aH aL aj a1 a2 a3 => run_V C hF.2.2.1 (kA_punch N (by decide) hK (by omega) (by decide)) lm_X4_punch ml_L_41 im_X4_punch se_X4_punch (ca_q N) rfl (Nat.le_of_ble_eq_true rfl) dL_act_459 rfl (Nat.le_of_ble_eq_true rfl) a1 a2 a3) (fun ν N => ?_)
              exact r_iretr C hF dL_act_462 (by rw [acL_14c e.1 (by omega) (by omega)]) (by rw [acL_14c e.1 (by omega) (by omega)]; exact N)
            · have hP := acP_r (u := u) y (by omega)
              refine r_aload_n C dL_act_445 rfl ?_
              refine r_iload C dL_act_446 rfl ?_
              refine r_runIr (fun aH aL aj a1 a2 a3 => run_V C hF.2.2.1 (kA_pull N (by decide) hK hP) lm_X4_pull ml_L_47 im_X4_pull se_X4_pull (ca_q N) rfl (Nat.le_of_ble_eq_true rfl) dL_act_448 rfl (Nat.le_of_ble_eq_true rfl) a1 a2 a3) (fun ν N => ?_)
              refine r_goto (tgt := 462) C dL_act_451 (by decide) ?_
              exact r_iretr C hF dL_act_462 (by rw [acL_14b e.1 (by omega) (by omega)]) (by rw [acL_14b e.1 (by omega) (by omega)]; exact N)
          · skip
            refine r_aload_n C dL_act_422 rfl ?_
            refine r_iload C dL_act_423 rfl ?_
            refine r_iconst C dL_act_425 ?_
            refine r_runIr (fun aH aL aj a1 a2 a3 => run_V C hF.2.2.1 (kA_bin N (by omega) (by omega)) lm_X4_bin ml_L_23 im_X4_bin se_X4_bin (ca_q N) rfl (Nat.le_of_ble_eq_true rfl) dL_act_426 rfl (Nat.le_of_ble_eq_true rfl) a1 a2 a3) (fun ν N => ?_)
            rw [ofB_0]
            have hc1 := hcp _ hN.1 hN.2
            refine r_if_le (tgt := 441) C dL_act_429 (by decide) (by omega) (fun c429 => ?_) (fun c429 => ?_)
            · skip
              refine r_iload_n C dL_act_441 rfl ?_
              refine r_if_le (tgt := 454) C dL_act_442 (by decide) (by omega) (fun c442 => ?_) (fun c442 => ?_)
              · skip
                refine r_aload_n C dL_act_454 rfl ?_
                refine r_iload C dL_act_455 rfl ?_
                refine r_bipush C dL_act_457 rfl ?_
                refine r_runIr (fun aH aL aj a1 a2 a3 => run_V C hF.2.2.1 (kA_punch N (by decide) hK (by omega) (by decide)) lm_X4_punch ml_L_41 im_X4_punch se_X4_punch (ca_q N) rfl (Nat.le_of_ble_eq_true rfl) dL_act_459 rfl (Nat.le_of_ble_eq_true rfl) a1 a2 a3) (fun ν N => ?_)
                exact r_iretr C hF dL_act_462 (by rw [acL_14c e.1 (by omega) (by omega)]) (by rw [acL_14c e.1 (by omega) (by omega)]; exact N)
              · have hP := acP_r (u := u) y (by omega)
                refine r_aload_n C dL_act_445 rfl ?_
                refine r_iload C dL_act_446 rfl ?_
                refine r_runIr (fun aH aL aj a1 a2 a3 => run_V C hF.2.2.1 (kA_pull N (by decide) hK hP) lm_X4_pull ml_L_47 im_X4_pull se_X4_pull (ca_q N) rfl (Nat.le_of_ble_eq_true rfl) dL_act_448 rfl (Nat.le_of_ble_eq_true rfl) a1 a2 a3) (fun ν N => ?_)
                refine r_goto (tgt := 462) C dL_act_451 (by decide) ?_
                exact r_iretr C hF dL_act_462 (by rw [acL_14b e.1 (by omega) (by omega)]) (by rw [acL_14b e.1 (by omega) (by omega)]; exact N)
            · skip
              refine r_aload_n C dL_act_432 rfl ?_
              refine r_iload C dL_act_433 rfl ?_
              refine r_runIr (fun aH aL aj a1 a2 a3 => run_V C hF.2.2.1 (kA_gather N (by decide) hK (by omega) (by omega)) lm_X4_gather ml_L_65 im_X4_gather se_X4_gather (ca_q N) rfl (Nat.le_of_ble_eq_true rfl) dL_act_435 rfl (Nat.le_of_ble_eq_true rfl) a1 a2 a3) (fun ν N => ?_)
              refine r_goto (tgt := 462) C dL_act_438 (by decide) ?_
              exact r_iretr C hF dL_act_462 (by rw [acL_14a e.1 (by omega)]) (by rw [acL_14a e.1 (by omega)]; exact N)
      · skip
        refine r_iload_n C dL_act_47 rfl ?_
        refine r_if_ne (tgt := 55) C dL_act_48 (by decide) (by omega) (fun c48 => ?_) (fun c48 => ?_)
        · skip
          refine r_iload_n C dL_act_55 rfl ?_
          refine r_bipush C dL_act_56 rfl ?_
          refine r_ishr C dL_act_58 ?_
          refine r_iload_n C dL_act_59 rfl ?_
          refine r_runI (fun aH aL aj a1 a2 a3 => run_S C hF.2.2.1 (kL_up_c (by omega)) lm_L_up ml_L_29 sm_L_up (Nat.le_of_ble_eq_true rfl) dL_act_60 rfl (Nat.le_of_ble_eq_true rfl) a1 a2 a3) ?_
          rw [show acO u y = upT (iShr y 11) (u 3) from if_neg (by omega)] at K2
          exact K2
        · skip
          refine r_iconst C dL_act_51 ?_
          refine r_goto (tgt := 63) C dL_act_52 (by decide) ?_
          rw [show acO u y = 0 from if_pos c48] at K2
          exact K2
    · skip
      refine r_iload_n C dL_act_29 rfl ?_
      refine r_if_ne (tgt := 37) C dL_act_30 (by decide) (by omega) (fun c30 => ?_) (fun c30 => ?_)
      · skip
        refine r_iload_n C dL_act_37 rfl ?_
        refine r_bipush C dL_act_38 rfl ?_
        refine r_ishr C dL_act_40 ?_
        refine r_iload_n C dL_act_41 rfl ?_
        refine r_runI (fun aH aL aj a1 a2 a3 => run_S C hF.2.2.1 (kL_up_c (by omega)) lm_L_up ml_L_29 sm_L_up (Nat.le_of_ble_eq_true rfl) dL_act_42 rfl (Nat.le_of_ble_eq_true rfl) a1 a2 a3) ?_
        rw [show acP u y = upT (iShr y 6) (u 3) from if_neg (by omega)] at K2
        exact K2
      · skip
        refine r_iconst C dL_act_33 ?_
        refine r_goto (tgt := 45) C dL_act_34 (by decide) ?_
        rw [show acP u y = 0 from if_pos c30] at K2
        exact K2
  · skip
    refine r_iload_n C dL_act_6 rfl ?_
    refine r_iconst C dL_act_7 ?_
    refine r_iand C dL_act_8 ?_
    refine r_if_ne (tgt := 23) C dL_act_9 (by decide) (by have := and3 y; omega) (fun c9 => ?_) (fun c9 => ?_)
    · skip
      refine r_iload_n C dL_act_23 rfl ?_
      refine r_bipush C dL_act_24 rfl ?_
      refine r_irem C dL_act_26 (by omega) (by omega) ?_
      rw [show acN u y = u 3 % 16 from if_neg c9] at K2
      exact K2
    · skip
      refine r_iload_n C dL_act_12 rfl ?_
      refine r_iconst C dL_act_13 ?_
      refine r_ishr C dL_act_14 ?_
      refine r_bipush C dL_act_15 rfl ?_
      refine r_runI (fun aH aL aj a1 a2 a3 => run_S C hF.2.2.1 (kL_up_c (by omega)) lm_L_up ml_L_29 sm_L_up (Nat.le_of_ble_eq_true rfl) dL_act_17 rfl (Nat.le_of_ble_eq_true rfl) a1 a2 a3) ?_
      refine r_goto (tgt := 27) C dL_act_20 (by decide) ?_
      rw [show acN u y = upT (iShr y 2) 16 from if_pos c9] at K2
      exact K2
