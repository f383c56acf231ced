theorem mx_leI (a r0 : Int → Int) {k : Int} (h : 0 ≤ k) : mx (leI a r0 (k + 1)) (k + 1) = if mx (leI a r0 k) k < 1 + mx (fun e => if a e ≤ a k then leI a r0 k e else 0) k then 1 + mx (fun e => if a e ≤ a k then leI a r0 k e else 0) k else mx (leI a r0 k) k := by
  have e1 : mx (leI a r0 (k + 1)) k = mx (leI a r0 k) k := mx_cong (fun j j0 j1 => by rw [leI_s a r0 h, s1_n _ _ (by omega)])
  have e2 : leI a r0 (k + 1) k = 1 + mx (fun e => if a e ≤ a k then leI a r0 k e else 0) k := by rw [leI_s a r0 h, s1_s]
  rw [mx_s _ h, e1, e2]
/-- the model's stitches: bit by bit -/
theorem bc_e (x : Int) : sm (fun h => bit x h) 5 = bc x := by
  unfold bc sm
  show smN (fun h => bit x h) 5 = _
  simp only [smN]
  simp
def spW (f : Int → Int) : Int → Int := f
theorem lay_q12 (μ : Mem) (q : Nat) (p k : Int) : lay μ q p k q 12 = lc p k := by rw [lay_q, s1_s]
/-- the reference's deeds on its rows -/
def vIns (v : Int → Int) (p x : Int) : Int → Int := fun j => if j = 3 then v 3 + 1 else if j = 6 + x then v (6 + x) - 1 else if 70 ≤ j ∧ j < 90 then insR (fun i => v (70 + i)) p (v 3) x (j - 70) else if 90 ≤ j ∧ j < 110 then insR (fun i => v (90 + i)) p (v 3) 0 (j - 90) else v j
theorem plf_p {s0 : Int} {a d : Int → Int} {n : Int} (h : 2 ≤ flt s0 a d n ∧ flt s0 a d n ≠ 5) : plf s0 a d n = pO s0 a d n (flt s0 a d n) := by
  have hr := flt_r s0 a d n
  unfold plf pO
  generalize flt s0 a d n = f at h hr ⊢
  by_cases h2 : f = 2
  · rw [if_pos h2, if_pos h2]
  · rw [if_neg h2, if_neg h2]
    by_cases h3 : f = 3
    · rw [if_pos h3, if_pos h3]
    · rw [if_neg h3, if_neg h3]
      by_cases h4 : f = 4
      · rw [if_pos h4, if_pos h4]
      · rw [if_neg h4, if_neg h4, if_pos (by omega)]
