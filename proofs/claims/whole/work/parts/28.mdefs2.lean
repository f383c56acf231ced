theorem MR_app (μ : Mem) (q : Nat) (c : Int) : MR q μ (wr (wr (wr μ q (s1 (μ q) 0 0)) (q + 2) (s1 (μ (q + 2)) (μ q 5) c)) q (s1 (s1 (μ q) 0 0) 5 (μ q 5 + 1))) 0 (μ q 2) (μ q 3) (μ q 5 + 1) (μ (q + 1)) (s1 (μ (q + 2)) (μ q 5) c) := by
  refine ⟨?_, ?_, ⟨?_, ?_, ?_, ?_⟩, fun r hr => ?_⟩
  · rw [wr_n _ _ (by omega), wr_n _ _ (by omega), wr_n _ _ (by omega)]
  · rw [wr_n _ _ (by omega), wr_s]
  · rw [wr_s, s1_n _ _ (by omega), s1_s]
  · rw [wr_s, s1_n _ _ (by omega), s1_n _ _ (by omega)]
  · rw [wr_s, s1_n _ _ (by omega), s1_n _ _ (by omega)]
  · rw [wr_s, s1_s]
  · rw [wr_n _ _ (by omega), wr_n _ _ (by omega), wr_n _ _ (by omega)]
theorem MR_clr (μ : Mem) (q : Nat) : MR q μ (wr μ q (s1 (s1 (μ q) 0 0) 5 0)) 0 (μ q 2) (μ q 3) 0 (μ (q + 1)) (μ (q + 2)) := by
  refine ⟨?_, ?_, ⟨?_, ?_, ?_, ?_⟩, fun r hr => ?_⟩
  · rw [wr_n _ _ (by omega)]
  · rw [wr_n _ _ (by omega)]
  · rw [wr_s, s1_n _ _ (by omega), s1_s]
  · rw [wr_s, s1_n _ _ (by omega), s1_n _ _ (by omega)]
  · rw [wr_s, s1_n _ _ (by omega), s1_n _ _ (by omega)]
  · rw [wr_s, s1_s]
  · rw [wr_n _ _ (by omega)]
theorem MR_kp (μ : Mem) (q : Nat) : MR q μ (wr (wr (wr μ q (s1 (μ q) 0 0)) (q + 1) (cpV (μ (q + 1)) 0 7 110)) q (s1 (s1 (μ q) 0 0) 3 1)) 0 (μ q 2) 1 (μ q 5) (cpV (μ (q + 1)) 0 7 110) (μ (q + 2)) := by
  refine ⟨?_, ?_, ⟨?_, ?_, ?_, ?_⟩, fun r hr => ?_⟩
  · rw [wr_n _ _ (by omega), wr_s]
  · rw [wr_n _ _ (by omega), wr_n _ _ (by omega), wr_n _ _ (by omega)]
  · rw [wr_s, s1_n _ _ (by omega), s1_s]
  · rw [wr_s, s1_n _ _ (by omega), s1_n _ _ (by omega)]
  · rw [wr_s, s1_s]
  · rw [wr_s, s1_n _ _ (by omega), s1_n _ _ (by omega)]
  · rw [wr_n _ _ (by omega), wr_n _ _ (by omega), wr_n _ _ (by omega)]
theorem MR_und (μ : Mem) (q : Nat) : MR q μ (wr (wr (wr μ q (s1 (μ q) 0 0)) (q + 1) (cpV (μ (q + 1)) (μ q 2) 0 110)) q (s1 (s1 (μ q) 0 0) 2 (μ q 2 - 1))) 0 (μ q 2 - 1) (μ q 3) (μ q 5) (cpV (μ (q + 1)) (μ q 2) 0 110) (μ (q + 2)) := by
  refine ⟨?_, ?_, ⟨?_, ?_, ?_, ?_⟩, fun r hr => ?_⟩
  · rw [wr_n _ _ (by omega), wr_s]
  · rw [wr_n _ _ (by omega), wr_n _ _ (by omega), wr_n _ _ (by omega)]
  · rw [wr_s, s1_n _ _ (by omega), s1_s]
  · rw [wr_s, s1_s]
  · rw [wr_s, s1_n _ _ (by omega), s1_n _ _ (by omega)]
  · rw [wr_s, s1_n _ _ (by omega), s1_n _ _ (by omega)]
  · rw [wr_n _ _ (by omega), wr_n _ _ (by omega), wr_n _ _ (by omega)]
theorem cpV_7 {v : Int → Int} {s : Int} (hs : 0 ≤ s) (hs2 : s ≤ 6) : cpV (mSav v s) 7 0 110 3 = v 773 := by
  have e : cpV (mSav v s) 7 0 110 3 = mSav v s 773 := by
    unfold cpV
    rw [if_pos (by omega)]
    congr 1
  rw [e]
  unfold mSav
  split
  · unfold cpV sh5
    rw [if_neg (by omega), if_neg (by omega)]
  · unfold cpV
    rw [if_neg (by omega)]
