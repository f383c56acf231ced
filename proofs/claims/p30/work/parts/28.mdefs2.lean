theorem cpV_7 {v : Int → Int} {s : Int} (hs : 0 ≤ s) (hs2 : s ≤ 6) : cpV (mSav v s) 7 0 110 3 = v 773 := by
  have e : cpV (mSav v s) 7 0 110 3 = mSav v s 773 := by
    unfold cpV
    rw [if_pos (by omega)]
    congr 1
  rw [e]
  unfold mSav
  split
  · unfold cpV sh5
    rw [if_neg (by omega), if_neg (by omega)]
  · unfold cpV
    rw [if_neg (by omega)]

