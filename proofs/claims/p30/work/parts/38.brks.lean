theorem brks_r (st : Int) (a d : Int → Int) {n : Int} (h : 0 ≤ n) : 0 ≤ brks st a d n ∧ brks st a d n ≤ n := cn_bd _ h

