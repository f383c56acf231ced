theorem BuW_U {q : Nat} {μ ν : Mem} (h : MU q μ ν) (hB : BuW μ q) : BuW ν q := by
  unfold BuW
  rw [h.1.2.2.1.2.2.2, h.1.2.1]
  exact hB
/-- unchanged but for scratch and the vector -/
abbrev MV (q : Nat) (μ ν : Mem) (v : Int → Int) : Prop := MR q μ ν (μ q 0) (μ q 2) (μ q 3) (μ q 5) v (μ (q + 2))
theorem MV_w {q : Nat} {μ ν : Mem} (f : Int → Int) (h : MU q μ ν) : MV q μ (wr ν (q + 1) f) f := by
  obtain ⟨⟨a1, a2, ⟨a3, a4, a5, a6⟩, a7⟩, a8⟩ := h
  refine ⟨wr_s .., by rw [wr_n _ _ (by omega)]; exact a2, ⟨?_, ?_, ?_, ?_⟩, fun r hr => by rw [wr_n _ _ (by omega)]; exact a7 r hr⟩ <;> rw [wr_n _ _ (by omega)] <;> assumption
theorem peV_1 {v : Int → Int} {l f s : Int} (h : pcV v l f s = 1) : peV v l f s = pdV v l f s := if_pos h
theorem peV_0 {v : Int → Int} {l f s : Int} (h : pcV v l f s = 0) : peV v l f s = v := if_neg (by omega)
theorem brks_r (st : Int) (a d : Int → Int) {n : Int} (h : 0 ≤ n) : 0 ≤ brks st a d n ∧ brks st a d n ≤ n := cn_bd _ h
