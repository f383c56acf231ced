theorem zs_k {V : Wo} {μ ν : Mem} (h : ZS V μ) (h1 : ν (woZ V).1 = μ (woZ V).1) (h2 : ν (woZ V).2.1 = μ (woZ V).2.1) : ZS V ν := ⟨h.1, h.2.1, fun x x0 x3 => by rw [h1, h2]; exact h.2.2 x x0 x3⟩
section RowsM
variable {X : Cx} {own : String} {cc : ByteArray} {nL d : Nat} {μ : Mem} {pc : Nat} {ls st : List AV}
theorem r_wid {k n : Nat} (hk : xk X ≤ k) (hn : xn X ≤ n) (kk : RR (toX X (xV X) k n) μ pc ls st) : RR X μ pc ls st := fun H locs jl h1 h2 h3 => W.widen hk hn (kk H locs jl h1 h2 h3)
theorem r_lcmp0 (C : Ok X own cc nL d) {x y : Int64} (hd : decode cc pc = .ok (.lcmp, 1)) (e : x = y) (kk : RR X μ (pc + 1) ls (vI 0 :: st)) : RR X μ pc ls (vV (.long y) :: vV (.long x) :: st) := fun H locs jl h1 h2 h3 => by
  refine W.lcmp C.1 C.2.1 hd ?_
  rw [(lg_cmp_eq x y).mpr e]
  exact kk H locs jl h1 h2 h3

end RowsM
