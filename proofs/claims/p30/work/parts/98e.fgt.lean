/-! what is known of the locals may be forgotten -/
def fgl : List AV → List AV → Prop
  | [], [] => True
  | a :: l', b :: l => (a = vU ∨ a = b) ∧ fgl l' l
  | _, _ => False
theorem fgl_ok : ∀ (l' l : List AV), fgl l' l → l'.length = l.length ∧ ∀ (i : Nat) (a : AV), l'[i]? = some a → a ≠ vU → l[i]? = some a
  | [], [], _ => ⟨rfl, fun i a h => by cases h⟩
  | a :: l', b :: l, h => by
    have g := fgl_ok l' l h.2
    refine ⟨by rw [List.length_cons, List.length_cons, g.1], fun i c h1 h2 => ?_⟩
    cases i with
    | zero =>
      have e : a = c := Option.some.inj h1
      rcases h.1 with h3 | h3
      · exact absurd (e.symm.trans h3) h2
      · exact (congrArg some (h3.symm.trans e))
    | succ i => exact g.2 i c h1 h2
  | [], _ :: _, h => h.elim
  | _ :: _, [], h => h.elim
theorem r_fg {X : Cx} {μ : Mem} {pc : Nat} {ls ls' st : List AV} (h : fgl ls' ls) (kk : RR X μ pc ls' st) : RR X μ pc ls st := fun H locs jl h1 h2 h3 =>
  kk H locs jl h1 h2 ⟨h3.1, h3.2.1, by rw [(fgl_ok _ _ h).1]; exact h3.2.2.1, fun i a q1 q2 => h3.2.2.2 i a ((fgl_ok _ _ h).2 i a q1 q2) q2⟩
