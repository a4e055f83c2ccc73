theorem obs_shape {N : Nat} {g : Nat → Nat} (h9 : N ≤ 9) (hg : Gr N g) {c : Nat} (hc : c < 2 ^ N) (hf : fine N g c = false) : ends N g (obs N g c) / 2 = pop (obs N g c) ∨ pop (obs N g c) = 5 ∨ pop (obs N g c) = 6 := by
  sorry
