theorem eqR_tk (f : Nat → Int) {g : Nat → Int} (h4 : 2 ≤ g 4 ∧ g 4 ≤ 4) : eqR (tkN f g (mn g)) g := by
  intro j hj hc
  have e4 : tkN f g (mn g) 4 = g 4 := if_pos (by omega)
  rw [e4] at hc
  unfold tkN mn
  by_cases h8 : j < 8
  · rw [if_pos h8]
  · rw [if_neg h8, if_pos (by omega)]
