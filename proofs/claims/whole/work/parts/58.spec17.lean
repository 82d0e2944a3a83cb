theorem al_all {g g' : Nat → Int} {n : Nat} (h : al g g' n = true) : ∀ k, k < n → g k = g' k := by
  induction n with
  | zero => intro k hk; omega
  | succ n ih =>
    unfold al at h
    simp at h
    intro k hk
    by_cases e : k = n
    · rw [e]; exact h.2
    · exact ih h.1 k (by omega)
