def tkH (f g : Nat → Int) (h : Nat) : Nat → Int := uf (uf (uf (uf (uf (uf (uf (uf (uf (uf f (8 + h) (g (8 + h))) (12 + h) (g (12 + h))) (16 + h) (g (16 + h))) (20 + h) (g (20 + h))) (24 + h) (g (24 + h))) (28 + h) (g (28 + h))) (32 + h) (g (32 + h))) (44 + h) (g (44 + h))) (36 + h) (g (36 + h))) (40 + h) (g (40 + h))
/-- the fields of a realm and its first n heirs taken over -/
def tkN (f g : Nat → Int) (n : Nat) : Nat → Int := fun j => if j < 8 then g j else if j < 48 ∧ (j - 8) % 4 < n then g j else f j
theorem tkH_at (f g : Nat → Int) {h : Nat} (hh : h < 4) (j : Nat) : tkH f g h j = if 8 ≤ j ∧ j < 48 ∧ (j - 8) % 4 = h then g j else f j := by
  unfold tkH uf
  by_cases hj : 8 ≤ j ∧ j < 48 ∧ (j - 8) % 4 = h
  · rw [if_pos hj]
    have : j = 8 + h ∨ j = 12 + h ∨ j = 16 + h ∨ j = 20 + h ∨ j = 24 + h ∨ j = 28 + h ∨ j = 32 + h ∨ j = 36 + h ∨ j = 40 + h ∨ j = 44 + h := by omega
    rcases this with e | e | e | e | e | e | e | e | e | e <;> subst e <;> (repeat' split) <;> first | rfl | omega | (congr 1; omega)
  · rw [if_neg hj]
    (repeat' split) <;> first | rfl | omega
theorem tkN_s (f g : Nat → Int) {n : Nat} (hn : n < 4) : tkH (tkN f g n) g n = tkN f g (n + 1) := by
  funext j
  rw [tkH_at _ _ hn]
  unfold tkN
  (repeat' split) <;> first | rfl | omega
theorem tkN_0 (f g : Nat → Int) : uf (uf (uf (uf (uf (uf (uf (uf f 4 (g 4)) 0 (g 0)) 1 (g 1)) 2 (g 2)) 3 (g 3)) 6 (g 6)) 5 (g 5)) 7 (g 7) = tkN f g 0 := by
  funext j
  unfold tkN uf
  by_cases hj : j < 8
  · rw [if_pos hj]
    have : j = 0 ∨ j = 1 ∨ j = 2 ∨ j = 3 ∨ j = 4 ∨ j = 5 ∨ j = 6 ∨ j = 7 := by omega
    rcases this with e | e | e | e | e | e | e | e <;> subst e <;> rfl
  · rw [if_neg hj, if_neg (by omega)]
    (repeat' split) <;> first | rfl | omega
