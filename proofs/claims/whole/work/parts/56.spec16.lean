/-- a realm begun: no heirs, no host, no month, nothing parted; k heirs cleared -/
def rbk (k : Nat) (f : Nat → Int) : Nat → Int := fun j => if 4 ≤ j ∧ j < 8 then 0 else if (20 ≤ j ∧ j < 48) ∧ j % 4 < k then 0 else f j
