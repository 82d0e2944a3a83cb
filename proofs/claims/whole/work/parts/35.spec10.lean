/-! tokens of the tape T of L bytes at place q -/
def dg (c : Int) : Prop := 48 ≤ c ∧ c ≤ 57
def lt_ (c : Int) : Prop := (97 ≤ c ∧ c ≤ 122) ∨ c = 44 ∨ c = 59
def nd (T : Nat → Int) : Nat → Nat → Nat
  | 0, _ => 0
  | n + 1, q => if 48 ≤ T q ∧ T q ≤ 57 then nd T n (q + 1) + 1 else 0
def mv (T : Nat → Int) (q : Nat) : Nat → Int
  | 0 => 0
  | k + 1 => if 99 < mv T q k then mv T q k else 10 * mv T q k + T (q + k) - 48
def tk (T : Nat → Int) (L q : Nat) : Int := if q = L then 3 else if 0 < nd T (L - q) q then (if 2 < nd T (L - q) q then 0 else 2) else if (97 ≤ T q ∧ T q ≤ 122) ∨ T q = 44 ∨ T q = 59 then 1 else 0
def tv (T : Nat → Int) (L q : Nat) : Int := if q = L then 0 else if 0 < nd T (L - q) q then mv T q (nd T (L - q) q) else T q
def tpl (T : Nat → Int) (L q : Nat) : Nat := if q = L then q else if 0 < nd T (L - q) q then q + nd T (L - q) q else q + 1
def nk (c : Nat → Int) (t v p : Int) : Nat → Int := uf (uf (uf (uf c 13 (c 10)) 11 t) 12 v) 10 p
theorem nk_at (c : Nat → Int) (t v p : Int) (j : Nat) : nk c t v p j = if j = 10 then p else if j = 12 then v else if j = 11 then t else if j = 13 then c 10 else c j := rfl
theorem nk_10 (c : Nat → Int) (t v p x : Int) : uf (nk c t v p) 10 x = nk c t v x := uf_uf _ _ _ _
theorem nk_12 (c : Nat → Int) (t v p x : Int) : uf (nk c t v p) 12 x = nk c t x p := by
  funext j
  simp only [uf, nk_at]
  (repeat' split) <;> first | rfl | omega
theorem nk_11 (c : Nat → Int) (t v p x : Int) : uf (nk c t v p) 11 x = nk c x v p := by
  funext j
  simp only [uf, nk_at]
  (repeat' split) <;> first | rfl | omega
theorem nk_0 (c : Nat → Int) (t v : Int) : uf (uf (uf c 13 (c 10)) 11 t) 12 v = nk c t v (c 10) := by
  funext j
  simp only [uf, nk_at]
  (repeat' split) <;> first | rfl | (subst_vars; rfl) | omega
def ntk (σ : Sg) : Sg := us σ 202 (nk (σ 202) (tk (σ 208) (σ 202 8).toNat (σ 202 10).toNat) (tv (σ 208) (σ 202 8).toNat (σ 202 10).toNat) ((tpl (σ 208) (σ 202 8).toNat (σ 202 10).toNat : Nat) : Int))
theorem nd_le (T : Nat → Int) (n q : Nat) : nd T n q ≤ n := by
  induction n generalizing q with
  | zero => simp [nd]
  | succ n ih => simp only [nd]; have := ih (q + 1); split <;> omega
theorem tpl_le {T : Nat → Int} {L q : Nat} (h : q ≤ L) : q ≤ tpl T L q ∧ tpl T L q ≤ L := by
  have h1 := nd_le T (L - q) q
  unfold tpl
  (repeat' split) <;> omega
theorem nd_s {T : Nat → Int} {n q : Nat} (h : 48 ≤ T q ∧ T q ≤ 57) : nd T (n + 1) q = nd T n (q + 1) + 1 := by simp only [nd]; rw [if_pos h]
theorem nd_n {T : Nat → Int} {n q : Nat} (h : ¬ (48 ≤ T q ∧ T q ≤ 57)) : nd T n q = 0 := by
  cases n with
  | zero => rfl
  | succ n => simp only [nd]; rw [if_neg h]
