theorem nd_dg (T : Nat → Int) (n q j : Nat) (h : j < nd T n q) : 48 ≤ T (q + j) ∧ T (q + j) ≤ 57 := by
  induction n generalizing q j with
  | zero => simp [nd] at h
  | succ n ih =>
    by_cases hd : 48 ≤ T q ∧ T q ≤ 57
    · rw [nd_s hd] at h
      cases j with
      | zero => exact hd
      | succ j =>
        have := ih (q + 1) j (by omega)
        rw [show q + (j + 1) = q + 1 + j by omega]
        exact this
    · rw [nd_n hd] at h
      omega
theorem mv_bd (T : Nat → Int) (q : Nat) {k : Nat} (h : ∀ j, j < k → 48 ≤ T (q + j) ∧ T (q + j) ≤ 57) : 0 ≤ mv T q k ∧ mv T q k ≤ 999 := by
  induction k with
  | zero => simp [mv]
  | succ k ih =>
    have h1 := ih (fun j hj => h j (by omega))
    have h2 := h k (by omega)
    simp only [mv]
    split <;> omega
theorem tk_bd (T : Nat → Int) (L q : Nat) : 0 ≤ tk T L q ∧ tk T L q ≤ 3 := by
  unfold tk
  (repeat' split) <;> omega
theorem tv_bd {T : Nat → Int} {L q : Nat} (hq : q ≤ L) (hL : L ≤ 100) (hT : ∀ k, k < 100 → 0 ≤ T k ∧ T k ≤ 255) : 0 ≤ tv T L q ∧ tv T L q ≤ 999 := by
  unfold tv
  split
  · omega
  · split
    · exact mv_bd T q (fun j hj => nd_dg T _ q j hj)
    · have := hT q (by omega); omega
/-- the parser stands at the token that begins at b -/
def PS (σ : Sg) (b : Nat) : Prop := (σ 202 13 = (b : Int) ∧ σ 202 11 = tk (σ 208) (σ 202 8).toNat b ∧ σ 202 12 = tv (σ 208) (σ 202 8).toNat b ∧ σ 202 10 = ((tpl (σ 208) (σ 202 8).toNat b : Nat) : Int)) ∧ ((b : Int) ≤ σ 202 8 ∧ σ 202 8 ≤ 100) ∧ ∀ k, k < 100 → 0 ≤ σ 208 k ∧ σ 208 k ≤ 255
theorem PS_ntk0 {σ : Sg} {q : Nat} (h : σ 202 10 = (q : Int)) (hq : (q : Int) ≤ σ 202 8 ∧ σ 202 8 ≤ 100) (hT : ∀ k, k < 100 → 0 ≤ σ 208 k ∧ σ 208 k ≤ 255) : PS (ntk σ) q := by
  have e : (σ 202 10).toNat = q := by omega
  have e13 : ntk σ 202 13 = σ 202 10 := rfl
  have e11 : ntk σ 202 11 = tk (σ 208) (σ 202 8).toNat (σ 202 10).toNat := rfl
  have e12 : ntk σ 202 12 = tv (σ 208) (σ 202 8).toNat (σ 202 10).toNat := rfl
  have e10 : ntk σ 202 10 = ((tpl (σ 208) (σ 202 8).toNat (σ 202 10).toNat : Nat) : Int) := rfl
  rw [e] at e11 e12 e10
  exact ⟨⟨e13.trans h, e11, e12, e10⟩, hq, hT⟩
theorem PS_ntk {σ : Sg} {b : Nat} (h : PS σ b) : PS (ntk σ) (tpl (σ 208) (σ 202 8).toNat b) := by
  have h1 := h.2.1
  have h2 := tpl_le (T := σ 208) (L := (σ 202 8).toNat) (q := b) (by omega)
  exact PS_ntk0 h.1.2.2.2 ⟨by omega, h1.2⟩ h.2.2
theorem PS_bd {σ : Sg} {b : Nat} (h : PS σ b) : (0 ≤ σ 202 11 ∧ σ 202 11 ≤ 3) ∧ (0 ≤ σ 202 12 ∧ σ 202 12 ≤ 999) ∧ (0 ≤ σ 202 10 ∧ σ 202 10 ≤ σ 202 8) ∧ σ 202 8 ≤ 100 := by
  have h1 := h.2.1
  have h2 := tpl_le (T := σ 208) (L := (σ 202 8).toNat) (q := b) (by omega)
  have h3 := tk_bd (σ 208) (σ 202 8).toNat b
  have h4 := tv_bd (T := σ 208) (L := (σ 202 8).toNat) (q := b) (by omega) (by omega) h.2.2
  rw [h.1.2.1, h.1.2.2.1, h.1.2.2.2]
  omega
theorem PS_209 {σ : Sg} {b : Nat} {g : Nat → Int} (h : PS σ b) : PS (us σ 209 g) b := h
def tkS (σ : Sg) (c : Int) : Sg := if σ 202 11 = 1 ∧ σ 202 12 = c then ntk σ else up σ 202 14 1
def tnS (σ : Sg) (lo hi : Int) (at_ : Nat) (c : Int) : Sg := if σ 202 11 = 2 ∧ lo ≤ σ 202 12 ∧ σ 202 12 ≤ hi then tkS (ntk (up σ 209 at_ (σ 202 12))) c else up σ 202 14 (if σ 202 11 = 2 then 2 else 1)
