
theorem q_as {σ σ1 : Sg} (hR : Rel σ) (h_ : Int) (b_ : Int)  (h1 : σ1 = (if ¬ (0 ≤ h_ ∧ h_ ≤ σ 18 4 - 1) ∨ ¬ (0 ≤ b_ ∧ b_ ≤ 5) then σ else if b_ = 0 ∨ σ 18 (8 + h_.toNat) = b_ ∨ (b_ = 1 ∧ σ 18 (8 + h_.toNat) < 4) ∨ (b_ = 4 ∧ σ 18 (8 + h_.toNat) = 5) then up σ 0 15 0 else up σ 0 15 3)) : (σ1 206 4 = 0 ∨ okV (σ1 206)) ∧ (if ¬ (0 ≤ h_ ∧ h_ ≤ σ 18 4 - 1) ∨ ¬ (0 ≤ b_ ∧ b_ ≤ 5) then -1000001 else if b_ = 0 ∨ σ 18 (8 + h_.toNat) = b_ ∨ (b_ = 1 ∧ σ 18 (8 + h_.toNat) < 4) ∨ (b_ = 4 ∧ σ 18 (8 + h_.toNat) = 5) then h_ else -1000013) = (if ¬ (0 ≤ h_ ∧ h_ ≤ σ1 206 4 - 1) ∨ ¬ (0 ≤ b_ ∧ b_ ≤ 5) then -1000001 else if b_ = 0 ∨ σ1 206 (8 + h_.toNat) = b_ ∨ (b_ = 1 ∧ σ1 206 (8 + h_.toNat) < 4) ∨ (b_ = 4 ∧ σ1 206 (8 + h_.toNat) = 5) then h_ else -1000013) ∧ Rel (if ¬ (0 ≤ h_ ∧ h_ ≤ σ1 206 4 - 1) ∨ ¬ (0 ≤ b_ ∧ b_ ≤ 5) then σ1 else if b_ = 0 ∨ σ1 206 (8 + h_.toNat) = b_ ∨ (b_ = 1 ∧ σ1 206 (8 + h_.toNat) < 4) ∨ (b_ = 4 ∧ σ1 206 (8 + h_.toNat) = 5) then up σ1 202 3 0 else up σ1 202 3 3) := by
  have q := hR.1.1
  have e4 := hR.e18
  have f4 := hR.f4
  have m : ∀ c, 202 ≤ c → σ1 c = σ c := fun c hc => by rw [h1]; (repeat' split) <;> first | rfl | (simp only [up, us]; (repeat' split) <;> first | rfl | (exfalso; omega))
  refine ⟨(by rw [m 206 (by omega)]; exact hR.o206), ?_⟩
  rw [m 206 (by omega)]
  rw [e4] at h1 ⊢
  by_cases hb : ¬ (0 ≤ h_ ∧ h_ ≤ σ 206 4 - 1) ∨ ¬ (0 ≤ b_ ∧ b_ ≤ 5)
  · rw [if_pos hb] at h1
    refine ⟨by first | rw [if_pos hb, if_pos hb] | rw [if_pos hb], ?_⟩
    rw [if_pos hb, h1]
    exact hR
  · have hn : h_.toNat < 4 ∧ ((h_.toNat : Nat) : Int) < σ 18 4 := by omega
    rw [eqR_at q 8 h_.toNat (by omega) hn.1 hn.2] at h1 ⊢
    by_cases hc : b_ = 0 ∨ σ 206 (8 + h_.toNat) = b_ ∨ (b_ = 1 ∧ σ 206 (8 + h_.toNat) < 4) ∨ (b_ = 4 ∧ σ 206 (8 + h_.toNat) = 5)
    · rw [if_neg hb, if_pos hc] at h1
      refine ⟨by first | rw [if_neg hb, if_pos hc, if_neg hb, if_pos hc] | rw [if_neg hb, if_pos hc], ?_⟩
      rw [if_neg hb, if_pos hc, h1]
      exact Rel_s hR (by intros; simp only [up, us]; (repeat' split) <;> first | rfl | (exfalso; omega)) (by intro j hj; rcases hj with rfl | rfl | rfl <;> rfl) (by intro j hj; rcases hj with rfl | rfl | rfl | rfl | rfl <;> rfl) rfl
    · rw [if_neg hb, if_neg hc] at h1
      refine ⟨by first | rw [if_neg hb, if_neg hc, if_neg hb, if_neg hc] | rw [if_neg hb, if_neg hc], ?_⟩
      rw [if_neg hb, if_neg hc, h1]
      exact Rel_s hR (by intros; simp only [up, us]; (repeat' split) <;> first | rfl | (exfalso; omega)) (by intro j hj; rcases hj with rfl | rfl | rfl <;> rfl) (by intro j hj; rcases hj with rfl | rfl | rfl | rfl | rfl <;> rfl) rfl
theorem q_map {σ σ1 : Sg} (hR : Rel σ) (t_ : Int) (i_ : Int) (S_ : Nat → Int) (h1 : σ1 = (us (if σ 18 4 = 0 then σ else if ¬ (0 ≤ t_ ∧ t_ ≤ 7) then σ else if σ (30 + 2 * t_.toNat) 1 = -1 then up σ 0 15 1 else if 0 ≤ i_ ∧ i_ ≤ σ (30 + 2 * t_.toNat) 2 - σ 18 4 then up σ 0 15 0 else up σ 0 15 2) 10 S_)) : (σ1 206 4 = 0 ∨ okV (σ1 206)) ∧ (σ1 202 4 = if σ1 206 4 = 0 then 0 else 1) ∧ (∀ k, k < 8 → -1 ≤ σ1 204 k ∧ σ1 204 k ≤ 40) ∧ (∀ k, k < 320 → -2147483648 ≤ σ1 205 k ∧ σ1 205 k < 2147483648) ∧ (if σ 18 4 = 0 then -1000002 else if ¬ (0 ≤ t_ ∧ t_ ≤ 7) then -1000001 else if σ (30 + 2 * t_.toNat) 1 = -1 then -1000011 else if 0 ≤ i_ ∧ i_ ≤ σ (30 + 2 * t_.toNat) 2 - σ 18 4 then bt (mpP (σ 18) (fun h => σ (30 + 2 * t_.toNat + 1) (i_.toNat + h))) 4 else -1000012) = (if σ1 206 4 = 0 then -1000002 else if ¬ (0 ≤ t_ ∧ t_ ≤ 7) then -1000001 else if σ1 204 t_.toNat < 0 then -1000011 else if 0 ≤ i_ ∧ i_ ≤ σ1 204 t_.toNat - σ1 206 4 then bt (mpP (σ1 206) (fun h => σ1 205 (40 * t_.toNat + i_.toNat + h))) 4 else -1000012) ∧ ∀ (g : Nat → Int), Rel (if σ1 206 4 = 0 then σ1 else if ¬ (0 ≤ t_ ∧ t_ ≤ 7) then σ1 else if σ1 204 t_.toNat < 0 then up σ1 202 3 1 else if 0 ≤ i_ ∧ i_ ≤ σ1 204 t_.toNat - σ1 206 4 then up (us σ1 210 g) 202 3 0 else up σ1 202 3 2) := by
  have q := hR.1.1
  have e4 := hR.e18
  have f4 := hR.f4
  have m : ∀ c, 202 ≤ c → σ1 c = σ c := fun c hc => by rw [h1]; (repeat' split) <;> first | rfl | (simp only [up, us]; (repeat' split) <;> first | rfl | (exfalso; omega))
  refine ⟨(by rw [m 206 (by omega)]; exact hR.o206), (by rw [m 202 (by omega), m 206 (by omega)]; exact hR.1.2.2.2.1), (by rw [m 204 (by omega)]; exact hR.msz), (by rw [m 205 (by omega)]; exact hR.mit), ?_⟩
  rw [m 206 (by omega), m 204 (by omega), m 205 (by omega)]
  rw [e4] at h1 ⊢
  by_cases h0 : σ 206 4 = 0
  · rw [if_pos h0] at h1
    refine ⟨by first | rw [if_pos h0, if_pos h0] | rw [if_pos h0], fun g => ?_⟩
    rw [if_pos h0, h1]
    exact Rel_s hR (by intros; simp only [up, us]; (repeat' split) <;> first | rfl | (exfalso; omega)) (by intro j hj; rcases hj with rfl | rfl | rfl <;> rfl) (by intro j hj; rcases hj with rfl | rfl | rfl | rfl | rfl <;> rfl) (by exact hR.2.2.2.2.1.1)
  · by_cases hb : ¬ (0 ≤ t_ ∧ t_ ≤ 7)
    · rw [if_neg h0, if_pos hb] at h1
      refine ⟨by first | rw [if_neg h0, if_pos hb, if_neg h0, if_pos hb] | rw [if_neg h0, if_pos hb], fun g => ?_⟩
      rw [if_neg h0, if_pos hb, h1]
      exact Rel_s hR (by intros; simp only [up, us]; (repeat' split) <;> first | rfl | (exfalso; omega)) (by intro j hj; rcases hj with rfl | rfl | rfl <;> rfl) (by intro j hj; rcases hj with rfl | rfl | rfl | rfl | rfl <;> rfl) (by exact hR.2.2.2.2.1.1)
    · have hd := (hR.2.2.2.1 t_.toNat (by omega)).1
      rcases hd with ⟨a1, a2⟩ | ⟨a1, a2, a3, a4, a5⟩
      · rw [if_neg h0, if_neg hb, if_pos a2] at h1
        refine ⟨by rw [if_neg h0, if_neg hb, if_pos a2, if_neg h0, if_neg hb, if_pos (show σ 204 t_.toNat < 0 by omega)], fun g => ?_⟩
        rw [if_neg h0, if_neg hb, if_pos (show σ 204 t_.toNat < 0 by omega), h1]
        exact Rel_s hR (by intros; simp only [up, us]; (repeat' split) <;> first | rfl | (exfalso; omega)) (by intro j hj; rcases hj with rfl | rfl | rfl <;> rfl) (by intro j hj; rcases hj with rfl | rfl | rfl | rfl | rfl <;> rfl) rfl
      · have hnm : ¬ σ (30 + 2 * t_.toNat) 1 = -1 := by omega
        rw [a4] at h1 ⊢
        by_cases hi : 0 ≤ i_ ∧ i_ ≤ σ 204 t_.toNat - σ 206 4
        · rw [if_neg h0, if_neg hb, if_neg hnm, if_pos hi] at h1
          refine ⟨by rw [if_neg h0, if_neg hb, if_neg hnm, if_pos hi, if_neg h0, if_neg hb, if_neg (show ¬ σ 204 t_.toNat < 0 by omega), if_pos hi]; exact bt_congr (fun k hk => eqR_mpP q (by omega) (fun j hj => (a5 (i_.toNat + j) (by unfold mn at hj; omega)).trans (by rw [Nat.add_assoc])) k), fun g => ?_⟩
          rw [if_neg h0, if_neg hb, if_neg (show ¬ σ 204 t_.toNat < 0 by omega), if_pos hi, h1]
          exact Rel_s hR (by intros; simp only [up, us]; (repeat' split) <;> first | rfl | (exfalso; omega)) (by intro j hj; rcases hj with rfl | rfl | rfl <;> rfl) (by intro j hj; rcases hj with rfl | rfl | rfl | rfl | rfl <;> rfl) rfl
        · rw [if_neg h0, if_neg hb, if_neg hnm, if_neg hi] at h1
          refine ⟨by rw [if_neg h0, if_neg hb, if_neg hnm, if_neg hi, if_neg h0, if_neg hb, if_neg (show ¬ σ 204 t_.toNat < 0 by omega), if_neg hi], fun g => ?_⟩
          rw [if_neg h0, if_neg hb, if_neg (show ¬ σ 204 t_.toNat < 0 by omega), if_neg hi, h1]
          exact Rel_s hR (by intros; simp only [up, us]; (repeat' split) <;> first | rfl | (exfalso; omega)) (by intro j hj; rcases hj with rfl | rfl | rfl <;> rfl) (by intro j hj; rcases hj with rfl | rfl | rfl | rfl | rfl <;> rfl) rfl
theorem q_who {σ σ1 : Sg} (hR : Rel σ) (h_ : Int) (t_ : Int) (i_ : Int) (T_ : Nat → Int) (S_ : Nat → Int) (h1 : σ1 = (us (us (if ¬ (0 ≤ h_ ∧ h_ ≤ σ 18 4 - 1) ∨ ¬ (0 ≤ t_ ∧ t_ ≤ 7) then σ else if σ (30 + 2 * t_.toNat) 1 = -1 then up σ 0 15 1 else if 0 ≤ i_ ∧ i_ ≤ σ (30 + 2 * t_.toNat) 2 - σ 18 4 then up σ 0 15 0 else up σ 0 15 2) 24 T_) 10 S_)) : (σ1 206 4 = 0 ∨ okV (σ1 206)) ∧ (∀ k, k < 8 → -1 ≤ σ1 204 k ∧ σ1 204 k ≤ 40) ∧ (∀ k, k < 320 → -2147483648 ≤ σ1 205 k ∧ σ1 205 k < 2147483648) ∧ (if ¬ (0 ≤ h_ ∧ h_ ≤ σ 18 4 - 1) ∨ ¬ (0 ≤ t_ ∧ t_ ≤ 7) then -1000001 else if σ (30 + 2 * t_.toNat) 1 = -1 then -1000011 else if 0 ≤ i_ ∧ i_ ≤ σ (30 + 2 * t_.toNat) 2 - σ 18 4 then bt (whP (σ 18) h_.toNat (fun h => σ (30 + 2 * t_.toNat + 1) (i_.toNat + h))) 6 else -1000012) = (if ¬ (0 ≤ h_ ∧ h_ ≤ σ1 206 4 - 1) ∨ ¬ (0 ≤ t_ ∧ t_ ≤ 7) then -1000001 else if σ1 204 t_.toNat < 0 then -1000011 else if 0 ≤ i_ ∧ i_ ≤ σ1 204 t_.toNat - σ1 206 4 then bt (whP (σ1 206) h_.toNat (fun h => σ1 205 (40 * t_.toNat + i_.toNat + h))) 6 else -1000012) ∧ ∀ (g : Nat → Int), Rel (if ¬ (0 ≤ h_ ∧ h_ ≤ σ1 206 4 - 1) ∨ ¬ (0 ≤ t_ ∧ t_ ≤ 7) then σ1 else if σ1 204 t_.toNat < 0 then up σ1 202 3 1 else if 0 ≤ i_ ∧ i_ ≤ σ1 204 t_.toNat - σ1 206 4 then up (us σ1 210 g) 202 3 0 else up σ1 202 3 2) := by
  have q := hR.1.1
  have e4 := hR.e18
  have f4 := hR.f4
  have m : ∀ c, 202 ≤ c → σ1 c = σ c := fun c hc => by rw [h1]; (repeat' split) <;> first | rfl | (simp only [up, us]; (repeat' split) <;> first | rfl | (exfalso; omega))
  refine ⟨(by rw [m 206 (by omega)]; exact hR.o206), (by rw [m 204 (by omega)]; exact hR.msz), (by rw [m 205 (by omega)]; exact hR.mit), ?_⟩
  rw [m 206 (by omega), m 204 (by omega), m 205 (by omega)]
  rw [e4] at h1 ⊢
  by_cases hb : ¬ (0 ≤ h_ ∧ h_ ≤ σ 206 4 - 1) ∨ ¬ (0 ≤ t_ ∧ t_ ≤ 7)
  · rw [if_pos hb] at h1
    refine ⟨by first | rw [if_pos hb, if_pos hb] | rw [if_pos hb], fun g => ?_⟩
    rw [if_pos hb, h1]
    exact Rel_s hR (by intros; simp only [up, us]; (repeat' split) <;> first | rfl | (exfalso; omega)) (by intro j hj; rcases hj with rfl | rfl | rfl <;> rfl) (by intro j hj; rcases hj with rfl | rfl | rfl | rfl | rfl <;> rfl) (by exact hR.2.2.2.2.1.1)
  · have hd := (hR.2.2.2.1 t_.toNat (by omega)).1
    rcases hd with ⟨a1, a2⟩ | ⟨a1, a2, a3, a4, a5⟩
    · rw [if_neg hb, if_pos a2] at h1
      refine ⟨by rw [if_neg hb, if_pos a2, if_neg hb, if_pos (show σ 204 t_.toNat < 0 by omega)], fun g => ?_⟩
      rw [if_neg hb, if_pos (show σ 204 t_.toNat < 0 by omega), h1]
      exact Rel_s hR (by intros; simp only [up, us]; (repeat' split) <;> first | rfl | (exfalso; omega)) (by intro j hj; rcases hj with rfl | rfl | rfl <;> rfl) (by intro j hj; rcases hj with rfl | rfl | rfl | rfl | rfl <;> rfl) rfl
    · have hnm : ¬ σ (30 + 2 * t_.toNat) 1 = -1 := by omega
      rw [a4] at h1 ⊢
      by_cases hi : 0 ≤ i_ ∧ i_ ≤ σ 204 t_.toNat - σ 206 4
      · rw [if_neg hb, if_neg hnm, if_pos hi] at h1
        refine ⟨by rw [if_neg hb, if_neg hnm, if_pos hi, if_neg hb, if_neg (show ¬ σ 204 t_.toNat < 0 by omega), if_pos hi]; exact bt_congr (fun k hk => eqR_whP q (by omega) (fun j hj => (a5 (i_.toNat + j) (by unfold mn at hj; omega)).trans (by rw [Nat.add_assoc])) k), fun g => ?_⟩
        rw [if_neg hb, if_neg (show ¬ σ 204 t_.toNat < 0 by omega), if_pos hi, h1]
        exact Rel_s hR (by intros; simp only [up, us]; (repeat' split) <;> first | rfl | (exfalso; omega)) (by intro j hj; rcases hj with rfl | rfl | rfl <;> rfl) (by intro j hj; rcases hj with rfl | rfl | rfl | rfl | rfl <;> rfl) rfl
      · rw [if_neg hb, if_neg hnm, if_neg hi] at h1
        refine ⟨by rw [if_neg hb, if_neg hnm, if_neg hi, if_neg hb, if_neg (show ¬ σ 204 t_.toNat < 0 by omega), if_neg hi], fun g => ?_⟩
        rw [if_neg hb, if_neg (show ¬ σ 204 t_.toNat < 0 by omega), if_neg hi, h1]
        exact Rel_s hR (by intros; simp only [up, us]; (repeat' split) <;> first | rfl | (exfalso; omega)) (by intro j hj; rcases hj with rfl | rfl | rfl <;> rfl) (by intro j hj; rcases hj with rfl | rfl | rfl | rfl | rfl <;> rfl) rfl
theorem q_loves {σ σ1 : Sg} (hR : Rel σ) (h_ : Int) (t_ : Int) (i_ : Int) (m_ : Int) (w_ : Int) (T_ : Nat → Int) (h1 : σ1 = (us (if ¬ (0 ≤ h_ ∧ h_ ≤ σ 18 4 - 1) ∨ ¬ (0 ≤ t_ ∧ t_ ≤ 7) ∨ ¬ (1 ≤ m_ ∧ m_ ≤ 12) ∨ ¬ (0 ≤ w_ ∧ w_ ≤ 1) then σ else if σ (30 + 2 * t_.toNat) 1 = -1 then up σ 0 15 1 else if 0 ≤ i_ ∧ i_ ≤ σ (30 + 2 * t_.toNat) 2 - m_ then up σ 0 15 0 else up σ 0 15 2) 24 T_)) : (σ1 206 4 = 0 ∨ okV (σ1 206)) ∧ (∀ k, k < 8 → -1 ≤ σ1 204 k ∧ σ1 204 k ≤ 40) ∧ (∀ k, k < 320 → -2147483648 ≤ σ1 205 k ∧ σ1 205 k < 2147483648) ∧ (σ1 206 5 ≤ 999) ∧ (if ¬ (0 ≤ h_ ∧ h_ ≤ σ 18 4 - 1) ∨ ¬ (0 ≤ t_ ∧ t_ ≤ 7) ∨ ¬ (1 ≤ m_ ∧ m_ ≤ 12) ∨ ¬ (0 ≤ w_ ∧ w_ ≤ 1) then -1000001 else if σ (30 + 2 * t_.toNat) 1 = -1 then -1000011 else if 0 ≤ i_ ∧ i_ ≤ σ (30 + 2 * t_.toNat) 2 - m_ then (if w_ = 0 then mcd (lvP (σ 18) h_.toNat (fun h => σ (30 + 2 * t_.toNat + 1) (i_.toNat + h)) m_.toNat) 10 else mld (lvP (σ 18) h_.toNat (fun h => σ (30 + 2 * t_.toNat + 1) (i_.toNat + h)) m_.toNat) 10) else -1000012) = (if ¬ (0 ≤ h_ ∧ h_ ≤ σ1 206 4 - 1) ∨ ¬ (0 ≤ t_ ∧ t_ ≤ 7) ∨ ¬ (1 ≤ m_ ∧ m_ ≤ 12) ∨ ¬ (0 ≤ w_ ∧ w_ ≤ 1) then -1000001 else if σ1 204 t_.toNat < 0 then -1000011 else if 0 ≤ i_ ∧ i_ ≤ σ1 204 t_.toNat - m_ then (if w_ = 0 then mcd (lvP (σ1 206) h_.toNat (fun h => σ1 205 (40 * t_.toNat + i_.toNat + h)) m_.toNat) 10 else mld (lvP (σ1 206) h_.toNat (fun h => σ1 205 (40 * t_.toNat + i_.toNat + h)) m_.toNat) 10) else -1000012) ∧ Rel (if ¬ (0 ≤ h_ ∧ h_ ≤ σ1 206 4 - 1) ∨ ¬ (0 ≤ t_ ∧ t_ ≤ 7) ∨ ¬ (1 ≤ m_ ∧ m_ ≤ 12) ∨ ¬ (0 ≤ w_ ∧ w_ ≤ 1) then σ1 else if σ1 204 t_.toNat < 0 then up σ1 202 3 1 else if 0 ≤ i_ ∧ i_ ≤ σ1 204 t_.toNat - m_ then up (us σ1 212 (σ1 206)) 202 3 0 else up σ1 202 3 2) := by
  have q := hR.1.1
  have e4 := hR.e18
  have f4 := hR.f4
  have m : ∀ c, 202 ≤ c → σ1 c = σ c := fun c hc => by rw [h1]; (repeat' split) <;> first | rfl | (simp only [up, us]; (repeat' split) <;> first | rfl | (exfalso; omega))
  refine ⟨(by rw [m 206 (by omega)]; exact hR.o206), (by rw [m 204 (by omega)]; exact hR.msz), (by rw [m 205 (by omega)]; exact hR.mit), (by rw [m 206 (by omega)]; exact hR.1.2.2.1), ?_⟩
  rw [m 206 (by omega), m 204 (by omega), m 205 (by omega)]
  rw [e4] at h1 ⊢
  by_cases hb : ¬ (0 ≤ h_ ∧ h_ ≤ σ 206 4 - 1) ∨ ¬ (0 ≤ t_ ∧ t_ ≤ 7) ∨ ¬ (1 ≤ m_ ∧ m_ ≤ 12) ∨ ¬ (0 ≤ w_ ∧ w_ ≤ 1)
  · rw [if_pos hb] at h1
    refine ⟨by first | rw [if_pos hb, if_pos hb] | rw [if_pos hb], ?_⟩
    rw [if_pos hb, h1]
    exact Rel_s hR (by intros; simp only [up, us]; (repeat' split) <;> first | rfl | (exfalso; omega)) (by intro j hj; rcases hj with rfl | rfl | rfl <;> rfl) (by intro j hj; rcases hj with rfl | rfl | rfl | rfl | rfl <;> rfl) (by exact hR.2.2.2.2.1.1)
  · have hd := (hR.2.2.2.1 t_.toNat (by omega)).1
    rcases hd with ⟨a1, a2⟩ | ⟨a1, a2, a3, a4, a5⟩
    · rw [if_neg hb, if_pos a2] at h1
      refine ⟨by rw [if_neg hb, if_pos a2, if_neg hb, if_pos (show σ 204 t_.toNat < 0 by omega)], ?_⟩
      rw [if_neg hb, if_pos (show σ 204 t_.toNat < 0 by omega), h1]
      exact Rel_s hR (by intros; simp only [up, us]; (repeat' split) <;> first | rfl | (exfalso; omega)) (by intro j hj; rcases hj with rfl | rfl | rfl <;> rfl) (by intro j hj; rcases hj with rfl | rfl | rfl | rfl | rfl <;> rfl) rfl
    · have hnm : ¬ σ (30 + 2 * t_.toNat) 1 = -1 := by omega
      rw [a4] at h1 ⊢
      by_cases hi : 0 ≤ i_ ∧ i_ ≤ σ 204 t_.toNat - m_
      · rw [if_neg hb, if_neg hnm, if_pos hi] at h1
        refine ⟨by rw [if_neg hb, if_neg hnm, if_pos hi, if_neg hb, if_neg (show ¬ σ 204 t_.toNat < 0 by omega), if_pos hi]; (have hlc := mcd_congr (P := lvP (σ 18) h_.toNat (fun h => σ (30 + 2 * t_.toNat + 1) (i_.toNat + h)) m_.toNat) (P' := lvP (σ 206) h_.toNat (fun h => σ 205 (40 * t_.toNat + i_.toNat + h)) m_.toNat) (fun k hk => (eqR_lvP q (hR.o206.resolve_left (by omega)) (by omega) _ (by have := hR.1.2.2.1; omega) hk).trans (lva_congr (fun j hj => (a5 (i_.toNat + j) (by omega)).trans (by rw [Nat.add_assoc])))) 10; rw [hlc.1, hlc.2]), ?_⟩
        rw [if_neg hb, if_neg (show ¬ σ 204 t_.toNat < 0 by omega), if_pos hi, h1]
        exact Rel_s hR (by intros; simp only [up, us]; (repeat' split) <;> first | rfl | (exfalso; omega)) (by intro j hj; rcases hj with rfl | rfl | rfl <;> rfl) (by intro j hj; rcases hj with rfl | rfl | rfl | rfl | rfl <;> rfl) rfl
      · rw [if_neg hb, if_neg hnm, if_neg hi] at h1
        refine ⟨by rw [if_neg hb, if_neg hnm, if_neg hi, if_neg hb, if_neg (show ¬ σ 204 t_.toNat < 0 by omega), if_neg hi], ?_⟩
        rw [if_neg hb, if_neg (show ¬ σ 204 t_.toNat < 0 by omega), if_neg hi, h1]
        exact Rel_s hR (by intros; simp only [up, us]; (repeat' split) <;> first | rfl | (exfalso; omega)) (by intro j hj; rcases hj with rfl | rfl | rfl <;> rfl) (by intro j hj; rcases hj with rfl | rfl | rfl | rfl | rfl <;> rfl) rfl
theorem Rel_z {t : Sg} (h : ∀ z, z = t → Rel z) : Rel t := h t rfl
theorem q_row {σ σ1 : Sg} (hR : Rel σ) (r_ : Int) (l_ : Int) (n_ : Int)  (h1 : σ1 = (if ¬ (0 ≤ r_ ∧ r_ ≤ 7) ∨ ¬ (0 ≤ l_ ∧ l_ ≤ 2) ∨ 40 < n_ then σ else if n_ < 0 then up σ 0 15 4 else up (us (up (up σ (30 + 2 * r_.toNat) 1 l_) (30 + 2 * r_.toNat) 2 n_) (30 + 2 * r_.toNat + 1) (cpy n_.toNat (fun _ => 0) (σ (30 + 2 * r_.toNat + 1)))) 0 15 0)) : (if ¬ (0 ≤ r_ ∧ r_ ≤ 7) ∨ ¬ (0 ≤ l_ ∧ l_ ≤ 2) ∨ 40 < n_ then -1000001 else if n_ < 0 then -1000014 else n_) = (if ¬ (0 ≤ r_ ∧ r_ ≤ 7) ∨ ¬ (0 ≤ l_ ∧ l_ ≤ 2) ∨ 40 < n_ then -1000001 else if n_ < 0 then -1000014 else n_) ∧ Rel (if ¬ (0 ≤ r_ ∧ r_ ≤ 7) ∨ ¬ (0 ≤ l_ ∧ l_ ≤ 2) ∨ 40 < n_ then σ1 else if n_ < 0 then up σ1 202 3 4 else up (us (up (up σ1 203 r_.toNat l_) 204 r_.toNat n_) 205 (cpo (40 * r_.toNat) 40 (fun _ => 0) (σ1 205))) 202 3 0) := by
  have m : ∀ c, 202 ≤ c → σ1 c = σ c := fun c hc => by rw [h1]; (repeat' split) <;> first | rfl | (simp only [up, us]; (repeat' split) <;> first | rfl | (exfalso; omega))
  by_cases hb : ¬ (0 ≤ r_ ∧ r_ ≤ 7) ∨ ¬ (0 ≤ l_ ∧ l_ ≤ 2) ∨ 40 < n_
  · rw [if_pos hb] at h1
    refine ⟨by first | rw [if_pos hb, if_pos hb] | rw [if_pos hb], ?_⟩
    rw [if_pos hb, h1]
    exact hR
  · by_cases hn : n_ < 0
    · rw [if_neg hb, if_pos hn] at h1
      refine ⟨by first | rw [if_neg hb, if_pos hn, if_neg hb, if_pos hn] | rw [if_neg hb, if_pos hn], ?_⟩
      rw [if_neg hb, if_pos hn, h1]
      exact Rel_s hR (by intros; simp only [up, us]; (repeat' split) <;> first | rfl | (exfalso; omega)) (by intro j hj; rcases hj with rfl | rfl | rfl <;> rfl) (by intro j hj; rcases hj with rfl | rfl | rfl | rfl | rfl <;> rfl) rfl
    · rw [if_neg hb, if_neg hn] at h1
      refine ⟨by rw [if_neg hb, if_neg hn], ?_⟩
      rw [if_neg hb, if_neg hn]
      refine Rel_z (fun z hZ => ?_)
      have z0 : z 0 = uf (σ 0) 15 0 := by rw [hZ, h1]; simp (disch := omega) only [us_ne, us_eq]
      have z2 : z 202 = uf (σ 202) 3 0 := by rw [hZ, h1]; simp (disch := omega) only [us_ne, us_eq]
      have z203 : z 203 = uf (σ 203) r_.toNat l_ := by rw [hZ, h1]; simp (disch := omega) only [us_ne, us_eq]
      have z204 : z 204 = uf (σ 204) r_.toNat n_ := by rw [hZ, h1]; simp (disch := omega) only [us_ne, us_eq]
      have z205 : z 205 = cpo (40 * r_.toNat) 40 (fun _ => 0) (σ 205) := by rw [hZ, h1]; simp (disch := omega) only [us_ne, us_eq]
      have zo : z (30 + 2 * r_.toNat) = uf (uf (σ (30 + 2 * r_.toNat)) 1 l_) 2 n_ := by rw [hZ, h1]; simp (disch := omega) only [us_ne, us_eq]
      have zi : z (30 + 2 * r_.toNat + 1) = cpy n_.toNat (fun _ => 0) (σ (30 + 2 * r_.toNat + 1)) := by rw [hZ, h1]; simp (disch := omega) only [us_ne, us_eq]
      have zc : ∀ c, c ≠ 0 ∧ c ≠ 202 ∧ c ≠ 203 ∧ c ≠ 204 ∧ c ≠ 205 ∧ c ≠ (30 + 2 * r_.toNat) ∧ c ≠ (30 + 2 * r_.toNat + 1) → z c = σ c := fun c hc => by rw [hZ, h1]; simp (disch := omega) only [us_ne, us_eq]
      refine Rel_d hR (fun k hk => ?_) (fun c q1 q2 q3 q4 q5 q6 q7 => zc c (by omega)) (fun j hj => by rw [z0, uf_ne _ _ (by omega)]) (fun j hj => by rw [z2, uf_ne _ _ (by omega)]) (by rw [z0, z2, uf_eq, uf_eq])
      by_cases hkr : k = r_.toNat
      · subst hkr
        have v1 : z 204 r_.toNat = n_ := by rw [z204, uf_eq]
        have v2 : z 203 r_.toNat = l_ := by rw [z203, uf_eq]
        have v3 : z (30 + 2 * r_.toNat) 1 = l_ := by rw [zo, uf_ne _ _ (by omega), uf_eq]
        have v4 : z (30 + 2 * r_.toNat) 2 = n_ := by rw [zo, uf_eq]
        have v5 : ∀ j, z (30 + 2 * r_.toNat + 1) j = if j < n_.toNat then 0 else σ (30 + 2 * r_.toNat + 1) j := fun j => by rw [zi]; rfl
        have v6 : ∀ j, j < 40 → z 205 (40 * r_.toNat + j) = 0 := fun j hj => by rw [z205]; unfold cpo; rw [if_pos (by omega)]
        unfold RDr
        rw [v1, v2, v3, v4]
        refine ⟨Or.inr ⟨by omega, by omega, rfl, rfl, fun i hi => ?_⟩, by omega, by omega, fun j hj => ?_⟩
        · rw [v5, v6 _ (by omega), if_pos (by omega)]
        · rw [v5, v6 _ hj]
          refine ⟨?_, by omega⟩
          by_cases hj2 : j < n_.toNat
          · rw [if_pos hj2]; omega
          · rw [if_neg hj2]; exact ((hR.2.2.2.1 _ hk).2.2.2 j hj).1
      · exact RDr_c (hR.2.2.2.1 k hk) (by rw [z203, uf_ne _ _ hkr]) (by rw [z204, uf_ne _ _ hkr]) (fun j hj => by rw [z205]; unfold cpo; rw [if_neg (by omega)]) (zc _ (by omega)) (zc _ (by omega))