
theorem e_fault {σ : Sg} (hR : Rel σ)  : (σ 0 14) = (σ 202 9) := by
  exact hR.2.2.2.2.1.2
theorem q_fault {σ σ1 : Sg} (hR : Rel σ)   (h1 : σ1 = (σ)) : (σ 0 14) = (σ1 202 9) ∧ Rel (σ1) := by
  subst h1
  have hR1 := hR
  exact ⟨(e_fault hR ), hR1⟩

theorem e_status {σ : Sg} (hR : Rel σ)  : (σ 0 15) = (σ 202 3) := by
  exact hR.2.2.2.2.1.1
theorem q_status {σ σ1 : Sg} (hR : Rel σ)   (h1 : σ1 = (σ)) : (σ 0 15) = (σ1 202 3) ∧ Rel (σ1) := by
  subst h1
  have hR1 := hR
  exact ⟨(e_status hR ), hR1⟩

theorem e_heir {σ : Sg} (hR : Rel σ) (h_ : Int) (z_ : Int) : (if ¬ (0 ≤ h_ ∧ h_ ≤ σ 18 4 - 1) then -1000001 else if z_ = 0 then σ 18 (12 + h_.toNat) else if z_ = 1 then σ 18 (16 + h_.toNat) else if z_ = 2 then σ 18 (20 + h_.toNat) else if z_ = 3 then says (σ 18) h_.toNat else if z_ = 4 then σ 18 (28 + h_.toNat) else if z_ = 5 then σ 18 (32 + h_.toNat) else if z_ = 6 then alw (σ 18) h_.toNat else if z_ = 7 then σ 18 (36 + h_.toNat) else if z_ = 8 then σ 18 (40 + h_.toNat) else -1000001) = (if ¬ (0 ≤ h_ ∧ h_ ≤ σ 206 4 - 1) then -1000001 else if z_ = 0 then σ 206 (12 + h_.toNat) else if z_ = 1 then σ 206 (16 + h_.toNat) else if z_ = 2 then σ 206 (20 + h_.toNat) else if z_ = 3 then says (σ 206) h_.toNat else if z_ = 4 then σ 206 (28 + h_.toNat) else if z_ = 5 then σ 206 (32 + h_.toNat) else if z_ = 6 then alw (σ 206) h_.toNat else if z_ = 7 then σ 206 (36 + h_.toNat) else if z_ = 8 then σ 206 (40 + h_.toNat) else -1000001) := by
  have q := hR.1.1
  have e4 := hR.e18
  have f4 := hR.f4
  rw [e4]
  by_cases hb : ¬ (0 ≤ h_ ∧ h_ ≤ σ 206 4 - 1)
  · rw [if_pos hb, if_pos hb]
  · rw [if_neg hb, if_neg hb]
    have hn : h_.toNat < 4 ∧ ((h_.toNat : Nat) : Int) < σ 18 4 := by omega
    rw [eqR_at q 12 h_.toNat (by omega) hn.1 hn.2, eqR_at q 16 h_.toNat (by omega) hn.1 hn.2, eqR_at q 20 h_.toNat (by omega) hn.1 hn.2, eqR_at q 28 h_.toNat (by omega) hn.1 hn.2, eqR_at q 32 h_.toNat (by omega) hn.1 hn.2, eqR_at q 36 h_.toNat (by omega) hn.1 hn.2, eqR_at q 40 h_.toNat (by omega) hn.1 hn.2, eqR_says q (by omega) hn.2, eqR_alw q (by omega) hn.2]
theorem q_heir {σ σ1 : Sg} (hR : Rel σ) (h_ : Int) (z_ : Int)  (h1 : σ1 = (σ)) : (σ1 206 4 = 0 ∨ okV (σ1 206)) ∧ (if ¬ (0 ≤ h_ ∧ h_ ≤ σ 18 4 - 1) then -1000001 else if z_ = 0 then σ 18 (12 + h_.toNat) else if z_ = 1 then σ 18 (16 + h_.toNat) else if z_ = 2 then σ 18 (20 + h_.toNat) else if z_ = 3 then says (σ 18) h_.toNat else if z_ = 4 then σ 18 (28 + h_.toNat) else if z_ = 5 then σ 18 (32 + h_.toNat) else if z_ = 6 then alw (σ 18) h_.toNat else if z_ = 7 then σ 18 (36 + h_.toNat) else if z_ = 8 then σ 18 (40 + h_.toNat) else -1000001) = (if ¬ (0 ≤ h_ ∧ h_ ≤ σ1 206 4 - 1) then -1000001 else if z_ = 0 then σ1 206 (12 + h_.toNat) else if z_ = 1 then σ1 206 (16 + h_.toNat) else if z_ = 2 then σ1 206 (20 + h_.toNat) else if z_ = 3 then says (σ1 206) h_.toNat else if z_ = 4 then σ1 206 (28 + h_.toNat) else if z_ = 5 then σ1 206 (32 + h_.toNat) else if z_ = 6 then alw (σ1 206) h_.toNat else if z_ = 7 then σ1 206 (36 + h_.toNat) else if z_ = 8 then σ1 206 (40 + h_.toNat) else -1000001) ∧ Rel (σ1) := by
  subst h1
  have hR1 := hR
  exact ⟨hR1.o206, (e_heir hR h_ z_), hR1⟩

theorem e_king {σ : Sg} (hR : Rel σ) (z_ : Int) : (if σ 18 4 = 0 then -1000002 else if z_ = 0 then σ 18 1 else if z_ = 1 then σ 18 6 else if z_ = 2 then σ 18 7 else -1000001) = (if σ 206 4 = 0 then -1000002 else if z_ = 0 then σ 206 1 else if z_ = 1 then σ 206 6 else if z_ = 2 then σ 206 7 else -1000001) := by
  have q := hR.1.1
  have e4 := hR.e18
  have f4 := hR.f4
  rw [e4, eqR_hd q 1 (by omega), eqR_hd q 6 (by omega), eqR_hd q 7 (by omega)]
theorem q_king {σ σ1 : Sg} (hR : Rel σ) (z_ : Int)  (h1 : σ1 = (σ)) : (σ1 206 4 = 0 ∨ okV (σ1 206)) ∧ (σ1 202 4 = if σ1 206 4 = 0 then 0 else 1) ∧ (if σ 18 4 = 0 then -1000002 else if z_ = 0 then σ 18 1 else if z_ = 1 then σ 18 6 else if z_ = 2 then σ 18 7 else -1000001) = (if σ1 206 4 = 0 then -1000002 else if z_ = 0 then σ1 206 1 else if z_ = 1 then σ1 206 6 else if z_ = 2 then σ1 206 7 else -1000001) ∧ Rel (σ1) := by
  subst h1
  have hR1 := hR
  exact ⟨hR1.o206, hR1.1.2.2.2.1, (e_king hR z_), hR1⟩

theorem e_share {σ : Sg} (hR : Rel σ) (h_ : Int) (z_ : Int) : (if ¬ (0 ≤ h_ ∧ h_ ≤ σ 18 4 - 1) ∨ ¬ (0 ≤ z_ ∧ z_ ≤ 3) then -1000001 else shr (σ 18) z_ h_.toNat) = (if ¬ (0 ≤ h_ ∧ h_ ≤ σ 206 4 - 1) ∨ ¬ (0 ≤ z_ ∧ z_ ≤ 3) then -1000001 else shr (σ 206) z_ h_.toNat) := by
  have q := hR.1.1
  have e4 := hR.e18
  have f4 := hR.f4
  rw [e4]
  by_cases hb : ¬ (0 ≤ h_ ∧ h_ ≤ σ 206 4 - 1) ∨ ¬ (0 ≤ z_ ∧ z_ ≤ 3)
  · rw [if_pos hb, if_pos hb]
  · rw [if_neg hb, if_neg hb]
    have hn : h_.toNat < 4 ∧ ((h_.toNat : Nat) : Int) < σ 18 4 := by omega
    exact eqR_shr q (by omega) z_ hn.2
theorem q_share {σ σ1 : Sg} (hR : Rel σ) (h_ : Int) (z_ : Int)  (h1 : σ1 = (if ¬ (0 ≤ h_ ∧ h_ ≤ σ 18 4 - 1) ∨ ¬ (0 ≤ z_ ∧ z_ ≤ 3) then σ else us σ 10 (cpy (mn (σ 18)) (shr (σ 18) z_) (σ 10)))) : (σ1 206 4 = 0 ∨ okV (σ1 206)) ∧ (if ¬ (0 ≤ h_ ∧ h_ ≤ σ 18 4 - 1) ∨ ¬ (0 ≤ z_ ∧ z_ ≤ 3) then -1000001 else shr (σ 18) z_ h_.toNat) = (if ¬ (0 ≤ h_ ∧ h_ ≤ σ1 206 4 - 1) ∨ ¬ (0 ≤ z_ ∧ z_ ≤ 3) then -1000001 else shr (σ1 206) z_ h_.toNat) ∧ Rel (if ¬ (0 ≤ h_ ∧ h_ ≤ σ1 206 4 - 1) ∨ ¬ (0 ≤ z_ ∧ z_ ≤ 3) then σ1 else us σ1 210 (cpy (mn (σ1 206)) (shr (σ1 206) z_) (σ1 210))) := by
  by_cases hb : ¬ (0 ≤ h_ ∧ h_ ≤ σ 18 4 - 1) ∨ ¬ (0 ≤ z_ ∧ z_ ≤ 3)
  · rw [if_pos hb] at h1
    subst h1
    have hR1 := hR
    exact ⟨hR1.o206, (e_share hR h_ z_), (by (repeat' split) <;> first | exact hR1 | (exact Rel_s hR1 (by intros; simp only [up, us]; (repeat' split) <;> first | rfl | (exfalso; omega)) (by intro j hj; rcases hj with rfl | rfl | rfl <;> rfl) (by intro j hj; rcases hj with rfl | rfl | rfl | rfl | rfl <;> rfl) (by exact hR1.2.2.2.2.1.1)))⟩
  · rw [if_neg hb] at h1
    subst h1
    have hR1 : Rel (us σ 10 (cpy (mn (σ 18)) (shr (σ 18) z_) (σ 10))) := by have hR1 := hR; exact Rel_s hR1 (by intros; simp only [up, us]; (repeat' split) <;> first | rfl | (exfalso; omega)) (by intro j hj; rcases hj with rfl | rfl | rfl <;> rfl) (by intro j hj; rcases hj with rfl | rfl | rfl | rfl | rfl <;> rfl) (by exact hR1.2.2.2.2.1.1)
    exact ⟨hR1.o206, (e_share hR h_ z_), (by (repeat' split) <;> first | exact hR1 | (exact Rel_s hR1 (by intros; simp only [up, us]; (repeat' split) <;> first | rfl | (exfalso; omega)) (by intro j hj; rcases hj with rfl | rfl | rfl <;> rfl) (by intro j hj; rcases hj with rfl | rfl | rfl | rfl | rfl <;> rfl) (by exact hR1.2.2.2.2.1.1)))⟩

theorem e_best {σ : Sg} (hR : Rel σ) (h_ : Int) (w_ : Int) : (if ¬ (0 ≤ h_ ∧ h_ ≤ σ 18 4 - 1) ∨ ¬ (0 ≤ w_ ∧ w_ ≤ 1) then -1000001 else if w_ = 0 then bm (σ 18) h_.toNat 779 else bsp (σ 18) h_.toNat 0 779) = (if ¬ (0 ≤ h_ ∧ h_ ≤ σ 206 4 - 1) ∨ ¬ (0 ≤ w_ ∧ w_ ≤ 1) then -1000001 else if w_ = 0 then bm (σ 206) h_.toNat 779 else bsp (σ 206) h_.toNat (σ 202 20) 779) := by
  have q := hR.1.1
  have e4 := hR.e18
  have f4 := hR.f4
  rw [e4]
  by_cases hb : ¬ (0 ≤ h_ ∧ h_ ≤ σ 206 4 - 1) ∨ ¬ (0 ≤ w_ ∧ w_ ≤ 1)
  · rw [if_pos hb, if_pos hb]
  · rw [if_neg hb, if_neg hb]
    have hn : h_.toNat < 4 ∧ ((h_.toNat : Nat) : Int) < σ 18 4 := by omega
    have hok : okV (σ 206) := hR.o206.resolve_left (by omega)
    rw [eqR_bm q (by omega) hn.2, eqR_bsp q (by omega) hn.2, bsp_z hok (by omega) 0 (σ 202 20) 778]
theorem q_best {σ σ1 : Sg} (hR : Rel σ) (h_ : Int) (w_ : Int) (T_ : Nat → Int) (A_ : Nat → Int) (S_ : Nat → Int) (h1 : σ1 = (us (us (us σ 24 T_) 9 A_) 10 S_)) : (σ1 206 4 = 0 ∨ okV (σ1 206)) ∧ (if ¬ (0 ≤ h_ ∧ h_ ≤ σ 18 4 - 1) ∨ ¬ (0 ≤ w_ ∧ w_ ≤ 1) then -1000001 else if w_ = 0 then bm (σ 18) h_.toNat 779 else bsp (σ 18) h_.toNat 0 779) = (if ¬ (0 ≤ h_ ∧ h_ ≤ σ1 206 4 - 1) ∨ ¬ (0 ≤ w_ ∧ w_ ≤ 1) then -1000001 else if w_ = 0 then bm (σ1 206) h_.toNat 779 else bsp (σ1 206) h_.toNat (σ1 202 20) 779) ∧ ∀ (g : Nat → Int), Rel (if ¬ (0 ≤ h_ ∧ h_ ≤ σ1 206 4 - 1) ∨ ¬ (0 ≤ w_ ∧ w_ ≤ 1) then σ1 else us (us (us σ1 212 (σ1 206)) 210 g) 202 (uf (σ1 202) 20 (bsp (σ1 206) h_.toNat (σ1 202 20) 779))) := by
  subst h1
  have hR1 : Rel (us (us (us σ 24 T_) 9 A_) 10 S_) := by have hR1 := hR; (repeat' split) <;> first | exact hR | (exact Rel_s hR1 (by intros; simp only [up, us]; (repeat' split) <;> first | rfl | (exfalso; omega)) (by intro j hj; rcases hj with rfl | rfl | rfl <;> rfl) (by intro j hj; rcases hj with rfl | rfl | rfl | rfl | rfl <;> rfl) (by exact hR1.2.2.2.2.1.1))
  exact ⟨hR1.o206, (e_best hR h_ w_), (by intros; (repeat' split) <;> first | exact hR1 | (exact Rel_s hR1 (by intros; simp only [up, us]; (repeat' split) <;> first | rfl | (exfalso; omega)) (by intro j hj; rcases hj with rfl | rfl | rfl <;> rfl) (by intro j hj; rcases hj with rfl | rfl | rfl | rfl | rfl <;> rfl) (by exact hR1.2.2.2.2.1.1)))⟩

theorem e_rather {σ : Sg} (hR : Rel σ)  : (if σ 18 4 = 0 then -1000002 else bt (raP (σ 18)) (mn (σ 18))) = (if σ 206 4 = 0 then -1000002 else bt (raP (σ 206)) (mn (σ 206))) := by
  have q := hR.1.1
  have e4 := hR.e18
  have f4 := hR.f4
  rw [e4]
  by_cases hb : σ 206 4 = 0
  · rw [if_pos hb, if_pos hb]
  · rw [if_neg hb, if_neg hb]
    rw [eqR_mn q]
    exact bt_congr (fun k hk => eqR_raP q (by omega) (by unfold mn at hk; omega))
theorem q_rather {σ σ1 : Sg} (hR : Rel σ)  (T_ : Nat → Int) (A_ : Nat → Int) (S_ : Nat → Int) (h1 : σ1 = (us (us (us σ 24 T_) 9 A_) 10 S_)) : (σ1 206 4 = 0 ∨ okV (σ1 206)) ∧ (σ1 202 4 = if σ1 206 4 = 0 then 0 else 1) ∧ (if σ 18 4 = 0 then -1000002 else bt (raP (σ 18)) (mn (σ 18))) = (if σ1 206 4 = 0 then -1000002 else bt (raP (σ1 206)) (mn (σ1 206))) ∧ ∀ (a : Nat → Int) (b : Nat → Int) (z : Int), Rel (if σ1 206 4 = 0 then σ1 else us (us (us σ1 212 a) 210 b) 202 (uf (σ1 202) 20 z)) := by
  subst h1
  have hR1 : Rel (us (us (us σ 24 T_) 9 A_) 10 S_) := by have hR1 := hR; (repeat' split) <;> first | exact hR | (exact Rel_s hR1 (by intros; simp only [up, us]; (repeat' split) <;> first | rfl | (exfalso; omega)) (by intro j hj; rcases hj with rfl | rfl | rfl <;> rfl) (by intro j hj; rcases hj with rfl | rfl | rfl | rfl | rfl <;> rfl) (by exact hR1.2.2.2.2.1.1))
  exact ⟨hR1.o206, hR1.1.2.2.2.1, (e_rather hR ), (by intros; (repeat' split) <;> first | exact hR1 | (exact Rel_s hR1 (by intros; simp only [up, us]; (repeat' split) <;> first | rfl | (exfalso; omega)) (by intro j hj; rcases hj with rfl | rfl | rfl <;> rfl) (by intro j hj; rcases hj with rfl | rfl | rfl | rfl | rfl <;> rfl) (by exact hR1.2.2.2.2.1.1)))⟩

theorem e_trueRule {σ : Sg} (hR : Rel σ)  : (if σ 18 4 = 0 then -1000002 else mfd (trP (σ 18)) 4) = (if σ 206 4 = 0 then -1000002 else mfd (trP (σ 206)) 4) := by
  have q := hR.1.1
  have e4 := hR.e18
  have f4 := hR.f4
  rw [e4]
  by_cases hb : σ 206 4 = 0
  · rw [if_pos hb, if_pos hb]
  · rw [if_neg hb, if_neg hb]
    have hok : okV (σ 206) := hR.o206.resolve_left (by omega)
    exact mfd_congr (eqR_trP q hok) 4
theorem q_trueRule {σ σ1 : Sg} (hR : Rel σ)  (T_ : Nat → Int) (S_ : Nat → Int) (h1 : σ1 = (us (us σ 24 T_) 10 S_)) : (σ1 206 4 = 0 ∨ okV (σ1 206)) ∧ (σ1 202 4 = if σ1 206 4 = 0 then 0 else 1) ∧ (if σ 18 4 = 0 then -1000002 else mfd (trP (σ 18)) 4) = (if σ1 206 4 = 0 then -1000002 else mfd (trP (σ1 206)) 4) ∧ ∀ (g : Nat → Int), Rel (if σ1 206 4 = 0 then σ1 else us (us σ1 212 (σ1 206)) 210 g) := by
  subst h1
  have hR1 : Rel (us (us σ 24 T_) 10 S_) := by have hR1 := hR; (repeat' split) <;> first | exact hR | (exact Rel_s hR1 (by intros; simp only [up, us]; (repeat' split) <;> first | rfl | (exfalso; omega)) (by intro j hj; rcases hj with rfl | rfl | rfl <;> rfl) (by intro j hj; rcases hj with rfl | rfl | rfl | rfl | rfl <;> rfl) (by exact hR1.2.2.2.2.1.1))
  exact ⟨hR1.o206, hR1.1.2.2.2.1, (e_trueRule hR ), (by intros; (repeat' split) <;> first | exact hR1 | (exact Rel_s hR1 (by intros; simp only [up, us]; (repeat' split) <;> first | rfl | (exfalso; omega)) (by intro j hj; rcases hj with rfl | rfl | rfl <;> rfl) (by intro j hj; rcases hj with rfl | rfl | rfl | rfl | rfl <;> rfl) (by exact hR1.2.2.2.2.1.1)))⟩

theorem e_order {σ : Sg} (hR : Rel σ) (z_ : Int) (k_ : Int) : (if σ 18 4 = 0 then -1000002 else if ¬ (1 ≤ z_ ∧ z_ ≤ 24) ∨ ¬ (-1 ≤ k_ ∧ k_ ≤ 3) then -1000001 else if k_ < 0 then om (σ 18) z_.toNat 256 else if k_ < σ 18 4 then rs ((ob (σ 18) z_.toNat 256 : Nat) : Int) (mn (σ 18) - 1 - k_.toNat) % 4 else -1000000) = (if σ 206 4 = 0 then -1000002 else if ¬ (1 ≤ z_ ∧ z_ ≤ 24) ∨ ¬ (-1 ≤ k_ ∧ k_ ≤ 3) then -1000001 else if k_ < 0 then om (σ 206) z_.toNat 256 else if k_ < σ 206 4 then rs ((ob (σ 206) z_.toNat 256 : Nat) : Int) (mn (σ 206) - 1 - k_.toNat) % 4 else -1000000) := by
  have q := hR.1.1
  have e4 := hR.e18
  have f4 := hR.f4
  have hm := hR.1.2.2.1
  rw [e4]
  by_cases hb : σ 206 4 = 0
  · rw [if_pos hb, if_pos hb]
  · rw [if_neg hb, if_neg hb]
    have hok : okV (σ 206) := hR.o206.resolve_left (by omega)
    by_cases hb : ¬ (1 ≤ z_ ∧ z_ ≤ 24) ∨ ¬ (-1 ≤ k_ ∧ k_ ≤ 3)
    · rw [if_pos hb, if_pos hb]
    · rw [if_neg hb, if_neg hb]
      have ho := eqR_om q hok (n := z_.toNat) (by omega) (r := 256) (by omega)
      rw [ho.1, ho.2, eqR_mn q]
theorem q_order {σ σ1 : Sg} (hR : Rel σ) (z_ : Int) (k_ : Int) (T_ : Nat → Int) (H_ : Nat → Int) (B_ : Nat → Int) (h1 : σ1 = (us (us (us σ 24 T_) 11 H_) 12 B_)) : (σ1 206 4 = 0 ∨ okV (σ1 206)) ∧ (σ1 202 4 = if σ1 206 4 = 0 then 0 else 1) ∧ (σ1 206 5 ≤ 999) ∧ (if σ 18 4 = 0 then -1000002 else if ¬ (1 ≤ z_ ∧ z_ ≤ 24) ∨ ¬ (-1 ≤ k_ ∧ k_ ≤ 3) then -1000001 else if k_ < 0 then om (σ 18) z_.toNat 256 else if k_ < σ 18 4 then rs ((ob (σ 18) z_.toNat 256 : Nat) : Int) (mn (σ 18) - 1 - k_.toNat) % 4 else -1000000) = (if σ1 206 4 = 0 then -1000002 else if ¬ (1 ≤ z_ ∧ z_ ≤ 24) ∨ ¬ (-1 ≤ k_ ∧ k_ ≤ 3) then -1000001 else if k_ < 0 then om (σ1 206) z_.toNat 256 else if k_ < σ1 206 4 then rs ((ob (σ1 206) z_.toNat 256 : Nat) : Int) (mn (σ1 206) - 1 - k_.toNat) % 4 else -1000000) ∧ ∀ (g : Nat → Int), Rel (if σ1 206 4 = 0 then σ1 else if ¬ (1 ≤ z_ ∧ z_ ≤ 24) ∨ ¬ (-1 ≤ k_ ∧ k_ ≤ 3) then σ1 else us (us σ1 212 (σ1 206)) 213 g) := by
  subst h1
  have hR1 : Rel (us (us (us σ 24 T_) 11 H_) 12 B_) := by have hR1 := hR; (repeat' split) <;> first | exact hR | (exact Rel_s hR1 (by intros; simp only [up, us]; (repeat' split) <;> first | rfl | (exfalso; omega)) (by intro j hj; rcases hj with rfl | rfl | rfl <;> rfl) (by intro j hj; rcases hj with rfl | rfl | rfl | rfl | rfl <;> rfl) (by exact hR1.2.2.2.2.1.1))
  exact ⟨hR1.o206, hR1.1.2.2.2.1, hR1.1.2.2.1, (e_order hR z_ k_), (by intros; (repeat' split) <;> first | exact hR1 | (exact Rel_s hR1 (by intros; simp only [up, us]; (repeat' split) <;> first | rfl | (exfalso; omega)) (by intro j hj; rcases hj with rfl | rfl | rfl <;> rfl) (by intro j hj; rcases hj with rfl | rfl | rfl | rfl | rfl <;> rfl) (by exact hR1.2.2.2.2.1.1)))⟩

theorem e_ahead {σ : Sg} (hR : Rel σ) (z_ : Int) (w_ : Int) : (if σ 18 4 = 0 then -1000002 else if ¬ (0 ≤ z_ ∧ z_ ≤ 60) ∨ ¬ (0 ≤ w_ ∧ w_ ≤ 1) then -1000001 else if w_ = 0 then itf mon z_.toNat (σ 18) 1 else brk (itf mon z_.toNat (σ 18))) = (if σ 206 4 = 0 then -1000002 else if ¬ (0 ≤ z_ ∧ z_ ≤ 60) ∨ ¬ (0 ≤ w_ ∧ w_ ≤ 1) then -1000001 else if w_ = 0 then itf mon z_.toNat (σ 206) 1 else brk (itf mon z_.toNat (σ 206))) := by
  have q := hR.1.1
  have e4 := hR.e18
  have f4 := hR.f4
  have hm := hR.1.2.2.1
  rw [e4]
  by_cases hb : σ 206 4 = 0
  · rw [if_pos hb, if_pos hb]
  · rw [if_neg hb, if_neg hb]
    have hok : okV (σ 206) := hR.o206.resolve_left (by omega)
    by_cases hb : ¬ (0 ≤ z_ ∧ z_ ≤ 60) ∨ ¬ (0 ≤ w_ ∧ w_ ≤ 1)
    · rw [if_pos hb, if_pos hb]
    · rw [if_neg hb, if_neg hb]
      have hi := eqR_it q hok (n := z_.toNat) (by omega)
      have hv := eqR_okV hi (okV_it hok (n := z_.toNat) (by omega)).1
      rw [eqR_hd hi 1 (by omega), eqR_brk hi hv.1.2]
theorem q_ahead {σ σ1 : Sg} (hR : Rel σ) (z_ : Int) (w_ : Int) (T_ : Nat → Int) (h1 : σ1 = (us σ 24 T_)) : (σ1 206 4 = 0 ∨ okV (σ1 206)) ∧ (σ1 202 4 = if σ1 206 4 = 0 then 0 else 1) ∧ (σ1 206 5 ≤ 999) ∧ (if σ 18 4 = 0 then -1000002 else if ¬ (0 ≤ z_ ∧ z_ ≤ 60) ∨ ¬ (0 ≤ w_ ∧ w_ ≤ 1) then -1000001 else if w_ = 0 then itf mon z_.toNat (σ 18) 1 else brk (itf mon z_.toNat (σ 18))) = (if σ1 206 4 = 0 then -1000002 else if ¬ (0 ≤ z_ ∧ z_ ≤ 60) ∨ ¬ (0 ≤ w_ ∧ w_ ≤ 1) then -1000001 else if w_ = 0 then itf mon z_.toNat (σ1 206) 1 else brk (itf mon z_.toNat (σ1 206))) ∧ Rel (if σ1 206 4 = 0 then σ1 else if ¬ (0 ≤ z_ ∧ z_ ≤ 60) ∨ ¬ (0 ≤ w_ ∧ w_ ≤ 1) then σ1 else us σ1 212 (σ1 206)) := by
  subst h1
  have hR1 : Rel (us σ 24 T_) := by have hR1 := hR; (repeat' split) <;> first | exact hR | (exact Rel_s hR1 (by intros; simp only [up, us]; (repeat' split) <;> first | rfl | (exfalso; omega)) (by intro j hj; rcases hj with rfl | rfl | rfl <;> rfl) (by intro j hj; rcases hj with rfl | rfl | rfl | rfl | rfl <;> rfl) (by exact hR1.2.2.2.2.1.1))
  exact ⟨hR1.o206, hR1.1.2.2.2.1, hR1.1.2.2.1, (e_ahead hR z_ w_), (by (repeat' split) <;> first | exact hR1 | (exact Rel_s hR1 (by intros; simp only [up, us]; (repeat' split) <;> first | rfl | (exfalso; omega)) (by intro j hj; rcases hj with rfl | rfl | rfl <;> rfl) (by intro j hj; rcases hj with rfl | rfl | rfl | rfl | rfl <;> rfl) (by exact hR1.2.2.2.2.1.1)))⟩

theorem e_down {σ : Sg} (hR : Rel σ) (z_ : Int) : (if σ 18 4 = 0 then -1000002 else if ¬ (1 ≤ z_ ∧ z_ ≤ 99) then -1000001 else dw (σ 18) z_ 61 0) = (if σ 206 4 = 0 then -1000002 else if ¬ (1 ≤ z_ ∧ z_ ≤ 99) then -1000001 else dw (σ 206) z_ 61 0) := by
  have q := hR.1.1
  have e4 := hR.e18
  have f4 := hR.f4
  have hm := hR.1.2.2.1
  rw [e4]
  by_cases hb : σ 206 4 = 0
  · rw [if_pos hb, if_pos hb]
  · rw [if_neg hb, if_neg hb]
    have hok : okV (σ 206) := hR.o206.resolve_left (by omega)
    rw [eqR_dw q hok z_ 61 0 (by omega)]
theorem q_down {σ σ1 : Sg} (hR : Rel σ) (z_ : Int) (T_ : Nat → Int) (h1 : σ1 = (us σ 24 T_)) : (σ1 206 4 = 0 ∨ okV (σ1 206)) ∧ (σ1 202 4 = if σ1 206 4 = 0 then 0 else 1) ∧ (σ1 206 5 ≤ 999) ∧ (if σ 18 4 = 0 then -1000002 else if ¬ (1 ≤ z_ ∧ z_ ≤ 99) then -1000001 else dw (σ 18) z_ 61 0) = (if σ1 206 4 = 0 then -1000002 else if ¬ (1 ≤ z_ ∧ z_ ≤ 99) then -1000001 else dw (σ1 206) z_ 61 0) ∧ Rel (if σ1 206 4 = 0 then σ1 else if ¬ (1 ≤ z_ ∧ z_ ≤ 99) then σ1 else us σ1 212 (σ1 206)) := by
  subst h1
  have hR1 : Rel (us σ 24 T_) := by have hR1 := hR; (repeat' split) <;> first | exact hR | (exact Rel_s hR1 (by intros; simp only [up, us]; (repeat' split) <;> first | rfl | (exfalso; omega)) (by intro j hj; rcases hj with rfl | rfl | rfl <;> rfl) (by intro j hj; rcases hj with rfl | rfl | rfl | rfl | rfl <;> rfl) (by exact hR1.2.2.2.2.1.1))
  exact ⟨hR1.o206, hR1.1.2.2.2.1, hR1.1.2.2.1, (e_down hR z_), (by (repeat' split) <;> first | exact hR1 | (exact Rel_s hR1 (by intros; simp only [up, us]; (repeat' split) <;> first | rfl | (exfalso; omega)) (by intro j hj; rcases hj with rfl | rfl | rfl <;> rfl) (by intro j hj; rcases hj with rfl | rfl | rfl | rfl | rfl <;> rfl) (by exact hR1.2.2.2.2.1.1)))⟩

theorem e_drawn {σ : Sg} (hR : Rel σ) (z_ : Int) (s_ : Int) (w_ : Int) : (if σ 18 4 = 0 then -1000002 else if ¬ (0 ≤ z_ ∧ z_ ≤ 60) ∨ ¬ (1 ≤ s_ ∧ s_ ≤ 999999) ∨ ¬ (0 ≤ w_ ∧ w_ ≤ 1) then -1000001 else if w_ = 0 then drf (σ 18) s_ z_.toNat 1 else brk (drf (σ 18) s_ z_.toNat)) = (if σ 206 4 = 0 then -1000002 else if ¬ (0 ≤ z_ ∧ z_ ≤ 60) ∨ ¬ (1 ≤ s_ ∧ s_ ≤ 999999) ∨ ¬ (0 ≤ w_ ∧ w_ ≤ 1) then -1000001 else if w_ = 0 then drf (σ 206) s_ z_.toNat 1 else brk (drf (σ 206) s_ z_.toNat)) := by
  have q := hR.1.1
  have e4 := hR.e18
  have f4 := hR.f4
  have hm := hR.1.2.2.1
  rw [e4]
  by_cases hb : σ 206 4 = 0
  · rw [if_pos hb, if_pos hb]
  · rw [if_neg hb, if_neg hb]
    have hok : okV (σ 206) := hR.o206.resolve_left (by omega)
    by_cases hb : ¬ (0 ≤ z_ ∧ z_ ≤ 60) ∨ ¬ (1 ≤ s_ ∧ s_ ≤ 999999) ∨ ¬ (0 ≤ w_ ∧ w_ ≤ 1)
    · rw [if_pos hb, if_pos hb]
    · rw [if_neg hb, if_neg hb]
      have hi := eqR_drf q hok (s := s_) (by omega) (n := z_.toNat) (by omega)
      have hv := eqR_okV hi (okV_drf hok (seed := s_) (by omega) (n := z_.toNat) (by omega)).1
      rw [eqR_hd hi 1 (by omega), eqR_brk hi hv.1.2]
theorem q_drawn {σ σ1 : Sg} (hR : Rel σ) (z_ : Int) (s_ : Int) (w_ : Int) (T_ : Nat → Int) (h1 : σ1 = (us σ 24 T_)) : (σ1 206 4 = 0 ∨ okV (σ1 206)) ∧ (σ1 202 4 = if σ1 206 4 = 0 then 0 else 1) ∧ (σ1 206 5 ≤ 999) ∧ (if σ 18 4 = 0 then -1000002 else if ¬ (0 ≤ z_ ∧ z_ ≤ 60) ∨ ¬ (1 ≤ s_ ∧ s_ ≤ 999999) ∨ ¬ (0 ≤ w_ ∧ w_ ≤ 1) then -1000001 else if w_ = 0 then drf (σ 18) s_ z_.toNat 1 else brk (drf (σ 18) s_ z_.toNat)) = (if σ1 206 4 = 0 then -1000002 else if ¬ (0 ≤ z_ ∧ z_ ≤ 60) ∨ ¬ (1 ≤ s_ ∧ s_ ≤ 999999) ∨ ¬ (0 ≤ w_ ∧ w_ ≤ 1) then -1000001 else if w_ = 0 then drf (σ1 206) s_ z_.toNat 1 else brk (drf (σ1 206) s_ z_.toNat)) ∧ Rel (if σ1 206 4 = 0 then σ1 else if ¬ (0 ≤ z_ ∧ z_ ≤ 60) ∨ ¬ (1 ≤ s_ ∧ s_ ≤ 999999) ∨ ¬ (0 ≤ w_ ∧ w_ ≤ 1) then σ1 else us σ1 212 (σ1 206)) := by
  subst h1
  have hR1 : Rel (us σ 24 T_) := by have hR1 := hR; (repeat' split) <;> first | exact hR | (exact Rel_s hR1 (by intros; simp only [up, us]; (repeat' split) <;> first | rfl | (exfalso; omega)) (by intro j hj; rcases hj with rfl | rfl | rfl <;> rfl) (by intro j hj; rcases hj with rfl | rfl | rfl | rfl | rfl <;> rfl) (by exact hR1.2.2.2.2.1.1))
  exact ⟨hR1.o206, hR1.1.2.2.2.1, hR1.1.2.2.1, (e_drawn hR z_ s_ w_), (by (repeat' split) <;> first | exact hR1 | (exact Rel_s hR1 (by intros; simp only [up, us]; (repeat' split) <;> first | rfl | (exfalso; omega)) (by intro j hj; rcases hj with rfl | rfl | rfl <;> rfl) (by intro j hj; rcases hj with rfl | rfl | rfl | rfl | rfl <;> rfl) (by exact hR1.2.2.2.2.1.1)))⟩

theorem e_odds {σ : Sg} (hR : Rel σ) (h_ : Int) (p_ : Int) (w_ : Int) : (if ¬ (0 ≤ h_ ∧ h_ ≤ σ 18 4 - 1) ∨ ¬ (0 ≤ p_ ∧ p_ ≤ 10) ∨ ¬ (0 ≤ w_ ∧ w_ ≤ 1) then -1000001 else oddsR (σ 18) p_ h_.toNat w_) = (if ¬ (0 ≤ h_ ∧ h_ ≤ σ 206 4 - 1) ∨ ¬ (0 ≤ p_ ∧ p_ ≤ 10) ∨ ¬ (0 ≤ w_ ∧ w_ ≤ 1) then -1000001 else oddsR (σ 206) p_ h_.toNat w_) := by
  have q := hR.1.1
  have e4 := hR.e18
  have f4 := hR.f4
  rw [e4]
  by_cases hb : ¬ (0 ≤ h_ ∧ h_ ≤ σ 206 4 - 1) ∨ ¬ (0 ≤ p_ ∧ p_ ≤ 10) ∨ ¬ (0 ≤ w_ ∧ w_ ≤ 1)
  · rw [if_pos hb, if_pos hb]
  · rw [if_neg hb, if_neg hb]
    have hok : okV (σ 206) := hR.o206.resolve_left (by omega)
    exact eqR_odds q hok p_ w_
theorem q_odds {σ σ1 : Sg} (hR : Rel σ) (h_ : Int) (p_ : Int) (w_ : Int) (T_ : Nat → Int) (S_ : Nat → Int) (h1 : σ1 = (us (us σ 24 T_) 10 S_)) : (σ1 206 4 = 0 ∨ okV (σ1 206)) ∧ (if ¬ (0 ≤ h_ ∧ h_ ≤ σ 18 4 - 1) ∨ ¬ (0 ≤ p_ ∧ p_ ≤ 10) ∨ ¬ (0 ≤ w_ ∧ w_ ≤ 1) then -1000001 else oddsR (σ 18) p_ h_.toNat w_) = (if ¬ (0 ≤ h_ ∧ h_ ≤ σ1 206 4 - 1) ∨ ¬ (0 ≤ p_ ∧ p_ ≤ 10) ∨ ¬ (0 ≤ w_ ∧ w_ ≤ 1) then -1000001 else oddsR (σ1 206) p_ h_.toNat w_) ∧ ∀ (g : Nat → Int), Rel (if ¬ (0 ≤ h_ ∧ h_ ≤ σ1 206 4 - 1) ∨ ¬ (0 ≤ p_ ∧ p_ ≤ 10) ∨ ¬ (0 ≤ w_ ∧ w_ ≤ 1) then σ1 else us (us σ1 212 (σ1 206)) 210 g) := by
  subst h1
  have hR1 : Rel (us (us σ 24 T_) 10 S_) := by have hR1 := hR; (repeat' split) <;> first | exact hR | (exact Rel_s hR1 (by intros; simp only [up, us]; (repeat' split) <;> first | rfl | (exfalso; omega)) (by intro j hj; rcases hj with rfl | rfl | rfl <;> rfl) (by intro j hj; rcases hj with rfl | rfl | rfl | rfl | rfl <;> rfl) (by exact hR1.2.2.2.2.1.1))
  exact ⟨hR1.o206, (e_odds hR h_ p_ w_), (by intros; (repeat' split) <;> first | exact hR1 | (exact Rel_s hR1 (by intros; simp only [up, us]; (repeat' split) <;> first | rfl | (exfalso; omega)) (by intro j hj; rcases hj with rfl | rfl | rfl <;> rfl) (by intro j hj; rcases hj with rfl | rfl | rfl | rfl | rfl <;> rfl) (by exact hR1.2.2.2.2.1.1)))⟩

theorem e_kind {σ : Sg} (hR : Rel σ) (h_ : Int) : (if ¬ (0 ≤ h_ ∧ h_ ≤ σ 18 4 - 1) then -1000001 else σ 18 (8 + h_.toNat)) = (if ¬ (0 ≤ h_ ∧ h_ ≤ σ 206 4 - 1) then -1000001 else σ 206 (8 + h_.toNat)) := by
  have q := hR.1.1
  have e4 := hR.e18
  have f4 := hR.f4
  rw [e4]
  by_cases hb : ¬ (0 ≤ h_ ∧ h_ ≤ σ 206 4 - 1)
  · rw [if_pos hb, if_pos hb]
  · rw [if_neg hb, if_neg hb]
    have hn : h_.toNat < 4 ∧ ((h_.toNat : Nat) : Int) < σ 18 4 := by omega
    exact eqR_at q 8 h_.toNat (by omega) hn.1 hn.2
theorem q_kind {σ σ1 : Sg} (hR : Rel σ) (h_ : Int)  (h1 : σ1 = (σ)) : (σ1 206 4 = 0 ∨ okV (σ1 206)) ∧ (if ¬ (0 ≤ h_ ∧ h_ ≤ σ 18 4 - 1) then -1000001 else σ 18 (8 + h_.toNat)) = (if ¬ (0 ≤ h_ ∧ h_ ≤ σ1 206 4 - 1) then -1000001 else σ1 206 (8 + h_.toNat)) ∧ Rel (σ1) := by
  subst h1
  have hR1 := hR
  exact ⟨hR1.o206, (e_kind hR h_), hR1⟩

theorem e_trace {σ : Sg} (hR : Rel σ) (z_ : Int) : (if 0 ≤ z_ ∧ z_ ≤ σ 5 1 - 1 then σ 6 z_.toNat else -1000000) = (if 0 ≤ z_ ∧ z_ ≤ σ 202 25 - 1 then σ 216 z_.toNat else -1000000) := by
  have h1 := hR.2.2.2.2.2.2
  rw [h1.1, h1.2.1]
theorem q_trace {σ σ1 : Sg} (hR : Rel σ) (z_ : Int)  (h1 : σ1 = (σ)) : (0 ≤ σ1 202 25 ∧ σ1 202 25 ≤ 16) ∧ (if 0 ≤ z_ ∧ z_ ≤ σ 5 1 - 1 then σ 6 z_.toNat else -1000000) = (if 0 ≤ z_ ∧ z_ ≤ σ1 202 25 - 1 then σ1 216 z_.toNat else -1000000) ∧ Rel (σ1) := by
  subst h1
  have hR1 := hR
  exact ⟨hR1.2.2.2.2.2.2.2.2, (e_trace hR z_), hR1⟩

theorem e_count {σ : Sg} (hR : Rel σ) (z_ : Int) : (if z_ = 0 then sm (fun k => if σ (30 + 2 * k) 1 = -1 then 0 else 1) 8 else if z_ = 1 then σ 18 4 else if z_ = 2 then σ 18 0 else if z_ = 3 then σ 18 2 else if z_ = 4 then σ 18 3 else if z_ = 5 then σ 18 5 else if z_ = 6 then brk (σ 18) else if z_ = 7 then σ 0 8 else if z_ = 8 then σ 2 1 else -1000001) = (if z_ = 0 then sm (fun k => if 0 ≤ σ 204 k then 1 else 0) 8 else if z_ = 1 then σ 206 4 else if z_ = 2 then σ 206 0 else if z_ = 3 then σ 206 2 else if z_ = 4 then σ 206 3 else if z_ = 5 then σ 206 5 else if z_ = 6 then brk (σ 206) else if z_ = 7 then σ 202 18 else if z_ = 8 then σ 202 8 else -1000001) := by
  have q := hR.1.1
  have e4 := hR.e18
  have f4 := hR.f4
  have hb := hR.2.1.1.1
  have hl := hR.2.2.2.2.2.1.2.1
  have hs : sm (fun k => if σ (30 + 2 * k) 1 = -1 then 0 else 1) 8 = sm (fun k => if 0 ≤ σ 204 k then 1 else 0) 8 := sm_congr (fun k hk => by have hd := hR.2.2.2.1 k hk; unfold RDr at hd; (repeat' split) <;> omega)
  rw [hs, e4, eqR_hd q 0 (by omega), eqR_hd q 2 (by omega), eqR_hd q 3 (by omega), eqR_hd q 5 (by omega), eqR_brk q (by omega), hb, hl]
theorem q_count {σ σ1 : Sg} (hR : Rel σ) (z_ : Int)  (h1 : σ1 = (σ)) : (σ1 206 4 = 0 ∨ okV (σ1 206)) ∧ (∀ k, k < 8 → -1 ≤ σ1 204 k ∧ σ1 204 k ≤ 40) ∧ (0 ≤ σ1 202 8 ∧ σ1 202 8 ≤ 100) ∧ (if z_ = 0 then sm (fun k => if σ (30 + 2 * k) 1 = -1 then 0 else 1) 8 else if z_ = 1 then σ 18 4 else if z_ = 2 then σ 18 0 else if z_ = 3 then σ 18 2 else if z_ = 4 then σ 18 3 else if z_ = 5 then σ 18 5 else if z_ = 6 then brk (σ 18) else if z_ = 7 then σ 0 8 else if z_ = 8 then σ 2 1 else -1000001) = (if z_ = 0 then sm (fun k => if 0 ≤ σ1 204 k then 1 else 0) 8 else if z_ = 1 then σ1 206 4 else if z_ = 2 then σ1 206 0 else if z_ = 3 then σ1 206 2 else if z_ = 4 then σ1 206 3 else if z_ = 5 then σ1 206 5 else if z_ = 6 then brk (σ1 206) else if z_ = 7 then σ1 202 18 else if z_ = 8 then σ1 202 8 else -1000001) ∧ Rel (σ1) := by
  subst h1
  have hR1 := hR
  exact ⟨hR1.o206, hR1.msz, hR1.by8, (e_count hR z_), hR1⟩
