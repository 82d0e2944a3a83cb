
theorem RDr_up {σ τ : Sg} {r : Nat} (h : RDr σ r) (e1 : τ 203 r = σ 203 r) (e2 : τ 204 r = σ 204 r) (eC : τ (30 + 2 * r) = σ (30 + 2 * r)) (hI : ∀ j, j < 40 → (τ (30 + 2 * r + 1) j = σ (30 + 2 * r + 1) j ∧ τ 205 (40 * r + j) = σ 205 (40 * r + j)) ∨ (τ (30 + 2 * r + 1) j = τ 205 (40 * r + j) ∧ -2147483648 ≤ τ 205 (40 * r + j) ∧ τ 205 (40 * r + j) < 2147483648)) : RDr τ r := by
  obtain ⟨h1, h2, h3, h4⟩ := h
  unfold RDr
  rw [e1, e2, eC]
  refine ⟨?_, h2, h3, fun j hj => ?_⟩
  · rcases h1 with h1 | ⟨a1, a2, a3, a4, a5⟩
    · exact Or.inl h1
    · refine Or.inr ⟨a1, a2, a3, a4, fun i hi => ?_⟩
      rcases hI i (by omega) with ⟨q1, q2⟩ | ⟨q1, -⟩
      · rw [q1, q2]; exact a5 i hi
      · exact q1
  · have hr := h4 j hj
    rcases hI j hj with ⟨q1, q2⟩ | ⟨q1, q2⟩
    · rw [q1, q2]; exact hr
    · rw [q1]; exact ⟨q2, q2⟩
theorem q_set {σ σ1 : Sg} (hR : Rel σ) (r_ : Int) (i_ : Int) (v_ : Int)  (hfit : -2147483648 ≤ fitI (σ 203 r_.toNat) v_ ∧ fitI (σ 203 r_.toNat) v_ < 2147483648) (h1 : σ1 = (if ¬ (0 ≤ r_ ∧ r_ ≤ 7) then σ else if σ (30 + 2 * r_.toNat) 1 = -1 then up σ 0 15 1 else if ¬ (0 ≤ i_ ∧ i_ ≤ σ (30 + 2 * r_.toNat) 2 - 1) then up σ 0 15 2 else up (up σ (30 + 2 * r_.toNat + 1) i_.toNat (fitI (σ (30 + 2 * r_.toNat) 1) v_)) 0 15 0)) : (∀ k, k < 8 → -1 ≤ σ1 204 k ∧ σ1 204 k ≤ 40) ∧ (∀ k, k < 8 → -1 ≤ σ1 203 k ∧ σ1 203 k ≤ 2) ∧ (if ¬ (0 ≤ r_ ∧ r_ ≤ 7) then -1000001 else if σ (30 + 2 * r_.toNat) 1 = -1 then -1000011 else if ¬ (0 ≤ i_ ∧ i_ ≤ σ (30 + 2 * r_.toNat) 2 - 1) then -1000012 else fitI (σ (30 + 2 * r_.toNat) 1) v_) = (if ¬ (0 ≤ r_ ∧ r_ ≤ 7) then -1000001 else if σ1 204 r_.toNat < 0 then -1000011 else if ¬ (0 ≤ i_ ∧ i_ ≤ σ1 204 r_.toNat - 1) then -1000012 else fitI (σ1 203 r_.toNat) v_) ∧ Rel (if ¬ (0 ≤ r_ ∧ r_ ≤ 7) then σ1 else if σ1 204 r_.toNat < 0 then up σ1 202 3 1 else if ¬ (0 ≤ i_ ∧ i_ ≤ σ1 204 r_.toNat - 1) then up σ1 202 3 2 else up (up σ1 205 (40 * r_.toNat + i_.toNat) (fitI (σ1 203 r_.toNat) v_)) 202 3 0) := by
  have hrng : True := trivial
  have m : ∀ c, 202 ≤ c → σ1 c = σ c := fun c hc => by rw [h1]; (repeat' split) <;> first | rfl | (simp only [up, us]; (repeat' split) <;> first | rfl | (exfalso; omega))
  refine ⟨(by rw [m 204 (by omega)]; exact hR.msz), (by rw [m 203 (by omega)]; exact hR.mla), ?_⟩
  rw [m 204 (by omega), m 203 (by omega)]
  by_cases hb : ¬ (0 ≤ r_ ∧ r_ ≤ 7)
  · rw [if_pos hb] at h1
    refine ⟨by first | rw [if_pos hb, if_pos hb] | rw [if_pos hb], ?_⟩
    rw [if_pos hb, h1]
    exact hR
  · have hd0 := hR.2.2.2.1 r_.toNat (by omega)
    have hd := hd0.1
    rcases hd with ⟨a1, a2⟩ | ⟨a1, a2, a3, a4, a5⟩
    · rw [if_neg hb, if_pos a2] at h1
      refine ⟨by rw [if_neg hb, if_pos a2, if_neg hb, if_pos (show σ 204 r_.toNat < 0 by omega)], ?_⟩
      rw [if_neg hb, if_pos (show σ 204 r_.toNat < 0 by omega), h1]
      exact Rel_s hR (by intros; simp only [up, us]; (repeat' split) <;> first | rfl | (exfalso; omega)) (by intro j hj; rcases hj with rfl | rfl | rfl <;> rfl) (by intro j hj; rcases hj with rfl | rfl | rfl | rfl | rfl <;> rfl) rfl
    · have hnm : ¬ σ (30 + 2 * r_.toNat) 1 = -1 := by omega
      have hnm2 : ¬ σ 204 r_.toNat < 0 := by omega
      rw [a4] at h1 ⊢
      rw [if_neg hb, if_neg hnm] at h1
      by_cases hi : ¬ (0 ≤ i_ ∧ i_ ≤ σ 204 r_.toNat - 1)
      · rw [if_pos hi] at h1
        refine ⟨by rw [if_neg hb, if_neg hnm, if_pos hi, if_neg hb, if_neg hnm2, if_pos hi], ?_⟩
        rw [if_neg hb, if_neg hnm2, if_pos hi, h1]
        exact Rel_s hR (by intros; simp only [up, us]; (repeat' split) <;> first | rfl | (exfalso; omega)) (by intro j hj; rcases hj with rfl | rfl | rfl <;> rfl) (by intro j hj; rcases hj with rfl | rfl | rfl | rfl | rfl <;> rfl) rfl
      · rw [if_neg hi, a3] at h1
        refine ⟨by rw [if_neg hb, if_neg hnm, if_neg hi, if_neg hb, if_neg hnm2, if_neg hi, a3], ?_⟩
        rw [if_neg hb, if_neg hnm2, if_neg hi]
        have hv := hfit
        refine Rel_z (fun z hZ => ?_)
        have z0 : z 0 = uf (σ 0) 15 0 := by rw [hZ, h1]; simp (disch := omega) only [us_ne, us_eq]
        have z2 : z 202 = uf (σ 202) 3 0 := by rw [hZ, h1]; simp (disch := omega) only [us_ne, us_eq]
        have z205 : z 205 = uf (σ 205) (40 * r_.toNat + i_.toNat) (fitI (σ 203 r_.toNat) v_) := by rw [hZ, h1]; simp (disch := omega) only [us_ne, us_eq]
        have zi : z (30 + 2 * r_.toNat + 1) = uf (σ (30 + 2 * r_.toNat + 1)) i_.toNat (fitI (σ 203 r_.toNat) v_) := by rw [hZ, h1]; simp (disch := omega) only [us_ne, us_eq]
        have zc : ∀ c, c ≠ 0 ∧ c ≠ 202 ∧ c ≠ 205 ∧ c ≠ (30 + 2 * r_.toNat + 1) → z c = σ c := fun c hc => by rw [hZ, h1]; simp (disch := omega) only [us_ne, us_eq]
        refine Rel_d hR (fun k hk => ?_) (fun c q1 q2 q3 q4 q5 q6 q7 => zc c (by omega)) (fun j hj => by rw [z0, uf_ne _ _ (by omega)]) (fun j hj => by rw [z2, uf_ne _ _ (by omega)]) (by rw [z0, z2, uf_eq, uf_eq])
        by_cases hkr : k = r_.toNat
        · subst hkr
          refine RDr_up hd0 (by rw [zc 203 (by omega)]) (by rw [zc 204 (by omega)]) (zc _ (by omega)) (fun j hj => ?_)
          by_cases hji : j = i_.toNat
          · right; subst hji; rw [zi, z205, uf_eq, uf_eq]; exact ⟨rfl, hv⟩
          · left; rw [zi, z205, uf_ne _ _ hji, uf_ne _ _ (by omega)]; exact ⟨rfl, rfl⟩
        · exact RDr_c (hR.2.2.2.1 k hk) (by rw [zc 203 (by omega)]) (by rw [zc 204 (by omega)]) (fun j hj => by rw [z205, uf_ne _ _ (by omega)]) (zc _ (by omega)) (zc _ (by omega))
theorem q_drop {σ σ1 : Sg} (hR : Rel σ) (r_ : Int)  (h1 : σ1 = (if ¬ (0 ≤ r_ ∧ r_ ≤ 7) then σ else if σ (30 + 2 * r_.toNat) 1 = -1 then up σ 0 15 1 else up (up (up σ (30 + 2 * r_.toNat) 1 (-1)) (30 + 2 * r_.toNat) 2 0) 0 15 0)) : (∀ k, k < 8 → -1 ≤ σ1 204 k ∧ σ1 204 k ≤ 40) ∧ (if ¬ (0 ≤ r_ ∧ r_ ≤ 7) then -1000001 else if σ (30 + 2 * r_.toNat) 1 = -1 then -1000011 else σ (30 + 2 * r_.toNat) 2) = (if ¬ (0 ≤ r_ ∧ r_ ≤ 7) then -1000001 else if σ1 204 r_.toNat < 0 then -1000011 else σ1 204 r_.toNat) ∧ Rel (if ¬ (0 ≤ r_ ∧ r_ ≤ 7) then σ1 else if σ1 204 r_.toNat < 0 then up σ1 202 3 1 else up (up σ1 204 r_.toNat (-1)) 202 3 0) := by
  have m : ∀ c, 202 ≤ c → σ1 c = σ c := fun c hc => by rw [h1]; (repeat' split) <;> first | rfl | (simp only [up, us]; (repeat' split) <;> first | rfl | (exfalso; omega))
  refine ⟨(by rw [m 204 (by omega)]; exact hR.msz), ?_⟩
  rw [m 204 (by omega)]
  by_cases hb : ¬ (0 ≤ r_ ∧ r_ ≤ 7)
  · rw [if_pos hb] at h1
    refine ⟨by first | rw [if_pos hb, if_pos hb] | rw [if_pos hb], ?_⟩
    rw [if_pos hb, h1]
    exact hR
  · have hd0 := hR.2.2.2.1 r_.toNat (by omega)
    have hd := hd0.1
    rcases hd with ⟨a1, a2⟩ | ⟨a1, a2, a3, a4, a5⟩
    · rw [if_neg hb, if_pos a2] at h1
      refine ⟨by rw [if_neg hb, if_pos a2, if_neg hb, if_pos (show σ 204 r_.toNat < 0 by omega)], ?_⟩
      rw [if_neg hb, if_pos (show σ 204 r_.toNat < 0 by omega), h1]
      exact Rel_s hR (by intros; simp only [up, us]; (repeat' split) <;> first | rfl | (exfalso; omega)) (by intro j hj; rcases hj with rfl | rfl | rfl <;> rfl) (by intro j hj; rcases hj with rfl | rfl | rfl | rfl | rfl <;> rfl) rfl
    · have hnm : ¬ σ (30 + 2 * r_.toNat) 1 = -1 := by omega
      have hnm2 : ¬ σ 204 r_.toNat < 0 := by omega
      rw [if_neg hb, if_neg hnm] at h1
      refine ⟨by rw [if_neg hb, if_neg hnm, if_neg hb, if_neg hnm2]; exact a4, ?_⟩
      rw [if_neg hb, if_neg hnm2]
      refine Rel_z (fun z hZ => ?_)
      have z0 : z 0 = uf (σ 0) 15 0 := by rw [hZ, h1]; simp (disch := omega) only [us_ne, us_eq]
      have z2 : z 202 = uf (σ 202) 3 0 := by rw [hZ, h1]; simp (disch := omega) only [us_ne, us_eq]
      have z204 : z 204 = uf (σ 204) r_.toNat (-1) := by rw [hZ, h1]; simp (disch := omega) only [us_ne, us_eq]
      have zo : z (30 + 2 * r_.toNat) = uf (uf (σ (30 + 2 * r_.toNat)) 1 (-1)) 2 0 := by rw [hZ, h1]; simp (disch := omega) only [us_ne, us_eq]
      have zc : ∀ c, c ≠ 0 ∧ c ≠ 202 ∧ c ≠ 204 ∧ c ≠ (30 + 2 * r_.toNat) → z c = σ c := fun c hc => by rw [hZ, h1]; simp (disch := omega) only [us_ne, us_eq]
      refine Rel_d hR (fun k hk => ?_) (fun c q1 q2 q3 q4 q5 q6 q7 => zc c (by omega)) (fun j hj => by rw [z0, uf_ne _ _ (by omega)]) (fun j hj => by rw [z2, uf_ne _ _ (by omega)]) (by rw [z0, z2, uf_eq, uf_eq])
      by_cases hkr : k = r_.toNat
      · subst hkr
        refine ⟨Or.inl ⟨by rw [z204, uf_eq], by rw [zo, uf_ne _ _ (by omega), uf_eq]⟩, by rw [zo, uf_eq]; omega, by rw [zc 203 (by omega)]; exact hd0.2.2.1, fun j hj => by rw [zc (30 + 2 * r_.toNat + 1) (by omega), zc 205 (by omega)]; exact hd0.2.2.2 j hj⟩
      · exact RDr_c (hR.2.2.2.1 k hk) (by rw [zc 203 (by omega)]) (by rw [z204, uf_ne _ _ hkr]) (fun j hj => by rw [zc 205 (by omega)]) (zc _ (by omega)) (zc _ (by omega))
theorem q_copy {σ σ1 : Sg} (hR : Rel σ) (a_ : Int) (i_ : Int) (b_ : Int) (j_ : Int) (n_ : Int)  (h1 : σ1 = (if ¬ (0 ≤ a_ ∧ a_ ≤ 7) ∨ ¬ (0 ≤ b_ ∧ b_ ≤ 7) then σ else if σ (30 + 2 * a_.toNat) 1 = -1 ∨ σ (30 + 2 * b_.toNat) 1 = -1 then up σ 0 15 1 else if ¬ σ (30 + 2 * a_.toNat) 1 = σ (30 + 2 * b_.toNat) 1 then up σ 0 15 5 else if n_ < 0 ∨ ¬ (0 ≤ i_ ∧ i_ ≤ σ (30 + 2 * a_.toNat) 2 - n_) ∨ ¬ (0 ≤ j_ ∧ j_ ≤ σ (30 + 2 * b_.toNat) 2 - n_) then up σ 0 15 2 else up (us σ (30 + 2 * b_.toNat + 1) (cpo j_.toNat n_.toNat (fun k => σ (30 + 2 * a_.toNat + 1) (i_.toNat + k)) (σ (30 + 2 * b_.toNat + 1)))) 0 15 0)) : (∀ k, k < 8 → -1 ≤ σ1 204 k ∧ σ1 204 k ≤ 40) ∧ (∀ k, k < 8 → -1 ≤ σ1 203 k ∧ σ1 203 k ≤ 2) ∧ (if ¬ (0 ≤ a_ ∧ a_ ≤ 7) ∨ ¬ (0 ≤ b_ ∧ b_ ≤ 7) then -1000001 else if σ (30 + 2 * a_.toNat) 1 = -1 ∨ σ (30 + 2 * b_.toNat) 1 = -1 then -1000011 else if ¬ σ (30 + 2 * a_.toNat) 1 = σ (30 + 2 * b_.toNat) 1 then -1000015 else if n_ < 0 ∨ ¬ (0 ≤ i_ ∧ i_ ≤ σ (30 + 2 * a_.toNat) 2 - n_) ∨ ¬ (0 ≤ j_ ∧ j_ ≤ σ (30 + 2 * b_.toNat) 2 - n_) then -1000012 else n_) = (if ¬ (0 ≤ a_ ∧ a_ ≤ 7) ∨ ¬ (0 ≤ b_ ∧ b_ ≤ 7) then -1000001 else if σ1 204 a_.toNat < 0 ∨ σ1 204 b_.toNat < 0 then -1000011 else if ¬ σ1 203 a_.toNat = σ1 203 b_.toNat then -1000015 else if n_ < 0 ∨ ¬ (0 ≤ i_ ∧ i_ ≤ σ1 204 a_.toNat - n_) ∨ ¬ (0 ≤ j_ ∧ j_ ≤ σ1 204 b_.toNat - n_) then -1000012 else n_) ∧ Rel (if ¬ (0 ≤ a_ ∧ a_ ≤ 7) ∨ ¬ (0 ≤ b_ ∧ b_ ≤ 7) then σ1 else if σ1 204 a_.toNat < 0 ∨ σ1 204 b_.toNat < 0 then up σ1 202 3 1 else if ¬ σ1 203 a_.toNat = σ1 203 b_.toNat then up σ1 202 3 5 else if n_ < 0 ∨ ¬ (0 ≤ i_ ∧ i_ ≤ σ1 204 a_.toNat - n_) ∨ ¬ (0 ≤ j_ ∧ j_ ≤ σ1 204 b_.toNat - n_) then up σ1 202 3 2 else up (us (us σ1 207 (cpy n_.toNat (fun x => σ1 205 (40 * a_.toNat + i_.toNat + x)) (σ1 207))) 205 (cpo (40 * b_.toNat + j_.toNat) n_.toNat (fun x => σ1 205 (40 * a_.toNat + i_.toNat + x)) (σ1 205))) 202 3 0) := by
  have m : ∀ c, 202 ≤ c → σ1 c = σ c := fun c hc => by rw [h1]; (repeat' split) <;> first | rfl | (simp only [up, us]; (repeat' split) <;> first | rfl | (exfalso; omega))
  refine ⟨(by rw [m 204 (by omega)]; exact hR.msz), (by rw [m 203 (by omega)]; exact hR.mla), ?_⟩
  rw [m 204 (by omega), m 203 (by omega)]
  by_cases hb : ¬ (0 ≤ a_ ∧ a_ ≤ 7) ∨ ¬ (0 ≤ b_ ∧ b_ ≤ 7)
  · rw [if_pos hb] at h1
    refine ⟨by first | rw [if_pos hb, if_pos hb] | rw [if_pos hb], ?_⟩
    rw [if_pos hb, h1]
    exact hR
  · have da0 := hR.2.2.2.1 a_.toNat (by omega)
    have db0 := hR.2.2.2.1 b_.toNat (by omega)
    have ha2 := hR.ln a_.toNat (by omega)
    have hb2 := hR.ln b_.toNat (by omega)
    have da := da0.1
    have db := db0.1
    have hmm : (σ (30 + 2 * a_.toNat) 1 = -1 ∨ σ (30 + 2 * b_.toNat) 1 = -1) ↔ (σ 204 a_.toNat < 0 ∨ σ 204 b_.toNat < 0) := by rcases da with ⟨u1, u2⟩ | ⟨u1, u2, u3, u4, -⟩ <;> rcases db with ⟨w1, w2⟩ | ⟨w1, w2, w3, w4, -⟩ <;> omega
    by_cases hn : σ 204 a_.toNat < 0 ∨ σ 204 b_.toNat < 0
    · rw [if_neg hb, if_pos (hmm.mpr hn)] at h1
      refine ⟨by rw [if_neg hb, if_pos (hmm.mpr hn), if_neg hb, if_pos hn], ?_⟩
      rw [if_neg hb, if_pos hn, h1]
      exact Rel_s hR (by intros; simp only [up, us]; (repeat' split) <;> first | rfl | (exfalso; omega)) (by intro j hj; rcases hj with rfl | rfl | rfl <;> rfl) (by intro j hj; rcases hj with rfl | rfl | rfl | rfl | rfl <;> rfl) rfl
    · rcases da with ⟨u1, u2⟩ | ⟨u1, u2, u3, u4, u5⟩
      · exact absurd (Or.inl (by omega)) hn
      rcases db with ⟨w1, w2⟩ | ⟨w1, w2, w3, w4, w5⟩
      · exact absurd (Or.inr (by omega)) hn
      have hn1 : ¬ (σ (30 + 2 * a_.toNat) 1 = -1 ∨ σ (30 + 2 * b_.toNat) 1 = -1) := fun q => hn (hmm.mp q)
      rw [u4, w4] at h1 ⊢
      rw [if_neg hb, if_neg hn1, u3, w3] at h1
      by_cases hl : ¬ σ 203 a_.toNat = σ 203 b_.toNat
      · rw [if_pos hl] at h1
        refine ⟨by rw [if_neg hb, if_neg hn1, u3, w3, if_pos hl, if_neg hb, if_neg hn], ?_⟩
        rw [if_neg hb, if_neg hn, if_pos hl, h1]
        exact Rel_s hR (by intros; simp only [up, us]; (repeat' split) <;> first | rfl | (exfalso; omega)) (by intro j hj; rcases hj with rfl | rfl | rfl <;> rfl) (by intro j hj; rcases hj with rfl | rfl | rfl | rfl | rfl <;> rfl) rfl
      · rw [if_neg hl] at h1
        by_cases hp : n_ < 0 ∨ ¬ (0 ≤ i_ ∧ i_ ≤ σ 204 a_.toNat - n_) ∨ ¬ (0 ≤ j_ ∧ j_ ≤ σ 204 b_.toNat - n_)
        · rw [if_pos hp] at h1
          refine ⟨by rw [if_neg hb, if_neg hn1, u3, w3, if_neg hl, if_pos hp, if_neg hb, if_neg hn], ?_⟩
          rw [if_neg hb, if_neg hn, if_neg hl, if_pos hp, h1]
          exact Rel_s hR (by intros; simp only [up, us]; (repeat' split) <;> first | rfl | (exfalso; omega)) (by intro j hj; rcases hj with rfl | rfl | rfl <;> rfl) (by intro j hj; rcases hj with rfl | rfl | rfl | rfl | rfl <;> rfl) rfl
        · rw [if_neg hp] at h1
          refine ⟨by rw [if_neg hb, if_neg hn1, u3, w3, if_neg hl, if_neg hp, if_neg hb, if_neg hn], ?_⟩
          rw [if_neg hb, if_neg hn, if_neg hl, if_neg hp]
          refine Rel_z (fun z hZ => ?_)
          rw [m 205 (by omega), m 207 (by omega)] at hZ
          have z0 : z 0 = uf (σ 0) 15 0 := by rw [hZ, h1]; simp (disch := omega) only [us_ne, us_eq]
          have z2 : z 202 = uf (σ 202) 3 0 := by rw [hZ, h1]; simp (disch := omega) only [us_ne, us_eq]
          have z205 : z 205 = cpo (40 * b_.toNat + j_.toNat) n_.toNat (fun x => σ 205 (40 * a_.toNat + i_.toNat + x)) (σ 205) := by rw [hZ, h1]; simp (disch := omega) only [us_ne, us_eq]
          have zi : z (30 + 2 * b_.toNat + 1) = cpo j_.toNat n_.toNat (fun k => σ (30 + 2 * a_.toNat + 1) (i_.toNat + k)) (σ (30 + 2 * b_.toNat + 1)) := by rw [hZ, h1]; simp (disch := omega) only [us_ne, us_eq]
          have zc : ∀ c, c ≠ 0 ∧ c ≠ 202 ∧ c ≠ 205 ∧ c ≠ 207 ∧ c ≠ (30 + 2 * b_.toNat + 1) → z c = σ c := fun c hc => by rw [hZ, h1]; simp (disch := omega) only [us_ne, us_eq]
          refine Rel_d hR (fun k hk => ?_) (fun c q1 q2 q3 q4 q5 q6 q7 => zc c (by omega)) (fun j hj => by rw [z0, uf_ne _ _ (by omega)]) (fun j hj => by rw [z2, uf_ne _ _ (by omega)]) (by rw [z0, z2, uf_eq, uf_eq])
          by_cases hkr : k = b_.toNat
          · subst hkr
            refine RDr_up db0 (by rw [zc 203 (by omega)]) (by rw [zc 204 (by omega)]) (zc _ (by omega)) (fun j hj => ?_)
            by_cases hji : j_.toNat ≤ j ∧ j < j_.toNat + n_.toNat
            · right; have hx := u5 (i_.toNat + (j - j_.toNat)) (by omega); have hy := (da0.2.2.2 (i_.toNat + (j - j_.toNat)) (by omega)).2
              have e1 : z (30 + 2 * b_.toNat + 1) j = σ (30 + 2 * a_.toNat + 1) (i_.toNat + (j - j_.toNat)) := by rw [zi]; unfold cpo; rw [if_pos hji]
              have e2 : z 205 (40 * b_.toNat + j) = σ 205 (40 * a_.toNat + (i_.toNat + (j - j_.toNat))) := by rw [z205]; unfold cpo; rw [if_pos (by omega)]; show σ 205 (40 * a_.toNat + i_.toNat + (40 * b_.toNat + j - (40 * b_.toNat + j_.toNat))) = _; rw [show 40 * a_.toNat + i_.toNat + (40 * b_.toNat + j - (40 * b_.toNat + j_.toNat)) = 40 * a_.toNat + (i_.toNat + (j - j_.toNat)) from by omega]
              rw [e1, e2]; exact ⟨hx, hy⟩
            · left; exact ⟨by rw [zi]; unfold cpo; rw [if_neg hji], by rw [z205]; unfold cpo; rw [if_neg (by omega)]⟩
          · exact RDr_c (hR.2.2.2.1 k hk) (by rw [zc 203 (by omega)]) (by rw [zc 204 (by omega)]) (fun j hj => by rw [z205]; unfold cpo; rw [if_neg (by omega)]) (zc _ (by omega)) (zc _ (by omega))