
theorem q_restore {σ σ1 : Sg} (hR : Rel σ) (z_ : Int)  (h1 : σ1 = (if ¬ (0 ≤ z_ ∧ z_ ≤ 1) then σ else if σ (46 + 6 * z_.toNat) 4 = 0 then σ else up (up (us σ 18 (tkN (σ 18) (σ (46 + 6 * z_.toNat)) (mn (σ (46 + 6 * z_.toNat))))) 0 8 0) 0 9 0)) : (∀ k, k < 2 → σ1 214 k = 0 ∨ σ1 214 k = 1) ∧ (if ¬ (0 ≤ z_ ∧ z_ ≤ 1) then -1000001 else if σ (46 + 6 * z_.toNat) 4 = 0 then -1000002 else 1) = (if ¬ (0 ≤ z_ ∧ z_ ≤ 1) then -1000001 else if σ1 214 z_.toNat = 0 then -1000002 else 1) ∧ Rel (if ¬ (0 ≤ z_ ∧ z_ ≤ 1) then σ1 else if σ1 214 z_.toNat = 0 then σ1 else up (us σ1 206 (fun j => σ1 215 (48 * z_.toNat + j))) 202 18 0) := by
  have m : ∀ c, 202 ≤ c → σ1 c = σ c := fun c hc => by rw [h1]; (repeat' split) <;> first | rfl | (simp only [up, us]; (repeat' split) <;> first | rfl | (exfalso; omega))
  refine ⟨(by rw [m 214 (by omega)]; exact hR.kb), ?_⟩
  rw [m 214 (by omega), m 215 (by omega)]
  by_cases hb : ¬ (0 ≤ z_ ∧ z_ ≤ 1)
  · rw [if_pos hb] at h1
    refine ⟨by first | rw [if_pos hb, if_pos hb] | rw [if_pos hb], ?_⟩
    rw [if_pos hb, h1]
    exact hR
  · have hk := hR.2.2.1 z_.toNat (by omega)
    rcases hk with ⟨k1, k2⟩ | ⟨k1, k2, k3⟩
    · rw [if_neg hb, if_pos k2] at h1
      refine ⟨by rw [if_neg hb, if_pos k2, if_neg hb, if_pos k1], ?_⟩
      rw [if_neg hb, if_pos k1, h1]
      exact hR
    · have k4 : ¬ σ (46 + 6 * z_.toNat) 4 = 0 := by have e9 : _ = σ 215 (48 * z_.toNat + 4) := eqR_hd k2 4 (by omega); have e8 : 2 ≤ σ 215 (48 * z_.toNat + 4) := k3.1.1.1; omega
      have k5 : ¬ σ 214 z_.toNat = 0 := by omega
      rw [if_neg hb, if_neg k4] at h1
      refine ⟨by rw [if_neg hb, if_neg k4, if_neg hb, if_neg k5], ?_⟩
      rw [if_neg hb, if_neg k5, h1]
      have o4 := (eqR_okV k2 k3.1).1
      have hz4 : ¬ σ 206 4 = 0 := fun q9 => by have h9 := hR.1.2.2.2.2 q9; rcases (show z_.toNat = 0 ∨ z_.toNat = 1 by omega) with e9 | e9 <;> rw [e9] at k1 <;> omega
      have h24 := hR.1.2.2.2.1
      rw [if_neg hz4] at h24
      refine Rel_abc hR ⟨?_, Or.inr ?_, ?_, ?_, fun q9 => absurd q9 ?_⟩ ?_ ?_ (by intros; simp only [up, us]; (repeat' split) <;> first | rfl | (exfalso; omega)) ⟨rfl, rfl⟩ (by intro j h8 h9; show uf (σ 202) 18 0 j = _; rw [uf_ne _ _ h9])
      · show eqR (tkN (σ 18) (σ (46 + 6 * z_.toNat)) (mn (σ (46 + 6 * z_.toNat)))) (fun j => σ 215 (48 * z_.toNat + j))
        exact eqR_tr (eqR_tk _ o4) k2
      · exact k3
      · exact k3.2
      · show σ 202 4 = if (fun j => σ 215 (48 * z_.toNat + j)) 4 = 0 then 0 else 1
        rw [if_neg (by have e8 := k3.1.1; omega)]; exact h24
      · show ¬ (fun j => σ 215 (48 * z_.toNat + j)) 4 = 0
        have e8 := k3.1.1; omega
      · refine ⟨⟨rfl, ⟨by show (0 : Int) ≤ 0; omega, by show (0 : Int) ≤ 24; omega⟩, ⟨by show (0 : Int) ≤ 0; omega, by show (0 : Int) ≤ 23; omega⟩⟩, fun k hk => ?_⟩
        have hk2 : (k : Int) < 0 := hk
        omega
      · exact RC_c hR.2.2.1 rfl rfl (fun c hc => by simp only [up, us]; (repeat' split) <;> first | rfl | (exfalso; omega))
theorem q_undo {σ σ1 : Sg} (hR : Rel σ)   (h1 : σ1 = (if σ 0 8 = 0 then σ else us (up (up σ 0 9 (bk (σ))) 0 8 (σ 0 8 - 1)) 18 (tkN (σ 18) (σ (58 + 6 * (bk (σ)).toNat)) (mn (σ (58 + 6 * (bk (σ)).toNat)))))) : (0 ≤ σ1 202 18 ∧ σ1 202 18 ≤ 24) ∧ (if σ 0 8 = 0 then -1000002 else σ 0 8 - 1) = (if σ1 202 18 = 0 then -1000002 else σ1 202 18 - 1) ∧ Rel (if σ1 202 18 = 0 then σ1 else us (up σ1 202 18 (σ1 202 18 - 1)) 206 (fun j => σ1 211 (48 * (σ1 202 18 - 1).toNat + j))) := by
  have hB := hR.2.1
  obtain ⟨⟨b1, b2, b3⟩, b4⟩ := id hB
  have hbk : 0 ≤ bk (σ) ∧ bk (σ) ≤ 23 := by unfold bk; split <;> omega
  have m : ∀ c, 202 ≤ c → σ1 c = σ c := fun c hc => by rw [h1]; (repeat' split) <;> first | rfl | (simp only [up, us]; (repeat' split) <;> first | rfl | (exfalso; omega))
  refine ⟨by rw [m 202 (by omega)]; exact b2, ?_⟩
  rw [m 202 (by omega), m 211 (by omega)]
  rw [b1] at h1 ⊢
  by_cases h0 : σ 202 18 = 0
  · rw [if_pos h0] at h1
    refine ⟨by first | rw [if_pos h0, if_pos h0] | rw [if_pos h0], ?_⟩
    rw [if_pos h0, h1]
    exact hR
  · rw [if_neg h0] at h1
    refine ⟨by first | rw [if_neg h0, if_neg h0] | rw [if_neg h0], ?_⟩
    rw [if_neg h0, h1]
    have hk := b4 ((σ 202 18).toNat - 1) (by omega)
    have hr : rg σ σ ((σ 202 18).toNat - 1) = (bk σ).toNat := by unfold rg bk; split <;> omega
    rw [hr] at hk
    obtain ⟨k2, k3⟩ := hk
    have ea : (σ 202 18 - 1).toNat = (σ 202 18).toNat - 1 := by omega
    rw [ea]
    have o4 := (eqR_okV k2 k3.1).1
    have hz4 : ¬ σ 206 4 = 0 := fun q9 => h0 (hR.1.2.2.2.2 q9).1
    have h24 := hR.1.2.2.2.1
    rw [if_neg hz4] at h24
    have e8 := k3.1.1
    refine Rel_abc hR ⟨?_, Or.inr k3, k3.2, ?_, fun q9 => absurd q9 ?_⟩ ?_ ?_ (by intros; simp only [up, us]; (repeat' split) <;> first | rfl | (exfalso; omega)) ⟨rfl, rfl⟩ (by intro j h8 h9; show uf (σ 202) 18 _ j = _; rw [uf_ne _ _ h9])
    · show eqR (tkN (σ 18) (σ (58 + 6 * (bk (σ)).toNat)) (mn (σ (58 + 6 * (bk (σ)).toNat)))) (ak σ ((σ 202 18).toNat - 1))
      exact eqR_tr (eqR_tk _ o4) k2
    · show σ 202 4 = if ak σ ((σ 202 18).toNat - 1) 4 = 0 then 0 else 1
      rw [if_neg (by omega)]; exact h24
    · show ¬ ak σ ((σ 202 18).toNat - 1) 4 = 0
      omega
    · refine ⟨⟨rfl, by show 0 ≤ σ 202 18 - 1 ∧ σ 202 18 - 1 ≤ 24; omega, hbk⟩, fun k hk => ?_⟩
      have hk2 : (k : Int) < σ 202 18 - 1 := hk
      have ho := b4 k (by omega)
      have hl : rg σ σ k < 24 := Nat.mod_lt _ (by omega)
      have hr2 : ((bk σ).toNat + 24 - (σ 202 18 - 1).toNat + k) % 24 = rg σ σ k := by unfold rg bk; split <;> omega
      have hc : ∀ τ : Sg, (∀ c, 58 ≤ c ∧ c < 202 → τ c = σ c) → eqR (τ (58 + 6 * (((bk σ).toNat + 24 - (σ 202 18 - 1).toNat + k) % 24))) (ak σ k) := fun τ hτ => by rw [hr2, hτ _ (by omega)]; exact ho.1
      exact ⟨hc _ (fun c hc => by simp only [up, us]; (repeat' split) <;> first | rfl | (exfalso; omega)), ho.2⟩
    · exact RC_c hR.2.2.1 rfl rfl (fun c hc => by simp only [up, us]; (repeat' split) <;> first | rfl | (exfalso; omega))
theorem nS_c (σ : Sg) {c : Nat} (h : c ≠ 211 ∧ c ≠ 202) : nS σ c = σ c := by unfold nS; rw [us_ne _ _ h.2, us_ne _ _ h.1]
theorem nS_2 (σ : Sg) {j : Nat} (h : j ≠ 18) : nS σ 202 j = σ 202 j := by show uf (σ 202) 18 _ j = _; rw [uf_ne _ _ h]
theorem Rel_act2 {σ σ1 τ : Sg} (h : Rel σ) (hok : okM (σ 206)) {X Y : Nat → Int} (hX : eqR X Y) (hY : okM Y) (h18 : σ1 18 = X) (hc1 : ∀ c, c ≠ 18 → c ≠ 10 → σ1 c = kU σ c) (h206 : τ 206 = Y) (hcT : ∀ c, c ≠ 206 → c ≠ 210 → τ c = nS σ1 c) : Rel τ := by
  have h9 : 0 ≤ σ 0 9 ∧ σ 0 9 ≤ 23 := h.2.1.1.2.2
  have m : ∀ c, 202 ≤ c → σ1 c = σ c := fun c hc => by rw [hc1 c (by omega) (by omega), kU_c σ (by omega) h9]
  refine Rel_act h hok hX hY (fun j => ?_) ?_ h206 (fun j hj => ?_) ?_ ?_ (fun c hc => ?_) (fun c h1 h2 h3 h4 h5 h6 h7 h8 => ?_)
  · rw [hcT 0 (by omega) (by omega), nS_c _ (by omega), hc1 0 (by omega) (by omega)]
  · rw [hcT 18 (by omega) (by omega), nS_c _ (by omega), h18]
  · rw [hcT 202 (by omega) (by omega), nS_2 _ hj, m 202 (by omega)]
  · rw [hcT 202 (by omega) (by omega)]
    show uf (σ1 202) 18 (if σ1 202 18 = 24 then 24 else σ1 202 18 + 1) 18 = _
    rw [uf_eq, m 202 (by omega)]
  · rw [hcT 211 (by omega) (by omega)]
    show nta (σ1 202 18).toNat (σ1 206) (σ1 211) = _
    rw [m 202 (by omega), m 206 (by omega), m 211 (by omega)]
  · rw [hcT c (by omega) (by omega), nS_c _ (by omega), hc1 c (by omega) (by omega)]
  · rw [hcT c h4 h5, nS_c _ ⟨h7, h6⟩, hc1 c h2 h3, kU_c σ (by omega) h9]
theorem okM_uf3 {f : Nat → Int} (h : okM f) {z : Int} (hz : 0 ≤ z ∧ z ≤ 3) : okM (uf f 3 z) := by
  refine ⟨?_, by rw [uf_ne _ _ (by omega)]; exact h.2⟩
  obtain ⟨o4, o0, o1, o2, o3, o5, o6, o7, oH⟩ := h.1
  have e : ∀ j, j ≠ 3 → uf f 3 z j = f j := fun j h1 => uf_ne _ _ h1
  unfold okV
  rw [e 0 (by omega), e 1 (by omega), e 2 (by omega), uf_eq, e 4 (by omega), e 5 (by omega), e 6 (by omega), e 7 (by omega)]
  refine ⟨o4, o0, o1, o2, hz, o5, o6, o7, fun q hq => ?_⟩
  have hh := oH q hq
  unfold okH at hh ⊢
  rw [e 5 (by omega), e (8 + q) (by omega), e (12 + q) (by omega), e (16 + q) (by omega), e (20 + q) (by omega), e (24 + q) (by omega), e (28 + q) (by omega), e (32 + q) (by omega), e (36 + q) (by omega), e (40 + q) (by omega), e (44 + q) (by omega)]
  exact hh
theorem okM_part {f : Nat → Int} (h : okM f) : okM (uf (cpo 32 (mn f) (shr f (f 3)) f) 7 1) := by
  have o4 := h.1.1
  have hm : ((mn f : Nat) : Int) = f 4 := by unfold mn; omega
  have e : ∀ j, j ≠ 7 → (j < 32 ∨ 36 ≤ j) → uf (cpo 32 (mn f) (shr f (f 3)) f) 7 1 j = f j := fun j h1 h2 => by rw [uf_ne _ _ h1]; unfold cpo; rw [if_neg (by omega)]
  refine ⟨?_, by rw [e 5 (by omega) (by omega)]; exact h.2⟩
  obtain ⟨p4, o0, o1, o2, o3, o5, o6, o7, oH⟩ := h.1
  unfold okV
  rw [e 0 (by omega) (by omega), e 1 (by omega) (by omega), e 2 (by omega) (by omega), e 3 (by omega) (by omega), e 4 (by omega) (by omega), e 5 (by omega) (by omega), e 6 (by omega) (by omega), uf_eq]
  refine ⟨p4, o0, o1, o2, o3, o5, o6, Or.inr rfl, fun q hq => ?_⟩
  have hh := oH q hq
  have hs := shr_bd h.1 (f 3) (h := q) hq
  have e32 : uf (cpo 32 (mn f) (shr f (f 3)) f) 7 1 (32 + q) = shr f (f 3) q := by rw [uf_ne _ _ (by omega)]; unfold cpo; rw [if_pos (by omega), show 32 + q - 32 = q from by omega]
  unfold okH at hh ⊢
  rw [e32, e 5 (by omega) (by omega), e (8 + q) (by omega) (by omega), e (12 + q) (by omega) (by omega), e (16 + q) (by omega) (by omega), e (20 + q) (by omega) (by omega), e (24 + q) (by omega) (by omega), e (28 + q) (by omega) (by omega), e (36 + q) (by omega) (by omega), e (40 + q) (by omega) (by omega), e (44 + q) (by omega) (by omega)]
  omega
theorem eqR_part {f g : Nat → Int} (h : eqR f g) (hok : okV g) : eqR (uf (cpo 32 (mn f) (shr f (f 3)) f) 7 1) (uf (cpo 32 (mn g) (shr g (g 3)) g) 7 1) := by
  have o4 := hok.1
  have e4 := eqR_hd h 4 (by omega)
  have hm : ((mn g : Nat) : Int) = g 4 := by unfold mn; omega
  refine eqR_uf ?_ (by omega) 1
  intro j hj hc
  have c4 : cpo 32 (mn f) (shr f (f 3)) f 4 = f 4 := by unfold cpo; rw [if_neg (by omega)]
  rw [c4] at hc
  unfold cpo
  rw [eqR_mn h]
  by_cases h1 : 32 ≤ j ∧ j < 32 + mn g
  · rw [if_pos h1, if_pos h1, eqR_hd h 3 (by omega)]
    exact eqR_shr h (by omega) _ (by omega)
  · rw [if_neg h1, if_neg h1]
    exact h j hj hc
theorem q_speak {σ σ1 : Sg} (hR : Rel σ) (h_ : Int) (w_ : Int) (k_ : Int)  (h1 : σ1 = (if ¬ (0 ≤ h_ ∧ h_ ≤ σ 18 4 - 1) ∨ ¬ (0 ≤ w_ ∧ w_ ≤ 18) ∨ ¬ (0 ≤ k_ ∧ k_ ≤ 40) then σ else if σ 18 7 = 1 then σ else us (kU (σ)) 18 (uf (uf (uf (σ 18) (20 + h_.toNat) 1) (24 + h_.toNat) w_) (28 + h_.toNat) k_))) : (σ1 206 4 = 0 ∨ okV (σ1 206)) ∧ (0 ≤ σ1 202 18 ∧ σ1 202 18 ≤ 24) ∧ (if ¬ (0 ≤ h_ ∧ h_ ≤ σ 18 4 - 1) ∨ ¬ (0 ≤ w_ ∧ w_ ≤ 18) ∨ ¬ (0 ≤ k_ ∧ k_ ≤ 40) then -1000001 else if σ 18 7 = 1 then -1000002 else own (σ 18) h_.toNat) = (if ¬ (0 ≤ h_ ∧ h_ ≤ σ1 206 4 - 1) ∨ ¬ (0 ≤ w_ ∧ w_ ≤ 18) ∨ ¬ (0 ≤ k_ ∧ k_ ≤ 40) then -1000001 else if σ1 206 7 = 1 then -1000002 else own (σ1 206) h_.toNat) ∧ Rel (if ¬ (0 ≤ h_ ∧ h_ ≤ σ1 206 4 - 1) ∨ ¬ (0 ≤ w_ ∧ w_ ≤ 18) ∨ ¬ (0 ≤ k_ ∧ k_ ≤ 40) then σ1 else if σ1 206 7 = 1 then σ1 else us (nS σ1) 206 (uf (uf (uf (σ1 206) (20 + h_.toNat) 1) (24 + h_.toNat) w_) (28 + h_.toNat) k_)) := by
  have q := hR.1.1
  have e4 := hR.e18
  have f4 := hR.f4
  have h9 := hR.2.1.1.2.2
  have e7 := eqR_hd q 7 (by omega)
  have m : ∀ c, 202 ≤ c → σ1 c = σ c := fun c hc => by rw [h1]; (repeat' split) <;> first | rfl | (rw [us_ne _ _ (by omega), kU_c σ (by omega) h9]) | (rw [us_ne _ _ (by omega), us_ne _ _ (by omega), kU_c σ (by omega) h9])
  refine ⟨(by rw [m 206 (by omega)]; exact hR.o206), (by rw [m 202 (by omega)]; exact hR.2.1.1.2.1), ?_⟩
  rw [m 206 (by omega)]
  rw [e4, e7] at h1 ⊢
  by_cases hb : ¬ (0 ≤ h_ ∧ h_ ≤ σ 206 4 - 1) ∨ ¬ (0 ≤ w_ ∧ w_ ≤ 18) ∨ ¬ (0 ≤ k_ ∧ k_ ≤ 40)
  · rw [if_pos hb] at h1
    refine ⟨by first | rw [if_pos hb, if_pos hb] | rw [if_pos hb], ?_⟩
    rw [if_pos hb, h1]
    exact hR
  · by_cases hp : σ 206 7 = 1
    · rw [if_neg hb, if_pos hp] at h1
      refine ⟨by first | rw [if_neg hb, if_pos hp, if_neg hb, if_pos hp] | rw [if_neg hb, if_pos hp], ?_⟩
      rw [if_neg hb, if_pos hp, h1]
      exact hR
    · have hn : h_.toNat < 4 ∧ ((h_.toNat : Nat) : Int) < σ 18 4 := by omega
      have hokM := hR.1.2.1.resolve_left (by omega)
      rw [if_neg hb, if_neg hp] at h1
      refine ⟨by rw [if_neg hb, if_neg hp, if_neg hb, if_neg hp]; exact eqR_own q (by omega) hn.2, ?_⟩
      rw [if_neg hb, if_neg hp]
      refine Rel_act2 (σ1 := σ1) hR hokM (X := (spk (σ 18) h_.toNat w_ k_)) (Y := (spk (σ 206) h_.toNat w_ k_)) (eqR_spk q _ _ _) ⟨okV_say hokM.1 (by omega) (by omega) (by omega), by show spk (σ 206) h_.toNat w_ k_ 5 ≤ 999; rw [spk_o _ _ _ _ (by omega)]; exact hokM.2⟩ (by rw [h1]; exact us_eq _ _ _) (fun c q1 q2 => by rw [h1]; first | (rw [us_ne _ _ q1]; done) | (rw [us_ne _ _ q1, us_ne _ _ q2])) ?_ ?_
      · exact us_eq _ _ _
      · intro c q1 q2; exact us_ne _ _ q1
theorem q_rule {σ σ1 : Sg} (hR : Rel σ) (z_ : Int)  (h1 : σ1 = (if σ 18 4 = 0 then σ else if ¬ (0 ≤ z_ ∧ z_ ≤ 3) then σ else if σ 18 7 = 1 then σ else us (kU (σ)) 18 (uf (σ 18) 3 z_))) : (σ1 206 4 = 0 ∨ okV (σ1 206)) ∧ (σ1 202 4 = if σ1 206 4 = 0 then 0 else 1) ∧ (0 ≤ σ1 202 18 ∧ σ1 202 18 ≤ 24) ∧ (if σ 18 4 = 0 then -1000002 else if ¬ (0 ≤ z_ ∧ z_ ≤ 3) then -1000001 else if σ 18 7 = 1 then -1000002 else σ 18 3) = (if σ1 206 4 = 0 then -1000002 else if ¬ (0 ≤ z_ ∧ z_ ≤ 3) then -1000001 else if σ1 206 7 = 1 then -1000002 else σ1 206 3) ∧ Rel (if σ1 206 4 = 0 then σ1 else if ¬ (0 ≤ z_ ∧ z_ ≤ 3) then σ1 else if σ1 206 7 = 1 then σ1 else up (nS σ1) 206 3 z_) := by
  have q := hR.1.1
  have e4 := hR.e18
  have f4 := hR.f4
  have h9 := hR.2.1.1.2.2
  have e7 := eqR_hd q 7 (by omega)
  have e3 := eqR_hd q 3 (by omega)
  have m : ∀ c, 202 ≤ c → σ1 c = σ c := fun c hc => by rw [h1]; (repeat' split) <;> first | rfl | (rw [us_ne _ _ (by omega), kU_c σ (by omega) h9]) | (rw [us_ne _ _ (by omega), us_ne _ _ (by omega), kU_c σ (by omega) h9])
  refine ⟨(by rw [m 206 (by omega)]; exact hR.o206), (by rw [m 202 (by omega), m 206 (by omega)]; exact hR.1.2.2.2.1), (by rw [m 202 (by omega)]; exact hR.2.1.1.2.1), ?_⟩
  rw [m 206 (by omega)]
  rw [e4, e7] at h1 ⊢
  by_cases h0 : σ 206 4 = 0
  · rw [if_pos h0] at h1
    refine ⟨by first | rw [if_pos h0, if_pos h0] | rw [if_pos h0], ?_⟩
    rw [if_pos h0, h1]
    exact hR
  · by_cases hb : ¬ (0 ≤ z_ ∧ z_ ≤ 3)
    · rw [if_neg h0, if_pos hb] at h1
      refine ⟨by first | rw [if_neg h0, if_pos hb, if_neg h0, if_pos hb] | rw [if_neg h0, if_pos hb], ?_⟩
      rw [if_neg h0, if_pos hb, h1]
      exact hR
    · by_cases hp : σ 206 7 = 1
      · rw [if_neg h0, if_neg hb, if_pos hp] at h1
        refine ⟨by first | rw [if_neg h0, if_neg hb, if_pos hp, if_neg h0, if_neg hb, if_pos hp] | rw [if_neg h0, if_neg hb, if_pos hp], ?_⟩
        rw [if_neg h0, if_neg hb, if_pos hp, h1]
        exact hR
      · have hokM := hR.1.2.1.resolve_left (by omega)
        rw [if_neg h0, if_neg hb, if_neg hp] at h1
        refine ⟨by rw [if_neg h0, if_neg hb, if_neg hp, if_neg h0, if_neg hb, if_neg hp]; exact e3, ?_⟩
        rw [if_neg h0, if_neg hb, if_neg hp]
        refine Rel_act2 (σ1 := σ1) hR hokM (X := uf (σ 18) 3 z_) (Y := uf (σ 206) 3 z_) (eqR_uf q (by omega) _) (okM_uf3 hokM (by omega)) (by rw [h1]; exact us_eq _ _ _) (fun c q1 q2 => by rw [h1]; first | (rw [us_ne _ _ q1]; done) | (rw [us_ne _ _ q1, us_ne _ _ q2])) ?_ ?_
        · show us (nS σ1) 206 (uf (nS σ1 206) 3 z_) 206 = _
          rw [us_eq, nS_c _ (by omega), m 206 (by omega)]
        · intro c q1 q2; exact us_ne _ _ q1
theorem q_letter {σ σ1 : Sg} (hR : Rel σ) (f_ : Int) (t_ : Int)  (h1 : σ1 = (if ¬ (0 ≤ f_ ∧ f_ ≤ σ 18 4 - 1) ∨ ¬ (0 ≤ t_ ∧ t_ ≤ σ 18 4 - 1) ∨ f_ = t_ then σ else us (kU (σ)) 18 (uf (σ 18) (44 + t_.toNat) (if σ 18 (44 + t_.toNat) = 0 ∨ alw (σ 18) f_.toNat + 1 < σ 18 (44 + t_.toNat) then alw (σ 18) f_.toNat + 1 else σ 18 (44 + t_.toNat))))) : (σ1 206 4 = 0 ∨ okV (σ1 206)) ∧ (0 ≤ σ1 202 18 ∧ σ1 202 18 ≤ 24) ∧ (if ¬ (0 ≤ f_ ∧ f_ ≤ σ 18 4 - 1) ∨ ¬ (0 ≤ t_ ∧ t_ ≤ σ 18 4 - 1) ∨ f_ = t_ then -1000001 else alw (uf (σ 18) (44 + t_.toNat) (if σ 18 (44 + t_.toNat) = 0 ∨ alw (σ 18) f_.toNat + 1 < σ 18 (44 + t_.toNat) then alw (σ 18) f_.toNat + 1 else σ 18 (44 + t_.toNat))) t_.toNat) = (if ¬ (0 ≤ f_ ∧ f_ ≤ σ1 206 4 - 1) ∨ ¬ (0 ≤ t_ ∧ t_ ≤ σ1 206 4 - 1) ∨ f_ = t_ then -1000001 else alw (uf (σ1 206) (44 + t_.toNat) (if σ1 206 (44 + t_.toNat) = 0 ∨ alw (σ1 206) f_.toNat + 1 < σ1 206 (44 + t_.toNat) then alw (σ1 206) f_.toNat + 1 else σ1 206 (44 + t_.toNat))) t_.toNat) ∧ Rel (if ¬ (0 ≤ f_ ∧ f_ ≤ σ1 206 4 - 1) ∨ ¬ (0 ≤ t_ ∧ t_ ≤ σ1 206 4 - 1) ∨ f_ = t_ then σ1 else up (nS σ1) 206 (44 + t_.toNat) (if σ1 206 (44 + t_.toNat) = 0 ∨ alw (σ1 206) f_.toNat + 1 < σ1 206 (44 + t_.toNat) then alw (σ1 206) f_.toNat + 1 else σ1 206 (44 + t_.toNat))) := by
  have q := hR.1.1
  have e4 := hR.e18
  have f4 := hR.f4
  have h9 := hR.2.1.1.2.2
  have m : ∀ c, 202 ≤ c → σ1 c = σ c := fun c hc => by rw [h1]; (repeat' split) <;> first | rfl | (rw [us_ne _ _ (by omega), kU_c σ (by omega) h9]) | (rw [us_ne _ _ (by omega), us_ne _ _ (by omega), kU_c σ (by omega) h9])
  refine ⟨(by rw [m 206 (by omega)]; exact hR.o206), (by rw [m 202 (by omega)]; exact hR.2.1.1.2.1), ?_⟩
  rw [m 206 (by omega)]
  rw [e4] at h1 ⊢
  by_cases hb : ¬ (0 ≤ f_ ∧ f_ ≤ σ 206 4 - 1) ∨ ¬ (0 ≤ t_ ∧ t_ ≤ σ 206 4 - 1) ∨ f_ = t_
  · rw [if_pos hb] at h1
    refine ⟨by first | rw [if_pos hb, if_pos hb] | rw [if_pos hb], ?_⟩
    rw [if_pos hb, h1]
    exact hR
  · have hokM := hR.1.2.1.resolve_left (by omega)
    rw [eqR_alw q (by omega) (k := f_.toNat) (by omega), eqR_at q 44 t_.toNat (by omega) (by omega) (by omega)] at h1 ⊢
    obtain ⟨x_, hx⟩ : ∃ x : Int, x = (if σ 206 (44 + t_.toNat) = 0 ∨ alw (σ 206) f_.toNat + 1 < σ 206 (44 + t_.toNat) then alw (σ 206) f_.toNat + 1 else σ 206 (44 + t_.toNat)) := ⟨_, rfl⟩
    rw [← hx] at h1 ⊢
    have hal := alw_bd hokM.1 (h := f_.toNat) (by omega)
    have h44 := (hokM.1.2.2.2.2.2.2.2.2 t_.toNat (by omega)).2.2.2.2.2.2.2.2.2
    have hxb : 0 ≤ x_ ∧ x_ ≤ 50 := by rw [hx]; split <;> omega
    have hq2 := eqR_uf q (j := 44 + t_.toNat) (by omega) x_
    have u4 : uf (σ 18) (44 + t_.toNat) x_ 4 = σ 18 4 := uf_ne _ _ (by omega)
    rw [if_neg hb] at h1
    refine ⟨by rw [if_neg hb, if_neg hb]; exact eqR_alw hq2 (by rw [u4]; omega) (by rw [u4]; omega), ?_⟩
    rw [if_neg hb]
    refine Rel_act2 (σ1 := σ1) hR hokM (X := uf (σ 18) (44 + t_.toNat) x_) (Y := uf (σ 206) (44 + t_.toNat) x_) hq2 ⟨okV_let hokM.1 (by omega) hxb, by rw [uf_ne _ _ (by omega)]; exact hokM.2⟩ (by rw [h1]; exact us_eq _ _ _) (fun c q1 q2 => by rw [h1]; first | (rw [us_ne _ _ q1]; done) | (rw [us_ne _ _ q1, us_ne _ _ q2])) ?_ ?_
    · show us (nS σ1) 206 (uf (nS σ1 206) (44 + t_.toNat) x_) 206 = _
      rw [us_eq, nS_c _ (by omega), m 206 (by omega)]
    · intro c q1 q2; exact us_ne _ _ q1
theorem q_part {σ σ1 : Sg} (hR : Rel σ)   (h1 : σ1 = (if σ 18 4 = 0 ∨ σ 18 7 = 1 then σ else us (us (kU (σ)) 10 (cpy (mn (σ 18)) (shr (σ 18) (σ 18 3)) (σ 10))) 18 (uf (cpo 32 (mn (σ 18)) (shr (σ 18) (σ 18 3)) (σ 18)) 7 1))) : (σ1 206 4 = 0 ∨ okV (σ1 206)) ∧ (σ1 202 4 = if σ1 206 4 = 0 then 0 else 1) ∧ (0 ≤ σ1 202 18 ∧ σ1 202 18 ≤ 24) ∧ (if σ 18 4 = 0 ∨ σ 18 7 = 1 then -1000002 else ((fg (shr (σ 18) (σ 18 3)) (mn (σ 18)) : Nat) : Int)) = (if σ1 206 4 = 0 ∨ σ1 206 7 = 1 then -1000002 else ((fg (shr (σ1 206) (σ1 206 3)) (mn (σ1 206)) : Nat) : Int)) ∧ Rel (if σ1 206 4 = 0 ∨ σ1 206 7 = 1 then σ1 else us (us (nS σ1) 210 (cpy (mn (σ1 206)) (shr (σ1 206) (σ1 206 3)) (σ1 210))) 206 (uf (cpo 32 (mn (σ1 206)) (shr (σ1 206) (σ1 206 3)) (σ1 206)) 7 1)) := by
  have q := hR.1.1
  have e4 := hR.e18
  have f4 := hR.f4
  have h9 := hR.2.1.1.2.2
  have e7 := eqR_hd q 7 (by omega)
  have e3 := eqR_hd q 3 (by omega)
  have m : ∀ c, 202 ≤ c → σ1 c = σ c := fun c hc => by rw [h1]; (repeat' split) <;> first | rfl | (rw [us_ne _ _ (by omega), kU_c σ (by omega) h9]) | (rw [us_ne _ _ (by omega), us_ne _ _ (by omega), kU_c σ (by omega) h9])
  refine ⟨(by rw [m 206 (by omega)]; exact hR.o206), (by rw [m 202 (by omega), m 206 (by omega)]; exact hR.1.2.2.2.1), (by rw [m 202 (by omega)]; exact hR.2.1.1.2.1), ?_⟩
  rw [m 206 (by omega)]
  rw [e4, e7] at h1 ⊢
  by_cases h0 : σ 206 4 = 0 ∨ σ 206 7 = 1
  · rw [if_pos h0] at h1
    refine ⟨by first | rw [if_pos h0, if_pos h0] | rw [if_pos h0], ?_⟩
    rw [if_pos h0, h1]
    exact hR
  · have hokM := hR.1.2.1.resolve_left (by omega)
    have hmg : ((mn (σ 206) : Nat) : Int) = σ 206 4 := by unfold mn; omega
    rw [if_neg h0] at h1
    refine ⟨by rw [if_neg h0, if_neg h0, e3, eqR_mn q, fg_congr (fun k hk => eqR_shr q (by omega) (σ 206 3) (by omega))], ?_⟩
    rw [if_neg h0]
    refine Rel_act2 (σ1 := σ1) hR hokM (X := uf (cpo 32 (mn (σ 18)) (shr (σ 18) (σ 18 3)) (σ 18)) 7 1) (Y := uf (cpo 32 (mn (σ 206)) (shr (σ 206) (σ 206 3)) (σ 206)) 7 1) (eqR_part q hokM.1) (okM_part hokM) (by rw [h1]; exact us_eq _ _ _) (fun c q1 q2 => by rw [h1]; first | (rw [us_ne _ _ q1]; done) | (rw [us_ne _ _ q1, us_ne _ _ q2])) ?_ ?_
    · exact us_eq _ _ _
    · intro c q1 q2; rw [us_ne _ _ q1, us_ne _ _ q2]
theorem kM_c (σ : Sg) {c : Nat} (h9 : 0 ≤ σ 0 9 ∧ σ 0 9 ≤ 23) (hc : (0 < c ∧ c < 58 ∧ c ≠ 18) ∨ 202 ≤ c) : kM σ c = σ c := by unfold kM; rw [us_ne _ _ (by omega), kU_c σ (by omega) h9]
theorem mS_c (σ : Sg) {c : Nat} (h : c ≠ 211 ∧ c ≠ 202 ∧ c ≠ 206) : mS σ c = σ c := by unfold mS; rw [us_ne _ _ h.2.2, nS_c _ ⟨h.1, h.2.1⟩]
theorem mS_2 (σ : Sg) {j : Nat} (h : j ≠ 18) : mS σ 202 j = σ 202 j := nS_2 σ h
/-- n months of both -/
theorem RB_mon {σ τ0 : Sg} (n : Nat) (hB : RB2 σ τ0) (hq : eqR (σ 18) (τ0 206)) (hok : okM (τ0 206)) (h5 : τ0 206 5 + n ≤ 999) : RB2 (itr kM n σ) (itr mS n τ0) ∧ eqR (itr kM n σ 18) (itr mS n τ0 206) ∧ okM (itr mS n τ0 206) ∧ itr mS n τ0 206 5 = τ0 206 5 + n ∧ itr mS n τ0 206 4 = τ0 206 4 := by
  induction n with
  | zero => exact ⟨hB, hq, hok, by show τ0 206 5 = _; omega, rfl⟩
  | succ n ih =>
    obtain ⟨a1, a2, a3, a4, a5⟩ := ih (by omega)
    have h9 := a1.1.2.2
    have hv := eqR_okV a2 a3.1
    have e206 : itr mS (n + 1) τ0 206 = mon (itr mS n τ0 206) := us_eq (nS (itr mS n τ0)) 206 _
    have e18 : itr kM (n + 1) σ 18 = mon (itr kM n σ 18) := kM_18 (itr kM n σ)
    rw [e206, e18]
    refine ⟨?_, eqR_mon a2 hv.1.2 hv.2.2.2.2.2.2.1, ⟨okV_mon a3.1 (by have := a3.2; omega), by rw [mon_5]; omega⟩, by rw [mon_5]; omega, by rw [mon_4 _ a3.1]; exact a5⟩
    refine RB_keep a1 a2 a3 ?_ ?_ ?_ ?_ (fun p hp => ?_)
    · show kM (itr kM n σ) 0 8 = _
      rw [kM_0, kU_08]
    · show kM (itr kM n σ) 0 9 = _
      rw [kM_0, kU_09]
    · show mS (itr mS n τ0) 202 18 = _
      unfold mS
      rw [us_ne _ _ (by omega)]
      unfold nS
      rw [us_eq, uf_eq]
    · rfl
    · show us (kU (itr kM n σ)) 18 _ (58 + 6 * p) = _
      rw [us_ne _ _ (by omega), kU_be _ h9 hp]
theorem itr_kM_c (σ : Sg) (n : Nat) (h8 : 0 ≤ σ 0 8 ∧ σ 0 8 ≤ 24) (h9 : 0 ≤ σ 0 9 ∧ σ 0 9 ≤ 23) {c : Nat} (hc : (0 < c ∧ c < 58 ∧ c ≠ 18) ∨ 202 ≤ c) : itr kM n σ c = σ c := by
  induction n with
  | zero => rfl
  | succ n ih => show kM (itr kM n σ) c = _; rw [kM_c _ (kM_ok h8 h9 (n := n)).2.2 hc, ih]
theorem itr_kM_0 (σ : Sg) (n : Nat) {j : Nat} (hj : j ≠ 8 ∧ j ≠ 9) : itr kM n σ 0 j = σ 0 j := by
  induction n with
  | zero => rfl
  | succ n ih => show kM (itr kM n σ) 0 j = _; rw [kM_0, kU_0j _ hj, ih]
theorem itr_mS_c (σ : Sg) (n : Nat) {c : Nat} (h : c ≠ 211 ∧ c ≠ 202 ∧ c ≠ 206) : itr mS n σ c = σ c := by
  induction n with
  | zero => rfl
  | succ n ih => show mS (itr mS n σ) c = _; rw [mS_c _ h, ih]
theorem itr_mS_2 (σ : Sg) (n : Nat) {j : Nat} (h : j ≠ 18) : itr mS n σ 202 j = σ 202 j := by
  induction n with
  | zero => rfl
  | succ n ih => show mS (itr mS n σ) 202 j = _; rw [mS_2 _ h, ih]
theorem q_months {σ σ1 : Sg} (hR : Rel σ) (z_ : Int)  (h1 : σ1 = (if σ 18 4 = 0 then σ else if ¬ (1 ≤ z_ ∧ z_ ≤ 24) then σ else if σ 18 7 = 0 then σ else if 999 < σ 18 5 + z_ then σ else itr kM z_.toNat σ)) : (σ1 206 4 = 0 ∨ okV (σ1 206)) ∧ (σ1 202 4 = if σ1 206 4 = 0 then 0 else 1) ∧ (0 ≤ σ1 202 18 ∧ σ1 202 18 ≤ 24) ∧ (σ1 206 5 ≤ 999) ∧ (if σ 18 4 = 0 then -1000002 else if ¬ (1 ≤ z_ ∧ z_ ≤ 24) then -1000001 else if σ 18 7 = 0 then -1000002 else if 999 < σ 18 5 + z_ then -1000003 else itf mon z_.toNat (σ 18) 1) = (if σ1 206 4 = 0 then -1000002 else if ¬ (1 ≤ z_ ∧ z_ ≤ 24) then -1000001 else if σ1 206 7 = 0 then -1000002 else if 999 < σ1 206 5 + z_ then -1000003 else itf mon z_.toNat (σ1 206) 1) ∧ Rel (if σ1 206 4 = 0 then σ1 else if ¬ (1 ≤ z_ ∧ z_ ≤ 24) then σ1 else if σ1 206 7 = 0 then σ1 else if 999 < σ1 206 5 + z_ then σ1 else itr mS z_.toNat σ1) := by
  have q := hR.1.1
  have e4 := hR.e18
  have f4 := hR.f4
  have h9 := hR.2.1.1.2.2
  have h8 := hR.a8
  have e7 := eqR_hd q 7 (by omega)
  have e5 := eqR_hd q 5 (by omega)
  have m : ∀ c, 202 ≤ c → σ1 c = σ c := fun c hc => by rw [h1]; (repeat' split) <;> first | rfl | exact itr_kM_c σ _ h8 h9 (by omega)
  refine ⟨(by rw [m 206 (by omega)]; exact hR.o206), (by rw [m 202 (by omega), m 206 (by omega)]; exact hR.1.2.2.2.1), (by rw [m 202 (by omega)]; exact hR.2.1.1.2.1), (by rw [m 206 (by omega)]; exact hR.1.2.2.1), ?_⟩
  rw [m 206 (by omega)]
  rw [e4, e7, e5] at h1 ⊢
  by_cases h0 : σ 206 4 = 0
  · rw [if_pos h0] at h1
    refine ⟨by first | rw [if_pos h0, if_pos h0] | rw [if_pos h0], ?_⟩
    rw [if_pos h0, h1]
    exact hR
  · by_cases hb : ¬ (1 ≤ z_ ∧ z_ ≤ 24)
    · rw [if_neg h0, if_pos hb] at h1
      refine ⟨by first | rw [if_neg h0, if_pos hb, if_neg h0, if_pos hb] | rw [if_neg h0, if_pos hb], ?_⟩
      rw [if_neg h0, if_pos hb, h1]
      exact hR
    · by_cases hp : σ 206 7 = 0
      · rw [if_neg h0, if_neg hb, if_pos hp] at h1
        refine ⟨by first | rw [if_neg h0, if_neg hb, if_pos hp, if_neg h0, if_neg hb, if_pos hp] | rw [if_neg h0, if_neg hb, if_pos hp], ?_⟩
        rw [if_neg h0, if_neg hb, if_pos hp, h1]
        exact hR
      · by_cases hf : 999 < σ 206 5 + z_
        · rw [if_neg h0, if_neg hb, if_neg hp, if_pos hf] at h1
          refine ⟨by first | rw [if_neg h0, if_neg hb, if_neg hp, if_pos hf, if_neg h0, if_neg hb, if_neg hp, if_pos hf] | rw [if_neg h0, if_neg hb, if_neg hp, if_pos hf], ?_⟩
          rw [if_neg h0, if_neg hb, if_neg hp, if_pos hf, h1]
          exact hR
        · have hokM := hR.1.2.1.resolve_left (by omega)
          rw [if_neg h0, if_neg hb, if_neg hp, if_neg hf] at h1
          refine ⟨by rw [if_neg h0, if_neg hb, if_neg hp, if_neg hf, if_neg h0, if_neg hb, if_neg hp, if_neg hf]; exact eqR_hd (eqR_it q hokM.1 (n := z_.toNat) (by omega)) 1 (by omega), ?_⟩
          rw [if_neg h0, if_neg hb, if_neg hp, if_neg hf]
          have hB1 : RB2 σ σ1 := RB2_c hR.2.1 rfl rfl (by rw [m 202 (by omega)]) (m 211 (by omega)) (fun _ _ => rfl)
          obtain ⟨g1, g2, g3, g4, g5⟩ := RB_mon z_.toNat hB1 (by rw [m 206 (by omega)]; exact q) (by rw [m 206 (by omega)]; exact hokM) (by rw [m 206 (by omega)]; omega)
          rw [← h1] at g1 g2
          rw [m 206 (by omega)] at g5
          have c18 : itr mS z_.toNat σ1 18 = σ1 18 := itr_mS_c _ _ (by omega)
          have c0 : itr mS z_.toNat σ1 0 = σ1 0 := itr_mS_c _ _ (by omega)
          refine Rel_abc hR ⟨by rw [c18]; exact g2, Or.inr g3, g3.2, ?_, fun q9 => absurd q9 (by rw [g5]; exact h0)⟩ ?_ ?_ (fun c q1 q2 q3 q4 q5 q6 q7 q8 => ?_) ⟨?_, ?_⟩ (fun j q1 q2 => ?_)
          · rw [itr_mS_2 _ _ (by omega), m 202 (by omega), g5]; exact hR.1.2.2.2.1
          · exact RB2_c g1 (by rw [c0]) (by rw [c0]) rfl rfl (fun c hc => itr_mS_c _ _ (by omega))
          · exact RC_c hR.2.2.1 (by rw [itr_mS_c _ _ (by omega), m 214 (by omega)]) (by rw [itr_mS_c _ _ (by omega), m 215 (by omega)]) (fun c hc => by rw [itr_mS_c _ _ (by omega), h1, itr_kM_c σ _ h8 h9 (by omega)])
          · rw [itr_mS_c _ _ ⟨q6, q4, q5⟩, h1, itr_kM_c σ _ h8 h9 (by omega)]
          · rw [c0, h1, itr_kM_0 _ _ (by omega)]
          · rw [c0, h1, itr_kM_0 _ _ (by omega)]
          · rw [itr_mS_2 _ _ q2, m 202 (by omega)]
theorem RF_rd {σ : Sg} (hF : RF σ) {τ : Sg} (a : τ 3 = σ 3) (b : τ 208 = σ 208) (c : τ 2 = rdZ σ 2) (d : τ 202 8 = 0) : RF τ := by
  have hri : RI (rdC σ) := RI_crr 5 0 (RI_9 (RI_24 (RI_cnt hF.2.2.up)))
  refine ⟨by rw [a, b]; exact hF.1, by rw [c, d]; rfl, ?_⟩
  unfold RI0
  rw [a, c]
  refine ⟨⟨by show (0 : Int) ≤ 0; omega, by show (0 : Int) ≤ 100; omega⟩, ?_, ?_, hF.2.2.2.2.2⟩
  · show 0 ≤ rdC σ 2 5 ∧ rdC σ 2 5 ≤ 300
    exact hri.2.2.1
  · show rdC σ 2 5 = 256 → 0 ≤ rdC σ 2 6 ∧ rdC σ 2 6 ≤ 99
    exact hri.2.2.2.1
theorem Rel.rtk {σ : Sg} (hR : Rel σ) : rdC σ 2 2 = 0 → okV (rdC σ 24) := by
  intro h0
  have hF := hR.2.2.2.2.2.1
  rcases rd_eq (σ := σ) (τ := σ) hF.1 hF.2.1 hR.by8 hR.mtp with ⟨b1, b2, b3, b4, b5⟩ | ⟨b1, b2⟩
  · exact eqR_okV b3 b4
  · exact absurd h0 b2.1
theorem q_realm {σ σ1 : Sg} (hR : Rel σ)   (h1 : σ1 = (if rdC (σ) 2 2 = 0 then up (up (us (rdZ (σ)) 18 (tkN ((rdZ (σ)) 18) (rdC (σ) 24) (mn (rdC (σ) 24)))) 0 8 0) 0 9 0 else up (rdZ (σ)) 0 14 (rdC (σ) 2 2))) : (0 ≤ σ1 202 8 ∧ σ1 202 8 ≤ 100) ∧ (∀ k, k < 100 → 0 ≤ σ1 208 k ∧ σ1 208 k ≤ 255) ∧ (if rdC (σ) 2 2 = 0 then rdC (σ) 24 4 else -1000100 - rdC (σ) 2 3) = (if rdB (σ1) = true then rdS (σ1) 209 4 else -1000100 - rdS (σ1) 202 13) ∧ Rel (if rdB (σ1) = true then up (up (us (up (rdS (σ1)) 202 8 0) 206 (rdS (σ1) 209)) 202 4 1) 202 18 0 else up (up (rdS (σ1)) 202 8 0) 202 9 (rdS (σ1) 202 14)) := by
  have hF := hR.2.2.2.2.2.1
  have m : ∀ c, 202 ≤ c → σ1 c = σ c := fun c hc => by rw [h1]; (repeat' split) <;> first | (show us (us (us (rdZ σ) 18 _) 0 _) 0 _ c = _; rw [us_ne _ _ (by omega), us_ne _ _ (by omega), us_ne _ _ (by omega), rdZ_c _ (by omega)]) | (show us (rdZ σ) 0 _ c = _; rw [us_ne _ _ (by omega), rdZ_c _ (by omega)])
  have hb8 : 0 ≤ σ1 202 8 ∧ σ1 202 8 ≤ 100 := by rw [m 202 (by omega)]; exact hR.by8
  have htp : ∀ k, k < 100 → 0 ≤ σ1 208 k ∧ σ1 208 k ≤ 255 := by rw [m 208 (by omega)]; exact hR.mtp
  have hM := MP_rd σ1
  obtain ⟨a, b, c, d, e, f, g⟩ := id hR
  rcases rd_eq (σ := σ) (τ := σ1) (by rw [m 208 (by omega)]; exact hF.1) (by rw [m 202 (by omega)]; exact hF.2.1) hb8 htp with ⟨b1, b2, b3, b4, b5⟩ | ⟨b1, b2⟩
  · rw [if_pos b2] at h1
    refine ⟨hb8, htp, by rw [if_pos b2, if_pos b1]; exact eqR_hd b3 4 (by omega), ?_⟩
    rw [if_pos b1]
    have e4 := eqR_hd b3 4 (by omega)
    have o4 := b4.1
    have e2 : σ1 2 = rdZ σ 2 := by rw [h1]; rfl
    have e18 : σ1 18 = tkN (rdZ σ 18) (rdC σ 24) (mn (rdC σ 24)) := by rw [h1]; rfl
    have e3 : ∀ c, c ≠ 2 ∧ c ≠ 24 ∧ c ≠ 0 ∧ c ≠ 18 → σ1 c = σ c := fun c hc => by rw [h1]; show us (us (us (rdZ σ) 18 _) 0 _) 0 _ c = _; rw [us_ne _ _ (by omega), us_ne _ _ (by omega), us_ne _ _ (by omega), rdZ_c _ (by omega)]
    have e0 : ∀ j, j ≠ 8 ∧ j ≠ 9 → σ1 0 j = σ 0 j := fun j hj => by rw [h1]; show uf (uf (rdZ σ 0) 8 0) 9 0 j = _; rw [uf_ne _ _ (by omega), uf_ne _ _ (by omega), rdZ_c _ (by omega)]
    have e08 : σ1 0 8 = 0 := by rw [h1]; rfl
    have e09 : σ1 0 9 = 0 := by rw [h1]; rfl
    generalize hz : up (up (us (up (rdS σ1) 202 8 0) 206 (rdS σ1 209)) 202 4 1) 202 18 0 = z
    have hc : ∀ c, c ≠ 202 ∧ c ≠ 206 ∧ c ≠ 209 → z c = σ1 c := fun c hc => by rw [← hz]; show us (us (us (us (rdS σ1) 202 _) 206 _) 202 _) 202 _ c = _; rw [us_ne _ _ (by omega), us_ne _ _ (by omega), us_ne _ _ (by omega), us_ne _ _ (by omega)]; exact hM.1 c hc.1 hc.2.2
    have z6 : z 206 = rdS σ1 209 := by rw [← hz]; rfl
    have z4 : z 202 4 = 1 := by rw [← hz]; rfl
    have z8 : z 202 8 = 0 := by rw [← hz]; rfl
    have z18 : z 202 18 = 0 := by rw [← hz]; rfl
    have h2 : ∀ j, j ≠ 8 ∧ j ≠ 4 ∧ j ≠ 18 ∧ (j < 10 ∨ 14 < j) → z 202 j = σ 202 j := fun j hj => by rw [← hz]; show uf (uf (uf (rdS σ1 202) 8 0) 4 1) 18 0 j = _; rw [uf_ne _ _ (by omega), uf_ne _ _ (by omega), uf_ne _ _ (by omega), hM.2 j (by omega), m 202 (by omega)]
    have k : ∀ c, c ≠ 2 ∧ c ≠ 24 ∧ c ≠ 0 ∧ c ≠ 18 ∧ c ≠ 202 ∧ c ≠ 206 ∧ c ≠ 209 → z c = σ c := fun c q => by rw [hc c (by omega), e3 c (by omega)]
    refine ⟨⟨?_, Or.inr ?_, ?_, ?_, ?_⟩, ⟨⟨?_, ?_, ?_⟩, ?_⟩, RC_c c (k _ (by omega)) (k _ (by omega)) (fun c hc => k _ (by omega)), RD_c d (k _ (by omega)) (k _ (by omega)) (k _ (by omega)) (fun c hc => k _ (by omega)), RE_c e (by rw [hc 0 (by omega), e0 _ (by omega)]) (h2 _ (by omega)) (by rw [hc 0 (by omega), e0 _ (by omega)]) (h2 _ (by omega)), RF_rd f (k _ (by omega)) (k _ (by omega)) (by rw [hc 2 (by omega), e2]) z8, RG_c g (k _ (by omega)) (k _ (by omega)) (by rw [k 5 (by omega)]) (h2 _ (by omega))⟩
    · rw [hc 18 (by omega), z6, e18]; exact eqR_tr (eqR_tk _ (by omega)) b3
    · rw [z6]; exact ⟨b4, by rw [b5]; omega⟩
    · rw [z6, b5]; omega
    · rw [z6, z4, if_neg (by omega)]
    · rw [z6]; intro h; omega
    · rw [hc 0 (by omega), e08, z18]
    · rw [z18]; omega
    · rw [hc 0 (by omega), e09]; omega
    · rw [z18]; intro k hk; omega
  · rw [if_neg b2.1] at h1
    have nb : ¬ rdB σ1 = true := by rw [b1]; decide
    refine ⟨hb8, htp, by rw [if_neg b2.1, if_neg nb, b2.2.2], ?_⟩
    rw [if_neg nb]
    have e2 : σ1 2 = rdZ σ 2 := by rw [h1]; rfl
    have e3 : ∀ c, c ≠ 2 ∧ c ≠ 24 ∧ c ≠ 0 → σ1 c = σ c := fun c hc => by rw [h1]; show us (rdZ σ) 0 _ c = _; rw [us_ne _ _ (by omega), rdZ_c _ (by omega)]
    have e0 : ∀ j, j ≠ 14 → σ1 0 j = σ 0 j := fun j hj => by rw [h1]; show uf (rdZ σ 0) 14 _ j = _; rw [uf_ne _ _ (by omega), rdZ_c _ (by omega)]
    have e14 : σ1 0 14 = rdC σ 2 2 := by rw [h1]; rfl
    generalize hz : up (up (rdS σ1) 202 8 0) 202 9 (rdS σ1 202 14) = z
    have hc : ∀ c, c ≠ 202 ∧ c ≠ 209 → z c = σ1 c := fun c hc => by rw [← hz]; show us (us (rdS σ1) 202 _) 202 _ c = _; rw [us_ne _ _ (by omega), us_ne _ _ (by omega)]; exact hM.1 c hc.1 hc.2
    have z8 : z 202 8 = 0 := by rw [← hz]; rfl
    have z9 : z 202 9 = rdS σ1 202 14 := by rw [← hz]; rfl
    have h2 : ∀ j, j ≠ 8 ∧ j ≠ 9 ∧ (j < 10 ∨ 14 < j) → z 202 j = σ 202 j := fun j hj => by rw [← hz]; show uf (uf (rdS σ1 202) 8 0) 9 _ j = _; rw [uf_ne _ _ (by omega), uf_ne _ _ (by omega), hM.2 j (by omega), m 202 (by omega)]
    have k : ∀ c, c ≠ 2 ∧ c ≠ 24 ∧ c ≠ 0 ∧ c ≠ 202 ∧ c ≠ 209 → z c = σ c := fun c q => by rw [hc c (by omega), e3 c (by omega)]
    refine ⟨RA_c a (k _ (by omega)) (k _ (by omega)) (h2 _ (by omega)) (h2 _ (by omega)) (k _ (by omega)), RB_c b (by rw [hc 0 (by omega), e0 _ (by omega)]) (by rw [hc 0 (by omega), e0 _ (by omega)]) (h2 _ (by omega)) (k _ (by omega)) (fun c hc => k _ (by omega)), RC_c c (k _ (by omega)) (k _ (by omega)) (fun c hc => k _ (by omega)), RD_c d (k _ (by omega)) (k _ (by omega)) (k _ (by omega)) (fun c hc => k _ (by omega)), ⟨?_, ?_⟩, RF_rd f (k _ (by omega)) (k _ (by omega)) (by rw [hc 2 (by omega), e2]) z8, RG_c g (k _ (by omega)) (k _ (by omega)) (by rw [k 5 (by omega)]) (h2 _ (by omega))⟩
    · rw [hc 0 (by omega), e0 _ (by omega), h2 _ (by omega)]; exact e.1
    · rw [hc 0 (by omega), e14, z9]; exact b2.2.1