
theorem Rel_f {σ τ : Sg} (h : Rel σ) (hF : RF τ) (hc : ∀ c, c ≠ 2 → c ≠ 3 → c ≠ 208 → c ≠ 202 → τ c = σ c) (h2 : ∀ j, j ≠ 8 → τ 202 j = σ 202 j) : Rel τ := by
  have hd : ∀ c, c ≠ 2 ∧ c ≠ 3 ∧ c ≠ 208 ∧ c ≠ 202 → τ c = σ c := fun c q => hc c q.1 q.2.1 q.2.2.1 q.2.2.2
  have h0 := hd 0 (by omega)
  obtain ⟨a, b, c, d, e, f, g⟩ := h
  exact ⟨RA_c a (hd _ (by omega)) (hd _ (by omega)) (h2 _ (by omega)) (h2 _ (by omega)) (hd _ (by omega)), RB_c b (by rw [h0]) (by rw [h0]) (h2 _ (by omega)) (hd _ (by omega)) (fun c hc => hd _ (by omega)), RC_c c (hd _ (by omega)) (hd _ (by omega)) (fun c hc => hd _ (by omega)), RD_c d (hd _ (by omega)) (hd _ (by omega)) (hd _ (by omega)) (fun c hc => hd _ (by omega)), RE_c e (by rw [h0]) (h2 _ (by omega)) (by rw [h0]) (h2 _ (by omega)), hF, RG_c g (hd _ (by omega)) (hd _ (by omega)) (by rw [hd 5 (by omega)]) (h2 _ (by omega))⟩
theorem Rel_g {σ τ : Sg} (h : Rel σ) (hG : RG τ) (hc : ∀ c, c ≠ 5 → c ≠ 6 → c ≠ 216 → c ≠ 202 → τ c = σ c) (h2 : ∀ j, j ≠ 25 → τ 202 j = σ 202 j) : Rel τ := by
  have hd : ∀ c, c ≠ 5 ∧ c ≠ 6 ∧ c ≠ 216 ∧ c ≠ 202 → τ c = σ c := fun c q => hc c q.1 q.2.1 q.2.2.1 q.2.2.2
  have h0 := hd 0 (by omega)
  obtain ⟨a, b, c, d, e, f, g⟩ := h
  exact ⟨RA_c a (hd _ (by omega)) (hd _ (by omega)) (h2 _ (by omega)) (h2 _ (by omega)) (hd _ (by omega)), RB_c b (by rw [h0]) (by rw [h0]) (h2 _ (by omega)) (hd _ (by omega)) (fun c hc => hd _ (by omega)), RC_c c (hd _ (by omega)) (hd _ (by omega)) (fun c hc => hd _ (by omega)), RD_c d (hd _ (by omega)) (hd _ (by omega)) (hd _ (by omega)) (fun c hc => hd _ (by omega)), RE_c e (by rw [h0]) (h2 _ (by omega)) (by rw [h0]) (h2 _ (by omega)), RF_c f (hd _ (by omega)) (hd _ (by omega)) (hd _ (by omega)) (h2 _ (by omega)), hG⟩
/-- realm, acts or images change -/
theorem Rel_abc {σ τ : Sg} (h : Rel σ) (hA : RA τ) (hB : RB τ) (hC : RC τ) (hc : ∀ c, c < 46 ∨ 202 ≤ c → c ≠ 0 → c ≠ 18 → c ≠ 202 → c ≠ 206 → c ≠ 211 → c ≠ 214 → c ≠ 215 → τ c = σ c) (h0 : τ 0 14 = σ 0 14 ∧ τ 0 15 = σ 0 15) (h2 : ∀ j, j ≠ 4 → j ≠ 18 → τ 202 j = σ 202 j) : Rel τ := by
  have hd : ∀ c, (c < 46 ∨ 202 ≤ c) ∧ c ≠ 0 ∧ c ≠ 18 ∧ c ≠ 202 ∧ c ≠ 206 ∧ c ≠ 211 ∧ c ≠ 214 ∧ c ≠ 215 → τ c = σ c := fun c q => hc c q.1 q.2.1 q.2.2.1 q.2.2.2.1 q.2.2.2.2.1 q.2.2.2.2.2.1 q.2.2.2.2.2.2.1 q.2.2.2.2.2.2.2
  obtain ⟨a, b, c, d, e, f, g⟩ := h
  exact ⟨hA, hB, hC, RD_c d (hd _ (by omega)) (hd _ (by omega)) (hd _ (by omega)) (fun c hc => hd _ (by omega)), RE_c e h0.2 (h2 _ (by omega) (by omega)) h0.1 (h2 _ (by omega) (by omega)), RF_c f (hd _ (by omega)) (hd _ (by omega)) (hd _ (by omega)) (h2 _ (by omega) (by omega)), RG_c g (hd _ (by omega)) (hd _ (by omega)) (by rw [hd 5 (by omega)]) (h2 _ (by omega) (by omega))⟩
theorem tr_sync (l : List Int) : ∀ (s t : Sg), s 6 = t 216 → s 5 1 = t 202 25 → tcL s l 6 = tpL t l 216 ∧ tcL s l 5 1 = tpL t l 202 25 := by
  induction l with
  | nil => intro s t h1 h2; exact ⟨h1, h2⟩
  | cons b l ih =>
    intro s t h1 h2
    refine ih (tc s b) (tp t b) ?_ ?_
    · show uf (s 6) (s 5 1).toNat b = uf (t 216) (t 202 25).toNat b
      rw [h1, h2]
    · rw [tc_1, tp_25, h2]
theorem tpL_2 (σ : Sg) (l : List Int) {j : Nat} (h : j ≠ 25) : tpL σ l 202 j = σ 202 j := by
  induction l generalizing σ with
  | nil => rfl
  | cons b l ih => rw [tpL, ih]; show uf (us σ 216 _ 202) 25 _ j = _; rw [uf_ne _ _ h]; rfl
theorem Rel_ask {σ : Sg} (h : Rel σ) (l : List Int) (hl : l.length ≤ 16) : Rel (tpL (up (tcL (up σ 5 1 0) l) 202 25 0) l) := by
  have e202 : tcL (up σ 5 1 0) l 202 = σ 202 := by rw [tcL_c _ _ (by omega)]; rfl
  have e216 : tcL (up σ 5 1 0) l 216 = σ 216 := by rw [tcL_c _ _ (by omega)]; rfl
  have hs := tr_sync l (up σ 5 1 0) (up (tcL (up σ 5 1 0) l) 202 25 0) (by show σ 6 = tcL (up σ 5 1 0) l 216; rw [e216]; exact h.2.2.2.2.2.2.1) rfl
  refine Rel_g h ⟨?_, ?_, ?_⟩ (fun c h1 h2 h3 h4 => ?_) (fun j hj => ?_)
  · rw [tpL_c _ _ (by omega)]
    exact hs.1
  · rw [tpL_c _ _ (by omega : (5 : Nat) ≠ 216 ∧ (5 : Nat) ≠ 202)]
    exact hs.2
  · rw [tpL_25]
    show 0 ≤ (0 : Int) + l.length ∧ (0 : Int) + l.length ≤ 16
    omega
  · rw [tpL_c _ _ ⟨h3, h4⟩]
    show us (tcL (up σ 5 1 0) l) 202 _ c = _
    rw [us_ne _ _ h4, tcL_c _ _ ⟨h2, h1⟩]
    exact us_ne _ _ h1
  · rw [tpL_2 _ _ hj]
    show uf (tcL (up σ 5 1 0) l 202) 25 0 j = _
    rw [uf_ne _ _ hj, e202]
theorem lists_16 (k : Int) : (siL k).length ≤ 16 ∧ (mkL k).length ≤ 16 := by
  unfold siL mkL szL
  (repeat' split) <;> simp <;> omega
theorem q_feed {σ σ1 : Sg} (hR : Rel σ) (z_ : Int)  (h1 : σ1 = (if ¬ (0 ≤ z_ ∧ z_ ≤ 255) then σ else if σ 2 1 = 100 then σ else up (up σ 3 (σ 2 1).toNat z_) 2 1 (σ 2 1 + 1))) : (0 ≤ σ1 202 8 ∧ σ1 202 8 ≤ 100) ∧ (if ¬ (0 ≤ z_ ∧ z_ ≤ 255) then -1000001 else if σ 2 1 = 100 then -1000003 else σ 2 1 + 1) = (if ¬ (0 ≤ z_ ∧ z_ ≤ 255) then -1000001 else if σ1 202 8 = 100 then -1000003 else σ1 202 8 + 1) ∧ Rel (if ¬ (0 ≤ z_ ∧ z_ ≤ 255) then σ1 else if σ1 202 8 = 100 then σ1 else up (up σ1 208 (σ1 202 8).toNat z_) 202 8 (σ1 202 8 + 1)) := by
  have m : ∀ c, 202 ≤ c → σ1 c = σ c := fun c hc => by rw [h1]; (repeat' split) <;> first | rfl | (simp only [up, us]; (repeat' split) <;> first | rfl | (exfalso; omega))
  have hl := hR.2.2.2.2.2.1
  have hlL := hl.2.1
  refine ⟨(by rw [m 202 (by omega)]; exact hR.by8), ?_⟩
  rw [m 202 (by omega)]
  rw [hlL] at h1 ⊢
  by_cases hb : ¬ (0 ≤ z_ ∧ z_ ≤ 255)
  · rw [if_pos hb] at h1
    refine ⟨by first | rw [if_pos hb, if_pos hb] | rw [if_pos hb], ?_⟩
    rw [if_pos hb, h1]
    exact hR
  · by_cases hf : σ 202 8 = 100
    · rw [if_neg hb, if_pos hf] at h1
      refine ⟨by first | rw [if_neg hb, if_pos hf, if_neg hb, if_pos hf] | rw [if_neg hb, if_pos hf], ?_⟩
      rw [if_neg hb, if_pos hf, h1]
      exact hR
    · rw [if_neg hb, if_neg hf] at h1
      refine ⟨by rw [if_neg hb, if_neg hf], ?_⟩
      rw [if_neg hb, if_neg hf, h1]
      have h8 := hR.by8
      obtain ⟨k1, k2, k4, k5, k6, k7⟩ := hl
      refine Rel_f hR ⟨?_, rfl, ?_⟩ (by intros; simp only [up, us]; (repeat' split) <;> first | rfl | (exfalso; omega)) (by intro j hj; show uf (σ 202) 8 _ j = _; rw [uf_ne _ _ hj])
      · show uf (σ 3) (σ 202 8).toNat z_ = uf (σ 208) (σ 202 8).toNat z_
        rw [k1]
      · refine ⟨⟨by show 0 ≤ σ 202 8 + 1; omega, by show σ 202 8 + 1 ≤ 100; omega⟩, k5, k6, fun k hk => ?_⟩
        show 0 ≤ uf (σ 3) (σ 202 8).toNat z_ k ∧ uf (σ 3) (σ 202 8).toNat z_ k ≤ 255
        unfold uf
        split
        · omega
        · exact k7 k hk
theorem q_ask {σ σ1 : Sg} (hR : Rel σ) (h_ : Int) (z_ : Int)  (h1 : σ1 = (if ¬ (0 ≤ h_ ∧ h_ ≤ σ 18 4 - 1) ∨ ¬ (0 ≤ z_ ∧ z_ ≤ 1) then σ else if z_ = 0 then tcL (up σ 5 1 0) (siL (σ 18 (8 + h_.toNat))) else tcL (up σ 5 1 0) (mkL (σ 18 (8 + h_.toNat))))) : (σ1 206 4 = 0 ∨ okV (σ1 206)) ∧ (if ¬ (0 ≤ h_ ∧ h_ ≤ σ 18 4 - 1) ∨ ¬ (0 ≤ z_ ∧ z_ ≤ 1) then -1000001 else if z_ = 0 then siR (σ 18 (8 + h_.toNat)) (σ 18 (12 + h_.toNat)) (σ 18 (16 + h_.toNat)) h_ else mkR (σ 18 (8 + h_.toNat)) (σ 18 (12 + h_.toNat)) (σ 18 (16 + h_.toNat)) h_) = (if ¬ (0 ≤ h_ ∧ h_ ≤ σ1 206 4 - 1) ∨ ¬ (0 ≤ z_ ∧ z_ ≤ 1) then -1000001 else if z_ = 0 then siR (σ1 206 (8 + h_.toNat)) (σ1 206 (12 + h_.toNat)) (σ1 206 (16 + h_.toNat)) h_ else mkR (σ1 206 (8 + h_.toNat)) (σ1 206 (12 + h_.toNat)) (σ1 206 (16 + h_.toNat)) h_) ∧ Rel (if ¬ (0 ≤ h_ ∧ h_ ≤ σ1 206 4 - 1) ∨ ¬ (0 ≤ z_ ∧ z_ ≤ 1) then σ1 else if z_ = 0 then tpL (up σ1 202 25 0) (siL (σ1 206 (8 + h_.toNat))) else tpL (up σ1 202 25 0) (mkL (σ1 206 (8 + h_.toNat)))) := by
  have q := hR.1.1
  have e4 := hR.e18
  have f4 := hR.f4
  have m : ∀ c, 202 ≤ c → σ1 c = σ c := fun c hc => by rw [h1]; (repeat' split) <;> first | rfl | (rw [tcL_c _ _ (by omega)]; show us σ 5 _ c = _; rw [us_ne _ _ (by omega)])
  refine ⟨(by rw [m 206 (by omega)]; exact hR.o206), ?_⟩
  rw [m 206 (by omega)]
  rw [e4] at h1 ⊢
  by_cases hb : ¬ (0 ≤ h_ ∧ h_ ≤ σ 206 4 - 1) ∨ ¬ (0 ≤ z_ ∧ z_ ≤ 1)
  · rw [if_pos hb] at h1
    refine ⟨by first | rw [if_pos hb, if_pos hb] | rw [if_pos hb], ?_⟩
    rw [if_pos hb, h1]
    exact hR
  · have hn : h_.toNat < 4 ∧ ((h_.toNat : Nat) : Int) < σ 18 4 := by omega
    rw [eqR_at q 8 h_.toNat (by omega) hn.1 hn.2] at h1 ⊢
    rw [eqR_at q 12 h_.toNat (by omega) hn.1 hn.2, eqR_at q 16 h_.toNat (by omega) hn.1 hn.2]
    by_cases hz : z_ = 0
    · rw [if_neg hb, if_pos hz] at h1
      refine ⟨by first | rw [if_neg hb, if_pos hz, if_neg hb, if_pos hz] | rw [if_neg hb, if_pos hz], ?_⟩
      rw [if_neg hb, if_pos hz, h1]
      exact Rel_ask hR _ (lists_16 _).1
    · rw [if_neg hb, if_neg hz] at h1
      refine ⟨by first | rw [if_neg hb, if_neg hz, if_neg hb, if_neg hz] | rw [if_neg hb, if_neg hz], ?_⟩
      rw [if_neg hb, if_neg hz, h1]
      exact Rel_ask hR _ (lists_16 _).2
theorem q_image {σ σ1 : Sg} (hR : Rel σ) (z_ : Int)  (h1 : σ1 = (if ¬ (0 ≤ z_ ∧ z_ ≤ 1) then σ else if σ 18 4 = 0 then σ else us σ (46 + 6 * z_.toNat) (tkN (σ (46 + 6 * z_.toNat)) (σ 18) (mn (σ 18))))) : (σ1 206 4 = 0 ∨ okV (σ1 206)) ∧ (σ1 202 4 = if σ1 206 4 = 0 then 0 else 1) ∧ (if ¬ (0 ≤ z_ ∧ z_ ≤ 1) then -1000001 else if σ 18 4 = 0 then -1000002 else 1) = (if ¬ (0 ≤ z_ ∧ z_ ≤ 1) then -1000001 else if σ1 206 4 = 0 then -1000002 else 1) ∧ Rel (if ¬ (0 ≤ z_ ∧ z_ ≤ 1) then σ1 else if σ1 206 4 = 0 then σ1 else up (us σ1 215 (cpo (48 * z_.toNat) 48 (σ1 206) (σ1 215))) 214 z_.toNat 1) := by
  have q := hR.1.1
  have e4 := hR.e18
  have f4 := hR.f4
  have m : ∀ c, 202 ≤ c → σ1 c = σ c := fun c hc => by rw [h1]; (repeat' split) <;> first | rfl | (simp only [up, us]; (repeat' split) <;> first | rfl | (exfalso; omega))
  refine ⟨(by rw [m 206 (by omega)]; exact hR.o206), (by rw [m 202 (by omega), m 206 (by omega)]; exact hR.1.2.2.2.1), ?_⟩
  rw [m 206 (by omega), m 215 (by omega)]
  rw [e4] at h1 ⊢
  by_cases hb : ¬ (0 ≤ z_ ∧ z_ ≤ 1)
  · rw [if_pos hb] at h1
    refine ⟨by first | rw [if_pos hb, if_pos hb] | rw [if_pos hb], ?_⟩
    rw [if_pos hb, h1]
    exact hR
  · by_cases h0 : σ 206 4 = 0
    · rw [if_neg hb, if_pos h0] at h1
      refine ⟨by first | rw [if_neg hb, if_pos h0, if_neg hb, if_pos h0] | rw [if_neg hb, if_pos h0], ?_⟩
      rw [if_neg hb, if_pos h0, h1]
      exact hR
    · rw [if_neg hb, if_neg h0] at h1
      refine ⟨by first | rw [if_neg hb, if_neg h0, if_neg hb, if_neg h0] | rw [if_neg hb, if_neg h0], ?_⟩
      rw [if_neg hb, if_neg h0]
      have hok := hR.1.2.1.resolve_left h0
      obtain ⟨a1, a2, a3, a4, a5⟩ := hR.1
      have o4 := (eqR_okV q hok.1).1
      have hcp : ∀ j, j < 48 → cpo (48 * z_.toNat) 48 (σ 206) (σ 215) (48 * z_.toNat + j) = σ 206 j := fun j hj => by unfold cpo; rw [if_pos (by omega), show 48 * z_.toNat + j - 48 * z_.toNat = j from by omega]
      refine Rel_z (fun z hZ => ?_)
      have z214 : z 214 = uf (σ 214) z_.toNat 1 := by rw [hZ, h1]; simp (disch := omega) only [us_ne, us_eq]
      have z215 : z 215 = cpo (48 * z_.toNat) 48 (σ 206) (σ 215) := by rw [hZ, h1]; simp (disch := omega) only [us_ne, us_eq]
      have zi : z (46 + 6 * z_.toNat) = tkN (σ (46 + 6 * z_.toNat)) (σ 18) (mn (σ 18)) := by rw [hZ, h1]; simp (disch := omega) only [us_ne, us_eq]
      have zc : ∀ c, c ≠ 214 ∧ c ≠ 215 ∧ c ≠ (46 + 6 * z_.toNat) → z c = σ c := fun c hc => by rw [hZ, h1]; simp (disch := omega) only [us_ne, us_eq]
      refine Rel_abc hR ⟨?_, ?_, ?_, ?_, fun q9 => absurd q9 ?_⟩ ?_ ?_ (fun c q1 q2 q3 q4 q5 q6 q7 q8 => zc c (by omega)) ⟨by rw [zc 0 (by omega)], by rw [zc 0 (by omega)]⟩ (fun j _ _ => by rw [zc 202 (by omega)])
      · rw [zc 18 (by omega), zc 206 (by omega)]; exact a1
      · rw [zc 206 (by omega)]; exact a2
      · rw [zc 206 (by omega)]; exact a3
      · rw [zc 206 (by omega), zc 202 (by omega)]; exact a4
      · rw [zc 206 (by omega)]; exact h0
      · exact RB_c hR.2.1 (by rw [zc 0 (by omega)]) (by rw [zc 0 (by omega)]) (by rw [zc 202 (by omega)]) (zc _ (by omega)) (fun c hc => zc c (by omega))
      · intro k hk
        by_cases hkz : k = z_.toNat
        · subst hkz
          right
          refine ⟨by rw [z214, uf_eq], ?_, ?_⟩
          · rw [zi, z215]; exact eqR_tr (eqR_tr (eqR_tk _ o4) q) (eqR_of (fun j hj => (hcp j hj).symm))
          · rw [z215]; exact okM_of (fun j hj => hcp j hj) hok
        · have ho := hR.2.2.1 k hk
          have y1 : ∀ j, j < 48 → cpo (48 * z_.toNat) 48 (σ 206) (σ 215) (48 * k + j) = σ 215 (48 * k + j) := fun j hj => by unfold cpo; rw [if_neg (by omega)]
          rw [z214, uf_ne _ _ hkz, zc (46 + 6 * k) (by omega), z215]
          rcases ho with ⟨h8, h9⟩ | ⟨h7, h8, h9⟩
          · exact Or.inl ⟨h8, h9⟩
          · exact Or.inr ⟨h7, eqR_tr h8 (eqR_of (fun j hj => (y1 j hj).symm)), okM_of (fun j hj => y1 j hj) h9⟩