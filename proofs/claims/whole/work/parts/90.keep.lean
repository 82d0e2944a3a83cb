theorem eqR_of {f g : Nat → Int} (h : ∀ j, j < 48 → f j = g j) : eqR f g := fun j hj _ => h j hj
theorem eqR_tr {f g k : Nat → Int} (h1 : eqR f g) (h2 : eqR g k) : eqR f k := fun j hj hc => (h1 j hj hc).trans (h2 j hj (by rw [← eqR_hd h1 4 (by omega)]; exact hc))
theorem okM_of {f g : Nat → Int} (h : ∀ j, j < 48 → f j = g j) (hg : okM g) : okM f := ⟨eqR_okV (eqR_of h) hg.1, by rw [h 5 (by omega)]; exact hg.2⟩
theorem nta_f {a : Nat} {st acts : Nat → Int} (ha : a < 24) (k j : Nat) (hj : j < 48) : nta a st acts (48 * k + j) = if k = a then st j else acts (48 * k + j) := by
  unfold nta
  rw [if_neg (by omega), if_neg (by omega)]
  unfold cpo
  by_cases h : k = a
  · subst h
    rw [if_pos (by omega), if_pos rfl, show 48 * k + j - 48 * k = j from by omega]
  · rw [if_neg (by omega), if_neg h]
theorem nta_24 {st acts : Nat → Int} (k j : Nat) (hk : k < 24) (hj : j < 48) : nta 24 st acts (48 * k + j) = if k = 23 then st j else acts (48 * (k + 1) + j) := by
  unfold nta
  rw [if_pos rfl, if_pos rfl]
  unfold cpo cpy
  by_cases h : k = 23
  · subst h
    rw [if_pos (by omega), if_pos rfl, show 48 * 23 + j - 48 * 23 = j from by omega]
  · rw [if_neg (by omega), if_neg h, if_pos (by omega)]; show acts (48 * k + j + 48) = _; rw [show 48 * k + j + 48 = 48 * (k + 1) + j from by omega]
/-- an act is kept on both sides -/
theorem RB_keep {s t s' t' : Sg} (h : RB2 s t) (hq : eqR (s 18) (t 206)) (hok : okM (t 206)) (e8 : s' 0 8 = if 24 < s 0 8 + 1 then 24 else s 0 8 + 1) (e9 : s' 0 9 = if s 0 9 = 23 then 0 else s 0 9 + 1) (em : t' 202 18 = if t 202 18 = 24 then 24 else t 202 18 + 1) (e2 : t' 211 = nta (t 202 18).toNat (t 206) (t 211)) (eb : ∀ p : Nat, p < 24 → s' (58 + 6 * p) = if p = (s 0 9).toNat then tkN (s (58 + 6 * p)) (s 18) (mn (s 18)) else s (58 + 6 * p)) : RB2 s' t' := by
  obtain ⟨⟨a1, a2, a3⟩, a4⟩ := h
  have o4 := (eqR_okV hq hok.1).1
  refine ⟨⟨by rw [e8, em, a1]; (repeat' split) <;> omega, by rw [em]; split <;> omega, by rw [e9]; split <;> omega⟩, fun k hk => ?_⟩
  by_cases hf : t 202 18 = 24
  · rw [em, if_pos hf] at hk
    have hr : rg s' t' k = ((s 0 9).toNat + 1 + k) % 24 := by unfold rg; rw [e9, em, if_pos hf]; split <;> omega
    have e24 : (t 202 18).toNat = 24 := by omega
    by_cases h23 : k = 23
    · subst h23
      have hp : ((s 0 9).toNat + 1 + 23) % 24 = (s 0 9).toNat := by omega
      have hA : ∀ j, j < 48 → ak t' 23 j = t 206 j := fun j hj => by
        show t' 211 (48 * 23 + j) = _
        rw [e2, e24, nta_24 23 j (by omega) hj, if_pos rfl]
      rw [hr, hp, eb _ (by omega), if_pos rfl]
      exact ⟨eqR_tr (eqR_tr (eqR_tk _ o4) hq) (eqR_of (fun j hj => (hA j hj).symm)), okM_of hA hok⟩
    · have hA : ∀ j, j < 48 → ak t' k j = ak t (k + 1) j := fun j hj => by
        show t' 211 (48 * k + j) = t 211 (48 * (k + 1) + j)
        rw [e2, e24, nta_24 k j (by omega) hj, if_neg h23]
      have hp : rg s t (k + 1) = ((s 0 9).toNat + 1 + k) % 24 := by unfold rg; omega
      have ho := a4 (k + 1) (by omega)
      rw [hp] at ho
      rw [hr, eb _ (by omega), if_neg (by omega)]
      exact ⟨eqR_tr ho.1 (eqR_of (fun j hj => (hA j hj).symm)), okM_of hA ho.2⟩
  · rw [em, if_neg hf] at hk
    have hr : rg s' t' k = ((s 0 9).toNat + 24 - (t 202 18).toNat + k) % 24 := by unfold rg; rw [e9, em, if_neg hf]; split <;> omega
    by_cases hka : k = (t 202 18).toNat
    · have hp : ((s 0 9).toNat + 24 - (t 202 18).toNat + k) % 24 = (s 0 9).toNat := by omega
      have hA : ∀ j, j < 48 → ak t' k j = t 206 j := fun j hj => by
        show t' 211 (48 * k + j) = _
        rw [e2, nta_f (by omega) k j hj, if_pos hka]
      rw [hr, hp, eb _ (by omega), if_pos rfl]
      exact ⟨eqR_tr (eqR_tr (eqR_tk _ o4) hq) (eqR_of (fun j hj => (hA j hj).symm)), okM_of hA hok⟩
    · have hA : ∀ j, j < 48 → ak t' k j = ak t k j := fun j hj => by
        show t' 211 (48 * k + j) = t 211 (48 * k + j)
        rw [e2, nta_f (by omega) k j hj, if_neg hka]
      have ho := a4 k (by omega)
      have hp : rg s t k = ((s 0 9).toNat + 24 - (t 202 18).toNat + k) % 24 := rfl
      rw [hp] at ho
      rw [hr, eb _ (by omega), if_neg (by omega)]
      exact ⟨eqR_tr ho.1 (eqR_of (fun j hj => (hA j hj).symm)), okM_of hA ho.2⟩
theorem kU_be (σ : Sg) {p : Nat} (h9 : 0 ≤ σ 0 9 ∧ σ 0 9 ≤ 23) (hp : p < 24) : kU σ (58 + 6 * p) = if p = (σ 0 9).toNat then tkN (σ (58 + 6 * p)) (σ 18) (mn (σ 18)) else σ (58 + 6 * p) := by
  unfold kU
  rw [us_ne _ _ (by omega)]
  by_cases h : p = (σ 0 9).toNat
  · rw [← h, us_eq, if_pos rfl]
  · rw [us_ne _ _ (by omega), if_neg h]
theorem kU_im (σ : Sg) {c : Nat} (h9 : 0 ≤ σ 0 9 ∧ σ 0 9 ≤ 23) (hc : 1 ≤ c ∧ c < 58) : kU σ c = σ c := kU_c σ (by omega) h9
theorem kU_0j (σ : Sg) {j : Nat} (hj : j ≠ 8 ∧ j ≠ 9) : kU σ 0 j = σ 0 j := by rw [kU_0]; unfold uf; rw [if_neg hj.1, if_neg hj.2]
/-- one act of both: the class keeps and turns its realm to X, the model notes and turns its own to Y; what else the model does lies in what no answer shows -/
theorem Rel_act {σ τ : Sg} (h : Rel σ) (hok : okM (σ 206)) {X Y : Nat → Int} (hX : eqR X Y) (hY : okM Y) (h0 : ∀ j, τ 0 j = kU σ 0 j) (h18 : τ 18 = X) (h206 : τ 206 = Y) (h2 : ∀ j, j ≠ 18 → τ 202 j = σ 202 j) (h218 : τ 202 18 = if σ 202 18 = 24 then 24 else σ 202 18 + 1) (h211 : τ 211 = nta (σ 202 18).toNat (σ 206) (σ 211)) (hb : ∀ c, 58 ≤ c ∧ c < 202 → τ c = kU σ c) (hc : ∀ c, c ≠ 0 → c ≠ 18 → c ≠ 10 → c ≠ 206 → c ≠ 210 → c ≠ 202 → c ≠ 211 → (c < 58 ∨ 202 ≤ c) → τ c = σ c) : Rel τ := by
  obtain ⟨a, b, c, d, e, f, g⟩ := h
  have o4 := hY.1.1
  have h9 : 0 ≤ σ 0 9 ∧ σ 0 9 ≤ 23 := b.1.2.2
  have hd : ∀ c, c ≠ 0 ∧ c ≠ 18 ∧ c ≠ 10 ∧ c ≠ 206 ∧ c ≠ 210 ∧ c ≠ 202 ∧ c ≠ 211 ∧ (c < 58 ∨ 202 ≤ c) → τ c = σ c := fun c q => hc c q.1 q.2.1 q.2.2.1 q.2.2.2.1 q.2.2.2.2.1 q.2.2.2.2.2.1 q.2.2.2.2.2.2.1 q.2.2.2.2.2.2.2
  have z4 : ¬ σ 206 4 = 0 := by have := hok.1.1; omega
  refine ⟨⟨by rw [h18, h206]; exact hX, Or.inr (by rw [h206]; exact hY), by rw [h206]; exact hY.2, ?_, fun q => absurd q (by rw [h206]; omega)⟩, ?_, RC_c c (hd _ (by omega)) (hd _ (by omega)) (fun c hc => hd _ (by omega)), RD_c d (hd _ (by omega)) (hd _ (by omega)) (hd _ (by omega)) (fun c hc => hd _ (by omega)), RE_c e (by rw [h0, kU_0j _ (by omega)]) (h2 _ (by omega)) (by rw [h0, kU_0j _ (by omega)]) (h2 _ (by omega)), RF_c f (hd _ (by omega)) (hd _ (by omega)) (hd _ (by omega)) (h2 _ (by omega)), RG_c g (hd _ (by omega)) (hd _ (by omega)) (by rw [hd 5 (by omega)]) (h2 _ (by omega))⟩
  · rw [h2 4 (by omega), h206, if_neg (by omega), a.2.2.2.1, if_neg z4]
  · exact RB_keep b a.1 hok (by rw [h0, kU_08]) (by rw [h0, kU_09]) h218 h211 (fun p hp => by rw [hb _ (by omega), kU_be σ h9 hp])
