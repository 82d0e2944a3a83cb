/-! realms that agree in what counts give the same answers -/
section Cg
variable {f g : Nat → Int}
theorem eqR_own (h : eqR f g) (h4 : f 4 ≤ 4) {k : Nat} (hk : (k : Int) < f 4) : own f k = own g k := by
  unfold own
  rw [eqR_near h h4 k (by omega), eqR_at h 8 k (by omega) (by omega) hk, eqR_at h 12 k (by omega) (by omega) hk, eqR_at h 16 k (by omega) (by omega) hk]
theorem eqR_spk (h : eqR f g) (k : Nat) (w n : Int) : eqR (spk f k w n) (spk g k w n) := eqR_uf (eqR_uf (eqR_uf h (by omega) _) (by omega) _) (by omega) _
theorem eqR_gk (h : eqR f g) (h4 : f 4 ≤ 4) {k : Nat} (hk : (k : Int) < f 4) (q : Nat) : gk f k q = gk g k q := by
  unfold gk gn
  have e4 : spk f k ((q : Int) / 41) ((q : Int) % 41) 4 = f 4 := spk_o _ _ _ _ (by omega)
  rw [eqR_hd h 3 (by omega), eqR_shr (eqR_spk h k _ _) (by rw [e4]; exact h4) (g 3) (by rw [e4]; exact hk)]
theorem eqR_bm (h : eqR f g) (h4 : f 4 ≤ 4) {k : Nat} (hk : (k : Int) < f 4) (q : Nat) : bm f k q = bm g k q := by
  induction q with
  | zero => rfl
  | succ q ih => simp only [bm]; rw [ih, eqR_gk h h4 hk q]
theorem eqR_bsp (h : eqR f g) (h4 : f 4 ≤ 4) {k : Nat} (hk : (k : Int) < f 4) (z : Int) (q : Nat) : bsp f k z q = bsp g k z q := by
  induction q with
  | zero => rfl
  | succ q ih => simp only [bsp]; rw [ih, eqR_gk h h4 hk q, eqR_bm h h4 hk q]
theorem bt_congr {P P' : Nat → Bool} {n : Nat} (h : ∀ k, k < n → P k = P' k) : bt P n = bt P' n := by
  induction n with
  | zero => rfl
  | succ n ih => simp only [bt]; rw [ih (fun k hk => h k (by omega)), h n (by omega)]
theorem eqR_raP (h : eqR f g) (h4 : f 4 ≤ 4) {k : Nat} (hk : (k : Int) < f 4) : raP f k = raP g k := by
  unfold raP nowg
  rw [eqR_bm h h4 hk, eqR_hd h 3 (by omega), eqR_shr h h4 (g 3) hk, eqR_at h 28 k (by omega) (by omega) hk]
theorem eqR_tst (h : eqR f g) (h4 : f 4 ≤ 4) : tst f = tst g := by
  unfold tst
  rw [← eqR_mn h]
  exact fg_congr (fun k hk => eqR_at h 12 k (by omega) (by unfold mn at hk; omega) (by unfold mn at hk; omega))
theorem eqR_tw (h : eqR f g) (k : Int) {n : Nat} (hn : n ≤ 4) : eqR (tw f k n) (tw g k n) := by
  induction n with
  | zero => exact h
  | succ n ih => exact eqR_uf (eqR_uf (ih (by omega)) (by omega) _) (by omega) _
theorem lea_congr {u v : Nat → Int} {m : Int} {n : Nat} (h : ∀ k, k < n → u k = v k) : lea u m n = lea v m n := by
  induction n with
  | zero => rfl
  | succ n ih => simp only [lea]; rw [ih (fun k hk => h k (by omega)), h n (by omega)]
theorem eqR_trB (h : eqR f g) (hok : okV g) (r : Int) {e : Nat} (he : (e : Int) < g 4) (n : Nat) : trB f r e n = trB g r e n := by
  have o4 := hok.1
  have e4 := eqR_hd h 4 (by omega)
  have hm := eqR_mn h
  have hmg : ((mn g : Nat) : Int) = g 4 := by unfold mn; omega
  induction n with
  | zero => rfl
  | succ n ih =>
    have ht := eqR_tw h (n : Int) (n := mn g) (by omega)
    have t4 : tw f (n : Int) (mn g) 4 = g 4 := by rw [tw_at _ _ (by omega), if_neg (by omega), if_neg (by omega), e4]
    have hs : ∀ k : Nat, k < mn g → shr (tw f (n : Int) (mn g)) r k = shr (tw g (n : Int) (mn g)) r k := fun k hk => eqR_shr ht (by omega) r (by omega)
    simp only [trB]
    rw [ih, hm, hs e (by omega), lea_congr hs]
theorem eqR_trP (h : eqR f g) (hok : okV g) (r : Nat) : trP f r = trP g r := by
  have o4 := hok.1
  have e4 := eqR_hd h 4 (by omega)
  have hmg : ((mn g : Nat) : Int) = g 4 := by unfold mn; omega
  unfold trP
  have htl : tst g < mn g := fg_lt _ (by omega)
  rw [eqR_tst h (by omega), eqR_trB h hok _ (by omega)]
theorem mfd_congr {P P' : Nat → Bool} (h : ∀ k, P k = P' k) (n : Nat) : mfd P n = mfd P' n := by
  induction n with
  | zero => rfl
  | succ n ih => simp only [mfd]; rw [ih, h]
theorem eqR_om (h : eqR f g) (hok : okV g) {n : Nat} (h5 : g 5 + n ≤ 10000) {r : Nat} (hr : r ≤ 256) : om f n r = om g n r ∧ ob f n r = ob g n r := by
  induction r with
  | zero => exact ⟨rfl, rfl⟩
  | succ r ih =>
    obtain ⟨h1, h2⟩ := ih (by omega)
    simp only [om, ob]
    rw [eqR_mn h, h1, h2]
    by_cases hi : isO (r : Int) (mn g) = true
    · rw [eqR_hd (eqR_orF h hok (by omega) hi h5) 1 (by omega)]
      exact ⟨rfl, rfl⟩
    · rw [if_neg (fun q => hi q.1), if_neg (fun q => hi q.1), if_neg (fun q => hi q.1), if_neg (fun q => hi q.1)]
      exact ⟨rfl, rfl⟩
theorem eqR_dw (h : eqR f g) (hok : okV g) (z : Int) (n : Nat) : ∀ k : Nat, g 5 + ((n + k : Nat) : Int) ≤ 10000 → dw f z n k = dw g z n k := by
  induction n with
  | zero => intro k _; rfl
  | succ n ih =>
    intro k h5
    rw [dw_s, dw_s, eqR_hd (eqR_it h hok (n := k) (by omega)) 1 (by omega), ih (k + 1) (by omega)]
theorem eqR_lvP (h : eqR f g) (hok : okV g) {k : Nat} (hk : (k : Int) < g 4) (G : Nat → Int) {n : Nat} (h5 : g 5 + n ≤ 10000) {v : Nat} (hv : v ≤ 9) : lvP f k G n v = lvP g k G n v := by
  have o4 := hok.1
  exact eqR_lva (eqR_uf h (by omega) _) (okV_love hok hk (by omega)) G (by rw [uf_ne _ _ (by omega)]; exact h5)
theorem mcd_congr {P P' : Nat → Bool} (h : ∀ k, k ≤ 9 → P k = P' k) (n : Nat) : mcd P n = mcd P' n ∧ mld P n = mld P' n := by
  induction n with
  | zero => exact ⟨rfl, rfl⟩
  | succ n ih => simp only [mcd, mld]; rw [ih.1, ih.2, h _ (by omega)]; exact ⟨rfl, rfl⟩
theorem lva_congr {u G G' : Nat → Int} {n : Nat} (h : ∀ j, j < n → G j = G' j) : lva u G n = lva u G' n := al_congr (fun j hj => ⟨h j hj, rfl⟩)
theorem eqR_mpP (h : eqR f g) (h4 : f 4 ≤ 4) {G G' : Nat → Int} (hG : ∀ j, j < mn g → G j = G' j) (b : Nat) : mpP f G b = mpP g G' b := by
  unfold mpP
  rw [eqR_mn h]
  exact al_congr (fun j hj => ⟨hG j hj, eqR_shr h h4 _ (by rw [← eqR_mn h] at hj; unfold mn at hj; omega)⟩)
theorem eqR_whP (h : eqR f g) (h4 : f 4 ≤ 4) {G G' : Nat → Int} (hG : ∀ j, j < mn g → G j = G' j) {k : Nat} (b : Nat) : whP f k G b = whP g k G' b := by
  unfold whP
  have e4 : uf f (8 + k) (b : Int) 4 = f 4 := uf_ne _ _ (by omega)
  rw [eqR_mn h, eqR_hd h 3 (by omega), al_congr (fun j hj => ⟨hG j hj, eqR_shr (eqR_uf h (by omega) (b : Int)) (by rw [e4]; exact h4) (g 3) (by rw [e4]; rw [← eqR_mn h] at hj; unfold mn at hj; omega)⟩)]
theorem eqR_lie (h : eqR f g) (s : Int) (n : Nat) : eqR (lie f s n) (lie g s n) := by
  intro j hj hc
  have e4 : lie f s n 4 = f 4 := by rw [lie_at, if_neg (by omega)]
  rw [e4] at hc
  rw [lie_at, lie_at, h j hj hc]
theorem eqR_odds (h : eqR f g) (hok : okV g) (p w : Int) {e : Nat} : oddsR f p e w = oddsR g p e w := by
  have o4 := hok.1
  have e4 := eqR_hd h 4 (by omega)
  have hm := eqR_mn h
  have hmg : ((mn g : Nat) : Int) = g 4 := by unfold mn; omega
  have hb : ∀ n : Nat, n ≤ mn g → blw f n = blw g n := by
    intro n
    induction n with
    | zero => intro _; rfl
    | succ n ih => intro hn; simp only [blw]; rw [ih (by omega), eqR_at h 20 n (by omega) (by omega) (by omega)]
  have hp : ∀ (s : Int) (n : Nat), n ≤ mn g → prq f p s n = prq g p s n := by
    intro s n
    induction n with
    | zero => intro _; rfl
    | succ n ih => intro hn; simp only [prq, pq]; rw [ih (by omega), eqR_at h 20 n (by omega) (by omega) (by omega)]
  have hg : ∀ s : Int, gst f s = gst g s := by
    intro s
    unfold gst
    rw [hm, eqR_hd h 3 (by omega)]
    have l4 : lie f s (mn g) 4 = g 4 := by rw [lie_at, if_neg (by omega), e4]
    exact fg_congr (fun k hk => eqR_shr (eqR_lie h s (mn g)) (by omega) (g 3) (by omega))
  have ha : ∀ s : Nat, abv f p e s = abv g p e s := by
    intro s
    induction s with
    | zero => rfl
    | succ s ih => simp only [abv]; rw [ih, hg, hm, hp _ _ (Nat.le_refl _)]
  unfold oddsR
  rw [hm, ha, hb _ (Nat.le_refl _)]
end Cg
