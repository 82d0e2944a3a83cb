theorem eqR_it {f g : Nat → Int} (h : eqR f g) (hok : okV g) {n : Nat} (h5 : g 5 + n ≤ 10000) : eqR (itf mon n f) (itf mon n g) := by
  induction n with
  | zero => exact h
  | succ n ih =>
    have h1 := ih (by omega)
    have h2 := (okV_it hok (n := n) (by omega)).1
    have h3 := eqR_okV h1 h2
    exact eqR_mon h1 h3.1.2 h3.2.2.2.2.2.2.1
theorem eqR_brk {f g : Nat → Int} (h : eqR f g) (h4 : f 4 ≤ 4) : brk f = brk g := by
  unfold brk
  rw [← eqR_mn h]
  exact sm_congr (fun k hk => eqR_at h 40 k (by omega) (by unfold mn at hk; omega) (by unfold mn at hk; omega))
theorem eqR_drf {f g : Nat → Int} (h : eqR f g) (hok : okV g) {s : Int} (hs : 1 ≤ s ∧ s ≤ 999999) {n : Nat} (h5 : g 5 + n ≤ 10000) : eqR (drf f s n) (drf g s n) := by
  induction n with
  | zero => exact h
  | succ n ih =>
    have h1 := ih (by omega)
    have h2 := okV_drf hok hs (n := n) (by omega)
    have h3 := eqR_okV h1 h2.1
    have e4 := eqR_hd h 4 (by omega)
    have e44 : drf f s n 4 = drf g s n 4 := eqR_hd h1 4 (by omega)
    have o4 := hok.1
    have hz1 := Int.emod_nonneg (drx s (n + 1)) (b := g 4) (by omega)
    have hz2 := Int.emod_lt_of_pos (drx s (n + 1)) (b := g 4) (by omega)
    show eqR (mon (uf (drf f s n) 6 (drx s (n + 1) % f 4))) (mon (uf (drf g s n) 6 (drx s (n + 1) % g 4)))
    rw [e4]
    have e4' : uf (drf f s n) 6 (drx s (n + 1) % g 4) 4 = g 4 := by rw [uf_ne _ _ (by omega), e44, h2.2.2]
    exact eqR_mon (eqR_uf h1 (by omega) _) (by rw [e4']; omega) (by rw [e4', uf_eq]; exact ⟨hz1, hz2⟩)
