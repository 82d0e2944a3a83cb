theorem eqR_alw {f g : Nat → Int} (h : eqR f g) (h4 : f 4 ≤ 4) {k : Nat} (hk : (k : Int) < f 4) : alw f k = alw g k := by
  unfold alw
  rw [eqR_at h 44 k (by omega) (by omega) hk, eqR_at h 28 k (by omega) (by omega) hk, eqR_at h 36 k (by omega) (by omega) hk, eqR_at h 12 k (by omega) (by omega) hk, eqR_hd h 2 (by omega)]
theorem eqR_mth {f g : Nat → Int} (h : eqR f g) (h4 : f 4 ≤ 4) {k : Nat} (hk : (k : Int) < f 4) : eqR (mth f k) (mth g k) := by
  unfold mth
  rw [eqR_alw h h4 hk, eqR_at h 28 k (by omega) (by omega) hk, eqR_at h 36 k (by omega) (by omega) hk, eqR_at h 40 k (by omega) (by omega) hk, eqR_hd h 1 (by omega), eqR_hd h 4 (by omega), eqR_hd h 5 (by omega)]
  exact eqR_uf (eqR_uf (eqR_uf (eqR_uf (eqR_uf h (by omega) _) (by omega) _) (by omega) _) (by omega) _) (by omega) _
theorem eqR_mon {f g : Nat → Int} (h : eqR f g) (h4 : f 4 ≤ 4) (h6 : 0 ≤ f 6 ∧ f 6 < f 4) : eqR (mon f) (mon g) := by
  unfold mon
  rw [← eqR_hd h 6 (by omega)]
  exact eqR_mth h h4 (by omega)
