theorem n2_1 (σ : Sg) {c1 c2 : Nat} (a b c : Nat → Int) (h : c1 ≠ c2) : us (us (us σ c1 a) c2 b) c1 c = us (us σ c1 c) c2 b := by
  rw [us_comm (us σ c1 a) b c (Ne.symm h), us_us]
theorem mth_4 {f : Nat → Int} (hok : okV f) : mn (mon f) = mn f := by unfold mn; rw [mon_4 f hok]
theorem eqR_orF {f g : Nat → Int} (h : eqR f g) (hok : okV g) {r : Nat} (hr : r < 256) (hi : isO (r : Int) (mn g) = true) {n : Nat} (h5 : g 5 + n ≤ 10000) : eqR (orF f r n) (orF g r n) := by
  induction n with
  | zero => exact h
  | succ n ih =>
    have h1 := ih (by omega)
    have h2 := okV_orF hok hr hi (n := n) (by omega)
    have h3 := eqR_okV h1 h2.1
    have o4 := hok.1
    have hm : ((mn g : Nat) : Int) = g 4 := by unfold mn; omega
    have hmm := Nat.mod_lt n (y := mn g) (by omega)
    have hz := isO_lt hr (m := mn g) (by omega) hi (j := mn g - 1 - n % mn g) (by omega)
    have e44 : orF f r n 4 = g 4 := by rw [eqR_hd h1 4 (by omega), h2.2.2]
    show eqR (mon (uf (orF f r n) 6 (rs r (mn f - 1 - n % mn f) % 4))) (mon (uf (orF g r n) 6 (rs r (mn g - 1 - n % mn g) % 4)))
    rw [eqR_mn h]
    have e4' : uf (orF f r n) 6 (rs r (mn g - 1 - n % mn g) % 4) 4 = g 4 := by rw [uf_ne _ _ (by omega), e44]
    exact eqR_mon (eqR_uf h1 (by omega) _) (by rw [e4']; omega) (by rw [e4', uf_eq]; omega)
theorem mfd_skip {P : Nat → Bool} {k : Nat} (hk : k < 4) : mfd P (4 - k) = if P k = true then (k : Int) else mfd P (4 - (k + 1)) := by
  rw [show 4 - k = (3 - k) + 1 from by omega, show 4 - (k + 1) = 3 - k from by omega]
  simp only [mfd]
  rw [show 3 - (3 - k) = k from by omega]
theorem mm_bd {m : Nat} (hm : 2 ≤ m ∧ m ≤ 4) : m ^ m ≤ 256 := by
  have : m = 2 ∨ m = 3 ∨ m = 4 := by omega
  rcases this with rfl | rfl | rfl <;> decide
theorem mi_bd {m i : Nat} (hm : 2 ≤ m ∧ m ≤ 4) (hi : i ≤ 4) : m ^ i ≤ 256 := Nat.le_trans (Nat.pow_le_pow_right (by omega) hi) (by
  have : m = 2 ∨ m = 3 ∨ m = 4 := by omega
  rcases this with rfl | rfl | rfl <;> decide)
theorem bm_t {f : Nat → Int} {h k : Nat} (hc : bm f h k < gk f h k) : bm f h (k + 1) = gk f h k := if_pos hc
theorem bm_f {f : Nat → Int} {h k : Nat} (hc : ¬ bm f h k < gk f h k) : bm f h (k + 1) = bm f h k := if_neg hc
theorem bsp_t {f : Nat → Int} {h w n : Nat} {z : Int} (hn : n < 41) (hc : bm f h (41 * w + n) < gk f h (41 * w + n)) : bsp f h z (41 * w + n + 1) = 100 * (w : Int) + (n : Int) := by
  have e : bsp f h z (41 * w + n + 1) = 100 * (((41 * w + n : Nat) : Int) / 41) + ((41 * w + n : Nat) : Int) % 41 := if_pos hc
  rw [e]
  omega
theorem bsp_f {f : Nat → Int} {h k : Nat} {z : Int} (hc : ¬ bm f h k < gk f h k) : bsp f h z (k + 1) = bsp f h z k := if_neg hc
