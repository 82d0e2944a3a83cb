/-- two realms that agree in all that counts: the head, and the heirs that there are -/
def eqR (f g : Nat → Int) : Prop := ∀ j : Nat, j < 48 → (j < 8 ∨ ((j % 4 : Nat) : Int) < f 4) → f j = g j
theorem eqR_hd {f g : Nat → Int} (h : eqR f g) (j : Nat) (hj : j < 8) : f j = g j := h j (by omega) (Or.inl hj)
theorem eqR_at {f g : Nat → Int} (h : eqR f g) (b k : Nat) (hb : b % 4 = 0 ∧ b ≤ 44) (hk4 : k < 4) (hk : (k : Int) < f 4) : f (b + k) = g (b + k) := h (b + k) (by omega) (Or.inr (by rw [show (b + k) % 4 = k from by omega]; exact hk))
theorem eqR_near {f g : Nat → Int} (h : eqR f g) (h4 : f 4 ≤ 4) : ∀ n : Nat, (n : Int) ≤ f 4 → near f n = near g n := by
  intro n
  induction n with
  | zero => intro _; rfl
  | succ n ih =>
    intro hn
    unfold near
    rw [eqR_at h 20 n (by omega) (by omega) (by omega), eqR_at h 24 n (by omega) (by omega) (by omega), ih (by omega)]
theorem eqR_says {f g : Nat → Int} (h : eqR f g) (h4 : f 4 ≤ 4) {k : Nat} (hk : (k : Int) < f 4) : says f k = says g k := by
  unfold says own
  rw [eqR_near h h4 k (by omega), eqR_at h 20 k (by omega) (by omega) hk, eqR_at h 24 k (by omega) (by omega) hk, eqR_at h 8 k (by omega) (by omega) hk, eqR_at h 12 k (by omega) (by omega) hk, eqR_at h 16 k (by omega) (by omega) hk]
theorem eqR_wt {f g : Nat → Int} (h : eqR f g) (h4 : f 4 ≤ 4) (b : Int) {k : Nat} (hk : (k : Int) < f 4) : wt f b k = wt g b k := by
  unfold wt
  rw [eqR_says h h4 hk, eqR_at h 28 k (by omega) (by omega) hk]
theorem eqR_mn {f g : Nat → Int} (h : eqR f g) : mn f = mn g := by unfold mn; rw [eqR_hd h 4 (by omega)]
theorem eqR_shr {f g : Nat → Int} (h : eqR f g) (h4 : f 4 ≤ 4) (b : Int) {k : Nat} (hk : (k : Int) < f 4) : shr f b k = shr g b k := by
  have hw : ∀ j : Nat, j < mn g → wt f b j = wt g b j := fun j hj => eqR_wt h h4 b (by rw [← eqR_mn h] at hj; unfold mn at hj; omega)
  unfold shr ct
  rw [eqR_mn h, eqR_hd h 0 (by omega), fg_congr hw, sm_congr hw, eqR_wt h h4 b hk, sm_congr (g := fun k => g 0 * wt f b k / sm (wt g b) (mn g)) (g' := fun k => g 0 * wt g b k / sm (wt g b) (mn g)) (fun j hj => by rw [hw j hj])]
theorem eqR_uf {f g : Nat → Int} (h : eqR f g) {j : Nat} (hj : j ≠ 4) (v : Int) : eqR (uf f j v) (uf g j v) := by
  intro i hi hc
  have e4 : uf f j v 4 = f 4 := if_neg (by omega)
  rw [e4] at hc
  unfold uf
  split
  · rfl
  · exact h i hi hc
theorem eqR_okV {f g : Nat → Int} (h : eqR f g) (hok : okV g) : okV f := by
  obtain ⟨o4, o0, o1, o2, o3, o5, o6, o7, oH⟩ := hok
  have e := fun j hj => eqR_hd h j hj
  have e0 := e 0 (by omega); have e1 := e 1 (by omega); have e2 := e 2 (by omega); have e3 := e 3 (by omega); have e4 := e 4 (by omega); have e5 := e 5 (by omega); have e6 := e 6 (by omega); have e7 := e 7 (by omega)
  refine ⟨by omega, by omega, by omega, by omega, by omega, by omega, by omega, by omega, fun k hk => ?_⟩
  have hk4 : k < 4 := by omega
  have hh := oH k (by omega)
  unfold okH at hh ⊢
  rw [eqR_at h 8 k (by omega) hk4 hk, eqR_at h 12 k (by omega) hk4 hk, eqR_at h 16 k (by omega) hk4 hk, eqR_at h 20 k (by omega) hk4 hk, eqR_at h 24 k (by omega) hk4 hk, eqR_at h 28 k (by omega) hk4 hk, eqR_at h 32 k (by omega) hk4 hk, eqR_at h 36 k (by omega) hk4 hk, eqR_at h 40 k (by omega) hk4 hk, eqR_at h 44 k (by omega) hk4 hk, e5]
  exact hh
