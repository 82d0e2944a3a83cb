def itf (F : (Nat → Int) → Nat → Int) : Nat → (Nat → Int) → Nat → Int
  | 0, f => f
  | n + 1, f => F (itf F n f)
def itr (F : Sg → Sg) : Nat → Sg → Sg
  | 0, σ => σ
  | n + 1, σ => F (itr F n σ)
theorem mth_at (f : Nat → Int) (h j : Nat) : mth f h j = if j = 5 then f 5 + 1 else if j = 6 then ((h : Int) + 1) % f 4 else if j = 36 + h then f (36 + h) + 1 else if j = 40 + h then f (40 + h) + (if alw f h < f (28 + h) then 1 else 0) else if j = 1 then (if alw f h < f 1 then alw f h else f 1) else f j := by
  unfold mth uf
  rfl
theorem mth_o (f : Nat → Int) (h : Nat) {j : Nat} (hj : j ≠ 5 ∧ j ≠ 6 ∧ j ≠ 36 + h ∧ j ≠ 40 + h ∧ j ≠ 1) : mth f h j = f j := by
  rw [mth_at, if_neg hj.1, if_neg hj.2.1, if_neg hj.2.2.1, if_neg hj.2.2.2.1, if_neg hj.2.2.2.2]
theorem okV_mth {f : Nat → Int} (hok : okV f) {h : Nat} (hh : (h : Int) < f 4) (h5 : f 5 < 10000) : okV (mth f h) := by
  have hal := alw_bd hok hh
  obtain ⟨o4, o0, o1, o2, o3, o5, o6, o7, oH⟩ := id hok
  have e4 : mth f h 4 = f 4 := mth_o f h (by omega)
  have e5 : mth f h 5 = f 5 + 1 := by rw [mth_at, if_pos rfl]
  have e6 : mth f h 6 = ((h : Int) + 1) % f 4 := by rw [mth_at, if_neg (by omega), if_pos rfl]
  have e1 : mth f h 1 = if alw f h < f 1 then alw f h else f 1 := by rw [mth_at, if_neg (by omega), if_neg (by omega), if_neg (by omega), if_neg (by omega), if_pos rfl]
  refine ⟨by rw [e4]; exact o4, by rw [mth_o f h (by omega)]; exact o0, ?_, by rw [mth_o f h (by omega)]; exact o2, by rw [mth_o f h (by omega)]; exact o3, by rw [e5]; omega, ?_, by rw [mth_o f h (by omega)]; exact o7, ?_⟩
  · rw [e1]; split <;> omega
  · rw [e6, e4]
    exact ⟨Int.emod_nonneg _ (by omega), Int.emod_lt_of_pos _ (by omega)⟩
  · intro k hk
    rw [e4] at hk
    obtain ⟨k8, k12, k16, k20, k24, k28, k32, k36, k40, k44⟩ := oH k hk
    unfold okH
    rw [e5, mth_o f h (j := 8 + k) (by omega), mth_o f h (j := 12 + k) (by omega), mth_o f h (j := 16 + k) (by omega), mth_o f h (j := 20 + k) (by omega), mth_o f h (j := 24 + k) (by omega), mth_o f h (j := 28 + k) (by omega), mth_o f h (j := 32 + k) (by omega), mth_o f h (j := 44 + k) (by omega)]
    refine ⟨k8, k12, k16, k20, k24, k28, k32, ?_, ?_, k44⟩
    · by_cases e : k = h
      · subst e
        rw [mth_at, if_neg (by omega), if_neg (by omega), if_pos rfl]; omega
      · rw [mth_o f h (by omega)]; omega
    · by_cases e : k = h
      · subst e
        rw [mth_at, if_neg (by omega), if_neg (by omega), if_neg (by omega), if_pos rfl]
        split <;> omega
      · rw [mth_o f h (by omega)]; omega
theorem okV_mon {f : Nat → Int} (hok : okV f) (h5 : f 5 < 10000) : okV (mon f) := okV_mth hok (by have := hok.2.2.2.2.2.2.1; omega) h5
theorem mon_4 (f : Nat → Int) (hok : okV f) : mon f 4 = f 4 := mth_o f _ (by omega)
theorem mon_5 (f : Nat → Int) : mon f 5 = f 5 + 1 := by unfold mon; rw [mth_at, if_pos rfl]
theorem okV_it {f : Nat → Int} (hok : okV f) {n : Nat} (h5 : f 5 + n ≤ 10000) : okV (itf mon n f) ∧ itf mon n f 5 = f 5 + n ∧ itf mon n f 4 = f 4 := by
  induction n with
  | zero => exact ⟨hok, by simp [itf], rfl⟩
  | succ n ih =>
    obtain ⟨h1, h2, h3⟩ := ih (by omega)
    refine ⟨okV_mon h1 (by omega), ?_, ?_⟩
    · show mon (itf mon n f) 5 = _
      rw [mon_5, h2]; omega
    · show mon (itf mon n f) 4 = _
      rw [mon_4 _ h1, h3]
def mS (σ : Sg) : Sg := us (nS σ) 206 (mon (σ 206))
theorem mS_ok {σ : Sg} (ha : 0 ≤ σ 202 18 ∧ σ 202 18 ≤ 24) (hok : okV (σ 206)) {n : Nat} (h5 : σ 206 5 + n ≤ 10000) : itr mS n σ 206 = itf mon n (σ 206) ∧ 0 ≤ itr mS n σ 202 18 ∧ itr mS n σ 202 18 ≤ 24 := by
  induction n with
  | zero => exact ⟨rfl, ha⟩
  | succ n ih =>
    obtain ⟨h1, h2, h3⟩ := ih (by omega)
    refine ⟨?_, ?_⟩
    · show mon (itr mS n σ 206) = mon (itf mon n (σ 206))
      rw [h1]
    · show 0 ≤ uf (itr mS n σ 202) 18 (if itr mS n σ 202 18 = 24 then 24 else itr mS n σ 202 18 + 1) 18 ∧ uf (itr mS n σ 202) 18 (if itr mS n σ 202 18 = 24 then 24 else itr mS n σ 202 18 + 1) 18 ≤ 24
      rw [uf_eq]
      split <;> omega
theorem own_say {f : Nat → Int} {h : Nat} (h4 : h < 4) {a b c : Int} : own (uf (uf (uf f (20 + h) a) (24 + h) b) (28 + h) c) h = own f h := by
  have e : ∀ j, j ≠ 20 + h → j ≠ 24 + h → j ≠ 28 + h → uf (uf (uf f (20 + h) a) (24 + h) b) (28 + h) c j = f j := fun j h1 h2 h3 => by rw [uf_ne _ _ h3, uf_ne _ _ h2, uf_ne _ _ h1]
  have en : ∀ n, n ≤ h → near (uf (uf (uf f (20 + h) a) (24 + h) b) (28 + h) c) n = near f n := by
    intro n
    induction n with
    | zero => intro _; rfl
    | succ n ih =>
      intro hn
      unfold near
      rw [e (20 + n) (by omega) (by omega) (by omega), e (24 + n) (by omega) (by omega) (by omega), ih (by omega)]
  unfold own
  rw [en h (Nat.le_refl _), e (8 + h) (by omega) (by omega) (by omega), e (12 + h) (by omega) (by omega) (by omega), e (16 + h) (by omega) (by omega) (by omega)]
theorem okV_say {f : Nat → Int} (hok : okV f) {h : Nat} (hh : (h : Int) < f 4) {w k : Int} (hw : 0 ≤ w ∧ w ≤ 18) (hk : 0 ≤ k ∧ k ≤ 40) : okV (uf (uf (uf f (20 + h) 1) (24 + h) w) (28 + h) k) := by
  obtain ⟨o4, o0, o1, o2, o3, o5, o6, o7, oH⟩ := id hok
  have e : ∀ j, j ≠ 20 + h → j ≠ 24 + h → j ≠ 28 + h → uf (uf (uf f (20 + h) 1) (24 + h) w) (28 + h) k j = f j := fun j h1 h2 h3 => by rw [uf_ne _ _ h3, uf_ne _ _ h2, uf_ne _ _ h1]
  unfold okV
  rw [e 0 (by omega) (by omega) (by omega), e 1 (by omega) (by omega) (by omega), e 2 (by omega) (by omega) (by omega), e 3 (by omega) (by omega) (by omega), e 4 (by omega) (by omega) (by omega), e 5 (by omega) (by omega) (by omega), e 6 (by omega) (by omega) (by omega), e 7 (by omega) (by omega) (by omega)]
  refine ⟨o4, o0, o1, o2, o3, o5, o6, o7, fun q hq => ?_⟩
  obtain ⟨k8, k12, k16, k20, k24, k28, k32, k36, k40, k44⟩ := oH q hq
  unfold okH
  rw [e (8 + q) (by omega) (by omega) (by omega), e (12 + q) (by omega) (by omega) (by omega), e (16 + q) (by omega) (by omega) (by omega), e (32 + q) (by omega) (by omega) (by omega), e (36 + q) (by omega) (by omega) (by omega), e (40 + q) (by omega) (by omega) (by omega), e (44 + q) (by omega) (by omega) (by omega), e 5 (by omega) (by omega) (by omega)]
  refine ⟨k8, k12, k16, ?_, ?_, ?_, k32, k36, k40, k44⟩
  · by_cases q1 : q = h
    · subst q1; rw [uf_ne _ _ (by omega), uf_ne _ _ (by omega), uf_eq]; omega
    · rw [e _ (by omega) (by omega) (by omega)]; exact k20
  · by_cases q1 : q = h
    · subst q1; rw [uf_ne _ _ (by omega), uf_eq]; omega
    · rw [e _ (by omega) (by omega) (by omega)]; exact k24
  · by_cases q1 : q = h
    · subst q1; rw [uf_eq]; omega
    · rw [e _ (by omega) (by omega) (by omega)]; exact k28
