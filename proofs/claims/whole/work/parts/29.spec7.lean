def rs (k : Int) : Nat → Int
  | 0 => k
  | n + 1 => rs k n / 4
theorem rs_bd {k : Int} (h : 0 ≤ k ∧ k < 256) (n : Nat) : 0 ≤ rs k n ∧ rs k n < 256 := by
  induction n with
  | zero => exact h
  | succ n ih => simp only [rs]; omega
def tw (F : Nat → Int) (k : Int) : Nat → Nat → Int
  | 0 => F
  | n + 1 => uf (uf (tw F k n) (20 + n) 1) (24 + n) (6 * (rs k n % 4))
theorem tw_at (F : Nat → Int) (k : Int) {n : Nat} (hn : n ≤ 4) (j : Nat) : tw F k n j = if 20 ≤ j ∧ j < 20 + n then 1 else if 24 ≤ j ∧ j < 24 + n then 6 * (rs k (j - 24) % 4) else F j := by
  induction n with
  | zero => rw [if_neg (by omega), if_neg (by omega)]; rfl
  | succ n ih =>
    simp only [tw, uf]
    by_cases h1 : j = 24 + n
    · subst h1
      rw [if_pos rfl, if_neg (by omega), if_pos (by omega), show 24 + n - 24 = n by omega]
    · rw [if_neg h1]
      by_cases h2 : j = 20 + n
      · rw [if_pos h2, if_pos (by omega)]
      · rw [if_neg h2, ih (by omega)]
        (repeat' split) <;> first | rfl | omega
theorem tw_tw (F : Nat → Int) (k k' : Int) {n : Nat} (hn : n ≤ 4) : tw (tw F k n) k' n = tw F k' n := by
  funext j
  rw [tw_at _ _ hn, tw_at _ _ hn, tw_at _ _ hn]
  (repeat' split) <;> first | rfl | omega
theorem okV_said {f : Nat → Int} (hok : okV f) {h : Nat} (hh : (h : Int) < f 4) {w : Int} (hw : 0 ≤ w ∧ w ≤ 18) : okV (uf (uf f (20 + h) 1) (24 + h) w) := by
  have h4 := hok.1
  have h1 := okV_say hok hh hw (hok.2.2.2.2.2.2.2.2 h hh).2.2.2.2.2.1
  have e : uf (uf (uf f (20 + h) 1) (24 + h) w) (28 + h) (f (28 + h)) = uf (uf f (20 + h) 1) (24 + h) w := by
    have e2 : f (28 + h) = uf (uf f (20 + h) 1) (24 + h) w (28 + h) := by rw [uf_ne _ _ (by omega), uf_ne _ _ (by omega)]
    rw [e2, uf_id]
  rw [e] at h1
  exact h1
theorem okV_tw {f : Nat → Int} (hok : okV f) {k : Int} (hk : 0 ≤ k ∧ k < 256) {n : Nat} (hn : (n : Int) ≤ f 4) : okV (tw f k n) ∧ tw f k n 4 = f 4 ∧ tw f k n 3 = f 3 := by
  have h4 := hok.1
  induction n with
  | zero => exact ⟨hok, rfl, rfl⟩
  | succ n ih =>
    obtain ⟨h1, h2, h3⟩ := ih (by omega)
    have hr := rs_bd hk n
    simp only [tw]
    refine ⟨okV_said h1 (by rw [h2]; omega) (by omega), ?_, ?_⟩
    · rw [uf_ne _ _ (by omega), uf_ne _ _ (by omega), h2]
    · rw [uf_ne _ _ (by omega), uf_ne _ _ (by omega), h3]
def lea (g : Nat → Int) (m : Int) : Nat → Bool
  | 0 => true
  | n + 1 => lea g m n && decide (g n ≤ m)
def trB (f : Nat → Int) (r : Int) (e : Nat) : Nat → Bool
  | 0 => true
  | k + 1 => trB f r e k && lea (shr (tw f (k : Int) (mn f)) r) (shr (tw f (k : Int) (mn f)) r e) (mn f)
def trI (f : Nat → Int) (r : Int) (e k n : Nat) : Bool := trB f r e k && lea (shr (tw f (k : Int) (mn f)) r) (shr (tw f (k : Int) (mn f)) r e) n
theorem trI_t {f : Nat → Int} {r : Int} {e k n : Nat} (h : trI f r e k n = true) (h2 : shr (tw f (k : Int) (mn f)) r n ≤ shr (tw f (k : Int) (mn f)) r e) : trI f r e k (n + 1) = true := by
  unfold trI at *
  simp only [Bool.and_eq_true] at h
  simp [lea, h.1, h.2, h2]
theorem trI_f1 {f : Nat → Int} {r : Int} {e k n : Nat} (h : ¬ trI f r e k n = true) : ¬ trI f r e k (n + 1) = true := by
  unfold trI at *
  intro h2
  simp only [lea, Bool.and_eq_true] at h2
  exact h (by simp [h2.1, h2.2.1])
theorem trI_f2 {f : Nat → Int} {r : Int} {e k n : Nat} (h : ¬ shr (tw f (k : Int) (mn f)) r n ≤ shr (tw f (k : Int) (mn f)) r e) : ¬ trI f r e k (n + 1) = true := by
  unfold trI
  intro h2
  simp only [lea, Bool.and_eq_true] at h2
  exact h (of_decide_eq_true h2.2.2)
theorem trI_0 (f : Nat → Int) (r : Int) (e k : Nat) : trI f r e k 0 = trB f r e k := by unfold trI; simp [lea]
theorem fg1 (g : Nat → Int) : fg g 1 = 0 := by simp [fg]
def mfd (P : Nat → Bool) : Nat → Int
  | 0 => -1000000
  | d + 1 => if P (3 - d) = true then ((3 - d : Nat) : Int) else mfd P d
theorem mfd_t {P : Nat → Bool} {d : Nat} (hd : d ≤ 3) (h : P (3 - d) = true) : mfd P (d + 1) = 3 - (d : Int) := by simp only [mfd]; rw [if_pos h]; omega
theorem mfd_f {P : Nat → Bool} {d : Nat} (h : ¬ P (3 - d) = true) : mfd P (d + 1) = mfd P d := by simp only [mfd]; rw [if_neg h]
def tst (f : Nat → Int) : Nat := fg (fun h => f (12 + h)) (mn f)
def trP (f : Nat → Int) (r : Nat) : Bool := trB f (r : Int) (tst f) 256
