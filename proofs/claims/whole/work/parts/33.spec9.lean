def hs (s : Int) (k : Nat) : Bool := decide (s / p2 k % 2 = 1)
def hschk : Bool := (List.range 16).all (fun s => (List.range 4).all (fun k => decide ((iI (s : Int) >>> (iI (k : Int) &&& 31)) &&& iI 1 = iI ((s : Int) / p2 k % 2))))
theorem hs_row {s k : Nat} (h : s < 16) (hk : k < 4) : (iI (s : Int) >>> (iI (k : Int) &&& 31)) &&& iI 1 = iI ((s : Int) / p2 k % 2) := by
  have hc : hschk = true := by decide +kernel
  exact of_decide_eq_true (List.all_eq_true.mp (List.all_eq_true.mp hc s (List.mem_range.mpr h)) k (List.mem_range.mpr hk))
def blw (f : Nat → Int) : Nat → Int
  | 0 => 1
  | n + 1 => blw f n * (if f (20 + n) = 1 then 10 else 1)
def pq (f : Nat → Int) (p s : Int) (n : Nat) : Int := if hs s n = true then (if f (20 + n) = 1 then 10 - p else 0) else (if f (20 + n) = 1 then p else 1)
def prq (f : Nat → Int) (p s : Int) : Nat → Int
  | 0 => 1
  | n + 1 => prq f p s n * pq f p s n
def lie (f : Nat → Int) (s : Int) : Nat → Nat → Int
  | 0 => f
  | n + 1 => uf (lie f s n) (24 + n) (if hs s n = true then 0 else f (24 + n))
theorem lie_at (f : Nat → Int) (s : Int) (n j : Nat) : lie f s n j = if 24 ≤ j ∧ j < 24 + n then (if hs s (j - 24) = true then 0 else f j) else f j := by
  induction n with
  | zero => rw [if_neg (by omega)]; rfl
  | succ n ih =>
    simp only [lie, uf]
    by_cases h : j = 24 + n
    · subst h
      rw [if_pos rfl, show 24 + n - 24 = n by omega]
      exact (if_pos (by omega)).symm
    · rw [if_neg h, ih]
      (repeat' split) <;> first | rfl | omega
def gst (f : Nat → Int) (s : Int) : Nat := fg (shr (lie f s (mn f)) (f 3)) (mn f)
def abv (f : Nat → Int) (p : Int) (e : Nat) : Nat → Int
  | 0 => 0
  | s + 1 => abv f p e s + (if gst f (s : Int) = e then prq f p (s : Int) (mn f) else 0)
theorem blw_bd {f : Nat → Int} {n : Nat} : 1 ≤ blw f n ∧ blw f n ≤ (10 : Int) ^ n := by
  induction n with
  | zero => simp [blw]
  | succ n ih =>
    simp only [blw, Int.pow_succ]
    split <;> omega
theorem pq_bd {f : Nat → Int} {p s : Int} (hp : 0 ≤ p ∧ p ≤ 10) (n : Nat) : 0 ≤ pq f p s n ∧ pq f p s n ≤ 10 := by
  unfold pq
  (repeat' split) <;> omega
theorem prq_bd {f : Nat → Int} {p s : Int} (hp : 0 ≤ p ∧ p ≤ 10) (n : Nat) : 0 ≤ prq f p s n ∧ prq f p s n ≤ (10 : Int) ^ n := by
  induction n with
  | zero => simp [prq]
  | succ n ih =>
    have h := pq_bd (f := f) (s := s) hp n
    simp only [prq, Int.pow_succ]
    exact ⟨Int.mul_nonneg ih.1 h.1, Int.mul_le_mul ih.2 h.2 h.1 (by omega)⟩
def oddsR (f : Nat → Int) (p : Int) (e : Nat) (w : Int) : Int := (if w = 0 then abv f p e (2 ^ mn f) else blw f (mn f)) / ((Nat.gcd (abv f p e (2 ^ mn f)).toNat (blw f (mn f)).toNat : Nat) : Int)
theorem okV_sd {f : Nat → Int} (hok : okV f) {h : Nat} (hh : (h : Int) < f 4) {z : Int} (hz : 0 ≤ z ∧ z ≤ 18) : okV (uf f (24 + h) z) := by
  refine okV_uf (g := 4) hok (by omega) hh ?_
  show okH (uf f (24 + h) z) h
  have o4 := hok.1
  obtain ⟨k8, k12, k16, k20, k24, k28, k32, k36, k40, k44⟩ := hok.2.2.2.2.2.2.2.2 h hh
  have e : ∀ j, j ≠ 24 + h → uf f (24 + h) z j = f j := fun j h1 => by rw [uf_ne _ _ h1]
  unfold okH
  rw [e 5 (by omega), e (8 + h) (by omega), e (12 + h) (by omega), e (16 + h) (by omega), e (20 + h) (by omega), e (44 + h) (by omega), e (28 + h) (by omega), e (32 + h) (by omega), e (36 + h) (by omega), e (40 + h) (by omega), uf_eq]
  exact ⟨k8, k12, k16, k20, hz, k28, k32, k36, k40, k44⟩
theorem okV_lie {f : Nat → Int} (hok : okV f) (s : Int) {n : Nat} (hn : (n : Int) ≤ f 4) : okV (lie f s n) ∧ lie f s n 4 = f 4 := by
  have o4 := hok.1
  induction n with
  | zero => exact ⟨hok, rfl⟩
  | succ n ih =>
    obtain ⟨h1, h2⟩ := ih (by omega)
    have h3 := (hok.2.2.2.2.2.2.2.2 n (by omega)).2.2.2.2.1
    refine ⟨okV_sd h1 (by rw [h2]; omega) (by split <;> omega), ?_⟩
    simp only [lie]
    rw [uf_ne _ _ (by omega), h2]
theorem ten_pow {n : Nat} (h : n ≤ 4) : (10 : Int) ^ n ≤ 10000 := by
  match n, h with
  | 0, _ => decide
  | 1, _ => decide
  | 2, _ => decide
  | 3, _ => decide
  | 4, _ => decide
  | n + 5, h => omega
theorem abv_bd {f : Nat → Int} {p : Int} (hp : 0 ≤ p ∧ p ≤ 10) (e : Nat) (hm : mn f ≤ 4) (s : Nat) : 0 ≤ abv f p e s ∧ abv f p e s ≤ 10000 * s := by
  induction s with
  | zero => simp [abv]
  | succ s ih =>
    have h1 := prq_bd (f := f) (s := (s : Int)) hp (mn f)
    have h2 := ten_pow hm
    simp only [abv]
    split <;> omega
theorem gcd_step {x y : Int} (hx : 0 ≤ x) (hy : 0 < y) : Nat.gcd y.toNat (x % y).toNat = Nat.gcd x.toNat y.toNat := by
  rw [Int.toNat_emod hx (by omega), Nat.gcd_comm x.toNat y.toNat, Nat.gcd_rec y.toNat x.toNat, Nat.gcd_comm]
theorem p2_pow (k : Nat) : p2 k = ((2 ^ k : Nat) : Int) := by unfold p2; simp
theorem p2_16 {k : Nat} (h : k ≤ 4) : p2 k ≤ 16 := by
  match k, h with
  | 0, _ => decide
  | 1, _ => decide
  | 2, _ => decide
  | 3, _ => decide
  | 4, _ => decide
  | n + 5, h => omega
