def rwj (r : Int) (m : Nat) (f : Nat → Int) : Nat → Nat → Int
  | 0 => f
  | j + 1 => uf (rwj r m f j) (m - 1 - j) (rs r j % 4)
def sn (r : Int) : Nat → Int
  | 0 => 0
  | j + 1 => orI (sn r j) (p2 (rs r j % 4).toNat)
theorem sn_bd (r : Int) (j : Nat) : -2147483648 ≤ sn r j ∧ sn r j < 2147483648 := by
  cases j with
  | zero => simp [sn]
  | succ j => exact orI_bd _ _
def isO (r : Int) (m : Nat) : Bool := decide (rs r m = 0) && decide (sn r m = p2 m - 1)
theorem rwj_at (r : Int) (m : Nat) (f : Nat → Int) {j : Nat} (hj : j ≤ m) (i : Nat) : rwj r m f j i = if m - j ≤ i ∧ i < m then rs r (m - 1 - i) % 4 else f i := by
  induction j with
  | zero => rw [if_neg (by omega)]; rfl
  | succ j ih =>
    simp only [rwj, uf]
    by_cases h : i = m - 1 - j
    · subst h
      rw [if_pos rfl, if_pos (by omega), show m - 1 - (m - 1 - j) = j by omega]
    · rw [if_neg h, ih (by omega)]
      (repeat' split) <;> first | rfl | omega
def isOchk (m : Nat) : Bool := (List.range 256).all (fun r => !(isO (r : Int) m) || (List.range m).all (fun j => decide (rs (r : Int) j % 4 < (m : Int))))
theorem isO_lt {r m : Nat} (hr : r < 256) (hm : 2 ≤ m ∧ m ≤ 4) (h : isO (r : Int) m = true) {j : Nat} (hj : j < m) : 0 ≤ rs (r : Int) j % 4 ∧ rs (r : Int) j % 4 < (m : Int) := by
  have hc : isOchk m = true := by
    have : m = 2 ∨ m = 3 ∨ m = 4 := by omega
    rcases this with rfl | rfl | rfl <;> decide +kernel
  have h1 := List.all_eq_true.mp hc r (List.mem_range.mpr hr)
  simp only [h, Bool.not_true, Bool.false_or] at h1
  have h2 := List.all_eq_true.mp h1 j (List.mem_range.mpr hj)
  exact ⟨by omega, of_decide_eq_true h2⟩
/-- the months by an order -/
def orF (f : Nat → Int) (r : Int) : Nat → Nat → Int
  | 0 => f
  | n + 1 => mon (uf (orF f r n) 6 (rs r (mn f - 1 - n % mn f) % 4))
theorem okV_orF {f : Nat → Int} (hok : okV f) {r : Nat} (hr : r < 256) (h : isO (r : Int) (mn f) = true) {n : Nat} (h5 : f 5 + n ≤ 10000) : okV (orF f r n) ∧ orF f r n 5 = f 5 + n ∧ orF f r n 4 = f 4 := by
  have o4 := hok.1
  have hm : ((mn f : Nat) : Int) = f 4 := by unfold mn; omega
  induction n with
  | zero => exact ⟨hok, by simp [orF], rfl⟩
  | succ n ih =>
    obtain ⟨h1, h2, h3⟩ := ih (by omega)
    have hz := isO_lt hr (m := mn f) (by omega) h (j := mn f - 1 - n % mn f) (by omega)
    have h4 := okV_host h1 (z := rs r (mn f - 1 - n % mn f) % 4) (by rw [h3]; omega)
    have e5 : uf (orF f r n) 6 (rs r (mn f - 1 - n % mn f) % 4) 5 = f 5 + n := by rw [uf_ne _ _ (by omega), h2]
    refine ⟨okV_mon h4 (by omega), ?_, ?_⟩
    · show mon _ 5 = _
      rw [mon_5, e5]; omega
    · show mon _ 4 = _
      rw [mon_4 _ h4, uf_ne _ _ (by omega), h3]
def om (f : Nat → Int) (n : Nat) : Nat → Int
  | 0 => -1
  | r + 1 => if isO (r : Int) (mn f) = true ∧ om f n r < orF f r n 1 then orF f r n 1 else om f n r
def ob (f : Nat → Int) (n : Nat) : Nat → Nat
  | 0 => 0
  | r + 1 => if isO (r : Int) (mn f) = true ∧ om f n r < orF f r n 1 then r else ob f n r
theorem om_bd {f : Nat → Int} (hok : okV f) {n : Nat} (h5 : f 5 + n ≤ 10000) {r : Nat} (hr : r ≤ 256) : -1 ≤ om f n r ∧ om f n r ≤ 99 := by
  induction r with
  | zero => simp [om]
  | succ r ih =>
    have h1 := ih (by omega)
    simp only [om]
    split
    · rename_i h
      have h2 := (okV_orF hok (by omega) h.1 h5).1.2.2.1
      omega
    · omega
theorem ob_bd (f : Nat → Int) (n r : Nat) : ob f n r ≤ r := by
  induction r with
  | zero => simp [ob]
  | succ r ih => simp only [ob]; split <;> omega
theorem ob_lt (f : Nat → Int) (n r : Nat) (h : 0 < r) : ob f n r < r := by
  cases r with
  | zero => omega
  | succ r => have := ob_bd f n r; simp only [ob]; split <;> omega
theorem p2_bd {k : Nat} (h : k < 9) : 1 ≤ p2 k ∧ p2 k ≤ 256 := by
  match k, h with
  | 0, _ => decide
  | 1, _ => decide
  | 2, _ => decide
  | 3, _ => decide
  | 4, _ => decide
  | 5, _ => decide
  | 6, _ => decide
  | 7, _ => decide
  | 8, _ => decide
  | n + 9, h => omega
