/-- the class keeps the realm for undo: its ring of 24 -/
def kU (σ : Sg) : Sg := us (us σ (58 + 6 * (σ 0 9).toNat) (tkN (σ (58 + 6 * (σ 0 9).toNat)) (σ 18) (mn (σ 18)))) 0 (uf (uf (σ 0) 9 (if σ 0 9 = 23 then 0 else σ 0 9 + 1)) 8 (if 24 < σ 0 8 + 1 then 24 else σ 0 8 + 1))
theorem kU_c (σ : Sg) {c : Nat} (h : (0 < c ∧ c < 58) ∨ 202 ≤ c) (h9 : 0 ≤ σ 0 9 ∧ σ 0 9 ≤ 23) : kU σ c = σ c := by unfold kU; rw [us_ne _ _ (by omega), us_ne _ _ (by omega)]
theorem kU_0 (σ : Sg) : kU σ 0 = uf (uf (σ 0) 9 (if σ 0 9 = 23 then 0 else σ 0 9 + 1)) 8 (if 24 < σ 0 8 + 1 then 24 else σ 0 8 + 1) := us_eq _ _ _
theorem kU_09 (σ : Sg) : kU σ 0 9 = if σ 0 9 = 23 then 0 else σ 0 9 + 1 := by rw [kU_0]; rfl
theorem kU_08 (σ : Sg) : kU σ 0 8 = if 24 < σ 0 8 + 1 then 24 else σ 0 8 + 1 := by rw [kU_0]; rfl
/-- the place of the last act kept -/
def bk (σ : Sg) : Int := if σ 0 9 = 0 then 23 else σ 0 9 - 1
/-- a month of the class: kept, and gone by -/
def kM (σ : Sg) : Sg := us (kU σ) 18 (mon (σ 18))
theorem kM_18 (σ : Sg) : kM σ 18 = mon (σ 18) := us_eq _ _ _
theorem kM_0 (σ : Sg) : kM σ 0 = kU σ 0 := us_ne _ _ (by decide)
theorem kM_ok {σ : Sg} (ha : 0 ≤ σ 0 8 ∧ σ 0 8 ≤ 24) (h9 : 0 ≤ σ 0 9 ∧ σ 0 9 ≤ 23) {n : Nat} : itr kM n σ 18 = itf mon n (σ 18) ∧ (0 ≤ itr kM n σ 0 8 ∧ itr kM n σ 0 8 ≤ 24) ∧ (0 ≤ itr kM n σ 0 9 ∧ itr kM n σ 0 9 ≤ 23) := by
  induction n with
  | zero => exact ⟨rfl, ha, h9⟩
  | succ n ih =>
    obtain ⟨h1, h2, h3⟩ := ih
    refine ⟨?_, ?_, ?_⟩
    · show kM (itr kM n σ) 18 = mon (itf mon n (σ 18))
      rw [kM_18, h1]
    · show 0 ≤ kM (itr kM n σ) 0 8 ∧ kM (itr kM n σ) 0 8 ≤ 24
      rw [kM_0, kU_08]
      split <;> omega
    · show 0 ≤ kM (itr kM n σ) 0 9 ∧ kM (itr kM n σ) 0 9 ≤ 23
      rw [kM_0, kU_09]
      split <;> omega
/-- a letter tells: the told number, as it is kept -/
theorem tdec_let {z w : Int} (hz : 0 ≤ z ∧ z ≤ 50) (hw : 0 ≤ w ∧ w ≤ 49) : (if w < tdec z then w else tdec z) = tdec (if z = 0 ∨ w + 1 < z then w + 1 else z) := by
  unfold tdec
  (repeat' split) <;> omega
