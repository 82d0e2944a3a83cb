/-! the class's reader: tokens of the tape T of L bytes at place q -/
def cv (T : Nat → Int) (q : Nat) : Nat → Int
  | 0 => 0
  | k + 1 => 10 * cv T q k + T (q + k) - 48
def ctk (T : Nat → Int) (L q : Nat) : Int := if L ≤ q then 257 else if 0 < nd T (L - q) q then (if 2 < nd T (L - q) q then 258 else 256) else if (97 ≤ T q ∧ T q ≤ 122) ∨ T q = 44 ∨ T q = 59 then T q else 258
def ctv (T : Nat → Int) (L q : Nat) : Int := if L ≤ q then 0 else cv T q (nd T (L - q) q)
def ctp (T : Nat → Int) (L q : Nat) : Nat := if L ≤ q then q else if 0 < nd T (L - q) q then q + nd T (L - q) q else q + 1
/-- the reader behind a token: at 3, behind 4, token 5, value 6 -/
def rk (c : Nat → Int) (t v b : Int) : Nat → Int := fun j => if j = 3 then c 4 else if j = 4 then b else if j = 5 then t else if j = 6 then v else c j
def cnt (σ : Sg) : Sg := if σ 2 2 = 0 then us σ 2 (rk (σ 2) (ctk (σ 3) (σ 2 1).toNat (σ 2 4).toNat) (ctv (σ 3) (σ 2 1).toNat (σ 2 4).toNat) ((ctp (σ 3) (σ 2 1).toNat (σ 2 4).toNat : Nat) : Int)) else σ
/-- figures are read from 'at' on -/
def rfN (σ : Sg) : Nat := nd (σ 3) ((σ 2 1).toNat - (σ 2 3).toNat) (σ 2 3).toNat
def rfg (σ : Sg) : Sg := us σ 2 (uf (uf (uf (σ 2) 4 (σ 2 3 + (rfN σ : Int))) 6 (cv (σ 3) (σ 2 3).toNat (rfN σ))) 5 (if rfN σ ≤ 2 then 256 else 258))
def sgS (σ : Sg) (due : Int) : Sg := if σ 2 2 = 0 then (if σ 2 5 = due then cnt σ else up σ 2 2 1) else σ
def nuS (σ : Sg) (lo hi : Int) : Sg := if σ 2 2 = 0 then (if σ 2 5 = 256 then (if lo ≤ σ 2 6 ∧ σ 2 6 ≤ hi then cnt σ else up σ 2 2 2) else up σ 2 2 1) else σ
def RI (σ : Sg) : Prop := (0 ≤ σ 2 2 ∧ σ 2 2 ≤ 3) ∧ ((0 ≤ σ 2 4 ∧ σ 2 4 ≤ σ 2 1) ∧ σ 2 1 ≤ 100) ∧ (0 ≤ σ 2 5 ∧ σ 2 5 ≤ 300) ∧ (σ 2 5 = 256 → 0 ≤ σ 2 6 ∧ σ 2 6 ≤ 99) ∧ ∀ k, k < 100 → 0 ≤ σ 3 k ∧ σ 3 k ≤ 255
theorem cv_2 {T : Nat → Int} {q n : Nat} (hn : n ≤ 2) (hd : ∀ j, j < n → 48 ≤ T (q + j) ∧ T (q + j) ≤ 57) : 0 ≤ cv T q n ∧ cv T q n ≤ 99 ∧ cv T q n = mv T q n := by
  have : n = 0 ∨ n = 1 ∨ n = 2 := by omega
  rcases this with rfl | rfl | rfl
  · simp [cv, mv]
  · have h0 := hd 0 (by omega)
    simp [cv, mv] at *
    omega
  · have h0 := hd 0 (by omega)
    have h1 := hd 1 (by omega)
    simp [cv, mv] at *
    (repeat' split) <;> omega
theorem ctp_le {T : Nat → Int} {L q : Nat} (h : q ≤ L) : ctp T L q = tpl T L q ∧ q ≤ ctp T L q ∧ ctp T L q ≤ L := by
  have h1 := tpl_le (T := T) h
  have e : ctp T L q = tpl T L q := by
    unfold ctp tpl
    by_cases hq : q = L
    · rw [if_pos (by omega), if_pos hq]
    · rw [if_neg (by omega), if_neg hq]
  omega
theorem ctk_bd {T : Nat → Int} {L q : Nat} (hL : L ≤ 100) (hT : ∀ k, k < 100 → 0 ≤ T k ∧ T k ≤ 255) : 0 ≤ ctk T L q ∧ ctk T L q ≤ 300 := by
  unfold ctk
  by_cases h : L ≤ q
  · rw [if_pos h]; omega
  · have := hT q (by omega)
    rw [if_neg h]
    (repeat' split) <;> omega
theorem ctk_num {T : Nat → Int} {L q : Nat} (hL : L ≤ 100) (hT : ∀ k, k < 100 → 0 ≤ T k ∧ T k ≤ 255) (h : ctk T L q = 256) : ¬ L ≤ q ∧ 0 < nd T (L - q) q ∧ nd T (L - q) q ≤ 2 := by
  unfold ctk at h
  by_cases h1 : L ≤ q
  · rw [if_pos h1] at h; omega
  · have := hT q (by omega)
    rw [if_neg h1] at h
    by_cases h2 : 0 < nd T (L - q) q
    · rw [if_pos h2] at h
      by_cases h3 : 2 < nd T (L - q) q
      · rw [if_pos h3] at h; omega
      · omega
    · rw [if_neg h2] at h
      by_cases h3 : (97 ≤ T q ∧ T q ≤ 122) ∨ T q = 44 ∨ T q = 59
      · rw [if_pos h3] at h; omega
      · rw [if_neg h3] at h; omega
theorem ctv_num {T : Nat → Int} {L q : Nat} (hL : L ≤ 100) (hT : ∀ k, k < 100 → 0 ≤ T k ∧ T k ≤ 255) (h : ctk T L q = 256) : 0 ≤ ctv T L q ∧ ctv T L q ≤ 99 ∧ ctv T L q = tv T L q := by
  obtain ⟨h1, h2, h3⟩ := ctk_num hL hT h
  have h4 := cv_2 (T := T) (q := q) h3 (fun j hj => nd_dg T _ q j hj)
  unfold ctv tv
  rw [if_neg h1, if_neg (by omega), if_pos h2]
  exact h4
theorem rk_at (c : Nat → Int) (t v b : Int) (j : Nat) : rk c t v b j = if j = 3 then c 4 else if j = 4 then b else if j = 5 then t else if j = 6 then v else c j := rfl
theorem RI_24 {σ : Sg} {g : Nat → Int} (h : RI σ) : RI (us σ 24 g) := h
theorem RI_f {σ : Sg} (h : RI σ) {z : Int} (hz : 0 ≤ z ∧ z ≤ 3) : RI (up σ 2 2 z) := ⟨hz, h.2.1, h.2.2.1, h.2.2.2.1, h.2.2.2.2⟩
theorem cnt_ok {σ : Sg} (hf : σ 2 2 = 0) : cnt σ = us σ 2 (rk (σ 2) (ctk (σ 3) (σ 2 1).toNat (σ 2 4).toNat) (ctv (σ 3) (σ 2 1).toNat (σ 2 4).toNat) ((ctp (σ 3) (σ 2 1).toNat (σ 2 4).toNat : Nat) : Int)) := if_pos hf
theorem cnt_c (σ : Sg) {c : Nat} (h : c ≠ 2) : cnt σ c = σ c := by unfold cnt; split; exact us_ne _ _ h; rfl
theorem RI_cnt {σ : Sg} (h : RI σ) : RI (cnt σ) := by
  by_cases hf : σ 2 2 = 0
  · rw [cnt_ok hf]
    obtain ⟨h1, h2, h3, h4, h5⟩ := h
    have hp := ctp_le (T := σ 3) (L := (σ 2 1).toNat) (q := (σ 2 4).toNat) (by omega)
    refine ⟨?_, ?_, ?_, ?_, ?_⟩
    · show 0 ≤ σ 2 2 ∧ σ 2 2 ≤ 3; exact h1
    · show (0 ≤ ((ctp (σ 3) (σ 2 1).toNat (σ 2 4).toNat : Nat) : Int) ∧ ((ctp (σ 3) (σ 2 1).toNat (σ 2 4).toNat : Nat) : Int) ≤ σ 2 1) ∧ σ 2 1 ≤ 100
      omega
    · show 0 ≤ ctk (σ 3) (σ 2 1).toNat (σ 2 4).toNat ∧ ctk (σ 3) (σ 2 1).toNat (σ 2 4).toNat ≤ 300
      exact ctk_bd (by omega) h5
    · show ctk (σ 3) (σ 2 1).toNat (σ 2 4).toNat = 256 → 0 ≤ ctv (σ 3) (σ 2 1).toNat (σ 2 4).toNat ∧ ctv (σ 3) (σ 2 1).toNat (σ 2 4).toNat ≤ 99
      intro h6
      have := ctv_num (T := σ 3) (by omega : (σ 2 1).toNat ≤ 100) h5 h6
      omega
    · exact h5
  · unfold cnt; rw [if_neg hf]; exact h
theorem RI_sg {σ : Sg} (h : RI σ) (c : Int) : RI (sgS σ c) := by
  unfold sgS
  split
  · split
    · exact RI_cnt h
    · exact RI_f h (by omega)
  · exact h
theorem RI_nu {σ : Sg} (h : RI σ) (a b : Int) : RI (nuS σ a b) := by
  unfold nuS
  split
  · split
    · split
      · exact RI_cnt h
      · exact RI_f h (by omega)
    · exact RI_f h (by omega)
  · exact h
/-- the law's part of a text -/
def rl1 (σ : Sg) : Sg := sgS σ 107
def rl2 (σ : Sg) : Sg := up (nuS (rl1 σ) 1 99) 24 0 (rl1 σ 2 6)
def rl3 (σ : Sg) : Sg := sgS (rl2 σ) 44
def rl4 (σ : Sg) : Sg := up (nuS (rl3 σ) 0 99) 24 1 (rl3 σ 2 6)
def rl5 (σ : Sg) : Sg := sgS (rl4 σ) 44
def rl6 (σ : Sg) : Sg := up (nuS (rl5 σ) 0 9) 24 2 (rl5 σ 2 6)
def rl7 (σ : Sg) : Sg := sgS (rl6 σ) 44
def rl8 (σ : Sg) : Sg := up (nuS (rl7 σ) 0 3) 24 3 (rl7 σ 2 6)
def rl9 (σ : Sg) : Sg := sgS (rl8 σ) 59
theorem RI_1 {σ : Sg} (h : RI σ) : RI (rl1 σ) := RI_sg h _
theorem RI_2 {σ : Sg} (h : RI σ) : RI (rl2 σ) := RI_24 (RI_nu (RI_1 h) _ _)
theorem RI_3 {σ : Sg} (h : RI σ) : RI (rl3 σ) := RI_sg (RI_2 h) _
theorem RI_4 {σ : Sg} (h : RI σ) : RI (rl4 σ) := RI_24 (RI_nu (RI_3 h) _ _)
theorem RI_5 {σ : Sg} (h : RI σ) : RI (rl5 σ) := RI_sg (RI_4 h) _
theorem RI_6 {σ : Sg} (h : RI σ) : RI (rl6 σ) := RI_24 (RI_nu (RI_5 h) _ _)
theorem RI_7 {σ : Sg} (h : RI σ) : RI (rl7 σ) := RI_sg (RI_6 h) _
theorem RI_8 {σ : Sg} (h : RI σ) : RI (rl8 σ) := RI_24 (RI_nu (RI_7 h) _ _)
theorem RI_9 {σ : Sg} (h : RI σ) : RI (rl9 σ) := RI_sg (RI_8 h) _
def kbs (t : Int) : Int := if t = 112 then 1 else if t = 115 then 2 else if t = 106 then 3 else if t = 113 then 4 else if t = 105 then 5 else 0
theorem kbs_bd (t : Int) : 0 ≤ kbs t ∧ kbs t ≤ 5 := by unfold kbs; (repeat' split) <;> omega
/-- an heir's part of a text -/
def hr2 (σ : Sg) (i : Nat) : Sg := cnt (up σ 24 (8 + i) (kbs (σ 2 5)))
def hr3 (σ : Sg) (i : Nat) : Sg := up (nuS (hr2 σ i) 0 9) 24 (12 + i) (hr2 σ i 2 6)
def hr4 (σ : Sg) (i : Nat) : Sg := sgS (hr3 σ i) 44
def hr5 (σ : Sg) (i : Nat) : Sg := up (nuS (hr4 σ i) 0 9) 24 (16 + i) (hr4 σ i 2 6)
def hr6 (σ : Sg) (i : Nat) : Sg := sgS (hr5 σ i) 59
def hr7 (σ : Sg) (i : Nat) : Sg := up (hr6 σ i) 24 4 ((i : Int) + 1)
theorem RI_h2 {σ : Sg} (h : RI σ) (i : Nat) : RI (hr2 σ i) := RI_cnt (RI_24 h)
theorem RI_h3 {σ : Sg} (h : RI σ) (i : Nat) : RI (hr3 σ i) := RI_24 (RI_nu (RI_h2 h i) _ _)
theorem RI_h4 {σ : Sg} (h : RI σ) (i : Nat) : RI (hr4 σ i) := RI_sg (RI_h3 h i) _
theorem RI_h5 {σ : Sg} (h : RI σ) (i : Nat) : RI (hr5 σ i) := RI_24 (RI_nu (RI_h4 h i) _ _)
theorem RI_h6 {σ : Sg} (h : RI σ) (i : Nat) : RI (hr6 σ i) := RI_sg (RI_h5 h i) _
theorem RI_h7 {σ : Sg} (h : RI σ) (i : Nat) : RI (hr7 σ i) := RI_24 (RI_h6 h i)
def hst (σ : Sg) (i : Nat) : Sg := if kbs (σ 2 5) = 0 then up σ 2 2 1 else if i = 4 then up σ 2 2 3 else hr7 σ i
theorem RI_hst {σ : Sg} (h : RI σ) (i : Nat) : RI (hst σ i) := by
  unfold hst
  split
  · exact RI_f h (by omega)
  · split
    · exact RI_f h (by omega)
    · exact RI_h7 h i
def crr : Nat → Nat → Sg → Sg
  | 0, _, σ => σ
  | n + 1, i, σ => if σ 2 2 = 0 then (if σ 2 5 = 257 ∧ 2 ≤ i then σ else crr n (i + 1) (hst σ i)) else σ
theorem crr_s (n i : Nat) (σ : Sg) : crr (n + 1) i σ = if σ 2 2 = 0 then (if σ 2 5 = 257 ∧ 2 ≤ i then σ else crr n (i + 1) (hst σ i)) else σ := rfl
theorem RI_crr (n i : Nat) {σ : Sg} (h : RI σ) : RI (crr n i σ) := by
  induction n generalizing i σ with
  | zero => exact h
  | succ n ih =>
    rw [crr_s]
    split
    · split
      · exact h
      · exact ih _ (RI_hst h i)
    · exact h
/-- a whole text read into trial -/
def rd0 (σ : Sg) : Sg := cnt (up (up σ 2 2 0) 2 4 0)
def rdb (σ : Sg) : Sg := us (rd0 σ) 24 (rbk 4 (rd0 σ 24))
def rdC (σ : Sg) : Sg := crr 5 0 (rl9 (rdb σ))
def rdZ (σ : Sg) : Sg := up (rdC σ) 2 1 0
theorem cv_s (T : Nat → Int) (q k : Nat) : cv T q (k + 1) = 10 * cv T q k + T (q + k) - 48 := rfl
theorem nuS_c (σ : Sg) (a b : Int) {c : Nat} (h : c ≠ 2) : nuS σ a b c = σ c := by unfold nuS; (repeat' split) <;> first | exact cnt_c σ h | exact us_ne _ _ h | rfl
theorem sgS_c (σ : Sg) (a : Int) {c : Nat} (h : c ≠ 2) : sgS σ a c = σ c := by unfold sgS; (repeat' split) <;> first | exact cnt_c σ h | exact us_ne _ _ h | rfl
/-- what a reading starts from: any fault and any place -/
def RI0 (σ : Sg) : Prop := (0 ≤ σ 2 1 ∧ σ 2 1 ≤ 100) ∧ (0 ≤ σ 2 5 ∧ σ 2 5 ≤ 300) ∧ (σ 2 5 = 256 → 0 ≤ σ 2 6 ∧ σ 2 6 ≤ 99) ∧ ∀ k, k < 100 → 0 ≤ σ 3 k ∧ σ 3 k ≤ 255
theorem RI0.up {σ : Sg} (h : RI0 σ) : RI (up (up σ 2 2 0) 2 4 0) := ⟨by show (0 : Int) ≤ 0 ∧ (0 : Int) ≤ 3; omega, ⟨⟨by show (0 : Int) ≤ 0; omega, h.1.1⟩, h.1.2⟩, h.2.1, h.2.2.1, h.2.2.2⟩
