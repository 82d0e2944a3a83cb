def rr0 (σ : Sg) : Sg := ntk (us (up σ 202 10 0) 209 (fun _ => 0))
abbrev tkB (σ : Sg) (c : Int) : Prop := σ 202 11 = 1 ∧ σ 202 12 = c
theorem PS_tk {σ : Sg} {b : Nat} {c : Int} (hp : PS σ b) (h : tkB σ c) : PS (tkS σ c) (tpl (σ 208) (σ 202 8).toNat b) := by
  unfold tkS
  rw [if_pos h]
  exact PS_ntk hp
def la1 (σ : Sg) : Sg := tkS (rr0 σ) 107
def la2 (σ : Sg) : Sg := tnS (la1 σ) 1 99 0 44
def la3 (σ : Sg) : Sg := tnS (la2 σ) 0 99 1 44
def la4 (σ : Sg) : Sg := tnS (la3 σ) 0 9 2 44
def la5 (σ : Sg) : Sg := tnS (la4 σ) 0 3 3 59
abbrev lB1 (σ : Sg) : Prop := tkB (rr0 σ) 107
abbrev lB2 (σ : Sg) : Prop := tnB (la1 σ) 1 99 0 44
abbrev lB3 (σ : Sg) : Prop := tnB (la2 σ) 0 99 1 44
abbrev lB4 (σ : Sg) : Prop := tnB (la3 σ) 0 9 2 44
abbrev lB5 (σ : Sg) : Prop := tnB (la4 σ) 0 3 3 59
def kd (σ : Sg) : Int := if tkB σ 112 then 1 else if tkB σ 115 then 2 else if tkB σ 106 then 3 else if tkB σ 113 then 4 else if tkB σ 105 then 5 else 0
def rrB : Nat → Sg → Bool
  | 0, _ => false
  | n + 1, σ => if σ 202 11 = 3 ∧ 2 ≤ σ 209 4 then true else if kd σ = 0 then false else if rhB σ (kd σ) then rrB n (rhS σ (kd σ)) else false
def rrS : Nat → Sg → Sg
  | 0, σ => σ
  | n + 1, σ => if σ 202 11 = 3 ∧ 2 ≤ σ 209 4 then σ else if kd σ = 0 then up σ 202 14 1 else if rhB σ (kd σ) then rrS n (rhS σ (kd σ)) else rhS σ (kd σ)
theorem kd_bd (σ : Sg) : 0 ≤ kd σ ∧ kd σ ≤ 5 := by
  unfold kd
  (repeat' split) <;> omega
theorem rhS_4 {σ : Sg} {k : Int} (h4 : 0 ≤ σ 209 4 ∧ σ 209 4 ≤ 4) (h : rhB σ k) : rhS σ k 209 4 = σ 209 4 + 1 := by
  unfold rhS
  rw [if_neg h.1, if_pos h.2.1, tnS_209 _ (by omega), tnS_209 _ (by omega)]
  rfl
abbrev lawB (σ : Sg) : Prop := lB1 σ ∧ lB2 σ ∧ lB3 σ ∧ lB4 σ ∧ lB5 σ
def rdB (σ : Sg) : Bool := decide (lawB σ) && rrB 6 (la5 σ)
def rdS (σ : Sg) : Sg := if lB1 σ then (if lB2 σ then (if lB3 σ then (if lB4 σ then (if lB5 σ then rrS 6 (la5 σ) else la5 σ) else la4 σ) else la3 σ) else la2 σ) else la1 σ
theorem PS_rr0 {σ : Sg} (hL : 0 ≤ σ 202 8 ∧ σ 202 8 ≤ 100) (hT : ∀ k, k < 100 → 0 ≤ σ 208 k ∧ σ 208 k ≤ 255) : PS (rr0 σ) 0 := PS_ntk0 (q := 0) rfl hL hT
theorem PS_la1 {σ : Sg} (hp : PS (rr0 σ) 0) (h1 : lB1 σ) : ∃ b, PS (la1 σ) b := ⟨_, PS_tk hp h1⟩
theorem PS_la2 {σ : Sg} (hp : ∃ b, PS (la1 σ) b) (h1 : lB2 σ) : ∃ b, PS (la2 σ) b := hp.elim (fun _ h => ⟨_, PS_tn h h1⟩)
theorem PS_la3 {σ : Sg} (hp : ∃ b, PS (la2 σ) b) (h1 : lB3 σ) : ∃ b, PS (la3 σ) b := hp.elim (fun _ h => ⟨_, PS_tn h h1⟩)
theorem PS_la4 {σ : Sg} (hp : ∃ b, PS (la3 σ) b) (h1 : lB4 σ) : ∃ b, PS (la4 σ) b := hp.elim (fun _ h => ⟨_, PS_tn h h1⟩)
theorem PS_la5 {σ : Sg} (hp : ∃ b, PS (la4 σ) b) (h1 : lB5 σ) : ∃ b, PS (la5 σ) b := hp.elim (fun _ h => ⟨_, PS_tn h h1⟩)
theorem la5_4 (σ : Sg) : la5 σ 209 4 = 0 := by
  unfold la5 la4 la3 la2
  rw [tnS_209 _ (by omega), tnS_209 _ (by omega), tnS_209 _ (by omega), tnS_209 _ (by omega)]
  unfold la1 tkS
  split <;> rfl
theorem rr_step {σ τ : Sg} {b n : Nat} (hps : PS τ b) (q3 : 0 ≤ τ 209 4 ∧ τ 209 4 ≤ 4) (q4 : n = 6 - (τ 209 4).toNat) (q5 : rrB 6 (la5 σ) = rrB n τ) (q6 : rrS 6 (la5 σ) = rrS n τ) (hne : ¬ (τ 202 11 = 3 ∧ 2 ≤ τ 209 4)) (hk0 : ¬ kd τ = 0) : ((if rhB τ (kd τ) then (1 : Int) else 0) = 1 ∧ (∃ b, PS (rhS τ (kd τ)) b) ∧ (0 ≤ rhS τ (kd τ) 209 4 ∧ rhS τ (kd τ) 209 4 ≤ 4) ∧ n - 1 = 6 - (rhS τ (kd τ) 209 4).toNat ∧ rrB 6 (la5 σ) = rrB (n - 1) (rhS τ (kd τ)) ∧ rrS 6 (la5 σ) = rrS (n - 1) (rhS τ (kd τ))) ∨ ((if rhB τ (kd τ) then (1 : Int) else 0) = 0 ∧ rrB 6 (la5 σ) = false ∧ rrS 6 (la5 σ) = rhS τ (kd τ)) := by
  obtain ⟨m, rfl⟩ : ∃ m, n = m + 1 := ⟨n - 1, by omega⟩
  rw [show m + 1 - 1 = m by omega]
  simp only [rrB, rrS] at q5 q6
  rw [if_neg hne, if_neg hk0] at q5 q6
  by_cases hrb : rhB τ (kd τ)
  · have h4 := rhS_4 q3 hrb
    have h5 := hrb.1
    rw [if_pos hrb] at q5 q6
    exact Or.inl ⟨if_pos hrb, PS_rh hps hrb, by rw [h4]; omega, by rw [h4]; omega, q5, q6⟩
  · rw [if_neg hrb] at q5 q6
    exact Or.inr ⟨if_neg hrb, q5, q6⟩
theorem rr_stop {σ τ : Sg} {n : Nat} (hn : 0 < n) (q5 : rrB 6 (la5 σ) = rrB n τ) (q6 : rrS 6 (la5 σ) = rrS n τ) (hne : ¬ (τ 202 11 = 3 ∧ 2 ≤ τ 209 4)) (hk0 : kd τ = 0) : rrB 6 (la5 σ) = false ∧ rrS 6 (la5 σ) = up τ 202 14 1 := by
  obtain ⟨m, rfl⟩ : ∃ m, n = m + 1 := ⟨n - 1, by omega⟩
  simp only [rrB, rrS] at q5 q6
  rw [if_neg hne, if_pos hk0] at q5 q6
  exact ⟨q5, q6⟩
theorem rr_end {σ τ : Sg} {n : Nat} (hn : 0 < n) (q5 : rrB 6 (la5 σ) = rrB n τ) (q6 : rrS 6 (la5 σ) = rrS n τ) (he : τ 202 11 = 3 ∧ 2 ≤ τ 209 4) : rrB 6 (la5 σ) = true ∧ rrS 6 (la5 σ) = τ := by
  obtain ⟨m, rfl⟩ : ∃ m, n = m + 1 := ⟨n - 1, by omega⟩
  simp only [rrB, rrS] at q5 q6
  rw [if_pos he] at q5 q6
  exact ⟨q5, q6⟩
theorem rd_law {σ : Sg} (h : lawB σ) : rdB σ = rrB 6 (la5 σ) ∧ rdS σ = rrS 6 (la5 σ) := by
  refine ⟨by unfold rdB; rw [decide_eq_true h, Bool.true_and], ?_⟩
  unfold rdS
  rw [if_pos h.1, if_pos h.2.1, if_pos h.2.2.1, if_pos h.2.2.2.1, if_pos h.2.2.2.2]
