def rr0 (σ : Sg) : Sg := ntk (us (up σ 202 10 0) 209 (fun _ => 0))
abbrev tkB (σ : Sg) (c : Int) : Prop := σ 202 11 = 1 ∧ σ 202 12 = c
theorem PS_tk {σ : Sg} {b : Nat} {c : Int} (hp : PS σ b) (h : tkB σ c) : PS (tkS σ c) (tpl (σ 208) (σ 202 8).toNat b) := by
  unfold tkS
  rw [if_pos h]
  exact PS_ntk hp
def la1 (σ : Sg) : Sg := tkS (rr0 σ) 107
def la2 (σ : Sg) : Sg := tnS (la1 σ) 1 99 0 44
def la3 (σ : Sg) : Sg := tnS (la2 σ) 0 99 1 44
def la4 (σ : Sg) : Sg := tnS (la3 σ) 0 9 2 44
def la5 (σ : Sg) : Sg := tnS (la4 σ) 0 3 3 59
abbrev lB1 (σ : Sg) : Prop := tkB (rr0 σ) 107
abbrev lB2 (σ : Sg) : Prop := tnB (la1 σ) 1 99 0 44
abbrev lB3 (σ : Sg) : Prop := tnB (la2 σ) 0 99 1 44
abbrev lB4 (σ : Sg) : Prop := tnB (la3 σ) 0 9 2 44
abbrev lB5 (σ : Sg) : Prop := tnB (la4 σ) 0 3 3 59
def kd (σ : Sg) : Int := if tkB σ 112 then 1 else if tkB σ 115 then 2 else if tkB σ 106 then 3 else if tkB σ 113 then 4 else if tkB σ 105 then 5 else 0
def rrB : Nat → Sg → Bool
  | 0, _ => false
  | n + 1, σ => if σ 202 11 = 3 ∧ 2 ≤ σ 209 4 then true else if kd σ = 0 then false else if rhB σ (kd σ) then rrB n (rhS σ (kd σ)) else false
def rrS : Nat → Sg → Sg
  | 0, σ => σ
  | n + 1, σ => if σ 202 11 = 3 ∧ 2 ≤ σ 209 4 then σ else if kd σ = 0 then up σ 202 14 1 else if rhB σ (kd σ) then rrS n (rhS σ (kd σ)) else rhS σ (kd σ)
theorem kd_bd (σ : Sg) : 0 ≤ kd σ ∧ kd σ ≤ 5 := by
  unfold kd
  (repeat' split) <;> omega
theorem rhS_4 {σ : Sg} {k : Int} (h4 : 0 ≤ σ 209 4 ∧ σ 209 4 ≤ 4) (h : rhB σ k) : rhS σ k 209 4 = σ 209 4 + 1 := by
  unfold rhS
  rw [if_neg h.1, if_pos h.2.1, tnS_209 _ (by omega), tnS_209 _ (by omega)]
  rfl
abbrev lawB (σ : Sg) : Prop := lB1 σ ∧ lB2 σ ∧ lB3 σ ∧ lB4 σ ∧ lB5 σ
def rdB (σ : Sg) : Bool := decide (lawB σ) && rrB 6 (la5 σ)
def rdS (σ : Sg) : Sg := if lB1 σ then (if lB2 σ then (if lB3 σ then (if lB4 σ then (if lB5 σ then rrS 6 (la5 σ) else la5 σ) else la4 σ) else la3 σ) else la2 σ) else la1 σ
theorem PS_rr0 {σ : Sg} (hL : 0 ≤ σ 202 8 ∧ σ 202 8 ≤ 100) (hT : ∀ k, k < 100 → 0 ≤ σ 208 k ∧ σ 208 k ≤ 255) : PS (rr0 σ) 0 := PS_ntk0 (q := 0) rfl hL hT
theorem PS_la1 {σ : Sg} (hp : PS (rr0 σ) 0) (h1 : lB1 σ) : ∃ b, PS (la1 σ) b := ⟨_, PS_tk hp h1⟩
theorem PS_la2 {σ : Sg} (hp : ∃ b, PS (la1 σ) b) (h1 : lB2 σ) : ∃ b, PS (la2 σ) b := hp.elim (fun _ h => ⟨_, PS_tn h h1⟩)
theorem PS_la3 {σ : Sg} (hp : ∃ b, PS (la2 σ) b) (h1 : lB3 σ) : ∃ b, PS (la3 σ) b := hp.elim (fun _ h => ⟨_, PS_tn h h1⟩)
theorem PS_la4 {σ : Sg} (hp : ∃ b, PS (la3 σ) b) (h1 : lB4 σ) : ∃ b, PS (la4 σ) b := hp.elim (fun _ h => ⟨_, PS_tn h h1⟩)
theorem PS_la5 {σ : Sg} (hp : ∃ b, PS (la4 σ) b) (h1 : lB5 σ) : ∃ b, PS (la5 σ) b := hp.elim (fun _ h => ⟨_, PS_tn h h1⟩)
theorem la5_4 (σ : Sg) : la5 σ 209 4 = 0 := by
  unfold la5 la4 la3 la2
  rw [tnS_209 _ (by omega), tnS_209 _ (by omega), tnS_209 _ (by omega), tnS_209 _ (by omega)]
  unfold la1 tkS
  split <;> rfl
