abbrev tnB (σ : Sg) (lo hi : Int) (at_ : Nat) (c : Int) : Prop := (σ 202 11 = 2 ∧ lo ≤ σ 202 12 ∧ σ 202 12 ≤ hi) ∧ (ntk (up σ 209 at_ (σ 202 12)) 202 11 = 1 ∧ ntk (up σ 209 at_ (σ 202 12)) 202 12 = c)
theorem tnS_ok {σ : Sg} {lo hi : Int} {a : Nat} {c : Int} (h : tnB σ lo hi a c) : tnS σ lo hi a c = ntk (ntk (up σ 209 a (σ 202 12))) := by
  unfold tnS tkS
  rw [if_pos h.1, if_pos h.2]
theorem PS_tn {σ : Sg} {b : Nat} {lo hi : Int} {a : Nat} {c : Int} (hp : PS σ b) (h : tnB σ lo hi a c) : PS (tnS σ lo hi a c) (tpl (σ 208) (σ 202 8).toNat (tpl (σ 208) (σ 202 8).toNat b)) := by
  rw [tnS_ok h]
  exact PS_ntk (PS_ntk (PS_209 hp))
theorem tnS_209 {σ : Sg} {lo hi : Int} {a : Nat} {c : Int} (j : Nat) (hj : j ≠ a) : tnS σ lo hi a c 209 j = σ 209 j := by
  unfold tnS tkS
  (repeat' split) <;> first | exact uf_ne _ _ hj | rfl
/-- an heir is read: the data behind its letter, and then -/
def rh1 (σ : Sg) (k : Int) : Sg := up (up (ntk σ) 209 (8 + (σ 209 4).toNat) k) 209 4 (σ 209 4 + 1)
def rhS (σ : Sg) (k : Int) : Sg := if σ 209 4 = 4 then up σ 202 14 3 else if tnB (rh1 σ k) 0 9 (12 + (σ 209 4).toNat) 44 then tnS (tnS (rh1 σ k) 0 9 (12 + (σ 209 4).toNat) 44) 0 9 (16 + (σ 209 4).toNat) 59 else tnS (rh1 σ k) 0 9 (12 + (σ 209 4).toNat) 44
abbrev rhB (σ : Sg) (k : Int) : Prop := ¬ σ 209 4 = 4 ∧ tnB (rh1 σ k) 0 9 (12 + (σ 209 4).toNat) 44 ∧ tnB (tnS (rh1 σ k) 0 9 (12 + (σ 209 4).toNat) 44) 0 9 (16 + (σ 209 4).toNat) 59
theorem PS_rh1 {σ : Sg} {b : Nat} {k : Int} (hp : PS σ b) : PS (rh1 σ k) (tpl (σ 208) (σ 202 8).toNat b) := PS_209 (PS_209 (PS_ntk hp))
theorem PS_rh {σ : Sg} {b : Nat} {k : Int} (hp : PS σ b) (h : rhB σ k) : ∃ b', PS (rhS σ k) b' := by
  unfold rhS
  rw [if_neg h.1, if_pos h.2.1]
  exact ⟨_, PS_tn (PS_tn (PS_rh1 hp) h.2.1) h.2.2⟩
