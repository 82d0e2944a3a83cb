theorem e_4a {cy : Nat → ClassId} {B : Nat} {σ : Sg} {a : Nat} (h : a = 9 ∨ a = 10) : GW cy B σ a = ivA (cy 0) 4 (σ a) := by rcases h with rfl | rfl <;> rfl
theorem p_4a {cy : Nat → ClassId} {B : Nat} {σ : Sg} {a : Nat} (h : a = 9 ∨ a = 10) {z : Int} {j : Nat} : ∀ d, d < 217 → GW cy B (up σ a j z) d = if d = a then ivA (cy 0) 4 (uf (σ a) j z) else GW cy B σ d := by rcases h with rfl | rfl; exact p_9; exact p_10
theorem mod_wrap {h n : Int} (hh : 0 ≤ h ∧ h < n) : (h + 1) % n = if h + 1 < n then h + 1 else 0 := by
  split
  · exact Int.emod_eq_of_lt (by omega) (by omega)
  · rw [show h + 1 = n by omega, Int.emod_self]
