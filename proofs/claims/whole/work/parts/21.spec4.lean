def dw (f : Nat → Int) (num : Int) : Nat → Nat → Int
  | 0, _ => -1000000
  | n + 1, k => if itf mon k f 1 < num then (k : Int) else dw f num n (k + 1)
theorem dw_s (f : Nat → Int) (num : Int) (n k : Nat) : dw f num (n + 1) k = if itf mon k f 1 < num then (k : Int) else dw f num n (k + 1) := rfl
def drx (seed : Int) : Nat → Int
  | 0 => seed
  | n + 1 => drx seed n * 16807 % 2147483647
def drf (f : Nat → Int) (seed : Int) : Nat → Nat → Int
  | 0 => f
  | n + 1 => mon (uf (drf f seed n) 6 (drx seed (n + 1) % f 4))
theorem drx_bd {seed : Int} (h : 1 ≤ seed ∧ seed ≤ 999999) (n : Nat) : 0 ≤ drx seed n ∧ drx seed n < 2147483647 := by
  cases n with
  | zero => simp only [drx]; omega
  | succ n => simp only [drx]; omega
theorem okV_host {f : Nat → Int} (hok : okV f) {z : Int} (hz : 0 ≤ z ∧ z < f 4) : okV (uf f 6 z) := by
  obtain ⟨o4, o0, o1, o2, o3, o5, o6, o7, oH⟩ := id hok
  have e : ∀ j, j ≠ 6 → uf f 6 z j = f j := fun j h1 => by rw [uf_ne _ _ h1]
  unfold okV
  rw [e 0 (by omega), e 1 (by omega), e 2 (by omega), e 3 (by omega), e 4 (by omega), e 5 (by omega), uf_eq, e 7 (by omega)]
  refine ⟨o4, o0, o1, o2, o3, o5, hz, o7, fun q hq => ?_⟩
  obtain ⟨k8, k12, k16, k20, k24, k28, k32, k36, k40, k44⟩ := oH q hq
  unfold okH
  rw [e 5 (by omega), e (8 + q) (by omega), e (12 + q) (by omega), e (16 + q) (by omega), e (20 + q) (by omega), e (24 + q) (by omega), e (28 + q) (by omega), e (32 + q) (by omega), e (36 + q) (by omega), e (40 + q) (by omega), e (44 + q) (by omega)]
  exact ⟨k8, k12, k16, k20, k24, k28, k32, k36, k40, k44⟩
theorem okV_drf {f : Nat → Int} (hok : okV f) {seed : Int} (hs : 1 ≤ seed ∧ seed ≤ 999999) {n : Nat} (h5 : f 5 + n ≤ 10000) : okV (drf f seed n) ∧ drf f seed n 5 = f 5 + n ∧ drf f seed n 4 = f 4 := by
  induction n with
  | zero => exact ⟨hok, by simp [drf], rfl⟩
  | succ n ih =>
    obtain ⟨h1, h2, h3⟩ := ih (by omega)
    have o4 := hok.1
    have hz : 0 ≤ drx seed (n + 1) % f 4 ∧ drx seed (n + 1) % f 4 < drf f seed n 4 := by rw [h3]; exact ⟨Int.emod_nonneg _ (by omega), Int.emod_lt_of_pos _ (by omega)⟩
    have h4 := okV_host h1 hz
    have e5 : uf (drf f seed n) 6 (drx seed (n + 1) % f 4) 5 = f 5 + n := by rw [uf_ne _ _ (by omega), h2]
    refine ⟨okV_mon h4 (by omega), ?_, ?_⟩
    · show mon _ 5 = _
      rw [mon_5, e5]; omega
    · show mon _ 4 = _
      rw [mon_4 _ h4, uf_ne _ _ (by omega), h3]
def al (g g' : Nat → Int) : Nat → Bool
  | 0 => true
  | n + 1 => al g g' n && decide (g n = g' n)
theorem al_t {g g' : Nat → Int} {n : Nat} (h : al g g' n = true) (h2 : g n = g' n) : al g g' (n + 1) = true := by simp [al, h, h2]
theorem al_f1 {g g' : Nat → Int} {n : Nat} (h : ¬ al g g' n = true) : ¬ al g g' (n + 1) = true := by simp [al, h]
theorem al_f2 {g g' : Nat → Int} {n : Nat} (h : ¬ g n = g' n) : ¬ al g g' (n + 1) = true := by simp [al, h]
theorem al_congr {g g' k k' : Nat → Int} {n : Nat} (h : ∀ j : Nat, j < n → g j = k j ∧ g' j = k' j) : al g g' n = al k k' n := by
  induction n with
  | zero => rfl
  | succ n ih =>
    unfold al
    rw [ih (fun j hj => h j (by omega)), (h n (by omega)).1, (h n (by omega)).2]
def orI (a b : Int) : Int := (iI a ||| iI b).toInt
theorem orI_bd (a b : Int) : -2147483648 ≤ orI a b ∧ orI a b < 2147483648 := iI_bd _
theorem orI_0 {a : Int} (h : -2147483648 ≤ a ∧ a < 2147483648) : orI a 0 = a := by
  unfold orI
  rw [show iI 0 = 0 from rfl, Int32.or_zero, iI_toInt h]
theorem iI_or (a b : Int) : iI a ||| iI b = iI (orI a b) := by unfold orI; rw [iI_self]
def p2 (k : Nat) : Int := (2 : Int) ^ k
theorem iI_shl {k : Nat} (h : k < 9) : iI 1 <<< (iI (k : Int) &&& 31) = iI (p2 k) := by
  match k, h with
  | 0, _ => decide
  | 1, _ => decide
  | 2, _ => decide
  | 3, _ => decide
  | 4, _ => decide
  | 5, _ => decide
  | 6, _ => decide
  | 7, _ => decide
  | 8, _ => decide
  | n + 9, h => omega
def bt (P : Nat → Bool) : Nat → Int
  | 0 => 0
  | n + 1 => orI (bt P n) (if P n = true then p2 n else 0)
theorem bt_bd (P : Nat → Bool) (n : Nat) : -2147483648 ≤ bt P n ∧ bt P n < 2147483648 := by
  cases n with
  | zero => simp [bt]
  | succ n => exact orI_bd _ _
theorem bt_f {P : Nat → Bool} {n : Nat} (h : ¬ P n = true) : bt P (n + 1) = bt P n := by
  show orI _ _ = _
  rw [if_neg h, orI_0 (bt_bd P n)]
theorem bt_t {P : Nat → Bool} {n : Nat} (h : P n = true) : bt P (n + 1) = orI (bt P n) (p2 n) := by
  show orI _ _ = _
  rw [if_pos h]
section Zo
variable {p : Program} {l : Launch} {e : Env} {R : Room} {s : State} {m : MethodId} {args : Array Value} {below : List Frame} {meth : Method} {c : Code} {H : Heap} {locs : List Loc} {cells slots : Nat} {Q : State → Prop}
variable {cc : ByteArray} {pc : Nat} {ls : Array Slot} {rest : List Value}
theorem zi_or (hexec : p.tables.exec = Jvm.exec) (hb : c.code = cc) {x y : Int} (hdg : decode cc pc = .ok (.ior, 1)) (k : W p l e R s m args below meth c H locs cells slots Q (F0 m (pc + 1) ls (.int (iI (orI x y)) :: rest))) : W p l e R s m args below meth c H locs cells slots Q (F0 m pc ls (.int (iI y) :: .int (iI x) :: rest)) := lv_ior hexec hb hdg (by rw [iI_or]; exact k)
theorem zi_shl {k : Nat} {y : Int} (hexec : p.tables.exec = Jvm.exec) (hb : c.code = cc) (hy : y = (k : Int)) (hk : k < 9) (hdg : decode cc pc = .ok (.ishl, 1)) (kk : W p l e R s m args below meth c H locs cells slots Q (F0 m (pc + 1) ls (.int (iI (p2 k)) :: rest))) : W p l e R s m args below meth c H locs cells slots Q (F0 m pc ls (.int (iI y) :: .int (iI 1) :: rest)) := lv_ishl hexec hb hdg (by rw [hy, iI_shl hk]; exact kk)
end Zo
