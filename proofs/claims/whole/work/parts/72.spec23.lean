theorem p_its {cy : Nat → ClassId} {B : Nat} {σ : Sg} {i : Nat} (h : i < 8) {f : Nat → Int} : ∀ d, d < 217 → GW cy B (us σ (30 + 2 * i + 1) f) d = if d = 30 + 2 * i + 1 then ivA (cy 0) 40 f else GW cy B σ d := fun d _ => by
  by_cases hd : d = 30 + 2 * i + 1
  · subst hd
    rw [if_pos rfl]
    have h1 := e_it (cy := cy) (B := B) (σ := us σ (30 + 2 * i + 1) f) h
    rw [us_eq] at h1
    exact h1
  · rw [GW_us (by omega), if_neg hd, if_neg hd]
theorem p_12s {cy : Nat → ClassId} {B : Nat} {σ : Sg} {f : Nat → Int} : ∀ d, d < 217 → GW cy B (us σ 12 f) d = if d = 12 then ivA (cy 0) 4 f else GW cy B σ d := fun d _ => by
  by_cases hd : d = 12
  · subst hd
    rfl
  · rw [GW_us (by omega), if_neg hd, if_neg hd]
theorem eqR_lva {f g : Nat → Int} (h : eqR f g) (hok : okV g) (G : Nat → Int) {n : Nat} (h5 : g 5 + n ≤ 10000) : lva f G n = lva g G n := by
  unfold lva
  exact al_congr (fun j hj => ⟨rfl, eqR_hd (eqR_it h hok (n := j + 1) (by omega)) 1 (by omega)⟩)
theorem prq_zero {f : Nat → Int} {p s : Int} {k n : Nat} (hk : k < n) (h : pq f p s k = 0) : prq f p s n = 0 := by
  induction n with
  | zero => omega
  | succ n ih =>
    simp only [prq]
    by_cases e : k = n
    · subst e; rw [h, Int.mul_zero]
    · rw [ih (by omega), Int.zero_mul]
theorem lie_s (f : Nat → Int) (s : Int) {k : Nat} (h : ¬ hs s k = true) : lie f s (k + 1) = lie f s k := by
  show uf (lie f s k) (24 + k) (if hs s k = true then 0 else f (24 + k)) = lie f s k
  rw [if_neg h, show f (24 + k) = lie f s k (24 + k) from by rw [lie_at, if_neg (by omega)], uf_id]
theorem lie_t (f : Nat → Int) (s : Int) {k : Nat} (h : hs s k = true) : lie f s (k + 1) = uf (lie f s k) (24 + k) 0 := by
  show uf (lie f s k) (24 + k) (if hs s k = true then 0 else f (24 + k)) = _
  rw [if_pos h]
/-- Euclid's steps, n at most -/
def ev : Nat → Int → Int → Int
  | 0, g, _ => g
  | n + 1, g, l => if l = 0 then g else ev n l (g % l)
theorem ev_gcd (n : Nat) : ∀ g l : Int, 0 ≤ g → 0 ≤ l → l < 2 ^ n → ev (2 * n) g l = ((Nat.gcd g.toNat l.toNat : Nat) : Int) := by
  induction n with
  | zero =>
    intro g l hg hl h
    have : l = 0 := by simp at h; omega
    subst this
    show g = _
    simp
    omega
  | succ n ih =>
    intro g l hg hl h
    rw [show 2 * (n + 1) = 2 * n + 1 + 1 from by omega]
    show (if l = 0 then g else ev (2 * n + 1) l (g % l)) = _
    by_cases h0 : l = 0
    · subst h0
      rw [if_pos rfl]
      simp
      omega
    · rw [if_neg h0]
      have hr0 := Int.emod_nonneg g h0
      have hr1 := Int.emod_lt_of_pos g (b := l) (by omega)
      rw [← gcd_step hg (by omega : 0 < l)]
      show (if g % l = 0 then l else ev (2 * n) (g % l) (l % (g % l))) = _
      generalize hr : g % l = r at *
      by_cases h1 : r = 0
      · subst h1
        rw [if_pos rfl]
        simp
        omega
      · rw [if_neg h1]
        have hq0 := Int.emod_nonneg l h1
        have hq1 := Int.emod_lt_of_pos l (b := r) (by omega)
        have hd := Int.emod_add_mul_ediv l r
        have hq : 1 ≤ l / r := by
          have := Int.le_ediv_of_mul_le (c := r) (a := 1) (b := l) (by omega) (by omega)
          exact this
        have hm : r * 1 ≤ r * (l / r) := Int.mul_le_mul_of_nonneg_left hq (by omega)
        rw [ih r (l % r) (by omega) hq0 (by rw [Int.pow_succ] at h; omega), gcd_step hl (by omega : 0 < r)]
theorem k_maxl {p : Program} {l : Launch} {e : Env} {R : Room} {s : State} {m : MethodId} {args : Array Value} {below : List Frame} {meth : Method} {c : Code} {H : Heap} {locs : List Loc} {cells slots : Nat} {Q : State → Prop} {cc : ByteArray} {pc nL : Nat} {ls : Array Slot} {rest : List Value} {own : String} (hx : p.tables.exec = Jvm.exec) (hb : c.code = cc) (hml : c.maxLocals = nL) (hown : s.vm.findClass own = some m.cls) (hts : ∀ w ∈ gw, w.before args s = true) (hsz : ls.size = nL) {index : Nat} {x y : Int} (hl : Cond.methodLink own index Lib.MathLoose.max_long.x ∈ gw) (h1 : Cond.static Lib.MathLoose.max_long.x ∈ gw ∧ Cond.initialized "java/lang/Math" ∈ gw ∧ Cond.code Lib.MathLoose.max_long.x Lib.MathLoose.max_long.code 4 (some .long) ∈ gw) (hRf : 1 ≤ R.frames) (hRl : (rest.map fun v => v.category).sum + 15 ≤ R.locals) (hcs : cells ≤ R.cells ∧ slots ≤ R.slots) (hbx : -9223372036854775808 ≤ x ∧ x < 9223372036854775808) (hby : -9223372036854775808 ≤ y ∧ y < 9223372036854775808) (hdg : decode cc pc = .ok (.invokestatic index, 3))
    (kk : W p l e R s m args below meth c H locs cells slots Q (F0 m (pc + 3) ls (.long (lI (if y < x then x else y)) :: rest))) : W p l e R s m args below meth c H locs cells slots Q (F0 m pc ls (.long (lI y) :: .long (lI x) :: rest)) := by
  refine va_mmax_long hx hb (hml.trans hsz.symm) hown (hts _ hl) (hts _ h1.1) (hts _ h1.2.1) (hts _ h1.2.2) hRf hRl hcs.1 hcs.2 hdg ?_
  have e1 : (lI y < lI x) ↔ y < x := by rw [Int64.lt_iff_toInt_lt, lI_toInt hby, lI_toInt hbx]
  by_cases h : y < x
  · rw [if_pos (e1.mpr h)]; rw [if_pos h] at kk; exact kk
  · rw [if_neg (fun q => h (e1.mp q))]; rw [if_neg h] at kk; exact kk
theorem ev_s (n : Nat) (g l : Int) : ev (n + 1) g l = if l = 0 then g else ev n l (g % l) := rfl
theorem n22 (σ : Sg) {c1 c2 : Nat} (a b c d : Nat → Int) (h : c1 ≠ c2) : us (us (us (us σ c1 a) c2 b) c1 c) c2 d = us (us σ c1 c) c2 d := by
  rw [us_comm (us σ c1 a) b c (Ne.symm h), us_us, us_us]
theorem zl_top {p : Program} {l : Launch} {e : Env} {R : Room} {s : State} {m : MethodId} {args : Array Value} {below : List Frame} {meth : Method} {c : Code} {H : Heap} {locs : List Loc} {cells slots : Nat} {Q : State → Prop} {pc : Nat} {ls : Array Slot} {rest : List Value} {x y : Int} (h : x = y) (k : W p l e R s m args below meth c H locs cells slots Q (F0 m pc ls (.long (lI y) :: rest))) : W p l e R s m args below meth c H locs cells slots Q (F0 m pc ls (.long (lI x) :: rest)) := h ▸ k
