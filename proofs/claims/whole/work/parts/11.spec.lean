/-! a realm is a function f : Nat → Int, laid out as 0 land, 1 knights, 2 shrinks, 3 rule, 4 heirs, 5 month, 6 host, 7 parted, and for heir h 8 + h kind, 12 + h love, 16 + h tongue, 20 + h spoken, 24 + h said, 28 + h promised, 32 + h land, 36 + h hosted, 40 + h broken, 44 + h letter (0, or what it told and 1 more) -/
def near (f : Nat → Int) : Nat → Int
  | 0 => -1
  | h + 1 => if f (20 + h) = 1 then f (24 + h) else near f h
def own (f : Nat → Int) (h : Nat) : Int := if f (8 + h) = 4 then 0 else if f (8 + h) = 5 then 9 - f (12 + h) else if f (8 + h) = 2 then f (12 + h) + f (16 + h) else if f (8 + h) = 1 then f (12 + h) else if near f h < 0 then f (12 + h) else if near f h < 18 then near f h + 1 else 18
def says (f : Nat → Int) (h : Nat) : Int := if f (20 + h) = 1 then f (24 + h) else own f h
def wt (f : Nat → Int) (by_ : Int) (h : Nat) : Int := if by_ = 0 then says f h + 1 else if by_ = 1 then says f h + f (28 + h) + 1 else if by_ = 2 then 1 else 19 - says f h
def fg (g : Nat → Int) : Nat → Nat
  | 0 => 0
  | n + 1 => if g (fg g n) < g n then n else fg g n
def sm (g : Nat → Int) : Nat → Int
  | 0 => 0
  | n + 1 => sm g n + g n
def mn (f : Nat → Int) : Nat := (f 4).toNat
/-- what weights g give of land a, n heirs -/
def ct (a : Int) (g : Nat → Int) (n : Nat) (h : Nat) : Int := if h = fg g n then a * g h / sm g n + (a - sm (fun k => a * g k / sm g n) n) else a * g h / sm g n
def shr (f : Nat → Int) (by_ : Int) (h : Nat) : Int := ct (f 0) (wt f by_) (mn f) h
def alw (f : Nat → Int) (h : Nat) : Int := if 0 ≤ f (44 + h) - 1 ∧ f (44 + h) - 1 < (if f (28 + h) - f 2 * f (36 + h) < 0 then 0 else f (28 + h) - f 2 * f (36 + h)) + f (12 + h) then f (44 + h) - 1 else (if f (28 + h) - f 2 * f (36 + h) < 0 then 0 else f (28 + h) - f 2 * f (36 + h)) + f (12 + h)
def mth (f : Nat → Int) (h : Nat) : Nat → Int := uf (uf (uf (uf (uf f 1 (if alw f h < f 1 then alw f h else f 1)) (40 + h) (f (40 + h) + if alw f h < f (28 + h) then 1 else 0)) (36 + h) (f (36 + h) + 1)) 6 (((h : Int) + 1) % f 4)) 5 (f 5 + 1)
def mon (f : Nat → Int) : Nat → Int := mth f (f 6).toNat
/-- what every realm that is there keeps to -/
def okH (f : Nat → Int) (h : Nat) : Prop := (1 ≤ f (8 + h) ∧ f (8 + h) ≤ 5) ∧ (0 ≤ f (12 + h) ∧ f (12 + h) ≤ 9) ∧ (0 ≤ f (16 + h) ∧ f (16 + h) ≤ 9) ∧ (f (20 + h) = 0 ∨ f (20 + h) = 1) ∧ (0 ≤ f (24 + h) ∧ f (24 + h) ≤ 18) ∧ (0 ≤ f (28 + h) ∧ f (28 + h) ≤ 40) ∧ (0 ≤ f (32 + h) ∧ f (32 + h) ≤ 1000000) ∧ (0 ≤ f (36 + h) ∧ f (36 + h) ≤ f 5) ∧ (0 ≤ f (40 + h) ∧ f (40 + h) ≤ f 5) ∧ (0 ≤ f (44 + h) ∧ f (44 + h) ≤ 50)
def okV (f : Nat → Int) : Prop := (2 ≤ f 4 ∧ f 4 ≤ 4) ∧ (1 ≤ f 0 ∧ f 0 ≤ 99) ∧ (0 ≤ f 1 ∧ f 1 ≤ 99) ∧ (0 ≤ f 2 ∧ f 2 ≤ 9) ∧ (0 ≤ f 3 ∧ f 3 ≤ 3) ∧ (0 ≤ f 5 ∧ f 5 ≤ 10000) ∧ (0 ≤ f 6 ∧ f 6 < f 4) ∧ (f 7 = 0 ∨ f 7 = 1) ∧ ∀ h : Nat, (h : Int) < f 4 → okH f h
theorem mulb {a b : Int} (ha : 0 ≤ a ∧ a ≤ 9) (hb : 0 ≤ b ∧ b ≤ 10000) : 0 ≤ a * b ∧ a * b ≤ 90000 := ⟨Int.mul_nonneg ha.1 hb.1, by have h1 := Int.mul_le_mul ha.2 hb.2 hb.1 (by omega : (0 : Int) ≤ 9); omega⟩
theorem near_bd {f : Nat → Int} {n : Nat} (h : ∀ k : Nat, k < n → 0 ≤ f (24 + k) ∧ f (24 + k) ≤ 18) : -1 ≤ near f n ∧ near f n ≤ 18 := by
  induction n with
  | zero => simp [near]
  | succ n ih =>
    have h1 := ih (fun k hk => h k (by omega))
    have h2 := h n (by omega)
    unfold near
    split <;> omega
theorem okH_near {f : Nat → Int} (hok : okV f) {h : Nat} (hh : (h : Int) ≤ f 4) : -1 ≤ near f h ∧ near f h ≤ 18 := near_bd (fun k hk => (hok.2.2.2.2.2.2.2.2 k (by omega)).2.2.2.2.1)
theorem own_bd {f : Nat → Int} (hok : okV f) {h : Nat} (hh : (h : Int) < f 4) : 0 ≤ own f h ∧ own f h ≤ 18 := by
  have h1 := okH_near hok (h := h) (by omega)
  obtain ⟨a, b, c, d, e, -⟩ := hok.2.2.2.2.2.2.2.2 h hh
  unfold own
  repeat' split
  all_goals omega
theorem says_bd {f : Nat → Int} (hok : okV f) {h : Nat} (hh : (h : Int) < f 4) : 0 ≤ says f h ∧ says f h ≤ 18 := by
  have h1 := own_bd hok hh
  obtain ⟨a, b, c, d, e, -⟩ := hok.2.2.2.2.2.2.2.2 h hh
  unfold says
  split <;> omega
theorem wt_bd {f : Nat → Int} (hok : okV f) (by_ : Int) {h : Nat} (hh : (h : Int) < f 4) : 1 ≤ wt f by_ h ∧ wt f by_ h ≤ 59 := by
  have h1 := says_bd hok hh
  obtain ⟨a, b, c, d, e, g, -⟩ := hok.2.2.2.2.2.2.2.2 h hh
  unfold wt
  repeat' split
  all_goals omega
theorem fg_lt (g : Nat → Int) {n : Nat} (h : 0 < n) : fg g n < n := by
  induction n with
  | zero => omega
  | succ n ih =>
    unfold fg
    split
    · omega
    · by_cases h0 : 0 < n
      · have := ih h0; omega
      · have : n = 0 := by omega
        subst this
        simp [fg]
theorem sm_bd {g : Nat → Int} {n : Nat} {a b : Int} (h : ∀ k : Nat, k < n → a ≤ g k ∧ g k ≤ b) : a * n ≤ sm g n ∧ sm g n ≤ b * n := by
  induction n with
  | zero => simp [sm]
  | succ n ih =>
    have h1 := ih (fun k hk => h k (by omega))
    have h2 := h n (by omega)
    unfold sm
    rw [show ((n + 1 : Nat) : Int) = (n : Int) + 1 by omega, Int.mul_add, Int.mul_add]
    omega
theorem sm_congr {g g' : Nat → Int} {n : Nat} (h : ∀ k : Nat, k < n → g k = g' k) : sm g n = sm g' n := by
  induction n with
  | zero => rfl
  | succ n ih => unfold sm; rw [ih (fun k hk => h k (by omega)), h n (by omega)]
theorem fg_congr {g g' : Nat → Int} {n : Nat} (h : ∀ k : Nat, k < n → g k = g' k) : fg g n = fg g' n := by
  induction n with
  | zero => rfl
  | succ n ih =>
    have h1 := ih (fun k hk => h k (by omega))
    unfold fg
    by_cases h0 : 0 < n
    · have h2 := fg_lt g h0
      rw [h1] at h2 ⊢
      rw [h _ (by omega), h n (by omega)]
    · have : n = 0 := by omega
      subst this
      split <;> split <;> rfl
theorem alw_bd {f : Nat → Int} (hok : okV f) {h : Nat} (hh : (h : Int) < f 4) : 0 ≤ alw f h ∧ alw f h ≤ 49 := by
  obtain ⟨a, b, c, d, e, g, i, j, k, l⟩ := hok.2.2.2.2.2.2.2.2 h hh
  have h2 := hok.2.2.2.1
  have h5 := hok.2.2.2.2.2.1
  have hm := mulb (a := f 2) (b := f (36 + h)) h2 (by omega)
  unfold alw
  generalize f 2 * f (36 + h) = q at *
  repeat' split
  all_goals omega
theorem near_cases (f : Nat → Int) (j : Nat) : (j = 0 ∧ near f j = -1) ∨ (0 < j ∧ f (20 + (j - 1)) = 1 ∧ near f j = f (24 + (j - 1))) ∨ (0 < j ∧ ¬ f (20 + (j - 1)) = 1 ∧ near f j = near f (j - 1)) := by
  match j with
  | 0 => exact Or.inl ⟨rfl, rfl⟩
  | k + 1 =>
    right
    simp only [Nat.add_sub_cancel]
    by_cases h : f (20 + k) = 1
    · exact Or.inl ⟨by omega, h, by simp [near, h]⟩
    · exact Or.inr ⟨by omega, h, by simp [near, h]⟩
def cpy (n : Nat) (f g : Nat → Int) : Nat → Int := fun j => if j < n then f j else g j
def cpo (o n : Nat) (f g : Nat → Int) : Nat → Int := fun j => if o ≤ j ∧ j < o + n then f (j - o) else g j
theorem uf_cpy (n : Nat) (f g : Nat → Int) : uf (cpy n f g) n (f n) = cpy (n + 1) f g := by
  funext j
  unfold uf cpy
  repeat' split
  all_goals first | rfl | omega | (subst_vars; first | rfl | omega)
theorem up_cpy (σ : Sg) (c n : Nat) (f g : Nat → Int) : up (us σ c (cpy n f g)) c n (f n) = us σ c (cpy (n + 1) f g) := by
  show us (us σ c (cpy n f g)) c (uf (us σ c (cpy n f g) c) n (f n)) = _
  rw [us_us, us_eq, uf_cpy]
theorem us_cpy0 (σ : Sg) (c : Nat) (f : Nat → Int) : us σ c (cpy 0 f (σ c)) = σ := by
  have : cpy 0 f (σ c) = σ c := by funext j; unfold cpy; rw [if_neg (by omega)]
  rw [this, us_id]
theorem uf_cpo (o n : Nat) (f g : Nat → Int) : uf (cpo o n f g) (o + n) (f n) = cpo o (n + 1) f g := by
  funext j
  unfold uf cpo
  by_cases h : j = o + n
  · subst h
    rw [if_pos rfl, if_pos (by omega), show o + n - o = n by omega]
  · rw [if_neg h]
    by_cases h2 : o ≤ j ∧ j < o + n
    · rw [if_pos h2, if_pos (by omega)]
    · rw [if_neg h2, if_neg (by omega)]
theorem up_cpo (σ : Sg) (c o n : Nat) (f g : Nat → Int) : up (us σ c (cpo o n f g)) c (o + n) (f n) = us σ c (cpo o (n + 1) f g) := by
  show us (us σ c (cpo o n f g)) c (uf (us σ c (cpo o n f g) c) (o + n) (f n)) = _
  rw [us_us, us_eq, uf_cpo]
theorem us_cpo0 (σ : Sg) (c o : Nat) (f : Nat → Int) : us σ c (cpo o 0 f (σ c)) = σ := by
  have : cpo o 0 f (σ c) = σ c := by funext j; unfold cpo; rw [if_neg (by omega)]
  rw [this, us_id]
theorem fg_lt' (g : Nat → Int) (n : Nat) : fg g n < n ∨ fg g n = 0 := by
  by_cases h : 0 < n
  · exact Or.inl (fg_lt g h)
  · have : n = 0 := by omega
    subst this
    exact Or.inr rfl
theorem mulb3 {a b : Int} (ha : 1 ≤ a ∧ a ≤ 99) (hb : 1 ≤ b ∧ b ≤ 59) : 1 ≤ a * b ∧ a * b ≤ 5841 := by
  have h1 := Int.mul_le_mul ha.2 hb.2 (by omega) (by omega : (0 : Int) ≤ 99)
  have h2 := Int.mul_le_mul ha.1 hb.1 (by omega) (by omega : (0 : Int) ≤ a)
  omega
theorem smwt_bd {f : Nat → Int} (hok : okV f) (b : Int) {n : Nat} (hn : (n : Int) ≤ f 4) : (n : Int) ≤ sm (wt f b) n ∧ sm (wt f b) n ≤ 59 * n := by
  have h := sm_bd (g := wt f b) (n := n) (a := 1) (b := 59) (fun k hk => wt_bd hok b (by omega))
  omega
/-- of an array only its places count -/
theorem wd_arr {D : va_G} {cy : Nat → ClassId} {B : Nat} {σ : Sg} {H : Heap} {c n : Nat} {f g : Nat → Int} (hc : c < 18 ∨ 30 ≤ c ∧ c < 46 ∨ 202 ≤ c) (hA : ∀ h : Nat → Int, gc cy B c h = ivA (cy 0) n h) (hfg : ∀ j, j < n → f j = g j) (h : wd D cy B (us σ c f) H) : wd D cy B (us σ c g) H := by
  refine ⟨fun k q hk => ?_, h.2⟩
  obtain ⟨hk2, rfl⟩ := wl_get' hk
  have h1 := h.1 k _ (wl_get hk2)
  by_cases hkc : k = c
  · subst hkc
    rw [GW_us hc, if_pos rfl, hA] at h1 ⊢
    have h2 : H[B + k]? = some (vp_cell (cy 0) (n, .inl (fun j => iI (f j)))) := h1
    show H[B + k]? = some (vp_cell (cy 0) (n, .inl (fun j => iI (g j))))
    rw [h2, vp_cell_i, vp_cell_i]
    congr 1
    unfold arrV
    congr 2
    funext j
    show Value.int (iI (f j.1)) = Value.int (iI (g j.1))
    rw [hfg _ j.2]
  · rw [GW_us hc, if_neg hkc] at h1 ⊢
    exact h1
theorem uf_uf (f : Nat → Int) (k : Nat) (a b : Int) : uf (uf f k a) k b = uf f k b := by funext j; unfold uf; split <;> rfl
theorem uf_id (f : Nat → Int) (k : Nat) : uf f k (f k) = f := by funext j; unfold uf; split <;> simp_all
theorem us_comm (σ : Sg) {c d : Nat} (f g : Nat → Int) (h : c ≠ d) : us (us σ c f) d g = us (us σ d g) c f := by funext e; unfold us; (repeat' split) <;> simp_all
def nta (a : Nat) (st acts : Nat → Int) : Nat → Int := cpo (48 * (if a = 24 then 23 else a)) 48 st (if a = 24 then cpy 1104 (fun j => acts (j + 48)) acts else acts)
def brk (f : Nat → Int) : Int := sm (fun k => f (40 + k)) (mn f)
/-- one act is noted, one month goes by -/
def nS (σ : Sg) : Sg := us (us σ 211 (nta (σ 202 18).toNat (σ 206) (σ 211))) 202 (uf (σ 202) 18 (if σ 202 18 = 24 then 24 else σ 202 18 + 1))
