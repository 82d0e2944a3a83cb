/-! the words that a method may hand on to those that it calls -/
def gw : List Cond := lw_tbl.filter goodWord
theorem gw_in {w : Cond} (h : w ∈ lw_tbl) (hg : goodWord w = true) : w ∈ gw := List.mem_filter.mpr ⟨h, hg⟩
theorem gw_at (i : Nat) {w : Cond} (h : lw_tbl[i]? = some w) (hg : goodWord w = true) : w ∈ gw := gw_in (List.mem_of_getElem? h) hg
theorem gw_good {w : Cond} (h : w ∈ gw) : goodWord w = true := (List.mem_filter.mp h).2
theorem gw_GoodIn (w0 w1 : Cond) (h1 : w1 ∈ gw) : GoodIn (w0 :: gw) (w1 :: gw) := fun w hw => (List.mem_cons.mp hw).elim (fun e => by subst e; exact ⟨List.mem_cons_of_mem _ h1, good_of_word (gw_good h1)⟩) (fun h => ⟨List.mem_cons_of_mem _ h, good_of_word (gw_good h)⟩)
theorem gw_GoodIn' (w1 : Cond) (h1 : w1 ∈ gw) : GoodIn gw (w1 :: gw) := fun w hw => (List.mem_cons.mp hw).elim (fun e => by subst e; exact ⟨h1, good_of_word (gw_good h1)⟩) (fun h => ⟨h, good_of_word (gw_good h)⟩)
theorem inG0 : ∀ w ∈ wsX00, w ∈ gw := fun w h => gw_in (inX0 w h) (List.all_eq_true.mp (by decide +kernel : wsX00.all goodWord = true) w h)
theorem inG4 : ∀ w ∈ wsX40, w ∈ gw := fun w h => gw_in (inX4 w h) (List.all_eq_true.mp (by decide +kernel : wsX40.all goodWord = true) w h)
theorem inG5 : ∀ w ∈ wsX50, w ∈ gw := fun w h => gw_in (inX5 w h) (List.all_eq_true.mp (by decide +kernel : wsX50.all goodWord = true) w h)
theorem inG6 : ∀ w ∈ wsX60, w ∈ gw := fun w h => gw_in (inX6 w h) (List.all_eq_true.mp (by decide +kernel : wsX60.all goodWord = true) w h)
theorem inG7 : ∀ w ∈ wsX70, w ∈ gw := fun w h => gw_in (inX7 w h) (List.all_eq_true.mp (by decide +kernel : wsX70.all goodWord = true) w h)
theorem inG10 : ∀ w ∈ wsX100, w ∈ gw := fun w h => gw_in (inX10 w h) (List.all_eq_true.mp (by decide +kernel : wsX100.all goodWord = true) w h)
theorem inG11 : ∀ w ∈ wsX110, w ∈ gw := fun w h => gw_in (inX11 w h) (List.all_eq_true.mp (by decide +kernel : wsX110.all goodWord = true) w h)
theorem inG12 : ∀ w ∈ wsX120, w ∈ gw := fun w h => gw_in (inX12 w h) (List.all_eq_true.mp (by decide +kernel : wsX120.all goodWord = true) w h)
/-! the world: 217 cells from B on; their data: σ, a function a component -/
abbrev Sg : Type := Nat → Nat → Int
def us (σ : Sg) (c : Nat) (f : Nat → Int) : Sg := fun d => if d = c then f else σ d
def uf (f : Nat → Int) (k : Nat) (v : Int) : Nat → Int := fun j => if j = k then v else f j
abbrev up (σ : Sg) (c k : Nat) (v : Int) : Sg := us σ c (uf (σ c) k v)
theorem us_eq (σ : Sg) (c : Nat) (f : Nat → Int) : us σ c f c = f := if_pos rfl
theorem us_ne (σ : Sg) {c d : Nat} (f : Nat → Int) (h : d ≠ c) : us σ c f d = σ d := if_neg h
theorem uf_eq (f : Nat → Int) (k : Nat) (v : Int) : uf f k v k = v := if_pos rfl
theorem uf_ne (f : Nat → Int) {k j : Nat} (v : Int) (h : j ≠ k) : uf f k v j = f j := if_neg h
theorem us_us (σ : Sg) (c : Nat) (f g : Nat → Int) : us (us σ c f) c g = us σ c g := by funext d; unfold us; split <;> rfl
theorem us_id (σ : Sg) (c : Nat) : us σ c (σ c) = σ := by funext d; unfold us; split <;> simp_all
def tdec (z : Int) : Int := if z = 0 then 1000000 else z - 1
def ow (c : Nat) : Nat := if c < 18 then c else if c < 30 then c - (c - 18) % 6 else if c < 46 then c else if c < 202 then c - (c - 46) % 6 else c
def isR (o : Nat) : Prop := (o = 18 ∨ o = 24) ∨ ∃ i : Nat, i < 26 ∧ o = 46 + 6 * i
theorem isR_18 : isR 18 := Or.inl (Or.inl rfl)
theorem isR_24 : isR 24 := Or.inl (Or.inr rfl)
theorem isR_im {i : Nat} (h : i < 2) : isR (46 + 6 * i) := Or.inr ⟨i, by omega, rfl⟩
theorem isR_be {i : Nat} (h : i < 24) : isR (58 + 6 * i) := Or.inr ⟨i + 2, by omega, by omega⟩
theorem ow_R {o q : Nat} (h : isR o) (hq : q < 6) : ow (o + q) = o ∧ o + q < 217 ∧ 18 ≤ o := by
  unfold ow
  rcases h with (rfl | rfl) | ⟨i, hi, rfl⟩
  · refine ⟨?_, by omega, by omega⟩
    repeat' split
    all_goals omega
  · refine ⟨?_, by omega, by omega⟩
    repeat' split
    all_goals omega
  · refine ⟨?_, by omega, by omega⟩
    repeat' split
    all_goals omega
theorem ow_ge (c : Nat) : c - 5 ≤ ow c ∧ ow c ≤ c := by
  unfold ow
  repeat' split
  all_goals omega
abbrev ivA (cA : ClassId) (n : Nat) (f : Nat → Int) : va_E := .inl (cA, n, .inl (fun j => iI (f j)))
abbrev rfA (cA : ClassId) (n : Nat) (f : Nat → Option Nat) : va_E := .inl (cA, n, .inr (.inr (.inr (.inr f))))
abbrev heirF (B h : Nat) (f : Nat → Int) : List Value := [.int (iI h), .ref (B + (12 + (f (8 + h)).toNat)), .int (iI (f (12 + h))), .int (iI (f (16 + h))), .int (iI (f (20 + h))), .int (iI (f (24 + h))), .int (iI (f (28 + h))), .int (iI (f (32 + h))), .int (iI (tdec (f (44 + h)))), .int (iI (f (36 + h))), .int (iI (f (40 + h)))]
abbrev realmF (a : Nat) (f : Nat → Int) : List Value := [.ref a, .int (iI (f 4)), .int (iI (f 0)), .int (iI (f 1)), .int (iI (f 2)), .int (iI (f 3)), .int (iI (f 6)), .int (iI (f 5)), .int (iI (f 7))]
abbrev lpF (B : Nat) (f : Nat → Int) : List Value := [.ref (B + 1), .ref (B + 2), .ref (B + 4), .ref (B + 5), .ref (B + 18), .ref (B + 24), .ref (B + 7), .ref (B + 8), .int (iI (f 8)), .int (iI (f 9)), .ref (B + 9), .ref (B + 10), .ref (B + 11), .ref (B + 12), .int (iI (f 14)), .int (iI (f 15))]
abbrev rdF (B : Nat) (f : Nat → Int) : List Value := [.ref (B + 3), .int (iI (f 1)), .int (iI (f 2)), .int (iI (f 3)), .int (iI (f 4)), .int (iI (f 5)), .int (iI (f 6))]
abbrev moF (B : Nat) (f : Nat → Int) : List Value := [.ref (B + 203), .ref (B + 204), .ref (B + 205), .int (iI (f 3)), .int (iI (f 4)), .ref (B + 206), .ref (B + 207), .ref (B + 208), .int (iI (f 8)), .int (iI (f 9)), .int (iI (f 10)), .int (iI (f 11)), .int (iI (f 12)), .int (iI (f 13)), .int (iI (f 14)), .ref (B + 209), .ref (B + 210), .ref (B + 211), .int (iI (f 18)), .ref (B + 212), .int (iI (f 20)), .ref (B + 213), .ref (B + 214), .ref (B + 215), .ref (B + 216), .int (iI (f 25))]
def rlC (cy : Nat → ClassId) (B o q : Nat) (f : Nat → Int) : va_E := match q with
  | 0 => .inr (5, realmF (B + (o + 1)) f)
  | 1 => rfA (cy 2) 4 (fun j => some (B + (o + 2 + j)))
  | h + 2 => .inr (0, heirF B h f)
def lowC (cy : Nat → ClassId) (B c : Nat) (f : Nat → Int) : va_E := match c with
  | 0 => .inr (10, lpF B f)
  | 1 => rfA (cy 5) 8 (fun i => some (B + (30 + 2 * i)))
  | 2 => .inr (4, rdF B f)
  | 3 => ivA (cy 0) 100 f
  | 4 => rfA (cy 3) 6 (fun i => if i = 0 then none else some (B + (12 + i)))
  | 5 => .inr (9, [.ref (B + 6), .int (iI (f 1))])
  | 6 => ivA (cy 0) 16 f
  | 7 => rfA (cy 4) 2 (fun i => some (B + (46 + 6 * i)))
  | 8 => rfA (cy 4) 24 (fun i => some (B + (58 + 6 * i)))
  | 9 => ivA (cy 0) 4 f
  | 10 => ivA (cy 0) 4 f
  | 11 => ivA (cy 0) 4 f
  | 12 => ivA (cy 0) 4 f
  | 13 => .inr (3, [])
  | 14 => .inr (7, [])
  | 15 => .inr (2, [])
  | 16 => .inr (8, [])
  | _ => .inr (1, [])
def topC (cy : Nat → ClassId) (B q : Nat) (f : Nat → Int) : va_E := match q with
  | 0 => .inr (11, moF B f)
  | 1 => ivA (cy 0) 8 f
  | 2 => ivA (cy 0) 8 f
  | 3 => ivA (cy 0) 320 f
  | 4 => ivA (cy 0) 48 f
  | 5 => ivA (cy 0) 40 f
  | 6 => ivA (cy 0) 100 f
  | 7 => ivA (cy 0) 48 f
  | 8 => ivA (cy 0) 4 f
  | 9 => ivA (cy 0) 1152 f
  | 10 => ivA (cy 0) 48 f
  | 11 => ivA (cy 0) 4 f
  | 12 => ivA (cy 1) 2 f
  | 13 => ivA (cy 0) 96 f
  | _ => ivA (cy 0) 16 f
def rowC (cy : Nat → ClassId) (B c : Nat) (f : Nat → Int) : va_E := if c % 2 = 0 then .inr (6, [.ref (B + (c + 1)), .int (iI (f 1)), .int (iI (f 2))]) else ivA (cy 0) 40 f
def gc (cy : Nat → ClassId) (B c : Nat) (f : Nat → Int) : va_E := if c < 18 then lowC cy B c f else if c < 30 then rlC cy B (ow c) (c - ow c) f else if c < 46 then rowC cy B c f else if c < 202 then rlC cy B (ow c) (c - ow c) f else topC cy B (c - 202) f
def GW (cy : Nat → ClassId) (B : Nat) (σ : Sg) (c : Nat) : va_E := gc cy B c (σ (ow c))
def wl (B n : Nat) (G : Nat → va_E) : va_W := (List.range n).map (fun c => (B + c, G c))
theorem wl_get {B n : Nat} {G : Nat → va_E} {c : Nat} (h : c < n) : (wl B n G)[c]? = some (B + c, G c) := by simp [wl, h]
theorem wl_get' {B n : Nat} {G : Nat → va_E} {c : Nat} {q : Nat × va_E} (h : (wl B n G)[c]? = some q) : c < n ∧ q = (B + c, G c) := by
  by_cases hc : c < n
  · rw [wl_get hc] at h
    exact ⟨hc, (Option.some.inj h).symm⟩
  · rw [List.getElem?_eq_none (by simp [wl]; omega)] at h
    cases h
theorem wl_D (B n : Nat) (G : Nat → va_E) : va_D (fun q => B ≤ q) (wl B n G) := by
  refine ⟨fun i j x y hx hy hxy => ?_, fun k q hk => ?_⟩
  · obtain ⟨-, rfl⟩ := wl_get' hx
    obtain ⟨-, rfl⟩ := wl_get' hy
    have : B + i = B + j := hxy
    omega
  · obtain ⟨-, rfl⟩ := wl_get' hk
    show B ≤ B + k
    omega
theorem wl_set {B n : Nat} {G G' : Nat → va_E} {c : Nat} {e : va_E} (h : c < n) (hG : ∀ d, d < n → G' d = if d = c then e else G d) : (wl B n G).set c (B + c, e) = wl B n G' := by
  apply List.ext_getElem?
  intro i
  by_cases hi : i < n
  · rw [wl_get hi, hG i hi]
    by_cases hic : i = c
    · subst hic
      simp [wl, hi]
    · rw [if_neg hic, List.getElem?_set_ne (Ne.symm hic), wl_get hi]
  · rw [List.getElem?_eq_none (by simp [wl]; omega), List.getElem?_eq_none (by simp [wl]; omega)]
def tys (cy : Nat → ClassId) : List (ClassId × FieldType) := [(cy 0, .int), (cy 1, .boolean), (cy 2, .object "LoveParts$Heir"), (cy 3, .object "LoveParts$Nature"), (cy 4, .object "LoveParts$Realm"), (cy 5, .object "LoveParts$Row")]
def wd (D : va_G) (cy : Nat → ClassId) (B : Nat) (σ : Sg) (H : Heap) : Prop := va_P D vwCl (wl B 217 (GW cy B σ)) H ∧ H.size = B + 217
abbrev AB (B : Nat) : Nat → Prop := fun q => B ≤ q
/-- a component that one cell alone shows -/
theorem GW_us {cy : Nat → ClassId} {B : Nat} {σ : Sg} {c : Nat} {f : Nat → Int} (hc : (c < 18 ∨ 30 ≤ c ∧ c < 46 ∨ 202 ≤ c)) (d : Nat) : GW cy B (us σ c f) d = if d = c then gc cy B c f else GW cy B σ d := by
  have h1 : ∀ d, ow d = c ↔ d = c := by
    intro d
    unfold ow
    repeat' split
    all_goals omega
  unfold GW
  by_cases h : d = c
  · subst h
    rw [if_pos rfl, (h1 d).mpr rfl, us_eq]
  · rw [if_neg h, us_ne _ _ (fun e => h ((h1 d).mp e))]
theorem GW_own {cy : Nat → ClassId} {B : Nat} {σ : Sg} {c : Nat} (hc : (c < 18 ∨ 30 ≤ c ∧ c < 46 ∨ 202 ≤ c)) : GW cy B σ c = gc cy B c (σ c) := by
  have h1 : ow c = c := by
    unfold ow
    repeat' split
    all_goals omega
  unfold GW
  rw [h1]
theorem GW_R {cy : Nat → ClassId} {B : Nat} {σ : Sg} {o q : Nat} (h : isR o) (hq : q < 6) : GW cy B σ (o + q) = rlC cy B o q (σ o) := by
  obtain ⟨h1, h2, h3⟩ := ow_R h hq
  unfold GW gc
  rw [h1, show o + q - o = q by omega]
  rcases h with (rfl | rfl) | ⟨i, hi, rfl⟩
  · rw [if_neg (by omega), if_pos (by omega)]
  · rw [if_neg (by omega), if_pos (by omega)]
  · rw [if_neg (by omega), if_neg (by omega), if_neg (by omega), if_pos (by omega)]
theorem GW_usR {cy : Nat → ClassId} {B : Nat} {σ : Sg} {o : Nat} {f : Nat → Int} (h : isR o) (d : Nat) : GW cy B (us σ o f) d = if o ≤ d ∧ d < o + 6 then rlC cy B o (d - o) f else GW cy B σ d := by
  by_cases hd : o ≤ d ∧ d < o + 6
  · rw [if_pos hd]
    have h1 := GW_R (cy := cy) (B := B) (σ := us σ o f) (q := d - o) h (by omega)
    rw [show o + (d - o) = d by omega, us_eq] at h1
    exact h1
  · rw [if_neg hd]
    unfold GW
    have h2 : ow d ≠ o := by
      intro e
      apply hd
      have h3 := ow_ge d
      omega
    rw [us_ne _ _ h2]
