theorem ug_ug (G : Nat → va_E) (b : Nat) (x y : va_E) : ug (ug G b x) b y = ug G b y := by funext d; unfold ug; split <;> rfl
theorem W_cast {p : Program} {l : Launch} {e : Env} {R : Room} {s : State} {m : MethodId} {args : Array Value} {below : List Frame} {meth : Method} {c : Code} {H : Heap} {locs : List Loc} {cells slots cells' slots' : Nat} {Q : State → Prop} {g : JFrame} (h1 : cells = cells') (h2 : slots = slots') (k : W p l e R s m args below meth c H locs cells' slots' Q g) : W p l e R s m args below meth c H locs cells slots Q g := by subst h1; subst h2; exact k
theorem pw_rf {D : va_G} {B n : Nat} {G : Nat → va_E} {H : Heap} {b N : Nat} {cA : ClassId} {f f' : Nat → Option Nat} (hW : pw D B n G H) (hb : b < n) (he : G b = rfA cA N f) (hf : ∀ j, j < N → f' j = f j) : pw D B n (ug G b (rfA cA N f')) H := by
  refine ⟨?_, hW.2⟩
  intro k q hk
  obtain ⟨hk1, rfl⟩ := wl_get' hk
  by_cases hkb : k = b
  · subst hkb
    rw [ug_eq]
    have h1 : H[B + k]? = some (vp_cell cA (N, .inr (.inr (.inr (.inr f))))) := hW.1 k (B + k, rfA cA N f) (by rw [wl_get hb, he])
    show H[B + k]? = some (vp_cell cA (N, .inr (.inr (.inr (.inr f')))))
    rw [h1, vp_cell_q, vp_cell_q]
    congr 1
    unfold arrV
    congr 2
    funext j
    show va_rf (f j.1) = va_rf (f' j.1)
    rw [hf _ j.2]
  · rw [ug_ne _ _ hkb]
    exact hW.1 k _ (wl_get hk1)
/-- a realm as it is made: kinds plain, no letters -/
def f0 : Nat → Int := fun j => if 8 ≤ j ∧ j < 12 then 1 else 0
/-- the data of the two new objects -/
def sz0 : Sg := fun c => if (18 ≤ c ∧ c < 30) ∨ (46 ≤ c ∧ c < 202) then f0 else if 30 ≤ c ∧ c < 46 then (fun j => if j = 1 ∧ c % 2 = 0 then -1 else 0) else if c = 2 then (fun j => if j = 5 then 257 else 0) else if c = 204 then cpy 8 (fun _ => -1) (fun _ => 0) else fun _ => 0
/-- a realm with i heirs made -/
def rgl (cy : Nat → ClassId) (B b i : Nat) (G : Nat → va_E) : Nat → va_E := fun d => if d = b then .inr (5, realmF (B + (b + 1)) f0) else if d = b + 1 then rfA (cy 2) 4 (fun j => if j < i then some (B + (b + 2 + j)) else none) else if b + 2 ≤ d ∧ d < b + 2 + i then .inr (0, heirF B (d - (b + 2)) f0) else G d
def rgf (cy : Nat → ClassId) (B b : Nat) (G : Nat → va_E) : Nat → va_E := fun d => if b ≤ d ∧ d < b + 6 then rlC cy B b (d - b) f0 else G d
theorem rgl_b {cy : Nat → ClassId} {B b i : Nat} {G : Nat → va_E} : rgl cy B b i G b = .inr (5, realmF (B + (b + 1)) f0) := if_pos rfl
theorem rgl_a {cy : Nat → ClassId} {B b i : Nat} {G : Nat → va_E} : rgl cy B b i G (b + 1) = rfA (cy 2) 4 (fun j => if j < i then some (B + (b + 2 + j)) else none) := by unfold rgl; rw [if_neg (by omega), if_pos rfl]
theorem heirF0 (B h : Nat) (hh : h < 4) : heirF B h f0 = [.int (iI h), .ref (B + 13), .int (iI 0), .int (iI 0), .int (iI 0), .int (iI 0), .int (iI 0), .int (iI 0), .int (iI 1000000), .int (iI 0), .int (iI 0)] := by
  have e8 : f0 (8 + h) = 1 := by unfold f0; rw [if_pos (by omega)]
  have e : ∀ j, 12 ≤ j → f0 j = 0 := fun j hj => by unfold f0; rw [if_neg (by omega)]
  show [Value.int (iI h), .ref (B + (12 + (f0 (8 + h)).toNat)), .int (iI (f0 (12 + h))), .int (iI (f0 (16 + h))), .int (iI (f0 (20 + h))), .int (iI (f0 (24 + h))), .int (iI (f0 (28 + h))), .int (iI (f0 (32 + h))), .int (iI (tdec (f0 (44 + h)))), .int (iI (f0 (36 + h))), .int (iI (f0 (40 + h)))] = _
  rw [e8, e (12 + h) (by omega), e (16 + h) (by omega), e (20 + h) (by omega), e (24 + h) (by omega), e (28 + h) (by omega), e (32 + h) (by omega), e (36 + h) (by omega), e (40 + h) (by omega), e (44 + h) (by omega)]
  rfl
theorem rgl_s {D : va_G} {cy : Nat → ClassId} {B b i : Nat} {G : Nat → va_E} {H : Heap} {x : va_E} (hi : i < 4) (hW : pw D B (b + 2 + i + 1) (ug (ug (rgl cy B b i G) (b + 2 + i) x) (b + 2 + i) (.inr (0, [.int (iI i), .ref (B + 13), .int (iI 0), .int (iI 0), .int (iI 0), .int (iI 0), .int (iI 0), .int (iI 0), .int (iI 1000000), .int (iI 0), .int (iI 0)]))) H) : pw D B (b + 2 + i + 1) (ug (rgl cy B b i G) (b + 2 + i) (.inr (0, heirF B i f0))) H := by
  rw [ug_ug, ← heirF0 B i hi] at hW
  exact hW
theorem rgl_t {D : va_G} {cy : Nat → ClassId} {B b i : Nat} {G : Nat → va_E} {H : Heap} (hi : i < 4) (hW : pw D B (b + 2 + i + 1) (ug (ug (rgl cy B b i G) (b + 2 + i) (.inr (0, heirF B i f0))) (b + 1) (rfA (cy 2) 4 (uo (fun j => if j < i then some (B + (b + 2 + j)) else none) i (B + (b + 2 + i))))) H) : pw D B (b + 2 + (i + 1)) (rgl cy B b (i + 1) G) H := by
  refine pw_ext hW (fun d hd => ?_)
  have hu : uo (fun j => if j < i then some (B + (b + 2 + j)) else none) i (B + (b + 2 + i)) = fun j => if j < i + 1 then some (B + (b + 2 + j)) else none := by
    funext j
    unfold uo
    by_cases h : j = i
    · subst h; rw [if_pos rfl, if_pos (by omega)]
    · rw [if_neg h]; dsimp only
      by_cases h2 : j < i
      · rw [if_pos h2, if_pos (by omega)]
      · rw [if_neg h2, if_neg (by omega)]
  rw [hu]
  unfold ug rgl
  by_cases h1 : d = b
  · subst h1
    rw [if_pos rfl, if_neg (by omega), if_neg (by omega), if_pos rfl]
  · rw [if_neg h1]
    by_cases h2 : d = b + 1
    · rw [if_pos h2, if_pos h2]
    · rw [if_neg h2, if_neg h2]
      by_cases h3 : d = b + 2 + i
      · rw [if_pos (by omega), if_pos h3, show d - (b + 2) = i from by omega]
      · rw [if_neg h3, if_neg h1, if_neg h2]
        by_cases h4 : b + 2 ≤ d ∧ d < b + 2 + i
        · rw [if_pos (by omega), if_pos h4]
        · rw [if_neg (by omega), if_neg h4]
theorem rgl_4 {D : va_G} {cy : Nat → ClassId} {B b : Nat} {G : Nat → va_E} {H : Heap} (hW : pw D B (b + 2 + 4) (rgl cy B b 4 G) H) : pw D B (b + 6) (rgf cy B b G) H := by
  have h1 := pw_rf hW (b := b + 1) (by omega) rgl_a (f' := fun j => some (B + (b + 2 + j))) (fun j hj => by rw [if_pos hj])
  refine pw_ext (n := b + 6) h1 (fun d hd => ?_)
  unfold rgf ug rgl
  by_cases h0 : b ≤ d ∧ d < b + 6
  · rw [if_pos h0]
    obtain ⟨q, rfl⟩ : ∃ q, d = b + q := ⟨d - b, by omega⟩
    rw [show b + q - b = q from by omega]
    match q with
    | 0 => rw [if_neg (by omega), if_pos (by omega)]; rfl
    | 1 => rw [if_pos rfl]; rfl
    | h + 2 => rw [if_neg (by omega), if_neg (by omega), if_neg (by omega), if_pos (by omega), show b + (h + 2) - (b + 2) = h from by omega]; rfl
  · rw [if_neg h0, if_neg (by omega), if_neg (by omega), if_neg (by omega), if_neg (by omega)]
theorem realmF0 (a : Nat) : realmF a f0 = [.ref a, .int (iI 0), .int (iI 0), .int (iI 0), .int (iI 0), .int (iI 0), .int (iI 0), .int (iI 0), .int (iI 0)] := rfl
theorem rgl_0 {D : va_G} {cy : Nat → ClassId} {B b : Nat} {G : Nat → va_E} {H : Heap} (hW : pw D B (b + 1 + 1) (ug (ug G (b + 1) (rfA (cy 2) 4 (fun _ => none))) b (.inr (5, [.ref (B + (b + 1)), .int (iI 0), .int (iI 0), .int (iI 0), .int (iI 0), .int (iI 0), .int (iI 0), .int (iI 0), .int (iI 0)]))) H) : pw D B (b + 2 + 0) (rgl cy B b 0 G) H := by
  refine pw_ext hW (fun d hd => ?_)
  unfold ug rgl
  by_cases h1 : d = b
  · rw [if_pos h1, if_pos h1, realmF0]
  · rw [if_neg h1, if_neg h1]
    by_cases h2 : d = b + 1
    · rw [if_pos h2, if_pos h2]
      congr 3
    · rw [if_neg h2, if_neg h2, if_neg (by omega)]
theorem sz0_R {o : Nat} (h : isR o) : sz0 o = f0 := by
  unfold sz0
  rcases h with (rfl | rfl) | ⟨i, hi, rfl⟩
  · rw [if_pos (by omega)]
  · rw [if_pos (by omega)]
  · rw [if_pos (by omega)]
/-- the class's world as it is made: its object and its arrays of objects are not yet what they will be -/
def lpg (cy : Nat → ClassId) (B : Nat) (e0 e1 e4 e7 e8 : va_E) : Nat → va_E := fun d => if d = 0 then e0 else if d = 1 then e1 else if d = 4 then e4 else if d = 7 then e7 else if d = 8 then e8 else GW cy B sz0 d
theorem lpg_o {cy : Nat → ClassId} {B : Nat} {e0 e1 e4 e7 e8 : va_E} {d : Nat} (h : d ≠ 0 ∧ d ≠ 1 ∧ d ≠ 4 ∧ d ≠ 7 ∧ d ≠ 8) : lpg cy B e0 e1 e4 e7 e8 d = GW cy B sz0 d := by unfold lpg; rw [if_neg h.1, if_neg h.2.1, if_neg h.2.2.1, if_neg h.2.2.2.1, if_neg h.2.2.2.2]
theorem lpg_R {D : va_G} {cy : Nat → ClassId} {B : Nat} {e0 e1 e4 e7 e8 x : va_E} {H : Heap} {o : Nat} (h : isR o) (hW : pw D B (o + 6) (rgf cy B o (ug (lpg cy B e0 e1 e4 e7 e8) o x)) H) : pw D B (o + 6) (lpg cy B e0 e1 e4 e7 e8) H := by
  have h18 := (ow_R h (q := 0) (by omega)).2.2
  refine pw_ext hW (fun d hd => ?_)
  unfold rgf
  by_cases h0 : o ≤ d ∧ d < o + 6
  · rw [if_pos h0, lpg_o (by omega)]
    have h1 := GW_R (cy := cy) (B := B) (σ := sz0) (q := d - o) h (by omega)
    rw [show o + (d - o) = d from by omega, sz0_R h] at h1
    exact h1
  · rw [if_neg h0, ug_ne _ _ (by omega)]
def rwA (cy : Nat → ClassId) (B i : Nat) : va_E := rfA (cy 5) 8 (fun j => if j < i then some (B + (30 + 2 * j)) else none)
def imA (cy : Nat → ClassId) (B i : Nat) : va_E := rfA (cy 4) 2 (fun j => if j < i then some (B + (46 + 6 * j)) else none)
def beA (cy : Nat → ClassId) (B i : Nat) : va_E := rfA (cy 4) 24 (fun j => if j < i then some (B + (58 + 6 * j)) else none)
theorem uo_lt (F : Nat → Nat) (i : Nat) : uo (fun j => if j < i then some (F j) else none) i (F i) = fun j => if j < i + 1 then some (F j) else none := by
  funext j
  unfold uo
  by_cases h : j = i
  · subst h; rw [if_pos rfl, if_pos (by omega)]
  · rw [if_neg h]; dsimp only
    by_cases h2 : j < i
    · rw [if_pos h2, if_pos (by omega)]
    · rw [if_neg h2, if_neg (by omega)]
theorem lpg_row {D : va_G} {cy : Nat → ClassId} {B : Nat} {e0 e1 e4 e7 e8 x : va_E} {H : Heap} {i : Nat} (hi : i < 8) (hW : pw D B (30 + 2 * i + 2) (ug (ug (ug (lpg cy B e0 e1 e4 e7 e8) (30 + 2 * i) x) (30 + 2 * i + 1) (ivA (cy 0) 40 (fun _ => 0))) (30 + 2 * i) (.inr (6, [.ref (B + (30 + 2 * i + 1)), .int (iI (-1)), .int (iI 0)]))) H) : pw D B (30 + 2 * i + 2) (lpg cy B e0 e1 e4 e7 e8) H := by
  refine pw_ext hW (fun d hd => ?_)
  by_cases h1 : d = 30 + 2 * i
  · subst h1
    rw [ug_eq, lpg_o (by omega), e_row hi]
    have e1 : sz0 (30 + 2 * i) = fun j => if j = 1 ∧ (30 + 2 * i) % 2 = 0 then -1 else 0 := by unfold sz0; rw [if_neg (by omega), if_pos (by omega)]
    rw [e1]; dsimp only; rw [if_pos (by omega), if_neg (by omega)]
  · rw [ug_ne _ _ h1]
    by_cases h2 : d = 30 + 2 * i + 1
    · subst h2
      rw [ug_eq, lpg_o (by omega), e_it hi]
      have e1 : sz0 (30 + 2 * i + 1) = fun _ => 0 := by unfold sz0; rw [if_neg (by omega), if_pos (by omega)]; funext j; rw [if_neg (by omega)]
      rw [e1]
    · rw [ug_ne _ _ h2, ug_ne _ _ h1]
theorem lpg_1 {D : va_G} {cy : Nat → ClassId} {B n : Nat} {e0 e1 e1' e4 e7 e8 : va_E} {H : Heap} (hW : pw D B n (ug (lpg cy B e0 e1 e4 e7 e8) 1 e1') H) : pw D B n (lpg cy B e0 e1' e4 e7 e8) H := pw_ext hW (fun d _ => by unfold lpg ug; dsimp only; (repeat' split) <;> first | rfl | (exfalso; omega))
theorem lpg_4 {D : va_G} {cy : Nat → ClassId} {B n : Nat} {e0 e1 e4 e4' e7 e8 : va_E} {H : Heap} (hW : pw D B n (ug (lpg cy B e0 e1 e4 e7 e8) 4 e4') H) : pw D B n (lpg cy B e0 e1 e4' e7 e8) H := pw_ext hW (fun d _ => by unfold lpg ug; dsimp only; (repeat' split) <;> first | rfl | (exfalso; omega))
theorem lpg_7 {D : va_G} {cy : Nat → ClassId} {B n : Nat} {e0 e1 e4 e7 e7' e8 : va_E} {H : Heap} (hW : pw D B n (ug (lpg cy B e0 e1 e4 e7 e8) 7 e7') H) : pw D B n (lpg cy B e0 e1 e4 e7' e8) H := pw_ext hW (fun d _ => by unfold lpg ug; dsimp only; (repeat' split) <;> first | rfl | (exfalso; omega))
theorem lpg_8 {D : va_G} {cy : Nat → ClassId} {B n : Nat} {e0 e1 e4 e7 e8 e8' : va_E} {H : Heap} (hW : pw D B n (ug (lpg cy B e0 e1 e4 e7 e8) 8 e8') H) : pw D B n (lpg cy B e0 e1 e4 e7 e8') H := pw_ext hW (fun d _ => by unfold lpg ug; dsimp only; (repeat' split) <;> first | rfl | (exfalso; omega))
theorem lpg_0 {D : va_G} {cy : Nat → ClassId} {B n : Nat} {e0 e0' e1 e4 e7 e8 : va_E} {H : Heap} (hW : pw D B n (ug (lpg cy B e0 e1 e4 e7 e8) 0 e0') H) : pw D B n (lpg cy B e0' e1 e4 e7 e8) H := pw_ext hW (fun d _ => by unfold lpg ug; dsimp only; (repeat' split) <;> first | rfl | (exfalso; omega))
/-- a new cell that is already what it will be -/
theorem lpg_n {D : va_G} {cy : Nat → ClassId} {B n b : Nat} {e0 e1 e4 e7 e8 x : va_E} {H : Heap} (hb : b ≠ 0 ∧ b ≠ 1 ∧ b ≠ 4 ∧ b ≠ 7 ∧ b ≠ 8) (hx : GW cy B sz0 b = x) (hW : pw D B n (ug (lpg cy B e0 e1 e4 e7 e8) b x) H) : pw D B n (lpg cy B e0 e1 e4 e7 e8) H := pw_ext hW (fun d _ => by by_cases h : d = b; (· subst h; rw [ug_eq, lpg_o hb]; exact hx); (· rw [ug_ne _ _ h]))
theorem lpg_n2 {D : va_G} {cy : Nat → ClassId} {B n b : Nat} {e0 e1 e4 e7 e8 x y z : va_E} {H : Heap} (hb : b ≠ 0 ∧ b ≠ 1 ∧ b ≠ 4 ∧ b ≠ 7 ∧ b ≠ 8) (hb2 : b + 1 ≠ 0 ∧ b + 1 ≠ 1 ∧ b + 1 ≠ 4 ∧ b + 1 ≠ 7 ∧ b + 1 ≠ 8) (hx : GW cy B sz0 b = x) (hy : GW cy B sz0 (b + 1) = y) (hW : pw D B n (ug (ug (ug (lpg cy B e0 e1 e4 e7 e8) b z) (b + 1) y) b x) H) : pw D B n (lpg cy B e0 e1 e4 e7 e8) H := pw_ext hW (fun d _ => by by_cases h : d = b; (· subst h; rw [ug_eq, lpg_o hb]; exact hx); (· rw [ug_ne _ _ h]; by_cases h2 : d = b + 1; (· subst h2; rw [ug_eq, lpg_o hb2]; exact hy); (· rw [ug_ne _ _ h2, ug_ne _ _ h])))
theorem lpg_end {D : va_G} {cy : Nat → ClassId} {B : Nat} {H : Heap} (hW : pw D B 202 (lpg cy B (.inr (10, lpF B (fun _ => 0))) (rwA cy B 8) (rfA (cy 3) 6 (fun i => if i = 0 then none else some (B + (12 + i)))) (imA cy B 2) (beA cy B 24)) H) : pw D B 202 (GW cy B sz0) H := by
  have h1 := lpg_1 (pw_rf hW (b := 1) (by omega) (show lpg cy B _ _ _ _ _ 1 = rwA cy B 8 from rfl) (f' := fun i => some (B + (30 + 2 * i))) (fun j hj => by rw [if_pos hj]))
  have h2 := lpg_7 (pw_rf h1 (b := 7) (by omega) (show lpg cy B _ _ _ _ _ 7 = imA cy B 2 from rfl) (f' := fun i => some (B + (46 + 6 * i))) (fun j hj => by rw [if_pos hj]))
  have h3 := lpg_8 (pw_rf h2 (b := 8) (by omega) (show lpg cy B _ _ _ _ _ 8 = beA cy B 24 from rfl) (f' := fun i => some (B + (58 + 6 * i))) (fun j hj => by rw [if_pos hj]))
  refine pw_ext h3 (fun d _ => ?_)
  unfold lpg
  by_cases a0 : d = 0
  · subst a0; rfl
  · rw [if_neg a0]
    by_cases a1 : d = 1
    · subst a1; rfl
    · rw [if_neg a1]
      by_cases a4 : d = 4
      · subst a4; rfl
      · rw [if_neg a4]
        by_cases a7 : d = 7
        · subst a7; rfl
        · rw [if_neg a7]
          by_cases a8 : d = 8
          · subst a8; rfl
          · rw [if_neg a8]
/-- the model's world as it is made: its object, its sizes -/
def mog (cy : Nat → ClassId) (B : Nat) (e0 e2 : va_E) : Nat → va_E := fun d => if d = 202 then e0 else if d = 204 then e2 else GW cy B sz0 d
theorem mog_0 {D : va_G} {cy : Nat → ClassId} {B n : Nat} {e0 e0' e2 : va_E} {H : Heap} (hW : pw D B n (ug (mog cy B e0 e2) 202 e0') H) : pw D B n (mog cy B e0' e2) H := pw_ext hW (fun d _ => by unfold mog ug; dsimp only; (repeat' split) <;> first | rfl | (exfalso; omega))
theorem mog_2 {D : va_G} {cy : Nat → ClassId} {B n : Nat} {e0 e2 e2' : va_E} {H : Heap} (hW : pw D B n (ug (mog cy B e0 e2) 204 e2') H) : pw D B n (mog cy B e0 e2') H := pw_ext hW (fun d _ => by unfold mog ug; dsimp only; (repeat' split) <;> first | rfl | (exfalso; omega))
theorem mog_n {D : va_G} {cy : Nat → ClassId} {B n b : Nat} {e0 e2 x : va_E} {H : Heap} (hb : b ≠ 202 ∧ b ≠ 204) (hx : GW cy B sz0 b = x) (hW : pw D B n (ug (mog cy B e0 e2) b x) H) : pw D B n (mog cy B e0 e2) H := pw_ext hW (fun d _ => by by_cases h : d = b; (· subst h; rw [ug_eq]; unfold mog; rw [if_neg hb.1, if_neg hb.2]; exact hx); (· rw [ug_ne _ _ h]))
theorem mog_end {D : va_G} {cy : Nat → ClassId} {B : Nat} {H : Heap} (hW : pw D B 217 (mog cy B (.inr (11, moF B (fun _ => 0))) (ivA (cy 0) 8 (cpy 8 (fun _ => -1) (fun _ => 0)))) H) : pw D B 217 (GW cy B sz0) H := pw_ext hW (fun d _ => by unfold mog; by_cases h : d = 202; (· subst h; rfl); (· rw [if_neg h]; by_cases h4 : d = 204; (· subst h4; rfl); (· rw [if_neg h4])))
