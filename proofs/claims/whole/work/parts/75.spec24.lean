/-! best: knights that weigh nothing only cost; what is weighed with knights added -/
theorem near_28 (f : Nat → Int) {h : Nat} (n : Int) : ∀ k : Nat, k ≤ 4 → near (uf f (28 + h) n) k = near f k := by
  intro k
  induction k with
  | zero => intro _; rfl
  | succ k ih =>
    intro hk
    unfold near
    rw [uf_ne _ _ (by omega), uf_ne _ _ (by omega), ih (by omega)]
theorem says_28 (f : Nat → Int) {h j : Nat} (hj : j < 4) (n : Int) : says (uf f (28 + h) n) j = says f j := by
  unfold says own
  rw [near_28 f n j (by omega), uf_ne _ _ (by omega), uf_ne _ _ (by omega), uf_ne _ _ (by omega), uf_ne _ _ (by omega), uf_ne _ _ (by omega)]
theorem wt_spk (f : Nat → Int) {h j : Nat} (hj : j < 4) (hh4 : h < 4) (w n r : Int) : wt (spk f h w n) r j = (if j = h ∧ r = 1 then wt (spk f h w 0) r j + n else wt (spk f h w 0) r j) := by
  have e : ∀ q : Int, says (spk f h w q) j = says (uf (uf f (20 + h) 1) (24 + h) w) j := fun q => says_28 _ hj q
  have e2 : ∀ q : Int, spk f h w q (28 + j) = if j = h then q else f (28 + j) := fun q => by
    rw [spk_at]
    by_cases hjh : j = h
    · rw [if_pos (by omega), if_pos hjh]
    · rw [if_neg (by omega), if_neg (by omega), if_neg (by omega), if_neg hjh]
  unfold wt
  rw [e n, e 0, e2 n, e2 0]
  (repeat' split) <;> omega
theorem ct_congr {a : Int} {g g' : Nat → Int} {n h : Nat} (hh : h < n) (hg : ∀ k, k < n → g k = g' k) : ct a g n h = ct a g' n h := by
  unfold ct
  rw [fg_congr hg, sm_congr hg, hg h hh, sm_congr (g := fun k => a * g k / sm g' n) (g' := fun k => a * g' k / sm g' n) (fun j hj => by rw [hg j hj])]
/-- what the class weighs and cuts is what the speech gains -/
theorem gain_cut {f S G : Nat → Int} {h : Nat} {w n : Int} (hok : okV f) (hh : (h : Int) < f 4) (hS : eqR S (spk f h w 0)) (hr : f 3 = 1 ∨ n = 0) (hG : ∀ j, j < mn f → G j = if j = h then wt S (f 3) h + n else wt S (f 3) j) : ct (S 0) G (mn f) h - n / 4 = gn f h w n := by
  have o4 := hok.1
  have e4 : S 4 = f 4 := by rw [eqR_hd hS 4 (by omega), spk_o _ _ _ _ (by omega)]
  have e0 : S 0 = f 0 := by rw [eqR_hd hS 0 (by omega), spk_o _ _ _ _ (by omega)]
  have em : mn (spk f h w n) = mn f := by unfold mn; rw [spk_o _ _ _ _ (by omega)]
  have hm : ((mn f : Nat) : Int) = f 4 := by unfold mn; omega
  unfold gn shr
  rw [em, spk_o _ _ _ _ (by omega : 0 ≠ 28 + h ∧ 0 ≠ 24 + h ∧ 0 ≠ 20 + h), e0]
  rw [ct_congr (g := G) (g' := wt (spk f h w n) (f 3)) (by omega) (fun j hj => ?_)]
  rw [hG j hj, wt_spk f (by omega) (by omega) w n (f 3), eqR_wt hS (by omega) (f 3) (k := j) (by omega)]
  by_cases hjh : j = h
  · subst hjh
    rw [if_pos rfl, eqR_wt hS (by omega) (f 3) (k := j) (by omega)]
    rcases hr with h1 | h1
    · rw [if_pos ⟨rfl, h1⟩]
    · subst h1
      split <;> omega
  · rw [if_neg hjh, if_neg (fun e => hjh e.1)]
theorem gk_at (f : Nat → Int) (h w n : Nat) (hn : n < 41) : gk f h (41 * w + n) = gn f h (w : Int) (n : Int) := by
  unfold gk
  rw [show ((41 * w + n : Nat) : Int) / 41 = (w : Int) from by omega, show ((41 * w + n : Nat) : Int) % 41 = (n : Int) from by omega]
theorem gn_cost {f : Nat → Int} {h : Nat} (hok : okV f) (hh : (h : Int) < f 4) (hr : f 3 ≠ 1) (w n : Int) (hn : 0 ≤ n) : gn f h w n ≤ gn f h w 0 := by
  have o4 := hok.1
  have em : ∀ q, mn (spk f h w q) = mn f := fun q => by unfold mn; rw [spk_o _ _ _ _ (by omega)]
  have hm : ((mn f : Nat) : Int) = f 4 := by unfold mn; omega
  unfold gn shr
  rw [em, em, spk_o _ _ _ _ (by omega : 0 ≠ 28 + h ∧ 0 ≠ 24 + h ∧ 0 ≠ 20 + h), spk_o _ _ _ _ (by omega : 0 ≠ 28 + h ∧ 0 ≠ 24 + h ∧ 0 ≠ 20 + h)]
  rw [ct_congr (g := wt (spk f h w n) (f 3)) (g' := wt (spk f h w 0) (f 3)) (by omega) (fun j hj => by rw [wt_spk f (by omega) (by omega) w n, if_neg (fun e => hr e.2)])]
  omega
theorem bm_ge (f : Nat → Int) (h k : Nat) : bm f h k ≤ bm f h (k + 1) ∧ gk f h k ≤ bm f h (k + 1) := by
  simp only [bm]
  split <;> omega
/-- where knights weigh nothing the rest of a row of speeches changes nothing -/
theorem bm_skip {f : Nat → Int} {h : Nat} (hok : okV f) (hh : (h : Int) < f 4) (hr : f 3 ≠ 1) (w n : Nat) (hn : 1 ≤ n ∧ n ≤ 41) (z : Int) : bm f h (41 * w + n) = bm f h (41 * w + 1) ∧ bsp f h z (41 * w + n) = bsp f h z (41 * w + 1) := by
  induction n with
  | zero => omega
  | succ n ih =>
    by_cases h0 : n = 0
    · subst h0; exact ⟨rfl, rfl⟩
    · obtain ⟨h1, h2⟩ := ih (by omega)
      have h3 := (bm_ge f h (41 * w)).2
      have h4 := gn_cost hok hh hr (w : Int) (n : Int) (by omega)
      have h5 := gk_at f h w n (by omega)
      have h6 : gk f h (41 * w) = gn f h (w : Int) 0 := gk_at f h w 0 (by omega)
      have hnl : ¬ bm f h (41 * w + n) < gk f h (41 * w + n) := by
        rw [h1, h5]
        omega
      rw [show 41 * w + (n + 1) = 41 * w + n + 1 from by omega]
      simp only [bm, bsp]
      rw [if_neg hnl, if_neg hnl]
      exact ⟨h1, h2⟩
theorem bsp_z {f : Nat → Int} {h : Nat} (hok : okV f) (hh : (h : Int) < f 4) (z z' : Int) (k : Nat) : bsp f h z (k + 1) = bsp f h z' (k + 1) := by
  induction k with
  | zero =>
    have o4 := hok.1
    have h1 : 0 ≤ gk f h 0 := by
      have hk : okV (spk f h 0 0) := okV_say hok hh (by omega) (by omega)
      have h2 := shr_bd hk (f 3) (h := h) (by rw [spk_o f h 0 0 (by omega)]; exact hh)
      have h3 := gk_at f h 0 0 (by omega)
      simp only [Nat.mul_zero, Nat.add_zero] at h3
      rw [h3]
      unfold gn
      have : ((0 : Nat) : Int) = 0 := rfl
      rw [this]
      omega
    show (if bm f h 0 < gk f h 0 then 100 * (((0 : Nat) : Int) / 41) + ((0 : Nat) : Int) % 41 else z) = (if bm f h 0 < gk f h 0 then 100 * (((0 : Nat) : Int) / 41) + ((0 : Nat) : Int) % 41 else z')
    have hb : bm f h 0 < gk f h 0 := by simp only [bm]; omega
    rw [if_pos hb, if_pos hb]
  | succ k ih =>
    rw [show bsp f h z (k + 1 + 1) = if bm f h (k + 1) < gk f h (k + 1) then 100 * (((k + 1 : Nat) : Int) / 41) + ((k + 1 : Nat) : Int) % 41 else bsp f h z (k + 1) from rfl, show bsp f h z' (k + 1 + 1) = if bm f h (k + 1) < gk f h (k + 1) then 100 * (((k + 1 : Nat) : Int) / 41) + ((k + 1 : Nat) : Int) % 41 else bsp f h z' (k + 1) from rfl, ih]
/-- the best speech gains the most -/
theorem bsp_gn {f : Nat → Int} {h : Nat} (hok : okV f) (hh : (h : Int) < f 4) (z : Int) (k : Nat) (hk : k + 1 ≤ 779) : (0 ≤ bsp f h z (k + 1) ∧ bsp f h z (k + 1) / 100 ≤ 18 ∧ bsp f h z (k + 1) % 100 ≤ 40) ∧ bm f h (k + 1) = gn f h (bsp f h z (k + 1) / 100) (bsp f h z (k + 1) % 100) := by
  have base : ∀ q : Nat, q < 779 → (0 ≤ 100 * ((q : Int) / 41) + (q : Int) % 41 ∧ (100 * ((q : Int) / 41) + (q : Int) % 41) / 100 ≤ 18 ∧ (100 * ((q : Int) / 41) + (q : Int) % 41) % 100 ≤ 40) ∧ gk f h q = gn f h ((100 * ((q : Int) / 41) + (q : Int) % 41) / 100) ((100 * ((q : Int) / 41) + (q : Int) % 41) % 100) := fun q hq => by
    refine ⟨by omega, ?_⟩
    rw [show (100 * ((q : Int) / 41) + (q : Int) % 41) / 100 = (q : Int) / 41 from by omega, show (100 * ((q : Int) / 41) + (q : Int) % 41) % 100 = (q : Int) % 41 from by omega]
    rfl
  induction k with
  | zero =>
    have h1 : -1 < gk f h 0 := by
      have o4 := hok.1
      have hk : okV (spk f h 0 0) := okV_say hok hh (by omega) (by omega)
      have h2 := shr_bd hk (f 3) (h := h) (by rw [spk_o f h 0 0 (by omega)]; exact hh)
      have h3 := gk_at f h 0 0 (by omega)
      simp only [Nat.mul_zero, Nat.add_zero] at h3
      rw [h3]
      unfold gn
      have : ((0 : Nat) : Int) = 0 := rfl
      rw [this]
      omega
    have e1 : bsp f h z (0 + 1) = 100 * (((0 : Nat) : Int) / 41) + ((0 : Nat) : Int) % 41 := by
      show (if bm f h 0 < gk f h 0 then _ else _) = _
      rw [if_pos (by simp only [bm]; omega)]
    have e2 : bm f h (0 + 1) = gk f h 0 := by
      show (if bm f h 0 < gk f h 0 then _ else _) = _
      rw [if_pos (by simp only [bm]; omega)]
    rw [e1, e2]
    exact base 0 (by omega)
  | succ k ih =>
    have e1 : bsp f h z (k + 1 + 1) = if bm f h (k + 1) < gk f h (k + 1) then 100 * (((k + 1 : Nat) : Int) / 41) + ((k + 1 : Nat) : Int) % 41 else bsp f h z (k + 1) := rfl
    have e2 : bm f h (k + 1 + 1) = if bm f h (k + 1) < gk f h (k + 1) then gk f h (k + 1) else bm f h (k + 1) := rfl
    by_cases hc : bm f h (k + 1) < gk f h (k + 1)
    · rw [if_pos hc] at e1 e2
      rw [e1, e2]
      exact base (k + 1) (by omega)
    · rw [if_neg hc] at e1 e2
      rw [e1, e2]
      exact ih (by omega)
/-! trueRule: two bits a word, 4 ^ heirs codes -/
def q3chk : Bool := (List.range 256).all (fun c => (List.range 4).all (fun i => decide ((iI (c : Int) >>> (iI ((2 * i : Nat) : Int) &&& 31)) &&& iI 3 = iI (rs (c : Int) i % 4))))
theorem q3_row {c i : Nat} (h : c < 256) (hi : i < 4) : (iI (c : Int) >>> (iI ((2 * i : Nat) : Int) &&& 31)) &&& iI 3 = iI (rs (c : Int) i % 4) := by
  have hc : q3chk = true := by decide +kernel
  exact of_decide_eq_true (List.all_eq_true.mp (List.all_eq_true.mp hc c (List.mem_range.mpr h)) i (List.mem_range.mpr hi))
theorem fg_max (g : Nat → Int) (n : Nat) : ∀ k, k < n → g k ≤ g (fg g n) := by
  induction n with
  | zero => intro k hk; omega
  | succ n ih =>
    intro k hk
    simp only [fg]
    by_cases hc : g (fg g n) < g n
    · rw [if_pos hc]
      by_cases e : k = n
      · subst e; omega
      · have := ih k (by omega); omega
    · rw [if_neg hc]
      by_cases e : k = n
      · subst e; omega
      · exact ih k (by omega)
theorem lea_iff (g : Nat → Int) (m : Int) (n : Nat) : lea g m n = true ↔ ∀ k, k < n → g k ≤ m := by
  induction n with
  | zero => simp [lea]
  | succ n ih =>
    simp only [lea, Bool.and_eq_true, decide_eq_true_eq, ih]
    constructor
    · intro h k hk
      by_cases e : k = n
      · subst e; exact h.2
      · exact h.1 k (by omega)
    · intro h
      exact ⟨fun k hk => h k (by omega), h n (by omega)⟩
theorem lea_fg {g : Nat → Int} {m : Int} {n : Nat} (hn : 0 < n) : lea g m n = true ↔ g (fg g n) ≤ m := by
  rw [lea_iff]
  exact ⟨fun h => h _ (fg_lt g hn), fun h k hk => Int.le_trans (fg_max g n k hk) h⟩
theorem trB_iff (f : Nat → Int) (r : Int) (e n : Nat) : trB f r e n = true ↔ ∀ k, k < n → lea (shr (tw f (k : Int) (mn f)) r) (shr (tw f (k : Int) (mn f)) r e) (mn f) = true := by
  induction n with
  | zero => simp [trB]
  | succ n ih =>
    simp only [trB, Bool.and_eq_true, ih]
    constructor
    · intro h k hk
      by_cases e : k = n
      · subst e; exact h.2
      · exact h.1 k (by omega)
    · intro h
      exact ⟨fun k hk => h k (by omega), h n (by omega)⟩
def rschk (m : Nat) : Bool := (List.range 256).all (fun k => (List.range m).all (fun j => decide (rs (k : Int) j % 4 = rs ((k % 4 ^ m : Nat) : Int) j % 4)))
theorem rs_per {k m : Nat} (hk : k < 256) (hm : m ≤ 4) {j : Nat} (hj : j < m) : rs (k : Int) j % 4 = rs ((k % 4 ^ m : Nat) : Int) j % 4 := by
  have hc : rschk m = true := by
    have : m = 0 ∨ m = 1 ∨ m = 2 ∨ m = 3 ∨ m = 4 := by omega
    rcases this with rfl | rfl | rfl | rfl | rfl <;> decide +kernel
  exact of_decide_eq_true (List.all_eq_true.mp (List.all_eq_true.mp hc k (List.mem_range.mpr hk)) j (List.mem_range.mpr hj))
theorem tw_per (f : Nat → Int) {k m : Nat} (hk : k < 256) (hm : m ≤ 4) : tw f (k : Int) m = tw f ((k % 4 ^ m : Nat) : Int) m := by
  funext j
  rw [tw_at _ _ hm, tw_at _ _ hm]
  by_cases h1 : 20 ≤ j ∧ j < 20 + m
  · rw [if_pos h1, if_pos h1]
  · rw [if_neg h1, if_neg h1]
    by_cases h2 : 24 ≤ j ∧ j < 24 + m
    · rw [if_pos h2, if_pos h2, rs_per hk hm (by omega)]
    · rw [if_neg h2, if_neg h2]
theorem four_pow {m : Nat} (hm : m ≤ 4) : 0 < 4 ^ m ∧ 4 ^ m ≤ 256 ∧ p2 (2 * m) = ((4 ^ m : Nat) : Int) := by
  have : m = 0 ∨ m = 1 ∨ m = 2 ∨ m = 3 ∨ m = 4 := by omega
  rcases this with rfl | rfl | rfl | rfl | rfl <;> decide
theorem trB_per (f : Nat → Int) (r : Int) (e : Nat) (hm : mn f ≤ 4) : trB f r e 256 = true ↔ trB f r e (4 ^ mn f) = true := by
  have h4 := four_pow hm
  rw [trB_iff, trB_iff]
  constructor
  · intro h k hk
    exact h k (by omega)
  · intro h k hk
    rw [tw_per f hk hm]
    exact h _ (Nat.mod_lt _ h4.1)
theorem eqR_ufl {f g : Nat → Int} (h : eqR f g) {j : Nat} (hj : j ≠ 4) {v : Int} (hv : g j = v) : eqR (uf f j v) g := by
  intro i hi hc
  have e4 : uf f j v 4 = f 4 := if_neg (by omega)
  rw [e4] at hc
  unfold uf
  split
  · rename_i h2; rw [h2, hv]
  · exact h i hi hc
/-! order: codes of base 'heirs' against codes of base 4 -/
def rb (m k : Int) : Nat → Int
  | 0 => k
  | n + 1 => rb m k n / m
def sb (m k : Int) : Nat → Int
  | 0 => 0
  | j + 1 => orI (sb m k j) (p2 (rb m k j % m).toNat)
def trc (m c : Nat) : Nat := ((rb m c 0 % m).toNat + 4 * (if 1 < m then (rb m c 1 % m).toNat else 0) + 16 * (if 2 < m then (rb m c 2 % m).toNat else 0) + 64 * (if 3 < m then (rb m c 3 % m).toNat else 0))
def trchk (m : Nat) : Bool := (List.range (m ^ m)).all (fun c => decide (trc m c < 256) && (decide (sb m c m = p2 m - 1) == isO (trc m c : Int) m) && (List.range m).all (fun j => decide (rb m c j % m = rs (trc m c : Int) j % 4)))
theorem trc_ok {m c : Nat} (hm : 2 ≤ m ∧ m ≤ 4) (hc : c < m ^ m) : trc m c < 256 ∧ (sb m c m = p2 m - 1 ↔ isO (trc m c : Int) m = true) ∧ ∀ j, j < m → rb m c j % m = rs (trc m c : Int) j % 4 := by
  have h1 : trchk m = true := by
    have : m = 2 ∨ m = 3 ∨ m = 4 := by omega
    rcases this with rfl | rfl | rfl <;> decide +kernel
  have h2 := List.all_eq_true.mp h1 c (List.mem_range.mpr hc)
  rw [Bool.and_eq_true, Bool.and_eq_true] at h2
  refine ⟨of_decide_eq_true h2.1.1, ?_, fun j hj => of_decide_eq_true (List.all_eq_true.mp h2.2 j (List.mem_range.mpr hj))⟩
  have h3 := eq_of_beq h2.1.2
  rw [← h3, decide_eq_true_eq]
theorem rb_bd {m k : Int} (hm : 2 ≤ m ∧ m ≤ 4) (h : 0 ≤ k ∧ k < 256) (n : Nat) : 0 ≤ rb m k n ∧ rb m k n < 256 := by
  induction n with
  | zero => exact h
  | succ n ih =>
    simp only [rb]
    have h1 : 0 ≤ rb m k n / m := Int.ediv_nonneg ih.1 (by omega)
    have h2 : rb m k n / m ≤ rb m k n := Int.ediv_le_self _ ih.1
    omega
theorem sb_bd (m r : Int) (j : Nat) : -2147483648 ≤ sb m r j ∧ sb m r j < 2147483648 := by
  cases j with
  | zero => simp [sb]
  | succ j => exact orI_bd _ _
/-- the first greatest of g along a list -/
def fb (g : Nat → Int) : List Nat → Int × Nat → Int × Nat
  | [], q => q
  | r :: l, q => fb g l (if q.1 < g r then (g r, r) else q)
theorem fb_app (g : Nat → Int) (l l' : List Nat) (q : Int × Nat) : fb g (l ++ l') q = fb g l' (fb g l q) := by
  induction l generalizing q with
  | nil => rfl
  | cons r l ih => exact ih _
theorem om_fb (f : Nat → Int) (n N : Nat) : (om f n N, ob f n N) = fb (fun r => orF f r n 1) ((List.range N).filter (fun r => isO (r : Int) (mn f))) (-1, 0) := by
  induction N with
  | zero => rfl
  | succ N ih =>
    rw [List.range_succ, List.filter_append, fb_app, ← ih]
    by_cases h : isO (N : Int) (mn f) = true
    · rw [List.filter_cons, if_pos h]
      simp only [om, ob, fb, List.filter_nil]
      by_cases h2 : om f n N < orF f N n 1
      · rw [if_pos ⟨h, h2⟩, if_pos ⟨h, h2⟩, if_pos h2]
      · rw [if_neg (fun e => h2 e.2), if_neg (fun e => h2 e.2), if_neg h2]
    · rw [List.filter_cons, if_neg h]
      simp only [om, ob, fb, List.filter_nil]
      rw [if_neg (fun e => h e.1), if_neg (fun e => h e.1)]
/-- the class's: over its codes -/
def cm (f : Nat → Int) (n : Nat) : Nat → Int
  | 0 => -1
  | c + 1 => if isO (trc (mn f) c : Int) (mn f) = true ∧ cm f n c < orF f (trc (mn f) c : Int) n 1 then orF f (trc (mn f) c : Int) n 1 else cm f n c
def cbt (f : Nat → Int) (n : Nat) : Nat → Nat
  | 0 => 0
  | c + 1 => if isO (trc (mn f) c : Int) (mn f) = true ∧ cm f n c < orF f (trc (mn f) c : Int) n 1 then trc (mn f) c else cbt f n c
theorem cm_fb (f : Nat → Int) (n N : Nat) : (cm f n N, cbt f n N) = fb (fun r => orF f r n 1) (((List.range N).filter (fun c => isO (trc (mn f) c : Int) (mn f))).map (trc (mn f))) (-1, 0) := by
  induction N with
  | zero => rfl
  | succ N ih =>
    rw [List.range_succ, List.filter_append, List.map_append, fb_app, ← ih]
    by_cases h : isO (trc (mn f) N : Int) (mn f) = true
    · rw [List.filter_cons, if_pos h]
      simp only [cm, cbt, fb, List.filter_nil, List.map_cons, List.map_nil]
      by_cases h2 : cm f n N < orF f (trc (mn f) N : Int) n 1
      · rw [if_pos ⟨h, h2⟩, if_pos ⟨h, h2⟩, if_pos h2]
      · rw [if_neg (fun e => h2 e.2), if_neg (fun e => h2 e.2), if_neg h2]
    · rw [List.filter_cons, if_neg h]
      simp only [cm, cbt, fb, List.filter_nil, List.map_nil]
      rw [if_neg (fun e => h e.1), if_neg (fun e => h e.1)]
theorem cm_om (f : Nat → Int) (n : Nat) (hm : 2 ≤ mn f ∧ mn f ≤ 4) : cm f n (mn f ^ mn f) = om f n 256 ∧ cbt f n (mn f ^ mn f) = ob f n 256 := by
  have hl : ((List.range (mn f ^ mn f)).filter (fun c => isO (trc (mn f) c : Int) (mn f))).map (trc (mn f)) = (List.range 256).filter (fun r : Nat => isO (r : Int) (mn f)) := by
    generalize mn f = m at *
    have : m = 2 ∨ m = 3 ∨ m = 4 := by omega
    rcases this with rfl | rfl | rfl <;> decide +kernel
  have h1 := cm_fb f n (mn f ^ mn f)
  rw [hl, ← om_fb f n 256] at h1
  exact ⟨congrArg Prod.fst h1, congrArg Prod.snd h1⟩
theorem cm_bd {f : Nat → Int} (hok : okV f) {n : Nat} (h5 : f 5 + n ≤ 10000) {c : Nat} (hc : c ≤ mn f ^ mn f) : -1 ≤ cm f n c ∧ cm f n c ≤ 99 := by
  have o4 := hok.1
  have hm : ((mn f : Nat) : Int) = f 4 := by unfold mn; omega
  induction c with
  | zero => simp [cm]
  | succ c ih =>
    have h1 := ih (by omega)
    have ht := trc_ok (m := mn f) (c := c) (by omega) (by omega)
    simp only [cm]
    split
    · rename_i h
      have h2 := (okV_orF hok ht.1 h.1 h5).1.2.2.1
      omega
    · omega
theorem om_mono (f : Nat → Int) (n r : Nat) (k : Nat) : om f n r ≤ om f n (r + k) := by
  induction k with
  | zero => exact Int.le_refl _
  | succ k ih =>
    rw [show r + (k + 1) = r + k + 1 from by omega]
    simp only [om]
    split <;> omega
theorem om_pos {f : Nat → Int} (hok : okV f) {n : Nat} (h5 : f 5 + n ≤ 10000) : 0 ≤ om f n 256 := by
  have o4 := hok.1
  have hm : ((mn f : Nat) : Int) = f 4 := by unfold mn; omega
  have key : ∀ r : Nat, r < 256 → isO (r : Int) (mn f) = true → 0 ≤ om f n 256 := fun r hr h => by
    have h1 := (okV_orF hok hr h h5).1.2.2.1
    have h2 := om_mono f n (r + 1) (255 - r)
    rw [show r + 1 + (255 - r) = 256 from by omega] at h2
    have h3 : orF f r n 1 ≤ om f n (r + 1) := by
      simp only [om]
      split
      · exact Int.le_refl _
      · rename_i h4
        have : ¬ om f n r < orF f r n 1 := fun h6 => h4 ⟨h, h6⟩
        omega
    omega
  have : mn f = 2 ∨ mn f = 3 ∨ mn f = 4 := by omega
  rcases this with e | e | e
  · exact key 1 (by omega) (by rw [e]; decide +kernel)
  · exact key 6 (by omega) (by rw [e]; decide +kernel)
  · exact key 27 (by omega) (by rw [e]; decide +kernel)
