theorem n3_1 (τ : Sg) {c1 c2 c3 : Nat} (a a' b d : Nat → Int) (h : c1 ≠ c2 ∧ c1 ≠ c3) : us (us (us (us τ c1 a) c2 b) c3 d) c1 a' = us (us (us τ c1 a') c2 b) c3 d := by
  rw [us_comm _ _ _ (Ne.symm h.2), us_comm _ _ _ (Ne.symm h.1), us_us]
theorem n3_2 (τ : Sg) {c1 c2 c3 : Nat} (a b b' d : Nat → Int) (h : c2 ≠ c3) : us (us (us (us τ c1 a) c2 b) c3 d) c2 b' = us (us (us τ c1 a) c2 b') c3 d := by
  rw [us_comm _ _ _ (Ne.symm h), us_us]
def spk (f : Nat → Int) (h : Nat) (w n : Int) : Nat → Int := uf (uf (uf f (20 + h) 1) (24 + h) w) (28 + h) n
theorem spk_at (f : Nat → Int) (h : Nat) (w n : Int) (j : Nat) : spk f h w n j = if j = 28 + h then n else if j = 24 + h then w else if j = 20 + h then 1 else f j := rfl
theorem spk_o (f : Nat → Int) (h : Nat) (w n : Int) {j : Nat} (hj : j ≠ 28 + h ∧ j ≠ 24 + h ∧ j ≠ 20 + h) : spk f h w n j = f j := by rw [spk_at, if_neg hj.1, if_neg hj.2.1, if_neg hj.2.2]
theorem spk_spk (f : Nat → Int) (h : Nat) (w n w' n' : Int) : spk (spk f h w n) h w' n' = spk f h w' n' := by
  funext j
  simp only [spk_at]
  (repeat' split) <;> rfl
/-- what a speech gains -/
def gn (f : Nat → Int) (h : Nat) (w n : Int) : Int := shr (spk f h w n) (f 3) h - n / 4
def gk (f : Nat → Int) (h : Nat) (k : Nat) : Int := gn f h ((k : Int) / 41) ((k : Int) % 41)
def bm (f : Nat → Int) (h : Nat) : Nat → Int
  | 0 => -1
  | k + 1 => if bm f h k < gk f h k then gk f h k else bm f h k
def bsp (f : Nat → Int) (h : Nat) (z : Int) : Nat → Int
  | 0 => z
  | k + 1 => if bm f h k < gk f h k then 100 * ((k : Int) / 41) + (k : Int) % 41 else bsp f h z k
theorem gn_bd {f : Nat → Int} (hok : okV f) {h : Nat} (hh : (h : Int) < f 4) {w n : Int} (hw : 0 ≤ w ∧ w ≤ 18) (hn : 0 ≤ n ∧ n ≤ 40) : -10 ≤ gn f h w n ∧ gn f h w n ≤ 198 := by
  have h4 := hok.1
  have hk : okV (spk f h w n) := okV_say hok hh hw hn
  have h1 := shr_bd hk (f 3) (h := h) (by rw [spk_o f h w n (by omega)]; exact hh)
  unfold gn
  omega
theorem bm_bd {f : Nat → Int} (hok : okV f) {h : Nat} (hh : (h : Int) < f 4) {k : Nat} (hk : k ≤ 779) : -1 ≤ bm f h k ∧ bm f h k ≤ 198 := by
  induction k with
  | zero => simp [bm]
  | succ k ih =>
    have h1 := ih (by omega)
    have h2 := gn_bd hok hh (w := (k : Int) / 41) (n := (k : Int) % 41) (by omega) (by omega)
    simp only [bm]
    split
    · unfold gk at *; omega
    · omega
def nowg (f : Nat → Int) (h : Nat) : Int := shr f (f 3) h - f (28 + h) / 4
def raP (f : Nat → Int) (h : Nat) : Bool := decide (nowg f h < bm f h 779)
