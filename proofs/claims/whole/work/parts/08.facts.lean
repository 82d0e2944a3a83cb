section Fl
variable {cy : Nat → ClassId} {B : Nat} {σ : Sg}
theorem e_0 : GW cy B σ 0 = .inr (10, lpF B (σ 0)) := rfl
theorem e_2 : GW cy B σ 2 = .inr (4, rdF B (σ 2)) := rfl
theorem e_5 : GW cy B σ 5 = .inr (9, [.ref (B + 6), .int (iI (σ 5 1))]) := rfl
theorem e_202 : GW cy B σ 202 = .inr (11, moF B (σ 202)) := rfl
theorem p_0_8 {z : Int} : ∀ d, d < 217 → GW cy B (up σ 0 8 z) d = if d = 0 then .inr (10, (lpF B (σ 0)).set 8 (.int (iI z))) else GW cy B σ d := fun d _ => by rw [GW_us (by omega)]; rfl
theorem p_0_9 {z : Int} : ∀ d, d < 217 → GW cy B (up σ 0 9 z) d = if d = 0 then .inr (10, (lpF B (σ 0)).set 9 (.int (iI z))) else GW cy B σ d := fun d _ => by rw [GW_us (by omega)]; rfl
theorem p_0_14 {z : Int} : ∀ d, d < 217 → GW cy B (up σ 0 14 z) d = if d = 0 then .inr (10, (lpF B (σ 0)).set 14 (.int (iI z))) else GW cy B σ d := fun d _ => by rw [GW_us (by omega)]; rfl
theorem p_0_15 {z : Int} : ∀ d, d < 217 → GW cy B (up σ 0 15 z) d = if d = 0 then .inr (10, (lpF B (σ 0)).set 15 (.int (iI z))) else GW cy B σ d := fun d _ => by rw [GW_us (by omega)]; rfl
theorem p_2_1 {z : Int} : ∀ d, d < 217 → GW cy B (up σ 2 1 z) d = if d = 2 then .inr (4, (rdF B (σ 2)).set 1 (.int (iI z))) else GW cy B σ d := fun d _ => by rw [GW_us (by omega)]; rfl
theorem p_2_2 {z : Int} : ∀ d, d < 217 → GW cy B (up σ 2 2 z) d = if d = 2 then .inr (4, (rdF B (σ 2)).set 2 (.int (iI z))) else GW cy B σ d := fun d _ => by rw [GW_us (by omega)]; rfl
theorem p_2_3 {z : Int} : ∀ d, d < 217 → GW cy B (up σ 2 3 z) d = if d = 2 then .inr (4, (rdF B (σ 2)).set 3 (.int (iI z))) else GW cy B σ d := fun d _ => by rw [GW_us (by omega)]; rfl
theorem p_2_4 {z : Int} : ∀ d, d < 217 → GW cy B (up σ 2 4 z) d = if d = 2 then .inr (4, (rdF B (σ 2)).set 4 (.int (iI z))) else GW cy B σ d := fun d _ => by rw [GW_us (by omega)]; rfl
theorem p_2_5 {z : Int} : ∀ d, d < 217 → GW cy B (up σ 2 5 z) d = if d = 2 then .inr (4, (rdF B (σ 2)).set 5 (.int (iI z))) else GW cy B σ d := fun d _ => by rw [GW_us (by omega)]; rfl
theorem p_2_6 {z : Int} : ∀ d, d < 217 → GW cy B (up σ 2 6 z) d = if d = 2 then .inr (4, (rdF B (σ 2)).set 6 (.int (iI z))) else GW cy B σ d := fun d _ => by rw [GW_us (by omega)]; rfl
theorem p_5_1 {z : Int} : ∀ d, d < 217 → GW cy B (up σ 5 1 z) d = if d = 5 then .inr (9, ([.ref (B + 6), .int (iI (σ 5 1))]).set 1 (.int (iI z))) else GW cy B σ d := fun d _ => by rw [GW_us (by omega)]; rfl
theorem p_202_3 {z : Int} : ∀ d, d < 217 → GW cy B (up σ 202 3 z) d = if d = 202 then .inr (11, (moF B (σ 202)).set 3 (.int (iI z))) else GW cy B σ d := fun d _ => by rw [GW_us (by omega)]; rfl
theorem p_202_4 {z : Int} : ∀ d, d < 217 → GW cy B (up σ 202 4 z) d = if d = 202 then .inr (11, (moF B (σ 202)).set 4 (.int (iI z))) else GW cy B σ d := fun d _ => by rw [GW_us (by omega)]; rfl
theorem p_202_8 {z : Int} : ∀ d, d < 217 → GW cy B (up σ 202 8 z) d = if d = 202 then .inr (11, (moF B (σ 202)).set 8 (.int (iI z))) else GW cy B σ d := fun d _ => by rw [GW_us (by omega)]; rfl
theorem p_202_9 {z : Int} : ∀ d, d < 217 → GW cy B (up σ 202 9 z) d = if d = 202 then .inr (11, (moF B (σ 202)).set 9 (.int (iI z))) else GW cy B σ d := fun d _ => by rw [GW_us (by omega)]; rfl
theorem p_202_10 {z : Int} : ∀ d, d < 217 → GW cy B (up σ 202 10 z) d = if d = 202 then .inr (11, (moF B (σ 202)).set 10 (.int (iI z))) else GW cy B σ d := fun d _ => by rw [GW_us (by omega)]; rfl
theorem p_202_11 {z : Int} : ∀ d, d < 217 → GW cy B (up σ 202 11 z) d = if d = 202 then .inr (11, (moF B (σ 202)).set 11 (.int (iI z))) else GW cy B σ d := fun d _ => by rw [GW_us (by omega)]; rfl
theorem p_202_12 {z : Int} : ∀ d, d < 217 → GW cy B (up σ 202 12 z) d = if d = 202 then .inr (11, (moF B (σ 202)).set 12 (.int (iI z))) else GW cy B σ d := fun d _ => by rw [GW_us (by omega)]; rfl
theorem p_202_13 {z : Int} : ∀ d, d < 217 → GW cy B (up σ 202 13 z) d = if d = 202 then .inr (11, (moF B (σ 202)).set 13 (.int (iI z))) else GW cy B σ d := fun d _ => by rw [GW_us (by omega)]; rfl
theorem p_202_14 {z : Int} : ∀ d, d < 217 → GW cy B (up σ 202 14 z) d = if d = 202 then .inr (11, (moF B (σ 202)).set 14 (.int (iI z))) else GW cy B σ d := fun d _ => by rw [GW_us (by omega)]; rfl
theorem p_202_18 {z : Int} : ∀ d, d < 217 → GW cy B (up σ 202 18 z) d = if d = 202 then .inr (11, (moF B (σ 202)).set 18 (.int (iI z))) else GW cy B σ d := fun d _ => by rw [GW_us (by omega)]; rfl
theorem p_202_20 {z : Int} : ∀ d, d < 217 → GW cy B (up σ 202 20 z) d = if d = 202 then .inr (11, (moF B (σ 202)).set 20 (.int (iI z))) else GW cy B σ d := fun d _ => by rw [GW_us (by omega)]; rfl
theorem p_202_25 {z : Int} : ∀ d, d < 217 → GW cy B (up σ 202 25 z) d = if d = 202 then .inr (11, (moF B (σ 202)).set 25 (.int (iI z))) else GW cy B σ d := fun d _ => by rw [GW_us (by omega)]; rfl
theorem e_3 : GW cy B σ 3 = ivA (cy 0) 100 (σ 3) := rfl
theorem p_3 {z : Int} {j : Nat} : ∀ d, d < 217 → GW cy B (up σ 3 j z) d = if d = 3 then ivA (cy 0) 100 (uf (σ 3) j z) else GW cy B σ d := fun d _ => by rw [GW_us (by omega)]; rfl
theorem e_6 : GW cy B σ 6 = ivA (cy 0) 16 (σ 6) := rfl
theorem p_6 {z : Int} {j : Nat} : ∀ d, d < 217 → GW cy B (up σ 6 j z) d = if d = 6 then ivA (cy 0) 16 (uf (σ 6) j z) else GW cy B σ d := fun d _ => by rw [GW_us (by omega)]; rfl
theorem e_9 : GW cy B σ 9 = ivA (cy 0) 4 (σ 9) := rfl
theorem p_9 {z : Int} {j : Nat} : ∀ d, d < 217 → GW cy B (up σ 9 j z) d = if d = 9 then ivA (cy 0) 4 (uf (σ 9) j z) else GW cy B σ d := fun d _ => by rw [GW_us (by omega)]; rfl
theorem e_10 : GW cy B σ 10 = ivA (cy 0) 4 (σ 10) := rfl
theorem p_10 {z : Int} {j : Nat} : ∀ d, d < 217 → GW cy B (up σ 10 j z) d = if d = 10 then ivA (cy 0) 4 (uf (σ 10) j z) else GW cy B σ d := fun d _ => by rw [GW_us (by omega)]; rfl
theorem e_11 : GW cy B σ 11 = ivA (cy 0) 4 (σ 11) := rfl
theorem p_11 {z : Int} {j : Nat} : ∀ d, d < 217 → GW cy B (up σ 11 j z) d = if d = 11 then ivA (cy 0) 4 (uf (σ 11) j z) else GW cy B σ d := fun d _ => by rw [GW_us (by omega)]; rfl
theorem e_12 : GW cy B σ 12 = ivA (cy 0) 4 (σ 12) := rfl
theorem p_12 {z : Int} {j : Nat} : ∀ d, d < 217 → GW cy B (up σ 12 j z) d = if d = 12 then ivA (cy 0) 4 (uf (σ 12) j z) else GW cy B σ d := fun d _ => by rw [GW_us (by omega)]; rfl
theorem e_203 : GW cy B σ 203 = ivA (cy 0) 8 (σ 203) := rfl
theorem p_203 {z : Int} {j : Nat} : ∀ d, d < 217 → GW cy B (up σ 203 j z) d = if d = 203 then ivA (cy 0) 8 (uf (σ 203) j z) else GW cy B σ d := fun d _ => by rw [GW_us (by omega)]; rfl
theorem e_204 : GW cy B σ 204 = ivA (cy 0) 8 (σ 204) := rfl
theorem p_204 {z : Int} {j : Nat} : ∀ d, d < 217 → GW cy B (up σ 204 j z) d = if d = 204 then ivA (cy 0) 8 (uf (σ 204) j z) else GW cy B σ d := fun d _ => by rw [GW_us (by omega)]; rfl
theorem e_205 : GW cy B σ 205 = ivA (cy 0) 320 (σ 205) := rfl
theorem p_205 {z : Int} {j : Nat} : ∀ d, d < 217 → GW cy B (up σ 205 j z) d = if d = 205 then ivA (cy 0) 320 (uf (σ 205) j z) else GW cy B σ d := fun d _ => by rw [GW_us (by omega)]; rfl
theorem e_206 : GW cy B σ 206 = ivA (cy 0) 48 (σ 206) := rfl
theorem p_206 {z : Int} {j : Nat} : ∀ d, d < 217 → GW cy B (up σ 206 j z) d = if d = 206 then ivA (cy 0) 48 (uf (σ 206) j z) else GW cy B σ d := fun d _ => by rw [GW_us (by omega)]; rfl
theorem e_207 : GW cy B σ 207 = ivA (cy 0) 40 (σ 207) := rfl
theorem p_207 {z : Int} {j : Nat} : ∀ d, d < 217 → GW cy B (up σ 207 j z) d = if d = 207 then ivA (cy 0) 40 (uf (σ 207) j z) else GW cy B σ d := fun d _ => by rw [GW_us (by omega)]; rfl
theorem e_208 : GW cy B σ 208 = ivA (cy 0) 100 (σ 208) := rfl
theorem p_208 {z : Int} {j : Nat} : ∀ d, d < 217 → GW cy B (up σ 208 j z) d = if d = 208 then ivA (cy 0) 100 (uf (σ 208) j z) else GW cy B σ d := fun d _ => by rw [GW_us (by omega)]; rfl
theorem e_209 : GW cy B σ 209 = ivA (cy 0) 48 (σ 209) := rfl
theorem p_209 {z : Int} {j : Nat} : ∀ d, d < 217 → GW cy B (up σ 209 j z) d = if d = 209 then ivA (cy 0) 48 (uf (σ 209) j z) else GW cy B σ d := fun d _ => by rw [GW_us (by omega)]; rfl
theorem e_210 : GW cy B σ 210 = ivA (cy 0) 4 (σ 210) := rfl
theorem p_210 {z : Int} {j : Nat} : ∀ d, d < 217 → GW cy B (up σ 210 j z) d = if d = 210 then ivA (cy 0) 4 (uf (σ 210) j z) else GW cy B σ d := fun d _ => by rw [GW_us (by omega)]; rfl
theorem e_211 : GW cy B σ 211 = ivA (cy 0) 1152 (σ 211) := rfl
theorem p_211 {z : Int} {j : Nat} : ∀ d, d < 217 → GW cy B (up σ 211 j z) d = if d = 211 then ivA (cy 0) 1152 (uf (σ 211) j z) else GW cy B σ d := fun d _ => by rw [GW_us (by omega)]; rfl
theorem e_212 : GW cy B σ 212 = ivA (cy 0) 48 (σ 212) := rfl
theorem p_212 {z : Int} {j : Nat} : ∀ d, d < 217 → GW cy B (up σ 212 j z) d = if d = 212 then ivA (cy 0) 48 (uf (σ 212) j z) else GW cy B σ d := fun d _ => by rw [GW_us (by omega)]; rfl
theorem e_213 : GW cy B σ 213 = ivA (cy 0) 4 (σ 213) := rfl
theorem p_213 {z : Int} {j : Nat} : ∀ d, d < 217 → GW cy B (up σ 213 j z) d = if d = 213 then ivA (cy 0) 4 (uf (σ 213) j z) else GW cy B σ d := fun d _ => by rw [GW_us (by omega)]; rfl
theorem e_215 : GW cy B σ 215 = ivA (cy 0) 96 (σ 215) := rfl
theorem p_215 {z : Int} {j : Nat} : ∀ d, d < 217 → GW cy B (up σ 215 j z) d = if d = 215 then ivA (cy 0) 96 (uf (σ 215) j z) else GW cy B σ d := fun d _ => by rw [GW_us (by omega)]; rfl
theorem e_216 : GW cy B σ 216 = ivA (cy 0) 16 (σ 216) := rfl
theorem p_216 {z : Int} {j : Nat} : ∀ d, d < 217 → GW cy B (up σ 216 j z) d = if d = 216 then ivA (cy 0) 16 (uf (σ 216) j z) else GW cy B σ d := fun d _ => by rw [GW_us (by omega)]; rfl
theorem e_214 : GW cy B σ 214 = ivA (cy 1) 2 (σ 214) := rfl
theorem p_214 {z : Int} {j : Nat} : ∀ d, d < 217 → GW cy B (up σ 214 j z) d = if d = 214 then ivA (cy 1) 2 (uf (σ 214) j z) else GW cy B σ d := fun d _ => by rw [GW_us (by omega)]; rfl
theorem e_1 : GW cy B σ 1 = rfA (cy 5) 8 (fun i => some (B + (30 + 2 * i))) := rfl
theorem e_4 : GW cy B σ 4 = rfA (cy 3) 6 (fun i => if i = 0 then none else some (B + (12 + i))) := rfl
theorem e_7 : GW cy B σ 7 = rfA (cy 4) 2 (fun i => some (B + (46 + 6 * i))) := rfl
theorem e_8 : GW cy B σ 8 = rfA (cy 4) 24 (fun i => some (B + (58 + 6 * i))) := rfl
theorem e_row {i : Nat} (h : i < 8) : GW cy B σ (30 + 2 * i) = .inr (6, [.ref (B + (30 + 2 * i + 1)), .int (iI (σ (30 + 2 * i) 1)), .int (iI (σ (30 + 2 * i) 2))]) := by
  rw [GW_own (by omega)]
  unfold gc rowC
  rw [if_neg (by omega), if_neg (by omega), if_pos (by omega), if_pos (by omega)]
theorem e_it {i : Nat} (h : i < 8) : GW cy B σ (30 + 2 * i + 1) = ivA (cy 0) 40 (σ (30 + 2 * i + 1)) := by
  rw [GW_own (by omega)]
  unfold gc rowC
  rw [if_neg (by omega), if_neg (by omega), if_pos (by omega), if_neg (by omega)]
theorem gc_row {i : Nat} (h : i < 8) (f : Nat → Int) : gc cy B (30 + 2 * i) f = .inr (6, [.ref (B + (30 + 2 * i + 1)), .int (iI (f 1)), .int (iI (f 2))]) := by
  unfold gc rowC
  rw [if_neg (by omega), if_neg (by omega), if_pos (by omega), if_pos (by omega)]
theorem gc_it {i : Nat} (h : i < 8) (f : Nat → Int) : gc cy B (30 + 2 * i + 1) f = ivA (cy 0) 40 f := by
  unfold gc rowC
  rw [if_neg (by omega), if_neg (by omega), if_pos (by omega), if_neg (by omega)]
theorem p_row_1 {i : Nat} (h : i < 8) {z : Int} : ∀ d, d < 217 → GW cy B (up σ (30 + 2 * i) 1 z) d = if d = 30 + 2 * i then .inr (6, ([.ref (B + (30 + 2 * i + 1)), .int (iI (σ (30 + 2 * i) 1)), .int (iI (σ (30 + 2 * i) 2))] : List Value).set 1 (.int (iI z))) else GW cy B σ d := fun d _ => by
  rw [GW_us (by omega), gc_row h]
  rfl
theorem p_row_2 {i : Nat} (h : i < 8) {z : Int} : ∀ d, d < 217 → GW cy B (up σ (30 + 2 * i) 2 z) d = if d = 30 + 2 * i then .inr (6, ([.ref (B + (30 + 2 * i + 1)), .int (iI (σ (30 + 2 * i) 1)), .int (iI (σ (30 + 2 * i) 2))] : List Value).set 2 (.int (iI z))) else GW cy B σ d := fun d _ => by
  rw [GW_us (by omega), gc_row h]
  rfl
theorem p_it {i : Nat} (h : i < 8) {z : Int} {j : Nat} : ∀ d, d < 217 → GW cy B (up σ (30 + 2 * i + 1) j z) d = if d = 30 + 2 * i + 1 then ivA (cy 0) 40 (uf (σ (30 + 2 * i + 1)) j z) else GW cy B σ d := fun d _ => by
  rw [GW_us (by omega), gc_it h]
theorem e_R {o : Nat} (h : isR o) : GW cy B σ o = .inr (5, realmF (B + (o + 1)) (σ o)) := GW_R (q := 0) h (by omega)
theorem e_Ra {o : Nat} (h : isR o) : GW cy B σ (o + 1) = rfA (cy 2) 4 (fun j => some (B + (o + 2 + j))) := GW_R (q := 1) h (by omega)
theorem e_H {o i : Nat} (h : isR o) (hi : i < 4) : GW cy B σ (o + 2 + i) = .inr (0, heirF B i (σ o)) := by
  have h1 := GW_R (cy := cy) (B := B) (σ := σ) (q := i + 2) h (by omega)
  rw [show o + 2 + i = o + (i + 2) by omega, h1]
  rfl
theorem lt_R {o : Nat} (h : isR o) : o < 217 := by have := (ow_R h (q := 0) (by omega)).2.1; omega
theorem lt_Ra {o : Nat} (h : isR o) : o + 1 < 217 := by have := (ow_R h (q := 1) (by omega)).2.1; omega
theorem lt_H {o i : Nat} (h : isR o) (hi : i < 4) : o + 2 + i < 217 := by have := (ow_R h (q := 5) (by omega)).2.1; omega
theorem GW_put {o q : Nat} (h : isR o) (hq : q < 6) {f' : Nat → Int} {e : va_E} (h1 : rlC cy B o q f' = e) (h2 : ∀ q', q' < 6 → q' ≠ q → rlC cy B o q' f' = rlC cy B o q' (σ o)) (d : Nat) : GW cy B (us σ o f') d = if d = o + q then e else GW cy B σ d := by
  rw [GW_usR h]
  by_cases hd : o ≤ d ∧ d < o + 6
  · rw [if_pos hd]
    by_cases hdq : d = o + q
    · subst hdq
      rw [if_pos rfl, show o + q - o = q by omega, h1]
    · rw [if_neg hdq, h2 (d - o) (by omega) (by omega)]
      have h3 := GW_R (cy := cy) (B := B) (σ := σ) (q := d - o) h (by omega)
      rw [show o + (d - o) = d by omega] at h3
      exact h3.symm
  · rw [if_neg hd, if_neg (by omega)]
theorem rl_h {o i k : Nat} {f : Nat → Int} {z : Int} (hk : k < 8) : rlC cy B o (i + 2) (uf f k z) = rlC cy B o (i + 2) f := by
  have e : ∀ j, uf f k z (8 + j) = f (8 + j) := fun j => uf_ne _ _ (by omega)
  show Sum.inr (0, heirF B i (uf f k z)) = Sum.inr (0, heirF B i f)
  unfold heirF
  rw [e i, show 12 + i = 8 + (4 + i) by omega, e, show 16 + i = 8 + (8 + i) by omega, e, show 20 + i = 8 + (12 + i) by omega, e, show 24 + i = 8 + (16 + i) by omega, e, show 28 + i = 8 + (20 + i) by omega, e, show 32 + i = 8 + (24 + i) by omega, e, show 36 + i = 8 + (28 + i) by omega, e, show 40 + i = 8 + (32 + i) by omega, e, show 44 + i = 8 + (36 + i) by omega, e]
theorem rl_o {o k : Nat} {f : Nat → Int} {z : Int} (hk : 8 ≤ k) : rlC cy B o 0 (uf f k z) = rlC cy B o 0 f := by
  have e : ∀ j, j < 8 → uf f k z j = f j := fun j hj => uf_ne _ _ (by omega)
  show Sum.inr (5, realmF _ (uf f k z)) = Sum.inr (5, realmF _ f)
  unfold realmF
  rw [e 0 (by omega), e 1 (by omega), e 2 (by omega), e 3 (by omega), e 4 (by omega), e 5 (by omega), e 6 (by omega), e 7 (by omega)]
theorem rl_hh {o i i' g : Nat} {f : Nat → Int} {z : Int} (hi : i < 4) (hi' : i' < 4) (hne : i' ≠ i) : rlC cy B o (i' + 2) (uf f (8 + 4 * g + i) z) = rlC cy B o (i' + 2) f := by
  have e : ∀ j, uf f (8 + 4 * g + i) z (8 + 4 * j + i') = f (8 + 4 * j + i') := fun j => uf_ne _ _ (by omega)
  show Sum.inr (0, heirF B i' (uf f (8 + 4 * g + i) z)) = Sum.inr (0, heirF B i' f)
  unfold heirF
  have e0 := e 0; have e1 := e 1; have e2 := e 2; have e3 := e 3; have e4 := e 4; have e5 := e 5; have e6 := e 6; have e7 := e 7; have e8 := e 8; have e9 := e 9
  simp only [Nat.mul_zero, Nat.add_zero, Nat.reduceMul, Nat.reduceAdd] at e0 e1 e2 e3 e4 e5 e6 e7 e8 e9
  rw [e0, e1, e2, e3, e4, e5, e6, e7, e8, e9]
theorem p_put_o {o k : Nat} (h : isR o) (hk : k < 8) {z : Int} {e : va_E} (h1 : rlC cy B o 0 (uf (σ o) k z) = e) (d : Nat) : GW cy B (up σ o k z) d = if d = o then e else GW cy B σ d :=
  GW_put (q := 0) h (by omega) h1 (fun q' hq hne => by
    match q', hq, hne with
    | 0, _, hne => exact absurd rfl hne
    | 1, _, _ => rfl
    | i + 2, _, _ => exact rl_h hk) d
theorem p_put_h {o i g : Nat} (h : isR o) (hi : i < 4) {z : Int} {e : va_E} (h1 : rlC cy B o (i + 2) (uf (σ o) (8 + 4 * g + i) z) = e) (d : Nat) : GW cy B (up σ o (8 + 4 * g + i) z) d = if d = o + 2 + i then e else GW cy B σ d := by
  have := GW_put (cy := cy) (B := B) (σ := σ) (q := i + 2) h (by omega) h1 (fun q' hq hne => by
    match q', hq, hne with
    | 0, _, _ => exact rl_o (by omega)
    | 1, _, _ => rfl
    | i' + 2, hq, hne => exact rl_hh hi (by omega) (by omega)) d
  rw [show o + 2 + i = o + (i + 2) by omega]
  exact this
theorem p_R_1 {o : Nat} (h : isR o) {z : Int} : ∀ d, d < 217 → GW cy B (up σ o 4 z) d = if d = o then .inr (5, (realmF (B + (o + 1)) (σ o)).set 1 (.int (iI z))) else GW cy B σ d := fun d _ => p_put_o h (by omega) rfl d
theorem p_R_2 {o : Nat} (h : isR o) {z : Int} : ∀ d, d < 217 → GW cy B (up σ o 0 z) d = if d = o then .inr (5, (realmF (B + (o + 1)) (σ o)).set 2 (.int (iI z))) else GW cy B σ d := fun d _ => p_put_o h (by omega) rfl d
theorem p_R_3 {o : Nat} (h : isR o) {z : Int} : ∀ d, d < 217 → GW cy B (up σ o 1 z) d = if d = o then .inr (5, (realmF (B + (o + 1)) (σ o)).set 3 (.int (iI z))) else GW cy B σ d := fun d _ => p_put_o h (by omega) rfl d
theorem p_R_4 {o : Nat} (h : isR o) {z : Int} : ∀ d, d < 217 → GW cy B (up σ o 2 z) d = if d = o then .inr (5, (realmF (B + (o + 1)) (σ o)).set 4 (.int (iI z))) else GW cy B σ d := fun d _ => p_put_o h (by omega) rfl d
theorem p_R_5 {o : Nat} (h : isR o) {z : Int} : ∀ d, d < 217 → GW cy B (up σ o 3 z) d = if d = o then .inr (5, (realmF (B + (o + 1)) (σ o)).set 5 (.int (iI z))) else GW cy B σ d := fun d _ => p_put_o h (by omega) rfl d
theorem p_R_6 {o : Nat} (h : isR o) {z : Int} : ∀ d, d < 217 → GW cy B (up σ o 6 z) d = if d = o then .inr (5, (realmF (B + (o + 1)) (σ o)).set 6 (.int (iI z))) else GW cy B σ d := fun d _ => p_put_o h (by omega) rfl d
theorem p_R_7 {o : Nat} (h : isR o) {z : Int} : ∀ d, d < 217 → GW cy B (up σ o 5 z) d = if d = o then .inr (5, (realmF (B + (o + 1)) (σ o)).set 7 (.int (iI z))) else GW cy B σ d := fun d _ => p_put_o h (by omega) rfl d
theorem p_R_8 {o : Nat} (h : isR o) {z : Int} : ∀ d, d < 217 → GW cy B (up σ o 7 z) d = if d = o then .inr (5, (realmF (B + (o + 1)) (σ o)).set 8 (.int (iI z))) else GW cy B σ d := fun d _ => p_put_o h (by omega) rfl d
theorem p_H_2 {o i : Nat} (h : isR o) (hi : i < 4) {z : Int} : ∀ d, d < 217 → GW cy B (up σ o (12 + i) z) d = if d = o + 2 + i then .inr (0, (heirF B i (σ o)).set 2 (.int (iI z))) else GW cy B σ d := fun d _ => by
  refine p_put_h (g := 1) h hi ?_ d
  show Sum.inr (0, heirF B i (uf (σ o) (12 + i) z)) = _
  have e : ∀ j, j ≠ 12 + i → uf (σ o) (12 + i) z j = σ o j := fun j hj => uf_ne _ _ hj
  unfold heirF
  rw [uf_eq]
  simp (disch := omega) only [e]
  rfl
theorem p_H_3 {o i : Nat} (h : isR o) (hi : i < 4) {z : Int} : ∀ d, d < 217 → GW cy B (up σ o (16 + i) z) d = if d = o + 2 + i then .inr (0, (heirF B i (σ o)).set 3 (.int (iI z))) else GW cy B σ d := fun d _ => by
  refine p_put_h (g := 2) h hi ?_ d
  show Sum.inr (0, heirF B i (uf (σ o) (16 + i) z)) = _
  have e : ∀ j, j ≠ 16 + i → uf (σ o) (16 + i) z j = σ o j := fun j hj => uf_ne _ _ hj
  unfold heirF
  rw [uf_eq]
  simp (disch := omega) only [e]
  rfl
theorem p_H_4 {o i : Nat} (h : isR o) (hi : i < 4) {z : Int} : ∀ d, d < 217 → GW cy B (up σ o (20 + i) z) d = if d = o + 2 + i then .inr (0, (heirF B i (σ o)).set 4 (.int (iI z))) else GW cy B σ d := fun d _ => by
  refine p_put_h (g := 3) h hi ?_ d
  show Sum.inr (0, heirF B i (uf (σ o) (20 + i) z)) = _
  have e : ∀ j, j ≠ 20 + i → uf (σ o) (20 + i) z j = σ o j := fun j hj => uf_ne _ _ hj
  unfold heirF
  rw [uf_eq]
  simp (disch := omega) only [e]
  rfl
theorem p_H_5 {o i : Nat} (h : isR o) (hi : i < 4) {z : Int} : ∀ d, d < 217 → GW cy B (up σ o (24 + i) z) d = if d = o + 2 + i then .inr (0, (heirF B i (σ o)).set 5 (.int (iI z))) else GW cy B σ d := fun d _ => by
  refine p_put_h (g := 4) h hi ?_ d
  show Sum.inr (0, heirF B i (uf (σ o) (24 + i) z)) = _
  have e : ∀ j, j ≠ 24 + i → uf (σ o) (24 + i) z j = σ o j := fun j hj => uf_ne _ _ hj
  unfold heirF
  rw [uf_eq]
  simp (disch := omega) only [e]
  rfl
theorem p_H_6 {o i : Nat} (h : isR o) (hi : i < 4) {z : Int} : ∀ d, d < 217 → GW cy B (up σ o (28 + i) z) d = if d = o + 2 + i then .inr (0, (heirF B i (σ o)).set 6 (.int (iI z))) else GW cy B σ d := fun d _ => by
  refine p_put_h (g := 5) h hi ?_ d
  show Sum.inr (0, heirF B i (uf (σ o) (28 + i) z)) = _
  have e : ∀ j, j ≠ 28 + i → uf (σ o) (28 + i) z j = σ o j := fun j hj => uf_ne _ _ hj
  unfold heirF
  rw [uf_eq]
  simp (disch := omega) only [e]
  rfl
theorem p_H_7 {o i : Nat} (h : isR o) (hi : i < 4) {z : Int} : ∀ d, d < 217 → GW cy B (up σ o (32 + i) z) d = if d = o + 2 + i then .inr (0, (heirF B i (σ o)).set 7 (.int (iI z))) else GW cy B σ d := fun d _ => by
  refine p_put_h (g := 6) h hi ?_ d
  show Sum.inr (0, heirF B i (uf (σ o) (32 + i) z)) = _
  have e : ∀ j, j ≠ 32 + i → uf (σ o) (32 + i) z j = σ o j := fun j hj => uf_ne _ _ hj
  unfold heirF
  rw [uf_eq]
  simp (disch := omega) only [e]
  rfl
theorem p_H_9 {o i : Nat} (h : isR o) (hi : i < 4) {z : Int} : ∀ d, d < 217 → GW cy B (up σ o (36 + i) z) d = if d = o + 2 + i then .inr (0, (heirF B i (σ o)).set 9 (.int (iI z))) else GW cy B σ d := fun d _ => by
  refine p_put_h (g := 7) h hi ?_ d
  show Sum.inr (0, heirF B i (uf (σ o) (36 + i) z)) = _
  have e : ∀ j, j ≠ 36 + i → uf (σ o) (36 + i) z j = σ o j := fun j hj => uf_ne _ _ hj
  unfold heirF
  rw [uf_eq]
  simp (disch := omega) only [e]
  rfl
theorem p_H_10 {o i : Nat} (h : isR o) (hi : i < 4) {z : Int} : ∀ d, d < 217 → GW cy B (up σ o (40 + i) z) d = if d = o + 2 + i then .inr (0, (heirF B i (σ o)).set 10 (.int (iI z))) else GW cy B σ d := fun d _ => by
  refine p_put_h (g := 8) h hi ?_ d
  show Sum.inr (0, heirF B i (uf (σ o) (40 + i) z)) = _
  have e : ∀ j, j ≠ 40 + i → uf (σ o) (40 + i) z j = σ o j := fun j hj => uf_ne _ _ hj
  unfold heirF
  rw [uf_eq]
  simp (disch := omega) only [e]
  rfl
theorem p_H_8 {o i : Nat} (h : isR o) (hi : i < 4) {z : Int} : ∀ d, d < 217 → GW cy B (up σ o (44 + i) z) d = if d = o + 2 + i then .inr (0, (heirF B i (σ o)).set 8 (.int (iI (tdec z)))) else GW cy B σ d := fun d _ => by
  refine p_put_h (g := 9) h hi ?_ d
  show Sum.inr (0, heirF B i (uf (σ o) (44 + i) z)) = _
  have e : ∀ j, j ≠ 44 + i → uf (σ o) (44 + i) z j = σ o j := fun j hj => uf_ne _ _ hj
  unfold heirF
  rw [uf_eq]
  simp (disch := omega) only [e]
  rfl
theorem p_H_1 {o i : Nat} (h : isR o) (hi : i < 4) {z : Int} : ∀ d, d < 217 → GW cy B (up σ o (8 + i) z) d = if d = o + 2 + i then .inr (0, (heirF B i (σ o)).set 1 (.ref (B + (12 + z.toNat)))) else GW cy B σ d := fun d _ => by
  refine p_put_h (g := 0) h hi ?_ d
  show Sum.inr (0, heirF B i (uf (σ o) (8 + i) z)) = _
  have e : ∀ j, j ≠ 8 + i → uf (σ o) (8 + i) z j = σ o j := fun j hj => uf_ne _ _ hj
  unfold heirF
  rw [uf_eq]
  simp (disch := omega) only [e]
  rfl
end Fl
theorem w_0 : Cond.selects "LoveParts" ⟨"LoveParts", "found", "(I)I"⟩ ⟨"LoveParts", "found", "(I)I"⟩ ∈ gw := gw_at 0 (by decide +kernel) (by decide +kernel)
theorem w_1 : Cond.selects "LoveParts" ⟨"LoveParts", "foundNothing", "(I)I"⟩ ⟨"LoveParts", "foundNothing", "(I)I"⟩ ∈ gw := gw_at 1 (by decide +kernel) (by decide +kernel)
theorem w_2 : Cond.selects "LoveParts" ⟨"LoveParts", "forgetActs", "()V"⟩ ⟨"LoveParts", "forgetActs", "()V"⟩ ∈ gw := gw_at 2 (by decide +kernel) (by decide +kernel)
theorem w_3 : Cond.selects "LoveParts" ⟨"LoveParts", "isHeir", "(I)Z"⟩ ⟨"LoveParts", "isHeir", "(I)Z"⟩ ∈ gw := gw_at 3 (by decide +kernel) (by decide +kernel)
theorem w_4 : Cond.selects "LoveParts" ⟨"LoveParts", "keepForUndo", "()V"⟩ ⟨"LoveParts", "keepForUndo", "()V"⟩ ∈ gw := gw_at 4 (by decide +kernel) (by decide +kernel)
theorem w_5 : Cond.selects "LoveParts" ⟨"LoveParts", "noRealm", "()Z"⟩ ⟨"LoveParts", "noRealm", "()Z"⟩ ∈ gw := gw_at 5 (by decide +kernel) (by decide +kernel)
theorem w_6 : Cond.selects "LoveParts" ⟨"LoveParts", "bestSpeech", "(I)I"⟩ ⟨"LoveParts", "bestSpeech", "(I)I"⟩ ∈ gw := gw_at 6 (by decide +kernel) (by decide +kernel)
theorem w_7 : Cond.selects "LoveParts" ⟨"LoveParts", "gainBySpeech", "(II)I"⟩ ⟨"LoveParts", "gainBySpeech", "(II)I"⟩ ∈ gw := gw_at 7 (by decide +kernel) (by decide +kernel)
theorem w_8 : Cond.selects "LoveParts" ⟨"LoveParts", "gainNow", "(I)I"⟩ ⟨"LoveParts", "gainNow", "(I)I"⟩ ∈ gw := gw_at 8 (by decide +kernel) (by decide +kernel)
theorem w_9 : Cond.selects "LoveParts" ⟨"LoveParts", "truestHeir", "()I"⟩ ⟨"LoveParts", "truestHeir", "()I"⟩ ∈ gw := gw_at 9 (by decide +kernel) (by decide +kernel)
theorem w_10 : Cond.selects "LoveParts" ⟨"LoveParts", "truestGetsMost", "(II)Z"⟩ ⟨"LoveParts", "truestGetsMost", "(II)Z"⟩ ∈ gw := gw_at 10 (by decide +kernel) (by decide +kernel)
theorem w_11 : Cond.selects "LoveParts" ⟨"LoveParts", "findBestHosts", "(I)I"⟩ ⟨"LoveParts", "findBestHosts", "(I)I"⟩ ∈ gw := gw_at 11 (by decide +kernel) (by decide +kernel)
theorem w_12 : Cond.selects "LoveParts" ⟨"LoveParts", "isOrder", "(I)Z"⟩ ⟨"LoveParts", "isOrder", "(I)Z"⟩ ∈ gw := gw_at 12 (by decide +kernel) (by decide +kernel)
theorem w_13 : Cond.selects "LoveParts" ⟨"LoveParts", "knightsByHosts", "(I)I"⟩ ⟨"LoveParts", "knightsByHosts", "(I)I"⟩ ∈ gw := gw_at 13 (by decide +kernel) (by decide +kernel)
theorem w_14 : Cond.selects "LoveParts" ⟨"LoveParts", "knightsGoAs", "(LLoveParts$Row;II)Z"⟩ ⟨"LoveParts", "knightsGoAs", "(LLoveParts$Row;II)Z"⟩ ∈ gw := gw_at 14 (by decide +kernel) (by decide +kernel)
theorem w_15 : Cond.selects "LoveParts" ⟨"LoveParts", "casesOf", "(II)I"⟩ ⟨"LoveParts", "casesOf", "(II)I"⟩ ∈ gw := gw_at 15 (by decide +kernel) (by decide +kernel)
theorem w_16 : Cond.selects "LoveParts" ⟨"LoveParts", "greatestWithLiars", "(I)I"⟩ ⟨"LoveParts", "greatestWithLiars", "(I)I"⟩ ∈ gw := gw_at 16 (by decide +kernel) (by decide +kernel)
theorem w_17 : Cond.selects "LoveParts" ⟨"LoveParts", "rowsThere", "()I"⟩ ⟨"LoveParts", "rowsThere", "()I"⟩ ∈ gw := gw_at 17 (by decide +kernel) (by decide +kernel)
theorem w_18 : Cond.selects "LovePartsModel" ⟨"LovePartsModel", "find", "(I)I"⟩ ⟨"LovePartsModel", "find", "(I)I"⟩ ∈ gw := gw_at 18 (by decide +kernel) (by decide +kernel)
theorem w_19 : Cond.selects "LovePartsModel" ⟨"LovePartsModel", "well", "(I)I"⟩ ⟨"LovePartsModel", "well", "(I)I"⟩ ∈ gw := gw_at 19 (by decide +kernel) (by decide +kernel)
theorem w_20 : Cond.selects "LovePartsModel" ⟨"LovePartsModel", "readRealm", "()Z"⟩ ⟨"LovePartsModel", "readRealm", "()Z"⟩ ∈ gw := gw_at 20 (by decide +kernel) (by decide +kernel)
theorem w_21 : Cond.selects "LovePartsModel" ⟨"LovePartsModel", "nextToken", "()V"⟩ ⟨"LovePartsModel", "nextToken", "()V"⟩ ∈ gw := gw_at 21 (by decide +kernel) (by decide +kernel)
theorem w_22 : Cond.selects "LovePartsModel" ⟨"LovePartsModel", "takes", "(I)Z"⟩ ⟨"LovePartsModel", "takes", "(I)Z"⟩ ∈ gw := gw_at 22 (by decide +kernel) (by decide +kernel)
theorem w_23 : Cond.selects "LovePartsModel" ⟨"LovePartsModel", "isLetter", "(I)Z"⟩ ⟨"LovePartsModel", "isLetter", "(I)Z"⟩ ∈ gw := gw_at 23 (by decide +kernel) (by decide +kernel)
theorem w_24 : Cond.selects "LovePartsModel" ⟨"LovePartsModel", "faults", "(I)Z"⟩ ⟨"LovePartsModel", "faults", "(I)Z"⟩ ∈ gw := gw_at 24 (by decide +kernel) (by decide +kernel)
theorem w_25 : Cond.selects "LovePartsModel" ⟨"LovePartsModel", "takesNumber", "(IIII)Z"⟩ ⟨"LovePartsModel", "takesNumber", "(IIII)Z"⟩ ∈ gw := gw_at 25 (by decide +kernel) (by decide +kernel)
theorem w_26 : Cond.selects "LovePartsModel" ⟨"LovePartsModel", "readHeir", "(I)Z"⟩ ⟨"LovePartsModel", "readHeir", "(I)Z"⟩ ∈ gw := gw_at 26 (by decide +kernel) (by decide +kernel)
theorem w_27 : Cond.selects "LovePartsModel" ⟨"LovePartsModel", "isHeir", "(I)Z"⟩ ⟨"LovePartsModel", "isHeir", "(I)Z"⟩ ∈ gw := gw_at 27 (by decide +kernel) (by decide +kernel)
theorem w_28 : Cond.selects "LovePartsModel" ⟨"LovePartsModel", "note", "()V"⟩ ⟨"LovePartsModel", "note", "()V"⟩ ∈ gw := gw_at 28 (by decide +kernel) (by decide +kernel)
theorem w_29 : Cond.selects "LovePartsModel" ⟨"LovePartsModel", "say", "(II)V"⟩ ⟨"LovePartsModel", "say", "(II)V"⟩ ∈ gw := gw_at 29 (by decide +kernel) (by decide +kernel)
theorem w_30 : Cond.selects "LovePartsModel" ⟨"LovePartsModel", "ownOf", "(I)I"⟩ ⟨"LovePartsModel", "ownOf", "(I)I"⟩ ∈ gw := gw_at 30 (by decide +kernel) (by decide +kernel)
theorem w_31 : Cond.selects "LovePartsModel" ⟨"LovePartsModel", "findShares", "(I)V"⟩ ⟨"LovePartsModel", "findShares", "(I)V"⟩ ∈ gw := gw_at 31 (by decide +kernel) (by decide +kernel)
theorem w_32 : Cond.selects "LovePartsModel" ⟨"LovePartsModel", "weightOf", "(II)I"⟩ ⟨"LovePartsModel", "weightOf", "(II)I"⟩ ∈ gw := gw_at 32 (by decide +kernel) (by decide +kernel)
theorem w_33 : Cond.selects "LovePartsModel" ⟨"LovePartsModel", "says", "(I)I"⟩ ⟨"LovePartsModel", "says", "(I)I"⟩ ∈ gw := gw_at 33 (by decide +kernel) (by decide +kernel)
theorem w_34 : Cond.selects "LovePartsModel" ⟨"LovePartsModel", "oneMonth", "()V"⟩ ⟨"LovePartsModel", "oneMonth", "()V"⟩ ∈ gw := gw_at 34 (by decide +kernel) (by decide +kernel)
theorem w_35 : Cond.selects "LovePartsModel" ⟨"LovePartsModel", "allowed", "(I)I"⟩ ⟨"LovePartsModel", "allowed", "(I)I"⟩ ∈ gw := gw_at 35 (by decide +kernel) (by decide +kernel)
theorem w_36 : Cond.selects "LovePartsModel" ⟨"LovePartsModel", "bestOf", "(I)I"⟩ ⟨"LovePartsModel", "bestOf", "(I)I"⟩ ∈ gw := gw_at 36 (by decide +kernel) (by decide +kernel)
theorem w_37 : Cond.selects "LovePartsModel" ⟨"LovePartsModel", "putAside", "()V"⟩ ⟨"LovePartsModel", "putAside", "()V"⟩ ∈ gw := gw_at 37 (by decide +kernel) (by decide +kernel)
theorem w_38 : Cond.selects "LovePartsModel" ⟨"LovePartsModel", "takeBack", "()V"⟩ ⟨"LovePartsModel", "takeBack", "()V"⟩ ∈ gw := gw_at 38 (by decide +kernel) (by decide +kernel)
theorem w_39 : Cond.selects "LovePartsModel" ⟨"LovePartsModel", "isTrue", "(II)Z"⟩ ⟨"LovePartsModel", "isTrue", "(II)Z"⟩ ∈ gw := gw_at 39 (by decide +kernel) (by decide +kernel)
theorem w_40 : Cond.selects "LovePartsModel" ⟨"LovePartsModel", "isOrder", "(I)Z"⟩ ⟨"LovePartsModel", "isOrder", "(I)Z"⟩ ∈ gw := gw_at 40 (by decide +kernel) (by decide +kernel)
theorem w_41 : Cond.selects "LovePartsModel" ⟨"LovePartsModel", "brokenAll", "()I"⟩ ⟨"LovePartsModel", "brokenAll", "()I"⟩ ∈ gw := gw_at 41 (by decide +kernel) (by decide +kernel)
theorem w_42 : Cond.selects "LovePartsModel" ⟨"LovePartsModel", "lacks", "(III)I"⟩ ⟨"LovePartsModel", "lacks", "(III)I"⟩ ∈ gw := gw_at 42 (by decide +kernel) (by decide +kernel)
theorem w_43 : Cond.selects "LovePartsModel" ⟨"LovePartsModel", "isSo", "(II)Z"⟩ ⟨"LovePartsModel", "isSo", "(II)Z"⟩ ∈ gw := gw_at 43 (by decide +kernel) (by decide +kernel)
theorem w_44 : Cond.selects "LovePartsModel" ⟨"LovePartsModel", "sizeOf", "(I)I"⟩ ⟨"LovePartsModel", "sizeOf", "(I)I"⟩ ∈ gw := gw_at 44 (by decide +kernel) (by decide +kernel)
theorem w_45 : Cond.selects "LovePartsModel" ⟨"LovePartsModel", "begin", "(I)V"⟩ ⟨"LovePartsModel", "begin", "(I)V"⟩ ∈ gw := gw_at 45 (by decide +kernel) (by decide +kernel)
theorem w_46 : Cond.selects "LovePartsModel" ⟨"LovePartsModel", "plainSize", "(I)I"⟩ ⟨"LovePartsModel", "plainSize", "(I)I"⟩ ∈ gw := gw_at 46 (by decide +kernel) (by decide +kernel)
theorem w_47 : Cond.selects "LovePartsModel" ⟨"LovePartsModel", "lent", "(II)I"⟩ ⟨"LovePartsModel", "lent", "(II)I"⟩ ∈ gw := gw_at 47 (by decide +kernel) (by decide +kernel)
theorem w_48 : Cond.selects "LovePartsModel" ⟨"LovePartsModel", "markOf", "(I)I"⟩ ⟨"LovePartsModel", "markOf", "(I)I"⟩ ∈ gw := gw_at 48 (by decide +kernel) (by decide +kernel)
theorem w_49 : Cond.selects "LovePartsModel" ⟨"LovePartsModel", "plainMark", "(I)I"⟩ ⟨"LovePartsModel", "plainMark", "(I)I"⟩ ∈ gw := gw_at 49 (by decide +kernel) (by decide +kernel)
theorem w_50 : Cond.selects "LovePartsModel" ⟨"LovePartsModel", "sizeOfSilent", "(I)I"⟩ ⟨"LovePartsModel", "sizeOfSilent", "(I)I"⟩ ∈ gw := gw_at 50 (by decide +kernel) (by decide +kernel)
theorem w_51 : Cond.selects "LovePartsModel" ⟨"LovePartsModel", "silentSize", "(I)I"⟩ ⟨"LovePartsModel", "silentSize", "(I)I"⟩ ∈ gw := gw_at 51 (by decide +kernel) (by decide +kernel)
theorem w_52 : Cond.initialized "LovePartsLaw" ∈ gw := gw_at 52 (by decide +kernel) (by decide +kernel)
theorem w_53 : Cond.initialized "LoveParts" ∈ gw := gw_at 53 (by decide +kernel) (by decide +kernel)
theorem w_54 : Cond.initialized "LoveParts$Reader" ∈ gw := gw_at 54 (by decide +kernel) (by decide +kernel)
theorem w_55 : Cond.initialized "LoveParts$Trace" ∈ gw := gw_at 55 (by decide +kernel) (by decide +kernel)
theorem w_56 : Cond.initialized "LoveParts$Nature" ∈ gw := gw_at 56 (by decide +kernel) (by decide +kernel)
theorem w_57 : Cond.initialized "LoveParts$Plain" ∈ gw := gw_at 57 (by decide +kernel) (by decide +kernel)
theorem w_58 : Cond.initialized "LoveParts$Schooled" ∈ gw := gw_at 58 (by decide +kernel) (by decide +kernel)
theorem w_59 : Cond.initialized "LoveParts$Joint" ∈ gw := gw_at 59 (by decide +kernel) (by decide +kernel)
theorem w_60 : Cond.initialized "LoveParts$Silent" ∈ gw := gw_at 60 (by decide +kernel) (by decide +kernel)
theorem w_61 : Cond.initialized "LoveParts$Ironic" ∈ gw := gw_at 61 (by decide +kernel) (by decide +kernel)
theorem w_62 : Cond.initialized "LoveParts$Realm" ∈ gw := gw_at 62 (by decide +kernel) (by decide +kernel)
theorem w_63 : Cond.initialized "LoveParts$Heir" ∈ gw := gw_at 63 (by decide +kernel) (by decide +kernel)
theorem w_64 : Cond.initialized "LoveParts$Row" ∈ gw := gw_at 64 (by decide +kernel) (by decide +kernel)
theorem w_65 : Cond.initialized "LovePartsModel" ∈ gw := gw_at 65 (by decide +kernel) (by decide +kernel)
theorem w_66 : Cond.initialized "java/lang/System" ∈ gw := gw_at 66 (by decide +kernel) (by decide +kernel)
theorem w_67 : Cond.initialized "java/lang/Math" ∈ gw := gw_at 67 (by decide +kernel) (by decide +kernel)
theorem w_68 : Cond.classLink "LovePartsLaw" (7 : Nat) "LoveParts" ∈ gw := gw_at 68 (by decide +kernel) (by decide +kernel)
theorem w_69 : Cond.instantiable "LoveParts" (16 : Nat) ∈ gw := gw_at 69 (by decide +kernel) (by decide +kernel)
theorem w_70 : Cond.methodLink "LovePartsLaw" (9 : Nat) ({ cls := "LoveParts", name := "<init>", desc := "()V" } : MethodName) ∈ gw := gw_at 70 (by decide +kernel) (by decide +kernel)
theorem w_71 : Cond.instanceMethod ({ cls := "LoveParts", name := "<init>", desc := "()V" } : MethodName) ∈ gw := gw_at 71 (by decide +kernel) (by decide +kernel)
set_option maxRecDepth 100000 in
theorem w_72 : Cond.code ({ cls := "LoveParts", name := "<init>", desc := "()V" } : MethodName) prog_1_method_1_code (3 : Nat) (Option.none : Option ClassFile.FieldType) ∈ gw := gw_at 72 rfl (by decide +kernel)
theorem w_73 : Cond.methodLink "LoveParts" (1 : Nat) ({ cls := "java/lang/Object", name := "<init>", desc := "()V" } : MethodName) ∈ gw := gw_at 73 (by decide +kernel) (by decide +kernel)
theorem w_74 : Cond.instanceMethod ({ cls := "java/lang/Object", name := "<init>", desc := "()V" } : MethodName) ∈ gw := gw_at 74 (by decide +kernel) (by decide +kernel)
set_option maxRecDepth 100000 in
theorem w_75 : Cond.code ({ cls := "java/lang/Object", name := "<init>", desc := "()V" } : MethodName) object_method_1_code (1 : Nat) (Option.none : Option ClassFile.FieldType) ∈ gw := gw_at 75 rfl (by decide +kernel)
theorem w_76 : Cond.classLink "LoveParts" (9 : Nat) "LoveParts$Row" ∈ gw := gw_at 76 (by decide +kernel) (by decide +kernel)
theorem w_78 : Cond.classLink "LoveParts" (15 : Nat) "LoveParts$Reader" ∈ gw := gw_at 78 (by decide +kernel) (by decide +kernel)
theorem w_79 : Cond.instantiable "LoveParts$Reader" (7 : Nat) ∈ gw := gw_at 79 (by decide +kernel) (by decide +kernel)
theorem w_81 : Cond.instanceMethod ({ cls := "LoveParts$Reader", name := "<init>", desc := "()V" } : MethodName) ∈ gw := gw_at 81 (by decide +kernel) (by decide +kernel)
set_option maxRecDepth 100000 in
theorem w_82 : Cond.code ({ cls := "LoveParts$Reader", name := "<init>", desc := "()V" } : MethodName) prog_7_method_1_code (1 : Nat) (Option.none : Option ClassFile.FieldType) ∈ gw := gw_at 82 rfl (by decide +kernel)
theorem w_83 : Cond.methodLink "LoveParts$Reader" (3 : Nat) ({ cls := "java/lang/Object", name := "<init>", desc := "()V" } : MethodName) ∈ gw := gw_at 83 (by decide +kernel) (by decide +kernel)
theorem w_84 : Cond.fieldLink "LoveParts$Reader" (9 : Nat) "LoveParts$Reader" "tape" "[I" ∈ gw := gw_at 84 (by decide +kernel) (by decide +kernel)
theorem w_85 : Cond.fieldLink "LoveParts" (145 : Nat) "LoveParts$Reader" "tape" "[I" ∈ gw := gw_at 85 (by decide +kernel) (by decide +kernel)
theorem w_86 : Cond.fieldLink "LoveParts$Reader" (15 : Nat) "LoveParts$Reader" "length" "I" ∈ gw := gw_at 86 (by decide +kernel) (by decide +kernel)
theorem w_87 : Cond.fieldLink "LoveParts" (141 : Nat) "LoveParts$Reader" "length" "I" ∈ gw := gw_at 87 (by decide +kernel) (by decide +kernel)
theorem w_88 : Cond.fieldLink "LoveParts$Reader" (19 : Nat) "LoveParts$Reader" "fault" "I" ∈ gw := gw_at 88 (by decide +kernel) (by decide +kernel)
theorem w_89 : Cond.fieldLink "LoveParts" (152 : Nat) "LoveParts$Reader" "fault" "I" ∈ gw := gw_at 89 (by decide +kernel) (by decide +kernel)
theorem w_90 : Cond.fieldLink "LoveParts$Reader" (22 : Nat) "LoveParts$Reader" "at" "I" ∈ gw := gw_at 90 (by decide +kernel) (by decide +kernel)
theorem w_91 : Cond.fieldLink "LoveParts" (156 : Nat) "LoveParts$Reader" "at" "I" ∈ gw := gw_at 91 (by decide +kernel) (by decide +kernel)
theorem w_92 : Cond.fieldLink "LoveParts$Reader" (25 : Nat) "LoveParts$Reader" "behind" "I" ∈ gw := gw_at 92 (by decide +kernel) (by decide +kernel)
theorem w_93 : Cond.fieldLink "LoveParts$Reader" (28 : Nat) "LoveParts$Reader" "token" "I" ∈ gw := gw_at 93 (by decide +kernel) (by decide +kernel)
theorem w_94 : Cond.fieldLink "LoveParts$Reader" (31 : Nat) "LoveParts$Reader" "value" "I" ∈ gw := gw_at 94 (by decide +kernel) (by decide +kernel)
theorem w_109 : Cond.superclass "LoveParts$Reader" "java/lang/Object" ∈ gw := gw_at 109 (by decide +kernel) (by decide +kernel)
theorem w_110 : Cond.arrayClass FieldType.int ∈ gw := gw_at 110 (by decide +kernel) (by decide +kernel)
theorem w_111 : Cond.classLink "LoveParts" (22 : Nat) "LoveParts$Nature" ∈ gw := gw_at 111 (by decide +kernel) (by decide +kernel)
theorem w_113 : Cond.classLink "LoveParts" (28 : Nat) "LoveParts$Trace" ∈ gw := gw_at 113 (by decide +kernel) (by decide +kernel)
theorem w_114 : Cond.instantiable "LoveParts$Trace" (2 : Nat) ∈ gw := gw_at 114 (by decide +kernel) (by decide +kernel)
theorem w_116 : Cond.instanceMethod ({ cls := "LoveParts$Trace", name := "<init>", desc := "()V" } : MethodName) ∈ gw := gw_at 116 (by decide +kernel) (by decide +kernel)
set_option maxRecDepth 100000 in
theorem w_117 : Cond.code ({ cls := "LoveParts$Trace", name := "<init>", desc := "()V" } : MethodName) prog_12_method_1_code (1 : Nat) (Option.none : Option ClassFile.FieldType) ∈ gw := gw_at 117 rfl (by decide +kernel)
theorem w_118 : Cond.methodLink "LoveParts$Trace" (1 : Nat) ({ cls := "java/lang/Object", name := "<init>", desc := "()V" } : MethodName) ∈ gw := gw_at 118 (by decide +kernel) (by decide +kernel)
theorem w_119 : Cond.fieldLink "LoveParts$Trace" (9 : Nat) "LoveParts$Trace" "bodies" "[I" ∈ gw := gw_at 119 (by decide +kernel) (by decide +kernel)
theorem w_120 : Cond.fieldLink "LoveParts" (326 : Nat) "LoveParts$Trace" "bodies" "[I" ∈ gw := gw_at 120 (by decide +kernel) (by decide +kernel)
theorem w_121 : Cond.fieldLink "LoveParts$Trace" (13 : Nat) "LoveParts$Trace" "length" "I" ∈ gw := gw_at 121 (by decide +kernel) (by decide +kernel)
theorem w_122 : Cond.fieldLink "LoveParts" (319 : Nat) "LoveParts$Trace" "length" "I" ∈ gw := gw_at 122 (by decide +kernel) (by decide +kernel)
theorem w_127 : Cond.superclass "LoveParts$Trace" "java/lang/Object" ∈ gw := gw_at 127 (by decide +kernel) (by decide +kernel)
theorem w_128 : Cond.classLink "LoveParts" (35 : Nat) "LoveParts$Realm" ∈ gw := gw_at 128 (by decide +kernel) (by decide +kernel)
theorem w_130 : Cond.classLink "LoveParts" (70 : Nat) "LoveParts$Plain" ∈ gw := gw_at 130 (by decide +kernel) (by decide +kernel)
theorem w_131 : Cond.instantiable "LoveParts$Plain" (0 : Nat) ∈ gw := gw_at 131 (by decide +kernel) (by decide +kernel)
theorem w_133 : Cond.instanceMethod ({ cls := "LoveParts$Plain", name := "<init>", desc := "()V" } : MethodName) ∈ gw := gw_at 133 (by decide +kernel) (by decide +kernel)
set_option maxRecDepth 100000 in
theorem w_134 : Cond.code ({ cls := "LoveParts$Plain", name := "<init>", desc := "()V" } : MethodName) prog_6_method_1_code (1 : Nat) (Option.none : Option ClassFile.FieldType) ∈ gw := gw_at 134 rfl (by decide +kernel)
theorem w_136 : Cond.instanceMethod ({ cls := "LoveParts$Nature", name := "<init>", desc := "()V" } : MethodName) ∈ gw := gw_at 136 (by decide +kernel) (by decide +kernel)
set_option maxRecDepth 100000 in
theorem w_137 : Cond.code ({ cls := "LoveParts$Nature", name := "<init>", desc := "()V" } : MethodName) prog_5_method_1_code (1 : Nat) (Option.none : Option ClassFile.FieldType) ∈ gw := gw_at 137 rfl (by decide +kernel)
theorem w_138 : Cond.methodLink "LoveParts$Nature" (1 : Nat) ({ cls := "java/lang/Object", name := "<init>", desc := "()V" } : MethodName) ∈ gw := gw_at 138 (by decide +kernel) (by decide +kernel)
theorem w_139 : Cond.superclass "LoveParts$Plain" "LoveParts$Nature" ∈ gw := gw_at 139 (by decide +kernel) (by decide +kernel)
theorem w_140 : Cond.classLink "LoveParts" (73 : Nat) "LoveParts$Schooled" ∈ gw := gw_at 140 (by decide +kernel) (by decide +kernel)
theorem w_141 : Cond.instantiable "LoveParts$Schooled" (0 : Nat) ∈ gw := gw_at 141 (by decide +kernel) (by decide +kernel)
theorem w_143 : Cond.instanceMethod ({ cls := "LoveParts$Schooled", name := "<init>", desc := "()V" } : MethodName) ∈ gw := gw_at 143 (by decide +kernel) (by decide +kernel)
set_option maxRecDepth 100000 in
theorem w_144 : Cond.code ({ cls := "LoveParts$Schooled", name := "<init>", desc := "()V" } : MethodName) prog_10_method_1_code (1 : Nat) (Option.none : Option ClassFile.FieldType) ∈ gw := gw_at 144 rfl (by decide +kernel)
theorem w_146 : Cond.superclass "LoveParts$Schooled" "LoveParts$Plain" ∈ gw := gw_at 146 (by decide +kernel) (by decide +kernel)
theorem w_147 : Cond.classLink "LoveParts" (76 : Nat) "LoveParts$Joint" ∈ gw := gw_at 147 (by decide +kernel) (by decide +kernel)
theorem w_148 : Cond.instantiable "LoveParts$Joint" (0 : Nat) ∈ gw := gw_at 148 (by decide +kernel) (by decide +kernel)
theorem w_150 : Cond.instanceMethod ({ cls := "LoveParts$Joint", name := "<init>", desc := "()V" } : MethodName) ∈ gw := gw_at 150 (by decide +kernel) (by decide +kernel)
set_option maxRecDepth 100000 in
theorem w_151 : Cond.code ({ cls := "LoveParts$Joint", name := "<init>", desc := "()V" } : MethodName) prog_4_method_1_code (1 : Nat) (Option.none : Option ClassFile.FieldType) ∈ gw := gw_at 151 rfl (by decide +kernel)
theorem w_153 : Cond.superclass "LoveParts$Joint" "LoveParts$Plain" ∈ gw := gw_at 153 (by decide +kernel) (by decide +kernel)
theorem w_154 : Cond.classLink "LoveParts" (79 : Nat) "LoveParts$Silent" ∈ gw := gw_at 154 (by decide +kernel) (by decide +kernel)
theorem w_155 : Cond.instantiable "LoveParts$Silent" (0 : Nat) ∈ gw := gw_at 155 (by decide +kernel) (by decide +kernel)
theorem w_157 : Cond.instanceMethod ({ cls := "LoveParts$Silent", name := "<init>", desc := "()V" } : MethodName) ∈ gw := gw_at 157 (by decide +kernel) (by decide +kernel)
set_option maxRecDepth 100000 in
theorem w_158 : Cond.code ({ cls := "LoveParts$Silent", name := "<init>", desc := "()V" } : MethodName) prog_11_method_1_code (1 : Nat) (Option.none : Option ClassFile.FieldType) ∈ gw := gw_at 158 rfl (by decide +kernel)
theorem w_160 : Cond.superclass "LoveParts$Silent" "LoveParts$Nature" ∈ gw := gw_at 160 (by decide +kernel) (by decide +kernel)
theorem w_161 : Cond.classLink "LoveParts" (82 : Nat) "LoveParts$Ironic" ∈ gw := gw_at 161 (by decide +kernel) (by decide +kernel)
theorem w_162 : Cond.instantiable "LoveParts$Ironic" (0 : Nat) ∈ gw := gw_at 162 (by decide +kernel) (by decide +kernel)
theorem w_164 : Cond.instanceMethod ({ cls := "LoveParts$Ironic", name := "<init>", desc := "()V" } : MethodName) ∈ gw := gw_at 164 (by decide +kernel) (by decide +kernel)
set_option maxRecDepth 100000 in
theorem w_165 : Cond.code ({ cls := "LoveParts$Ironic", name := "<init>", desc := "()V" } : MethodName) prog_3_method_1_code (1 : Nat) (Option.none : Option ClassFile.FieldType) ∈ gw := gw_at 165 rfl (by decide +kernel)
theorem w_167 : Cond.superclass "LoveParts$Ironic" "LoveParts$Silent" ∈ gw := gw_at 167 (by decide +kernel) (by decide +kernel)
theorem w_168 : Cond.instantiable "LoveParts$Realm" (9 : Nat) ∈ gw := gw_at 168 (by decide +kernel) (by decide +kernel)
theorem w_169 : Cond.methodLink "LoveParts" (85 : Nat) ({ cls := "LoveParts$Realm", name := "<init>", desc := "(LLoveParts$Nature;)V" } : MethodName) ∈ gw := gw_at 169 (by decide +kernel) (by decide +kernel)
theorem w_170 : Cond.instanceMethod ({ cls := "LoveParts$Realm", name := "<init>", desc := "(LLoveParts$Nature;)V" } : MethodName) ∈ gw := gw_at 170 (by decide +kernel) (by decide +kernel)
set_option maxRecDepth 100000 in
theorem w_171 : Cond.code ({ cls := "LoveParts$Realm", name := "<init>", desc := "(LLoveParts$Nature;)V" } : MethodName) prog_8_method_1_code (3 : Nat) (Option.none : Option ClassFile.FieldType) ∈ gw := gw_at 171 rfl (by decide +kernel)
theorem w_172 : Cond.methodLink "LoveParts$Realm" (3 : Nat) ({ cls := "java/lang/Object", name := "<init>", desc := "()V" } : MethodName) ∈ gw := gw_at 172 (by decide +kernel) (by decide +kernel)
theorem w_173 : Cond.classLink "LoveParts$Realm" (9 : Nat) "LoveParts$Heir" ∈ gw := gw_at 173 (by decide +kernel) (by decide +kernel)
theorem w_175 : Cond.instantiable "LoveParts$Heir" (11 : Nat) ∈ gw := gw_at 175 (by decide +kernel) (by decide +kernel)
theorem w_176 : Cond.methodLink "LoveParts$Realm" (43 : Nat) ({ cls := "LoveParts$Heir", name := "<init>", desc := "(ILLoveParts$Nature;)V" } : MethodName) ∈ gw := gw_at 176 (by decide +kernel) (by decide +kernel)
theorem w_177 : Cond.instanceMethod ({ cls := "LoveParts$Heir", name := "<init>", desc := "(ILLoveParts$Nature;)V" } : MethodName) ∈ gw := gw_at 177 (by decide +kernel) (by decide +kernel)
set_option maxRecDepth 100000 in
theorem w_178 : Cond.code ({ cls := "LoveParts$Heir", name := "<init>", desc := "(ILLoveParts$Nature;)V" } : MethodName) prog_2_method_1_code (3 : Nat) (Option.none : Option ClassFile.FieldType) ∈ gw := gw_at 178 rfl (by decide +kernel)
theorem w_179 : Cond.methodLink "LoveParts$Heir" (3 : Nat) ({ cls := "java/lang/Object", name := "<init>", desc := "()V" } : MethodName) ∈ gw := gw_at 179 (by decide +kernel) (by decide +kernel)
theorem w_180 : Cond.constant "LoveParts$Heir" (31 : Nat) (1000000 : Int32) ∈ gw := gw_at 180 (by decide +kernel) (by decide +kernel)
theorem w_181 : Cond.fieldLink "LoveParts$Heir" (41 : Nat) "LoveParts$Heir" "number" "I" ∈ gw := gw_at 181 (by decide +kernel) (by decide +kernel)
theorem w_182 : Cond.fieldLink "LoveParts$Nature" (19 : Nat) "LoveParts$Heir" "number" "I" ∈ gw := gw_at 182 (by decide +kernel) (by decide +kernel)
theorem w_183 : Cond.fieldLink "LoveParts$Heir" (44 : Nat) "LoveParts$Heir" "nature" "LLoveParts$Nature;" ∈ gw := gw_at 183 (by decide +kernel) (by decide +kernel)
theorem w_184 : Cond.fieldLink "LoveParts$Realm" (59 : Nat) "LoveParts$Heir" "nature" "LLoveParts$Nature;" ∈ gw := gw_at 184 (by decide +kernel) (by decide +kernel)
theorem w_185 : Cond.fieldLink "LoveParts$Reader" (78 : Nat) "LoveParts$Heir" "nature" "LLoveParts$Nature;" ∈ gw := gw_at 185 (by decide +kernel) (by decide +kernel)
theorem w_186 : Cond.fieldLink "LoveParts" (286 : Nat) "LoveParts$Heir" "nature" "LLoveParts$Nature;" ∈ gw := gw_at 186 (by decide +kernel) (by decide +kernel)
theorem w_187 : Cond.fieldLink "LoveParts$Heir" (9 : Nat) "LoveParts$Heir" "love" "I" ∈ gw := gw_at 187 (by decide +kernel) (by decide +kernel)
theorem w_188 : Cond.fieldLink "LoveParts$Plain" (7 : Nat) "LoveParts$Heir" "love" "I" ∈ gw := gw_at 188 (by decide +kernel) (by decide +kernel)
theorem w_189 : Cond.fieldLink "LoveParts$Schooled" (7 : Nat) "LoveParts$Heir" "love" "I" ∈ gw := gw_at 189 (by decide +kernel) (by decide +kernel)
theorem w_190 : Cond.fieldLink "LoveParts$Ironic" (7 : Nat) "LoveParts$Heir" "love" "I" ∈ gw := gw_at 190 (by decide +kernel) (by decide +kernel)
theorem w_191 : Cond.fieldLink "LoveParts$Joint" (9 : Nat) "LoveParts$Heir" "love" "I" ∈ gw := gw_at 191 (by decide +kernel) (by decide +kernel)
theorem w_192 : Cond.fieldLink "LoveParts$Nature" (13 : Nat) "LoveParts$Heir" "love" "I" ∈ gw := gw_at 192 (by decide +kernel) (by decide +kernel)
theorem w_193 : Cond.fieldLink "LoveParts$Reader" (84 : Nat) "LoveParts$Heir" "love" "I" ∈ gw := gw_at 193 (by decide +kernel) (by decide +kernel)
theorem w_194 : Cond.fieldLink "LoveParts$Realm" (107 : Nat) "LoveParts$Heir" "love" "I" ∈ gw := gw_at 194 (by decide +kernel) (by decide +kernel)
theorem w_195 : Cond.fieldLink "LoveParts" (231 : Nat) "LoveParts$Heir" "love" "I" ∈ gw := gw_at 195 (by decide +kernel) (by decide +kernel)
theorem w_196 : Cond.fieldLink "LoveParts$Heir" (15 : Nat) "LoveParts$Heir" "tongue" "I" ∈ gw := gw_at 196 (by decide +kernel) (by decide +kernel)
theorem w_197 : Cond.fieldLink "LoveParts$Schooled" (13 : Nat) "LoveParts$Heir" "tongue" "I" ∈ gw := gw_at 197 (by decide +kernel) (by decide +kernel)
theorem w_198 : Cond.fieldLink "LoveParts$Reader" (87 : Nat) "LoveParts$Heir" "tongue" "I" ∈ gw := gw_at 198 (by decide +kernel) (by decide +kernel)
theorem w_199 : Cond.fieldLink "LoveParts$Plain" (29 : Nat) "LoveParts$Heir" "tongue" "I" ∈ gw := gw_at 199 (by decide +kernel) (by decide +kernel)
theorem w_200 : Cond.fieldLink "LoveParts" (234 : Nat) "LoveParts$Heir" "tongue" "I" ∈ gw := gw_at 200 (by decide +kernel) (by decide +kernel)
theorem w_201 : Cond.fieldLink "LoveParts$Heir" (18 : Nat) "LoveParts$Heir" "spoken" "Z" ∈ gw := gw_at 201 (by decide +kernel) (by decide +kernel)
theorem w_202 : Cond.fieldLink "LoveParts$Realm" (53 : Nat) "LoveParts$Heir" "spoken" "Z" ∈ gw := gw_at 202 (by decide +kernel) (by decide +kernel)
theorem w_203 : Cond.fieldLink "LoveParts" (237 : Nat) "LoveParts$Heir" "spoken" "Z" ∈ gw := gw_at 203 (by decide +kernel) (by decide +kernel)
theorem w_204 : Cond.fieldLink "LoveParts$Heir" (22 : Nat) "LoveParts$Heir" "said" "I" ∈ gw := gw_at 204 (by decide +kernel) (by decide +kernel)
theorem w_205 : Cond.fieldLink "LoveParts$Realm" (56 : Nat) "LoveParts$Heir" "said" "I" ∈ gw := gw_at 205 (by decide +kernel) (by decide +kernel)
theorem w_206 : Cond.fieldLink "LoveParts" (350 : Nat) "LoveParts$Heir" "said" "I" ∈ gw := gw_at 206 (by decide +kernel) (by decide +kernel)
theorem w_207 : Cond.fieldLink "LoveParts$Heir" (25 : Nat) "LoveParts$Heir" "promised" "I" ∈ gw := gw_at 207 (by decide +kernel) (by decide +kernel)
theorem w_208 : Cond.fieldLink "LoveParts$Realm" (82 : Nat) "LoveParts$Heir" "promised" "I" ∈ gw := gw_at 208 (by decide +kernel) (by decide +kernel)
theorem w_209 : Cond.fieldLink "LoveParts" (243 : Nat) "LoveParts$Heir" "promised" "I" ∈ gw := gw_at 209 (by decide +kernel) (by decide +kernel)
theorem w_210 : Cond.fieldLink "LoveParts$Heir" (28 : Nat) "LoveParts$Heir" "land" "I" ∈ gw := gw_at 210 (by decide +kernel) (by decide +kernel)
theorem w_211 : Cond.fieldLink "LoveParts" (203 : Nat) "LoveParts$Heir" "land" "I" ∈ gw := gw_at 211 (by decide +kernel) (by decide +kernel)
theorem w_212 : Cond.fieldLink "LoveParts$Heir" (32 : Nat) "LoveParts$Heir" "told" "I" ∈ gw := gw_at 212 (by decide +kernel) (by decide +kernel)
theorem w_213 : Cond.fieldLink "LoveParts$Realm" (110 : Nat) "LoveParts$Heir" "told" "I" ∈ gw := gw_at 213 (by decide +kernel) (by decide +kernel)
theorem w_214 : Cond.fieldLink "LoveParts" (219 : Nat) "LoveParts$Heir" "told" "I" ∈ gw := gw_at 214 (by decide +kernel) (by decide +kernel)
theorem w_215 : Cond.fieldLink "LoveParts$Heir" (35 : Nat) "LoveParts$Heir" "hosted" "I" ∈ gw := gw_at 215 (by decide +kernel) (by decide +kernel)
theorem w_216 : Cond.fieldLink "LoveParts$Realm" (101 : Nat) "LoveParts$Heir" "hosted" "I" ∈ gw := gw_at 216 (by decide +kernel) (by decide +kernel)
theorem w_217 : Cond.fieldLink "LoveParts" (246 : Nat) "LoveParts$Heir" "hosted" "I" ∈ gw := gw_at 217 (by decide +kernel) (by decide +kernel)
theorem w_218 : Cond.fieldLink "LoveParts$Heir" (38 : Nat) "LoveParts$Heir" "broken" "I" ∈ gw := gw_at 218 (by decide +kernel) (by decide +kernel)
theorem w_219 : Cond.fieldLink "LoveParts$Realm" (116 : Nat) "LoveParts$Heir" "broken" "I" ∈ gw := gw_at 219 (by decide +kernel) (by decide +kernel)
theorem w_220 : Cond.fieldLink "LoveParts" (249 : Nat) "LoveParts$Heir" "broken" "I" ∈ gw := gw_at 220 (by decide +kernel) (by decide +kernel)
theorem w_243 : Cond.superclass "LoveParts$Heir" "java/lang/Object" ∈ gw := gw_at 243 (by decide +kernel) (by decide +kernel)
theorem w_244 : Cond.fieldLink "LoveParts$Realm" (11 : Nat) "LoveParts$Realm" "all" "[LLoveParts$Heir;" ∈ gw := gw_at 244 (by decide +kernel) (by decide +kernel)
theorem w_245 : Cond.fieldLink "LoveParts$Reader" (74 : Nat) "LoveParts$Realm" "all" "[LLoveParts$Heir;" ∈ gw := gw_at 245 (by decide +kernel) (by decide +kernel)
theorem w_246 : Cond.fieldLink "LoveParts" (184 : Nat) "LoveParts$Realm" "all" "[LLoveParts$Heir;" ∈ gw := gw_at 246 (by decide +kernel) (by decide +kernel)
theorem w_247 : Cond.fieldLink "LoveParts$Realm" (17 : Nat) "LoveParts$Realm" "heirs" "I" ∈ gw := gw_at 247 (by decide +kernel) (by decide +kernel)
theorem w_248 : Cond.fieldLink "LoveParts$Reader" (90 : Nat) "LoveParts$Realm" "heirs" "I" ∈ gw := gw_at 248 (by decide +kernel) (by decide +kernel)
theorem w_249 : Cond.fieldLink "LoveParts" (166 : Nat) "LoveParts$Realm" "heirs" "I" ∈ gw := gw_at 249 (by decide +kernel) (by decide +kernel)
theorem w_250 : Cond.fieldLink "LoveParts$Realm" (21 : Nat) "LoveParts$Realm" "land" "I" ∈ gw := gw_at 250 (by decide +kernel) (by decide +kernel)
theorem w_251 : Cond.fieldLink "LoveParts$Reader" (58 : Nat) "LoveParts$Realm" "land" "I" ∈ gw := gw_at 251 (by decide +kernel) (by decide +kernel)
theorem w_252 : Cond.fieldLink "LoveParts" (332 : Nat) "LoveParts$Realm" "land" "I" ∈ gw := gw_at 252 (by decide +kernel) (by decide +kernel)
theorem w_253 : Cond.fieldLink "LoveParts$Realm" (24 : Nat) "LoveParts$Realm" "knights" "I" ∈ gw := gw_at 253 (by decide +kernel) (by decide +kernel)
theorem w_254 : Cond.fieldLink "LoveParts$Reader" (61 : Nat) "LoveParts$Realm" "knights" "I" ∈ gw := gw_at 254 (by decide +kernel) (by decide +kernel)
theorem w_255 : Cond.fieldLink "LoveParts" (216 : Nat) "LoveParts$Realm" "knights" "I" ∈ gw := gw_at 255 (by decide +kernel) (by decide +kernel)
theorem w_256 : Cond.fieldLink "LoveParts$Realm" (27 : Nat) "LoveParts$Realm" "shrinks" "I" ∈ gw := gw_at 256 (by decide +kernel) (by decide +kernel)
theorem w_257 : Cond.fieldLink "LoveParts$Reader" (64 : Nat) "LoveParts$Realm" "shrinks" "I" ∈ gw := gw_at 257 (by decide +kernel) (by decide +kernel)
theorem w_258 : Cond.fieldLink "LoveParts" (333 : Nat) "LoveParts$Realm" "shrinks" "I" ∈ gw := gw_at 258 (by decide +kernel) (by decide +kernel)
theorem w_259 : Cond.fieldLink "LoveParts$Realm" (30 : Nat) "LoveParts$Realm" "rule" "I" ∈ gw := gw_at 259 (by decide +kernel) (by decide +kernel)
theorem w_260 : Cond.fieldLink "LoveParts$Reader" (67 : Nat) "LoveParts$Realm" "rule" "I" ∈ gw := gw_at 260 (by decide +kernel) (by decide +kernel)
theorem w_261 : Cond.fieldLink "LoveParts" (196 : Nat) "LoveParts$Realm" "rule" "I" ∈ gw := gw_at 261 (by decide +kernel) (by decide +kernel)
theorem w_262 : Cond.fieldLink "LoveParts$Realm" (33 : Nat) "LoveParts$Realm" "host" "I" ∈ gw := gw_at 262 (by decide +kernel) (by decide +kernel)
theorem w_263 : Cond.fieldLink "LoveParts" (252 : Nat) "LoveParts$Realm" "host" "I" ∈ gw := gw_at 263 (by decide +kernel) (by decide +kernel)
theorem w_264 : Cond.fieldLink "LoveParts$Realm" (36 : Nat) "LoveParts$Realm" "month" "I" ∈ gw := gw_at 264 (by decide +kernel) (by decide +kernel)
theorem w_265 : Cond.fieldLink "LoveParts" (210 : Nat) "LoveParts$Realm" "month" "I" ∈ gw := gw_at 265 (by decide +kernel) (by decide +kernel)
theorem w_266 : Cond.fieldLink "LoveParts$Realm" (39 : Nat) "LoveParts$Realm" "parted" "Z" ∈ gw := gw_at 266 (by decide +kernel) (by decide +kernel)
theorem w_267 : Cond.fieldLink "LoveParts" (174 : Nat) "LoveParts$Realm" "parted" "Z" ∈ gw := gw_at 267 (by decide +kernel) (by decide +kernel)
theorem w_286 : Cond.superclass "LoveParts$Realm" "java/lang/Object" ∈ gw := gw_at 286 (by decide +kernel) (by decide +kernel)
theorem w_287 : Cond.instantiable "LoveParts$Row" (3 : Nat) ∈ gw := gw_at 287 (by decide +kernel) (by decide +kernel)
theorem w_289 : Cond.instanceMethod ({ cls := "LoveParts$Row", name := "<init>", desc := "()V" } : MethodName) ∈ gw := gw_at 289 (by decide +kernel) (by decide +kernel)
set_option maxRecDepth 100000 in
theorem w_290 : Cond.code ({ cls := "LoveParts$Row", name := "<init>", desc := "()V" } : MethodName) prog_9_method_1_code (1 : Nat) (Option.none : Option ClassFile.FieldType) ∈ gw := gw_at 290 rfl (by decide +kernel)
theorem w_291 : Cond.methodLink "LoveParts$Row" (3 : Nat) ({ cls := "java/lang/Object", name := "<init>", desc := "()V" } : MethodName) ∈ gw := gw_at 291 (by decide +kernel) (by decide +kernel)
theorem w_292 : Cond.fieldLink "LoveParts$Row" (9 : Nat) "LoveParts$Row" "items" "[I" ∈ gw := gw_at 292 (by decide +kernel) (by decide +kernel)
theorem w_293 : Cond.fieldLink "LoveParts" (120 : Nat) "LoveParts$Row" "items" "[I" ∈ gw := gw_at 293 (by decide +kernel) (by decide +kernel)
theorem w_294 : Cond.fieldLink "LoveParts$Row" (15 : Nat) "LoveParts$Row" "lane" "I" ∈ gw := gw_at 294 (by decide +kernel) (by decide +kernel)
theorem w_295 : Cond.fieldLink "LoveParts" (126 : Nat) "LoveParts$Row" "lane" "I" ∈ gw := gw_at 295 (by decide +kernel) (by decide +kernel)
theorem w_296 : Cond.fieldLink "LoveParts$Row" (19 : Nat) "LoveParts$Row" "size" "I" ∈ gw := gw_at 296 (by decide +kernel) (by decide +kernel)
theorem w_297 : Cond.fieldLink "LoveParts" (135 : Nat) "LoveParts$Row" "size" "I" ∈ gw := gw_at 297 (by decide +kernel) (by decide +kernel)
theorem w_304 : Cond.superclass "LoveParts$Row" "java/lang/Object" ∈ gw := gw_at 304 (by decide +kernel) (by decide +kernel)
theorem w_305 : Cond.fieldLink "LoveParts" (11 : Nat) "LoveParts" "rows" "[LLoveParts$Row;" ∈ gw := gw_at 305 (by decide +kernel) (by decide +kernel)
theorem w_306 : Cond.fieldLink "LoveParts" (18 : Nat) "LoveParts" "reader" "LLoveParts$Reader;" ∈ gw := gw_at 306 (by decide +kernel) (by decide +kernel)
theorem w_307 : Cond.fieldLink "LoveParts" (24 : Nat) "LoveParts" "natures" "[LLoveParts$Nature;" ∈ gw := gw_at 307 (by decide +kernel) (by decide +kernel)
theorem w_308 : Cond.fieldLink "LoveParts" (31 : Nat) "LoveParts" "lastTrace" "LLoveParts$Trace;" ∈ gw := gw_at 308 (by decide +kernel) (by decide +kernel)
theorem w_309 : Cond.fieldLink "LoveParts" (88 : Nat) "LoveParts" "now" "LLoveParts$Realm;" ∈ gw := gw_at 309 (by decide +kernel) (by decide +kernel)
theorem w_310 : Cond.fieldLink "LoveParts" (92 : Nat) "LoveParts" "trial" "LLoveParts$Realm;" ∈ gw := gw_at 310 (by decide +kernel) (by decide +kernel)
theorem w_311 : Cond.fieldLink "LoveParts" (37 : Nat) "LoveParts" "images" "[LLoveParts$Realm;" ∈ gw := gw_at 311 (by decide +kernel) (by decide +kernel)
theorem w_312 : Cond.fieldLink "LoveParts" (41 : Nat) "LoveParts" "before" "[LLoveParts$Realm;" ∈ gw := gw_at 312 (by decide +kernel) (by decide +kernel)
theorem w_313 : Cond.fieldLink "LoveParts" (44 : Nat) "LoveParts" "acts" "I" ∈ gw := gw_at 313 (by decide +kernel) (by decide +kernel)
theorem w_314 : Cond.fieldLink "LoveParts" (48 : Nat) "LoveParts" "nextAct" "I" ∈ gw := gw_at 314 (by decide +kernel) (by decide +kernel)
theorem w_315 : Cond.fieldLink "LoveParts" (51 : Nat) "LoveParts" "weights" "[I" ∈ gw := gw_at 315 (by decide +kernel) (by decide +kernel)
theorem w_316 : Cond.fieldLink "LoveParts" (55 : Nat) "LoveParts" "shares" "[I" ∈ gw := gw_at 316 (by decide +kernel) (by decide +kernel)
theorem w_317 : Cond.fieldLink "LoveParts" (58 : Nat) "LoveParts" "hosts" "[I" ∈ gw := gw_at 317 (by decide +kernel) (by decide +kernel)
theorem w_318 : Cond.fieldLink "LoveParts" (61 : Nat) "LoveParts" "bestHosts" "[I" ∈ gw := gw_at 318 (by decide +kernel) (by decide +kernel)
theorem w_319 : Cond.fieldLink "LoveParts" (64 : Nat) "LoveParts" "lastFault" "I" ∈ gw := gw_at 319 (by decide +kernel) (by decide +kernel)
theorem w_320 : Cond.fieldLink "LoveParts" (67 : Nat) "LoveParts" "lastFinding" "I" ∈ gw := gw_at 320 (by decide +kernel) (by decide +kernel)
theorem w_353 : Cond.superclass "LoveParts" "java/lang/Object" ∈ gw := gw_at 353 (by decide +kernel) (by decide +kernel)
theorem w_354 : Cond.methodLink "LovePartsLaw" (13 : Nat) ({ cls := "LoveParts", name := "row", desc := "(III)I" } : MethodName) ∈ gw := gw_at 354 (by decide +kernel) (by decide +kernel)
theorem w_355 : Cond.instanceMethod ({ cls := "LoveParts", name := "row", desc := "(III)I" } : MethodName) ∈ gw := gw_at 355 (by decide +kernel) (by decide +kernel)
theorem w_356 : Cond.selects "LoveParts" ({ cls := "LoveParts", name := "row", desc := "(III)I" } : MethodName) ({ cls := "LoveParts", name := "row", desc := "(III)I" } : MethodName) ∈ gw := gw_at 356 (by decide +kernel) (by decide +kernel)
set_option maxRecDepth 100000 in
theorem w_357 : Cond.code ({ cls := "LoveParts", name := "row", desc := "(III)I" } : MethodName) prog_1_method_2_code (4 : Nat) (Option.some FieldType.int) ∈ gw := gw_at 357 rfl (by decide +kernel)
theorem w_358 : Cond.methodLink "LoveParts" (96 : Nat) ({ cls := "LoveParts", name := "within", desc := "(III)Z" } : MethodName) ∈ gw := gw_at 358 (by decide +kernel) (by decide +kernel)
theorem w_359 : Cond.static ({ cls := "LoveParts", name := "within", desc := "(III)Z" } : MethodName) ∈ gw := gw_at 359 (by decide +kernel) (by decide +kernel)
set_option maxRecDepth 100000 in
theorem w_360 : Cond.code ({ cls := "LoveParts", name := "within", desc := "(III)Z" } : MethodName) prog_1_method_37_code (3 : Nat) (Option.some FieldType.boolean) ∈ gw := gw_at 360 rfl (by decide +kernel)
theorem w_361 : Cond.constant "LoveParts" (100 : Nat) (-1000001 : Int32) ∈ gw := gw_at 361 (by decide +kernel) (by decide +kernel)
theorem w_362 : Cond.methodLink "LoveParts" (101 : Nat) ({ cls := "LoveParts", name := "found", desc := "(I)I" } : MethodName) ∈ gw := gw_at 362 (by decide +kernel) (by decide +kernel)
theorem w_364 : Cond.instanceMethod ({ cls := "LoveParts", name := "found", desc := "(I)I" } : MethodName) ∈ gw := gw_at 364 (by decide +kernel) (by decide +kernel)
set_option maxRecDepth 100000 in
theorem w_365 : Cond.code ({ cls := "LoveParts", name := "found", desc := "(I)I" } : MethodName) prog_1_method_40_code (2 : Nat) (Option.some FieldType.int) ∈ gw := gw_at 365 rfl (by decide +kernel)
theorem w_366 : Cond.constant "LoveParts" (336 : Nat) (-1000010 : Int32) ∈ gw := gw_at 366 (by decide +kernel) (by decide +kernel)
theorem w_367 : Cond.methodLink "LoveParts" (105 : Nat) ({ cls := "LoveParts$Row", name := "begin", desc := "(II)V" } : MethodName) ∈ gw := gw_at 367 (by decide +kernel) (by decide +kernel)
theorem w_368 : Cond.instanceMethod ({ cls := "LoveParts$Row", name := "begin", desc := "(II)V" } : MethodName) ∈ gw := gw_at 368 (by decide +kernel) (by decide +kernel)
theorem w_369 : Cond.selects "LoveParts$Row" ({ cls := "LoveParts$Row", name := "begin", desc := "(II)V" } : MethodName) ({ cls := "LoveParts$Row", name := "begin", desc := "(II)V" } : MethodName) ∈ gw := gw_at 369 (by decide +kernel) (by decide +kernel)
set_option maxRecDepth 100000 in
theorem w_370 : Cond.code ({ cls := "LoveParts$Row", name := "begin", desc := "(II)V" } : MethodName) prog_9_method_3_code (4 : Nat) (Option.none : Option ClassFile.FieldType) ∈ gw := gw_at 370 rfl (by decide +kernel)
theorem w_371 : Cond.methodLink "LoveParts" (109 : Nat) ({ cls := "LoveParts", name := "foundNothing", desc := "(I)I" } : MethodName) ∈ gw := gw_at 371 (by decide +kernel) (by decide +kernel)
theorem w_373 : Cond.instanceMethod ({ cls := "LoveParts", name := "foundNothing", desc := "(I)I" } : MethodName) ∈ gw := gw_at 373 (by decide +kernel) (by decide +kernel)
set_option maxRecDepth 100000 in
theorem w_374 : Cond.code ({ cls := "LoveParts", name := "foundNothing", desc := "(I)I" } : MethodName) prog_1_method_41_code (2 : Nat) (Option.some FieldType.int) ∈ gw := gw_at 374 rfl (by decide +kernel)
theorem w_375 : Cond.methodLink "LovePartsLaw" (18 : Nat) ({ cls := "LoveParts", name := "set", desc := "(III)I" } : MethodName) ∈ gw := gw_at 375 (by decide +kernel) (by decide +kernel)
theorem w_376 : Cond.instanceMethod ({ cls := "LoveParts", name := "set", desc := "(III)I" } : MethodName) ∈ gw := gw_at 376 (by decide +kernel) (by decide +kernel)
theorem w_377 : Cond.selects "LoveParts" ({ cls := "LoveParts", name := "set", desc := "(III)I" } : MethodName) ({ cls := "LoveParts", name := "set", desc := "(III)I" } : MethodName) ∈ gw := gw_at 377 (by decide +kernel) (by decide +kernel)
set_option maxRecDepth 100000 in
theorem w_378 : Cond.code ({ cls := "LoveParts", name := "set", desc := "(III)I" } : MethodName) prog_1_method_3_code (5 : Nat) (Option.some FieldType.int) ∈ gw := gw_at 378 rfl (by decide +kernel)
theorem w_379 : Cond.methodLink "LoveParts" (112 : Nat) ({ cls := "LoveParts$Row", name := "missing", desc := "()Z" } : MethodName) ∈ gw := gw_at 379 (by decide +kernel) (by decide +kernel)
theorem w_380 : Cond.instanceMethod ({ cls := "LoveParts$Row", name := "missing", desc := "()Z" } : MethodName) ∈ gw := gw_at 380 (by decide +kernel) (by decide +kernel)
theorem w_381 : Cond.selects "LoveParts$Row" ({ cls := "LoveParts$Row", name := "missing", desc := "()Z" } : MethodName) ({ cls := "LoveParts$Row", name := "missing", desc := "()Z" } : MethodName) ∈ gw := gw_at 381 (by decide +kernel) (by decide +kernel)
set_option maxRecDepth 100000 in
theorem w_382 : Cond.code ({ cls := "LoveParts$Row", name := "missing", desc := "()Z" } : MethodName) prog_9_method_2_code (1 : Nat) (Option.some FieldType.boolean) ∈ gw := gw_at 382 rfl (by decide +kernel)
theorem w_383 : Cond.methodLink "LoveParts" (116 : Nat) ({ cls := "LoveParts$Row", name := "holds", desc := "(II)Z" } : MethodName) ∈ gw := gw_at 383 (by decide +kernel) (by decide +kernel)
theorem w_384 : Cond.instanceMethod ({ cls := "LoveParts$Row", name := "holds", desc := "(II)Z" } : MethodName) ∈ gw := gw_at 384 (by decide +kernel) (by decide +kernel)
theorem w_385 : Cond.selects "LoveParts$Row" ({ cls := "LoveParts$Row", name := "holds", desc := "(II)Z" } : MethodName) ({ cls := "LoveParts$Row", name := "holds", desc := "(II)Z" } : MethodName) ∈ gw := gw_at 385 (by decide +kernel) (by decide +kernel)
set_option maxRecDepth 100000 in
theorem w_386 : Cond.code ({ cls := "LoveParts$Row", name := "holds", desc := "(II)Z" } : MethodName) prog_9_method_5_code (3 : Nat) (Option.some FieldType.boolean) ∈ gw := gw_at 386 rfl (by decide +kernel)
theorem w_387 : Cond.methodLink "LoveParts" (123 : Nat) ({ cls := "LoveParts$Row", name := "fitted", desc := "(I)I" } : MethodName) ∈ gw := gw_at 387 (by decide +kernel) (by decide +kernel)
theorem w_388 : Cond.instanceMethod ({ cls := "LoveParts$Row", name := "fitted", desc := "(I)I" } : MethodName) ∈ gw := gw_at 388 (by decide +kernel) (by decide +kernel)
theorem w_389 : Cond.selects "LoveParts$Row" ({ cls := "LoveParts$Row", name := "fitted", desc := "(I)I" } : MethodName) ({ cls := "LoveParts$Row", name := "fitted", desc := "(I)I" } : MethodName) ∈ gw := gw_at 389 (by decide +kernel) (by decide +kernel)
set_option maxRecDepth 100000 in
theorem w_390 : Cond.code ({ cls := "LoveParts$Row", name := "fitted", desc := "(I)I" } : MethodName) prog_9_method_6_code (2 : Nat) (Option.some FieldType.int) ∈ gw := gw_at 390 rfl (by decide +kernel)
theorem w_391 : Cond.methodLink "LovePartsLaw" (22 : Nat) ({ cls := "LoveParts", name := "copy", desc := "(IIIII)I" } : MethodName) ∈ gw := gw_at 391 (by decide +kernel) (by decide +kernel)
theorem w_392 : Cond.instanceMethod ({ cls := "LoveParts", name := "copy", desc := "(IIIII)I" } : MethodName) ∈ gw := gw_at 392 (by decide +kernel) (by decide +kernel)
theorem w_393 : Cond.selects "LoveParts" ({ cls := "LoveParts", name := "copy", desc := "(IIIII)I" } : MethodName) ({ cls := "LoveParts", name := "copy", desc := "(IIIII)I" } : MethodName) ∈ gw := gw_at 393 (by decide +kernel) (by decide +kernel)
set_option maxRecDepth 100000 in
theorem w_394 : Cond.code ({ cls := "LoveParts", name := "copy", desc := "(IIIII)I" } : MethodName) prog_1_method_4_code (8 : Nat) (Option.some FieldType.int) ∈ gw := gw_at 394 rfl (by decide +kernel)
theorem w_395 : Cond.methodLink "LoveParts" (129 : Nat) ({ cls := "java/lang/System", name := "arraycopy", desc := "(Ljava/lang/Object;ILjava/lang/Object;II)V" } : MethodName) ∈ gw := gw_at 395 (by decide +kernel) (by decide +kernel)
theorem w_396 : Cond.static ({ cls := "java/lang/System", name := "arraycopy", desc := "(Ljava/lang/Object;ILjava/lang/Object;II)V" } : MethodName) ∈ gw := gw_at 396 (by decide +kernel) (by decide +kernel)
theorem w_397 : Cond.native ({ cls := "java/lang/System", name := "arraycopy", desc := "(Ljava/lang/Object;ILjava/lang/Object;II)V" } : MethodName) ∈ gw := gw_at 397 (by decide +kernel) (by decide +kernel)
theorem w_398 : Cond.methodLink "LovePartsLaw" (27 : Nat) ({ cls := "LoveParts", name := "drop", desc := "(I)I" } : MethodName) ∈ gw := gw_at 398 (by decide +kernel) (by decide +kernel)
theorem w_399 : Cond.instanceMethod ({ cls := "LoveParts", name := "drop", desc := "(I)I" } : MethodName) ∈ gw := gw_at 399 (by decide +kernel) (by decide +kernel)
theorem w_400 : Cond.selects "LoveParts" ({ cls := "LoveParts", name := "drop", desc := "(I)I" } : MethodName) ({ cls := "LoveParts", name := "drop", desc := "(I)I" } : MethodName) ∈ gw := gw_at 400 (by decide +kernel) (by decide +kernel)
set_option maxRecDepth 100000 in
theorem w_401 : Cond.code ({ cls := "LoveParts", name := "drop", desc := "(I)I" } : MethodName) prog_1_method_5_code (4 : Nat) (Option.some FieldType.int) ∈ gw := gw_at 401 rfl (by decide +kernel)
theorem w_402 : Cond.methodLink "LoveParts" (138 : Nat) ({ cls := "LoveParts$Row", name := "end", desc := "()V" } : MethodName) ∈ gw := gw_at 402 (by decide +kernel) (by decide +kernel)
theorem w_403 : Cond.instanceMethod ({ cls := "LoveParts$Row", name := "end", desc := "()V" } : MethodName) ∈ gw := gw_at 403 (by decide +kernel) (by decide +kernel)
theorem w_404 : Cond.selects "LoveParts$Row" ({ cls := "LoveParts$Row", name := "end", desc := "()V" } : MethodName) ({ cls := "LoveParts$Row", name := "end", desc := "()V" } : MethodName) ∈ gw := gw_at 404 (by decide +kernel) (by decide +kernel)
set_option maxRecDepth 100000 in
theorem w_405 : Cond.code ({ cls := "LoveParts$Row", name := "end", desc := "()V" } : MethodName) prog_9_method_4_code (1 : Nat) (Option.none : Option ClassFile.FieldType) ∈ gw := gw_at 405 rfl (by decide +kernel)
theorem w_406 : Cond.methodLink "LovePartsLaw" (32 : Nat) ({ cls := "LoveParts", name := "feed", desc := "(I)I" } : MethodName) ∈ gw := gw_at 406 (by decide +kernel) (by decide +kernel)
theorem w_407 : Cond.instanceMethod ({ cls := "LoveParts", name := "feed", desc := "(I)I" } : MethodName) ∈ gw := gw_at 407 (by decide +kernel) (by decide +kernel)
theorem w_408 : Cond.selects "LoveParts" ({ cls := "LoveParts", name := "feed", desc := "(I)I" } : MethodName) ({ cls := "LoveParts", name := "feed", desc := "(I)I" } : MethodName) ∈ gw := gw_at 408 (by decide +kernel) (by decide +kernel)
set_option maxRecDepth 100000 in
theorem w_409 : Cond.code ({ cls := "LoveParts", name := "feed", desc := "(I)I" } : MethodName) prog_1_method_6_code (2 : Nat) (Option.some FieldType.int) ∈ gw := gw_at 409 rfl (by decide +kernel)
theorem w_410 : Cond.constant "LoveParts" (144 : Nat) (-1000003 : Int32) ∈ gw := gw_at 410 (by decide +kernel) (by decide +kernel)
theorem w_411 : Cond.methodLink "LovePartsLaw" (36 : Nat) ({ cls := "LoveParts", name := "realm", desc := "()I" } : MethodName) ∈ gw := gw_at 411 (by decide +kernel) (by decide +kernel)
theorem w_412 : Cond.instanceMethod ({ cls := "LoveParts", name := "realm", desc := "()I" } : MethodName) ∈ gw := gw_at 412 (by decide +kernel) (by decide +kernel)
theorem w_413 : Cond.selects "LoveParts" ({ cls := "LoveParts", name := "realm", desc := "()I" } : MethodName) ({ cls := "LoveParts", name := "realm", desc := "()I" } : MethodName) ∈ gw := gw_at 413 (by decide +kernel) (by decide +kernel)
set_option maxRecDepth 100000 in
theorem w_414 : Cond.code ({ cls := "LoveParts", name := "realm", desc := "()I" } : MethodName) prog_1_method_7_code (1 : Nat) (Option.some FieldType.int) ∈ gw := gw_at 414 rfl (by decide +kernel)
theorem w_415 : Cond.methodLink "LoveParts" (148 : Nat) ({ cls := "LoveParts$Reader", name := "read", desc := "(LLoveParts$Realm;[LLoveParts$Nature;)V" } : MethodName) ∈ gw := gw_at 415 (by decide +kernel) (by decide +kernel)
theorem w_416 : Cond.instanceMethod ({ cls := "LoveParts$Reader", name := "read", desc := "(LLoveParts$Realm;[LLoveParts$Nature;)V" } : MethodName) ∈ gw := gw_at 416 (by decide +kernel) (by decide +kernel)
theorem w_417 : Cond.selects "LoveParts$Reader" ({ cls := "LoveParts$Reader", name := "read", desc := "(LLoveParts$Realm;[LLoveParts$Nature;)V" } : MethodName) ({ cls := "LoveParts$Reader", name := "read", desc := "(LLoveParts$Realm;[LLoveParts$Nature;)V" } : MethodName) ∈ gw := gw_at 417 (by decide +kernel) (by decide +kernel)
set_option maxRecDepth 100000 in
theorem w_418 : Cond.code ({ cls := "LoveParts$Reader", name := "read", desc := "(LLoveParts$Realm;[LLoveParts$Nature;)V" } : MethodName) prog_7_method_2_code (3 : Nat) (Option.none : Option ClassFile.FieldType) ∈ gw := gw_at 418 rfl (by decide +kernel)
theorem w_419 : Cond.methodLink "LoveParts$Reader" (34 : Nat) ({ cls := "LoveParts$Reader", name := "nextToken", desc := "()V" } : MethodName) ∈ gw := gw_at 419 (by decide +kernel) (by decide +kernel)
theorem w_420 : Cond.instanceMethod ({ cls := "LoveParts$Reader", name := "nextToken", desc := "()V" } : MethodName) ∈ gw := gw_at 420 (by decide +kernel) (by decide +kernel)
theorem w_421 : Cond.selects "LoveParts$Reader" ({ cls := "LoveParts$Reader", name := "nextToken", desc := "()V" } : MethodName) ({ cls := "LoveParts$Reader", name := "nextToken", desc := "()V" } : MethodName) ∈ gw := gw_at 421 (by decide +kernel) (by decide +kernel)
set_option maxRecDepth 100000 in
theorem w_422 : Cond.code ({ cls := "LoveParts$Reader", name := "nextToken", desc := "()V" } : MethodName) prog_7_method_8_code (2 : Nat) (Option.none : Option ClassFile.FieldType) ∈ gw := gw_at 422 rfl (by decide +kernel)
theorem w_423 : Cond.methodLink "LoveParts$Reader" (97 : Nat) ({ cls := "LoveParts$Reader", name := "isFigure", desc := "(I)Z" } : MethodName) ∈ gw := gw_at 423 (by decide +kernel) (by decide +kernel)
theorem w_424 : Cond.static ({ cls := "LoveParts$Reader", name := "isFigure", desc := "(I)Z" } : MethodName) ∈ gw := gw_at 424 (by decide +kernel) (by decide +kernel)
set_option maxRecDepth 100000 in
theorem w_425 : Cond.code ({ cls := "LoveParts$Reader", name := "isFigure", desc := "(I)Z" } : MethodName) prog_7_method_10_code (1 : Nat) (Option.some FieldType.boolean) ∈ gw := gw_at 425 rfl (by decide +kernel)
theorem w_426 : Cond.methodLink "LoveParts$Reader" (101 : Nat) ({ cls := "LoveParts$Reader", name := "readFigures", desc := "()V" } : MethodName) ∈ gw := gw_at 426 (by decide +kernel) (by decide +kernel)
theorem w_427 : Cond.instanceMethod ({ cls := "LoveParts$Reader", name := "readFigures", desc := "()V" } : MethodName) ∈ gw := gw_at 427 (by decide +kernel) (by decide +kernel)
theorem w_428 : Cond.selects "LoveParts$Reader" ({ cls := "LoveParts$Reader", name := "readFigures", desc := "()V" } : MethodName) ({ cls := "LoveParts$Reader", name := "readFigures", desc := "()V" } : MethodName) ∈ gw := gw_at 428 (by decide +kernel) (by decide +kernel)
set_option maxRecDepth 100000 in
theorem w_429 : Cond.code ({ cls := "LoveParts$Reader", name := "readFigures", desc := "()V" } : MethodName) prog_7_method_9_code (1 : Nat) (Option.none : Option ClassFile.FieldType) ∈ gw := gw_at 429 rfl (by decide +kernel)
theorem w_430 : Cond.methodLink "LoveParts$Reader" (37 : Nat) ({ cls := "LoveParts$Realm", name := "begin", desc := "()V" } : MethodName) ∈ gw := gw_at 430 (by decide +kernel) (by decide +kernel)
theorem w_431 : Cond.instanceMethod ({ cls := "LoveParts$Realm", name := "begin", desc := "()V" } : MethodName) ∈ gw := gw_at 431 (by decide +kernel) (by decide +kernel)
theorem w_432 : Cond.selects "LoveParts$Realm" ({ cls := "LoveParts$Realm", name := "begin", desc := "()V" } : MethodName) ({ cls := "LoveParts$Realm", name := "begin", desc := "()V" } : MethodName) ∈ gw := gw_at 432 (by decide +kernel) (by decide +kernel)
set_option maxRecDepth 100000 in
theorem w_433 : Cond.code ({ cls := "LoveParts$Realm", name := "begin", desc := "()V" } : MethodName) prog_8_method_2_code (2 : Nat) (Option.none : Option ClassFile.FieldType) ∈ gw := gw_at 433 rfl (by decide +kernel)
theorem w_434 : Cond.methodLink "LoveParts$Realm" (46 : Nat) ({ cls := "LoveParts$Heir", name := "begin", desc := "()V" } : MethodName) ∈ gw := gw_at 434 (by decide +kernel) (by decide +kernel)
theorem w_435 : Cond.instanceMethod ({ cls := "LoveParts$Heir", name := "begin", desc := "()V" } : MethodName) ∈ gw := gw_at 435 (by decide +kernel) (by decide +kernel)
theorem w_436 : Cond.selects "LoveParts$Heir" ({ cls := "LoveParts$Heir", name := "begin", desc := "()V" } : MethodName) ({ cls := "LoveParts$Heir", name := "begin", desc := "()V" } : MethodName) ∈ gw := gw_at 436 (by decide +kernel) (by decide +kernel)
set_option maxRecDepth 100000 in
theorem w_437 : Cond.code ({ cls := "LoveParts$Heir", name := "begin", desc := "()V" } : MethodName) prog_2_method_3_code (1 : Nat) (Option.none : Option ClassFile.FieldType) ∈ gw := gw_at 437 rfl (by decide +kernel)
theorem w_438 : Cond.methodLink "LoveParts$Reader" (42 : Nat) ({ cls := "LoveParts$Reader", name := "readLaw", desc := "(LLoveParts$Realm;)V" } : MethodName) ∈ gw := gw_at 438 (by decide +kernel) (by decide +kernel)
theorem w_439 : Cond.instanceMethod ({ cls := "LoveParts$Reader", name := "readLaw", desc := "(LLoveParts$Realm;)V" } : MethodName) ∈ gw := gw_at 439 (by decide +kernel) (by decide +kernel)
theorem w_440 : Cond.selects "LoveParts$Reader" ({ cls := "LoveParts$Reader", name := "readLaw", desc := "(LLoveParts$Realm;)V" } : MethodName) ({ cls := "LoveParts$Reader", name := "readLaw", desc := "(LLoveParts$Realm;)V" } : MethodName) ∈ gw := gw_at 440 (by decide +kernel) (by decide +kernel)
set_option maxRecDepth 100000 in
theorem w_441 : Cond.code ({ cls := "LoveParts$Reader", name := "readLaw", desc := "(LLoveParts$Realm;)V" } : MethodName) prog_7_method_3_code (2 : Nat) (Option.none : Option ClassFile.FieldType) ∈ gw := gw_at 441 rfl (by decide +kernel)
theorem w_442 : Cond.methodLink "LoveParts$Reader" (50 : Nat) ({ cls := "LoveParts$Reader", name := "sign", desc := "(I)V" } : MethodName) ∈ gw := gw_at 442 (by decide +kernel) (by decide +kernel)
theorem w_443 : Cond.instanceMethod ({ cls := "LoveParts$Reader", name := "sign", desc := "(I)V" } : MethodName) ∈ gw := gw_at 443 (by decide +kernel) (by decide +kernel)
theorem w_444 : Cond.selects "LoveParts$Reader" ({ cls := "LoveParts$Reader", name := "sign", desc := "(I)V" } : MethodName) ({ cls := "LoveParts$Reader", name := "sign", desc := "(I)V" } : MethodName) ∈ gw := gw_at 444 (by decide +kernel) (by decide +kernel)
set_option maxRecDepth 100000 in
theorem w_445 : Cond.code ({ cls := "LoveParts$Reader", name := "sign", desc := "(I)V" } : MethodName) prog_7_method_6_code (2 : Nat) (Option.none : Option ClassFile.FieldType) ∈ gw := gw_at 445 rfl (by decide +kernel)
theorem w_446 : Cond.methodLink "LoveParts$Reader" (54 : Nat) ({ cls := "LoveParts$Reader", name := "number", desc := "(II)I" } : MethodName) ∈ gw := gw_at 446 (by decide +kernel) (by decide +kernel)
theorem w_447 : Cond.instanceMethod ({ cls := "LoveParts$Reader", name := "number", desc := "(II)I" } : MethodName) ∈ gw := gw_at 447 (by decide +kernel) (by decide +kernel)
theorem w_448 : Cond.selects "LoveParts$Reader" ({ cls := "LoveParts$Reader", name := "number", desc := "(II)I" } : MethodName) ({ cls := "LoveParts$Reader", name := "number", desc := "(II)I" } : MethodName) ∈ gw := gw_at 448 (by decide +kernel) (by decide +kernel)
set_option maxRecDepth 100000 in
theorem w_449 : Cond.code ({ cls := "LoveParts$Reader", name := "number", desc := "(II)I" } : MethodName) prog_7_method_7_code (4 : Nat) (Option.some FieldType.int) ∈ gw := gw_at 449 rfl (by decide +kernel)
theorem w_451 : Cond.methodLink "LoveParts$Reader" (46 : Nat) ({ cls := "LoveParts$Reader", name := "readHeirs", desc := "(LLoveParts$Realm;[LLoveParts$Nature;)V" } : MethodName) ∈ gw := gw_at 451 (by decide +kernel) (by decide +kernel)
theorem w_452 : Cond.instanceMethod ({ cls := "LoveParts$Reader", name := "readHeirs", desc := "(LLoveParts$Realm;[LLoveParts$Nature;)V" } : MethodName) ∈ gw := gw_at 452 (by decide +kernel) (by decide +kernel)
theorem w_453 : Cond.selects "LoveParts$Reader" ({ cls := "LoveParts$Reader", name := "readHeirs", desc := "(LLoveParts$Realm;[LLoveParts$Nature;)V" } : MethodName) ({ cls := "LoveParts$Reader", name := "readHeirs", desc := "(LLoveParts$Realm;[LLoveParts$Nature;)V" } : MethodName) ∈ gw := gw_at 453 (by decide +kernel) (by decide +kernel)
set_option maxRecDepth 100000 in
theorem w_454 : Cond.code ({ cls := "LoveParts$Reader", name := "readHeirs", desc := "(LLoveParts$Realm;[LLoveParts$Nature;)V" } : MethodName) prog_7_method_4_code (6 : Nat) (Option.none : Option ClassFile.FieldType) ∈ gw := gw_at 454 rfl (by decide +kernel)
theorem w_455 : Cond.methodLink "LoveParts$Reader" (70 : Nat) ({ cls := "LoveParts$Reader", name := "kindBySort", desc := "(I)I" } : MethodName) ∈ gw := gw_at 455 (by decide +kernel) (by decide +kernel)
theorem w_456 : Cond.static ({ cls := "LoveParts$Reader", name := "kindBySort", desc := "(I)I" } : MethodName) ∈ gw := gw_at 456 (by decide +kernel) (by decide +kernel)
set_option maxRecDepth 100000 in
theorem w_457 : Cond.code ({ cls := "LoveParts$Reader", name := "kindBySort", desc := "(I)I" } : MethodName) prog_7_method_5_code (1 : Nat) (Option.some FieldType.int) ∈ gw := gw_at 457 rfl (by decide +kernel)
theorem w_458 : Cond.constant "LoveParts" (155 : Nat) (-1000100 : Int32) ∈ gw := gw_at 458 (by decide +kernel) (by decide +kernel)
theorem w_459 : Cond.methodLink "LoveParts" (159 : Nat) ({ cls := "LoveParts$Realm", name := "take", desc := "(LLoveParts$Realm;)V" } : MethodName) ∈ gw := gw_at 459 (by decide +kernel) (by decide +kernel)
theorem w_460 : Cond.instanceMethod ({ cls := "LoveParts$Realm", name := "take", desc := "(LLoveParts$Realm;)V" } : MethodName) ∈ gw := gw_at 460 (by decide +kernel) (by decide +kernel)
theorem w_461 : Cond.selects "LoveParts$Realm" ({ cls := "LoveParts$Realm", name := "take", desc := "(LLoveParts$Realm;)V" } : MethodName) ({ cls := "LoveParts$Realm", name := "take", desc := "(LLoveParts$Realm;)V" } : MethodName) ∈ gw := gw_at 461 (by decide +kernel) (by decide +kernel)
set_option maxRecDepth 100000 in
theorem w_462 : Cond.code ({ cls := "LoveParts$Realm", name := "take", desc := "(LLoveParts$Realm;)V" } : MethodName) prog_8_method_3_code (3 : Nat) (Option.none : Option ClassFile.FieldType) ∈ gw := gw_at 462 rfl (by decide +kernel)
theorem w_463 : Cond.methodLink "LoveParts$Realm" (49 : Nat) ({ cls := "LoveParts$Heir", name := "take", desc := "(LLoveParts$Heir;)V" } : MethodName) ∈ gw := gw_at 463 (by decide +kernel) (by decide +kernel)
theorem w_464 : Cond.instanceMethod ({ cls := "LoveParts$Heir", name := "take", desc := "(LLoveParts$Heir;)V" } : MethodName) ∈ gw := gw_at 464 (by decide +kernel) (by decide +kernel)
theorem w_465 : Cond.selects "LoveParts$Heir" ({ cls := "LoveParts$Heir", name := "take", desc := "(LLoveParts$Heir;)V" } : MethodName) ({ cls := "LoveParts$Heir", name := "take", desc := "(LLoveParts$Heir;)V" } : MethodName) ∈ gw := gw_at 465 (by decide +kernel) (by decide +kernel)
set_option maxRecDepth 100000 in
theorem w_466 : Cond.code ({ cls := "LoveParts$Heir", name := "take", desc := "(LLoveParts$Heir;)V" } : MethodName) prog_2_method_4_code (2 : Nat) (Option.none : Option ClassFile.FieldType) ∈ gw := gw_at 466 rfl (by decide +kernel)
theorem w_467 : Cond.methodLink "LoveParts" (163 : Nat) ({ cls := "LoveParts", name := "forgetActs", desc := "()V" } : MethodName) ∈ gw := gw_at 467 (by decide +kernel) (by decide +kernel)
theorem w_469 : Cond.instanceMethod ({ cls := "LoveParts", name := "forgetActs", desc := "()V" } : MethodName) ∈ gw := gw_at 469 (by decide +kernel) (by decide +kernel)
set_option maxRecDepth 100000 in
theorem w_470 : Cond.code ({ cls := "LoveParts", name := "forgetActs", desc := "()V" } : MethodName) prog_1_method_44_code (1 : Nat) (Option.none : Option ClassFile.FieldType) ∈ gw := gw_at 470 rfl (by decide +kernel)
theorem w_471 : Cond.methodLink "LovePartsLaw" (41 : Nat) ({ cls := "LoveParts", name := "fault", desc := "()I" } : MethodName) ∈ gw := gw_at 471 (by decide +kernel) (by decide +kernel)
theorem w_472 : Cond.instanceMethod ({ cls := "LoveParts", name := "fault", desc := "()I" } : MethodName) ∈ gw := gw_at 472 (by decide +kernel) (by decide +kernel)
theorem w_473 : Cond.selects "LoveParts" ({ cls := "LoveParts", name := "fault", desc := "()I" } : MethodName) ({ cls := "LoveParts", name := "fault", desc := "()I" } : MethodName) ∈ gw := gw_at 473 (by decide +kernel) (by decide +kernel)
set_option maxRecDepth 100000 in
theorem w_474 : Cond.code ({ cls := "LoveParts", name := "fault", desc := "()I" } : MethodName) prog_1_method_8_code (1 : Nat) (Option.some FieldType.int) ∈ gw := gw_at 474 rfl (by decide +kernel)
theorem w_475 : Cond.methodLink "LovePartsLaw" (45 : Nat) ({ cls := "LoveParts", name := "undo", desc := "()I" } : MethodName) ∈ gw := gw_at 475 (by decide +kernel) (by decide +kernel)
theorem w_476 : Cond.instanceMethod ({ cls := "LoveParts", name := "undo", desc := "()I" } : MethodName) ∈ gw := gw_at 476 (by decide +kernel) (by decide +kernel)
theorem w_477 : Cond.selects "LoveParts" ({ cls := "LoveParts", name := "undo", desc := "()I" } : MethodName) ({ cls := "LoveParts", name := "undo", desc := "()I" } : MethodName) ∈ gw := gw_at 477 (by decide +kernel) (by decide +kernel)
set_option maxRecDepth 100000 in
theorem w_478 : Cond.code ({ cls := "LoveParts", name := "undo", desc := "()I" } : MethodName) prog_1_method_9_code (1 : Nat) (Option.some FieldType.int) ∈ gw := gw_at 478 rfl (by decide +kernel)
theorem w_479 : Cond.constant "LoveParts" (169 : Nat) (-1000002 : Int32) ∈ gw := gw_at 479 (by decide +kernel) (by decide +kernel)
theorem w_480 : Cond.methodLink "LovePartsLaw" (49 : Nat) ({ cls := "LoveParts", name := "speak", desc := "(III)I" } : MethodName) ∈ gw := gw_at 480 (by decide +kernel) (by decide +kernel)
theorem w_481 : Cond.instanceMethod ({ cls := "LoveParts", name := "speak", desc := "(III)I" } : MethodName) ∈ gw := gw_at 481 (by decide +kernel) (by decide +kernel)
theorem w_482 : Cond.selects "LoveParts" ({ cls := "LoveParts", name := "speak", desc := "(III)I" } : MethodName) ({ cls := "LoveParts", name := "speak", desc := "(III)I" } : MethodName) ∈ gw := gw_at 482 (by decide +kernel) (by decide +kernel)
set_option maxRecDepth 100000 in
theorem w_483 : Cond.code ({ cls := "LoveParts", name := "speak", desc := "(III)I" } : MethodName) prog_1_method_10_code (5 : Nat) (Option.some FieldType.int) ∈ gw := gw_at 483 rfl (by decide +kernel)
theorem w_484 : Cond.methodLink "LoveParts" (170 : Nat) ({ cls := "LoveParts", name := "isHeir", desc := "(I)Z" } : MethodName) ∈ gw := gw_at 484 (by decide +kernel) (by decide +kernel)
theorem w_486 : Cond.instanceMethod ({ cls := "LoveParts", name := "isHeir", desc := "(I)Z" } : MethodName) ∈ gw := gw_at 486 (by decide +kernel) (by decide +kernel)
set_option maxRecDepth 100000 in
theorem w_487 : Cond.code ({ cls := "LoveParts", name := "isHeir", desc := "(I)Z" } : MethodName) prog_1_method_39_code (2 : Nat) (Option.some FieldType.boolean) ∈ gw := gw_at 487 rfl (by decide +kernel)
theorem w_488 : Cond.methodLink "LoveParts" (178 : Nat) ({ cls := "LoveParts$Realm", name := "ownWords", desc := "(I)I" } : MethodName) ∈ gw := gw_at 488 (by decide +kernel) (by decide +kernel)
theorem w_489 : Cond.instanceMethod ({ cls := "LoveParts$Realm", name := "ownWords", desc := "(I)I" } : MethodName) ∈ gw := gw_at 489 (by decide +kernel) (by decide +kernel)
theorem w_490 : Cond.selects "LoveParts$Realm" ({ cls := "LoveParts$Realm", name := "ownWords", desc := "(I)I" } : MethodName) ({ cls := "LoveParts$Realm", name := "ownWords", desc := "(I)I" } : MethodName) ∈ gw := gw_at 490 (by decide +kernel) (by decide +kernel)
set_option maxRecDepth 100000 in
theorem w_491 : Cond.code ({ cls := "LoveParts$Realm", name := "ownWords", desc := "(I)I" } : MethodName) prog_8_method_4_code (4 : Nat) (Option.some FieldType.int) ∈ gw := gw_at 491 rfl (by decide +kernel)
theorem w_492 : Cond.methodLink "LoveParts$Realm" (63 : Nat) ({ cls := "LoveParts$Nature", name := "own", desc := "(LLoveParts$Heir;I)I" } : MethodName) ∈ gw := gw_at 492 (by decide +kernel) (by decide +kernel)
theorem w_494 : Cond.sameMethod "LoveParts$Nature" "LoveParts$Nature" "own" "(LLoveParts$Heir;I)I" ∈ gw := gw_at 494 (by decide +kernel) (by decide +kernel)
theorem w_495 : Cond.selects "LoveParts$Ironic" ({ cls := "LoveParts$Nature", name := "own", desc := "(LLoveParts$Heir;I)I" } : MethodName) ({ cls := "LoveParts$Ironic", name := "own", desc := "(LLoveParts$Heir;I)I" } : MethodName) ∈ gw := gw_at 495 (by decide +kernel) (by decide +kernel)
theorem w_496 : Cond.instanceMethod ({ cls := "LoveParts$Ironic", name := "own", desc := "(LLoveParts$Heir;I)I" } : MethodName) ∈ gw := gw_at 496 (by decide +kernel) (by decide +kernel)
set_option maxRecDepth 100000 in
theorem w_497 : Cond.code ({ cls := "LoveParts$Ironic", name := "own", desc := "(LLoveParts$Heir;I)I" } : MethodName) prog_3_method_3_code (3 : Nat) (Option.some FieldType.int) ∈ gw := gw_at 497 rfl (by decide +kernel)
theorem w_498 : Cond.selects "LoveParts$Joint" ({ cls := "LoveParts$Nature", name := "own", desc := "(LLoveParts$Heir;I)I" } : MethodName) ({ cls := "LoveParts$Joint", name := "own", desc := "(LLoveParts$Heir;I)I" } : MethodName) ∈ gw := gw_at 498 (by decide +kernel) (by decide +kernel)
theorem w_499 : Cond.instanceMethod ({ cls := "LoveParts$Joint", name := "own", desc := "(LLoveParts$Heir;I)I" } : MethodName) ∈ gw := gw_at 499 (by decide +kernel) (by decide +kernel)
set_option maxRecDepth 100000 in
theorem w_500 : Cond.code ({ cls := "LoveParts$Joint", name := "own", desc := "(LLoveParts$Heir;I)I" } : MethodName) prog_4_method_3_code (3 : Nat) (Option.some FieldType.int) ∈ gw := gw_at 500 rfl (by decide +kernel)
theorem w_501 : Cond.selects "LoveParts$Plain" ({ cls := "LoveParts$Nature", name := "own", desc := "(LLoveParts$Heir;I)I" } : MethodName) ({ cls := "LoveParts$Plain", name := "own", desc := "(LLoveParts$Heir;I)I" } : MethodName) ∈ gw := gw_at 501 (by decide +kernel) (by decide +kernel)
theorem w_502 : Cond.instanceMethod ({ cls := "LoveParts$Plain", name := "own", desc := "(LLoveParts$Heir;I)I" } : MethodName) ∈ gw := gw_at 502 (by decide +kernel) (by decide +kernel)
set_option maxRecDepth 100000 in
theorem w_503 : Cond.code ({ cls := "LoveParts$Plain", name := "own", desc := "(LLoveParts$Heir;I)I" } : MethodName) prog_6_method_3_code (3 : Nat) (Option.some FieldType.int) ∈ gw := gw_at 503 rfl (by decide +kernel)
theorem w_504 : Cond.selects "LoveParts$Schooled" ({ cls := "LoveParts$Nature", name := "own", desc := "(LLoveParts$Heir;I)I" } : MethodName) ({ cls := "LoveParts$Schooled", name := "own", desc := "(LLoveParts$Heir;I)I" } : MethodName) ∈ gw := gw_at 504 (by decide +kernel) (by decide +kernel)
theorem w_505 : Cond.instanceMethod ({ cls := "LoveParts$Schooled", name := "own", desc := "(LLoveParts$Heir;I)I" } : MethodName) ∈ gw := gw_at 505 (by decide +kernel) (by decide +kernel)
set_option maxRecDepth 100000 in
theorem w_506 : Cond.code ({ cls := "LoveParts$Schooled", name := "own", desc := "(LLoveParts$Heir;I)I" } : MethodName) prog_10_method_3_code (3 : Nat) (Option.some FieldType.int) ∈ gw := gw_at 506 rfl (by decide +kernel)
theorem w_507 : Cond.selects "LoveParts$Silent" ({ cls := "LoveParts$Nature", name := "own", desc := "(LLoveParts$Heir;I)I" } : MethodName) ({ cls := "LoveParts$Silent", name := "own", desc := "(LLoveParts$Heir;I)I" } : MethodName) ∈ gw := gw_at 507 (by decide +kernel) (by decide +kernel)
theorem w_508 : Cond.instanceMethod ({ cls := "LoveParts$Silent", name := "own", desc := "(LLoveParts$Heir;I)I" } : MethodName) ∈ gw := gw_at 508 (by decide +kernel) (by decide +kernel)
set_option maxRecDepth 100000 in
theorem w_509 : Cond.code ({ cls := "LoveParts$Silent", name := "own", desc := "(LLoveParts$Heir;I)I" } : MethodName) prog_11_method_3_code (3 : Nat) (Option.some FieldType.int) ∈ gw := gw_at 509 rfl (by decide +kernel)
theorem w_510 : Cond.methodLink "LoveParts$Realm" (69 : Nat) ({ cls := "java/lang/Math", name := "min", desc := "(II)I" } : MethodName) ∈ gw := gw_at 510 (by decide +kernel) (by decide +kernel)
theorem w_511 : Cond.static ({ cls := "java/lang/Math", name := "min", desc := "(II)I" } : MethodName) ∈ gw := gw_at 511 (by decide +kernel) (by decide +kernel)
set_option maxRecDepth 100000 in
theorem w_512 : Cond.code ({ cls := "java/lang/Math", name := "min", desc := "(II)I" } : MethodName) prog_15_method_69_code (2 : Nat) (Option.some FieldType.int) ∈ gw := gw_at 512 rfl (by decide +kernel)
theorem w_513 : Cond.methodLink "LoveParts" (181 : Nat) ({ cls := "LoveParts", name := "keepForUndo", desc := "()V" } : MethodName) ∈ gw := gw_at 513 (by decide +kernel) (by decide +kernel)
theorem w_515 : Cond.instanceMethod ({ cls := "LoveParts", name := "keepForUndo", desc := "()V" } : MethodName) ∈ gw := gw_at 515 (by decide +kernel) (by decide +kernel)
set_option maxRecDepth 100000 in
theorem w_516 : Cond.code ({ cls := "LoveParts", name := "keepForUndo", desc := "()V" } : MethodName) prog_1_method_43_code (1 : Nat) (Option.none : Option ClassFile.FieldType) ∈ gw := gw_at 516 rfl (by decide +kernel)
theorem w_517 : Cond.methodLink "LoveParts" (225 : Nat) ({ cls := "java/lang/Math", name := "min", desc := "(II)I" } : MethodName) ∈ gw := gw_at 517 (by decide +kernel) (by decide +kernel)
theorem w_518 : Cond.methodLink "LoveParts" (188 : Nat) ({ cls := "LoveParts$Heir", name := "say", desc := "(II)V" } : MethodName) ∈ gw := gw_at 518 (by decide +kernel) (by decide +kernel)
theorem w_519 : Cond.instanceMethod ({ cls := "LoveParts$Heir", name := "say", desc := "(II)V" } : MethodName) ∈ gw := gw_at 519 (by decide +kernel) (by decide +kernel)
theorem w_520 : Cond.selects "LoveParts$Heir" ({ cls := "LoveParts$Heir", name := "say", desc := "(II)V" } : MethodName) ({ cls := "LoveParts$Heir", name := "say", desc := "(II)V" } : MethodName) ∈ gw := gw_at 520 (by decide +kernel) (by decide +kernel)
set_option maxRecDepth 100000 in
theorem w_521 : Cond.code ({ cls := "LoveParts$Heir", name := "say", desc := "(II)V" } : MethodName) prog_2_method_2_code (3 : Nat) (Option.none : Option ClassFile.FieldType) ∈ gw := gw_at 521 rfl (by decide +kernel)
theorem w_522 : Cond.methodLink "LovePartsLaw" (53 : Nat) ({ cls := "LoveParts", name := "part", desc := "()I" } : MethodName) ∈ gw := gw_at 522 (by decide +kernel) (by decide +kernel)
theorem w_523 : Cond.instanceMethod ({ cls := "LoveParts", name := "part", desc := "()I" } : MethodName) ∈ gw := gw_at 523 (by decide +kernel) (by decide +kernel)
theorem w_524 : Cond.selects "LoveParts" ({ cls := "LoveParts", name := "part", desc := "()I" } : MethodName) ({ cls := "LoveParts", name := "part", desc := "()I" } : MethodName) ∈ gw := gw_at 524 (by decide +kernel) (by decide +kernel)
set_option maxRecDepth 100000 in
theorem w_525 : Cond.code ({ cls := "LoveParts", name := "part", desc := "()I" } : MethodName) prog_1_method_11_code (2 : Nat) (Option.some FieldType.int) ∈ gw := gw_at 525 rfl (by decide +kernel)
theorem w_526 : Cond.methodLink "LoveParts" (193 : Nat) ({ cls := "LoveParts", name := "noRealm", desc := "()Z" } : MethodName) ∈ gw := gw_at 526 (by decide +kernel) (by decide +kernel)
theorem w_528 : Cond.instanceMethod ({ cls := "LoveParts", name := "noRealm", desc := "()Z" } : MethodName) ∈ gw := gw_at 528 (by decide +kernel) (by decide +kernel)
set_option maxRecDepth 100000 in
theorem w_529 : Cond.code ({ cls := "LoveParts", name := "noRealm", desc := "()Z" } : MethodName) prog_1_method_38_code (1 : Nat) (Option.some FieldType.boolean) ∈ gw := gw_at 529 rfl (by decide +kernel)
theorem w_530 : Cond.methodLink "LoveParts" (199 : Nat) ({ cls := "LoveParts$Realm", name := "divide", desc := "(I[I)V" } : MethodName) ∈ gw := gw_at 530 (by decide +kernel) (by decide +kernel)
theorem w_531 : Cond.instanceMethod ({ cls := "LoveParts$Realm", name := "divide", desc := "(I[I)V" } : MethodName) ∈ gw := gw_at 531 (by decide +kernel) (by decide +kernel)
theorem w_532 : Cond.selects "LoveParts$Realm" ({ cls := "LoveParts$Realm", name := "divide", desc := "(I[I)V" } : MethodName) ({ cls := "LoveParts$Realm", name := "divide", desc := "(I[I)V" } : MethodName) ∈ gw := gw_at 532 (by decide +kernel) (by decide +kernel)
set_option maxRecDepth 100000 in
theorem w_533 : Cond.code ({ cls := "LoveParts$Realm", name := "divide", desc := "(I[I)V" } : MethodName) prog_8_method_9_code (3 : Nat) (Option.none : Option ClassFile.FieldType) ∈ gw := gw_at 533 rfl (by decide +kernel)
theorem w_534 : Cond.methodLink "LoveParts$Realm" (93 : Nat) ({ cls := "LoveParts$Realm", name := "weigh", desc := "(I[I)V" } : MethodName) ∈ gw := gw_at 534 (by decide +kernel) (by decide +kernel)
theorem w_535 : Cond.instanceMethod ({ cls := "LoveParts$Realm", name := "weigh", desc := "(I[I)V" } : MethodName) ∈ gw := gw_at 535 (by decide +kernel) (by decide +kernel)
theorem w_536 : Cond.selects "LoveParts$Realm" ({ cls := "LoveParts$Realm", name := "weigh", desc := "(I[I)V" } : MethodName) ({ cls := "LoveParts$Realm", name := "weigh", desc := "(I[I)V" } : MethodName) ∈ gw := gw_at 536 (by decide +kernel) (by decide +kernel)
set_option maxRecDepth 100000 in
theorem w_537 : Cond.code ({ cls := "LoveParts$Realm", name := "weigh", desc := "(I[I)V" } : MethodName) prog_8_method_7_code (4 : Nat) (Option.none : Option ClassFile.FieldType) ∈ gw := gw_at 537 rfl (by decide +kernel)
theorem w_538 : Cond.methodLink "LoveParts$Realm" (79 : Nat) ({ cls := "LoveParts$Realm", name := "says", desc := "(I)I" } : MethodName) ∈ gw := gw_at 538 (by decide +kernel) (by decide +kernel)
theorem w_539 : Cond.instanceMethod ({ cls := "LoveParts$Realm", name := "says", desc := "(I)I" } : MethodName) ∈ gw := gw_at 539 (by decide +kernel) (by decide +kernel)
theorem w_540 : Cond.selects "LoveParts$Realm" ({ cls := "LoveParts$Realm", name := "says", desc := "(I)I" } : MethodName) ({ cls := "LoveParts$Realm", name := "says", desc := "(I)I" } : MethodName) ∈ gw := gw_at 540 (by decide +kernel) (by decide +kernel)
set_option maxRecDepth 100000 in
theorem w_541 : Cond.code ({ cls := "LoveParts$Realm", name := "says", desc := "(I)I" } : MethodName) prog_8_method_5_code (2 : Nat) (Option.some FieldType.int) ∈ gw := gw_at 541 rfl (by decide +kernel)
theorem w_542 : Cond.methodLink "LoveParts$Realm" (75 : Nat) ({ cls := "LoveParts$Realm", name := "ownWords", desc := "(I)I" } : MethodName) ∈ gw := gw_at 542 (by decide +kernel) (by decide +kernel)
theorem w_543 : Cond.methodLink "LoveParts$Realm" (85 : Nat) ({ cls := "LoveParts$Realm", name := "weight", desc := "(III)I" } : MethodName) ∈ gw := gw_at 543 (by decide +kernel) (by decide +kernel)
theorem w_544 : Cond.static ({ cls := "LoveParts$Realm", name := "weight", desc := "(III)I" } : MethodName) ∈ gw := gw_at 544 (by decide +kernel) (by decide +kernel)
set_option maxRecDepth 100000 in
theorem w_545 : Cond.code ({ cls := "LoveParts$Realm", name := "weight", desc := "(III)I" } : MethodName) prog_8_method_6_code (3 : Nat) (Option.some FieldType.int) ∈ gw := gw_at 545 rfl (by decide +kernel)
theorem w_546 : Cond.methodLink "LoveParts$Realm" (97 : Nat) ({ cls := "LoveParts$Realm", name := "cut", desc := "([I[I)V" } : MethodName) ∈ gw := gw_at 546 (by decide +kernel) (by decide +kernel)
theorem w_547 : Cond.instanceMethod ({ cls := "LoveParts$Realm", name := "cut", desc := "([I[I)V" } : MethodName) ∈ gw := gw_at 547 (by decide +kernel) (by decide +kernel)
theorem w_548 : Cond.selects "LoveParts$Realm" ({ cls := "LoveParts$Realm", name := "cut", desc := "([I[I)V" } : MethodName) ({ cls := "LoveParts$Realm", name := "cut", desc := "([I[I)V" } : MethodName) ∈ gw := gw_at 548 (by decide +kernel) (by decide +kernel)
set_option maxRecDepth 100000 in
theorem w_549 : Cond.code ({ cls := "LoveParts$Realm", name := "cut", desc := "([I[I)V" } : MethodName) prog_8_method_8_code (8 : Nat) (Option.none : Option ClassFile.FieldType) ∈ gw := gw_at 549 rfl (by decide +kernel)
theorem w_551 : Cond.static ({ cls := "LoveParts", name := "firstGreatest", desc := "([II)I" } : MethodName) ∈ gw := gw_at 551 (by decide +kernel) (by decide +kernel)
set_option maxRecDepth 100000 in
theorem w_552 : Cond.code ({ cls := "LoveParts", name := "firstGreatest", desc := "([II)I" } : MethodName) prog_1_method_45_code (4 : Nat) (Option.some FieldType.int) ∈ gw := gw_at 552 rfl (by decide +kernel)
theorem w_553 : Cond.methodLink "LoveParts" (206 : Nat) ({ cls := "LoveParts", name := "firstGreatest", desc := "([II)I" } : MethodName) ∈ gw := gw_at 553 (by decide +kernel) (by decide +kernel)
theorem w_554 : Cond.methodLink "LovePartsLaw" (57 : Nat) ({ cls := "LoveParts", name := "rule", desc := "(I)I" } : MethodName) ∈ gw := gw_at 554 (by decide +kernel) (by decide +kernel)
theorem w_555 : Cond.instanceMethod ({ cls := "LoveParts", name := "rule", desc := "(I)I" } : MethodName) ∈ gw := gw_at 555 (by decide +kernel) (by decide +kernel)
theorem w_556 : Cond.selects "LoveParts" ({ cls := "LoveParts", name := "rule", desc := "(I)I" } : MethodName) ({ cls := "LoveParts", name := "rule", desc := "(I)I" } : MethodName) ∈ gw := gw_at 556 (by decide +kernel) (by decide +kernel)
set_option maxRecDepth 100000 in
theorem w_557 : Cond.code ({ cls := "LoveParts", name := "rule", desc := "(I)I" } : MethodName) prog_1_method_12_code (3 : Nat) (Option.some FieldType.int) ∈ gw := gw_at 557 rfl (by decide +kernel)
theorem w_558 : Cond.methodLink "LovePartsLaw" (61 : Nat) ({ cls := "LoveParts", name := "months", desc := "(I)I" } : MethodName) ∈ gw := gw_at 558 (by decide +kernel) (by decide +kernel)
theorem w_559 : Cond.instanceMethod ({ cls := "LoveParts", name := "months", desc := "(I)I" } : MethodName) ∈ gw := gw_at 559 (by decide +kernel) (by decide +kernel)
theorem w_560 : Cond.selects "LoveParts" ({ cls := "LoveParts", name := "months", desc := "(I)I" } : MethodName) ({ cls := "LoveParts", name := "months", desc := "(I)I" } : MethodName) ∈ gw := gw_at 560 (by decide +kernel) (by decide +kernel)
set_option maxRecDepth 100000 in
theorem w_561 : Cond.code ({ cls := "LoveParts", name := "months", desc := "(I)I" } : MethodName) prog_1_method_13_code (3 : Nat) (Option.some FieldType.int) ∈ gw := gw_at 561 rfl (by decide +kernel)
theorem w_562 : Cond.methodLink "LoveParts" (213 : Nat) ({ cls := "LoveParts$Realm", name := "passMonth", desc := "()V" } : MethodName) ∈ gw := gw_at 562 (by decide +kernel) (by decide +kernel)
theorem w_563 : Cond.instanceMethod ({ cls := "LoveParts$Realm", name := "passMonth", desc := "()V" } : MethodName) ∈ gw := gw_at 563 (by decide +kernel) (by decide +kernel)
theorem w_564 : Cond.selects "LoveParts$Realm" ({ cls := "LoveParts$Realm", name := "passMonth", desc := "()V" } : MethodName) ({ cls := "LoveParts$Realm", name := "passMonth", desc := "()V" } : MethodName) ∈ gw := gw_at 564 (by decide +kernel) (by decide +kernel)
set_option maxRecDepth 100000 in
theorem w_565 : Cond.code ({ cls := "LoveParts$Realm", name := "passMonth", desc := "()V" } : MethodName) prog_8_method_11_code (3 : Nat) (Option.none : Option ClassFile.FieldType) ∈ gw := gw_at 565 rfl (by decide +kernel)
theorem w_566 : Cond.methodLink "LoveParts$Realm" (113 : Nat) ({ cls := "LoveParts$Realm", name := "allowedBy", desc := "(I)I" } : MethodName) ∈ gw := gw_at 566 (by decide +kernel) (by decide +kernel)
theorem w_567 : Cond.instanceMethod ({ cls := "LoveParts$Realm", name := "allowedBy", desc := "(I)I" } : MethodName) ∈ gw := gw_at 567 (by decide +kernel) (by decide +kernel)
theorem w_568 : Cond.selects "LoveParts$Realm" ({ cls := "LoveParts$Realm", name := "allowedBy", desc := "(I)I" } : MethodName) ({ cls := "LoveParts$Realm", name := "allowedBy", desc := "(I)I" } : MethodName) ∈ gw := gw_at 568 (by decide +kernel) (by decide +kernel)
set_option maxRecDepth 100000 in
theorem w_569 : Cond.code ({ cls := "LoveParts$Realm", name := "allowedBy", desc := "(I)I" } : MethodName) prog_8_method_10_code (4 : Nat) (Option.some FieldType.int) ∈ gw := gw_at 569 rfl (by decide +kernel)
theorem w_570 : Cond.methodLink "LoveParts$Realm" (104 : Nat) ({ cls := "java/lang/Math", name := "max", desc := "(II)I" } : MethodName) ∈ gw := gw_at 570 (by decide +kernel) (by decide +kernel)
theorem w_571 : Cond.static ({ cls := "java/lang/Math", name := "max", desc := "(II)I" } : MethodName) ∈ gw := gw_at 571 (by decide +kernel) (by decide +kernel)
set_option maxRecDepth 100000 in
theorem w_572 : Cond.code ({ cls := "java/lang/Math", name := "max", desc := "(II)I" } : MethodName) prog_15_method_65_code (2 : Nat) (Option.some FieldType.int) ∈ gw := gw_at 572 rfl (by decide +kernel)
theorem w_573 : Cond.methodLink "LovePartsLaw" (65 : Nat) ({ cls := "LoveParts", name := "letter", desc := "(II)I" } : MethodName) ∈ gw := gw_at 573 (by decide +kernel) (by decide +kernel)
theorem w_574 : Cond.instanceMethod ({ cls := "LoveParts", name := "letter", desc := "(II)I" } : MethodName) ∈ gw := gw_at 574 (by decide +kernel) (by decide +kernel)
theorem w_575 : Cond.selects "LoveParts" ({ cls := "LoveParts", name := "letter", desc := "(II)I" } : MethodName) ({ cls := "LoveParts", name := "letter", desc := "(II)I" } : MethodName) ∈ gw := gw_at 575 (by decide +kernel) (by decide +kernel)
set_option maxRecDepth 100000 in
theorem w_576 : Cond.code ({ cls := "LoveParts", name := "letter", desc := "(II)I" } : MethodName) prog_1_method_14_code (4 : Nat) (Option.some FieldType.int) ∈ gw := gw_at 576 rfl (by decide +kernel)
theorem w_577 : Cond.methodLink "LoveParts" (222 : Nat) ({ cls := "LoveParts$Realm", name := "allowedBy", desc := "(I)I" } : MethodName) ∈ gw := gw_at 577 (by decide +kernel) (by decide +kernel)
theorem w_578 : Cond.methodLink "LovePartsLaw" (70 : Nat) ({ cls := "LoveParts", name := "heir", desc := "(II)I" } : MethodName) ∈ gw := gw_at 578 (by decide +kernel) (by decide +kernel)
theorem w_579 : Cond.instanceMethod ({ cls := "LoveParts", name := "heir", desc := "(II)I" } : MethodName) ∈ gw := gw_at 579 (by decide +kernel) (by decide +kernel)
theorem w_580 : Cond.selects "LoveParts" ({ cls := "LoveParts", name := "heir", desc := "(II)I" } : MethodName) ({ cls := "LoveParts", name := "heir", desc := "(II)I" } : MethodName) ∈ gw := gw_at 580 (by decide +kernel) (by decide +kernel)
set_option maxRecDepth 100000 in
theorem w_581 : Cond.code ({ cls := "LoveParts", name := "heir", desc := "(II)I" } : MethodName) prog_1_method_15_code (4 : Nat) (Option.some FieldType.int) ∈ gw := gw_at 581 rfl (by decide +kernel)
theorem w_582 : Cond.methodLink "LoveParts" (240 : Nat) ({ cls := "LoveParts$Realm", name := "says", desc := "(I)I" } : MethodName) ∈ gw := gw_at 582 (by decide +kernel) (by decide +kernel)
theorem w_583 : Cond.methodLink "LovePartsLaw" (74 : Nat) ({ cls := "LoveParts", name := "king", desc := "(I)I" } : MethodName) ∈ gw := gw_at 583 (by decide +kernel) (by decide +kernel)
theorem w_584 : Cond.instanceMethod ({ cls := "LoveParts", name := "king", desc := "(I)I" } : MethodName) ∈ gw := gw_at 584 (by decide +kernel) (by decide +kernel)
theorem w_585 : Cond.selects "LoveParts" ({ cls := "LoveParts", name := "king", desc := "(I)I" } : MethodName) ({ cls := "LoveParts", name := "king", desc := "(I)I" } : MethodName) ∈ gw := gw_at 585 (by decide +kernel) (by decide +kernel)
set_option maxRecDepth 100000 in
theorem w_586 : Cond.code ({ cls := "LoveParts", name := "king", desc := "(I)I" } : MethodName) prog_1_method_16_code (2 : Nat) (Option.some FieldType.int) ∈ gw := gw_at 586 rfl (by decide +kernel)
theorem w_587 : Cond.methodLink "LovePartsLaw" (78 : Nat) ({ cls := "LoveParts", name := "share", desc := "(II)I" } : MethodName) ∈ gw := gw_at 587 (by decide +kernel) (by decide +kernel)
theorem w_588 : Cond.instanceMethod ({ cls := "LoveParts", name := "share", desc := "(II)I" } : MethodName) ∈ gw := gw_at 588 (by decide +kernel) (by decide +kernel)
theorem w_589 : Cond.selects "LoveParts" ({ cls := "LoveParts", name := "share", desc := "(II)I" } : MethodName) ({ cls := "LoveParts", name := "share", desc := "(II)I" } : MethodName) ∈ gw := gw_at 589 (by decide +kernel) (by decide +kernel)
set_option maxRecDepth 100000 in
theorem w_590 : Cond.code ({ cls := "LoveParts", name := "share", desc := "(II)I" } : MethodName) prog_1_method_17_code (3 : Nat) (Option.some FieldType.int) ∈ gw := gw_at 590 rfl (by decide +kernel)
theorem w_591 : Cond.methodLink "LovePartsLaw" (82 : Nat) ({ cls := "LoveParts", name := "best", desc := "(II)I" } : MethodName) ∈ gw := gw_at 591 (by decide +kernel) (by decide +kernel)
theorem w_592 : Cond.instanceMethod ({ cls := "LoveParts", name := "best", desc := "(II)I" } : MethodName) ∈ gw := gw_at 592 (by decide +kernel) (by decide +kernel)
theorem w_593 : Cond.selects "LoveParts" ({ cls := "LoveParts", name := "best", desc := "(II)I" } : MethodName) ({ cls := "LoveParts", name := "best", desc := "(II)I" } : MethodName) ∈ gw := gw_at 593 (by decide +kernel) (by decide +kernel)
set_option maxRecDepth 100000 in
theorem w_594 : Cond.code ({ cls := "LoveParts", name := "best", desc := "(II)I" } : MethodName) prog_1_method_18_code (4 : Nat) (Option.some FieldType.int) ∈ gw := gw_at 594 rfl (by decide +kernel)
theorem w_595 : Cond.methodLink "LoveParts" (255 : Nat) ({ cls := "LoveParts", name := "bestSpeech", desc := "(I)I" } : MethodName) ∈ gw := gw_at 595 (by decide +kernel) (by decide +kernel)
theorem w_597 : Cond.instanceMethod ({ cls := "LoveParts", name := "bestSpeech", desc := "(I)I" } : MethodName) ∈ gw := gw_at 597 (by decide +kernel) (by decide +kernel)
set_option maxRecDepth 100000 in
theorem w_598 : Cond.code ({ cls := "LoveParts", name := "bestSpeech", desc := "(I)I" } : MethodName) prog_1_method_49_code (9 : Nat) (Option.some FieldType.int) ∈ gw := gw_at 598 rfl (by decide +kernel)
theorem w_599 : Cond.methodLink "LoveParts" (337 : Nat) ({ cls := "LoveParts$Realm", name := "weigh", desc := "(I[I)V" } : MethodName) ∈ gw := gw_at 599 (by decide +kernel) (by decide +kernel)
theorem w_600 : Cond.methodLink "LoveParts" (340 : Nat) ({ cls := "LoveParts$Realm", name := "cut", desc := "([I[I)V" } : MethodName) ∈ gw := gw_at 600 (by decide +kernel) (by decide +kernel)
theorem w_601 : Cond.methodLink "LoveParts" (258 : Nat) ({ cls := "LoveParts", name := "gainBySpeech", desc := "(II)I" } : MethodName) ∈ gw := gw_at 601 (by decide +kernel) (by decide +kernel)
theorem w_603 : Cond.instanceMethod ({ cls := "LoveParts", name := "gainBySpeech", desc := "(II)I" } : MethodName) ∈ gw := gw_at 603 (by decide +kernel) (by decide +kernel)
set_option maxRecDepth 100000 in
theorem w_604 : Cond.code ({ cls := "LoveParts", name := "gainBySpeech", desc := "(II)I" } : MethodName) prog_1_method_48_code (4 : Nat) (Option.some FieldType.int) ∈ gw := gw_at 604 rfl (by decide +kernel)
theorem w_605 : Cond.methodLink "LovePartsLaw" (86 : Nat) ({ cls := "LoveParts", name := "rather", desc := "()I" } : MethodName) ∈ gw := gw_at 605 (by decide +kernel) (by decide +kernel)
theorem w_606 : Cond.instanceMethod ({ cls := "LoveParts", name := "rather", desc := "()I" } : MethodName) ∈ gw := gw_at 606 (by decide +kernel) (by decide +kernel)
theorem w_607 : Cond.selects "LoveParts" ({ cls := "LoveParts", name := "rather", desc := "()I" } : MethodName) ({ cls := "LoveParts", name := "rather", desc := "()I" } : MethodName) ∈ gw := gw_at 607 (by decide +kernel) (by decide +kernel)
set_option maxRecDepth 100000 in
theorem w_608 : Cond.code ({ cls := "LoveParts", name := "rather", desc := "()I" } : MethodName) prog_1_method_19_code (3 : Nat) (Option.some FieldType.int) ∈ gw := gw_at 608 rfl (by decide +kernel)
theorem w_609 : Cond.methodLink "LoveParts" (261 : Nat) ({ cls := "LoveParts", name := "gainNow", desc := "(I)I" } : MethodName) ∈ gw := gw_at 609 (by decide +kernel) (by decide +kernel)
theorem w_611 : Cond.instanceMethod ({ cls := "LoveParts", name := "gainNow", desc := "(I)I" } : MethodName) ∈ gw := gw_at 611 (by decide +kernel) (by decide +kernel)
set_option maxRecDepth 100000 in
theorem w_612 : Cond.code ({ cls := "LoveParts", name := "gainNow", desc := "(I)I" } : MethodName) prog_1_method_47_code (2 : Nat) (Option.some FieldType.int) ∈ gw := gw_at 612 rfl (by decide +kernel)
theorem w_613 : Cond.methodLink "LovePartsLaw" (90 : Nat) ({ cls := "LoveParts", name := "trueRule", desc := "()I" } : MethodName) ∈ gw := gw_at 613 (by decide +kernel) (by decide +kernel)
theorem w_614 : Cond.instanceMethod ({ cls := "LoveParts", name := "trueRule", desc := "()I" } : MethodName) ∈ gw := gw_at 614 (by decide +kernel) (by decide +kernel)
theorem w_615 : Cond.selects "LoveParts" ({ cls := "LoveParts", name := "trueRule", desc := "()I" } : MethodName) ({ cls := "LoveParts", name := "trueRule", desc := "()I" } : MethodName) ∈ gw := gw_at 615 (by decide +kernel) (by decide +kernel)
set_option maxRecDepth 100000 in
theorem w_616 : Cond.code ({ cls := "LoveParts", name := "trueRule", desc := "()I" } : MethodName) prog_1_method_20_code (3 : Nat) (Option.some FieldType.int) ∈ gw := gw_at 616 rfl (by decide +kernel)
theorem w_617 : Cond.methodLink "LoveParts" (264 : Nat) ({ cls := "LoveParts", name := "truestHeir", desc := "()I" } : MethodName) ∈ gw := gw_at 617 (by decide +kernel) (by decide +kernel)
theorem w_619 : Cond.instanceMethod ({ cls := "LoveParts", name := "truestHeir", desc := "()I" } : MethodName) ∈ gw := gw_at 619 (by decide +kernel) (by decide +kernel)
set_option maxRecDepth 100000 in
theorem w_620 : Cond.code ({ cls := "LoveParts", name := "truestHeir", desc := "()I" } : MethodName) prog_1_method_50_code (3 : Nat) (Option.some FieldType.int) ∈ gw := gw_at 620 rfl (by decide +kernel)
theorem w_621 : Cond.methodLink "LoveParts" (268 : Nat) ({ cls := "LoveParts", name := "truestGetsMost", desc := "(II)Z" } : MethodName) ∈ gw := gw_at 621 (by decide +kernel) (by decide +kernel)
theorem w_623 : Cond.instanceMethod ({ cls := "LoveParts", name := "truestGetsMost", desc := "(II)Z" } : MethodName) ∈ gw := gw_at 623 (by decide +kernel) (by decide +kernel)
set_option maxRecDepth 100000 in
theorem w_624 : Cond.code ({ cls := "LoveParts", name := "truestGetsMost", desc := "(II)Z" } : MethodName) prog_1_method_51_code (5 : Nat) (Option.some FieldType.boolean) ∈ gw := gw_at 624 rfl (by decide +kernel)
theorem w_625 : Cond.constant "LoveParts" (271 : Nat) (-1000000 : Int32) ∈ gw := gw_at 625 (by decide +kernel) (by decide +kernel)
theorem w_626 : Cond.methodLink "LovePartsLaw" (94 : Nat) ({ cls := "LoveParts", name := "order", desc := "(II)I" } : MethodName) ∈ gw := gw_at 626 (by decide +kernel) (by decide +kernel)
theorem w_627 : Cond.instanceMethod ({ cls := "LoveParts", name := "order", desc := "(II)I" } : MethodName) ∈ gw := gw_at 627 (by decide +kernel) (by decide +kernel)
theorem w_628 : Cond.selects "LoveParts" ({ cls := "LoveParts", name := "order", desc := "(II)I" } : MethodName) ({ cls := "LoveParts", name := "order", desc := "(II)I" } : MethodName) ∈ gw := gw_at 628 (by decide +kernel) (by decide +kernel)
set_option maxRecDepth 100000 in
theorem w_629 : Cond.code ({ cls := "LoveParts", name := "order", desc := "(II)I" } : MethodName) prog_1_method_21_code (4 : Nat) (Option.some FieldType.int) ∈ gw := gw_at 629 rfl (by decide +kernel)
theorem w_630 : Cond.methodLink "LoveParts" (272 : Nat) ({ cls := "LoveParts", name := "findBestHosts", desc := "(I)I" } : MethodName) ∈ gw := gw_at 630 (by decide +kernel) (by decide +kernel)
theorem w_632 : Cond.instanceMethod ({ cls := "LoveParts", name := "findBestHosts", desc := "(I)I" } : MethodName) ∈ gw := gw_at 632 (by decide +kernel) (by decide +kernel)
set_option maxRecDepth 100000 in
theorem w_633 : Cond.code ({ cls := "LoveParts", name := "findBestHosts", desc := "(I)I" } : MethodName) prog_1_method_52_code (6 : Nat) (Option.some FieldType.int) ∈ gw := gw_at 633 rfl (by decide +kernel)
theorem w_634 : Cond.methodLink "LoveParts" (344 : Nat) ({ cls := "LoveParts", name := "isOrder", desc := "(I)Z" } : MethodName) ∈ gw := gw_at 634 (by decide +kernel) (by decide +kernel)
theorem w_636 : Cond.instanceMethod ({ cls := "LoveParts", name := "isOrder", desc := "(I)Z" } : MethodName) ∈ gw := gw_at 636 (by decide +kernel) (by decide +kernel)
set_option maxRecDepth 100000 in
theorem w_637 : Cond.code ({ cls := "LoveParts", name := "isOrder", desc := "(I)Z" } : MethodName) prog_1_method_53_code (5 : Nat) (Option.some FieldType.boolean) ∈ gw := gw_at 637 rfl (by decide +kernel)
theorem w_638 : Cond.methodLink "LoveParts" (347 : Nat) ({ cls := "LoveParts", name := "knightsByHosts", desc := "(I)I" } : MethodName) ∈ gw := gw_at 638 (by decide +kernel) (by decide +kernel)
theorem w_640 : Cond.instanceMethod ({ cls := "LoveParts", name := "knightsByHosts", desc := "(I)I" } : MethodName) ∈ gw := gw_at 640 (by decide +kernel) (by decide +kernel)
set_option maxRecDepth 100000 in
theorem w_641 : Cond.code ({ cls := "LoveParts", name := "knightsByHosts", desc := "(I)I" } : MethodName) prog_1_method_54_code (3 : Nat) (Option.some FieldType.int) ∈ gw := gw_at 641 rfl (by decide +kernel)
theorem w_642 : Cond.methodLink "LovePartsLaw" (98 : Nat) ({ cls := "LoveParts", name := "ahead", desc := "(II)I" } : MethodName) ∈ gw := gw_at 642 (by decide +kernel) (by decide +kernel)
theorem w_643 : Cond.instanceMethod ({ cls := "LoveParts", name := "ahead", desc := "(II)I" } : MethodName) ∈ gw := gw_at 643 (by decide +kernel) (by decide +kernel)
theorem w_644 : Cond.selects "LoveParts" ({ cls := "LoveParts", name := "ahead", desc := "(II)I" } : MethodName) ({ cls := "LoveParts", name := "ahead", desc := "(II)I" } : MethodName) ∈ gw := gw_at 644 (by decide +kernel) (by decide +kernel)
set_option maxRecDepth 100000 in
theorem w_645 : Cond.code ({ cls := "LoveParts", name := "ahead", desc := "(II)I" } : MethodName) prog_1_method_22_code (4 : Nat) (Option.some FieldType.int) ∈ gw := gw_at 645 rfl (by decide +kernel)
theorem w_646 : Cond.methodLink "LoveParts" (275 : Nat) ({ cls := "LoveParts$Realm", name := "brokenByAll", desc := "()I" } : MethodName) ∈ gw := gw_at 646 (by decide +kernel) (by decide +kernel)
theorem w_647 : Cond.instanceMethod ({ cls := "LoveParts$Realm", name := "brokenByAll", desc := "()I" } : MethodName) ∈ gw := gw_at 647 (by decide +kernel) (by decide +kernel)
theorem w_648 : Cond.selects "LoveParts$Realm" ({ cls := "LoveParts$Realm", name := "brokenByAll", desc := "()I" } : MethodName) ({ cls := "LoveParts$Realm", name := "brokenByAll", desc := "()I" } : MethodName) ∈ gw := gw_at 648 (by decide +kernel) (by decide +kernel)
set_option maxRecDepth 100000 in
theorem w_649 : Cond.code ({ cls := "LoveParts$Realm", name := "brokenByAll", desc := "()I" } : MethodName) prog_8_method_12_code (3 : Nat) (Option.some FieldType.int) ∈ gw := gw_at 649 rfl (by decide +kernel)
theorem w_650 : Cond.methodLink "LovePartsLaw" (102 : Nat) ({ cls := "LoveParts", name := "down", desc := "(I)I" } : MethodName) ∈ gw := gw_at 650 (by decide +kernel) (by decide +kernel)
theorem w_651 : Cond.instanceMethod ({ cls := "LoveParts", name := "down", desc := "(I)I" } : MethodName) ∈ gw := gw_at 651 (by decide +kernel) (by decide +kernel)
theorem w_652 : Cond.selects "LoveParts" ({ cls := "LoveParts", name := "down", desc := "(I)I" } : MethodName) ({ cls := "LoveParts", name := "down", desc := "(I)I" } : MethodName) ∈ gw := gw_at 652 (by decide +kernel) (by decide +kernel)
set_option maxRecDepth 100000 in
theorem w_653 : Cond.code ({ cls := "LoveParts", name := "down", desc := "(I)I" } : MethodName) prog_1_method_23_code (3 : Nat) (Option.some FieldType.int) ∈ gw := gw_at 653 rfl (by decide +kernel)
theorem w_654 : Cond.methodLink "LovePartsLaw" (106 : Nat) ({ cls := "LoveParts", name := "loves", desc := "(IIIII)I" } : MethodName) ∈ gw := gw_at 654 (by decide +kernel) (by decide +kernel)
theorem w_655 : Cond.instanceMethod ({ cls := "LoveParts", name := "loves", desc := "(IIIII)I" } : MethodName) ∈ gw := gw_at 655 (by decide +kernel) (by decide +kernel)
theorem w_656 : Cond.selects "LoveParts" ({ cls := "LoveParts", name := "loves", desc := "(IIIII)I" } : MethodName) ({ cls := "LoveParts", name := "loves", desc := "(IIIII)I" } : MethodName) ∈ gw := gw_at 656 (by decide +kernel) (by decide +kernel)
set_option maxRecDepth 100000 in
theorem w_657 : Cond.code ({ cls := "LoveParts", name := "loves", desc := "(IIIII)I" } : MethodName) prog_1_method_24_code (10 : Nat) (Option.some FieldType.int) ∈ gw := gw_at 657 rfl (by decide +kernel)
theorem w_658 : Cond.methodLink "LoveParts" (278 : Nat) ({ cls := "LoveParts", name := "knightsGoAs", desc := "(LLoveParts$Row;II)Z" } : MethodName) ∈ gw := gw_at 658 (by decide +kernel) (by decide +kernel)
theorem w_660 : Cond.instanceMethod ({ cls := "LoveParts", name := "knightsGoAs", desc := "(LLoveParts$Row;II)Z" } : MethodName) ∈ gw := gw_at 660 (by decide +kernel) (by decide +kernel)
set_option maxRecDepth 100000 in
theorem w_661 : Cond.code ({ cls := "LoveParts", name := "knightsGoAs", desc := "(LLoveParts$Row;II)Z" } : MethodName) prog_1_method_55_code (5 : Nat) (Option.some FieldType.boolean) ∈ gw := gw_at 661 rfl (by decide +kernel)
theorem w_662 : Cond.methodLink "LovePartsLaw" (110 : Nat) ({ cls := "LoveParts", name := "map", desc := "(II)I" } : MethodName) ∈ gw := gw_at 662 (by decide +kernel) (by decide +kernel)
theorem w_663 : Cond.instanceMethod ({ cls := "LoveParts", name := "map", desc := "(II)I" } : MethodName) ∈ gw := gw_at 663 (by decide +kernel) (by decide +kernel)
theorem w_664 : Cond.selects "LoveParts" ({ cls := "LoveParts", name := "map", desc := "(II)I" } : MethodName) ({ cls := "LoveParts", name := "map", desc := "(II)I" } : MethodName) ∈ gw := gw_at 664 (by decide +kernel) (by decide +kernel)
set_option maxRecDepth 100000 in
theorem w_665 : Cond.code ({ cls := "LoveParts", name := "map", desc := "(II)I" } : MethodName) prog_1_method_25_code (6 : Nat) (Option.some FieldType.int) ∈ gw := gw_at 665 rfl (by decide +kernel)
theorem w_666 : Cond.methodLink "LoveParts" (282 : Nat) ({ cls := "LoveParts$Row", name := "tells", desc := "(I[II)Z" } : MethodName) ∈ gw := gw_at 666 (by decide +kernel) (by decide +kernel)
theorem w_667 : Cond.instanceMethod ({ cls := "LoveParts$Row", name := "tells", desc := "(I[II)Z" } : MethodName) ∈ gw := gw_at 667 (by decide +kernel) (by decide +kernel)
theorem w_668 : Cond.selects "LoveParts$Row" ({ cls := "LoveParts$Row", name := "tells", desc := "(I[II)Z" } : MethodName) ({ cls := "LoveParts$Row", name := "tells", desc := "(I[II)Z" } : MethodName) ∈ gw := gw_at 668 (by decide +kernel) (by decide +kernel)
set_option maxRecDepth 100000 in
theorem w_669 : Cond.code ({ cls := "LoveParts$Row", name := "tells", desc := "(I[II)Z" } : MethodName) prog_9_method_7_code (5 : Nat) (Option.some FieldType.boolean) ∈ gw := gw_at 669 rfl (by decide +kernel)
theorem w_670 : Cond.methodLink "LovePartsLaw" (114 : Nat) ({ cls := "LoveParts", name := "who", desc := "(III)I" } : MethodName) ∈ gw := gw_at 670 (by decide +kernel) (by decide +kernel)
theorem w_671 : Cond.instanceMethod ({ cls := "LoveParts", name := "who", desc := "(III)I" } : MethodName) ∈ gw := gw_at 671 (by decide +kernel) (by decide +kernel)
theorem w_672 : Cond.selects "LoveParts" ({ cls := "LoveParts", name := "who", desc := "(III)I" } : MethodName) ({ cls := "LoveParts", name := "who", desc := "(III)I" } : MethodName) ∈ gw := gw_at 672 (by decide +kernel) (by decide +kernel)
set_option maxRecDepth 100000 in
theorem w_673 : Cond.code ({ cls := "LoveParts", name := "who", desc := "(III)I" } : MethodName) prog_1_method_26_code (7 : Nat) (Option.some FieldType.int) ∈ gw := gw_at 673 rfl (by decide +kernel)
theorem w_674 : Cond.methodLink "LovePartsLaw" (118 : Nat) ({ cls := "LoveParts", name := "odds", desc := "(III)J" } : MethodName) ∈ gw := gw_at 674 (by decide +kernel) (by decide +kernel)
theorem w_675 : Cond.instanceMethod ({ cls := "LoveParts", name := "odds", desc := "(III)J" } : MethodName) ∈ gw := gw_at 675 (by decide +kernel) (by decide +kernel)
theorem w_676 : Cond.selects "LoveParts" ({ cls := "LoveParts", name := "odds", desc := "(III)J" } : MethodName) ({ cls := "LoveParts", name := "odds", desc := "(III)J" } : MethodName) ∈ gw := gw_at 676 (by decide +kernel) (by decide +kernel)
set_option maxRecDepth 100000 in
theorem w_677 : Cond.code ({ cls := "LoveParts", name := "odds", desc := "(III)J" } : MethodName) prog_1_method_27_code (10 : Nat) (Option.some FieldType.long) ∈ gw := gw_at 677 rfl (by decide +kernel)
theorem w_678 : Cond.constantLong "LoveParts" (290 : Nat) (-1000001 : Int64) ∈ gw := gw_at 678 (by decide +kernel) (by decide +kernel)
theorem w_679 : Cond.methodLink "LoveParts" (292 : Nat) ({ cls := "LoveParts", name := "casesOf", desc := "(II)I" } : MethodName) ∈ gw := gw_at 679 (by decide +kernel) (by decide +kernel)
theorem w_681 : Cond.instanceMethod ({ cls := "LoveParts", name := "casesOf", desc := "(II)I" } : MethodName) ∈ gw := gw_at 681 (by decide +kernel) (by decide +kernel)
set_option maxRecDepth 100000 in
theorem w_682 : Cond.code ({ cls := "LoveParts", name := "casesOf", desc := "(II)I" } : MethodName) prog_1_method_56_code (6 : Nat) (Option.some FieldType.int) ∈ gw := gw_at 682 rfl (by decide +kernel)
theorem w_683 : Cond.methodLink "LoveParts" (295 : Nat) ({ cls := "LoveParts", name := "greatestWithLiars", desc := "(I)I" } : MethodName) ∈ gw := gw_at 683 (by decide +kernel) (by decide +kernel)
theorem w_685 : Cond.instanceMethod ({ cls := "LoveParts", name := "greatestWithLiars", desc := "(I)I" } : MethodName) ∈ gw := gw_at 685 (by decide +kernel) (by decide +kernel)
set_option maxRecDepth 100000 in
theorem w_686 : Cond.code ({ cls := "LoveParts", name := "greatestWithLiars", desc := "(I)I" } : MethodName) prog_1_method_57_code (3 : Nat) (Option.some FieldType.int) ∈ gw := gw_at 686 rfl (by decide +kernel)
theorem w_687 : Cond.constantLong "LoveParts" (298 : Nat) (10 : Int64) ∈ gw := gw_at 687 (by decide +kernel) (by decide +kernel)
theorem w_688 : Cond.methodLink "LoveParts" (300 : Nat) ({ cls := "LoveParts", name := "commonDivisor", desc := "(JJ)J" } : MethodName) ∈ gw := gw_at 688 (by decide +kernel) (by decide +kernel)
theorem w_689 : Cond.static ({ cls := "LoveParts", name := "commonDivisor", desc := "(JJ)J" } : MethodName) ∈ gw := gw_at 689 (by decide +kernel) (by decide +kernel)
set_option maxRecDepth 100000 in
theorem w_690 : Cond.code ({ cls := "LoveParts", name := "commonDivisor", desc := "(JJ)J" } : MethodName) prog_1_method_58_code (11 : Nat) (Option.some FieldType.long) ∈ gw := gw_at 690 rfl (by decide +kernel)
theorem w_691 : Cond.methodLink "LoveParts" (304 : Nat) ({ cls := "java/lang/Math", name := "max", desc := "(JJ)J" } : MethodName) ∈ gw := gw_at 691 (by decide +kernel) (by decide +kernel)
theorem w_692 : Cond.static ({ cls := "java/lang/Math", name := "max", desc := "(JJ)J" } : MethodName) ∈ gw := gw_at 692 (by decide +kernel) (by decide +kernel)
set_option maxRecDepth 100000 in
theorem w_693 : Cond.code ({ cls := "java/lang/Math", name := "max", desc := "(JJ)J" } : MethodName) prog_15_method_66_code (4 : Nat) (Option.some FieldType.long) ∈ gw := gw_at 693 rfl (by decide +kernel)
theorem w_694 : Cond.methodLink "LovePartsLaw" (123 : Nat) ({ cls := "LoveParts", name := "drawn", desc := "(III)I" } : MethodName) ∈ gw := gw_at 694 (by decide +kernel) (by decide +kernel)
theorem w_695 : Cond.instanceMethod ({ cls := "LoveParts", name := "drawn", desc := "(III)I" } : MethodName) ∈ gw := gw_at 695 (by decide +kernel) (by decide +kernel)
theorem w_696 : Cond.selects "LoveParts" ({ cls := "LoveParts", name := "drawn", desc := "(III)I" } : MethodName) ({ cls := "LoveParts", name := "drawn", desc := "(III)I" } : MethodName) ∈ gw := gw_at 696 (by decide +kernel) (by decide +kernel)
set_option maxRecDepth 100000 in
theorem w_697 : Cond.code ({ cls := "LoveParts", name := "drawn", desc := "(III)I" } : MethodName) prog_1_method_28_code (7 : Nat) (Option.some FieldType.int) ∈ gw := gw_at 697 rfl (by decide +kernel)
theorem w_698 : Cond.constant "LoveParts" (307 : Nat) (999999 : Int32) ∈ gw := gw_at 698 (by decide +kernel) (by decide +kernel)
theorem w_699 : Cond.constantLong "LoveParts" (308 : Nat) (16807 : Int64) ∈ gw := gw_at 699 (by decide +kernel) (by decide +kernel)
theorem w_700 : Cond.constantLong "LoveParts" (310 : Nat) (2147483647 : Int64) ∈ gw := gw_at 700 (by decide +kernel) (by decide +kernel)
theorem w_701 : Cond.methodLink "LovePartsLaw" (127 : Nat) ({ cls := "LoveParts", name := "image", desc := "(I)I" } : MethodName) ∈ gw := gw_at 701 (by decide +kernel) (by decide +kernel)
theorem w_702 : Cond.instanceMethod ({ cls := "LoveParts", name := "image", desc := "(I)I" } : MethodName) ∈ gw := gw_at 702 (by decide +kernel) (by decide +kernel)
theorem w_703 : Cond.selects "LoveParts" ({ cls := "LoveParts", name := "image", desc := "(I)I" } : MethodName) ({ cls := "LoveParts", name := "image", desc := "(I)I" } : MethodName) ∈ gw := gw_at 703 (by decide +kernel) (by decide +kernel)
set_option maxRecDepth 100000 in
theorem w_704 : Cond.code ({ cls := "LoveParts", name := "image", desc := "(I)I" } : MethodName) prog_1_method_29_code (2 : Nat) (Option.some FieldType.int) ∈ gw := gw_at 704 rfl (by decide +kernel)
theorem w_705 : Cond.methodLink "LovePartsLaw" (131 : Nat) ({ cls := "LoveParts", name := "restore", desc := "(I)I" } : MethodName) ∈ gw := gw_at 705 (by decide +kernel) (by decide +kernel)
theorem w_706 : Cond.instanceMethod ({ cls := "LoveParts", name := "restore", desc := "(I)I" } : MethodName) ∈ gw := gw_at 706 (by decide +kernel) (by decide +kernel)
theorem w_707 : Cond.selects "LoveParts" ({ cls := "LoveParts", name := "restore", desc := "(I)I" } : MethodName) ({ cls := "LoveParts", name := "restore", desc := "(I)I" } : MethodName) ∈ gw := gw_at 707 (by decide +kernel) (by decide +kernel)
set_option maxRecDepth 100000 in
theorem w_708 : Cond.code ({ cls := "LoveParts", name := "restore", desc := "(I)I" } : MethodName) prog_1_method_30_code (2 : Nat) (Option.some FieldType.int) ∈ gw := gw_at 708 rfl (by decide +kernel)
theorem w_709 : Cond.methodLink "LovePartsLaw" (135 : Nat) ({ cls := "LoveParts", name := "kind", desc := "(I)I" } : MethodName) ∈ gw := gw_at 709 (by decide +kernel) (by decide +kernel)
theorem w_710 : Cond.instanceMethod ({ cls := "LoveParts", name := "kind", desc := "(I)I" } : MethodName) ∈ gw := gw_at 710 (by decide +kernel) (by decide +kernel)
theorem w_711 : Cond.selects "LoveParts" ({ cls := "LoveParts", name := "kind", desc := "(I)I" } : MethodName) ({ cls := "LoveParts", name := "kind", desc := "(I)I" } : MethodName) ∈ gw := gw_at 711 (by decide +kernel) (by decide +kernel)
set_option maxRecDepth 100000 in
theorem w_712 : Cond.code ({ cls := "LoveParts", name := "kind", desc := "(I)I" } : MethodName) prog_1_method_31_code (2 : Nat) (Option.some FieldType.int) ∈ gw := gw_at 712 rfl (by decide +kernel)
theorem w_713 : Cond.methodLink "LoveParts" (312 : Nat) ({ cls := "LoveParts$Nature", name := "number", desc := "()I" } : MethodName) ∈ gw := gw_at 713 (by decide +kernel) (by decide +kernel)
theorem w_715 : Cond.sameMethod "LoveParts$Nature" "LoveParts$Nature" "number" "()I" ∈ gw := gw_at 715 (by decide +kernel) (by decide +kernel)
theorem w_716 : Cond.selects "LoveParts$Ironic" ({ cls := "LoveParts$Nature", name := "number", desc := "()I" } : MethodName) ({ cls := "LoveParts$Ironic", name := "number", desc := "()I" } : MethodName) ∈ gw := gw_at 716 (by decide +kernel) (by decide +kernel)
theorem w_717 : Cond.instanceMethod ({ cls := "LoveParts$Ironic", name := "number", desc := "()I" } : MethodName) ∈ gw := gw_at 717 (by decide +kernel) (by decide +kernel)
set_option maxRecDepth 100000 in
theorem w_718 : Cond.code ({ cls := "LoveParts$Ironic", name := "number", desc := "()I" } : MethodName) prog_3_method_2_code (1 : Nat) (Option.some FieldType.int) ∈ gw := gw_at 718 rfl (by decide +kernel)
theorem w_719 : Cond.selects "LoveParts$Joint" ({ cls := "LoveParts$Nature", name := "number", desc := "()I" } : MethodName) ({ cls := "LoveParts$Joint", name := "number", desc := "()I" } : MethodName) ∈ gw := gw_at 719 (by decide +kernel) (by decide +kernel)
theorem w_720 : Cond.instanceMethod ({ cls := "LoveParts$Joint", name := "number", desc := "()I" } : MethodName) ∈ gw := gw_at 720 (by decide +kernel) (by decide +kernel)
set_option maxRecDepth 100000 in
theorem w_721 : Cond.code ({ cls := "LoveParts$Joint", name := "number", desc := "()I" } : MethodName) prog_4_method_2_code (1 : Nat) (Option.some FieldType.int) ∈ gw := gw_at 721 rfl (by decide +kernel)
theorem w_722 : Cond.selects "LoveParts$Plain" ({ cls := "LoveParts$Nature", name := "number", desc := "()I" } : MethodName) ({ cls := "LoveParts$Plain", name := "number", desc := "()I" } : MethodName) ∈ gw := gw_at 722 (by decide +kernel) (by decide +kernel)
theorem w_723 : Cond.instanceMethod ({ cls := "LoveParts$Plain", name := "number", desc := "()I" } : MethodName) ∈ gw := gw_at 723 (by decide +kernel) (by decide +kernel)
set_option maxRecDepth 100000 in
theorem w_724 : Cond.code ({ cls := "LoveParts$Plain", name := "number", desc := "()I" } : MethodName) prog_6_method_2_code (1 : Nat) (Option.some FieldType.int) ∈ gw := gw_at 724 rfl (by decide +kernel)
theorem w_725 : Cond.selects "LoveParts$Schooled" ({ cls := "LoveParts$Nature", name := "number", desc := "()I" } : MethodName) ({ cls := "LoveParts$Schooled", name := "number", desc := "()I" } : MethodName) ∈ gw := gw_at 725 (by decide +kernel) (by decide +kernel)
theorem w_726 : Cond.instanceMethod ({ cls := "LoveParts$Schooled", name := "number", desc := "()I" } : MethodName) ∈ gw := gw_at 726 (by decide +kernel) (by decide +kernel)
set_option maxRecDepth 100000 in
theorem w_727 : Cond.code ({ cls := "LoveParts$Schooled", name := "number", desc := "()I" } : MethodName) prog_10_method_2_code (1 : Nat) (Option.some FieldType.int) ∈ gw := gw_at 727 rfl (by decide +kernel)
theorem w_728 : Cond.selects "LoveParts$Silent" ({ cls := "LoveParts$Nature", name := "number", desc := "()I" } : MethodName) ({ cls := "LoveParts$Silent", name := "number", desc := "()I" } : MethodName) ∈ gw := gw_at 728 (by decide +kernel) (by decide +kernel)
theorem w_729 : Cond.instanceMethod ({ cls := "LoveParts$Silent", name := "number", desc := "()I" } : MethodName) ∈ gw := gw_at 729 (by decide +kernel) (by decide +kernel)
set_option maxRecDepth 100000 in
theorem w_730 : Cond.code ({ cls := "LoveParts$Silent", name := "number", desc := "()I" } : MethodName) prog_11_method_2_code (1 : Nat) (Option.some FieldType.int) ∈ gw := gw_at 730 rfl (by decide +kernel)
theorem w_731 : Cond.methodLink "LovePartsLaw" (139 : Nat) ({ cls := "LoveParts", name := "as", desc := "(II)I" } : MethodName) ∈ gw := gw_at 731 (by decide +kernel) (by decide +kernel)
theorem w_732 : Cond.instanceMethod ({ cls := "LoveParts", name := "as", desc := "(II)I" } : MethodName) ∈ gw := gw_at 732 (by decide +kernel) (by decide +kernel)
theorem w_733 : Cond.selects "LoveParts" ({ cls := "LoveParts", name := "as", desc := "(II)I" } : MethodName) ({ cls := "LoveParts", name := "as", desc := "(II)I" } : MethodName) ∈ gw := gw_at 733 (by decide +kernel) (by decide +kernel)
set_option maxRecDepth 100000 in
theorem w_734 : Cond.code ({ cls := "LoveParts", name := "as", desc := "(II)I" } : MethodName) prog_1_method_32_code (3 : Nat) (Option.some FieldType.int) ∈ gw := gw_at 734 rfl (by decide +kernel)
theorem w_735 : Cond.methodLink "LoveParts" (315 : Nat) ({ cls := "LoveParts", name := "isOfKind", desc := "(LLoveParts$Nature;I)Z" } : MethodName) ∈ gw := gw_at 735 (by decide +kernel) (by decide +kernel)
theorem w_736 : Cond.static ({ cls := "LoveParts", name := "isOfKind", desc := "(LLoveParts$Nature;I)Z" } : MethodName) ∈ gw := gw_at 736 (by decide +kernel) (by decide +kernel)
set_option maxRecDepth 100000 in
theorem w_737 : Cond.code ({ cls := "LoveParts", name := "isOfKind", desc := "(LLoveParts$Nature;I)Z" } : MethodName) prog_1_method_46_code (2 : Nat) (Option.some FieldType.boolean) ∈ gw := gw_at 737 rfl (by decide +kernel)
theorem w_738 : Cond.methodLink "LovePartsLaw" (143 : Nat) ({ cls := "LoveParts", name := "ask", desc := "(II)I" } : MethodName) ∈ gw := gw_at 738 (by decide +kernel) (by decide +kernel)
theorem w_739 : Cond.instanceMethod ({ cls := "LoveParts", name := "ask", desc := "(II)I" } : MethodName) ∈ gw := gw_at 739 (by decide +kernel) (by decide +kernel)
theorem w_740 : Cond.selects "LoveParts" ({ cls := "LoveParts", name := "ask", desc := "(II)I" } : MethodName) ({ cls := "LoveParts", name := "ask", desc := "(II)I" } : MethodName) ∈ gw := gw_at 740 (by decide +kernel) (by decide +kernel)
set_option maxRecDepth 100000 in
theorem w_741 : Cond.code ({ cls := "LoveParts", name := "ask", desc := "(II)I" } : MethodName) prog_1_method_33_code (4 : Nat) (Option.some FieldType.int) ∈ gw := gw_at 741 rfl (by decide +kernel)
theorem w_742 : Cond.methodLink "LoveParts" (320 : Nat) ({ cls := "LoveParts$Nature", name := "size", desc := "(LLoveParts$Heir;LLoveParts$Trace;)I" } : MethodName) ∈ gw := gw_at 742 (by decide +kernel) (by decide +kernel)
theorem w_743 : Cond.instanceMethod ({ cls := "LoveParts$Nature", name := "size", desc := "(LLoveParts$Heir;LLoveParts$Trace;)I" } : MethodName) ∈ gw := gw_at 743 (by decide +kernel) (by decide +kernel)
theorem w_744 : Cond.sameMethod "LoveParts$Nature" "LoveParts$Nature" "size" "(LLoveParts$Heir;LLoveParts$Trace;)I" ∈ gw := gw_at 744 (by decide +kernel) (by decide +kernel)
theorem w_745 : Cond.selects "LoveParts$Ironic" ({ cls := "LoveParts$Nature", name := "size", desc := "(LLoveParts$Heir;LLoveParts$Trace;)I" } : MethodName) ({ cls := "LoveParts$Ironic", name := "size", desc := "(LLoveParts$Heir;LLoveParts$Trace;)I" } : MethodName) ∈ gw := gw_at 745 (by decide +kernel) (by decide +kernel)
theorem w_746 : Cond.instanceMethod ({ cls := "LoveParts$Ironic", name := "size", desc := "(LLoveParts$Heir;LLoveParts$Trace;)I" } : MethodName) ∈ gw := gw_at 746 (by decide +kernel) (by decide +kernel)
set_option maxRecDepth 100000 in
theorem w_747 : Cond.code ({ cls := "LoveParts$Ironic", name := "size", desc := "(LLoveParts$Heir;LLoveParts$Trace;)I" } : MethodName) prog_3_method_4_code (3 : Nat) (Option.some FieldType.int) ∈ gw := gw_at 747 rfl (by decide +kernel)
theorem w_748 : Cond.methodLink "LoveParts$Ironic" (13 : Nat) ({ cls := "LoveParts$Trace", name := "leave", desc := "(I)V" } : MethodName) ∈ gw := gw_at 748 (by decide +kernel) (by decide +kernel)
theorem w_749 : Cond.instanceMethod ({ cls := "LoveParts$Trace", name := "leave", desc := "(I)V" } : MethodName) ∈ gw := gw_at 749 (by decide +kernel) (by decide +kernel)
theorem w_750 : Cond.selects "LoveParts$Trace" ({ cls := "LoveParts$Trace", name := "leave", desc := "(I)V" } : MethodName) ({ cls := "LoveParts$Trace", name := "leave", desc := "(I)V" } : MethodName) ∈ gw := gw_at 750 (by decide +kernel) (by decide +kernel)
set_option maxRecDepth 100000 in
theorem w_751 : Cond.code ({ cls := "LoveParts$Trace", name := "leave", desc := "(I)V" } : MethodName) prog_12_method_2_code (2 : Nat) (Option.none : Option ClassFile.FieldType) ∈ gw := gw_at 751 rfl (by decide +kernel)
theorem w_752 : Cond.methodLink "LoveParts$Ironic" (19 : Nat) ({ cls := "LoveParts$Silent", name := "size", desc := "(LLoveParts$Heir;LLoveParts$Trace;)I" } : MethodName) ∈ gw := gw_at 752 (by decide +kernel) (by decide +kernel)
theorem w_753 : Cond.instanceMethod ({ cls := "LoveParts$Silent", name := "size", desc := "(LLoveParts$Heir;LLoveParts$Trace;)I" } : MethodName) ∈ gw := gw_at 753 (by decide +kernel) (by decide +kernel)
set_option maxRecDepth 100000 in
theorem w_754 : Cond.code ({ cls := "LoveParts$Silent", name := "size", desc := "(LLoveParts$Heir;LLoveParts$Trace;)I" } : MethodName) prog_11_method_4_code (3 : Nat) (Option.some FieldType.int) ∈ gw := gw_at 754 rfl (by decide +kernel)
theorem w_755 : Cond.methodLink "LoveParts$Silent" (7 : Nat) ({ cls := "LoveParts$Trace", name := "leave", desc := "(I)V" } : MethodName) ∈ gw := gw_at 755 (by decide +kernel) (by decide +kernel)
theorem w_756 : Cond.methodLink "LoveParts$Silent" (13 : Nat) ({ cls := "LoveParts$Nature", name := "size", desc := "(LLoveParts$Heir;LLoveParts$Trace;)I" } : MethodName) ∈ gw := gw_at 756 (by decide +kernel) (by decide +kernel)
theorem w_757 : Cond.selects "LoveParts$Joint" ({ cls := "LoveParts$Nature", name := "size", desc := "(LLoveParts$Heir;LLoveParts$Trace;)I" } : MethodName) ({ cls := "LoveParts$Plain", name := "size", desc := "(LLoveParts$Heir;LLoveParts$Trace;)I" } : MethodName) ∈ gw := gw_at 757 (by decide +kernel) (by decide +kernel)
theorem w_758 : Cond.instanceMethod ({ cls := "LoveParts$Plain", name := "size", desc := "(LLoveParts$Heir;LLoveParts$Trace;)I" } : MethodName) ∈ gw := gw_at 758 (by decide +kernel) (by decide +kernel)
set_option maxRecDepth 100000 in
theorem w_759 : Cond.code ({ cls := "LoveParts$Plain", name := "size", desc := "(LLoveParts$Heir;LLoveParts$Trace;)I" } : MethodName) prog_6_method_4_code (3 : Nat) (Option.some FieldType.int) ∈ gw := gw_at 759 rfl (by decide +kernel)
theorem w_760 : Cond.methodLink "LoveParts$Plain" (13 : Nat) ({ cls := "LoveParts$Trace", name := "leave", desc := "(I)V" } : MethodName) ∈ gw := gw_at 760 (by decide +kernel) (by decide +kernel)
theorem w_761 : Cond.methodLink "LoveParts$Plain" (19 : Nat) ({ cls := "LoveParts$Nature", name := "size", desc := "(LLoveParts$Heir;LLoveParts$Trace;)I" } : MethodName) ∈ gw := gw_at 761 (by decide +kernel) (by decide +kernel)
theorem w_762 : Cond.methodLink "LoveParts$Plain" (23 : Nat) ({ cls := "LoveParts$Plain", name := "mark", desc := "(LLoveParts$Heir;LLoveParts$Trace;)I" } : MethodName) ∈ gw := gw_at 762 (by decide +kernel) (by decide +kernel)
theorem w_763 : Cond.instanceMethod ({ cls := "LoveParts$Plain", name := "mark", desc := "(LLoveParts$Heir;LLoveParts$Trace;)I" } : MethodName) ∈ gw := gw_at 763 (by decide +kernel) (by decide +kernel)
theorem w_764 : Cond.selects "LoveParts$Plain" ({ cls := "LoveParts$Plain", name := "mark", desc := "(LLoveParts$Heir;LLoveParts$Trace;)I" } : MethodName) ({ cls := "LoveParts$Plain", name := "mark", desc := "(LLoveParts$Heir;LLoveParts$Trace;)I" } : MethodName) ∈ gw := gw_at 764 (by decide +kernel) (by decide +kernel)
theorem w_765 : Cond.sameMethod "LoveParts$Plain" "LoveParts$Plain" "mark" "(LLoveParts$Heir;LLoveParts$Trace;)I" ∈ gw := gw_at 765 (by decide +kernel) (by decide +kernel)
theorem w_766 : Cond.selects "LoveParts$Joint" ({ cls := "LoveParts$Plain", name := "mark", desc := "(LLoveParts$Heir;LLoveParts$Trace;)I" } : MethodName) ({ cls := "LoveParts$Joint", name := "mark", desc := "(LLoveParts$Heir;LLoveParts$Trace;)I" } : MethodName) ∈ gw := gw_at 766 (by decide +kernel) (by decide +kernel)
theorem w_767 : Cond.instanceMethod ({ cls := "LoveParts$Joint", name := "mark", desc := "(LLoveParts$Heir;LLoveParts$Trace;)I" } : MethodName) ∈ gw := gw_at 767 (by decide +kernel) (by decide +kernel)
set_option maxRecDepth 100000 in
theorem w_768 : Cond.code ({ cls := "LoveParts$Joint", name := "mark", desc := "(LLoveParts$Heir;LLoveParts$Trace;)I" } : MethodName) prog_4_method_4_code (3 : Nat) (Option.some FieldType.int) ∈ gw := gw_at 768 rfl (by decide +kernel)
theorem w_769 : Cond.methodLink "LoveParts$Joint" (15 : Nat) ({ cls := "LoveParts$Trace", name := "leave", desc := "(I)V" } : MethodName) ∈ gw := gw_at 769 (by decide +kernel) (by decide +kernel)
theorem w_770 : Cond.methodLink "LoveParts$Joint" (21 : Nat) ({ cls := "LoveParts$Plain", name := "mark", desc := "(LLoveParts$Heir;LLoveParts$Trace;)I" } : MethodName) ∈ gw := gw_at 770 (by decide +kernel) (by decide +kernel)
theorem w_771 : Cond.selects "LoveParts$Schooled" ({ cls := "LoveParts$Plain", name := "mark", desc := "(LLoveParts$Heir;LLoveParts$Trace;)I" } : MethodName) ({ cls := "LoveParts$Schooled", name := "mark", desc := "(LLoveParts$Heir;LLoveParts$Trace;)I" } : MethodName) ∈ gw := gw_at 771 (by decide +kernel) (by decide +kernel)
theorem w_772 : Cond.instanceMethod ({ cls := "LoveParts$Schooled", name := "mark", desc := "(LLoveParts$Heir;LLoveParts$Trace;)I" } : MethodName) ∈ gw := gw_at 772 (by decide +kernel) (by decide +kernel)
set_option maxRecDepth 100000 in
theorem w_773 : Cond.code ({ cls := "LoveParts$Schooled", name := "mark", desc := "(LLoveParts$Heir;LLoveParts$Trace;)I" } : MethodName) prog_10_method_5_code (3 : Nat) (Option.some FieldType.int) ∈ gw := gw_at 773 rfl (by decide +kernel)
theorem w_774 : Cond.methodLink "LoveParts$Schooled" (16 : Nat) ({ cls := "LoveParts$Trace", name := "leave", desc := "(I)V" } : MethodName) ∈ gw := gw_at 774 (by decide +kernel) (by decide +kernel)
theorem w_775 : Cond.methodLink "LoveParts$Schooled" (26 : Nat) ({ cls := "LoveParts$Plain", name := "mark", desc := "(LLoveParts$Heir;LLoveParts$Trace;)I" } : MethodName) ∈ gw := gw_at 775 (by decide +kernel) (by decide +kernel)
set_option maxRecDepth 100000 in
theorem w_776 : Cond.code ({ cls := "LoveParts$Plain", name := "mark", desc := "(LLoveParts$Heir;LLoveParts$Trace;)I" } : MethodName) prog_6_method_5_code (3 : Nat) (Option.some FieldType.int) ∈ gw := gw_at 776 rfl (by decide +kernel)
theorem w_777 : Cond.methodLink "LoveParts$Plain" (28 : Nat) ({ cls := "LoveParts$Nature", name := "mark", desc := "(LLoveParts$Heir;LLoveParts$Trace;)I" } : MethodName) ∈ gw := gw_at 777 (by decide +kernel) (by decide +kernel)
theorem w_778 : Cond.instanceMethod ({ cls := "LoveParts$Nature", name := "mark", desc := "(LLoveParts$Heir;LLoveParts$Trace;)I" } : MethodName) ∈ gw := gw_at 778 (by decide +kernel) (by decide +kernel)
set_option maxRecDepth 100000 in
theorem w_779 : Cond.code ({ cls := "LoveParts$Nature", name := "mark", desc := "(LLoveParts$Heir;LLoveParts$Trace;)I" } : MethodName) prog_5_method_5_code (3 : Nat) (Option.some FieldType.int) ∈ gw := gw_at 779 rfl (by decide +kernel)
theorem w_780 : Cond.methodLink "LoveParts$Nature" (7 : Nat) ({ cls := "LoveParts$Trace", name := "leave", desc := "(I)V" } : MethodName) ∈ gw := gw_at 780 (by decide +kernel) (by decide +kernel)
theorem w_781 : Cond.selects "LoveParts$Plain" ({ cls := "LoveParts$Nature", name := "size", desc := "(LLoveParts$Heir;LLoveParts$Trace;)I" } : MethodName) ({ cls := "LoveParts$Plain", name := "size", desc := "(LLoveParts$Heir;LLoveParts$Trace;)I" } : MethodName) ∈ gw := gw_at 781 (by decide +kernel) (by decide +kernel)
theorem w_782 : Cond.selects "LoveParts$Schooled" ({ cls := "LoveParts$Nature", name := "size", desc := "(LLoveParts$Heir;LLoveParts$Trace;)I" } : MethodName) ({ cls := "LoveParts$Schooled", name := "size", desc := "(LLoveParts$Heir;LLoveParts$Trace;)I" } : MethodName) ∈ gw := gw_at 782 (by decide +kernel) (by decide +kernel)
theorem w_783 : Cond.instanceMethod ({ cls := "LoveParts$Schooled", name := "size", desc := "(LLoveParts$Heir;LLoveParts$Trace;)I" } : MethodName) ∈ gw := gw_at 783 (by decide +kernel) (by decide +kernel)
set_option maxRecDepth 100000 in
theorem w_784 : Cond.code ({ cls := "LoveParts$Schooled", name := "size", desc := "(LLoveParts$Heir;LLoveParts$Trace;)I" } : MethodName) prog_10_method_4_code (3 : Nat) (Option.some FieldType.int) ∈ gw := gw_at 784 rfl (by decide +kernel)
theorem w_785 : Cond.methodLink "LoveParts$Schooled" (22 : Nat) ({ cls := "LoveParts$Plain", name := "size", desc := "(LLoveParts$Heir;LLoveParts$Trace;)I" } : MethodName) ∈ gw := gw_at 785 (by decide +kernel) (by decide +kernel)
theorem w_786 : Cond.selects "LoveParts$Silent" ({ cls := "LoveParts$Nature", name := "size", desc := "(LLoveParts$Heir;LLoveParts$Trace;)I" } : MethodName) ({ cls := "LoveParts$Silent", name := "size", desc := "(LLoveParts$Heir;LLoveParts$Trace;)I" } : MethodName) ∈ gw := gw_at 786 (by decide +kernel) (by decide +kernel)
set_option maxRecDepth 100000 in
theorem w_787 : Cond.code ({ cls := "LoveParts$Nature", name := "size", desc := "(LLoveParts$Heir;LLoveParts$Trace;)I" } : MethodName) prog_5_method_4_code (3 : Nat) (Option.some FieldType.int) ∈ gw := gw_at 787 rfl (by decide +kernel)
theorem w_788 : Cond.methodLink "LoveParts" (323 : Nat) ({ cls := "LoveParts$Nature", name := "mark", desc := "(LLoveParts$Heir;LLoveParts$Trace;)I" } : MethodName) ∈ gw := gw_at 788 (by decide +kernel) (by decide +kernel)
theorem w_789 : Cond.instanceMethod ({ cls := "LoveParts$Silent", name := "mark", desc := "(LLoveParts$Heir;LLoveParts$Trace;)I" } : MethodName) ∈ gw := gw_at 789 (by decide +kernel) (by decide +kernel)
set_option maxRecDepth 100000 in
theorem w_790 : Cond.code ({ cls := "LoveParts$Silent", name := "mark", desc := "(LLoveParts$Heir;LLoveParts$Trace;)I" } : MethodName) prog_11_method_5_code (3 : Nat) (Option.some FieldType.int) ∈ gw := gw_at 790 rfl (by decide +kernel)
theorem w_791 : Cond.methodLink "LoveParts$Silent" (17 : Nat) ({ cls := "LoveParts$Nature", name := "mark", desc := "(LLoveParts$Heir;LLoveParts$Trace;)I" } : MethodName) ∈ gw := gw_at 791 (by decide +kernel) (by decide +kernel)
theorem w_792 : Cond.methodLink "LoveParts$Silent" (20 : Nat) ({ cls := "LoveParts$Silent", name := "size", desc := "(LLoveParts$Heir;LLoveParts$Trace;)I" } : MethodName) ∈ gw := gw_at 792 (by decide +kernel) (by decide +kernel)
theorem w_793 : Cond.methodLink "LovePartsLaw" (147 : Nat) ({ cls := "LoveParts", name := "trace", desc := "(I)I" } : MethodName) ∈ gw := gw_at 793 (by decide +kernel) (by decide +kernel)
theorem w_794 : Cond.instanceMethod ({ cls := "LoveParts", name := "trace", desc := "(I)I" } : MethodName) ∈ gw := gw_at 794 (by decide +kernel) (by decide +kernel)
theorem w_795 : Cond.selects "LoveParts" ({ cls := "LoveParts", name := "trace", desc := "(I)I" } : MethodName) ({ cls := "LoveParts", name := "trace", desc := "(I)I" } : MethodName) ∈ gw := gw_at 795 (by decide +kernel) (by decide +kernel)
set_option maxRecDepth 100000 in
theorem w_796 : Cond.code ({ cls := "LoveParts", name := "trace", desc := "(I)I" } : MethodName) prog_1_method_34_code (2 : Nat) (Option.some FieldType.int) ∈ gw := gw_at 796 rfl (by decide +kernel)
theorem w_797 : Cond.methodLink "LovePartsLaw" (151 : Nat) ({ cls := "LoveParts", name := "count", desc := "(I)I" } : MethodName) ∈ gw := gw_at 797 (by decide +kernel) (by decide +kernel)
theorem w_798 : Cond.instanceMethod ({ cls := "LoveParts", name := "count", desc := "(I)I" } : MethodName) ∈ gw := gw_at 798 (by decide +kernel) (by decide +kernel)
theorem w_799 : Cond.selects "LoveParts" ({ cls := "LoveParts", name := "count", desc := "(I)I" } : MethodName) ({ cls := "LoveParts", name := "count", desc := "(I)I" } : MethodName) ∈ gw := gw_at 799 (by decide +kernel) (by decide +kernel)
set_option maxRecDepth 100000 in
theorem w_800 : Cond.code ({ cls := "LoveParts", name := "count", desc := "(I)I" } : MethodName) prog_1_method_35_code (2 : Nat) (Option.some FieldType.int) ∈ gw := gw_at 800 rfl (by decide +kernel)
theorem w_801 : Cond.methodLink "LoveParts" (329 : Nat) ({ cls := "LoveParts", name := "rowsThere", desc := "()I" } : MethodName) ∈ gw := gw_at 801 (by decide +kernel) (by decide +kernel)
theorem w_803 : Cond.instanceMethod ({ cls := "LoveParts", name := "rowsThere", desc := "()I" } : MethodName) ∈ gw := gw_at 803 (by decide +kernel) (by decide +kernel)
set_option maxRecDepth 100000 in
theorem w_804 : Cond.code ({ cls := "LoveParts", name := "rowsThere", desc := "()I" } : MethodName) prog_1_method_42_code (3 : Nat) (Option.some FieldType.int) ∈ gw := gw_at 804 rfl (by decide +kernel)
theorem w_805 : Cond.methodLink "LovePartsLaw" (155 : Nat) ({ cls := "LoveParts", name := "status", desc := "()I" } : MethodName) ∈ gw := gw_at 805 (by decide +kernel) (by decide +kernel)
theorem w_806 : Cond.instanceMethod ({ cls := "LoveParts", name := "status", desc := "()I" } : MethodName) ∈ gw := gw_at 806 (by decide +kernel) (by decide +kernel)
theorem w_807 : Cond.selects "LoveParts" ({ cls := "LoveParts", name := "status", desc := "()I" } : MethodName) ({ cls := "LoveParts", name := "status", desc := "()I" } : MethodName) ∈ gw := gw_at 807 (by decide +kernel) (by decide +kernel)
set_option maxRecDepth 100000 in
theorem w_808 : Cond.code ({ cls := "LoveParts", name := "status", desc := "()I" } : MethodName) prog_1_method_36_code (1 : Nat) (Option.some FieldType.int) ∈ gw := gw_at 808 rfl (by decide +kernel)
theorem w_809 : Cond.classLink "LovePartsLaw" (10 : Nat) "LovePartsModel" ∈ gw := gw_at 809 (by decide +kernel) (by decide +kernel)
theorem w_810 : Cond.instantiable "LovePartsModel" (26 : Nat) ∈ gw := gw_at 810 (by decide +kernel) (by decide +kernel)
theorem w_811 : Cond.methodLink "LovePartsLaw" (12 : Nat) ({ cls := "LovePartsModel", name := "<init>", desc := "()V" } : MethodName) ∈ gw := gw_at 811 (by decide +kernel) (by decide +kernel)
theorem w_812 : Cond.instanceMethod ({ cls := "LovePartsModel", name := "<init>", desc := "()V" } : MethodName) ∈ gw := gw_at 812 (by decide +kernel) (by decide +kernel)
set_option maxRecDepth 100000 in
theorem w_813 : Cond.code ({ cls := "LovePartsModel", name := "<init>", desc := "()V" } : MethodName) prog_14_method_1_code (2 : Nat) (Option.none : Option ClassFile.FieldType) ∈ gw := gw_at 813 rfl (by decide +kernel)
theorem w_814 : Cond.methodLink "LovePartsModel" (1 : Nat) ({ cls := "java/lang/Object", name := "<init>", desc := "()V" } : MethodName) ∈ gw := gw_at 814 (by decide +kernel) (by decide +kernel)
theorem w_815 : Cond.fieldLink "LovePartsModel" (7 : Nat) "LovePartsModel" "lanes" "[I" ∈ gw := gw_at 815 (by decide +kernel) (by decide +kernel)
theorem w_816 : Cond.fieldLink "LovePartsModel" (13 : Nat) "LovePartsModel" "sizes" "[I" ∈ gw := gw_at 816 (by decide +kernel) (by decide +kernel)
theorem w_817 : Cond.fieldLink "LovePartsModel" (16 : Nat) "LovePartsModel" "items" "[I" ∈ gw := gw_at 817 (by decide +kernel) (by decide +kernel)
theorem w_818 : Cond.fieldLink "LovePartsModel" (53 : Nat) "LovePartsModel" "status" "I" ∈ gw := gw_at 818 (by decide +kernel) (by decide +kernel)
theorem w_819 : Cond.fieldLink "LovePartsModel" (138 : Nat) "LovePartsModel" "isThere" "Z" ∈ gw := gw_at 819 (by decide +kernel) (by decide +kernel)
theorem w_820 : Cond.fieldLink "LovePartsModel" (19 : Nat) "LovePartsModel" "st" "[I" ∈ gw := gw_at 820 (by decide +kernel) (by decide +kernel)
theorem w_821 : Cond.fieldLink "LovePartsModel" (22 : Nat) "LovePartsModel" "moved" "[I" ∈ gw := gw_at 821 (by decide +kernel) (by decide +kernel)
theorem w_822 : Cond.fieldLink "LovePartsModel" (25 : Nat) "LovePartsModel" "tape" "[I" ∈ gw := gw_at 822 (by decide +kernel) (by decide +kernel)
theorem w_823 : Cond.fieldLink "LovePartsModel" (84 : Nat) "LovePartsModel" "bytes" "I" ∈ gw := gw_at 823 (by decide +kernel) (by decide +kernel)
theorem w_824 : Cond.fieldLink "LovePartsModel" (134 : Nat) "LovePartsModel" "latest" "I" ∈ gw := gw_at 824 (by decide +kernel) (by decide +kernel)
theorem w_825 : Cond.fieldLink "LovePartsModel" (88 : Nat) "LovePartsModel" "place" "I" ∈ gw := gw_at 825 (by decide +kernel) (by decide +kernel)
theorem w_826 : Cond.fieldLink "LovePartsModel" (94 : Nat) "LovePartsModel" "token" "I" ∈ gw := gw_at 826 (by decide +kernel) (by decide +kernel)
theorem w_827 : Cond.fieldLink "LovePartsModel" (97 : Nat) "LovePartsModel" "value" "I" ∈ gw := gw_at 827 (by decide +kernel) (by decide +kernel)
theorem w_828 : Cond.fieldLink "LovePartsModel" (91 : Nat) "LovePartsModel" "begins" "I" ∈ gw := gw_at 828 (by decide +kernel) (by decide +kernel)
theorem w_829 : Cond.fieldLink "LovePartsModel" (108 : Nat) "LovePartsModel" "wrong" "I" ∈ gw := gw_at 829 (by decide +kernel) (by decide +kernel)
theorem w_830 : Cond.fieldLink "LovePartsModel" (28 : Nat) "LovePartsModel" "read" "[I" ∈ gw := gw_at 830 (by decide +kernel) (by decide +kernel)
theorem w_831 : Cond.fieldLink "LovePartsModel" (31 : Nat) "LovePartsModel" "shares" "[I" ∈ gw := gw_at 831 (by decide +kernel) (by decide +kernel)
theorem w_832 : Cond.fieldLink "LovePartsModel" (34 : Nat) "LovePartsModel" "acts" "[I" ∈ gw := gw_at 832 (by decide +kernel) (by decide +kernel)
theorem w_833 : Cond.fieldLink "LovePartsModel" (142 : Nat) "LovePartsModel" "actMany" "I" ∈ gw := gw_at 833 (by decide +kernel) (by decide +kernel)
theorem w_834 : Cond.fieldLink "LovePartsModel" (37 : Nat) "LovePartsModel" "aside" "[I" ∈ gw := gw_at 834 (by decide +kernel) (by decide +kernel)
theorem w_835 : Cond.fieldLink "LovePartsModel" (186 : Nat) "LovePartsModel" "bestSpeech" "I" ∈ gw := gw_at 835 (by decide +kernel) (by decide +kernel)
theorem w_836 : Cond.fieldLink "LovePartsModel" (40 : Nat) "LovePartsModel" "row" "[I" ∈ gw := gw_at 836 (by decide +kernel) (by decide +kernel)
theorem w_837 : Cond.fieldLink "LovePartsModel" (43 : Nat) "LovePartsModel" "isKept" "[Z" ∈ gw := gw_at 837 (by decide +kernel) (by decide +kernel)
theorem w_838 : Cond.fieldLink "LovePartsModel" (47 : Nat) "LovePartsModel" "kept" "[I" ∈ gw := gw_at 838 (by decide +kernel) (by decide +kernel)
theorem w_839 : Cond.fieldLink "LovePartsModel" (50 : Nat) "LovePartsModel" "trace" "[I" ∈ gw := gw_at 839 (by decide +kernel) (by decide +kernel)
theorem w_840 : Cond.fieldLink "LovePartsModel" (240 : Nat) "LovePartsModel" "traced" "I" ∈ gw := gw_at 840 (by decide +kernel) (by decide +kernel)
theorem w_893 : Cond.superclass "LovePartsModel" "java/lang/Object" ∈ gw := gw_at 893 (by decide +kernel) (by decide +kernel)
theorem w_894 : Cond.arrayClass FieldType.boolean ∈ gw := gw_at 894 (by decide +kernel) (by decide +kernel)
theorem w_895 : Cond.methodLink "LovePartsLaw" (17 : Nat) ({ cls := "LovePartsModel", name := "row", desc := "(III)I" } : MethodName) ∈ gw := gw_at 895 (by decide +kernel) (by decide +kernel)
theorem w_896 : Cond.instanceMethod ({ cls := "LovePartsModel", name := "row", desc := "(III)I" } : MethodName) ∈ gw := gw_at 896 (by decide +kernel) (by decide +kernel)
theorem w_897 : Cond.selects "LovePartsModel" ({ cls := "LovePartsModel", name := "row", desc := "(III)I" } : MethodName) ({ cls := "LovePartsModel", name := "row", desc := "(III)I" } : MethodName) ∈ gw := gw_at 897 (by decide +kernel) (by decide +kernel)
set_option maxRecDepth 100000 in
theorem w_898 : Cond.code ({ cls := "LovePartsModel", name := "row", desc := "(III)I" } : MethodName) prog_14_method_7_code (5 : Nat) (Option.some FieldType.int) ∈ gw := gw_at 898 rfl (by decide +kernel)
theorem w_899 : Cond.methodLink "LovePartsModel" (64 : Nat) ({ cls := "LovePartsModel", name := "isRow", desc := "(I)Z" } : MethodName) ∈ gw := gw_at 899 (by decide +kernel) (by decide +kernel)
theorem w_900 : Cond.static ({ cls := "LovePartsModel", name := "isRow", desc := "(I)Z" } : MethodName) ∈ gw := gw_at 900 (by decide +kernel) (by decide +kernel)
set_option maxRecDepth 100000 in
theorem w_901 : Cond.code ({ cls := "LovePartsModel", name := "isRow", desc := "(I)Z" } : MethodName) prog_14_method_6_code (1 : Nat) (Option.some FieldType.boolean) ∈ gw := gw_at 901 rfl (by decide +kernel)
theorem w_902 : Cond.constantLong "LovePartsModel" (58 : Nat) (7 : Int64) ∈ gw := gw_at 902 (by decide +kernel) (by decide +kernel)
theorem w_903 : Cond.methodLink "LovePartsModel" (60 : Nat) ({ cls := "LovePartsModel", name := "in", desc := "(JJJ)Z" } : MethodName) ∈ gw := gw_at 903 (by decide +kernel) (by decide +kernel)
theorem w_904 : Cond.static ({ cls := "LovePartsModel", name := "in", desc := "(JJJ)Z" } : MethodName) ∈ gw := gw_at 904 (by decide +kernel) (by decide +kernel)
set_option maxRecDepth 100000 in
theorem w_905 : Cond.code ({ cls := "LovePartsModel", name := "in", desc := "(JJJ)Z" } : MethodName) prog_14_method_2_code (6 : Nat) (Option.some FieldType.boolean) ∈ gw := gw_at 905 rfl (by decide +kernel)
theorem w_906 : Cond.constantLong "LovePartsModel" (68 : Nat) (2 : Int64) ∈ gw := gw_at 906 (by decide +kernel) (by decide +kernel)
theorem w_907 : Cond.constant "LovePartsModel" (70 : Nat) (-1000001 : Int32) ∈ gw := gw_at 907 (by decide +kernel) (by decide +kernel)
theorem w_908 : Cond.methodLink "LovePartsModel" (71 : Nat) ({ cls := "LovePartsModel", name := "find", desc := "(I)I" } : MethodName) ∈ gw := gw_at 908 (by decide +kernel) (by decide +kernel)
theorem w_910 : Cond.instanceMethod ({ cls := "LovePartsModel", name := "find", desc := "(I)I" } : MethodName) ∈ gw := gw_at 910 (by decide +kernel) (by decide +kernel)
set_option maxRecDepth 100000 in
theorem w_911 : Cond.code ({ cls := "LovePartsModel", name := "find", desc := "(I)I" } : MethodName) prog_14_method_4_code (2 : Nat) (Option.some FieldType.int) ∈ gw := gw_at 911 rfl (by decide +kernel)
theorem w_912 : Cond.constant "LovePartsModel" (57 : Nat) (-1000010 : Int32) ∈ gw := gw_at 912 (by decide +kernel) (by decide +kernel)
theorem w_913 : Cond.methodLink "LovePartsModel" (75 : Nat) ({ cls := "LovePartsModel", name := "well", desc := "(I)I" } : MethodName) ∈ gw := gw_at 913 (by decide +kernel) (by decide +kernel)
theorem w_915 : Cond.instanceMethod ({ cls := "LovePartsModel", name := "well", desc := "(I)I" } : MethodName) ∈ gw := gw_at 915 (by decide +kernel) (by decide +kernel)
set_option maxRecDepth 100000 in
theorem w_916 : Cond.code ({ cls := "LovePartsModel", name := "well", desc := "(I)I" } : MethodName) prog_14_method_5_code (2 : Nat) (Option.some FieldType.int) ∈ gw := gw_at 916 rfl (by decide +kernel)
theorem w_917 : Cond.methodLink "LovePartsLaw" (21 : Nat) ({ cls := "LovePartsModel", name := "set", desc := "(III)I" } : MethodName) ∈ gw := gw_at 917 (by decide +kernel) (by decide +kernel)
theorem w_918 : Cond.instanceMethod ({ cls := "LovePartsModel", name := "set", desc := "(III)I" } : MethodName) ∈ gw := gw_at 918 (by decide +kernel) (by decide +kernel)
theorem w_919 : Cond.selects "LovePartsModel" ({ cls := "LovePartsModel", name := "set", desc := "(III)I" } : MethodName) ({ cls := "LovePartsModel", name := "set", desc := "(III)I" } : MethodName) ∈ gw := gw_at 919 (by decide +kernel) (by decide +kernel)
set_option maxRecDepth 100000 in
theorem w_920 : Cond.code ({ cls := "LovePartsModel", name := "set", desc := "(III)I" } : MethodName) prog_14_method_9_code (4 : Nat) (Option.some FieldType.int) ∈ gw := gw_at 920 rfl (by decide +kernel)
theorem w_921 : Cond.methodLink "LovePartsModel" (78 : Nat) ({ cls := "LovePartsModel", name := "asLane", desc := "(II)I" } : MethodName) ∈ gw := gw_at 921 (by decide +kernel) (by decide +kernel)
theorem w_922 : Cond.static ({ cls := "LovePartsModel", name := "asLane", desc := "(II)I" } : MethodName) ∈ gw := gw_at 922 (by decide +kernel) (by decide +kernel)
set_option maxRecDepth 100000 in
theorem w_923 : Cond.code ({ cls := "LovePartsModel", name := "asLane", desc := "(II)I" } : MethodName) prog_14_method_8_code (2 : Nat) (Option.some FieldType.int) ∈ gw := gw_at 923 rfl (by decide +kernel)
theorem w_924 : Cond.methodLink "LovePartsLaw" (26 : Nat) ({ cls := "LovePartsModel", name := "copy", desc := "(IIIII)I" } : MethodName) ∈ gw := gw_at 924 (by decide +kernel) (by decide +kernel)
theorem w_925 : Cond.instanceMethod ({ cls := "LovePartsModel", name := "copy", desc := "(IIIII)I" } : MethodName) ∈ gw := gw_at 925 (by decide +kernel) (by decide +kernel)
theorem w_926 : Cond.selects "LovePartsModel" ({ cls := "LovePartsModel", name := "copy", desc := "(IIIII)I" } : MethodName) ({ cls := "LovePartsModel", name := "copy", desc := "(IIIII)I" } : MethodName) ∈ gw := gw_at 926 (by decide +kernel) (by decide +kernel)
set_option maxRecDepth 100000 in
theorem w_927 : Cond.code ({ cls := "LovePartsModel", name := "copy", desc := "(IIIII)I" } : MethodName) prog_14_method_10_code (7 : Nat) (Option.some FieldType.int) ∈ gw := gw_at 927 rfl (by decide +kernel)
theorem w_928 : Cond.methodLink "LovePartsLaw" (31 : Nat) ({ cls := "LovePartsModel", name := "drop", desc := "(I)I" } : MethodName) ∈ gw := gw_at 928 (by decide +kernel) (by decide +kernel)
theorem w_929 : Cond.instanceMethod ({ cls := "LovePartsModel", name := "drop", desc := "(I)I" } : MethodName) ∈ gw := gw_at 929 (by decide +kernel) (by decide +kernel)
theorem w_930 : Cond.selects "LovePartsModel" ({ cls := "LovePartsModel", name := "drop", desc := "(I)I" } : MethodName) ({ cls := "LovePartsModel", name := "drop", desc := "(I)I" } : MethodName) ∈ gw := gw_at 930 (by decide +kernel) (by decide +kernel)
set_option maxRecDepth 100000 in
theorem w_931 : Cond.code ({ cls := "LovePartsModel", name := "drop", desc := "(I)I" } : MethodName) prog_14_method_11_code (3 : Nat) (Option.some FieldType.int) ∈ gw := gw_at 931 rfl (by decide +kernel)
theorem w_932 : Cond.methodLink "LovePartsLaw" (35 : Nat) ({ cls := "LovePartsModel", name := "feed", desc := "(I)I" } : MethodName) ∈ gw := gw_at 932 (by decide +kernel) (by decide +kernel)
theorem w_933 : Cond.instanceMethod ({ cls := "LovePartsModel", name := "feed", desc := "(I)I" } : MethodName) ∈ gw := gw_at 933 (by decide +kernel) (by decide +kernel)
theorem w_934 : Cond.selects "LovePartsModel" ({ cls := "LovePartsModel", name := "feed", desc := "(I)I" } : MethodName) ({ cls := "LovePartsModel", name := "feed", desc := "(I)I" } : MethodName) ∈ gw := gw_at 934 (by decide +kernel) (by decide +kernel)
set_option maxRecDepth 100000 in
theorem w_935 : Cond.code ({ cls := "LovePartsModel", name := "feed", desc := "(I)I" } : MethodName) prog_14_method_12_code (2 : Nat) (Option.some FieldType.int) ∈ gw := gw_at 935 rfl (by decide +kernel)
theorem w_936 : Cond.constantLong "LovePartsModel" (82 : Nat) (255 : Int64) ∈ gw := gw_at 936 (by decide +kernel) (by decide +kernel)
theorem w_937 : Cond.constant "LovePartsModel" (87 : Nat) (-1000003 : Int32) ∈ gw := gw_at 937 (by decide +kernel) (by decide +kernel)
theorem w_938 : Cond.methodLink "LovePartsLaw" (40 : Nat) ({ cls := "LovePartsModel", name := "realm", desc := "()I" } : MethodName) ∈ gw := gw_at 938 (by decide +kernel) (by decide +kernel)
theorem w_939 : Cond.instanceMethod ({ cls := "LovePartsModel", name := "realm", desc := "()I" } : MethodName) ∈ gw := gw_at 939 (by decide +kernel) (by decide +kernel)
theorem w_940 : Cond.selects "LovePartsModel" ({ cls := "LovePartsModel", name := "realm", desc := "()I" } : MethodName) ({ cls := "LovePartsModel", name := "realm", desc := "()I" } : MethodName) ∈ gw := gw_at 940 (by decide +kernel) (by decide +kernel)
set_option maxRecDepth 100000 in
theorem w_941 : Cond.code ({ cls := "LovePartsModel", name := "realm", desc := "()I" } : MethodName) prog_14_method_20_code (3 : Nat) (Option.some FieldType.int) ∈ gw := gw_at 941 rfl (by decide +kernel)
theorem w_942 : Cond.methodLink "LovePartsModel" (130 : Nat) ({ cls := "LovePartsModel", name := "readRealm", desc := "()Z" } : MethodName) ∈ gw := gw_at 942 (by decide +kernel) (by decide +kernel)
theorem w_944 : Cond.instanceMethod ({ cls := "LovePartsModel", name := "readRealm", desc := "()Z" } : MethodName) ∈ gw := gw_at 944 (by decide +kernel) (by decide +kernel)
set_option maxRecDepth 100000 in
theorem w_945 : Cond.code ({ cls := "LovePartsModel", name := "readRealm", desc := "()Z" } : MethodName) prog_14_method_19_code (3 : Nat) (Option.some FieldType.boolean) ∈ gw := gw_at 945 rfl (by decide +kernel)
theorem w_946 : Cond.methodLink "LovePartsModel" (117 : Nat) ({ cls := "LovePartsModel", name := "nextToken", desc := "()V" } : MethodName) ∈ gw := gw_at 946 (by decide +kernel) (by decide +kernel)
theorem w_948 : Cond.instanceMethod ({ cls := "LovePartsModel", name := "nextToken", desc := "()V" } : MethodName) ∈ gw := gw_at 948 (by decide +kernel) (by decide +kernel)
set_option maxRecDepth 100000 in
theorem w_949 : Cond.code ({ cls := "LovePartsModel", name := "nextToken", desc := "()V" } : MethodName) prog_14_method_13_code (1 : Nat) (Option.none : Option ClassFile.FieldType) ∈ gw := gw_at 949 rfl (by decide +kernel)
theorem w_950 : Cond.constantLong "LovePartsModel" (100 : Nat) (48 : Int64) ∈ gw := gw_at 950 (by decide +kernel) (by decide +kernel)
theorem w_951 : Cond.constantLong "LovePartsModel" (102 : Nat) (57 : Int64) ∈ gw := gw_at 951 (by decide +kernel) (by decide +kernel)
theorem w_952 : Cond.constantLong "LovePartsModel" (104 : Nat) (97 : Int64) ∈ gw := gw_at 952 (by decide +kernel) (by decide +kernel)
theorem w_953 : Cond.constantLong "LovePartsModel" (106 : Nat) (122 : Int64) ∈ gw := gw_at 953 (by decide +kernel) (by decide +kernel)
theorem w_954 : Cond.methodLink "LovePartsModel" (120 : Nat) ({ cls := "LovePartsModel", name := "takes", desc := "(I)Z" } : MethodName) ∈ gw := gw_at 954 (by decide +kernel) (by decide +kernel)
theorem w_956 : Cond.instanceMethod ({ cls := "LovePartsModel", name := "takes", desc := "(I)Z" } : MethodName) ∈ gw := gw_at 956 (by decide +kernel) (by decide +kernel)
set_option maxRecDepth 100000 in
theorem w_957 : Cond.code ({ cls := "LovePartsModel", name := "takes", desc := "(I)Z" } : MethodName) prog_14_method_16_code (2 : Nat) (Option.some FieldType.boolean) ∈ gw := gw_at 957 rfl (by decide +kernel)
theorem w_958 : Cond.methodLink "LovePartsModel" (111 : Nat) ({ cls := "LovePartsModel", name := "isLetter", desc := "(I)Z" } : MethodName) ∈ gw := gw_at 958 (by decide +kernel) (by decide +kernel)
theorem w_960 : Cond.instanceMethod ({ cls := "LovePartsModel", name := "isLetter", desc := "(I)Z" } : MethodName) ∈ gw := gw_at 960 (by decide +kernel) (by decide +kernel)
set_option maxRecDepth 100000 in
theorem w_961 : Cond.code ({ cls := "LovePartsModel", name := "isLetter", desc := "(I)Z" } : MethodName) prog_14_method_15_code (2 : Nat) (Option.some FieldType.boolean) ∈ gw := gw_at 961 rfl (by decide +kernel)
theorem w_962 : Cond.methodLink "LovePartsModel" (114 : Nat) ({ cls := "LovePartsModel", name := "faults", desc := "(I)Z" } : MethodName) ∈ gw := gw_at 962 (by decide +kernel) (by decide +kernel)
theorem w_964 : Cond.instanceMethod ({ cls := "LovePartsModel", name := "faults", desc := "(I)Z" } : MethodName) ∈ gw := gw_at 964 (by decide +kernel) (by decide +kernel)
set_option maxRecDepth 100000 in
theorem w_965 : Cond.code ({ cls := "LovePartsModel", name := "faults", desc := "(I)Z" } : MethodName) prog_14_method_14_code (2 : Nat) (Option.some FieldType.boolean) ∈ gw := gw_at 965 rfl (by decide +kernel)
theorem w_966 : Cond.methodLink "LovePartsModel" (123 : Nat) ({ cls := "LovePartsModel", name := "takesNumber", desc := "(IIII)Z" } : MethodName) ∈ gw := gw_at 966 (by decide +kernel) (by decide +kernel)
theorem w_968 : Cond.instanceMethod ({ cls := "LovePartsModel", name := "takesNumber", desc := "(IIII)Z" } : MethodName) ∈ gw := gw_at 968 (by decide +kernel) (by decide +kernel)
set_option maxRecDepth 100000 in
theorem w_969 : Cond.code ({ cls := "LovePartsModel", name := "takesNumber", desc := "(IIII)Z" } : MethodName) prog_14_method_17_code (5 : Nat) (Option.some FieldType.boolean) ∈ gw := gw_at 969 rfl (by decide +kernel)
theorem w_970 : Cond.methodLink "LovePartsModel" (127 : Nat) ({ cls := "LovePartsModel", name := "readHeir", desc := "(I)Z" } : MethodName) ∈ gw := gw_at 970 (by decide +kernel) (by decide +kernel)
theorem w_972 : Cond.instanceMethod ({ cls := "LovePartsModel", name := "readHeir", desc := "(I)Z" } : MethodName) ∈ gw := gw_at 972 (by decide +kernel) (by decide +kernel)
set_option maxRecDepth 100000 in
theorem w_973 : Cond.code ({ cls := "LovePartsModel", name := "readHeir", desc := "(I)Z" } : MethodName) prog_14_method_18_code (3 : Nat) (Option.some FieldType.boolean) ∈ gw := gw_at 973 rfl (by decide +kernel)
theorem w_974 : Cond.constant "LovePartsModel" (137 : Nat) (-1000100 : Int32) ∈ gw := gw_at 974 (by decide +kernel) (by decide +kernel)
theorem w_975 : Cond.methodLink "LovePartsLaw" (44 : Nat) ({ cls := "LovePartsModel", name := "fault", desc := "()I" } : MethodName) ∈ gw := gw_at 975 (by decide +kernel) (by decide +kernel)
theorem w_976 : Cond.instanceMethod ({ cls := "LovePartsModel", name := "fault", desc := "()I" } : MethodName) ∈ gw := gw_at 976 (by decide +kernel) (by decide +kernel)
theorem w_977 : Cond.selects "LovePartsModel" ({ cls := "LovePartsModel", name := "fault", desc := "()I" } : MethodName) ({ cls := "LovePartsModel", name := "fault", desc := "()I" } : MethodName) ∈ gw := gw_at 977 (by decide +kernel) (by decide +kernel)
set_option maxRecDepth 100000 in
theorem w_978 : Cond.code ({ cls := "LovePartsModel", name := "fault", desc := "()I" } : MethodName) prog_14_method_21_code (1 : Nat) (Option.some FieldType.int) ∈ gw := gw_at 978 rfl (by decide +kernel)
theorem w_979 : Cond.methodLink "LovePartsLaw" (48 : Nat) ({ cls := "LovePartsModel", name := "undo", desc := "()I" } : MethodName) ∈ gw := gw_at 979 (by decide +kernel) (by decide +kernel)
theorem w_980 : Cond.instanceMethod ({ cls := "LovePartsModel", name := "undo", desc := "()I" } : MethodName) ∈ gw := gw_at 980 (by decide +kernel) (by decide +kernel)
theorem w_981 : Cond.selects "LovePartsModel" ({ cls := "LovePartsModel", name := "undo", desc := "()I" } : MethodName) ({ cls := "LovePartsModel", name := "undo", desc := "()I" } : MethodName) ∈ gw := gw_at 981 (by decide +kernel) (by decide +kernel)
set_option maxRecDepth 100000 in
theorem w_982 : Cond.code ({ cls := "LovePartsModel", name := "undo", desc := "()I" } : MethodName) prog_14_method_29_code (2 : Nat) (Option.some FieldType.int) ∈ gw := gw_at 982 rfl (by decide +kernel)
theorem w_983 : Cond.constant "LovePartsModel" (154 : Nat) (-1000002 : Int32) ∈ gw := gw_at 983 (by decide +kernel) (by decide +kernel)
theorem w_984 : Cond.methodLink "LovePartsLaw" (52 : Nat) ({ cls := "LovePartsModel", name := "speak", desc := "(III)I" } : MethodName) ∈ gw := gw_at 984 (by decide +kernel) (by decide +kernel)
theorem w_985 : Cond.instanceMethod ({ cls := "LovePartsModel", name := "speak", desc := "(III)I" } : MethodName) ∈ gw := gw_at 985 (by decide +kernel) (by decide +kernel)
theorem w_986 : Cond.selects "LovePartsModel" ({ cls := "LovePartsModel", name := "speak", desc := "(III)I" } : MethodName) ({ cls := "LovePartsModel", name := "speak", desc := "(III)I" } : MethodName) ∈ gw := gw_at 986 (by decide +kernel) (by decide +kernel)
set_option maxRecDepth 100000 in
theorem w_987 : Cond.code ({ cls := "LovePartsModel", name := "speak", desc := "(III)I" } : MethodName) prog_14_method_31_code (4 : Nat) (Option.some FieldType.int) ∈ gw := gw_at 987 rfl (by decide +kernel)
theorem w_988 : Cond.methodLink "LovePartsModel" (155 : Nat) ({ cls := "LovePartsModel", name := "isHeir", desc := "(I)Z" } : MethodName) ∈ gw := gw_at 988 (by decide +kernel) (by decide +kernel)
theorem w_990 : Cond.instanceMethod ({ cls := "LovePartsModel", name := "isHeir", desc := "(I)Z" } : MethodName) ∈ gw := gw_at 990 (by decide +kernel) (by decide +kernel)
set_option maxRecDepth 100000 in
theorem w_991 : Cond.code ({ cls := "LovePartsModel", name := "isHeir", desc := "(I)Z" } : MethodName) prog_14_method_22_code (2 : Nat) (Option.some FieldType.boolean) ∈ gw := gw_at 991 rfl (by decide +kernel)
theorem w_992 : Cond.constantLong "LovePartsModel" (158 : Nat) (18 : Int64) ∈ gw := gw_at 992 (by decide +kernel) (by decide +kernel)
theorem w_993 : Cond.constantLong "LovePartsModel" (160 : Nat) (40 : Int64) ∈ gw := gw_at 993 (by decide +kernel) (by decide +kernel)
theorem w_994 : Cond.methodLink "LovePartsModel" (162 : Nat) ({ cls := "LovePartsModel", name := "note", desc := "()V" } : MethodName) ∈ gw := gw_at 994 (by decide +kernel) (by decide +kernel)
theorem w_996 : Cond.instanceMethod ({ cls := "LovePartsModel", name := "note", desc := "()V" } : MethodName) ∈ gw := gw_at 996 (by decide +kernel) (by decide +kernel)
set_option maxRecDepth 100000 in
theorem w_997 : Cond.code ({ cls := "LovePartsModel", name := "note", desc := "()V" } : MethodName) prog_14_method_28_code (2 : Nat) (Option.none : Option ClassFile.FieldType) ∈ gw := gw_at 997 rfl (by decide +kernel)
theorem w_998 : Cond.methodLink "LovePartsModel" (165 : Nat) ({ cls := "LovePartsModel", name := "say", desc := "(II)V" } : MethodName) ∈ gw := gw_at 998 (by decide +kernel) (by decide +kernel)
theorem w_1000 : Cond.instanceMethod ({ cls := "LovePartsModel", name := "say", desc := "(II)V" } : MethodName) ∈ gw := gw_at 1000 (by decide +kernel) (by decide +kernel)
set_option maxRecDepth 100000 in
theorem w_1001 : Cond.code ({ cls := "LovePartsModel", name := "say", desc := "(II)V" } : MethodName) prog_14_method_30_code (3 : Nat) (Option.none : Option ClassFile.FieldType) ∈ gw := gw_at 1001 rfl (by decide +kernel)
theorem w_1002 : Cond.methodLink "LovePartsModel" (145 : Nat) ({ cls := "LovePartsModel", name := "ownOf", desc := "(I)I" } : MethodName) ∈ gw := gw_at 1002 (by decide +kernel) (by decide +kernel)
theorem w_1004 : Cond.instanceMethod ({ cls := "LovePartsModel", name := "ownOf", desc := "(I)I" } : MethodName) ∈ gw := gw_at 1004 (by decide +kernel) (by decide +kernel)
set_option maxRecDepth 100000 in
theorem w_1005 : Cond.code ({ cls := "LovePartsModel", name := "ownOf", desc := "(I)I" } : MethodName) prog_14_method_23_code (5 : Nat) (Option.some FieldType.int) ∈ gw := gw_at 1005 rfl (by decide +kernel)
theorem w_1006 : Cond.methodLink "LovePartsLaw" (56 : Nat) ({ cls := "LovePartsModel", name := "part", desc := "()I" } : MethodName) ∈ gw := gw_at 1006 (by decide +kernel) (by decide +kernel)
theorem w_1007 : Cond.instanceMethod ({ cls := "LovePartsModel", name := "part", desc := "()I" } : MethodName) ∈ gw := gw_at 1007 (by decide +kernel) (by decide +kernel)
theorem w_1008 : Cond.selects "LovePartsModel" ({ cls := "LovePartsModel", name := "part", desc := "()I" } : MethodName) ({ cls := "LovePartsModel", name := "part", desc := "()I" } : MethodName) ∈ gw := gw_at 1008 (by decide +kernel) (by decide +kernel)
set_option maxRecDepth 100000 in
theorem w_1009 : Cond.code ({ cls := "LovePartsModel", name := "part", desc := "()I" } : MethodName) prog_14_method_32_code (3 : Nat) (Option.some FieldType.int) ∈ gw := gw_at 1009 rfl (by decide +kernel)
theorem w_1010 : Cond.methodLink "LovePartsModel" (169 : Nat) ({ cls := "LovePartsModel", name := "findShares", desc := "(I)V" } : MethodName) ∈ gw := gw_at 1010 (by decide +kernel) (by decide +kernel)
theorem w_1012 : Cond.instanceMethod ({ cls := "LovePartsModel", name := "findShares", desc := "(I)V" } : MethodName) ∈ gw := gw_at 1012 (by decide +kernel) (by decide +kernel)
set_option maxRecDepth 100000 in
theorem w_1013 : Cond.code ({ cls := "LovePartsModel", name := "findShares", desc := "(I)V" } : MethodName) prog_14_method_26_code (6 : Nat) (Option.none : Option ClassFile.FieldType) ∈ gw := gw_at 1013 rfl (by decide +kernel)
theorem w_1014 : Cond.methodLink "LovePartsModel" (151 : Nat) ({ cls := "LovePartsModel", name := "weightOf", desc := "(II)I" } : MethodName) ∈ gw := gw_at 1014 (by decide +kernel) (by decide +kernel)
theorem w_1016 : Cond.instanceMethod ({ cls := "LovePartsModel", name := "weightOf", desc := "(II)I" } : MethodName) ∈ gw := gw_at 1016 (by decide +kernel) (by decide +kernel)
set_option maxRecDepth 100000 in
theorem w_1017 : Cond.code ({ cls := "LovePartsModel", name := "weightOf", desc := "(II)I" } : MethodName) prog_14_method_25_code (4 : Nat) (Option.some FieldType.int) ∈ gw := gw_at 1017 rfl (by decide +kernel)
theorem w_1018 : Cond.methodLink "LovePartsModel" (148 : Nat) ({ cls := "LovePartsModel", name := "says", desc := "(I)I" } : MethodName) ∈ gw := gw_at 1018 (by decide +kernel) (by decide +kernel)
theorem w_1020 : Cond.instanceMethod ({ cls := "LovePartsModel", name := "says", desc := "(I)I" } : MethodName) ∈ gw := gw_at 1020 (by decide +kernel) (by decide +kernel)
set_option maxRecDepth 100000 in
theorem w_1021 : Cond.code ({ cls := "LovePartsModel", name := "says", desc := "(I)I" } : MethodName) prog_14_method_24_code (2 : Nat) (Option.some FieldType.int) ∈ gw := gw_at 1021 rfl (by decide +kernel)
theorem w_1022 : Cond.methodLink "LovePartsLaw" (60 : Nat) ({ cls := "LovePartsModel", name := "rule", desc := "(I)I" } : MethodName) ∈ gw := gw_at 1022 (by decide +kernel) (by decide +kernel)
theorem w_1023 : Cond.instanceMethod ({ cls := "LovePartsModel", name := "rule", desc := "(I)I" } : MethodName) ∈ gw := gw_at 1023 (by decide +kernel) (by decide +kernel)
theorem w_1024 : Cond.selects "LovePartsModel" ({ cls := "LovePartsModel", name := "rule", desc := "(I)I" } : MethodName) ({ cls := "LovePartsModel", name := "rule", desc := "(I)I" } : MethodName) ∈ gw := gw_at 1024 (by decide +kernel) (by decide +kernel)
set_option maxRecDepth 100000 in
theorem w_1025 : Cond.code ({ cls := "LovePartsModel", name := "rule", desc := "(I)I" } : MethodName) prog_14_method_33_code (3 : Nat) (Option.some FieldType.int) ∈ gw := gw_at 1025 rfl (by decide +kernel)
theorem w_1026 : Cond.constantLong "LovePartsModel" (173 : Nat) (3 : Int64) ∈ gw := gw_at 1026 (by decide +kernel) (by decide +kernel)
theorem w_1027 : Cond.methodLink "LovePartsLaw" (64 : Nat) ({ cls := "LovePartsModel", name := "months", desc := "(I)I" } : MethodName) ∈ gw := gw_at 1027 (by decide +kernel) (by decide +kernel)
theorem w_1028 : Cond.instanceMethod ({ cls := "LovePartsModel", name := "months", desc := "(I)I" } : MethodName) ∈ gw := gw_at 1028 (by decide +kernel) (by decide +kernel)
theorem w_1029 : Cond.selects "LovePartsModel" ({ cls := "LovePartsModel", name := "months", desc := "(I)I" } : MethodName) ({ cls := "LovePartsModel", name := "months", desc := "(I)I" } : MethodName) ∈ gw := gw_at 1029 (by decide +kernel) (by decide +kernel)
set_option maxRecDepth 100000 in
theorem w_1030 : Cond.code ({ cls := "LovePartsModel", name := "months", desc := "(I)I" } : MethodName) prog_14_method_35_code (3 : Nat) (Option.some FieldType.int) ∈ gw := gw_at 1030 rfl (by decide +kernel)
theorem w_1031 : Cond.constantLong "LovePartsModel" (178 : Nat) (24 : Int64) ∈ gw := gw_at 1031 (by decide +kernel) (by decide +kernel)
theorem w_1032 : Cond.methodLink "LovePartsModel" (180 : Nat) ({ cls := "LovePartsModel", name := "oneMonth", desc := "()V" } : MethodName) ∈ gw := gw_at 1032 (by decide +kernel) (by decide +kernel)
theorem w_1034 : Cond.instanceMethod ({ cls := "LovePartsModel", name := "oneMonth", desc := "()V" } : MethodName) ∈ gw := gw_at 1034 (by decide +kernel) (by decide +kernel)
set_option maxRecDepth 100000 in
theorem w_1035 : Cond.code ({ cls := "LovePartsModel", name := "oneMonth", desc := "()V" } : MethodName) prog_14_method_34_code (3 : Nat) (Option.none : Option ClassFile.FieldType) ∈ gw := gw_at 1035 rfl (by decide +kernel)
theorem w_1036 : Cond.methodLink "LovePartsModel" (175 : Nat) ({ cls := "LovePartsModel", name := "allowed", desc := "(I)I" } : MethodName) ∈ gw := gw_at 1036 (by decide +kernel) (by decide +kernel)
theorem w_1038 : Cond.instanceMethod ({ cls := "LovePartsModel", name := "allowed", desc := "(I)I" } : MethodName) ∈ gw := gw_at 1038 (by decide +kernel) (by decide +kernel)
set_option maxRecDepth 100000 in
theorem w_1039 : Cond.code ({ cls := "LovePartsModel", name := "allowed", desc := "(I)I" } : MethodName) prog_14_method_27_code (4 : Nat) (Option.some FieldType.int) ∈ gw := gw_at 1039 rfl (by decide +kernel)
theorem w_1040 : Cond.methodLink "LovePartsLaw" (69 : Nat) ({ cls := "LovePartsModel", name := "letter", desc := "(II)I" } : MethodName) ∈ gw := gw_at 1040 (by decide +kernel) (by decide +kernel)
theorem w_1041 : Cond.instanceMethod ({ cls := "LovePartsModel", name := "letter", desc := "(II)I" } : MethodName) ∈ gw := gw_at 1041 (by decide +kernel) (by decide +kernel)
theorem w_1042 : Cond.selects "LovePartsModel" ({ cls := "LovePartsModel", name := "letter", desc := "(II)I" } : MethodName) ({ cls := "LovePartsModel", name := "letter", desc := "(II)I" } : MethodName) ∈ gw := gw_at 1042 (by decide +kernel) (by decide +kernel)
set_option maxRecDepth 100000 in
theorem w_1043 : Cond.code ({ cls := "LovePartsModel", name := "letter", desc := "(II)I" } : MethodName) prog_14_method_36_code (4 : Nat) (Option.some FieldType.int) ∈ gw := gw_at 1043 rfl (by decide +kernel)
theorem w_1044 : Cond.methodLink "LovePartsLaw" (73 : Nat) ({ cls := "LovePartsModel", name := "heir", desc := "(II)I" } : MethodName) ∈ gw := gw_at 1044 (by decide +kernel) (by decide +kernel)
theorem w_1045 : Cond.instanceMethod ({ cls := "LovePartsModel", name := "heir", desc := "(II)I" } : MethodName) ∈ gw := gw_at 1045 (by decide +kernel) (by decide +kernel)
theorem w_1046 : Cond.selects "LovePartsModel" ({ cls := "LovePartsModel", name := "heir", desc := "(II)I" } : MethodName) ({ cls := "LovePartsModel", name := "heir", desc := "(II)I" } : MethodName) ∈ gw := gw_at 1046 (by decide +kernel) (by decide +kernel)
set_option maxRecDepth 100000 in
theorem w_1047 : Cond.code ({ cls := "LovePartsModel", name := "heir", desc := "(II)I" } : MethodName) prog_14_method_37_code (3 : Nat) (Option.some FieldType.int) ∈ gw := gw_at 1047 rfl (by decide +kernel)
theorem w_1048 : Cond.methodLink "LovePartsLaw" (77 : Nat) ({ cls := "LovePartsModel", name := "king", desc := "(I)I" } : MethodName) ∈ gw := gw_at 1048 (by decide +kernel) (by decide +kernel)
theorem w_1049 : Cond.instanceMethod ({ cls := "LovePartsModel", name := "king", desc := "(I)I" } : MethodName) ∈ gw := gw_at 1049 (by decide +kernel) (by decide +kernel)
theorem w_1050 : Cond.selects "LovePartsModel" ({ cls := "LovePartsModel", name := "king", desc := "(I)I" } : MethodName) ({ cls := "LovePartsModel", name := "king", desc := "(I)I" } : MethodName) ∈ gw := gw_at 1050 (by decide +kernel) (by decide +kernel)
set_option maxRecDepth 100000 in
theorem w_1051 : Cond.code ({ cls := "LovePartsModel", name := "king", desc := "(I)I" } : MethodName) prog_14_method_38_code (2 : Nat) (Option.some FieldType.int) ∈ gw := gw_at 1051 rfl (by decide +kernel)
theorem w_1052 : Cond.methodLink "LovePartsLaw" (81 : Nat) ({ cls := "LovePartsModel", name := "share", desc := "(II)I" } : MethodName) ∈ gw := gw_at 1052 (by decide +kernel) (by decide +kernel)
theorem w_1053 : Cond.instanceMethod ({ cls := "LovePartsModel", name := "share", desc := "(II)I" } : MethodName) ∈ gw := gw_at 1053 (by decide +kernel) (by decide +kernel)
theorem w_1054 : Cond.selects "LovePartsModel" ({ cls := "LovePartsModel", name := "share", desc := "(II)I" } : MethodName) ({ cls := "LovePartsModel", name := "share", desc := "(II)I" } : MethodName) ∈ gw := gw_at 1054 (by decide +kernel) (by decide +kernel)
set_option maxRecDepth 100000 in
theorem w_1055 : Cond.code ({ cls := "LovePartsModel", name := "share", desc := "(II)I" } : MethodName) prog_14_method_41_code (3 : Nat) (Option.some FieldType.int) ∈ gw := gw_at 1055 rfl (by decide +kernel)
theorem w_1056 : Cond.methodLink "LovePartsLaw" (85 : Nat) ({ cls := "LovePartsModel", name := "best", desc := "(II)I" } : MethodName) ∈ gw := gw_at 1056 (by decide +kernel) (by decide +kernel)
theorem w_1057 : Cond.instanceMethod ({ cls := "LovePartsModel", name := "best", desc := "(II)I" } : MethodName) ∈ gw := gw_at 1057 (by decide +kernel) (by decide +kernel)
theorem w_1058 : Cond.selects "LovePartsModel" ({ cls := "LovePartsModel", name := "best", desc := "(II)I" } : MethodName) ({ cls := "LovePartsModel", name := "best", desc := "(II)I" } : MethodName) ∈ gw := gw_at 1058 (by decide +kernel) (by decide +kernel)
set_option maxRecDepth 100000 in
theorem w_1059 : Cond.code ({ cls := "LovePartsModel", name := "best", desc := "(II)I" } : MethodName) prog_14_method_43_code (4 : Nat) (Option.some FieldType.int) ∈ gw := gw_at 1059 rfl (by decide +kernel)
theorem w_1060 : Cond.methodLink "LovePartsModel" (192 : Nat) ({ cls := "LovePartsModel", name := "bestOf", desc := "(I)I" } : MethodName) ∈ gw := gw_at 1060 (by decide +kernel) (by decide +kernel)
theorem w_1062 : Cond.instanceMethod ({ cls := "LovePartsModel", name := "bestOf", desc := "(I)I" } : MethodName) ∈ gw := gw_at 1062 (by decide +kernel) (by decide +kernel)
set_option maxRecDepth 100000 in
theorem w_1063 : Cond.code ({ cls := "LovePartsModel", name := "bestOf", desc := "(I)I" } : MethodName) prog_14_method_42_code (5 : Nat) (Option.some FieldType.int) ∈ gw := gw_at 1063 rfl (by decide +kernel)
theorem w_1064 : Cond.methodLink "LovePartsModel" (183 : Nat) ({ cls := "LovePartsModel", name := "putAside", desc := "()V" } : MethodName) ∈ gw := gw_at 1064 (by decide +kernel) (by decide +kernel)
theorem w_1066 : Cond.instanceMethod ({ cls := "LovePartsModel", name := "putAside", desc := "()V" } : MethodName) ∈ gw := gw_at 1066 (by decide +kernel) (by decide +kernel)
set_option maxRecDepth 100000 in
theorem w_1067 : Cond.code ({ cls := "LovePartsModel", name := "putAside", desc := "()V" } : MethodName) prog_14_method_39_code (2 : Nat) (Option.none : Option ClassFile.FieldType) ∈ gw := gw_at 1067 rfl (by decide +kernel)
theorem w_1068 : Cond.methodLink "LovePartsModel" (189 : Nat) ({ cls := "LovePartsModel", name := "takeBack", desc := "()V" } : MethodName) ∈ gw := gw_at 1068 (by decide +kernel) (by decide +kernel)
theorem w_1070 : Cond.instanceMethod ({ cls := "LovePartsModel", name := "takeBack", desc := "()V" } : MethodName) ∈ gw := gw_at 1070 (by decide +kernel) (by decide +kernel)
set_option maxRecDepth 100000 in
theorem w_1071 : Cond.code ({ cls := "LovePartsModel", name := "takeBack", desc := "()V" } : MethodName) prog_14_method_40_code (2 : Nat) (Option.none : Option ClassFile.FieldType) ∈ gw := gw_at 1071 rfl (by decide +kernel)
theorem w_1072 : Cond.methodLink "LovePartsLaw" (89 : Nat) ({ cls := "LovePartsModel", name := "rather", desc := "()I" } : MethodName) ∈ gw := gw_at 1072 (by decide +kernel) (by decide +kernel)
theorem w_1073 : Cond.instanceMethod ({ cls := "LovePartsModel", name := "rather", desc := "()I" } : MethodName) ∈ gw := gw_at 1073 (by decide +kernel) (by decide +kernel)
theorem w_1074 : Cond.selects "LovePartsModel" ({ cls := "LovePartsModel", name := "rather", desc := "()I" } : MethodName) ({ cls := "LovePartsModel", name := "rather", desc := "()I" } : MethodName) ∈ gw := gw_at 1074 (by decide +kernel) (by decide +kernel)
set_option maxRecDepth 100000 in
theorem w_1075 : Cond.code ({ cls := "LovePartsModel", name := "rather", desc := "()I" } : MethodName) prog_14_method_44_code (4 : Nat) (Option.some FieldType.int) ∈ gw := gw_at 1075 rfl (by decide +kernel)
theorem w_1076 : Cond.methodLink "LovePartsLaw" (93 : Nat) ({ cls := "LovePartsModel", name := "trueRule", desc := "()I" } : MethodName) ∈ gw := gw_at 1076 (by decide +kernel) (by decide +kernel)
theorem w_1077 : Cond.instanceMethod ({ cls := "LovePartsModel", name := "trueRule", desc := "()I" } : MethodName) ∈ gw := gw_at 1077 (by decide +kernel) (by decide +kernel)
theorem w_1078 : Cond.selects "LovePartsModel" ({ cls := "LovePartsModel", name := "trueRule", desc := "()I" } : MethodName) ({ cls := "LovePartsModel", name := "trueRule", desc := "()I" } : MethodName) ∈ gw := gw_at 1078 (by decide +kernel) (by decide +kernel)
set_option maxRecDepth 100000 in
theorem w_1079 : Cond.code ({ cls := "LovePartsModel", name := "trueRule", desc := "()I" } : MethodName) prog_14_method_46_code (4 : Nat) (Option.some FieldType.int) ∈ gw := gw_at 1079 rfl (by decide +kernel)
theorem w_1080 : Cond.constant "LovePartsModel" (195 : Nat) (-1000000 : Int32) ∈ gw := gw_at 1080 (by decide +kernel) (by decide +kernel)
theorem w_1081 : Cond.methodLink "LovePartsModel" (196 : Nat) ({ cls := "LovePartsModel", name := "isTrue", desc := "(II)Z" } : MethodName) ∈ gw := gw_at 1081 (by decide +kernel) (by decide +kernel)
theorem w_1083 : Cond.instanceMethod ({ cls := "LovePartsModel", name := "isTrue", desc := "(II)Z" } : MethodName) ∈ gw := gw_at 1083 (by decide +kernel) (by decide +kernel)
set_option maxRecDepth 100000 in
theorem w_1084 : Cond.code ({ cls := "LovePartsModel", name := "isTrue", desc := "(II)Z" } : MethodName) prog_14_method_45_code (7 : Nat) (Option.some FieldType.boolean) ∈ gw := gw_at 1084 rfl (by decide +kernel)
theorem w_1085 : Cond.methodLink "LovePartsLaw" (97 : Nat) ({ cls := "LovePartsModel", name := "order", desc := "(II)I" } : MethodName) ∈ gw := gw_at 1085 (by decide +kernel) (by decide +kernel)
theorem w_1086 : Cond.instanceMethod ({ cls := "LovePartsModel", name := "order", desc := "(II)I" } : MethodName) ∈ gw := gw_at 1086 (by decide +kernel) (by decide +kernel)
theorem w_1087 : Cond.selects "LovePartsModel" ({ cls := "LovePartsModel", name := "order", desc := "(II)I" } : MethodName) ({ cls := "LovePartsModel", name := "order", desc := "(II)I" } : MethodName) ∈ gw := gw_at 1087 (by decide +kernel) (by decide +kernel)
set_option maxRecDepth 100000 in
theorem w_1088 : Cond.code ({ cls := "LovePartsModel", name := "order", desc := "(II)I" } : MethodName) prog_14_method_48_code (7 : Nat) (Option.some FieldType.int) ∈ gw := gw_at 1088 rfl (by decide +kernel)
theorem w_1089 : Cond.constantLong "LovePartsModel" (200 : Nat) (-1 : Int64) ∈ gw := gw_at 1089 (by decide +kernel) (by decide +kernel)
theorem w_1090 : Cond.methodLink "LovePartsModel" (202 : Nat) ({ cls := "LovePartsModel", name := "isOrder", desc := "(I)Z" } : MethodName) ∈ gw := gw_at 1090 (by decide +kernel) (by decide +kernel)
theorem w_1092 : Cond.instanceMethod ({ cls := "LovePartsModel", name := "isOrder", desc := "(I)Z" } : MethodName) ∈ gw := gw_at 1092 (by decide +kernel) (by decide +kernel)
set_option maxRecDepth 100000 in
theorem w_1093 : Cond.code ({ cls := "LovePartsModel", name := "isOrder", desc := "(I)Z" } : MethodName) prog_14_method_47_code (5 : Nat) (Option.some FieldType.boolean) ∈ gw := gw_at 1093 rfl (by decide +kernel)
theorem w_1094 : Cond.methodLink "LovePartsLaw" (101 : Nat) ({ cls := "LovePartsModel", name := "ahead", desc := "(II)I" } : MethodName) ∈ gw := gw_at 1094 (by decide +kernel) (by decide +kernel)
theorem w_1095 : Cond.instanceMethod ({ cls := "LovePartsModel", name := "ahead", desc := "(II)I" } : MethodName) ∈ gw := gw_at 1095 (by decide +kernel) (by decide +kernel)
theorem w_1096 : Cond.selects "LovePartsModel" ({ cls := "LovePartsModel", name := "ahead", desc := "(II)I" } : MethodName) ({ cls := "LovePartsModel", name := "ahead", desc := "(II)I" } : MethodName) ∈ gw := gw_at 1096 (by decide +kernel) (by decide +kernel)
set_option maxRecDepth 100000 in
theorem w_1097 : Cond.code ({ cls := "LovePartsModel", name := "ahead", desc := "(II)I" } : MethodName) prog_14_method_50_code (4 : Nat) (Option.some FieldType.int) ∈ gw := gw_at 1097 rfl (by decide +kernel)
theorem w_1098 : Cond.constantLong "LovePartsModel" (205 : Nat) (60 : Int64) ∈ gw := gw_at 1098 (by decide +kernel) (by decide +kernel)
theorem w_1099 : Cond.methodLink "LovePartsModel" (207 : Nat) ({ cls := "LovePartsModel", name := "brokenAll", desc := "()I" } : MethodName) ∈ gw := gw_at 1099 (by decide +kernel) (by decide +kernel)
theorem w_1101 : Cond.instanceMethod ({ cls := "LovePartsModel", name := "brokenAll", desc := "()I" } : MethodName) ∈ gw := gw_at 1101 (by decide +kernel) (by decide +kernel)
set_option maxRecDepth 100000 in
theorem w_1102 : Cond.code ({ cls := "LovePartsModel", name := "brokenAll", desc := "()I" } : MethodName) prog_14_method_49_code (3 : Nat) (Option.some FieldType.int) ∈ gw := gw_at 1102 rfl (by decide +kernel)
theorem w_1103 : Cond.methodLink "LovePartsLaw" (105 : Nat) ({ cls := "LovePartsModel", name := "down", desc := "(I)I" } : MethodName) ∈ gw := gw_at 1103 (by decide +kernel) (by decide +kernel)
theorem w_1104 : Cond.instanceMethod ({ cls := "LovePartsModel", name := "down", desc := "(I)I" } : MethodName) ∈ gw := gw_at 1104 (by decide +kernel) (by decide +kernel)
theorem w_1105 : Cond.selects "LovePartsModel" ({ cls := "LovePartsModel", name := "down", desc := "(I)I" } : MethodName) ({ cls := "LovePartsModel", name := "down", desc := "(I)I" } : MethodName) ∈ gw := gw_at 1105 (by decide +kernel) (by decide +kernel)
set_option maxRecDepth 100000 in
theorem w_1106 : Cond.code ({ cls := "LovePartsModel", name := "down", desc := "(I)I" } : MethodName) prog_14_method_51_code (4 : Nat) (Option.some FieldType.int) ∈ gw := gw_at 1106 rfl (by decide +kernel)
theorem w_1107 : Cond.constantLong "LovePartsModel" (211 : Nat) (99 : Int64) ∈ gw := gw_at 1107 (by decide +kernel) (by decide +kernel)
theorem w_1108 : Cond.methodLink "LovePartsLaw" (109 : Nat) ({ cls := "LovePartsModel", name := "loves", desc := "(IIIII)I" } : MethodName) ∈ gw := gw_at 1108 (by decide +kernel) (by decide +kernel)
theorem w_1109 : Cond.instanceMethod ({ cls := "LovePartsModel", name := "loves", desc := "(IIIII)I" } : MethodName) ∈ gw := gw_at 1109 (by decide +kernel) (by decide +kernel)
theorem w_1110 : Cond.selects "LovePartsModel" ({ cls := "LovePartsModel", name := "loves", desc := "(IIIII)I" } : MethodName) ({ cls := "LovePartsModel", name := "loves", desc := "(IIIII)I" } : MethodName) ∈ gw := gw_at 1110 (by decide +kernel) (by decide +kernel)
set_option maxRecDepth 100000 in
theorem w_1111 : Cond.code ({ cls := "LovePartsModel", name := "loves", desc := "(IIIII)I" } : MethodName) prog_14_method_53_code (12 : Nat) (Option.some FieldType.int) ∈ gw := gw_at 1111 rfl (by decide +kernel)
theorem w_1112 : Cond.constantLong "LovePartsModel" (213 : Nat) (12 : Int64) ∈ gw := gw_at 1112 (by decide +kernel) (by decide +kernel)
theorem w_1113 : Cond.methodLink "LovePartsModel" (215 : Nat) ({ cls := "LovePartsModel", name := "lacks", desc := "(III)I" } : MethodName) ∈ gw := gw_at 1113 (by decide +kernel) (by decide +kernel)
theorem w_1115 : Cond.instanceMethod ({ cls := "LovePartsModel", name := "lacks", desc := "(III)I" } : MethodName) ∈ gw := gw_at 1115 (by decide +kernel) (by decide +kernel)
set_option maxRecDepth 100000 in
theorem w_1116 : Cond.code ({ cls := "LovePartsModel", name := "lacks", desc := "(III)I" } : MethodName) prog_14_method_52_code (4 : Nat) (Option.some FieldType.int) ∈ gw := gw_at 1116 rfl (by decide +kernel)
theorem w_1117 : Cond.methodLink "LovePartsLaw" (113 : Nat) ({ cls := "LovePartsModel", name := "map", desc := "(II)I" } : MethodName) ∈ gw := gw_at 1117 (by decide +kernel) (by decide +kernel)
theorem w_1118 : Cond.instanceMethod ({ cls := "LovePartsModel", name := "map", desc := "(II)I" } : MethodName) ∈ gw := gw_at 1118 (by decide +kernel) (by decide +kernel)
theorem w_1119 : Cond.selects "LovePartsModel" ({ cls := "LovePartsModel", name := "map", desc := "(II)I" } : MethodName) ({ cls := "LovePartsModel", name := "map", desc := "(II)I" } : MethodName) ∈ gw := gw_at 1119 (by decide +kernel) (by decide +kernel)
set_option maxRecDepth 100000 in
theorem w_1120 : Cond.code ({ cls := "LovePartsModel", name := "map", desc := "(II)I" } : MethodName) prog_14_method_55_code (6 : Nat) (Option.some FieldType.int) ∈ gw := gw_at 1120 rfl (by decide +kernel)
theorem w_1121 : Cond.methodLink "LovePartsModel" (219 : Nat) ({ cls := "LovePartsModel", name := "isSo", desc := "(II)Z" } : MethodName) ∈ gw := gw_at 1121 (by decide +kernel) (by decide +kernel)
theorem w_1123 : Cond.instanceMethod ({ cls := "LovePartsModel", name := "isSo", desc := "(II)Z" } : MethodName) ∈ gw := gw_at 1123 (by decide +kernel) (by decide +kernel)
set_option maxRecDepth 100000 in
theorem w_1124 : Cond.code ({ cls := "LovePartsModel", name := "isSo", desc := "(II)Z" } : MethodName) prog_14_method_54_code (5 : Nat) (Option.some FieldType.boolean) ∈ gw := gw_at 1124 rfl (by decide +kernel)
theorem w_1125 : Cond.methodLink "LovePartsLaw" (117 : Nat) ({ cls := "LovePartsModel", name := "who", desc := "(III)I" } : MethodName) ∈ gw := gw_at 1125 (by decide +kernel) (by decide +kernel)
theorem w_1126 : Cond.instanceMethod ({ cls := "LovePartsModel", name := "who", desc := "(III)I" } : MethodName) ∈ gw := gw_at 1126 (by decide +kernel) (by decide +kernel)
theorem w_1127 : Cond.selects "LovePartsModel" ({ cls := "LovePartsModel", name := "who", desc := "(III)I" } : MethodName) ({ cls := "LovePartsModel", name := "who", desc := "(III)I" } : MethodName) ∈ gw := gw_at 1127 (by decide +kernel) (by decide +kernel)
set_option maxRecDepth 100000 in
theorem w_1128 : Cond.code ({ cls := "LovePartsModel", name := "who", desc := "(III)I" } : MethodName) prog_14_method_56_code (8 : Nat) (Option.some FieldType.int) ∈ gw := gw_at 1128 rfl (by decide +kernel)
theorem w_1129 : Cond.methodLink "LovePartsLaw" (122 : Nat) ({ cls := "LovePartsModel", name := "odds", desc := "(III)J" } : MethodName) ∈ gw := gw_at 1129 (by decide +kernel) (by decide +kernel)
theorem w_1130 : Cond.instanceMethod ({ cls := "LovePartsModel", name := "odds", desc := "(III)J" } : MethodName) ∈ gw := gw_at 1130 (by decide +kernel) (by decide +kernel)
theorem w_1131 : Cond.selects "LovePartsModel" ({ cls := "LovePartsModel", name := "odds", desc := "(III)J" } : MethodName) ({ cls := "LovePartsModel", name := "odds", desc := "(III)J" } : MethodName) ∈ gw := gw_at 1131 (by decide +kernel) (by decide +kernel)
set_option maxRecDepth 100000 in
theorem w_1132 : Cond.code ({ cls := "LovePartsModel", name := "odds", desc := "(III)J" } : MethodName) prog_14_method_57_code (14 : Nat) (Option.some FieldType.long) ∈ gw := gw_at 1132 rfl (by decide +kernel)
theorem w_1133 : Cond.constantLong "LovePartsModel" (222 : Nat) (10 : Int64) ∈ gw := gw_at 1133 (by decide +kernel) (by decide +kernel)
theorem w_1134 : Cond.constantLong "LovePartsModel" (224 : Nat) (-1000001 : Int64) ∈ gw := gw_at 1134 (by decide +kernel) (by decide +kernel)
theorem w_1135 : Cond.methodLink "LovePartsModel" (226 : Nat) ({ cls := "LovePartsModel", name := "has", desc := "(II)Z" } : MethodName) ∈ gw := gw_at 1135 (by decide +kernel) (by decide +kernel)
theorem w_1136 : Cond.static ({ cls := "LovePartsModel", name := "has", desc := "(II)Z" } : MethodName) ∈ gw := gw_at 1136 (by decide +kernel) (by decide +kernel)
set_option maxRecDepth 100000 in
theorem w_1137 : Cond.code ({ cls := "LovePartsModel", name := "has", desc := "(II)Z" } : MethodName) prog_14_method_3_code (2 : Nat) (Option.some FieldType.boolean) ∈ gw := gw_at 1137 rfl (by decide +kernel)
theorem w_1138 : Cond.methodLink "LovePartsLaw" (126 : Nat) ({ cls := "LovePartsModel", name := "drawn", desc := "(III)I" } : MethodName) ∈ gw := gw_at 1138 (by decide +kernel) (by decide +kernel)
theorem w_1139 : Cond.instanceMethod ({ cls := "LovePartsModel", name := "drawn", desc := "(III)I" } : MethodName) ∈ gw := gw_at 1139 (by decide +kernel) (by decide +kernel)
theorem w_1140 : Cond.selects "LovePartsModel" ({ cls := "LovePartsModel", name := "drawn", desc := "(III)I" } : MethodName) ({ cls := "LovePartsModel", name := "drawn", desc := "(III)I" } : MethodName) ∈ gw := gw_at 1140 (by decide +kernel) (by decide +kernel)
set_option maxRecDepth 100000 in
theorem w_1141 : Cond.code ({ cls := "LovePartsModel", name := "drawn", desc := "(III)I" } : MethodName) prog_14_method_58_code (7 : Nat) (Option.some FieldType.int) ∈ gw := gw_at 1141 rfl (by decide +kernel)
theorem w_1142 : Cond.constantLong "LovePartsModel" (229 : Nat) (999999 : Int64) ∈ gw := gw_at 1142 (by decide +kernel) (by decide +kernel)
theorem w_1143 : Cond.constantLong "LovePartsModel" (231 : Nat) (16807 : Int64) ∈ gw := gw_at 1143 (by decide +kernel) (by decide +kernel)
theorem w_1144 : Cond.constantLong "LovePartsModel" (233 : Nat) (2147483647 : Int64) ∈ gw := gw_at 1144 (by decide +kernel) (by decide +kernel)
theorem w_1145 : Cond.methodLink "LovePartsLaw" (130 : Nat) ({ cls := "LovePartsModel", name := "image", desc := "(I)I" } : MethodName) ∈ gw := gw_at 1145 (by decide +kernel) (by decide +kernel)
theorem w_1146 : Cond.instanceMethod ({ cls := "LovePartsModel", name := "image", desc := "(I)I" } : MethodName) ∈ gw := gw_at 1146 (by decide +kernel) (by decide +kernel)
theorem w_1147 : Cond.selects "LovePartsModel" ({ cls := "LovePartsModel", name := "image", desc := "(I)I" } : MethodName) ({ cls := "LovePartsModel", name := "image", desc := "(I)I" } : MethodName) ∈ gw := gw_at 1147 (by decide +kernel) (by decide +kernel)
set_option maxRecDepth 100000 in
theorem w_1148 : Cond.code ({ cls := "LovePartsModel", name := "image", desc := "(I)I" } : MethodName) prog_14_method_59_code (3 : Nat) (Option.some FieldType.int) ∈ gw := gw_at 1148 rfl (by decide +kernel)
theorem w_1149 : Cond.methodLink "LovePartsLaw" (134 : Nat) ({ cls := "LovePartsModel", name := "restore", desc := "(I)I" } : MethodName) ∈ gw := gw_at 1149 (by decide +kernel) (by decide +kernel)
theorem w_1150 : Cond.instanceMethod ({ cls := "LovePartsModel", name := "restore", desc := "(I)I" } : MethodName) ∈ gw := gw_at 1150 (by decide +kernel) (by decide +kernel)
theorem w_1151 : Cond.selects "LovePartsModel" ({ cls := "LovePartsModel", name := "restore", desc := "(I)I" } : MethodName) ({ cls := "LovePartsModel", name := "restore", desc := "(I)I" } : MethodName) ∈ gw := gw_at 1151 (by decide +kernel) (by decide +kernel)
set_option maxRecDepth 100000 in
theorem w_1152 : Cond.code ({ cls := "LovePartsModel", name := "restore", desc := "(I)I" } : MethodName) prog_14_method_60_code (3 : Nat) (Option.some FieldType.int) ∈ gw := gw_at 1152 rfl (by decide +kernel)
theorem w_1153 : Cond.methodLink "LovePartsLaw" (138 : Nat) ({ cls := "LovePartsModel", name := "kind", desc := "(I)I" } : MethodName) ∈ gw := gw_at 1153 (by decide +kernel) (by decide +kernel)
theorem w_1154 : Cond.instanceMethod ({ cls := "LovePartsModel", name := "kind", desc := "(I)I" } : MethodName) ∈ gw := gw_at 1154 (by decide +kernel) (by decide +kernel)
theorem w_1155 : Cond.selects "LovePartsModel" ({ cls := "LovePartsModel", name := "kind", desc := "(I)I" } : MethodName) ({ cls := "LovePartsModel", name := "kind", desc := "(I)I" } : MethodName) ∈ gw := gw_at 1155 (by decide +kernel) (by decide +kernel)
set_option maxRecDepth 100000 in
theorem w_1156 : Cond.code ({ cls := "LovePartsModel", name := "kind", desc := "(I)I" } : MethodName) prog_14_method_61_code (2 : Nat) (Option.some FieldType.int) ∈ gw := gw_at 1156 rfl (by decide +kernel)
theorem w_1157 : Cond.methodLink "LovePartsLaw" (142 : Nat) ({ cls := "LovePartsModel", name := "as", desc := "(II)I" } : MethodName) ∈ gw := gw_at 1157 (by decide +kernel) (by decide +kernel)
theorem w_1158 : Cond.instanceMethod ({ cls := "LovePartsModel", name := "as", desc := "(II)I" } : MethodName) ∈ gw := gw_at 1158 (by decide +kernel) (by decide +kernel)
theorem w_1159 : Cond.selects "LovePartsModel" ({ cls := "LovePartsModel", name := "as", desc := "(II)I" } : MethodName) ({ cls := "LovePartsModel", name := "as", desc := "(II)I" } : MethodName) ∈ gw := gw_at 1159 (by decide +kernel) (by decide +kernel)
set_option maxRecDepth 100000 in
theorem w_1160 : Cond.code ({ cls := "LovePartsModel", name := "as", desc := "(II)I" } : MethodName) prog_14_method_63_code (3 : Nat) (Option.some FieldType.int) ∈ gw := gw_at 1160 rfl (by decide +kernel)
theorem w_1161 : Cond.constantLong "LovePartsModel" (235 : Nat) (5 : Int64) ∈ gw := gw_at 1161 (by decide +kernel) (by decide +kernel)
theorem w_1162 : Cond.methodLink "LovePartsModel" (237 : Nat) ({ cls := "LovePartsModel", name := "isKind", desc := "(II)Z" } : MethodName) ∈ gw := gw_at 1162 (by decide +kernel) (by decide +kernel)
theorem w_1163 : Cond.static ({ cls := "LovePartsModel", name := "isKind", desc := "(II)Z" } : MethodName) ∈ gw := gw_at 1163 (by decide +kernel) (by decide +kernel)
set_option maxRecDepth 100000 in
theorem w_1164 : Cond.code ({ cls := "LovePartsModel", name := "isKind", desc := "(II)Z" } : MethodName) prog_14_method_62_code (2 : Nat) (Option.some FieldType.boolean) ∈ gw := gw_at 1164 rfl (by decide +kernel)
theorem w_1165 : Cond.methodLink "LovePartsLaw" (146 : Nat) ({ cls := "LovePartsModel", name := "ask", desc := "(II)I" } : MethodName) ∈ gw := gw_at 1165 (by decide +kernel) (by decide +kernel)
theorem w_1166 : Cond.instanceMethod ({ cls := "LovePartsModel", name := "ask", desc := "(II)I" } : MethodName) ∈ gw := gw_at 1166 (by decide +kernel) (by decide +kernel)
theorem w_1167 : Cond.selects "LovePartsModel" ({ cls := "LovePartsModel", name := "ask", desc := "(II)I" } : MethodName) ({ cls := "LovePartsModel", name := "ask", desc := "(II)I" } : MethodName) ∈ gw := gw_at 1167 (by decide +kernel) (by decide +kernel)
set_option maxRecDepth 100000 in
theorem w_1168 : Cond.code ({ cls := "LovePartsModel", name := "ask", desc := "(II)I" } : MethodName) prog_14_method_72_code (3 : Nat) (Option.some FieldType.int) ∈ gw := gw_at 1168 rfl (by decide +kernel)
theorem w_1169 : Cond.methodLink "LovePartsModel" (264 : Nat) ({ cls := "LovePartsModel", name := "sizeOf", desc := "(I)I" } : MethodName) ∈ gw := gw_at 1169 (by decide +kernel) (by decide +kernel)
theorem w_1171 : Cond.instanceMethod ({ cls := "LovePartsModel", name := "sizeOf", desc := "(I)I" } : MethodName) ∈ gw := gw_at 1171 (by decide +kernel) (by decide +kernel)
set_option maxRecDepth 100000 in
theorem w_1172 : Cond.code ({ cls := "LovePartsModel", name := "sizeOf", desc := "(I)I" } : MethodName) prog_14_method_71_code (3 : Nat) (Option.some FieldType.int) ∈ gw := gw_at 1172 rfl (by decide +kernel)
theorem w_1173 : Cond.methodLink "LovePartsModel" (243 : Nat) ({ cls := "LovePartsModel", name := "begin", desc := "(I)V" } : MethodName) ∈ gw := gw_at 1173 (by decide +kernel) (by decide +kernel)
theorem w_1175 : Cond.instanceMethod ({ cls := "LovePartsModel", name := "begin", desc := "(I)V" } : MethodName) ∈ gw := gw_at 1175 (by decide +kernel) (by decide +kernel)
set_option maxRecDepth 100000 in
theorem w_1176 : Cond.code ({ cls := "LovePartsModel", name := "begin", desc := "(I)V" } : MethodName) prog_14_method_64_code (2 : Nat) (Option.none : Option ClassFile.FieldType) ∈ gw := gw_at 1176 rfl (by decide +kernel)
theorem w_1177 : Cond.methodLink "LovePartsModel" (261 : Nat) ({ cls := "LovePartsModel", name := "plainSize", desc := "(I)I" } : MethodName) ∈ gw := gw_at 1177 (by decide +kernel) (by decide +kernel)
theorem w_1179 : Cond.instanceMethod ({ cls := "LovePartsModel", name := "plainSize", desc := "(I)I" } : MethodName) ∈ gw := gw_at 1179 (by decide +kernel) (by decide +kernel)
set_option maxRecDepth 100000 in
theorem w_1180 : Cond.code ({ cls := "LovePartsModel", name := "plainSize", desc := "(I)I" } : MethodName) prog_14_method_70_code (3 : Nat) (Option.some FieldType.int) ∈ gw := gw_at 1180 rfl (by decide +kernel)
theorem w_1181 : Cond.methodLink "LovePartsModel" (246 : Nat) ({ cls := "LovePartsModel", name := "lent", desc := "(II)I" } : MethodName) ∈ gw := gw_at 1181 (by decide +kernel) (by decide +kernel)
theorem w_1183 : Cond.instanceMethod ({ cls := "LovePartsModel", name := "lent", desc := "(II)I" } : MethodName) ∈ gw := gw_at 1183 (by decide +kernel) (by decide +kernel)
set_option maxRecDepth 100000 in
theorem w_1184 : Cond.code ({ cls := "LovePartsModel", name := "lent", desc := "(II)I" } : MethodName) prog_14_method_65_code (3 : Nat) (Option.some FieldType.int) ∈ gw := gw_at 1184 rfl (by decide +kernel)
theorem w_1185 : Cond.methodLink "LovePartsModel" (258 : Nat) ({ cls := "LovePartsModel", name := "markOf", desc := "(I)I" } : MethodName) ∈ gw := gw_at 1185 (by decide +kernel) (by decide +kernel)
theorem w_1187 : Cond.instanceMethod ({ cls := "LovePartsModel", name := "markOf", desc := "(I)I" } : MethodName) ∈ gw := gw_at 1187 (by decide +kernel) (by decide +kernel)
set_option maxRecDepth 100000 in
theorem w_1188 : Cond.code ({ cls := "LovePartsModel", name := "markOf", desc := "(I)I" } : MethodName) prog_14_method_69_code (4 : Nat) (Option.some FieldType.int) ∈ gw := gw_at 1188 rfl (by decide +kernel)
theorem w_1189 : Cond.methodLink "LovePartsModel" (252 : Nat) ({ cls := "LovePartsModel", name := "plainMark", desc := "(I)I" } : MethodName) ∈ gw := gw_at 1189 (by decide +kernel) (by decide +kernel)
theorem w_1191 : Cond.instanceMethod ({ cls := "LovePartsModel", name := "plainMark", desc := "(I)I" } : MethodName) ∈ gw := gw_at 1191 (by decide +kernel) (by decide +kernel)
set_option maxRecDepth 100000 in
theorem w_1192 : Cond.code ({ cls := "LovePartsModel", name := "plainMark", desc := "(I)I" } : MethodName) prog_14_method_66_code (2 : Nat) (Option.some FieldType.int) ∈ gw := gw_at 1192 rfl (by decide +kernel)
theorem w_1193 : Cond.methodLink "LovePartsModel" (255 : Nat) ({ cls := "LovePartsModel", name := "sizeOfSilent", desc := "(I)I" } : MethodName) ∈ gw := gw_at 1193 (by decide +kernel) (by decide +kernel)
theorem w_1195 : Cond.instanceMethod ({ cls := "LovePartsModel", name := "sizeOfSilent", desc := "(I)I" } : MethodName) ∈ gw := gw_at 1195 (by decide +kernel) (by decide +kernel)
set_option maxRecDepth 100000 in
theorem w_1196 : Cond.code ({ cls := "LovePartsModel", name := "sizeOfSilent", desc := "(I)I" } : MethodName) prog_14_method_68_code (2 : Nat) (Option.some FieldType.int) ∈ gw := gw_at 1196 rfl (by decide +kernel)
theorem w_1197 : Cond.methodLink "LovePartsModel" (249 : Nat) ({ cls := "LovePartsModel", name := "silentSize", desc := "(I)I" } : MethodName) ∈ gw := gw_at 1197 (by decide +kernel) (by decide +kernel)
theorem w_1199 : Cond.instanceMethod ({ cls := "LovePartsModel", name := "silentSize", desc := "(I)I" } : MethodName) ∈ gw := gw_at 1199 (by decide +kernel) (by decide +kernel)
set_option maxRecDepth 100000 in
theorem w_1200 : Cond.code ({ cls := "LovePartsModel", name := "silentSize", desc := "(I)I" } : MethodName) prog_14_method_67_code (2 : Nat) (Option.some FieldType.int) ∈ gw := gw_at 1200 rfl (by decide +kernel)
theorem w_1201 : Cond.methodLink "LovePartsLaw" (150 : Nat) ({ cls := "LovePartsModel", name := "trace", desc := "(I)I" } : MethodName) ∈ gw := gw_at 1201 (by decide +kernel) (by decide +kernel)
theorem w_1202 : Cond.instanceMethod ({ cls := "LovePartsModel", name := "trace", desc := "(I)I" } : MethodName) ∈ gw := gw_at 1202 (by decide +kernel) (by decide +kernel)
theorem w_1203 : Cond.selects "LovePartsModel" ({ cls := "LovePartsModel", name := "trace", desc := "(I)I" } : MethodName) ({ cls := "LovePartsModel", name := "trace", desc := "(I)I" } : MethodName) ∈ gw := gw_at 1203 (by decide +kernel) (by decide +kernel)
set_option maxRecDepth 100000 in
theorem w_1204 : Cond.code ({ cls := "LovePartsModel", name := "trace", desc := "(I)I" } : MethodName) prog_14_method_73_code (2 : Nat) (Option.some FieldType.int) ∈ gw := gw_at 1204 rfl (by decide +kernel)
theorem w_1205 : Cond.methodLink "LovePartsLaw" (154 : Nat) ({ cls := "LovePartsModel", name := "count", desc := "(I)I" } : MethodName) ∈ gw := gw_at 1205 (by decide +kernel) (by decide +kernel)
theorem w_1206 : Cond.instanceMethod ({ cls := "LovePartsModel", name := "count", desc := "(I)I" } : MethodName) ∈ gw := gw_at 1206 (by decide +kernel) (by decide +kernel)
theorem w_1207 : Cond.selects "LovePartsModel" ({ cls := "LovePartsModel", name := "count", desc := "(I)I" } : MethodName) ({ cls := "LovePartsModel", name := "count", desc := "(I)I" } : MethodName) ∈ gw := gw_at 1207 (by decide +kernel) (by decide +kernel)
set_option maxRecDepth 100000 in
theorem w_1208 : Cond.code ({ cls := "LovePartsModel", name := "count", desc := "(I)I" } : MethodName) prog_14_method_74_code (4 : Nat) (Option.some FieldType.int) ∈ gw := gw_at 1208 rfl (by decide +kernel)
theorem w_1209 : Cond.methodLink "LovePartsLaw" (158 : Nat) ({ cls := "LovePartsModel", name := "status", desc := "()I" } : MethodName) ∈ gw := gw_at 1209 (by decide +kernel) (by decide +kernel)
theorem w_1210 : Cond.instanceMethod ({ cls := "LovePartsModel", name := "status", desc := "()I" } : MethodName) ∈ gw := gw_at 1210 (by decide +kernel) (by decide +kernel)
theorem w_1211 : Cond.selects "LovePartsModel" ({ cls := "LovePartsModel", name := "status", desc := "()I" } : MethodName) ({ cls := "LovePartsModel", name := "status", desc := "()I" } : MethodName) ∈ gw := gw_at 1211 (by decide +kernel) (by decide +kernel)
set_option maxRecDepth 100000 in
theorem w_1212 : Cond.code ({ cls := "LovePartsModel", name := "status", desc := "()I" } : MethodName) prog_14_method_75_code (1 : Nat) (Option.some FieldType.int) ∈ gw := gw_at 1212 rfl (by decide +kernel)
theorem w_1213 : Cond.sameMethod "LoveParts$Silent" "LoveParts$Silent" "size" "(LLoveParts$Heir;LLoveParts$Trace;)I" ∈ gw := gw_at 1213 (by decide +kernel) (by decide +kernel)
theorem w_1214 : Cond.sameMethod "LoveParts$Nature" "LoveParts$Nature" "mark" "(LLoveParts$Heir;LLoveParts$Trace;)I" ∈ gw := gw_at 1214 (by decide +kernel) (by decide +kernel)
theorem w_1215 : Cond.sameMethod "LoveParts$Plain" "LoveParts$Plain" "size" "(LLoveParts$Heir;LLoveParts$Trace;)I" ∈ gw := gw_at 1215 (by decide +kernel) (by decide +kernel)
theorem w_1216 : Cond.selects "LoveParts$Ironic" ({ cls := "LoveParts$Nature", name := "mark", desc := "(LLoveParts$Heir;LLoveParts$Trace;)I" } : MethodName) ({ cls := "LoveParts$Silent", name := "mark", desc := "(LLoveParts$Heir;LLoveParts$Trace;)I" } : MethodName) ∈ gw := gw_at 1216 (by decide +kernel) (by decide +kernel)
theorem w_1217 : Cond.selects "LoveParts$Ironic" ({ cls := "LoveParts$Silent", name := "size", desc := "(LLoveParts$Heir;LLoveParts$Trace;)I" } : MethodName) ({ cls := "LoveParts$Ironic", name := "size", desc := "(LLoveParts$Heir;LLoveParts$Trace;)I" } : MethodName) ∈ gw := gw_at 1217 (by decide +kernel) (by decide +kernel)
theorem w_1218 : Cond.selects "LoveParts$Silent" ({ cls := "LoveParts$Silent", name := "size", desc := "(LLoveParts$Heir;LLoveParts$Trace;)I" } : MethodName) ({ cls := "LoveParts$Silent", name := "size", desc := "(LLoveParts$Heir;LLoveParts$Trace;)I" } : MethodName) ∈ gw := gw_at 1218 (by decide +kernel) (by decide +kernel)
theorem w_1219 : Cond.selects "LoveParts$Joint" ({ cls := "LoveParts$Nature", name := "mark", desc := "(LLoveParts$Heir;LLoveParts$Trace;)I" } : MethodName) ({ cls := "LoveParts$Joint", name := "mark", desc := "(LLoveParts$Heir;LLoveParts$Trace;)I" } : MethodName) ∈ gw := gw_at 1219 (by decide +kernel) (by decide +kernel)
theorem w_1220 : Cond.selects "LoveParts$Plain" ({ cls := "LoveParts$Nature", name := "mark", desc := "(LLoveParts$Heir;LLoveParts$Trace;)I" } : MethodName) ({ cls := "LoveParts$Plain", name := "mark", desc := "(LLoveParts$Heir;LLoveParts$Trace;)I" } : MethodName) ∈ gw := gw_at 1220 (by decide +kernel) (by decide +kernel)
theorem w_1221 : Cond.selects "LoveParts$Schooled" ({ cls := "LoveParts$Nature", name := "mark", desc := "(LLoveParts$Heir;LLoveParts$Trace;)I" } : MethodName) ({ cls := "LoveParts$Schooled", name := "mark", desc := "(LLoveParts$Heir;LLoveParts$Trace;)I" } : MethodName) ∈ gw := gw_at 1221 (by decide +kernel) (by decide +kernel)
theorem w_1222 : Cond.selects "LoveParts$Silent" ({ cls := "LoveParts$Nature", name := "mark", desc := "(LLoveParts$Heir;LLoveParts$Trace;)I" } : MethodName) ({ cls := "LoveParts$Silent", name := "mark", desc := "(LLoveParts$Heir;LLoveParts$Trace;)I" } : MethodName) ∈ gw := gw_at 1222 (by decide +kernel) (by decide +kernel)
theorem vX0_init : VM yX0_init cX0_init 3 none "LoveParts$Heir" 2 := ⟨rfl, ⟨by decide, by decide⟩, by decide +kernel, w_63, w_178⟩
theorem vX0_say : VM yX0_say cX0_say 3 none "LoveParts$Heir" 2 := ⟨rfl, ⟨by decide, by decide⟩, by decide +kernel, w_63, w_521⟩
theorem vX0_begin : VM yX0_begin cX0_begin 1 none "LoveParts$Heir" 0 := ⟨rfl, ⟨by decide, by decide⟩, by decide +kernel, w_63, w_437⟩
theorem vX0_take : VM yX0_take cX0_take 2 none "LoveParts$Heir" 1 := ⟨rfl, ⟨by decide, by decide⟩, by decide +kernel, w_63, w_466⟩
theorem vX1_init : VM yX1_init cX1_init 1 none "LoveParts$Ironic" 0 := ⟨rfl, ⟨by decide, by decide⟩, by decide +kernel, w_61, w_165⟩
theorem vX1_number : VM yX1_number cX1_number 1 (some .int) "LoveParts$Ironic" 0 := ⟨rfl, ⟨by decide, by decide⟩, by decide +kernel, w_61, w_718⟩
theorem vX1_own : VM yX1_own cX1_own 3 (some .int) "LoveParts$Ironic" 2 := ⟨rfl, ⟨by decide, by decide⟩, by decide +kernel, w_61, w_497⟩
theorem vX1_size : VM yX1_size cX1_size 3 (some .int) "LoveParts$Ironic" 2 := ⟨rfl, ⟨by decide, by decide⟩, by decide +kernel, w_61, w_747⟩
theorem vX2_init : VM yX2_init cX2_init 1 none "LoveParts$Joint" 0 := ⟨rfl, ⟨by decide, by decide⟩, by decide +kernel, w_59, w_151⟩
theorem vX2_number : VM yX2_number cX2_number 1 (some .int) "LoveParts$Joint" 0 := ⟨rfl, ⟨by decide, by decide⟩, by decide +kernel, w_59, w_721⟩
theorem vX2_own : VM yX2_own cX2_own 3 (some .int) "LoveParts$Joint" 2 := ⟨rfl, ⟨by decide, by decide⟩, by decide +kernel, w_59, w_500⟩
theorem vX2_mark : VM yX2_mark cX2_mark 3 (some .int) "LoveParts$Joint" 2 := ⟨rfl, ⟨by decide, by decide⟩, by decide +kernel, w_59, w_768⟩
theorem vX3_init : VM yX3_init cX3_init 1 none "LoveParts$Nature" 0 := ⟨rfl, ⟨by decide, by decide⟩, by decide +kernel, w_56, w_137⟩
theorem vX3_size : VM yX3_size cX3_size 3 (some .int) "LoveParts$Nature" 2 := ⟨rfl, ⟨by decide, by decide⟩, by decide +kernel, w_56, w_787⟩
theorem vX3_mark : VM yX3_mark cX3_mark 3 (some .int) "LoveParts$Nature" 2 := ⟨rfl, ⟨by decide, by decide⟩, by decide +kernel, w_56, w_779⟩
theorem vX4_init : VM yX4_init cX4_init 1 none "LoveParts$Plain" 0 := ⟨rfl, ⟨by decide, by decide⟩, by decide +kernel, w_57, w_134⟩
theorem vX4_number : VM yX4_number cX4_number 1 (some .int) "LoveParts$Plain" 0 := ⟨rfl, ⟨by decide, by decide⟩, by decide +kernel, w_57, w_724⟩
theorem vX4_own : VM yX4_own cX4_own 3 (some .int) "LoveParts$Plain" 2 := ⟨rfl, ⟨by decide, by decide⟩, by decide +kernel, w_57, w_503⟩
theorem vX4_size : VM yX4_size cX4_size 3 (some .int) "LoveParts$Plain" 2 := ⟨rfl, ⟨by decide, by decide⟩, by decide +kernel, w_57, w_759⟩
theorem vX4_mark : VM yX4_mark cX4_mark 3 (some .int) "LoveParts$Plain" 2 := ⟨rfl, ⟨by decide, by decide⟩, by decide +kernel, w_57, w_776⟩
theorem vX5_init : VM yX5_init cX5_init 1 none "LoveParts$Reader" 0 := ⟨rfl, ⟨by decide, by decide⟩, by decide +kernel, w_54, w_82⟩
theorem vX5_read : VM yX5_read cX5_read 3 none "LoveParts$Reader" 2 := ⟨rfl, ⟨by decide, by decide⟩, by decide +kernel, w_54, w_418⟩
theorem vX5_readLaw : VM yX5_readLaw cX5_readLaw 2 none "LoveParts$Reader" 1 := ⟨rfl, ⟨by decide, by decide⟩, by decide +kernel, w_54, w_441⟩
theorem vX5_readHeirs : VM yX5_readHeirs cX5_readHeirs 6 none "LoveParts$Reader" 2 := ⟨rfl, ⟨by decide, by decide⟩, by decide +kernel, w_54, w_454⟩
theorem vX5_kindBySort : VM yX5_kindBySort cX5_kindBySort 1 (some .int) "LoveParts$Reader" 1 := ⟨rfl, ⟨by decide, by decide⟩, by decide +kernel, w_54, w_457⟩
theorem vX5_sign : VM yX5_sign cX5_sign 2 none "LoveParts$Reader" 1 := ⟨rfl, ⟨by decide, by decide⟩, by decide +kernel, w_54, w_445⟩
theorem vX5_number : VM yX5_number cX5_number 4 (some .int) "LoveParts$Reader" 2 := ⟨rfl, ⟨by decide, by decide⟩, by decide +kernel, w_54, w_449⟩
theorem vX5_nextToken : VM yX5_nextToken cX5_nextToken 2 none "LoveParts$Reader" 0 := ⟨rfl, ⟨by decide, by decide⟩, by decide +kernel, w_54, w_422⟩
theorem vX5_readFigures : VM yX5_readFigures cX5_readFigures 1 none "LoveParts$Reader" 0 := ⟨rfl, ⟨by decide, by decide⟩, by decide +kernel, w_54, w_429⟩
theorem vX5_isFigure : VM yX5_isFigure cX5_isFigure 1 (some .boolean) "LoveParts$Reader" 1 := ⟨rfl, ⟨by decide, by decide⟩, by decide +kernel, w_54, w_425⟩
theorem vX6_init : VM yX6_init cX6_init 3 none "LoveParts$Realm" 1 := ⟨rfl, ⟨by decide, by decide⟩, by decide +kernel, w_62, w_171⟩
theorem vX6_begin : VM yX6_begin cX6_begin 2 none "LoveParts$Realm" 0 := ⟨rfl, ⟨by decide, by decide⟩, by decide +kernel, w_62, w_433⟩
theorem vX6_take : VM yX6_take cX6_take 3 none "LoveParts$Realm" 1 := ⟨rfl, ⟨by decide, by decide⟩, by decide +kernel, w_62, w_462⟩
theorem vX6_ownWords : VM yX6_ownWords cX6_ownWords 4 (some .int) "LoveParts$Realm" 1 := ⟨rfl, ⟨by decide, by decide⟩, by decide +kernel, w_62, w_491⟩
theorem vX6_says : VM yX6_says cX6_says 2 (some .int) "LoveParts$Realm" 1 := ⟨rfl, ⟨by decide, by decide⟩, by decide +kernel, w_62, w_541⟩
theorem vX6_weight : VM yX6_weight cX6_weight 3 (some .int) "LoveParts$Realm" 3 := ⟨rfl, ⟨by decide, by decide⟩, by decide +kernel, w_62, w_545⟩
theorem vX6_weigh : VM yX6_weigh cX6_weigh 4 none "LoveParts$Realm" 2 := ⟨rfl, ⟨by decide, by decide⟩, by decide +kernel, w_62, w_537⟩
theorem vX6_cut : VM yX6_cut cX6_cut 8 none "LoveParts$Realm" 2 := ⟨rfl, ⟨by decide, by decide⟩, by decide +kernel, w_62, w_549⟩
theorem vX6_divide : VM yX6_divide cX6_divide 3 none "LoveParts$Realm" 2 := ⟨rfl, ⟨by decide, by decide⟩, by decide +kernel, w_62, w_533⟩
theorem vX6_allowedBy : VM yX6_allowedBy cX6_allowedBy 4 (some .int) "LoveParts$Realm" 1 := ⟨rfl, ⟨by decide, by decide⟩, by decide +kernel, w_62, w_569⟩
theorem vX6_passMonth : VM yX6_passMonth cX6_passMonth 3 none "LoveParts$Realm" 0 := ⟨rfl, ⟨by decide, by decide⟩, by decide +kernel, w_62, w_565⟩
theorem vX6_brokenByAll : VM yX6_brokenByAll cX6_brokenByAll 3 (some .int) "LoveParts$Realm" 0 := ⟨rfl, ⟨by decide, by decide⟩, by decide +kernel, w_62, w_649⟩
theorem vX7_init : VM yX7_init cX7_init 1 none "LoveParts$Row" 0 := ⟨rfl, ⟨by decide, by decide⟩, by decide +kernel, w_64, w_290⟩
theorem vX7_missing : VM yX7_missing cX7_missing 1 (some .boolean) "LoveParts$Row" 0 := ⟨rfl, ⟨by decide, by decide⟩, by decide +kernel, w_64, w_382⟩
theorem vX7_begin : VM yX7_begin cX7_begin 4 none "LoveParts$Row" 2 := ⟨rfl, ⟨by decide, by decide⟩, by decide +kernel, w_64, w_370⟩
theorem vX7_end : VM yX7_end cX7_end 1 none "LoveParts$Row" 0 := ⟨rfl, ⟨by decide, by decide⟩, by decide +kernel, w_64, w_405⟩
theorem vX7_holds : VM yX7_holds cX7_holds 3 (some .boolean) "LoveParts$Row" 2 := ⟨rfl, ⟨by decide, by decide⟩, by decide +kernel, w_64, w_386⟩
theorem vX7_fitted : VM yX7_fitted cX7_fitted 2 (some .int) "LoveParts$Row" 1 := ⟨rfl, ⟨by decide, by decide⟩, by decide +kernel, w_64, w_390⟩
theorem vX7_tells : VM yX7_tells cX7_tells 5 (some .boolean) "LoveParts$Row" 3 := ⟨rfl, ⟨by decide, by decide⟩, by decide +kernel, w_64, w_669⟩
theorem vX8_init : VM yX8_init cX8_init 1 none "LoveParts$Schooled" 0 := ⟨rfl, ⟨by decide, by decide⟩, by decide +kernel, w_58, w_144⟩
theorem vX8_number : VM yX8_number cX8_number 1 (some .int) "LoveParts$Schooled" 0 := ⟨rfl, ⟨by decide, by decide⟩, by decide +kernel, w_58, w_727⟩
theorem vX8_own : VM yX8_own cX8_own 3 (some .int) "LoveParts$Schooled" 2 := ⟨rfl, ⟨by decide, by decide⟩, by decide +kernel, w_58, w_506⟩
theorem vX8_size : VM yX8_size cX8_size 3 (some .int) "LoveParts$Schooled" 2 := ⟨rfl, ⟨by decide, by decide⟩, by decide +kernel, w_58, w_784⟩
theorem vX8_mark : VM yX8_mark cX8_mark 3 (some .int) "LoveParts$Schooled" 2 := ⟨rfl, ⟨by decide, by decide⟩, by decide +kernel, w_58, w_773⟩
theorem vX9_init : VM yX9_init cX9_init 1 none "LoveParts$Silent" 0 := ⟨rfl, ⟨by decide, by decide⟩, by decide +kernel, w_60, w_158⟩
theorem vX9_number : VM yX9_number cX9_number 1 (some .int) "LoveParts$Silent" 0 := ⟨rfl, ⟨by decide, by decide⟩, by decide +kernel, w_60, w_730⟩
theorem vX9_own : VM yX9_own cX9_own 3 (some .int) "LoveParts$Silent" 2 := ⟨rfl, ⟨by decide, by decide⟩, by decide +kernel, w_60, w_509⟩
theorem vX9_size : VM yX9_size cX9_size 3 (some .int) "LoveParts$Silent" 2 := ⟨rfl, ⟨by decide, by decide⟩, by decide +kernel, w_60, w_754⟩
theorem vX9_mark : VM yX9_mark cX9_mark 3 (some .int) "LoveParts$Silent" 2 := ⟨rfl, ⟨by decide, by decide⟩, by decide +kernel, w_60, w_790⟩
theorem vX10_init : VM yX10_init cX10_init 1 none "LoveParts$Trace" 0 := ⟨rfl, ⟨by decide, by decide⟩, by decide +kernel, w_55, w_117⟩
theorem vX10_leave : VM yX10_leave cX10_leave 2 none "LoveParts$Trace" 1 := ⟨rfl, ⟨by decide, by decide⟩, by decide +kernel, w_55, w_751⟩
theorem vX11_init : VM yX11_init cX11_init 3 none "LoveParts" 0 := ⟨rfl, ⟨by decide, by decide⟩, by decide +kernel, w_53, w_72⟩
theorem vX11_row : VM yX11_row cX11_row 4 (some .int) "LoveParts" 3 := ⟨rfl, ⟨by decide, by decide⟩, by decide +kernel, w_53, w_357⟩
theorem vX11_set : VM yX11_set cX11_set 5 (some .int) "LoveParts" 3 := ⟨rfl, ⟨by decide, by decide⟩, by decide +kernel, w_53, w_378⟩
theorem vX11_copy : VM yX11_copy cX11_copy 8 (some .int) "LoveParts" 5 := ⟨rfl, ⟨by decide, by decide⟩, by decide +kernel, w_53, w_394⟩
theorem vX11_drop : VM yX11_drop cX11_drop 4 (some .int) "LoveParts" 1 := ⟨rfl, ⟨by decide, by decide⟩, by decide +kernel, w_53, w_401⟩
theorem vX11_feed : VM yX11_feed cX11_feed 2 (some .int) "LoveParts" 1 := ⟨rfl, ⟨by decide, by decide⟩, by decide +kernel, w_53, w_409⟩
theorem vX11_realm : VM yX11_realm cX11_realm 1 (some .int) "LoveParts" 0 := ⟨rfl, ⟨by decide, by decide⟩, by decide +kernel, w_53, w_414⟩
theorem vX11_fault : VM yX11_fault cX11_fault 1 (some .int) "LoveParts" 0 := ⟨rfl, ⟨by decide, by decide⟩, by decide +kernel, w_53, w_474⟩
theorem vX11_undo : VM yX11_undo cX11_undo 1 (some .int) "LoveParts" 0 := ⟨rfl, ⟨by decide, by decide⟩, by decide +kernel, w_53, w_478⟩
theorem vX11_speak : VM yX11_speak cX11_speak 5 (some .int) "LoveParts" 3 := ⟨rfl, ⟨by decide, by decide⟩, by decide +kernel, w_53, w_483⟩
theorem vX11_part : VM yX11_part cX11_part 2 (some .int) "LoveParts" 0 := ⟨rfl, ⟨by decide, by decide⟩, by decide +kernel, w_53, w_525⟩
theorem vX11_rule : VM yX11_rule cX11_rule 3 (some .int) "LoveParts" 1 := ⟨rfl, ⟨by decide, by decide⟩, by decide +kernel, w_53, w_557⟩
theorem vX11_months : VM yX11_months cX11_months 3 (some .int) "LoveParts" 1 := ⟨rfl, ⟨by decide, by decide⟩, by decide +kernel, w_53, w_561⟩
theorem vX11_letter : VM yX11_letter cX11_letter 4 (some .int) "LoveParts" 2 := ⟨rfl, ⟨by decide, by decide⟩, by decide +kernel, w_53, w_576⟩
theorem vX11_heir : VM yX11_heir cX11_heir 4 (some .int) "LoveParts" 2 := ⟨rfl, ⟨by decide, by decide⟩, by decide +kernel, w_53, w_581⟩
theorem vX11_king : VM yX11_king cX11_king 2 (some .int) "LoveParts" 1 := ⟨rfl, ⟨by decide, by decide⟩, by decide +kernel, w_53, w_586⟩
theorem vX11_share : VM yX11_share cX11_share 3 (some .int) "LoveParts" 2 := ⟨rfl, ⟨by decide, by decide⟩, by decide +kernel, w_53, w_590⟩
theorem vX11_best : VM yX11_best cX11_best 4 (some .int) "LoveParts" 2 := ⟨rfl, ⟨by decide, by decide⟩, by decide +kernel, w_53, w_594⟩
theorem vX11_rather : VM yX11_rather cX11_rather 3 (some .int) "LoveParts" 0 := ⟨rfl, ⟨by decide, by decide⟩, by decide +kernel, w_53, w_608⟩
theorem vX11_trueRule : VM yX11_trueRule cX11_trueRule 3 (some .int) "LoveParts" 0 := ⟨rfl, ⟨by decide, by decide⟩, by decide +kernel, w_53, w_616⟩
theorem vX11_order : VM yX11_order cX11_order 4 (some .int) "LoveParts" 2 := ⟨rfl, ⟨by decide, by decide⟩, by decide +kernel, w_53, w_629⟩
theorem vX11_ahead : VM yX11_ahead cX11_ahead 4 (some .int) "LoveParts" 2 := ⟨rfl, ⟨by decide, by decide⟩, by decide +kernel, w_53, w_645⟩
theorem vX11_down : VM yX11_down cX11_down 3 (some .int) "LoveParts" 1 := ⟨rfl, ⟨by decide, by decide⟩, by decide +kernel, w_53, w_653⟩
theorem vX11_loves : VM yX11_loves cX11_loves 10 (some .int) "LoveParts" 5 := ⟨rfl, ⟨by decide, by decide⟩, by decide +kernel, w_53, w_657⟩
theorem vX11_map : VM yX11_map cX11_map 6 (some .int) "LoveParts" 2 := ⟨rfl, ⟨by decide, by decide⟩, by decide +kernel, w_53, w_665⟩
theorem vX11_who : VM yX11_who cX11_who 7 (some .int) "LoveParts" 3 := ⟨rfl, ⟨by decide, by decide⟩, by decide +kernel, w_53, w_673⟩
theorem vX11_odds : VM yX11_odds cX11_odds 10 (some .long) "LoveParts" 3 := ⟨rfl, ⟨by decide, by decide⟩, by decide +kernel, w_53, w_677⟩
theorem vX11_drawn : VM yX11_drawn cX11_drawn 7 (some .int) "LoveParts" 3 := ⟨rfl, ⟨by decide, by decide⟩, by decide +kernel, w_53, w_697⟩
theorem vX11_image : VM yX11_image cX11_image 2 (some .int) "LoveParts" 1 := ⟨rfl, ⟨by decide, by decide⟩, by decide +kernel, w_53, w_704⟩
theorem vX11_restore : VM yX11_restore cX11_restore 2 (some .int) "LoveParts" 1 := ⟨rfl, ⟨by decide, by decide⟩, by decide +kernel, w_53, w_708⟩
theorem vX11_kind : VM yX11_kind cX11_kind 2 (some .int) "LoveParts" 1 := ⟨rfl, ⟨by decide, by decide⟩, by decide +kernel, w_53, w_712⟩
theorem vX11_as : VM yX11_as cX11_as 3 (some .int) "LoveParts" 2 := ⟨rfl, ⟨by decide, by decide⟩, by decide +kernel, w_53, w_734⟩
theorem vX11_ask : VM yX11_ask cX11_ask 4 (some .int) "LoveParts" 2 := ⟨rfl, ⟨by decide, by decide⟩, by decide +kernel, w_53, w_741⟩
theorem vX11_trace : VM yX11_trace cX11_trace 2 (some .int) "LoveParts" 1 := ⟨rfl, ⟨by decide, by decide⟩, by decide +kernel, w_53, w_796⟩
theorem vX11_count : VM yX11_count cX11_count 2 (some .int) "LoveParts" 1 := ⟨rfl, ⟨by decide, by decide⟩, by decide +kernel, w_53, w_800⟩
theorem vX11_status : VM yX11_status cX11_status 1 (some .int) "LoveParts" 0 := ⟨rfl, ⟨by decide, by decide⟩, by decide +kernel, w_53, w_808⟩
theorem vX11_within : VM yX11_within cX11_within 3 (some .boolean) "LoveParts" 3 := ⟨rfl, ⟨by decide, by decide⟩, by decide +kernel, w_53, w_360⟩
theorem vX11_noRealm : VM yX11_noRealm cX11_noRealm 1 (some .boolean) "LoveParts" 0 := ⟨rfl, ⟨by decide, by decide⟩, by decide +kernel, w_53, w_529⟩
theorem vX11_isHeir : VM yX11_isHeir cX11_isHeir 2 (some .boolean) "LoveParts" 1 := ⟨rfl, ⟨by decide, by decide⟩, by decide +kernel, w_53, w_487⟩
theorem vX11_found : VM yX11_found cX11_found 2 (some .int) "LoveParts" 1 := ⟨rfl, ⟨by decide, by decide⟩, by decide +kernel, w_53, w_365⟩
theorem vX11_foundNothing : VM yX11_foundNothing cX11_foundNothing 2 (some .int) "LoveParts" 1 := ⟨rfl, ⟨by decide, by decide⟩, by decide +kernel, w_53, w_374⟩
theorem vX11_rowsThere : VM yX11_rowsThere cX11_rowsThere 3 (some .int) "LoveParts" 0 := ⟨rfl, ⟨by decide, by decide⟩, by decide +kernel, w_53, w_804⟩
theorem vX11_keepForUndo : VM yX11_keepForUndo cX11_keepForUndo 1 none "LoveParts" 0 := ⟨rfl, ⟨by decide, by decide⟩, by decide +kernel, w_53, w_516⟩
theorem vX11_forgetActs : VM yX11_forgetActs cX11_forgetActs 1 none "LoveParts" 0 := ⟨rfl, ⟨by decide, by decide⟩, by decide +kernel, w_53, w_470⟩
theorem vX11_firstGreatest : VM yX11_firstGreatest cX11_firstGreatest 4 (some .int) "LoveParts" 2 := ⟨rfl, ⟨by decide, by decide⟩, by decide +kernel, w_53, w_552⟩
theorem vX11_isOfKind : VM yX11_isOfKind cX11_isOfKind 2 (some .boolean) "LoveParts" 2 := ⟨rfl, ⟨by decide, by decide⟩, by decide +kernel, w_53, w_737⟩
theorem vX11_gainNow : VM yX11_gainNow cX11_gainNow 2 (some .int) "LoveParts" 1 := ⟨rfl, ⟨by decide, by decide⟩, by decide +kernel, w_53, w_612⟩
theorem vX11_gainBySpeech : VM yX11_gainBySpeech cX11_gainBySpeech 4 (some .int) "LoveParts" 2 := ⟨rfl, ⟨by decide, by decide⟩, by decide +kernel, w_53, w_604⟩
theorem vX11_bestSpeech : VM yX11_bestSpeech cX11_bestSpeech 9 (some .int) "LoveParts" 1 := ⟨rfl, ⟨by decide, by decide⟩, by decide +kernel, w_53, w_598⟩
theorem vX11_truestHeir : VM yX11_truestHeir cX11_truestHeir 3 (some .int) "LoveParts" 0 := ⟨rfl, ⟨by decide, by decide⟩, by decide +kernel, w_53, w_620⟩
theorem vX11_truestGetsMost : VM yX11_truestGetsMost cX11_truestGetsMost 5 (some .boolean) "LoveParts" 2 := ⟨rfl, ⟨by decide, by decide⟩, by decide +kernel, w_53, w_624⟩
theorem vX11_findBestHosts : VM yX11_findBestHosts cX11_findBestHosts 6 (some .int) "LoveParts" 1 := ⟨rfl, ⟨by decide, by decide⟩, by decide +kernel, w_53, w_633⟩
theorem vX11_isOrder : VM yX11_isOrder cX11_isOrder 5 (some .boolean) "LoveParts" 1 := ⟨rfl, ⟨by decide, by decide⟩, by decide +kernel, w_53, w_637⟩
theorem vX11_knightsByHosts : VM yX11_knightsByHosts cX11_knightsByHosts 3 (some .int) "LoveParts" 1 := ⟨rfl, ⟨by decide, by decide⟩, by decide +kernel, w_53, w_641⟩
theorem vX11_knightsGoAs : VM yX11_knightsGoAs cX11_knightsGoAs 5 (some .boolean) "LoveParts" 3 := ⟨rfl, ⟨by decide, by decide⟩, by decide +kernel, w_53, w_661⟩
theorem vX11_casesOf : VM yX11_casesOf cX11_casesOf 6 (some .int) "LoveParts" 2 := ⟨rfl, ⟨by decide, by decide⟩, by decide +kernel, w_53, w_682⟩
theorem vX11_greatestWithLiars : VM yX11_greatestWithLiars cX11_greatestWithLiars 3 (some .int) "LoveParts" 1 := ⟨rfl, ⟨by decide, by decide⟩, by decide +kernel, w_53, w_686⟩
theorem vX11_commonDivisor : VM yX11_commonDivisor cX11_commonDivisor 11 (some .long) "LoveParts" 2 := ⟨rfl, ⟨by decide, by decide⟩, by decide +kernel, w_53, w_690⟩
theorem vX12_init : VM yX12_init cX12_init 2 none "LovePartsModel" 0 := ⟨rfl, ⟨by decide, by decide⟩, by decide +kernel, w_65, w_813⟩
theorem vX12_in : VM yX12_in cX12_in 6 (some .boolean) "LovePartsModel" 3 := ⟨rfl, ⟨by decide, by decide⟩, by decide +kernel, w_65, w_905⟩
theorem vX12_has : VM yX12_has cX12_has 2 (some .boolean) "LovePartsModel" 2 := ⟨rfl, ⟨by decide, by decide⟩, by decide +kernel, w_65, w_1137⟩
theorem vX12_find : VM yX12_find cX12_find 2 (some .int) "LovePartsModel" 1 := ⟨rfl, ⟨by decide, by decide⟩, by decide +kernel, w_65, w_911⟩
theorem vX12_well : VM yX12_well cX12_well 2 (some .int) "LovePartsModel" 1 := ⟨rfl, ⟨by decide, by decide⟩, by decide +kernel, w_65, w_916⟩
theorem vX12_isRow : VM yX12_isRow cX12_isRow 1 (some .boolean) "LovePartsModel" 1 := ⟨rfl, ⟨by decide, by decide⟩, by decide +kernel, w_65, w_901⟩
theorem vX12_row : VM yX12_row cX12_row 5 (some .int) "LovePartsModel" 3 := ⟨rfl, ⟨by decide, by decide⟩, by decide +kernel, w_65, w_898⟩
theorem vX12_asLane : VM yX12_asLane cX12_asLane 2 (some .int) "LovePartsModel" 2 := ⟨rfl, ⟨by decide, by decide⟩, by decide +kernel, w_65, w_923⟩
theorem vX12_set : VM yX12_set cX12_set 4 (some .int) "LovePartsModel" 3 := ⟨rfl, ⟨by decide, by decide⟩, by decide +kernel, w_65, w_920⟩
theorem vX12_copy : VM yX12_copy cX12_copy 7 (some .int) "LovePartsModel" 5 := ⟨rfl, ⟨by decide, by decide⟩, by decide +kernel, w_65, w_927⟩
theorem vX12_drop : VM yX12_drop cX12_drop 3 (some .int) "LovePartsModel" 1 := ⟨rfl, ⟨by decide, by decide⟩, by decide +kernel, w_65, w_931⟩
theorem vX12_feed : VM yX12_feed cX12_feed 2 (some .int) "LovePartsModel" 1 := ⟨rfl, ⟨by decide, by decide⟩, by decide +kernel, w_65, w_935⟩
theorem vX12_nextToken : VM yX12_nextToken cX12_nextToken 1 none "LovePartsModel" 0 := ⟨rfl, ⟨by decide, by decide⟩, by decide +kernel, w_65, w_949⟩
theorem vX12_faults : VM yX12_faults cX12_faults 2 (some .boolean) "LovePartsModel" 1 := ⟨rfl, ⟨by decide, by decide⟩, by decide +kernel, w_65, w_965⟩
theorem vX12_isLetter : VM yX12_isLetter cX12_isLetter 2 (some .boolean) "LovePartsModel" 1 := ⟨rfl, ⟨by decide, by decide⟩, by decide +kernel, w_65, w_961⟩
theorem vX12_takes : VM yX12_takes cX12_takes 2 (some .boolean) "LovePartsModel" 1 := ⟨rfl, ⟨by decide, by decide⟩, by decide +kernel, w_65, w_957⟩
theorem vX12_takesNumber : VM yX12_takesNumber cX12_takesNumber 5 (some .boolean) "LovePartsModel" 4 := ⟨rfl, ⟨by decide, by decide⟩, by decide +kernel, w_65, w_969⟩
theorem vX12_readHeir : VM yX12_readHeir cX12_readHeir 3 (some .boolean) "LovePartsModel" 1 := ⟨rfl, ⟨by decide, by decide⟩, by decide +kernel, w_65, w_973⟩
theorem vX12_readRealm : VM yX12_readRealm cX12_readRealm 3 (some .boolean) "LovePartsModel" 0 := ⟨rfl, ⟨by decide, by decide⟩, by decide +kernel, w_65, w_945⟩
theorem vX12_realm : VM yX12_realm cX12_realm 3 (some .int) "LovePartsModel" 0 := ⟨rfl, ⟨by decide, by decide⟩, by decide +kernel, w_65, w_941⟩
theorem vX12_fault : VM yX12_fault cX12_fault 1 (some .int) "LovePartsModel" 0 := ⟨rfl, ⟨by decide, by decide⟩, by decide +kernel, w_65, w_978⟩
theorem vX12_isHeir : VM yX12_isHeir cX12_isHeir 2 (some .boolean) "LovePartsModel" 1 := ⟨rfl, ⟨by decide, by decide⟩, by decide +kernel, w_65, w_991⟩
theorem vX12_ownOf : VM yX12_ownOf cX12_ownOf 5 (some .int) "LovePartsModel" 1 := ⟨rfl, ⟨by decide, by decide⟩, by decide +kernel, w_65, w_1005⟩
theorem vX12_says : VM yX12_says cX12_says 2 (some .int) "LovePartsModel" 1 := ⟨rfl, ⟨by decide, by decide⟩, by decide +kernel, w_65, w_1021⟩
theorem vX12_weightOf : VM yX12_weightOf cX12_weightOf 4 (some .int) "LovePartsModel" 2 := ⟨rfl, ⟨by decide, by decide⟩, by decide +kernel, w_65, w_1017⟩
theorem vX12_findShares : VM yX12_findShares cX12_findShares 6 none "LovePartsModel" 1 := ⟨rfl, ⟨by decide, by decide⟩, by decide +kernel, w_65, w_1013⟩
theorem vX12_allowed : VM yX12_allowed cX12_allowed 4 (some .int) "LovePartsModel" 1 := ⟨rfl, ⟨by decide, by decide⟩, by decide +kernel, w_65, w_1039⟩
theorem vX12_note : VM yX12_note cX12_note 2 none "LovePartsModel" 0 := ⟨rfl, ⟨by decide, by decide⟩, by decide +kernel, w_65, w_997⟩
theorem vX12_undo : VM yX12_undo cX12_undo 2 (some .int) "LovePartsModel" 0 := ⟨rfl, ⟨by decide, by decide⟩, by decide +kernel, w_65, w_982⟩
theorem vX12_say : VM yX12_say cX12_say 3 none "LovePartsModel" 2 := ⟨rfl, ⟨by decide, by decide⟩, by decide +kernel, w_65, w_1001⟩
theorem vX12_speak : VM yX12_speak cX12_speak 4 (some .int) "LovePartsModel" 3 := ⟨rfl, ⟨by decide, by decide⟩, by decide +kernel, w_65, w_987⟩
theorem vX12_part : VM yX12_part cX12_part 3 (some .int) "LovePartsModel" 0 := ⟨rfl, ⟨by decide, by decide⟩, by decide +kernel, w_65, w_1009⟩
theorem vX12_rule : VM yX12_rule cX12_rule 3 (some .int) "LovePartsModel" 1 := ⟨rfl, ⟨by decide, by decide⟩, by decide +kernel, w_65, w_1025⟩
theorem vX12_oneMonth : VM yX12_oneMonth cX12_oneMonth 3 none "LovePartsModel" 0 := ⟨rfl, ⟨by decide, by decide⟩, by decide +kernel, w_65, w_1035⟩
theorem vX12_months : VM yX12_months cX12_months 3 (some .int) "LovePartsModel" 1 := ⟨rfl, ⟨by decide, by decide⟩, by decide +kernel, w_65, w_1030⟩
theorem vX12_letter : VM yX12_letter cX12_letter 4 (some .int) "LovePartsModel" 2 := ⟨rfl, ⟨by decide, by decide⟩, by decide +kernel, w_65, w_1043⟩
theorem vX12_heir : VM yX12_heir cX12_heir 3 (some .int) "LovePartsModel" 2 := ⟨rfl, ⟨by decide, by decide⟩, by decide +kernel, w_65, w_1047⟩
theorem vX12_king : VM yX12_king cX12_king 2 (some .int) "LovePartsModel" 1 := ⟨rfl, ⟨by decide, by decide⟩, by decide +kernel, w_65, w_1051⟩
theorem vX12_putAside : VM yX12_putAside cX12_putAside 2 none "LovePartsModel" 0 := ⟨rfl, ⟨by decide, by decide⟩, by decide +kernel, w_65, w_1067⟩
theorem vX12_takeBack : VM yX12_takeBack cX12_takeBack 2 none "LovePartsModel" 0 := ⟨rfl, ⟨by decide, by decide⟩, by decide +kernel, w_65, w_1071⟩
theorem vX12_share : VM yX12_share cX12_share 3 (some .int) "LovePartsModel" 2 := ⟨rfl, ⟨by decide, by decide⟩, by decide +kernel, w_65, w_1055⟩
theorem vX12_bestOf : VM yX12_bestOf cX12_bestOf 5 (some .int) "LovePartsModel" 1 := ⟨rfl, ⟨by decide, by decide⟩, by decide +kernel, w_65, w_1063⟩
theorem vX12_best : VM yX12_best cX12_best 4 (some .int) "LovePartsModel" 2 := ⟨rfl, ⟨by decide, by decide⟩, by decide +kernel, w_65, w_1059⟩
theorem vX12_rather : VM yX12_rather cX12_rather 4 (some .int) "LovePartsModel" 0 := ⟨rfl, ⟨by decide, by decide⟩, by decide +kernel, w_65, w_1075⟩
theorem vX12_isTrue : VM yX12_isTrue cX12_isTrue 7 (some .boolean) "LovePartsModel" 2 := ⟨rfl, ⟨by decide, by decide⟩, by decide +kernel, w_65, w_1084⟩
theorem vX12_trueRule : VM yX12_trueRule cX12_trueRule 4 (some .int) "LovePartsModel" 0 := ⟨rfl, ⟨by decide, by decide⟩, by decide +kernel, w_65, w_1079⟩
theorem vX12_isOrder : VM yX12_isOrder cX12_isOrder 5 (some .boolean) "LovePartsModel" 1 := ⟨rfl, ⟨by decide, by decide⟩, by decide +kernel, w_65, w_1093⟩
theorem vX12_order : VM yX12_order cX12_order 7 (some .int) "LovePartsModel" 2 := ⟨rfl, ⟨by decide, by decide⟩, by decide +kernel, w_65, w_1088⟩
theorem vX12_brokenAll : VM yX12_brokenAll cX12_brokenAll 3 (some .int) "LovePartsModel" 0 := ⟨rfl, ⟨by decide, by decide⟩, by decide +kernel, w_65, w_1102⟩
theorem vX12_ahead : VM yX12_ahead cX12_ahead 4 (some .int) "LovePartsModel" 2 := ⟨rfl, ⟨by decide, by decide⟩, by decide +kernel, w_65, w_1097⟩
theorem vX12_down : VM yX12_down cX12_down 4 (some .int) "LovePartsModel" 1 := ⟨rfl, ⟨by decide, by decide⟩, by decide +kernel, w_65, w_1106⟩
theorem vX12_lacks : VM yX12_lacks cX12_lacks 4 (some .int) "LovePartsModel" 3 := ⟨rfl, ⟨by decide, by decide⟩, by decide +kernel, w_65, w_1116⟩
theorem vX12_loves : VM yX12_loves cX12_loves 12 (some .int) "LovePartsModel" 5 := ⟨rfl, ⟨by decide, by decide⟩, by decide +kernel, w_65, w_1111⟩
theorem vX12_isSo : VM yX12_isSo cX12_isSo 5 (some .boolean) "LovePartsModel" 2 := ⟨rfl, ⟨by decide, by decide⟩, by decide +kernel, w_65, w_1124⟩
theorem vX12_map : VM yX12_map cX12_map 6 (some .int) "LovePartsModel" 2 := ⟨rfl, ⟨by decide, by decide⟩, by decide +kernel, w_65, w_1120⟩
theorem vX12_who : VM yX12_who cX12_who 8 (some .int) "LovePartsModel" 3 := ⟨rfl, ⟨by decide, by decide⟩, by decide +kernel, w_65, w_1128⟩
theorem vX12_odds : VM yX12_odds cX12_odds 14 (some .long) "LovePartsModel" 3 := ⟨rfl, ⟨by decide, by decide⟩, by decide +kernel, w_65, w_1132⟩
theorem vX12_drawn : VM yX12_drawn cX12_drawn 7 (some .int) "LovePartsModel" 3 := ⟨rfl, ⟨by decide, by decide⟩, by decide +kernel, w_65, w_1141⟩
theorem vX12_image : VM yX12_image cX12_image 3 (some .int) "LovePartsModel" 1 := ⟨rfl, ⟨by decide, by decide⟩, by decide +kernel, w_65, w_1148⟩
theorem vX12_restore : VM yX12_restore cX12_restore 3 (some .int) "LovePartsModel" 1 := ⟨rfl, ⟨by decide, by decide⟩, by decide +kernel, w_65, w_1152⟩
theorem vX12_kind : VM yX12_kind cX12_kind 2 (some .int) "LovePartsModel" 1 := ⟨rfl, ⟨by decide, by decide⟩, by decide +kernel, w_65, w_1156⟩
theorem vX12_isKind : VM yX12_isKind cX12_isKind 2 (some .boolean) "LovePartsModel" 2 := ⟨rfl, ⟨by decide, by decide⟩, by decide +kernel, w_65, w_1164⟩
theorem vX12_as : VM yX12_as cX12_as 3 (some .int) "LovePartsModel" 2 := ⟨rfl, ⟨by decide, by decide⟩, by decide +kernel, w_65, w_1160⟩
theorem vX12_begin : VM yX12_begin cX12_begin 2 none "LovePartsModel" 1 := ⟨rfl, ⟨by decide, by decide⟩, by decide +kernel, w_65, w_1176⟩
theorem vX12_lent : VM yX12_lent cX12_lent 3 (some .int) "LovePartsModel" 2 := ⟨rfl, ⟨by decide, by decide⟩, by decide +kernel, w_65, w_1184⟩
theorem vX12_plainMark : VM yX12_plainMark cX12_plainMark 2 (some .int) "LovePartsModel" 1 := ⟨rfl, ⟨by decide, by decide⟩, by decide +kernel, w_65, w_1192⟩
theorem vX12_silentSize : VM yX12_silentSize cX12_silentSize 2 (some .int) "LovePartsModel" 1 := ⟨rfl, ⟨by decide, by decide⟩, by decide +kernel, w_65, w_1200⟩
theorem vX12_sizeOfSilent : VM yX12_sizeOfSilent cX12_sizeOfSilent 2 (some .int) "LovePartsModel" 1 := ⟨rfl, ⟨by decide, by decide⟩, by decide +kernel, w_65, w_1196⟩
theorem vX12_markOf : VM yX12_markOf cX12_markOf 4 (some .int) "LovePartsModel" 1 := ⟨rfl, ⟨by decide, by decide⟩, by decide +kernel, w_65, w_1188⟩
theorem vX12_plainSize : VM yX12_plainSize cX12_plainSize 3 (some .int) "LovePartsModel" 1 := ⟨rfl, ⟨by decide, by decide⟩, by decide +kernel, w_65, w_1180⟩
theorem vX12_sizeOf : VM yX12_sizeOf cX12_sizeOf 3 (some .int) "LovePartsModel" 1 := ⟨rfl, ⟨by decide, by decide⟩, by decide +kernel, w_65, w_1172⟩
theorem vX12_ask : VM yX12_ask cX12_ask 3 (some .int) "LovePartsModel" 2 := ⟨rfl, ⟨by decide, by decide⟩, by decide +kernel, w_65, w_1168⟩
theorem vX12_trace : VM yX12_trace cX12_trace 2 (some .int) "LovePartsModel" 1 := ⟨rfl, ⟨by decide, by decide⟩, by decide +kernel, w_65, w_1204⟩
theorem vX12_count : VM yX12_count cX12_count 4 (some .int) "LovePartsModel" 1 := ⟨rfl, ⟨by decide, by decide⟩, by decide +kernel, w_65, w_1208⟩
theorem vX12_status : VM yX12_status cX12_status 1 (some .int) "LovePartsModel" 0 := ⟨rfl, ⟨by decide, by decide⟩, by decide +kernel, w_65, w_1212⟩
theorem vJ9_max_7cf53 : VM yJ9_max_7cf53 cJ9_max_7cf53 2 (some .int) "java/lang/Math" 2 := ⟨rfl, ⟨by decide, by decide⟩, by decide +kernel, w_67, w_572⟩
theorem vJ9_max_f86c9 : VM yJ9_max_f86c9 cJ9_max_f86c9 4 (some .long) "java/lang/Math" 2 := ⟨rfl, ⟨by decide, by decide⟩, by decide +kernel, w_67, w_693⟩
theorem vJ9_min_7cf53 : VM yJ9_min_7cf53 cJ9_min_7cf53 2 (some .int) "java/lang/Math" 2 := ⟨rfl, ⟨by decide, by decide⟩, by decide +kernel, w_67, w_512⟩
