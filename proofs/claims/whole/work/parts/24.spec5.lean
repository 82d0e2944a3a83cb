theorem up_us2 (σ : Sg) {c d : Nat} (f g : Nat → Int) (k : Nat) (v : Int) (h : c ≠ d) : up (us (us σ c f) d g) c k v = us (us σ c (uf f k v)) d g := by
  funext e
  unfold up us
  by_cases h1 : e = c
  · subst h1; simp [h]
  · by_cases h2 : e = d
    · subst h2; simp [h1]
    · simp [h1, h2]
theorem mn_uf (f : Nat → Int) (k : Nat) (z : Int) (h : k ≠ 4) : mn (uf f k z) = mn f := by unfold mn; rw [uf_ne _ _ (Ne.symm h)]
def whP (f : Nat → Int) (h : Nat) (G : Nat → Int) (k : Nat) : Bool := decide (1 ≤ k) && al G (shr (uf f (8 + h) (k : Int)) (f 3)) (mn f)
def mpP (f : Nat → Int) (G : Nat → Int) (b : Nat) : Bool := al G (shr f (b : Int)) (mn f)
def lva (g G : Nat → Int) (n : Nat) : Bool := al G (fun k => itf mon (k + 1) g 1) n
def lvP (f : Nat → Int) (h : Nat) (G : Nat → Int) (n : Nat) (love : Nat) : Bool := lva (uf f (12 + h) (love : Int)) G n
def mcd (P : Nat → Bool) : Nat → Int
  | 0 => 0
  | d + 1 => mcd P d + (if P (9 - d) = true then 1 else 0)
def mld (P : Nat → Bool) : Nat → Int
  | 0 => -1000000
  | d + 1 => if P (9 - d) = true then ((9 - d : Nat) : Int) else mld P d
theorem mcd_bd (P : Nat → Bool) (d : Nat) : 0 ≤ mcd P d ∧ mcd P d ≤ d := by
  induction d with
  | zero => simp [mcd]
  | succ d ih => simp only [mcd]; split <;> omega
theorem mld_bd (P : Nat → Bool) (d : Nat) : -1000000 ≤ mld P d ∧ mld P d ≤ 9 := by
  induction d with
  | zero => simp [mld]
  | succ d ih => simp only [mld]; split <;> omega
def fitI (lane v : Int) : Int := if lane = 0 then (iI v).toInt8.toInt else if lane = 1 then (iI v).toInt16.toInt else v
theorem i8_bd (x : Int8) : -128 ≤ x.toInt ∧ x.toInt < 128 := ⟨by have := x.le_toInt; omega, by have := x.toInt_lt; omega⟩
theorem i16_bd (x : Int16) : -32768 ≤ x.toInt ∧ x.toInt < 32768 := ⟨by have := x.le_toInt; omega, by have := x.toInt_lt; omega⟩
theorem fitI_bd {lane v : Int} (h : -2147483648 ≤ v ∧ v < 2147483648) : -2147483648 ≤ fitI lane v ∧ fitI lane v < 2147483648 := by
  have h1 := i8_bd (iI v).toInt8
  have h2 := i16_bd (iI v).toInt16
  unfold fitI
  (repeat' split) <;> omega
theorem toInt_cond (x : Int32) : x.toInt = if 2 * x.toBitVec.toNat < 4294967296 then (x.toBitVec.toNat : Int) else (x.toBitVec.toNat : Int) - 4294967296 := BitVec.toInt_eq_toNat_cond x.toBitVec
theorem shl24 (x : Int32) : (x <<< (iI 24 &&& 31)) >>> (iI 24 &&& 31) = iI x.toInt8.toInt := by
  have hb := i8_bd x.toInt8
  apply Int32.toInt_inj.mp
  rw [pk_shr _ _ 24 (by decide), iI_toInt (by omega), Int32.toInt_toInt8, toInt_cond, toInt_cond x, pk_shl _ _ 24 (by decide), Int.shiftRight_eq_div_pow]
  have hn : x.toBitVec.toNat < 4294967296 := x.toBitVec.isLt
  generalize x.toBitVec.toNat = n at *
  unfold Int.bmod
  simp only [Nat.reducePow, Int.reducePow]
  (repeat' split) <;> omega
theorem shl16 (x : Int32) : (x <<< (iI 16 &&& 31)) >>> (iI 16 &&& 31) = iI x.toInt16.toInt := by
  have hb := i16_bd x.toInt16
  apply Int32.toInt_inj.mp
  rw [pk_shr _ _ 16 (by decide), iI_toInt (by omega), Int32.toInt_toInt16, toInt_cond, toInt_cond x, pk_shl _ _ 16 (by decide), Int.shiftRight_eq_div_pow]
  have hn : x.toBitVec.toNat < 4294967296 := x.toBitVec.isLt
  generalize x.toBitVec.toNat = n at *
  unfold Int.bmod
  simp only [Nat.reducePow, Int.reducePow]
  (repeat' split) <;> omega
theorem mcd_t {P : Nat → Bool} {d : Nat} (h : P (9 - d) = true) : mcd P (d + 1) = mcd P d + 1 := by simp only [mcd]; rw [if_pos h]
theorem mcd_f {P : Nat → Bool} {d : Nat} (h : ¬ P (9 - d) = true) : mcd P (d + 1) = mcd P d + 0 := by simp only [mcd]; rw [if_neg h]
theorem mld_t {P : Nat → Bool} {d : Nat} (hd : d ≤ 9) (h : P (9 - d) = true) : mld P (d + 1) = 9 - (d : Int) := by simp only [mld]; rw [if_pos h]; omega
theorem mld_f {P : Nat → Bool} {d : Nat} (h : ¬ P (9 - d) = true) : mld P (d + 1) = mld P d := by simp only [mld]; rw [if_neg h]
theorem bt1 (f : Nat → Int) (h : Nat) (G : Nat → Int) : bt (whP f h G) 1 = 0 := by rw [bt_f (by simp [whP])]; rfl
