theorem wz_aldb {p : Program} {l : Launch} {e : Env} {R : Room} {s : State} {m : MethodId} {args : Array Value} {below : List Frame} {meth : Method} {c : Code} {H : Heap} {locs : List Loc} {cells slots : Nat} {Q : State → Prop} {cc : ByteArray} {pc : Nat} {ls : Array Slot} {rest : List Value} {D : va_G} {cy : Nat → ClassId} {B : Nat} {σ : Sg} (hx : p.tables.exec = Jvm.exec) (hb : c.code = cc) (hK : KK D cy s) (hW : wd D cy B σ H) (b j : Nat) {i : Int} {n : Nat} {f : Nat → Int} (hbl : b < 217) (he : GW cy B σ b = ivA (cy 1) n f) (hi : i = (j : Int)) (hj : j < n) (hn : n < 2147483648) (hdg : decode cc pc = .ok (.baload, 1))
    (kk : W p l e R s m args below meth c H locs cells slots Q (F0 m (pc + 1) ls (.int (iI (f j)) :: rest))) : W p l e R s m args below meth c H locs cells slots Q (F0 m pc ls (.int (iI i) :: .ref (B + b) :: rest)) := by
  subst hi
  refine va_zald (D := D) (cl := vwCl) hx hb hK.1 hW.1 b 1 (by rw [wl_get hbl, he]) rfl (iI_in hj hn) hdg ?_
  rw [iI_clamp (by omega)]
  exact kk
theorem wz_astb {p : Program} {l : Launch} {e : Env} {R : Room} {s : State} {m : MethodId} {args : Array Value} {below : List Frame} {meth : Method} {c : Code} {H H0 : Heap} {locs : List Loc} {cells slots : Nat} {Q : State → Prop} {cc : ByteArray} {pc : Nat} {ls : Array Slot} {rest : List Value} {D : va_G} {cy : Nat → ClassId} {B : Nat} {σ σ' : Sg} (hx : p.tables.exec = Jvm.exec) (hb : c.code = cc) (hK : KK D cy s) (hW : wd D cy B σ H) (hS : va_S (AB B) H0 H locs) (b j : Nat) {i : Int} {n : Nat} {f : Nat → Int} (hbl : b < 217) (he : GW cy B σ b = ivA (cy 1) n f) (hi : i = (j : Int)) (hj : j < n) (hn : n < 2147483648) (hG : ∀ d, d < 217 → GW cy B σ' d = if d = b then ivA (cy 1) n (uf f j 1) else GW cy B σ d) (hdg : decode cc pc = .ok (.bastore, 1))
    (kk : ∀ (H1 : Heap) (locs1 : List Loc), wd D cy B σ' H1 → va_S (AB B) H0 H1 locs1 → W p l e R s m args below meth c H1 locs1 cells slots Q (F0 m (pc + 1) ls rest)) : W p l e R s m args below meth c H locs cells slots Q (F0 m pc ls (.int (iI 1) :: .int (iI i) :: .ref (B + b) :: rest)) := by
  subst hi
  have hP := hW.1 b _ (by rw [wl_get hbl, he])
  refine W.zast hx hb hP ((hK.1.2 1 _ rfl).1 n (fun j => .int (iI (f j)))) (fun q => by cases q) (by show ¬ (_ ∨ (arrV _ _ _).slots.size ≤ _); rw [arrV_size]; exact iI_in hj hn) rfl rfl hdg fun H1 e1 z1 oq => ?_
  have hP2 : va_P D vwCl ((wl B 217 (GW cy B σ)).set b (B + b, ivA (cy 1) n (uf f j 1))) H1 := hW.1.set (wl_D B 217 (GW cy B σ)) (by rw [wl_get hbl, he]) (by
    show H1[B + b]? = some (vp_cell _ _)
    rw [e1, iI_clamp (by omega), vp_cell_i, vp_cell_i, arrV_store]
    congr 2
    funext q
    by_cases hq : q = j
    · subst hq
      simp [updV, uf]
      try rfl
    · simp [updV, uf, hq]) oq
  exact kk H1 _ ⟨by rw [← wl_set hbl hG]; exact hP2, by rw [z1]; exact hW.2⟩ (hS.put z1 oq (Nat.le_add_right B b))
theorem smdiv {a s : Int} {g : Nat → Int} (ha : 0 ≤ a) (hs : 0 < s) {n : Nat} (hg : ∀ k : Nat, k < n → 0 ≤ g k) : 0 ≤ sm (fun k => a * g k / s) n ∧ sm (fun k => a * g k / s) n * s ≤ a * sm g n := by
  induction n with
  | zero => simp [sm]
  | succ n ih =>
    obtain ⟨h1, h2⟩ := ih (fun k hk => hg k (by omega))
    have h3 := Int.mul_nonneg ha (hg n (by omega))
    have h4 : 0 ≤ a * g n / s := Int.ediv_nonneg h3 (by omega)
    have h5 : a * g n / s * s ≤ a * g n := Int.ediv_mul_le _ (by omega)
    simp only [sm]
    refine ⟨by omega, ?_⟩
    rw [Int.add_mul, Int.mul_add]
    omega
theorem shr_bd {f : Nat → Int} (hok : okV f) (b : Int) {h : Nat} (hh : (h : Int) < f 4) : 0 ≤ shr f b h ∧ shr f b h ≤ 198 := by
  have o0 := hok.2.1
  have o4 := hok.1
  have hn : ((mn f : Nat) : Int) = f 4 := by unfold mn; omega
  have hs := smwt_bd hok b (n := mn f) (by omega)
  have hw := wt_bd hok b hh
  have hd := smdiv (a := f 0) (s := sm (wt f b) (mn f)) (g := wt f b) (n := mn f) (by omega) (by omega) (fun k hk => by have := wt_bd hok b (h := k) (by omega); omega)
  have h1 : sm (fun k => f 0 * wt f b k / sm (wt f b) (mn f)) (mn f) ≤ f 0 := Int.le_of_mul_le_mul_right hd.2 (by omega)
  have h2 : 0 ≤ f 0 * wt f b h / sm (wt f b) (mn f) := Int.ediv_nonneg (Int.mul_nonneg (by omega) (by omega)) (by omega)
  have h3 : wt f b h ≤ sm (wt f b) (mn f) := by
    have : ∀ n : Nat, (n : Int) ≤ f 4 → h < n → wt f b h ≤ sm (wt f b) n := by
      intro n
      induction n with
      | zero => intro _ h; omega
      | succ n ih =>
        intro hn hl
        have hsn := smwt_bd hok b (n := n) (by omega)
        simp only [sm]
        by_cases e : h = n
        · subst e; omega
        · have := ih (by omega) (by omega)
          have := wt_bd hok b (h := n) (by omega)
          omega
    exact this _ (by omega) (by omega)
  have h4 : f 0 * wt f b h / sm (wt f b) (mn f) ≤ f 0 := by
    refine Int.ediv_le_of_le_mul (by omega) ?_
    exact Int.mul_le_mul_of_nonneg_left h3 (by omega)
  unfold shr ct
  split <;> omega
theorem okV_uf {f : Nat → Int} (hok : okV f) {h g : Nat} (hg : g < 10) (hh : (h : Int) < f 4) {z : Int} (hz : okH (uf f (8 + 4 * g + h) z) h) : okV (uf f (8 + 4 * g + h) z) := by
  obtain ⟨o4, o0, o1, o2, o3, o5, o6, o7, oH⟩ := id hok
  have e : ∀ j, j ≠ 8 + 4 * g + h → uf f (8 + 4 * g + h) z j = f j := fun j h1 => by rw [uf_ne _ _ h1]
  unfold okV
  rw [e 0 (by omega), e 1 (by omega), e 2 (by omega), e 3 (by omega), e 4 (by omega), e 5 (by omega), e 6 (by omega), e 7 (by omega)]
  refine ⟨o4, o0, o1, o2, o3, o5, o6, o7, fun q hq => ?_⟩
  by_cases q1 : q = h
  · subst q1; exact hz
  · obtain ⟨k8, k12, k16, k20, k24, k28, k32, k36, k40, k44⟩ := oH q hq
    unfold okH
    rw [e 5 (by omega), e (8 + q) (by omega), e (12 + q) (by omega), e (16 + q) (by omega), e (20 + q) (by omega), e (24 + q) (by omega), e (28 + q) (by omega), e (32 + q) (by omega), e (36 + q) (by omega), e (40 + q) (by omega), e (44 + q) (by omega)]
    exact ⟨k8, k12, k16, k20, k24, k28, k32, k36, k40, k44⟩
theorem okV_let {f : Nat → Int} (hok : okV f) {h : Nat} (hh : (h : Int) < f 4) {z : Int} (hz : 0 ≤ z ∧ z ≤ 50) : okV (uf f (44 + h) z) := by
  refine okV_uf (g := 9) hok (by omega) hh ?_
  show okH (uf f (44 + h) z) h
  have o4 := hok.1
  obtain ⟨k8, k12, k16, k20, k24, k28, k32, k36, k40, k44⟩ := hok.2.2.2.2.2.2.2.2 h hh
  have e : ∀ j, j ≠ 44 + h → uf f (44 + h) z j = f j := fun j h1 => by rw [uf_ne _ _ h1]
  unfold okH
  rw [e 5 (by omega), e (8 + h) (by omega), e (12 + h) (by omega), e (16 + h) (by omega), e (20 + h) (by omega), e (24 + h) (by omega), e (28 + h) (by omega), e (32 + h) (by omega), e (36 + h) (by omega), e (40 + h) (by omega), uf_eq]
  exact ⟨k8, k12, k16, k20, k24, k28, k32, k36, k40, hz⟩
theorem okV_love {f : Nat → Int} (hok : okV f) {h : Nat} (hh : (h : Int) < f 4) {z : Int} (hz : 0 ≤ z ∧ z ≤ 9) : okV (uf f (12 + h) z) := by
  refine okV_uf (g := 1) hok (by omega) hh ?_
  show okH (uf f (12 + h) z) h
  have o4 := hok.1
  obtain ⟨k8, k12, k16, k20, k24, k28, k32, k36, k40, k44⟩ := hok.2.2.2.2.2.2.2.2 h hh
  have e : ∀ j, j ≠ 12 + h → uf f (12 + h) z j = f j := fun j h1 => by rw [uf_ne _ _ h1]
  unfold okH
  rw [e 5 (by omega), e (8 + h) (by omega), e (44 + h) (by omega), e (16 + h) (by omega), e (20 + h) (by omega), e (24 + h) (by omega), e (28 + h) (by omega), e (32 + h) (by omega), e (36 + h) (by omega), e (40 + h) (by omega), uf_eq]
  exact ⟨k8, hz, k16, k20, k24, k28, k32, k36, k40, k44⟩
theorem okV_kind {f : Nat → Int} (hok : okV f) {h : Nat} (hh : (h : Int) < f 4) {z : Int} (hz : 1 ≤ z ∧ z ≤ 5) : okV (uf f (8 + h) z) := by
  refine okV_uf (g := 0) hok (by omega) hh ?_
  show okH (uf f (8 + h) z) h
  have o4 := hok.1
  obtain ⟨k8, k12, k16, k20, k24, k28, k32, k36, k40, k44⟩ := hok.2.2.2.2.2.2.2.2 h hh
  have e : ∀ j, j ≠ 8 + h → uf f (8 + h) z j = f j := fun j h1 => by rw [uf_ne _ _ h1]
  unfold okH
  rw [e 5 (by omega), e (12 + h) (by omega), e (44 + h) (by omega), e (16 + h) (by omega), e (20 + h) (by omega), e (24 + h) (by omega), e (28 + h) (by omega), e (32 + h) (by omega), e (36 + h) (by omega), e (40 + h) (by omega), uf_eq]
  exact ⟨hz, k12, k16, k20, k24, k28, k32, k36, k40, k44⟩
/-- bodies that begin leave their numbers: the model's trace, the class's -/
def tp (σ : Sg) (b : Int) : Sg := up (up σ 216 (σ 202 25).toNat b) 202 25 (σ 202 25 + 1)
def tpL : Sg → List Int → Sg
  | σ, [] => σ
  | σ, b :: l => tpL (tp σ b) l
theorem tp_25 (σ : Sg) (b : Int) : tp σ b 202 25 = σ 202 25 + 1 := rfl
theorem tpL_25 (σ : Sg) (l : List Int) : tpL σ l 202 25 = σ 202 25 + l.length := by
  induction l generalizing σ with
  | nil => simp [tpL]
  | cons b l ih => simp only [tpL, ih, tp_25, List.length_cons]; omega
theorem tp_c (σ : Sg) (b : Int) {c : Nat} (h : c ≠ 216 ∧ c ≠ 202) : tp σ b c = σ c := by unfold tp up; rw [us_ne _ _ h.2, us_ne _ _ h.1]
theorem tpL_c (σ : Sg) (l : List Int) {c : Nat} (h : c ≠ 216 ∧ c ≠ 202) : tpL σ l c = σ c := by
  induction l generalizing σ with
  | nil => rfl
  | cons b l ih => rw [tpL, ih, tp_c _ _ h]
def tc (σ : Sg) (b : Int) : Sg := up (up σ 6 (σ 5 1).toNat b) 5 1 (σ 5 1 + 1)
def tcL : Sg → List Int → Sg
  | σ, [] => σ
  | σ, b :: l => tcL (tc σ b) l
theorem tc_1 (σ : Sg) (b : Int) : tc σ b 5 1 = σ 5 1 + 1 := rfl
theorem tcL_1 (σ : Sg) (l : List Int) : tcL σ l 5 1 = σ 5 1 + l.length := by
  induction l generalizing σ with
  | nil => simp [tcL]
  | cons b l ih => simp only [tcL, ih, tc_1, List.length_cons]; omega
theorem tc_c (σ : Sg) (b : Int) {c : Nat} (h : c ≠ 6 ∧ c ≠ 5) : tc σ b c = σ c := by unfold tc up; rw [us_ne _ _ h.2, us_ne _ _ h.1]
theorem tcL_c (σ : Sg) (l : List Int) {c : Nat} (h : c ≠ 6 ∧ c ≠ 5) : tcL σ l c = σ c := by
  induction l generalizing σ with
  | nil => rfl
  | cons b l ih => rw [tcL, ih, tc_c _ _ h]
/-- what is asked: the answer, and the bodies -/
def szL (k : Int) : List Int := if k = 5 then [14, 13, 10] else [13, 10]
def szR (k love : Int) : Int := if k = 5 then 2 * (love - 100) else love - 100
def mkL (k : Int) : List Int := if k = 2 then [24, 21, 20] else if k = 3 then [22, 21, 20] else if k = 1 then [21, 20] else [23, 20] ++ szL k
def mkR (k love tongue w : Int) : Int := if k = 2 then 2 * (w + tongue) else if k = 3 then w + tongue - 1000 else if k = 1 then w + tongue else w - szR k love
def siL (k : Int) : List Int := if k = 2 then [12, 11, 10] ++ mkL k else if 4 ≤ k then szL k else [11, 10] ++ mkL k
def siR (k love tongue w : Int) : Int := if k = 2 then -(love + mkR k love tongue w) else if 4 ≤ k then szR k love else love + mkR k love tongue w
