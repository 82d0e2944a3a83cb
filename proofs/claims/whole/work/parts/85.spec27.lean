/-! the two readers go in step: class state s, model state t, tape T of L bytes, token at b -/
theorem up_ne (σ : Sg) {c d : Nat} (k : Nat) (v : Int) (h : d ≠ c) : up σ c k v d = σ d := us_ne _ _ h
def LG (T : Nat → Int) (L : Nat) (s t : Sg) (b : Nat) : Prop := b ≤ L ∧ (s 3 = T ∧ s 2 1 = (L : Int) ∧ s 2 2 = 0 ∧ s 2 3 = (b : Int) ∧ s 2 5 = ctk T L b ∧ s 2 6 = ctv T L b ∧ s 2 4 = ((tpl T L b : Nat) : Int)) ∧ (t 208 = T ∧ t 202 8 = (L : Int) ∧ t 202 13 = (b : Int) ∧ t 202 11 = tk T L b ∧ t 202 12 = tv T L b ∧ t 202 10 = ((tpl T L b : Nat) : Int))
def LF (s t : Sg) : Prop := ¬ s 2 2 = 0 ∧ s 2 2 = t 202 14 ∧ s 2 3 = t 202 13
theorem ctk_let {T : Nat → Int} {L b : Nat} (hb : b ≤ L) {c : Int} (hc : (97 ≤ c ∧ c ≤ 122) ∨ c = 44 ∨ c = 59) : ctk T L b = c ↔ (tk T L b = 1 ∧ tv T L b = c) := by
  unfold ctk tk tv
  by_cases h1 : b = L
  · rw [if_pos (by omega), if_pos h1, if_pos h1]; omega
  · rw [if_neg (by omega), if_neg h1, if_neg h1]
    by_cases h2 : 0 < nd T (L - b) b
    · rw [if_pos h2, if_pos h2, if_pos h2]
      (repeat' split) <;> omega
    · rw [if_neg h2, if_neg h2, if_neg h2]
      by_cases h3 : (97 ≤ T b ∧ T b ≤ 122) ∨ T b = 44 ∨ T b = 59
      · rw [if_pos h3, if_pos h3]; omega
      · rw [if_neg h3, if_neg h3]; omega
theorem ctk_n2 {T : Nat → Int} {L b : Nat} (hb : b ≤ L) : ctk T L b = 256 ↔ tk T L b = 2 := by
  unfold ctk tk
  by_cases h1 : b = L
  · rw [if_pos (by omega), if_pos h1]; omega
  · rw [if_neg (by omega), if_neg h1]
    by_cases h2 : 0 < nd T (L - b) b
    · rw [if_pos h2, if_pos h2]
      (repeat' split) <;> omega
    · rw [if_neg h2, if_neg h2]
      (repeat' split) <;> omega
theorem ctk_e3 {T : Nat → Int} {L b : Nat} (hb : b ≤ L) : ctk T L b = 257 ↔ tk T L b = 3 := by
  unfold ctk tk
  by_cases h1 : b = L
  · rw [if_pos (by omega), if_pos h1]; omega
  · rw [if_neg (by omega), if_neg h1]
    by_cases h2 : 0 < nd T (L - b) b
    · rw [if_pos h2, if_pos h2]
      (repeat' split) <;> omega
    · rw [if_neg h2, if_neg h2]
      (repeat' split) <;> omega
theorem LG_24 {T : Nat → Int} {L b : Nat} {s t : Sg} (g : Nat → Int) (h : LG T L s t b) : LG T L (us s 24 g) t b := h
theorem LG_209 {T : Nat → Int} {L b : Nat} {s t : Sg} (g : Nat → Int) (h : LG T L s t b) : LG T L s (us t 209 g) b := h
theorem LG_nx {T : Nat → Int} {L b : Nat} {s t : Sg} (h : LG T L s t b) : LG T L (cnt s) (ntk t) (tpl T L b) := by
  obtain ⟨hb, ⟨a3, a1, a2, aa, a5, a6, a4⟩, m8, mL, m13, m11, m12, m10⟩ := h
  have h2 := tpl_le (T := T) hb
  have e1 : (s 2 1).toNat = L := by omega
  have e4 : (s 2 4).toNat = tpl T L b := by omega
  have f1 : (t 202 8).toNat = L := by omega
  have f4 : (t 202 10).toNat = tpl T L b := by omega
  have hc := ctp_le (T := T) h2.2
  rw [cnt_ok a2, e1, e4, a3]
  refine ⟨h2.2, ⟨a3, a1, a2, a4, rfl, rfl, ?_⟩, m8, mL, m10, ?_, ?_, ?_⟩
  · show ((ctp T L (tpl T L b) : Nat) : Int) = _
    rw [hc.1]
  · show tk (t 208) (t 202 8).toNat (t 202 10).toNat = _
    rw [m8, f1, f4]
  · show tv (t 208) (t 202 8).toNat (t 202 10).toNat = _
    rw [m8, f1, f4]
  · show ((tpl (t 208) (t 202 8).toNat (t 202 10).toNat : Nat) : Int) = _
    rw [m8, f1, f4]
theorem LF_sg {s t : Sg} (h : LF s t) (c : Int) : LF (sgS s c) t := by unfold sgS; rw [if_neg h.1]; exact h
theorem LF_nu {s t : Sg} (h : LF s t) (a b : Int) : LF (nuS s a b) t := by unfold nuS; rw [if_neg h.1]; exact h
theorem LF_24 {s t : Sg} (g : Nat → Int) (h : LF s t) : LF (us s 24 g) t := h
/-- a sign -/
theorem st_sg {T : Nat → Int} {L b : Nat} {s t : Sg} (h : LG T L s t b) {c : Int} (hc : (97 ≤ c ∧ c ≤ 122) ∨ c = 44 ∨ c = 59) : (tkB t c ∧ LG T L (sgS s c) (tkS t c) (tpl T L b)) ∨ (¬ tkB t c ∧ LF (sgS s c) (tkS t c)) := by
  have hk := ctk_let (T := T) h.1 hc
  obtain ⟨hb, ⟨a3, a1, a2, aa, a5, a6, a4⟩, m8, mL, m13, m11, m12, m10⟩ := id h
  by_cases hq : tkB t c
  · left
    refine ⟨hq, ?_⟩
    unfold sgS tkS
    rw [if_pos a2, if_pos (by rw [a5]; exact hk.mpr ⟨by rw [← m11]; exact hq.1, by rw [← m12]; exact hq.2⟩), if_pos hq]
    exact LG_nx h
  · right
    refine ⟨hq, ?_⟩
    unfold sgS tkS
    rw [if_pos a2, if_neg (by rw [a5]; intro q; have := hk.mp q; exact hq ⟨by rw [m11]; exact this.1, by rw [m12]; exact this.2⟩), if_neg hq]
    exact ⟨by show ¬ (1 : Int) = 0; omega, rfl, by show s 2 3 = t 202 13; rw [aa, m13]⟩
/-- a number and the sign behind it, laid into slot a on both sides -/
theorem st_tn {T : Nat → Int} {L b : Nat} {s t : Sg} (hL : L ≤ 100) (hT : ∀ k, k < 100 → 0 ≤ T k ∧ T k ≤ 255) (h : LG T L s t b) {lo hi : Int} {a : Nat} {c : Int} (hc : (97 ≤ c ∧ c ≤ 122) ∨ c = 44 ∨ c = 59) : (tnB t lo hi a c ∧ (lo ≤ t 202 12 ∧ t 202 12 ≤ hi) ∧ s 2 6 = t 202 12 ∧ ∃ b', LG T L (sgS (up (nuS s lo hi) 24 a (s 2 6)) c) (tnS t lo hi a c) b') ∨ (¬ tnB t lo hi a c ∧ LF (sgS (up (nuS s lo hi) 24 a (s 2 6)) c) (tnS t lo hi a c)) := by
  have hk := ctk_n2 (T := T) h.1
  obtain ⟨hb, ⟨a3, a1, a2, aa, a5, a6, a4⟩, m8, mL, m13, m11, m12, m10⟩ := id h
  by_cases hq : t 202 11 = 2
  · have h256 : ctk T L b = 256 := hk.mpr (by rw [← m11]; exact hq)
    have hv := ctv_num hL hT h256
    have e6 : s 2 6 = t 202 12 := by rw [a6, m12]; exact hv.2.2
    by_cases hr : lo ≤ t 202 12 ∧ t 202 12 ≤ hi
    · have hn : nuS s lo hi = cnt s := by unfold nuS; rw [if_pos a2, if_pos (by rw [a5]; exact h256), if_pos (by rw [e6]; exact hr)]
      have h1 : LG T L (up (nuS s lo hi) 24 a (s 2 6)) (ntk (up t 209 a (t 202 12))) (tpl T L b) := by
        rw [hn]
        exact LG_24 _ (LG_nx (LG_209 _ h))
      rcases st_sg h1 hc with ⟨q1, q2⟩ | ⟨q1, q2⟩
      · left
        refine ⟨⟨⟨hq, hr⟩, q1⟩, hr, e6, tpl T L (tpl T L b), ?_⟩
        unfold tnS
        rw [if_pos ⟨hq, hr⟩]
        exact q2
      · right
        refine ⟨fun q => q1 q.2, ?_⟩
        unfold tnS
        rw [if_pos ⟨hq, hr⟩]
        exact q2
    · right
      refine ⟨fun q => hr q.1.2, LF_sg (LF_24 _ ?_) c⟩
      unfold tnS nuS
      rw [if_neg (show ¬ (t 202 11 = 2 ∧ lo ≤ t 202 12 ∧ t 202 12 ≤ hi) from fun q => hr q.2), if_pos hq, if_pos a2, if_pos (by rw [a5]; exact h256), if_neg (by rw [e6]; exact hr)]
      exact ⟨by show ¬ (2 : Int) = 0; omega, rfl, by show s 2 3 = t 202 13; rw [aa, m13]⟩
  · right
    refine ⟨fun q => hq q.1.1, LF_sg (LF_24 _ ?_) c⟩
    unfold tnS nuS
    rw [if_neg (show ¬ (t 202 11 = 2 ∧ lo ≤ t 202 12 ∧ t 202 12 ≤ hi) from fun q => hq q.1), if_neg hq, if_pos a2, if_neg (by rw [a5]; intro q; exact hq (by rw [m11]; exact hk.mp q))]
    exact ⟨by show ¬ (1 : Int) = 0; omega, rfl, by show s 2 3 = t 202 13; rw [aa, m13]⟩
/-- the slots that both sides have laid alike: k of the law's, n heirs' -/
def PK (k n j : Nat) : Prop := (4 ≤ j ∧ j < 8) ∨ (20 ≤ j ∧ j < 48) ∨ j < k ∨ (8 ≤ j ∧ j < 20 ∧ j % 4 < n)
def AG (s t : Sg) (k n : Nat) : Prop := ∀ j, PK k n j → s 24 j = t 209 j
theorem tnS_209a {t : Sg} {lo hi : Int} {a : Nat} {c : Int} (h : tnB t lo hi a c) (j : Nat) : tnS t lo hi a c 209 j = if j = a then t 202 12 else t 209 j := by
  rw [tnS_ok h]
  rfl
theorem put24 {s : Sg} {lo hi : Int} {a : Nat} {c v : Int} (j : Nat) : sgS (up (nuS s lo hi) 24 a v) c 24 j = if j = a then v else s 24 j := by
  rw [sgS_c _ _ (by decide)]
  show uf (nuS s lo hi 24) a v j = _
  rw [nuS_c _ _ _ (by decide)]
  rfl
theorem AG_law {s t : Sg} {k : Nat} {lo hi c : Int} (h : AG s t k 0) (hq : tnB t lo hi k c) (e : s 2 6 = t 202 12) : AG (sgS (up (nuS s lo hi) 24 k (s 2 6)) c) (tnS t lo hi k c) (k + 1) 0 := by
  intro j hj
  rw [put24, tnS_209a hq, e]
  by_cases hjk : j = k
  · rw [if_pos hjk, if_pos hjk]
  · rw [if_neg hjk, if_neg hjk]
    exact h j (by unfold PK at *; omega)
/-- what the model's reader has laid, n heirs, is in its ranges -/
def OKp (t : Sg) (n : Nat) : Prop := (1 ≤ t 209 0 ∧ t 209 0 ≤ 99) ∧ (0 ≤ t 209 1 ∧ t 209 1 ≤ 99) ∧ (0 ≤ t 209 2 ∧ t 209 2 ≤ 9) ∧ (0 ≤ t 209 3 ∧ t 209 3 ≤ 3) ∧ (∀ j, (5 ≤ j ∧ j < 8) ∨ (20 ≤ j ∧ j < 48) → t 209 j = 0) ∧ t 209 4 = (n : Int) ∧ ∀ h : Nat, h < n → (1 ≤ t 209 (8 + h) ∧ t 209 (8 + h) ≤ 5) ∧ (0 ≤ t 209 (12 + h) ∧ t 209 (12 + h) ≤ 9) ∧ (0 ≤ t 209 (16 + h) ∧ t 209 (16 + h) ≤ 9)
theorem OKp_okV {t : Sg} {n : Nat} (hn : 2 ≤ n ∧ n ≤ 4) (h : OKp t n) : okV (t 209) := by
  obtain ⟨a0, a1, a2, a3, az, a4, ah⟩ := h
  have z5 := az 5 (by omega); have z6 := az 6 (by omega); have z7 := az 7 (by omega)
  refine ⟨by omega, a0, a1, a2, a3, by omega, by omega, by omega, fun q hq => ?_⟩
  have hq4 : q < 4 := by omega
  obtain ⟨b1, b2, b3⟩ := ah q (by omega)
  have y20 := az (20 + q) (by omega); have y24 := az (24 + q) (by omega); have y28 := az (28 + q) (by omega); have y32 := az (32 + q) (by omega); have y36 := az (36 + q) (by omega); have y40 := az (40 + q) (by omega); have y44 := az (44 + q) (by omega)
  unfold okH
  omega
theorem kd_kbs {T : Nat → Int} {L b : Nat} {s t : Sg} (h : LG T L s t b) : kd t = kbs (s 2 5) := by
  obtain ⟨hb, ⟨a3, a1, a2, aa, a5, a6, a4⟩, m8, mL, m13, m11, m12, m10⟩ := h
  have e : ∀ c : Int, ((97 ≤ c ∧ c ≤ 122) ∨ c = 44 ∨ c = 59) → (tkB t c ↔ s 2 5 = c) := fun c hc => by
    have := ctk_let (T := T) hb hc
    unfold tkB
    rw [m11, m12, a5]
    exact this.symm
  unfold kd kbs
  simp only [e 112 (by omega), e 115 (by omega), e 106 (by omega), e 113 (by omega), e 105 (by omega)]
/-- an heir is read on both sides -/
theorem st_heir {T : Nat → Int} {L b i : Nat} {s t : Sg} (hL : L ≤ 100) (hT : ∀ k, k < 100 → 0 ≤ T k ∧ T k ≤ 255) (h : LG T L s t b) (hi : i < 4) (hA : AG s t 4 i) (hO : OKp t i) (hk : ¬ kd t = 0) : (rhB t (kd t) ∧ (∃ b', LG T L (hr7 s i) (rhS t (kd t)) b') ∧ AG (hr7 s i) (rhS t (kd t)) 4 (i + 1) ∧ OKp (rhS t (kd t)) (i + 1)) ∨ (¬ rhB t (kd t) ∧ LF (hr7 s i) (rhS t (kd t))) := by
  have e4 : t 209 4 = (i : Int) := hO.2.2.2.2.2.1
  have e4n : (t 209 4).toNat = i := by omega
  have hkk := kd_kbs h
  have hkb := kd_bd t
  have h1 : LG T L (hr2 s i) (rh1 t (kd t)) (tpl T L b) := LG_209 _ (LG_209 _ (LG_nx (LG_24 _ h)))
  have d2 : ∀ j, hr2 s i 24 j = if j = 8 + i then kd t else s 24 j := fun j => by
    unfold hr2
    rw [cnt_c _ (by decide), hkk]
    rfl
  have r1 : ∀ j, rh1 t (kd t) 209 j = if j = 4 then (i : Int) + 1 else if j = 8 + i then kd t else t 209 j := fun j => by
    show uf (uf (t 209) (8 + (t 209 4).toNat) (kd t)) 4 (t 209 4 + 1) j = _
    rw [e4n, e4]
    rfl
  have hR : rhS t (kd t) = if tnB (rh1 t (kd t)) 0 9 (12 + i) 44 then tnS (tnS (rh1 t (kd t)) 0 9 (12 + i) 44) 0 9 (16 + i) 59 else tnS (rh1 t (kd t)) 0 9 (12 + i) 44 := by
    unfold rhS
    rw [if_neg (by omega), e4n]
  have hB : rhB t (kd t) ↔ tnB (rh1 t (kd t)) 0 9 (12 + i) 44 ∧ tnB (tnS (rh1 t (kd t)) 0 9 (12 + i) 44) 0 9 (16 + i) 59 := by
    unfold rhB
    rw [e4n]
    exact ⟨fun q => q.2, fun q => ⟨by omega, q⟩⟩
  rw [hR, hB]
  rcases st_tn (lo := 0) (hi := 9) (a := 12 + i) (c := 44) hL hT h1 (by omega) with ⟨q1, v1, x1, b1, g1⟩ | ⟨q1, f1⟩
  · rw [if_pos q1]
    rcases st_tn (lo := 0) (hi := 9) (a := 16 + i) (c := 59) hL hT g1 (by omega) with ⟨q2, v2, x2, b2, g2⟩ | ⟨q2, f2⟩
    · left
      have hm : ∀ j, tnS (tnS (rh1 t (kd t)) 0 9 (12 + i) 44) 0 9 (16 + i) 59 209 j = if j = 16 + i then tnS (rh1 t (kd t)) 0 9 (12 + i) 44 202 12 else if j = 12 + i then rh1 t (kd t) 202 12 else if j = 4 then (i : Int) + 1 else if j = 8 + i then kd t else t 209 j := fun j => by
        rw [tnS_209a q2, tnS_209a q1, r1]
      have hs : ∀ j, hr7 s i 24 j = if j = 4 then (i : Int) + 1 else if j = 16 + i then tnS (rh1 t (kd t)) 0 9 (12 + i) 44 202 12 else if j = 12 + i then rh1 t (kd t) 202 12 else if j = 8 + i then kd t else s 24 j := fun j => by
        show uf (sgS (up (nuS (hr4 s i) 0 9) 24 (16 + i) (hr4 s i 2 6)) 59 24) 4 ((i : Int) + 1) j = _
        unfold uf
        by_cases hj : j = 4
        · rw [if_pos hj, if_pos hj]
        · rw [if_neg hj, if_neg hj, put24, show hr4 s i 2 6 = _ from x2]
          by_cases hj2 : j = 16 + i
          · rw [if_pos hj2, if_pos hj2]
          · rw [if_neg hj2, if_neg hj2]
            show sgS (up (nuS (hr2 s i) 0 9) 24 (12 + i) (hr2 s i 2 6)) 44 24 j = _
            rw [put24, x1, d2]
      refine ⟨⟨q1, q2⟩, ⟨b2, LG_24 _ g2⟩, ?_, ?_⟩
      · intro j hj
        rw [hs, hm]
        by_cases a1 : j = 4
        · rw [if_pos a1, if_neg (by omega), if_neg (by omega), if_pos a1]
        · rw [if_neg a1]
          by_cases a2 : j = 16 + i
          · rw [if_pos a2, if_pos a2]
          · rw [if_neg a2, if_neg a2]
            by_cases a3 : j = 12 + i
            · rw [if_pos a3, if_pos a3]
            · rw [if_neg a3, if_neg a3, if_neg a1]
              by_cases a4 : j = 8 + i
              · rw [if_pos a4, if_pos a4]
              · rw [if_neg a4, if_neg a4]
                exact hA j (by unfold PK at *; omega)
      · obtain ⟨c0, c1, c2, c3, cz, c4, ch⟩ := hO
        have ho : ∀ j, j ≠ 16 + i → j ≠ 12 + i → j ≠ 4 → j ≠ 8 + i → tnS (tnS (rh1 t (kd t)) 0 9 (12 + i) 44) 0 9 (16 + i) 59 209 j = t 209 j := fun j u1 u2 u3 u4 => by rw [hm, if_neg u1, if_neg u2, if_neg u3, if_neg u4]
        refine ⟨?_, ?_, ?_, ?_, ?_, ?_, ?_⟩
        · rw [ho 0 (by omega) (by omega) (by omega) (by omega)]; exact c0
        · rw [ho 1 (by omega) (by omega) (by omega) (by omega)]; exact c1
        · rw [ho 2 (by omega) (by omega) (by omega) (by omega)]; exact c2
        · rw [ho 3 (by omega) (by omega) (by omega) (by omega)]; exact c3
        · intro j hj
          rw [ho j (by omega) (by omega) (by omega) (by omega)]; exact cz j hj
        · rw [hm, if_neg (by omega), if_neg (by omega), if_pos rfl]; omega
        · intro q hq
          by_cases hqi : q = i
          · subst hqi
            rw [hm (8 + q), if_neg (by omega), if_neg (by omega), if_neg (by omega), if_pos rfl, hm (12 + q), if_neg (by omega), if_pos rfl, hm (16 + q), if_pos rfl]
            omega
          · rw [ho (8 + q) (by omega) (by omega) (by omega) (by omega), ho (12 + q) (by omega) (by omega) (by omega) (by omega), ho (16 + q) (by omega) (by omega) (by omega) (by omega)]
            exact ch q (by omega)
    · right
      exact ⟨fun q => q2 q.2, LF_24 _ f2⟩
  · rw [if_neg q1]
    right
    exact ⟨fun q => q1 q.1, LF_24 _ (LF_sg (LF_24 _ (LF_nu f1 0 9)) 59)⟩
theorem crr_f {s t : Sg} (n i : Nat) (h : LF s t) : crr n i s = s := by
  cases n with
  | zero => rfl
  | succ n => rw [crr_s, if_neg h.1]
/-- the heirs of a text -/
theorem st_heirs {T : Nat → Int} {L : Nat} (hL : L ≤ 100) (hT : ∀ k, k < 100 → 0 ≤ T k ∧ T k ≤ 255) (n : Nat) : ∀ (i b : Nat) (s t : Sg), n = 5 - i → i ≤ 4 → LG T L s t b → AG s t 4 i → OKp t i →
    (rrB (n + 1) t = true ∧ (crr n i s) 2 2 = 0 ∧ ∃ m : Nat, 2 ≤ m ∧ m ≤ 4 ∧ AG (crr n i s) (rrS (n + 1) t) 4 m ∧ OKp (rrS (n + 1) t) m) ∨ (rrB (n + 1) t = false ∧ LF (crr n i s) (rrS (n + 1) t)) := by
  induction n with
  | zero => intro i b s t hn hi; omega
  | succ n ih =>
    intro i b s t hn hi h hA hO
    have e4 : t 209 4 = (i : Int) := hO.2.2.2.2.2.1
    have hkk := kd_kbs h
    obtain ⟨hb, ⟨a3, a1, a2, aa, a5, a6, a4⟩, m8, mL, m13, m11, m12, m10⟩ := id h
    have h3 : s 2 5 = 257 ↔ t 202 11 = 3 := by rw [a5, m11]; exact ctk_e3 hb
    rw [crr_s, if_pos a2]
    generalize hN : n + 1 = N at ih ⊢
    simp only [rrB, rrS]
    by_cases hend : t 202 11 = 3 ∧ 2 ≤ t 209 4
    · left
      rw [if_pos hend, if_pos hend, if_pos (show s 2 5 = 257 ∧ 2 ≤ i from ⟨h3.mpr hend.1, by omega⟩)]
      exact ⟨rfl, a2, i, by omega, hi, hA, hO⟩
    · rw [if_neg hend, if_neg hend, if_neg (show ¬ (s 2 5 = 257 ∧ 2 ≤ i) from fun q => hend ⟨h3.mp q.1, by omega⟩)]
      by_cases hk : kd t = 0
      · right
        rw [if_pos hk, if_pos hk]
        have hf : LF (hst s i) (up t 202 14 1) := by
          unfold hst
          rw [if_pos (by rw [← hkk]; exact hk)]
          exact ⟨by show ¬ (1 : Int) = 0; omega, rfl, by show s 2 3 = t 202 13; rw [aa, m13]⟩
        rw [crr_f _ _ hf]
        exact ⟨rfl, hf⟩
      · rw [if_neg hk, if_neg hk]
        by_cases hi4 : i = 4
        · right
          have hnb : ¬ rhB t (kd t) := fun q => q.1 (by omega)
          rw [if_neg hnb, if_neg hnb]
          have hf : LF (hst s i) (rhS t (kd t)) := by
            unfold hst rhS
            rw [if_neg (by rw [← hkk]; exact hk), if_pos hi4, if_pos (by omega)]
            exact ⟨by show ¬ (3 : Int) = 0; omega, rfl, by show s 2 3 = t 202 13; rw [aa, m13]⟩
          rw [crr_f _ _ hf]
          exact ⟨rfl, hf⟩
        · have hh : hst s i = hr7 s i := by unfold hst; rw [if_neg (by rw [← hkk]; exact hk), if_neg hi4]
          rw [hh]
          rcases st_heir hL hT h (by omega) hA hO hk with ⟨q1, ⟨b', g⟩, q3, q4⟩ | ⟨q1, q2⟩
          · rw [if_pos q1, if_pos q1]
            exact ih (i + 1) b' _ _ (by omega) (by omega) g q3 q4
          · right
            rw [if_neg q1, if_neg q1, crr_f _ _ q2]
            exact ⟨rfl, q2⟩
theorem hst_c (σ : Sg) (i : Nat) {c : Nat} (h : c ≠ 2 ∧ c ≠ 24) : hst σ i c = σ c := by
  have e2 : hr2 σ i c = σ c := by unfold hr2; rw [cnt_c _ h.1, up_ne _ _ _ h.2]
  have e3 : hr3 σ i c = σ c := by unfold hr3; rw [up_ne _ _ _ h.2, nuS_c _ _ _ h.1, e2]
  have e4 : hr4 σ i c = σ c := by unfold hr4; rw [sgS_c _ _ h.1, e3]
  have e5 : hr5 σ i c = σ c := by unfold hr5; rw [up_ne _ _ _ h.2, nuS_c _ _ _ h.1, e4]
  have e6 : hr6 σ i c = σ c := by unfold hr6; rw [sgS_c _ _ h.1, e5]
  unfold hst hr7
  (repeat' split) <;> first | exact us_ne _ _ h.1 | (rw [up_ne _ _ _ h.2, e6])
theorem crr_c (n : Nat) : ∀ (i : Nat) (σ : Sg) {c : Nat}, c ≠ 2 ∧ c ≠ 24 → crr n i σ c = σ c := by
  induction n with
  | zero => intro i σ c h; rfl
  | succ n ih =>
    intro i σ c h
    rw [crr_s]
    (repeat' split) <;> first | rfl | (rw [ih _ _ h, hst_c _ _ h])
theorem rl9_c (σ : Sg) {c : Nat} (h : c ≠ 2 ∧ c ≠ 24) : rl9 σ c = σ c := by
  unfold rl9 rl8 rl7 rl6 rl5 rl4 rl3 rl2 rl1
  simp only [sgS_c _ _ h.1, up_ne _ _ _ h.2, us_ne _ _ h.2, nuS_c _ _ _ h.1]
theorem rdC_c (σ : Sg) {c : Nat} (h : c ≠ 2 ∧ c ≠ 24) : rdC σ c = σ c := by
  unfold rdC rdb rd0
  rw [crr_c _ _ _ h, rl9_c _ h, us_ne _ _ h.2, cnt_c _ h.1, up_ne _ _ _ h.1, up_ne _ _ _ h.1]
theorem rdZ_c (σ : Sg) {c : Nat} (h : c ≠ 2 ∧ c ≠ 24) : rdZ σ c = σ c := by
  unfold rdZ
  rw [up_ne _ _ _ h.1, rdC_c _ h]
theorem tkS_209 (t : Sg) (c : Int) : tkS t c 209 = t 209 := by unfold tkS; split <;> rfl
theorem rl9_f {s t : Sg} (h : LF (rl1 s) t) : LF (rl9 s) t := LF_sg (LF_24 _ (LF_nu (LF_sg (LF_24 _ (LF_nu (LF_sg (LF_24 _ (LF_nu (LF_sg (LF_24 _ (LF_nu h _ _)) _) _ _)) _) _ _)) _) _ _)) _
theorem rl9_f3 {s t : Sg} (h : LF (rl3 s) t) : LF (rl9 s) t := LF_sg (LF_24 _ (LF_nu (LF_sg (LF_24 _ (LF_nu (LF_sg (LF_24 _ (LF_nu h _ _)) _) _ _)) _) _ _)) _
theorem rl9_f5 {s t : Sg} (h : LF (rl5 s) t) : LF (rl9 s) t := LF_sg (LF_24 _ (LF_nu (LF_sg (LF_24 _ (LF_nu h _ _)) _) _ _)) _
theorem rl9_f7 {s t : Sg} (h : LF (rl7 s) t) : LF (rl9 s) t := LF_sg (LF_24 _ (LF_nu h _ _)) _
theorem rd_bad {σ : Sg} (h : ¬ lawB σ) : rdB σ = false := by unfold rdB; rw [decide_eq_false h]; rfl
/-- the class reads a text as the model does -/
theorem rd_eq {σ τ : Sg} (hT : σ 3 = τ 208) (hL : σ 2 1 = τ 202 8) (hb : 0 ≤ τ 202 8 ∧ τ 202 8 ≤ 100) (ht : ∀ k, k < 100 → 0 ≤ τ 208 k ∧ τ 208 k ≤ 255) : (rdB τ = true ∧ rdC σ 2 2 = 0 ∧ eqR (rdC σ 24) (rdS τ 209) ∧ okV (rdS τ 209) ∧ rdS τ 209 5 = 0) ∨ (rdB τ = false ∧ LF (rdC σ) (rdS τ)) := by
  obtain ⟨L, hLn⟩ : ∃ L : Nat, τ 202 8 = (L : Int) := ⟨(τ 202 8).toNat, by omega⟩
  have hL1 : L ≤ 100 := by omega
  have e1 : (σ 2 1).toNat = L := by omega
  have f1 : (τ 202 8).toNat = L := by omega
  have hc := ctp_le (T := τ 208) (L := L) (q := 0) (by omega)
  have g0 : LG (τ 208) L (rdb σ) (rr0 τ) 0 := by
    apply LG_24
    have hr0 : rd0 σ = us (up (up σ 2 2 0) 2 4 0) 2 (rk ((up (up σ 2 2 0) 2 4 0) 2) (ctk (σ 3) (σ 2 1).toNat 0) (ctv (σ 3) (σ 2 1).toNat 0) ((ctp (σ 3) (σ 2 1).toNat 0 : Nat) : Int)) := cnt_ok rfl
    rw [hr0, e1, hT]
    refine ⟨by omega, ⟨hT, by show σ 2 1 = _; omega, rfl, rfl, rfl, rfl, ?_⟩, rfl, hLn, rfl, ?_, ?_, ?_⟩
    · show ((ctp (τ 208) L 0 : Nat) : Int) = _
      rw [hc.1]
    · show tk (τ 208) (τ 202 8).toNat 0 = _
      rw [f1]
    · show tv (τ 208) (τ 202 8).toNat 0 = _
      rw [f1]
    · show ((tpl (τ 208) (τ 202 8).toNat 0 : Nat) : Int) = _
      rw [f1]
  have A0 : AG (rdb σ) (rr0 τ) 0 0 := by
    intro j hj
    show rbk 4 (rd0 σ 24) j = 0
    unfold rbk
    unfold PK at hj
    by_cases h4 : 4 ≤ j ∧ j < 8
    · rw [if_pos h4]
    · rw [if_neg h4, if_pos (by omega)]
  have done_f : ∀ t : Sg, rdS τ = t → LF (rl9 (rdb σ)) t → rdB τ = false → (rdB τ = true ∧ rdC σ 2 2 = 0 ∧ eqR (rdC σ 24) (rdS τ 209) ∧ okV (rdS τ 209) ∧ rdS τ 209 5 = 0) ∨ (rdB τ = false ∧ LF (rdC σ) (rdS τ)) := fun t h1 h2 h3 => Or.inr ⟨h3, by unfold rdC; rw [crr_f _ _ h2, h1]; exact h2⟩
  rcases st_sg g0 (c := 107) (by omega) with ⟨q1, g1⟩ | ⟨q1, k1⟩
  · have A1 : AG (rl1 (rdb σ)) (la1 τ) 0 0 := fun j hj => by
      show sgS (rdb σ) 107 24 j = tkS (rr0 τ) 107 209 j
      rw [sgS_c _ _ (by decide), tkS_209]
      exact A0 j hj
    have z1 : ∀ j, la1 τ 209 j = 0 := fun j => by show tkS (rr0 τ) 107 209 j = 0; rw [tkS_209]; rfl
    rcases st_tn (s := rl1 (rdb σ)) (t := la1 τ) (lo := 1) (hi := 99) (a := 0) (c := 44) hL1 ht g1 (by omega) with ⟨q2, v2, x2, b2, g2⟩ | ⟨q2, k2⟩
    · have A2 : AG (rl3 (rdb σ)) (la2 τ) 1 0 := AG_law A1 q2 x2
      rcases st_tn (s := rl3 (rdb σ)) (t := la2 τ) (lo := 0) (hi := 99) (a := 1) (c := 44) hL1 ht g2 (by omega) with ⟨q3, v3, x3, b3, g3⟩ | ⟨q3, k3⟩
      · have A3 : AG (rl5 (rdb σ)) (la3 τ) 2 0 := AG_law A2 q3 x3
        rcases st_tn (s := rl5 (rdb σ)) (t := la3 τ) (lo := 0) (hi := 9) (a := 2) (c := 44) hL1 ht g3 (by omega) with ⟨q4, v4, x4, b4, g4⟩ | ⟨q4, k4⟩
        · have A4 : AG (rl7 (rdb σ)) (la4 τ) 3 0 := AG_law A3 q4 x4
          rcases st_tn (s := rl7 (rdb σ)) (t := la4 τ) (lo := 0) (hi := 3) (a := 3) (c := 59) hL1 ht g4 (by omega) with ⟨q5, v5, x5, b5, g5⟩ | ⟨q5, k5⟩
          · have A5 : AG (rl9 (rdb σ)) (la5 τ) 4 0 := AG_law A4 q5 x5
            have hm : ∀ j, la5 τ 209 j = if j = 3 then la4 τ 202 12 else if j = 2 then la3 τ 202 12 else if j = 1 then la2 τ 202 12 else if j = 0 then la1 τ 202 12 else 0 := fun j => by
              show tnS (la4 τ) 0 3 3 59 209 j = _
              rw [tnS_209a q5]
              show (if j = 3 then la4 τ 202 12 else tnS (la3 τ) 0 9 2 44 209 j) = _
              rw [tnS_209a q4]
              show (if j = 3 then la4 τ 202 12 else if j = 2 then la3 τ 202 12 else tnS (la2 τ) 0 99 1 44 209 j) = _
              rw [tnS_209a q3]
              show (if j = 3 then la4 τ 202 12 else if j = 2 then la3 τ 202 12 else if j = 1 then la2 τ 202 12 else tnS (la1 τ) 1 99 0 44 209 j) = _
              rw [tnS_209a q2, z1]
            have O5 : OKp (la5 τ) 0 := by
              refine ⟨?_, ?_, ?_, ?_, ?_, ?_, fun q hq => absurd hq (Nat.not_lt_zero q)⟩
              · rw [hm, if_neg (by omega), if_neg (by omega), if_neg (by omega), if_pos rfl]; exact v2
              · rw [hm, if_neg (by omega), if_neg (by omega), if_pos rfl]; exact v3
              · rw [hm, if_neg (by omega), if_pos rfl]; exact v4
              · rw [hm, if_pos rfl]; exact v5
              · intro j hj
                rw [hm, if_neg (by omega), if_neg (by omega), if_neg (by omega), if_neg (by omega)]
              · rw [hm, if_neg (by omega), if_neg (by omega), if_neg (by omega), if_neg (by omega)]; rfl
            have hlw : lawB τ := ⟨q1, q2, q3, q4, q5⟩
            obtain ⟨r1, r2⟩ := rd_law hlw
            rw [r1, r2]
            rcases st_heirs hL1 ht 5 0 b5 (rl9 (rdb σ)) (la5 τ) rfl (by omega) g5 A5 O5 with ⟨w1, w2, m, hm1, hm2, w3, w4⟩ | ⟨w1, w2⟩
            · left
              have h4 : rrS 6 (la5 τ) 209 4 = (m : Int) := w4.2.2.2.2.2.1
              have h4' : rdC σ 24 4 = (m : Int) := by rw [← h4]; exact w3 4 (by unfold PK; omega)
              refine ⟨w1, w2, ?_, OKp_okV ⟨hm1, hm2⟩ w4, w4.2.2.2.2.1 5 (by omega)⟩
              intro j hj hc2
              exact w3 j (by unfold PK; omega)
            · right
              exact ⟨w1, w2⟩
          · exact done_f (la5 τ) (by unfold rdS; rw [if_pos q1, if_pos q2, if_pos q3, if_pos q4, if_neg q5]) k5 (rd_bad (fun q => q5 q.2.2.2.2))
        · exact done_f (la4 τ) (by unfold rdS; rw [if_pos q1, if_pos q2, if_pos q3, if_neg q4]) (rl9_f7 k4) (rd_bad (fun q => q4 q.2.2.2.1))
      · exact done_f (la3 τ) (by unfold rdS; rw [if_pos q1, if_pos q2, if_neg q3]) (rl9_f5 k3) (rd_bad (fun q => q3 q.2.2.1))
    · exact done_f (la2 τ) (by unfold rdS; rw [if_pos q1, if_neg q2]) (rl9_f3 k2) (rd_bad (fun q => q2 q.2.1))
  · exact done_f (la1 τ) (by unfold rdS; rw [if_neg q1]) (rl9_f k1) (rd_bad (fun q => q1 q.1))
/-- of the model's state its reader changes but its own slots -/
def MP (t t0 : Sg) : Prop := (∀ c, c ≠ 202 → c ≠ 209 → t c = t0 c) ∧ ∀ j, j < 10 ∨ 14 < j → t 202 j = t0 202 j
theorem MP_rf (t : Sg) : MP t t := ⟨fun _ _ _ => rfl, fun _ _ => rfl⟩
theorem MP_209 {t t0 : Sg} (g : Nat → Int) (h : MP t t0) : MP (us t 209 g) t0 := ⟨fun c h1 h2 => by rw [us_ne _ _ h2]; exact h.1 c h1 h2, fun j hj => h.2 j hj⟩
theorem MP_202 {t t0 : Sg} {k : Nat} (hk : 10 ≤ k ∧ k ≤ 14) (v : Int) (h : MP t t0) : MP (up t 202 k v) t0 := ⟨fun c h1 h2 => by show us t 202 _ c = _; rw [us_ne _ _ h1]; exact h.1 c h1 h2, fun j hj => by show uf (t 202) k v j = _; rw [uf_ne _ _ (by omega)]; exact h.2 j hj⟩
theorem MP_ntk {t t0 : Sg} (h : MP t t0) : MP (ntk t) t0 := by
  refine ⟨fun c h1 h2 => ?_, fun j hj => ?_⟩
  · unfold ntk; rw [us_ne _ _ h1]; exact h.1 c h1 h2
  · show nk (t 202) _ _ _ j = _
    rw [nk_at, if_neg (by omega), if_neg (by omega), if_neg (by omega), if_neg (by omega)]
    exact h.2 j hj
theorem MP_tk {t t0 : Sg} (c : Int) (h : MP t t0) : MP (tkS t c) t0 := by unfold tkS; split; exact MP_ntk h; exact MP_202 (by omega) _ h
theorem MP_tn {t t0 : Sg} (lo hi : Int) (a : Nat) (c : Int) (h : MP t t0) : MP (tnS t lo hi a c) t0 := by unfold tnS; split; exact MP_tk _ (MP_ntk (MP_209 _ h)); exact MP_202 (by omega) _ h
theorem MP_rh {t t0 : Sg} (k : Int) (h : MP t t0) : MP (rhS t k) t0 := by
  have h1 : MP (rh1 t k) t0 := MP_209 _ (MP_209 _ (MP_ntk h))
  unfold rhS
  split
  · exact MP_202 (by omega) _ h
  · split
    · exact MP_tn _ _ _ _ (MP_tn _ _ _ _ h1)
    · exact MP_tn _ _ _ _ h1
theorem MP_rr (n : Nat) : ∀ {t t0 : Sg}, MP t t0 → MP (rrS n t) t0 := by
  induction n with
  | zero => intro t t0 h; exact h
  | succ n ih =>
    intro t t0 h
    simp only [rrS]
    split
    · exact h
    · split
      · exact MP_202 (by omega) _ h
      · split
        · exact ih (MP_rh _ h)
        · exact MP_rh _ h
theorem MP_rd (t : Sg) : MP (rdS t) t := by
  have h0 : MP (rr0 t) t := MP_ntk (MP_209 _ (MP_202 (by omega) _ (MP_rf t)))
  have h1 : MP (la1 t) t := MP_tk _ h0
  have h2 : MP (la2 t) t := MP_tn _ _ _ _ h1
  have h3 : MP (la3 t) t := MP_tn _ _ _ _ h2
  have h4 : MP (la4 t) t := MP_tn _ _ _ _ h3
  have h5 : MP (la5 t) t := MP_tn _ _ _ _ h4
  unfold rdS
  (repeat' split) <;> first | exact MP_rr 6 h5 | exact h5 | exact h4 | exact h3 | exact h2 | exact h1
