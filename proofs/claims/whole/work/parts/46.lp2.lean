
set_option maxRecDepth 100000 in
set_option maxHeartbeats 4000000 in
theorem c_X0_take (l : Launch) (D : va_G) (cy : Nat → ClassId) (B : Nat) (σ : Sg) (o_ : Nat) (o2_ : Nat) (h_ : Nat) (hR : isR o_) (hR2 : isR o2_) (hne : o_ ≠ o2_) (hh : h_ < 4) (hsp : σ o2_ (20 + h_) = 0 ∨ σ o2_ (20 + h_) = 1) : CV l yX0_take cX0_take 2 0 0 D cy B [.ref (B + (o_ + 2 + h_)), .ref (B + (o2_ + 2 + h_))] σ (us σ o_ (tkH (σ o_) (σ o2_) h_)) := by
  refine CV_of (by decide) (Nat.le_of_ble_eq_true rfl) ?_
  intro p e R s m args below meth c Q hx hb hml hown hts hK hRf hRl hW hret ls hl
  have hown : s.vm.findClass "LoveParts$Heir" = some m.cls := hown
  have hS : va_S (AB B) s.heap s.heap [] := va_S.rf
  have hl : lv_has ls 2 [(0, .ref (B + (o_ + 2 + h_))), (1, .ref (B + (o2_ + 2 + h_)))] := hl
  refine lv_aload_n hx hb dX0_take_0 rfl (lv_at hl 0 rfl) ?_
  refine lv_aload_n hx hb dX0_take_1 rfl (lv_at hl 1 rfl) ?_
  refine wz_get hx hb hts hown hK hW (o2_ + 2 + h_) 1 (lt_H hR2 (by omega)) (e_H hR2 (by omega)) rfl (by decide) inG0 w_183 rfl rfl dX0_take_2 ?_
  refine wz_put (σ' := (up σ o_ (8 + h_) (σ o2_ (8 + h_)))) (ty := .object "LoveParts$Nature") hx hb hts hown hK hW hS (o_ + 2 + h_) 1 tyX0 (lt_H hR (by omega)) (e_H hR (by omega)) rfl (by decide) inG0 tyX0_ok nmX0 w_183 ⟨rfl, rfl, Nat.le_of_ble_eq_true rfl⟩ (by decide +kernel) ⟨rfl, rfl⟩ (p_H_1 hR (by omega)) dX0_take_5 (fun H locs hW hS => ?_)
  refine lv_aload_n hx hb dX0_take_8 rfl (lv_at hl 0 rfl) ?_
  refine lv_aload_n hx hb dX0_take_9 rfl (lv_at hl 1 rfl) ?_
  refine wz_get hx hb hts hown hK hW (o2_ + 2 + h_) 2 (lt_H hR2 (by omega)) (e_H hR2 (by omega)) rfl (by decide) inG0 w_187 rfl rfl dX0_take_10 ?_
  refine zi_top (y := σ o2_ (12 + h_)) (by simp [us, hne.symm]) ?_
  refine wz_put (σ' := (up (up σ o_ (8 + h_) (σ o2_ (8 + h_))) o_ (12 + h_) (σ o2_ (12 + h_)))) (ty := .int) hx hb hts hown hK hW hS (o_ + 2 + h_) 2 tyX0 (lt_H hR (by omega)) (e_H hR (by omega)) rfl (by decide) inG0 tyX0_ok nmX0 w_187 ⟨rfl, rfl, Nat.le_of_ble_eq_true rfl⟩ (by decide +kernel) ⟨rfl, rfl⟩ (p_H_2 hR (by omega)) dX0_take_13 (fun H locs hW hS => ?_)
  refine lv_aload_n hx hb dX0_take_16 rfl (lv_at hl 0 rfl) ?_
  refine lv_aload_n hx hb dX0_take_17 rfl (lv_at hl 1 rfl) ?_
  refine wz_get hx hb hts hown hK hW (o2_ + 2 + h_) 3 (lt_H hR2 (by omega)) (e_H hR2 (by omega)) rfl (by decide) inG0 w_196 rfl rfl dX0_take_18 ?_
  refine zi_top (y := σ o2_ (16 + h_)) (by simp [us, hne.symm]) ?_
  refine wz_put (σ' := (up (up (up σ o_ (8 + h_) (σ o2_ (8 + h_))) o_ (12 + h_) (σ o2_ (12 + h_))) o_ (16 + h_) (σ o2_ (16 + h_)))) (ty := .int) hx hb hts hown hK hW hS (o_ + 2 + h_) 3 tyX0 (lt_H hR (by omega)) (e_H hR (by omega)) rfl (by decide) inG0 tyX0_ok nmX0 w_196 ⟨rfl, rfl, Nat.le_of_ble_eq_true rfl⟩ (by decide +kernel) ⟨rfl, rfl⟩ (p_H_3 hR (by omega)) dX0_take_21 (fun H locs hW hS => ?_)
  refine lv_aload_n hx hb dX0_take_24 rfl (lv_at hl 0 rfl) ?_
  refine lv_aload_n hx hb dX0_take_25 rfl (lv_at hl 1 rfl) ?_
  refine wz_get hx hb hts hown hK hW (o2_ + 2 + h_) 4 (lt_H hR2 (by omega)) (e_H hR2 (by omega)) rfl (by decide) inG0 w_201 rfl rfl dX0_take_26 ?_
  refine zi_top (y := σ o2_ (20 + h_)) (by simp [us, hne.symm]) ?_
  refine wz_put (σ' := (up (up (up (up σ o_ (8 + h_) (σ o2_ (8 + h_))) o_ (12 + h_) (σ o2_ (12 + h_))) o_ (16 + h_) (σ o2_ (16 + h_))) o_ (20 + h_) (σ o2_ (20 + h_)))) (ty := .boolean) hx hb hts hown hK hW hS (o_ + 2 + h_) 4 tyX0 (lt_H hR (by omega)) (e_H hR (by omega)) rfl (by decide) inG0 tyX0_ok nmX0 w_201 ⟨rfl, rfl, Nat.le_of_ble_eq_true rfl⟩ (by decide +kernel) ⟨by rcases hsp with e9 | e9 <;> rw [e9] <;> rfl, by rcases hsp with e9 | e9 <;> rw [e9] <;> rfl⟩ (p_H_4 hR (by omega)) dX0_take_29 (fun H locs hW hS => ?_)
  refine lv_aload_n hx hb dX0_take_32 rfl (lv_at hl 0 rfl) ?_
  refine lv_aload_n hx hb dX0_take_33 rfl (lv_at hl 1 rfl) ?_
  refine wz_get hx hb hts hown hK hW (o2_ + 2 + h_) 5 (lt_H hR2 (by omega)) (e_H hR2 (by omega)) rfl (by decide) inG0 w_204 rfl rfl dX0_take_34 ?_
  refine zi_top (y := σ o2_ (24 + h_)) (by simp [us, hne.symm]) ?_
  refine wz_put (σ' := (up (up (up (up (up σ o_ (8 + h_) (σ o2_ (8 + h_))) o_ (12 + h_) (σ o2_ (12 + h_))) o_ (16 + h_) (σ o2_ (16 + h_))) o_ (20 + h_) (σ o2_ (20 + h_))) o_ (24 + h_) (σ o2_ (24 + h_)))) (ty := .int) hx hb hts hown hK hW hS (o_ + 2 + h_) 5 tyX0 (lt_H hR (by omega)) (e_H hR (by omega)) rfl (by decide) inG0 tyX0_ok nmX0 w_204 ⟨rfl, rfl, Nat.le_of_ble_eq_true rfl⟩ (by decide +kernel) ⟨rfl, rfl⟩ (p_H_5 hR (by omega)) dX0_take_37 (fun H locs hW hS => ?_)
  refine lv_aload_n hx hb dX0_take_40 rfl (lv_at hl 0 rfl) ?_
  refine lv_aload_n hx hb dX0_take_41 rfl (lv_at hl 1 rfl) ?_
  refine wz_get hx hb hts hown hK hW (o2_ + 2 + h_) 6 (lt_H hR2 (by omega)) (e_H hR2 (by omega)) rfl (by decide) inG0 w_207 rfl rfl dX0_take_42 ?_
  refine zi_top (y := σ o2_ (28 + h_)) (by simp [us, hne.symm]) ?_
  refine wz_put (σ' := (up (up (up (up (up (up σ o_ (8 + h_) (σ o2_ (8 + h_))) o_ (12 + h_) (σ o2_ (12 + h_))) o_ (16 + h_) (σ o2_ (16 + h_))) o_ (20 + h_) (σ o2_ (20 + h_))) o_ (24 + h_) (σ o2_ (24 + h_))) o_ (28 + h_) (σ o2_ (28 + h_)))) (ty := .int) hx hb hts hown hK hW hS (o_ + 2 + h_) 6 tyX0 (lt_H hR (by omega)) (e_H hR (by omega)) rfl (by decide) inG0 tyX0_ok nmX0 w_207 ⟨rfl, rfl, Nat.le_of_ble_eq_true rfl⟩ (by decide +kernel) ⟨rfl, rfl⟩ (p_H_6 hR (by omega)) dX0_take_45 (fun H locs hW hS => ?_)
  refine lv_aload_n hx hb dX0_take_48 rfl (lv_at hl 0 rfl) ?_
  refine lv_aload_n hx hb dX0_take_49 rfl (lv_at hl 1 rfl) ?_
  refine wz_get hx hb hts hown hK hW (o2_ + 2 + h_) 7 (lt_H hR2 (by omega)) (e_H hR2 (by omega)) rfl (by decide) inG0 w_210 rfl rfl dX0_take_50 ?_
  refine zi_top (y := σ o2_ (32 + h_)) (by simp [us, hne.symm]) ?_
  refine wz_put (σ' := (up (up (up (up (up (up (up σ o_ (8 + h_) (σ o2_ (8 + h_))) o_ (12 + h_) (σ o2_ (12 + h_))) o_ (16 + h_) (σ o2_ (16 + h_))) o_ (20 + h_) (σ o2_ (20 + h_))) o_ (24 + h_) (σ o2_ (24 + h_))) o_ (28 + h_) (σ o2_ (28 + h_))) o_ (32 + h_) (σ o2_ (32 + h_)))) (ty := .int) hx hb hts hown hK hW hS (o_ + 2 + h_) 7 tyX0 (lt_H hR (by omega)) (e_H hR (by omega)) rfl (by decide) inG0 tyX0_ok nmX0 w_210 ⟨rfl, rfl, Nat.le_of_ble_eq_true rfl⟩ (by decide +kernel) ⟨rfl, rfl⟩ (p_H_7 hR (by omega)) dX0_take_53 (fun H locs hW hS => ?_)
  refine lv_aload_n hx hb dX0_take_56 rfl (lv_at hl 0 rfl) ?_
  refine lv_aload_n hx hb dX0_take_57 rfl (lv_at hl 1 rfl) ?_
  refine wz_get hx hb hts hown hK hW (o2_ + 2 + h_) 8 (lt_H hR2 (by omega)) (e_H hR2 (by omega)) rfl (by decide) inG0 w_212 rfl rfl dX0_take_58 ?_
  refine zi_top (y := tdec (σ o2_ (44 + h_))) (by simp [us, hne.symm]) ?_
  refine wz_put (σ' := (up (up (up (up (up (up (up (up σ o_ (8 + h_) (σ o2_ (8 + h_))) o_ (12 + h_) (σ o2_ (12 + h_))) o_ (16 + h_) (σ o2_ (16 + h_))) o_ (20 + h_) (σ o2_ (20 + h_))) o_ (24 + h_) (σ o2_ (24 + h_))) o_ (28 + h_) (σ o2_ (28 + h_))) o_ (32 + h_) (σ o2_ (32 + h_))) o_ (44 + h_) (σ o2_ (44 + h_)))) (ty := .int) hx hb hts hown hK hW hS (o_ + 2 + h_) 8 tyX0 (lt_H hR (by omega)) (e_H hR (by omega)) rfl (by decide) inG0 tyX0_ok nmX0 w_212 ⟨rfl, rfl, Nat.le_of_ble_eq_true rfl⟩ (by decide +kernel) ⟨rfl, rfl⟩ (p_H_8 hR (by omega)) dX0_take_61 (fun H locs hW hS => ?_)
  refine lv_aload_n hx hb dX0_take_64 rfl (lv_at hl 0 rfl) ?_
  refine lv_aload_n hx hb dX0_take_65 rfl (lv_at hl 1 rfl) ?_
  refine wz_get hx hb hts hown hK hW (o2_ + 2 + h_) 9 (lt_H hR2 (by omega)) (e_H hR2 (by omega)) rfl (by decide) inG0 w_215 rfl rfl dX0_take_66 ?_
  refine zi_top (y := σ o2_ (36 + h_)) (by simp [us, hne.symm]) ?_
  refine wz_put (σ' := (up (up (up (up (up (up (up (up (up σ o_ (8 + h_) (σ o2_ (8 + h_))) o_ (12 + h_) (σ o2_ (12 + h_))) o_ (16 + h_) (σ o2_ (16 + h_))) o_ (20 + h_) (σ o2_ (20 + h_))) o_ (24 + h_) (σ o2_ (24 + h_))) o_ (28 + h_) (σ o2_ (28 + h_))) o_ (32 + h_) (σ o2_ (32 + h_))) o_ (44 + h_) (σ o2_ (44 + h_))) o_ (36 + h_) (σ o2_ (36 + h_)))) (ty := .int) hx hb hts hown hK hW hS (o_ + 2 + h_) 9 tyX0 (lt_H hR (by omega)) (e_H hR (by omega)) rfl (by decide) inG0 tyX0_ok nmX0 w_215 ⟨rfl, rfl, Nat.le_of_ble_eq_true rfl⟩ (by decide +kernel) ⟨rfl, rfl⟩ (p_H_9 hR (by omega)) dX0_take_69 (fun H locs hW hS => ?_)
  refine lv_aload_n hx hb dX0_take_72 rfl (lv_at hl 0 rfl) ?_
  refine lv_aload_n hx hb dX0_take_73 rfl (lv_at hl 1 rfl) ?_
  refine wz_get hx hb hts hown hK hW (o2_ + 2 + h_) 10 (lt_H hR2 (by omega)) (e_H hR2 (by omega)) rfl (by decide) inG0 w_218 rfl rfl dX0_take_74 ?_
  refine zi_top (y := σ o2_ (40 + h_)) (by simp [us, hne.symm]) ?_
  refine wz_put (σ' := (up (up (up (up (up (up (up (up (up (up σ o_ (8 + h_) (σ o2_ (8 + h_))) o_ (12 + h_) (σ o2_ (12 + h_))) o_ (16 + h_) (σ o2_ (16 + h_))) o_ (20 + h_) (σ o2_ (20 + h_))) o_ (24 + h_) (σ o2_ (24 + h_))) o_ (28 + h_) (σ o2_ (28 + h_))) o_ (32 + h_) (σ o2_ (32 + h_))) o_ (44 + h_) (σ o2_ (44 + h_))) o_ (36 + h_) (σ o2_ (36 + h_))) o_ (40 + h_) (σ o2_ (40 + h_)))) (ty := .int) hx hb hts hown hK hW hS (o_ + 2 + h_) 10 tyX0 (lt_H hR (by omega)) (e_H hR (by omega)) rfl (by decide) inG0 tyX0_ok nmX0 w_218 ⟨rfl, rfl, Nat.le_of_ble_eq_true rfl⟩ (by decide +kernel) ⟨rfl, rfl⟩ (p_H_10 hR (by omega)) dX0_take_77 (fun H locs hW hS => ?_)
  exact hret _ _ _ _ _ dX0_take_80 hW hS (by unfold up tkH; simp only [us_us, us_eq])

set_option maxRecDepth 100000 in
set_option maxHeartbeats 4000000 in
theorem c_X6_take (l : Launch) (D : va_G) (cy : Nat → ClassId) (B : Nat) (σ : Sg) (o_ : Nat) (o2_ : Nat) (hR : isR o_) (hR2 : isR o2_) (hne : o_ ≠ o2_) (h4 : 0 ≤ σ o2_ 4 ∧ σ o2_ 4 ≤ 4) (h7 : σ o2_ 7 = 0 ∨ σ o2_ 7 = 1) (hs : ∀ h : Nat, (h : Int) < σ o2_ 4 → σ o2_ (20 + h) = 0 ∨ σ o2_ (20 + h) = 1) : CV l yX6_take cX6_take 3 1 21 D cy B [.ref (B + o_), .ref (B + o2_)] σ (us σ o_ (tkN (σ o_) (σ o2_) (mn (σ o2_)))) := by
  refine CV_of (by decide) (Nat.le_of_ble_eq_true rfl) ?_
  intro p e R s m args below meth c Q hx hb hml hown hts hK hRf hRl hW hret ls hl
  have hown : s.vm.findClass "LoveParts$Realm" = some m.cls := hown
  have hS : va_S (AB B) s.heap s.heap [] := va_S.rf
  have hl : lv_has ls 3 [(0, .ref (B + o_)), (1, .ref (B + o2_))] := hl
  refine lv_aload_n hx hb dX6_take_0 rfl (lv_at hl 0 rfl) ?_
  refine lv_aload_n hx hb dX6_take_1 rfl (lv_at hl 1 rfl) ?_
  refine wz_get hx hb hts hown hK hW o2_ 1 (lt_R hR2) (e_R hR2) rfl (by decide) inG6 w_247 rfl rfl dX6_take_2 ?_
  refine wz_put (σ' := (up σ o_ 4 (σ o2_ 4))) (ty := .int) hx hb hts hown hK hW hS o_ 1 tyX6 (lt_R hR) (e_R hR) rfl (by decide) inG6 tyX6_ok nmX6 w_247 ⟨rfl, rfl, Nat.le_of_ble_eq_true rfl⟩ (by decide +kernel) ⟨rfl, rfl⟩ (p_R_1 hR) dX6_take_5 (fun H locs hW hS => ?_)
  refine lv_aload_n hx hb dX6_take_8 rfl (lv_at hl 0 rfl) ?_
  refine lv_aload_n hx hb dX6_take_9 rfl (lv_at hl 1 rfl) ?_
  refine wz_get hx hb hts hown hK hW o2_ 2 (lt_R hR2) (e_R hR2) rfl (by decide) inG6 w_250 rfl rfl dX6_take_10 ?_
  refine zi_top (y := σ o2_ 0) (by simp [us, hne.symm]) ?_
  refine wz_put (σ' := (up (up σ o_ 4 (σ o2_ 4)) o_ 0 (σ o2_ 0))) (ty := .int) hx hb hts hown hK hW hS o_ 2 tyX6 (lt_R hR) (e_R hR) rfl (by decide) inG6 tyX6_ok nmX6 w_250 ⟨rfl, rfl, Nat.le_of_ble_eq_true rfl⟩ (by decide +kernel) ⟨rfl, rfl⟩ (p_R_2 hR) dX6_take_13 (fun H locs hW hS => ?_)
  refine lv_aload_n hx hb dX6_take_16 rfl (lv_at hl 0 rfl) ?_
  refine lv_aload_n hx hb dX6_take_17 rfl (lv_at hl 1 rfl) ?_
  refine wz_get hx hb hts hown hK hW o2_ 3 (lt_R hR2) (e_R hR2) rfl (by decide) inG6 w_253 rfl rfl dX6_take_18 ?_
  refine zi_top (y := σ o2_ 1) (by simp [us, hne.symm]) ?_
  refine wz_put (σ' := (up (up (up σ o_ 4 (σ o2_ 4)) o_ 0 (σ o2_ 0)) o_ 1 (σ o2_ 1))) (ty := .int) hx hb hts hown hK hW hS o_ 3 tyX6 (lt_R hR) (e_R hR) rfl (by decide) inG6 tyX6_ok nmX6 w_253 ⟨rfl, rfl, Nat.le_of_ble_eq_true rfl⟩ (by decide +kernel) ⟨rfl, rfl⟩ (p_R_3 hR) dX6_take_21 (fun H locs hW hS => ?_)
  refine lv_aload_n hx hb dX6_take_24 rfl (lv_at hl 0 rfl) ?_
  refine lv_aload_n hx hb dX6_take_25 rfl (lv_at hl 1 rfl) ?_
  refine wz_get hx hb hts hown hK hW o2_ 4 (lt_R hR2) (e_R hR2) rfl (by decide) inG6 w_256 rfl rfl dX6_take_26 ?_
  refine zi_top (y := σ o2_ 2) (by simp [us, hne.symm]) ?_
  refine wz_put (σ' := (up (up (up (up σ o_ 4 (σ o2_ 4)) o_ 0 (σ o2_ 0)) o_ 1 (σ o2_ 1)) o_ 2 (σ o2_ 2))) (ty := .int) hx hb hts hown hK hW hS o_ 4 tyX6 (lt_R hR) (e_R hR) rfl (by decide) inG6 tyX6_ok nmX6 w_256 ⟨rfl, rfl, Nat.le_of_ble_eq_true rfl⟩ (by decide +kernel) ⟨rfl, rfl⟩ (p_R_4 hR) dX6_take_29 (fun H locs hW hS => ?_)
  refine lv_aload_n hx hb dX6_take_32 rfl (lv_at hl 0 rfl) ?_
  refine lv_aload_n hx hb dX6_take_33 rfl (lv_at hl 1 rfl) ?_
  refine wz_get hx hb hts hown hK hW o2_ 5 (lt_R hR2) (e_R hR2) rfl (by decide) inG6 w_259 rfl rfl dX6_take_34 ?_
  refine zi_top (y := σ o2_ 3) (by simp [us, hne.symm]) ?_
  refine wz_put (σ' := (up (up (up (up (up σ o_ 4 (σ o2_ 4)) o_ 0 (σ o2_ 0)) o_ 1 (σ o2_ 1)) o_ 2 (σ o2_ 2)) o_ 3 (σ o2_ 3))) (ty := .int) hx hb hts hown hK hW hS o_ 5 tyX6 (lt_R hR) (e_R hR) rfl (by decide) inG6 tyX6_ok nmX6 w_259 ⟨rfl, rfl, Nat.le_of_ble_eq_true rfl⟩ (by decide +kernel) ⟨rfl, rfl⟩ (p_R_5 hR) dX6_take_37 (fun H locs hW hS => ?_)
  refine lv_aload_n hx hb dX6_take_40 rfl (lv_at hl 0 rfl) ?_
  refine lv_aload_n hx hb dX6_take_41 rfl (lv_at hl 1 rfl) ?_
  refine wz_get hx hb hts hown hK hW o2_ 6 (lt_R hR2) (e_R hR2) rfl (by decide) inG6 w_262 rfl rfl dX6_take_42 ?_
  refine zi_top (y := σ o2_ 6) (by simp [us, hne.symm]) ?_
  refine wz_put (σ' := (up (up (up (up (up (up σ o_ 4 (σ o2_ 4)) o_ 0 (σ o2_ 0)) o_ 1 (σ o2_ 1)) o_ 2 (σ o2_ 2)) o_ 3 (σ o2_ 3)) o_ 6 (σ o2_ 6))) (ty := .int) hx hb hts hown hK hW hS o_ 6 tyX6 (lt_R hR) (e_R hR) rfl (by decide) inG6 tyX6_ok nmX6 w_262 ⟨rfl, rfl, Nat.le_of_ble_eq_true rfl⟩ (by decide +kernel) ⟨rfl, rfl⟩ (p_R_6 hR) dX6_take_45 (fun H locs hW hS => ?_)
  refine lv_aload_n hx hb dX6_take_48 rfl (lv_at hl 0 rfl) ?_
  refine lv_aload_n hx hb dX6_take_49 rfl (lv_at hl 1 rfl) ?_
  refine wz_get hx hb hts hown hK hW o2_ 7 (lt_R hR2) (e_R hR2) rfl (by decide) inG6 w_264 rfl rfl dX6_take_50 ?_
  refine zi_top (y := σ o2_ 5) (by simp [us, hne.symm]) ?_
  refine wz_put (σ' := (up (up (up (up (up (up (up σ o_ 4 (σ o2_ 4)) o_ 0 (σ o2_ 0)) o_ 1 (σ o2_ 1)) o_ 2 (σ o2_ 2)) o_ 3 (σ o2_ 3)) o_ 6 (σ o2_ 6)) o_ 5 (σ o2_ 5))) (ty := .int) hx hb hts hown hK hW hS o_ 7 tyX6 (lt_R hR) (e_R hR) rfl (by decide) inG6 tyX6_ok nmX6 w_264 ⟨rfl, rfl, Nat.le_of_ble_eq_true rfl⟩ (by decide +kernel) ⟨rfl, rfl⟩ (p_R_7 hR) dX6_take_53 (fun H locs hW hS => ?_)
  refine lv_aload_n hx hb dX6_take_56 rfl (lv_at hl 0 rfl) ?_
  refine lv_aload_n hx hb dX6_take_57 rfl (lv_at hl 1 rfl) ?_
  refine wz_get hx hb hts hown hK hW o2_ 8 (lt_R hR2) (e_R hR2) rfl (by decide) inG6 w_266 rfl rfl dX6_take_58 ?_
  refine zi_top (y := σ o2_ 7) (by simp [us, hne.symm]) ?_
  refine wz_put (σ' := (up (up (up (up (up (up (up (up σ o_ 4 (σ o2_ 4)) o_ 0 (σ o2_ 0)) o_ 1 (σ o2_ 1)) o_ 2 (σ o2_ 2)) o_ 3 (σ o2_ 3)) o_ 6 (σ o2_ 6)) o_ 5 (σ o2_ 5)) o_ 7 (σ o2_ 7))) (ty := .boolean) hx hb hts hown hK hW hS o_ 8 tyX6 (lt_R hR) (e_R hR) rfl (by decide) inG6 tyX6_ok nmX6 w_266 ⟨rfl, rfl, Nat.le_of_ble_eq_true rfl⟩ (by decide +kernel) ⟨by rcases h7 with e9 | e9 <;> rw [e9] <;> rfl, by rcases h7 with e9 | e9 <;> rw [e9] <;> rfl⟩ (p_R_8 hR) dX6_take_61 (fun H locs hW hS => ?_)
  refine zi_con hx hb dX6_take_64 ?_
  refine lv_istore_n (lv' := [(2, .int (iI (0))), (0, .ref (B + o_)), (1, .ref (B + o2_))]) hx hb dX6_take_65 rfl hl (by decide) rfl (fun ls hl => ?_)
  have L66 : ∀ (n66 : Nat) (i_ : Nat) (H : Heap) (locs : List Loc) (ls : Array Slot), 4 - i_ < n66 → ((i_ : Int) ≤ σ o2_ 4) → wd D cy B (us σ o_ (tkN (σ o_) (σ o2_) i_)) H → va_S (AB B) s.heap H locs → lv_has ls 3 [(2, .int (iI (((i_ : Nat) : Int)))), (0, .ref (B + o_)), (1, .ref (B + o2_))] → W p l e R s m args below meth c H locs 0 0 Q (F0 m 66 ls []) := by
    intro n66
    induction n66 with
    | zero => intro i_ H locs ls hms; omega
    | succ n66 ih66 =>
      intro i_ H locs ls hms66 hi hW hS hl
      have e4 : (us σ o_ (tkN (σ o_) (σ o2_) i_)) o_ 4 = σ o2_ 4 := by rw [us_eq]; rfl
      refine lv_iload_n hx hb dX6_take_66 rfl (lv_at hl 0 rfl) ?_
      refine lv_aload_n hx hb dX6_take_67 rfl (lv_at hl 1 rfl) ?_
      refine wz_get hx hb hts hown hK hW o_ 1 (lt_R hR) (e_R hR) rfl (by decide) inG6 w_247 rfl rfl dX6_take_68 ?_
      refine zi_top (y := σ o2_ 4) (by exact e4) ?_
      refine zi_cge (tgt := 95) hx hb dX6_take_71 (by decide) (by omega) (by omega) (fun c71 => ?_) (fun c71 => ?_)
      · exact hret _ _ _ _ _ dX6_take_95 hW hS (by rw [show mn (σ o2_) = i_ from by unfold mn; omega])
      · refine lv_aload_n hx hb dX6_take_74 rfl (lv_at hl 1 rfl) ?_
        refine wz_get hx hb hts hown hK hW o_ 0 (lt_R hR) (e_R hR) rfl (by decide) inG6 w_244 rfl rfl dX6_take_75 ?_
        refine lv_iload_n hx hb dX6_take_78 rfl (lv_at hl 0 rfl) ?_
        refine wz_ara hx hb hK hW (o_ + 1) i_ 2 (lt_Ra hR) (e_Ra hR) rfl (by omega) (by omega) (by decide) rfl dX6_take_79 ?_
        refine lv_aload_n hx hb dX6_take_80 rfl (lv_at hl 2 rfl) ?_
        refine wz_get hx hb hts hown hK hW o2_ 0 (lt_R hR2) (e_R hR2) rfl (by decide) inG6 w_244 rfl rfl dX6_take_81 ?_
        refine lv_iload_n hx hb dX6_take_84 rfl (lv_at hl 0 rfl) ?_
        refine wz_ara hx hb hK hW (o2_ + 1) i_ 2 (lt_Ra hR2) (e_Ra hR2) rfl (by omega) (by omega) (by decide) rfl dX6_take_85 ?_
        refine k_vv (fr := 1) (lo := 21) (σ' := (us (us σ o_ (tkN (σ o_) (σ o2_) i_)) o_ (tkH ((us σ o_ (tkN (σ o_) (σ o2_) i_)) o_) ((us σ o_ (tkN (σ o_) (σ o2_) i_)) o2_) i_))) (As := [.ref (B + (o2_ + 2 + i_))]) (rest := []) hx hb hml hown hts hK hRf hRl hW hS (c_X0_take l D cy B (us σ o_ (tkN (σ o_) (σ o2_) i_)) o_ o2_ i_ (show isR o_ from (by first | assumption | omega | (simp only [tpL_25, List.length_cons, List.length_nil]; omega))) (show isR o2_ from (by first | assumption | omega | (simp only [tpL_25, List.length_cons, List.length_nil]; omega))) (show o_ ≠ o2_ from (by first | assumption | omega | (simp only [tpL_25, List.length_cons, List.length_nil]; omega))) (show i_ < 4 from (by first | assumption | omega | (simp only [tpL_25, List.length_cons, List.length_nil]; omega))) (show (us σ o_ (tkN (σ o_) (σ o2_) i_)) o2_ (20 + i_) = 0 ∨ (us σ o_ (tkN (σ o_) (σ o2_) i_)) o2_ (20 + i_) = 1 from (by show us σ o_ (tkN (σ o_) (σ o2_) i_) o2_ (20 + i_) = 0 ∨ us σ o_ (tkN (σ o_) (σ o2_) i_) o2_ (20 + i_) = 1; rw [us_ne _ _ hne.symm]; exact hs i_ (by omega)))) vX0_take ⟨w_464, w_465⟩ w_463 (lt_H hR (by omega)) (e_H hR (by omega)) rfl ⟨Nat.le_of_ble_eq_true rfl, Nat.le_of_ble_eq_true rfl⟩ hl.1 rfl (Nat.le_of_ble_eq_true rfl) ⟨Nat.zero_le _, Nat.zero_le _⟩ dX6_take_86 (fun H locs hW hS => ?_)
        refine lv_iinc (v := iI (((i_ : Nat) : Int) + 1)) (lv' := [(2, .int (iI (((i_ : Nat) : Int) + 1))), (0, .ref (B + o_)), (1, .ref (B + o2_))]) hx hb dX6_take_89 hl (k := 0) rfl (iI_add _ _) (by decide) rfl (fun ls hl => ?_)
        refine lv_goto (tgt := 66) hx hb dX6_take_92 (by decide) ?_
        exact ih66 (i_ + 1) _ _ _ (by omega) (by omega) (by have h2 := hW; rw [us_us, us_eq, us_ne _ _ hne.symm, tkN_s _ _ (by omega)] at h2; exact h2) hS (lv_sub hl [0, 1, 2] rfl)
  exact L66 _ 0 _ _ _ (Nat.lt_succ_self _) (by omega) (by rw [← tkN_0]; have h2 := hW; unfold up at h2; simp only [us_us, us_eq] at h2; exact h2) hS (lv_sub hl [0, 1, 2] rfl)
