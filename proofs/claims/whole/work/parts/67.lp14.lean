
set_option maxRecDepth 100000 in
set_option maxHeartbeats 4000000 in
theorem c_X11_keepForUndo (l : Launch) (D : va_G) (cy : Nat → ClassId) (B : Nat) (σ : Sg)  (hok : okV (σ 18)) (ha8 : 0 ≤ σ 0 8 ∧ σ 0 8 ≤ 24) (ha9 : 0 ≤ σ 0 9 ∧ σ 0 9 ≤ 23) : CV l yX11_keepForUndo cX11_keepForUndo 1 2 43 D cy B [.ref (B + 0)] σ (kU σ) := by
  refine CV_of (by decide) (Nat.le_of_ble_eq_true rfl) ?_
  intro p e R s m args below meth c Q hx hb hml hown hts hK hRf hRl hW hret ls hl
  have hown : s.vm.findClass "LoveParts" = some m.cls := hown
  have hS : va_S (AB B) s.heap s.heap [] := va_S.rf
  have hl : lv_has ls 1 [(0, .ref (B + 0))] := hl
  obtain ⟨o4, o0, o1, o2, o3, o5, o6, o7, oH⟩ := id hok
  refine lv_aload_n hx hb dX11_keepForUndo_0 rfl (lv_at hl 0 rfl) ?_
  refine wz_get hx hb hts hown hK hW 0 7 (by decide) e_0 rfl (by decide) inG11 w_312 rfl rfl dX11_keepForUndo_1 ?_
  refine lv_aload_n hx hb dX11_keepForUndo_4 rfl (lv_at hl 0 rfl) ?_
  refine wz_get hx hb hts hown hK hW 0 9 (by decide) e_0 rfl (by decide) inG11 w_314 rfl rfl dX11_keepForUndo_5 ?_
  refine wz_ara hx hb hK hW 8 ((σ 0 9).toNat) 4 (by decide) e_8 rfl (by omega) (by omega) (by decide) rfl dX11_keepForUndo_8 ?_
  refine lv_aload_n hx hb dX11_keepForUndo_9 rfl (lv_at hl 0 rfl) ?_
  refine wz_get hx hb hts hown hK hW 0 4 (by decide) e_0 rfl (by decide) inG11 w_309 rfl rfl dX11_keepForUndo_10 ?_
  refine k_vv (fr := 2) (lo := 43) (σ' := (us σ (58 + 6 * ((σ 0 9).toNat)) (tkN (σ (58 + 6 * ((σ 0 9).toNat))) (σ 18) (mn (σ 18))))) (As := [.ref (B + 18)]) (rest := []) hx hb hml hown hts hK hRf hRl hW hS (c_X6_take l D cy B σ (58 + 6 * ((σ 0 9).toNat)) 18 (show isR (58 + 6 * ((σ 0 9).toNat)) from (isR_be (by omega))) (show isR 18 from isR_18) (show (58 + 6 * ((σ 0 9).toNat)) ≠ 18 from (by omega)) (show 0 ≤ σ 18 4 ∧ σ 18 4 ≤ 4 from (by omega)) (show σ 18 7 = 0 ∨ σ 18 7 = 1 from o7) (show ∀ h : Nat, (h : Int) < σ 18 4 → σ 18 (20 + h) = 0 ∨ σ 18 (20 + h) = 1 from (fun h hh => (oH h hh).2.2.2.1))) vX6_take ⟨w_460, w_461⟩ w_459 (lt_R (isR_be (by omega))) (e_R (isR_be (by omega))) rfl ⟨Nat.le_of_ble_eq_true rfl, Nat.le_of_ble_eq_true rfl⟩ hl.1 rfl (Nat.le_of_ble_eq_true rfl) ⟨Nat.zero_le _, Nat.zero_le _⟩ dX11_keepForUndo_13 (fun H locs hW hS => ?_)
  refine lv_aload_n hx hb dX11_keepForUndo_16 rfl (lv_at hl 0 rfl) ?_
  refine lv_aload_n hx hb dX11_keepForUndo_17 rfl (lv_at hl 0 rfl) ?_
  refine wz_get hx hb hts hown hK hW 0 9 (by decide) e_0 rfl (by decide) inG11 w_314 rfl rfl dX11_keepForUndo_18 ?_
  refine zi_top (y := σ 0 9) (by rw [us_ne _ _ (by omega)]) ?_
  refine zi_bip hx hb dX11_keepForUndo_21 (by decide) ?_
  refine zi_cne (tgt := 30) hx hb dX11_keepForUndo_23 (by decide) (by omega) (by omega) (fun c23 => ?_) (fun c23 => ?_)
  · refine lv_aload_n hx hb dX11_keepForUndo_30 rfl (lv_at hl 0 rfl) ?_
    refine wz_get hx hb hts hown hK hW 0 9 (by decide) e_0 rfl (by decide) inG11 w_314 rfl rfl dX11_keepForUndo_31 ?_
    refine zi_top (y := σ 0 9) (by rw [us_ne _ _ (by omega)]) ?_
    refine zi_con hx hb dX11_keepForUndo_34 ?_
    refine zi_add hx hb dX11_keepForUndo_35 ?_
    refine wz_put (σ' := (up (us σ (58 + 6 * ((σ 0 9).toNat)) (tkN (σ (58 + 6 * ((σ 0 9).toNat))) (σ 18) (mn (σ 18)))) 0 9 ((σ 0 9) + 1))) (ty := .int) hx hb hts hown hK hW hS 0 9 tyX11 (by decide) e_0 rfl (by decide) inG11 tyX11_ok nmX11 w_314 ⟨rfl, rfl, Nat.le_of_ble_eq_true rfl⟩ (by decide +kernel) ⟨rfl, rfl⟩ p_0_9 dX11_keepForUndo_36 (fun H locs hW hS => ?_)
    refine lv_aload_n hx hb dX11_keepForUndo_39 rfl (lv_at hl 0 rfl) ?_
    refine lv_aload_n hx hb dX11_keepForUndo_40 rfl (lv_at hl 0 rfl) ?_
    refine wz_get hx hb hts hown hK hW 0 8 (by decide) e_0 rfl (by decide) inG11 w_313 rfl rfl dX11_keepForUndo_41 ?_
    refine zi_top (y := σ 0 8) (by unfold up; rw [us_eq, uf_ne _ _ (by decide), us_ne _ _ (by omega)]) ?_
    refine zi_con hx hb dX11_keepForUndo_44 ?_
    refine zi_add hx hb dX11_keepForUndo_45 ?_
    refine zi_bip hx hb dX11_keepForUndo_46 (by decide) ?_
    refine k_min hx hb hml hown hts hl.1 w_517 ⟨w_511, w_67, w_512⟩ (by omega) (Nat.le_trans (Nat.le_of_ble_eq_true rfl) hRl) ⟨Nat.zero_le _, Nat.zero_le _⟩ (by omega) (by omega) dX11_keepForUndo_48 ?_
    refine wz_put (σ' := (up (up (us σ (58 + 6 * ((σ 0 9).toNat)) (tkN (σ (58 + 6 * ((σ 0 9).toNat))) (σ 18) (mn (σ 18)))) 0 9 ((σ 0 9) + 1)) 0 8 (if 24 < ((σ 0 8) + 1) then 24 else ((σ 0 8) + 1)))) (ty := .int) hx hb hts hown hK hW hS 0 8 tyX11 (by decide) e_0 rfl (by decide) inG11 tyX11_ok nmX11 w_313 ⟨rfl, rfl, Nat.le_of_ble_eq_true rfl⟩ (by decide +kernel) ⟨rfl, rfl⟩ p_0_8 dX11_keepForUndo_51 (fun H locs hW hS => ?_)
    exact hret _ _ _ _ _ dX11_keepForUndo_54 hW hS (by unfold kU up; simp only [us_us, us_eq, us_ne _ _ (show (0 : Nat) ≠ 58 + 6 * (σ 0 9).toNat by omega)]; first | rw [if_pos (by omega : σ 0 9 = 23)] | rw [if_neg (by omega : ¬ σ 0 9 = 23)])
  · refine zi_con hx hb dX11_keepForUndo_26 ?_
    refine lv_goto (tgt := 36) hx hb dX11_keepForUndo_27 (by decide) ?_
    refine wz_put (σ' := (up (us σ (58 + 6 * ((σ 0 9).toNat)) (tkN (σ (58 + 6 * ((σ 0 9).toNat))) (σ 18) (mn (σ 18)))) 0 9 0)) (ty := .int) hx hb hts hown hK hW hS 0 9 tyX11 (by decide) e_0 rfl (by decide) inG11 tyX11_ok nmX11 w_314 ⟨rfl, rfl, Nat.le_of_ble_eq_true rfl⟩ (by decide +kernel) ⟨rfl, rfl⟩ p_0_9 dX11_keepForUndo_36 (fun H locs hW hS => ?_)
    refine lv_aload_n hx hb dX11_keepForUndo_39 rfl (lv_at hl 0 rfl) ?_
    refine lv_aload_n hx hb dX11_keepForUndo_40 rfl (lv_at hl 0 rfl) ?_
    refine wz_get hx hb hts hown hK hW 0 8 (by decide) e_0 rfl (by decide) inG11 w_313 rfl rfl dX11_keepForUndo_41 ?_
    refine zi_top (y := σ 0 8) (by unfold up; rw [us_eq, uf_ne _ _ (by decide), us_ne _ _ (by omega)]) ?_
    refine zi_con hx hb dX11_keepForUndo_44 ?_
    refine zi_add hx hb dX11_keepForUndo_45 ?_
    refine zi_bip hx hb dX11_keepForUndo_46 (by decide) ?_
    refine k_min hx hb hml hown hts hl.1 w_517 ⟨w_511, w_67, w_512⟩ (by omega) (Nat.le_trans (Nat.le_of_ble_eq_true rfl) hRl) ⟨Nat.zero_le _, Nat.zero_le _⟩ (by omega) (by omega) dX11_keepForUndo_48 ?_
    refine wz_put (σ' := (up (up (us σ (58 + 6 * ((σ 0 9).toNat)) (tkN (σ (58 + 6 * ((σ 0 9).toNat))) (σ 18) (mn (σ 18)))) 0 9 0) 0 8 (if 24 < ((σ 0 8) + 1) then 24 else ((σ 0 8) + 1)))) (ty := .int) hx hb hts hown hK hW hS 0 8 tyX11 (by decide) e_0 rfl (by decide) inG11 tyX11_ok nmX11 w_313 ⟨rfl, rfl, Nat.le_of_ble_eq_true rfl⟩ (by decide +kernel) ⟨rfl, rfl⟩ p_0_8 dX11_keepForUndo_51 (fun H locs hW hS => ?_)
    exact hret _ _ _ _ _ dX11_keepForUndo_54 hW hS (by unfold kU up; simp only [us_us, us_eq, us_ne _ _ (show (0 : Nat) ≠ 58 + 6 * (σ 0 9).toNat by omega)]; first | rw [if_pos (by omega : σ 0 9 = 23)] | rw [if_neg (by omega : ¬ σ 0 9 = 23)])

set_option maxRecDepth 100000 in
set_option maxHeartbeats 4000000 in
theorem c_X11_row (l : Launch) (D : va_G) (cy : Nat → ClassId) (B : Nat) (σ : Sg) (r_ : Int) (l_ : Int) (n_ : Int) (r_r_ : -2147483648 ≤ r_ ∧ r_ < 2147483648) (r_l_ : -2147483648 ≤ l_ ∧ l_ < 2147483648) (r_n_ : -2147483648 ≤ n_ ∧ n_ < 2147483648) : CI l yX11_row cX11_row 4 (some .int) 1 23 D cy B [.ref (B + 0), .int (iI (r_)), .int (iI (l_)), .int (iI (n_))] σ (if ¬ (0 ≤ r_ ∧ r_ ≤ 7) ∨ ¬ (0 ≤ l_ ∧ l_ ≤ 2) ∨ 40 < n_ then -1000001 else if n_ < 0 then -1000014 else n_) (if ¬ (0 ≤ r_ ∧ r_ ≤ 7) ∨ ¬ (0 ≤ l_ ∧ l_ ≤ 2) ∨ 40 < n_ then σ else if n_ < 0 then up σ 0 15 4 else up (us (up (up σ (30 + 2 * r_.toNat) 1 l_) (30 + 2 * r_.toNat) 2 n_) (30 + 2 * r_.toNat + 1) (cpy n_.toNat (fun _ => 0) (σ (30 + 2 * r_.toNat + 1)))) 0 15 0) := by
  refine CI_of (ty := .int) (by decide) (rfl) (Nat.le_of_ble_eq_true rfl) ?_
  intro p e R s m args below meth c Q hx hb hml hown hts hK hRf hRl hW hret ls hl
  have hown : s.vm.findClass "LoveParts" = some m.cls := hown
  have hS : va_S (AB B) s.heap s.heap [] := va_S.rf
  have hl : lv_has ls 4 [(0, .ref (B + 0)), (1, .int (iI (r_))), (2, .int (iI (l_))), (3, .int (iI (n_)))] := hl
  refine lv_iload_n hx hb dX11_row_0 rfl (lv_at hl 1 rfl) ?_
  refine zi_con hx hb dX11_row_1 ?_
  refine zi_bip hx hb dX11_row_2 (by decide) ?_
  refine k_si (fr := 1) (lo := 23) (r := (if 0 ≤ r_ ∧ r_ ≤ 7 then 1 else 0)) (As := [.int (iI (r_)), .int (iI (0)), .int (iI (7))]) (rest := []) hx hb hml hown hts hK hRf hRl hW hS (c_X11_within l D cy B σ r_ 0 7 (show -2147483648 ≤ r_ ∧ r_ < 2147483648 from (by first | assumption | omega | (simp only [tpL_25, List.length_cons, List.length_nil]; omega))) (show -2147483648 ≤ 0 ∧ 0 < 2147483648 from (by first | assumption | omega | (simp only [tpL_25, List.length_cons, List.length_nil]; omega))) (show -2147483648 ≤ 7 ∧ 7 < 2147483648 from (by first | assumption | omega | (simp only [tpL_25, List.length_cons, List.length_nil]; omega)))) vX11_within w_359 w_358 ⟨Nat.le_of_ble_eq_true rfl, Nat.le_of_ble_eq_true rfl⟩ hl.1 rfl (Nat.le_of_ble_eq_true rfl) ⟨Nat.zero_le _, Nat.zero_le _⟩ dX11_row_4 (fun H locs hW hS => ?_)
  refine zi_beq (tgt := 25) hx hb dX11_row_7 (by decide) (fun c7 => ?_) (fun c7 => ?_)
  · refine k_ldc hx hb hown hts (v := -1000001) (by decide) w_361 dX11_row_25 ?_
    exact hret _ _ _ _ _ _ dX11_row_27 hW hS ⟨by (repeat' split) <;> first | rfl | omega, by (repeat' split) <;> first | rfl | omega⟩
  · refine lv_iload_n hx hb dX11_row_10 rfl (lv_at hl 2 rfl) ?_
    refine zi_con hx hb dX11_row_11 ?_
    refine zi_con hx hb dX11_row_12 ?_
    refine k_si (fr := 1) (lo := 23) (r := (if 0 ≤ l_ ∧ l_ ≤ 2 then 1 else 0)) (As := [.int (iI (l_)), .int (iI (0)), .int (iI (2))]) (rest := []) hx hb hml hown hts hK hRf hRl hW hS (c_X11_within l D cy B σ l_ 0 2 (show -2147483648 ≤ l_ ∧ l_ < 2147483648 from (by first | assumption | omega | (simp only [tpL_25, List.length_cons, List.length_nil]; omega))) (show -2147483648 ≤ 0 ∧ 0 < 2147483648 from (by first | assumption | omega | (simp only [tpL_25, List.length_cons, List.length_nil]; omega))) (show -2147483648 ≤ 2 ∧ 2 < 2147483648 from (by first | assumption | omega | (simp only [tpL_25, List.length_cons, List.length_nil]; omega)))) vX11_within w_359 w_358 ⟨Nat.le_of_ble_eq_true rfl, Nat.le_of_ble_eq_true rfl⟩ hl.1 rfl (Nat.le_of_ble_eq_true rfl) ⟨Nat.zero_le _, Nat.zero_le _⟩ dX11_row_13 (fun H locs hW hS => ?_)
    refine zi_beq (tgt := 25) hx hb dX11_row_16 (by decide) (fun c16 => ?_) (fun c16 => ?_)
    · refine k_ldc hx hb hown hts (v := -1000001) (by decide) w_361 dX11_row_25 ?_
      exact hret _ _ _ _ _ _ dX11_row_27 hW hS ⟨by (repeat' split) <;> first | rfl | omega, by (repeat' split) <;> first | rfl | omega⟩
    · refine lv_iload_n hx hb dX11_row_19 rfl (lv_at hl 3 rfl) ?_
      refine zi_bip hx hb dX11_row_20 (by decide) ?_
      refine zi_cle (tgt := 28) hx hb dX11_row_22 (by decide) (by omega) (by omega) (fun c22 => ?_) (fun c22 => ?_)
      · refine lv_iload_n hx hb dX11_row_28 rfl (lv_at hl 3 rfl) ?_
        refine zi_ge (tgt := 38) hx hb dX11_row_29 (by decide) (by omega) (fun c29 => ?_) (fun c29 => ?_)
        · refine lv_aload_n hx hb dX11_row_38 rfl (lv_at hl 0 rfl) ?_
          refine wz_get hx hb hts hown hK hW 0 0 (by decide) e_0 rfl (by decide) inG11 w_305 rfl rfl dX11_row_39 ?_
          refine lv_iload_n hx hb dX11_row_42 rfl (lv_at hl 1 rfl) ?_
          refine wz_ara hx hb hK hW 1 r_.toNat 5 (by decide) e_1 rfl (by omega) (by omega) (by decide) rfl dX11_row_43 ?_
          refine lv_iload_n hx hb dX11_row_44 rfl (lv_at hl 2 rfl) ?_
          refine lv_iload_n hx hb dX11_row_45 rfl (lv_at hl 3 rfl) ?_
          refine k_vv (fr := 1) (lo := 23) (σ' := (us (up (up σ (30 + 2 * r_.toNat) 1 l_) (30 + 2 * r_.toNat) 2 n_) (30 + 2 * r_.toNat + 1) (cpy n_.toNat (fun _ => 0) (σ (30 + 2 * r_.toNat + 1))))) (As := [.int (iI (l_)), .int (iI (n_))]) (rest := []) hx hb hml hown hts hK hRf hRl hW hS (c_X7_begin l D cy B σ r_.toNat l_ n_ (show r_.toNat < 8 from (by first | assumption | omega | (simp only [tpL_25, List.length_cons, List.length_nil]; omega))) (show 0 ≤ n_ ∧ n_ ≤ 40 from (by first | assumption | omega | (simp only [tpL_25, List.length_cons, List.length_nil]; omega)))) vX7_begin ⟨w_368, w_369⟩ w_367 (by omega) (e_row (by omega)) rfl ⟨Nat.le_of_ble_eq_true rfl, Nat.le_of_ble_eq_true rfl⟩ hl.1 rfl (Nat.le_of_ble_eq_true rfl) ⟨Nat.zero_le _, Nat.zero_le _⟩ dX11_row_46 (fun H locs hW hS => ?_)
          refine lv_aload_n hx hb dX11_row_49 rfl (lv_at hl 0 rfl) ?_
          refine lv_iload_n hx hb dX11_row_50 rfl (lv_at hl 3 rfl) ?_
          refine k_vi (fr := 1) (lo := 23) (r := n_) (σ' := (up (us (up (up σ (30 + 2 * r_.toNat) 1 l_) (30 + 2 * r_.toNat) 2 n_) (30 + 2 * r_.toNat + 1) (cpy n_.toNat (fun _ => 0) (σ (30 + 2 * r_.toNat + 1)))) 0 15 0)) (As := [.int (iI (n_))]) (rest := []) hx hb hml hown hts hK hRf hRl hW hS (c_X11_foundNothing l D cy B (us (up (up σ (30 + 2 * r_.toNat) 1 l_) (30 + 2 * r_.toNat) 2 n_) (30 + 2 * r_.toNat + 1) (cpy n_.toNat (fun _ => 0) (σ (30 + 2 * r_.toNat + 1)))) n_ ) vX11_foundNothing ⟨w_373, w_1⟩ w_371 (by decide) e_0 rfl ⟨Nat.le_of_ble_eq_true rfl, Nat.le_of_ble_eq_true rfl⟩ hl.1 rfl (Nat.le_of_ble_eq_true rfl) ⟨Nat.zero_le _, Nat.zero_le _⟩ dX11_row_51 (fun H locs hW hS => ?_)
          exact hret _ _ _ _ _ _ dX11_row_54 hW hS ⟨by (repeat' split) <;> first | rfl | omega, by (repeat' split) <;> first | rfl | omega⟩
        · refine lv_aload_n hx hb dX11_row_32 rfl (lv_at hl 0 rfl) ?_
          refine zi_con hx hb dX11_row_33 ?_
          refine k_vi (fr := 1) (lo := 23) (r := -1000010 - 4) (σ' := (up σ 0 15 4)) (As := [.int (iI (4))]) (rest := []) hx hb hml hown hts hK hRf hRl hW hS (c_X11_found l D cy B σ 4 ) vX11_found ⟨w_364, w_0⟩ w_362 (by decide) e_0 rfl ⟨Nat.le_of_ble_eq_true rfl, Nat.le_of_ble_eq_true rfl⟩ hl.1 rfl (Nat.le_of_ble_eq_true rfl) ⟨Nat.zero_le _, Nat.zero_le _⟩ dX11_row_34 (fun H locs hW hS => ?_)
          exact hret _ _ _ _ _ _ dX11_row_37 hW hS ⟨by (repeat' split) <;> first | rfl | omega, by (repeat' split) <;> first | rfl | omega⟩
      · refine k_ldc hx hb hown hts (v := -1000001) (by decide) w_361 dX11_row_25 ?_
        exact hret _ _ _ _ _ _ dX11_row_27 hW hS ⟨by (repeat' split) <;> first | rfl | omega, by (repeat' split) <;> first | rfl | omega⟩

set_option maxRecDepth 100000 in
set_option maxHeartbeats 4000000 in
theorem c_X11_set (l : Launch) (D : va_G) (cy : Nat → ClassId) (B : Nat) (σ : Sg) (r_ : Int) (i_ : Int) (v_ : Int) (r_r_ : -2147483648 ≤ r_ ∧ r_ < 2147483648) (r_i_ : -2147483648 ≤ i_ ∧ i_ < 2147483648) (r_v_ : -2147483648 ≤ v_ ∧ v_ < 2147483648) (hln : ∀ k, k < 8 → -1 ≤ σ (30 + 2 * k) 1 ∧ σ (30 + 2 * k) 1 ≤ 2) (hsz : ∀ k, k < 8 → 0 ≤ σ (30 + 2 * k) 2 ∧ σ (30 + 2 * k) 2 ≤ 40) : CI l yX11_set cX11_set 5 (some .int) 1 22 D cy B [.ref (B + 0), .int (iI (r_)), .int (iI (i_)), .int (iI (v_))] σ (if ¬ (0 ≤ r_ ∧ r_ ≤ 7) then -1000001 else if σ (30 + 2 * r_.toNat) 1 = -1 then -1000011 else if ¬ (0 ≤ i_ ∧ i_ ≤ σ (30 + 2 * r_.toNat) 2 - 1) then -1000012 else fitI (σ (30 + 2 * r_.toNat) 1) v_) (if ¬ (0 ≤ r_ ∧ r_ ≤ 7) then σ else if σ (30 + 2 * r_.toNat) 1 = -1 then up σ 0 15 1 else if ¬ (0 ≤ i_ ∧ i_ ≤ σ (30 + 2 * r_.toNat) 2 - 1) then up σ 0 15 2 else up (up σ (30 + 2 * r_.toNat + 1) i_.toNat (fitI (σ (30 + 2 * r_.toNat) 1) v_)) 0 15 0) := by
  refine CI_of (ty := .int) (by decide) (rfl) (Nat.le_of_ble_eq_true rfl) ?_
  intro p e R s m args below meth c Q hx hb hml hown hts hK hRf hRl hW hret ls hl
  have hown : s.vm.findClass "LoveParts" = some m.cls := hown
  have hS : va_S (AB B) s.heap s.heap [] := va_S.rf
  have hl : lv_has ls 5 [(0, .ref (B + 0)), (1, .int (iI (r_))), (2, .int (iI (i_))), (3, .int (iI (v_)))] := hl
  refine lv_iload_n hx hb dX11_set_0 rfl (lv_at hl 1 rfl) ?_
  refine zi_con hx hb dX11_set_1 ?_
  refine zi_bip hx hb dX11_set_2 (by decide) ?_
  refine k_si (fr := 1) (lo := 22) (r := (if 0 ≤ r_ ∧ r_ ≤ 7 then 1 else 0)) (As := [.int (iI (r_)), .int (iI (0)), .int (iI (7))]) (rest := []) hx hb hml hown hts hK hRf hRl hW hS (c_X11_within l D cy B σ r_ 0 7 (show -2147483648 ≤ r_ ∧ r_ < 2147483648 from (by first | assumption | omega | (simp only [tpL_25, List.length_cons, List.length_nil]; omega))) (show -2147483648 ≤ 0 ∧ 0 < 2147483648 from (by first | assumption | omega | (simp only [tpL_25, List.length_cons, List.length_nil]; omega))) (show -2147483648 ≤ 7 ∧ 7 < 2147483648 from (by first | assumption | omega | (simp only [tpL_25, List.length_cons, List.length_nil]; omega)))) vX11_within w_359 w_358 ⟨Nat.le_of_ble_eq_true rfl, Nat.le_of_ble_eq_true rfl⟩ hl.1 rfl (Nat.le_of_ble_eq_true rfl) ⟨Nat.zero_le _, Nat.zero_le _⟩ dX11_set_4 (fun H locs hW hS => ?_)
  refine zi_bne (tgt := 13) hx hb dX11_set_7 (by decide) (fun c7 => ?_) (fun c7 => ?_)
  · have hz1 := hln r_.toNat (by omega)
    have hz2 := hsz r_.toNat (by omega)
    refine lv_aload_n hx hb dX11_set_13 rfl (lv_at hl 0 rfl) ?_
    refine wz_get hx hb hts hown hK hW 0 0 (by decide) e_0 rfl (by decide) inG11 w_305 rfl rfl dX11_set_14 ?_
    refine lv_iload_n hx hb dX11_set_17 rfl (lv_at hl 1 rfl) ?_
    refine wz_ara hx hb hK hW 1 r_.toNat 5 (by decide) e_1 rfl (by omega) (by omega) (by decide) rfl dX11_set_18 ?_
    refine lv_astore (lv' := [(4, .ref (B + (30 + 2 * r_.toNat))), (0, .ref (B + 0)), (1, .int (iI (r_))), (2, .int (iI (i_))), (3, .int (iI (v_)))]) hx hb dX11_set_19 hl (by decide) rfl (fun ls hl => ?_)
    refine lv_aload hx hb dX11_set_21 (lv_at hl 0 rfl) ?_
    refine k_vi (fr := 1) (lo := 22) (r := (if σ (30 + 2 * r_.toNat) 1 = -1 then 1 else 0)) (As := []) (rest := []) hx hb hml hown hts hK hRf hRl hW hS (c_X7_missing l D cy B σ r_.toNat (show r_.toNat < 8 from (by first | assumption | omega | (simp only [tpL_25, List.length_cons, List.length_nil]; omega))) (show -1 ≤ σ (30 + 2 * r_.toNat) 1 ∧ σ (30 + 2 * r_.toNat) 1 ≤ 2 from (by first | assumption | omega | (simp only [tpL_25, List.length_cons, List.length_nil]; omega)))) vX7_missing ⟨w_380, w_381⟩ w_379 (by omega) (e_row (by omega)) rfl ⟨Nat.le_of_ble_eq_true rfl, Nat.le_of_ble_eq_true rfl⟩ hl.1 rfl (Nat.le_of_ble_eq_true rfl) ⟨Nat.zero_le _, Nat.zero_le _⟩ dX11_set_23 (fun H locs hW hS => ?_)
    refine zi_beq (tgt := 35) hx hb dX11_set_26 (by decide) (fun c26 => ?_) (fun c26 => ?_)
    · refine lv_aload hx hb dX11_set_35 (lv_at hl 0 rfl) ?_
      refine lv_iload_n hx hb dX11_set_37 rfl (lv_at hl 3 rfl) ?_
      refine zi_con hx hb dX11_set_38 ?_
      refine k_vi (fr := 1) (lo := 22) (r := (if 0 ≤ i_ ∧ 0 ≤ 1 ∧ i_ ≤ σ (30 + 2 * r_.toNat) 2 - 1 then 1 else 0)) (As := [.int (iI (i_)), .int (iI (1))]) (rest := []) hx hb hml hown hts hK hRf hRl hW hS (c_X7_holds l D cy B σ r_.toNat i_ 1 (show r_.toNat < 8 from (by first | assumption | omega | (simp only [tpL_25, List.length_cons, List.length_nil]; omega))) (show -2147483648 ≤ i_ ∧ i_ < 2147483648 from (by first | assumption | omega | (simp only [tpL_25, List.length_cons, List.length_nil]; omega))) (show -2147483648 ≤ 1 ∧ 1 < 2147483648 from (by first | assumption | omega | (simp only [tpL_25, List.length_cons, List.length_nil]; omega))) (show 0 ≤ σ (30 + 2 * r_.toNat) 2 ∧ σ (30 + 2 * r_.toNat) 2 ≤ 40 from (by first | assumption | omega | (simp only [tpL_25, List.length_cons, List.length_nil]; omega)))) vX7_holds ⟨w_384, w_385⟩ w_383 (by omega) (e_row (by omega)) rfl ⟨Nat.le_of_ble_eq_true rfl, Nat.le_of_ble_eq_true rfl⟩ hl.1 rfl (Nat.le_of_ble_eq_true rfl) ⟨Nat.zero_le _, Nat.zero_le _⟩ dX11_set_39 (fun H locs hW hS => ?_)
      refine zi_bne (tgt := 51) hx hb dX11_set_42 (by decide) (fun c42 => ?_) (fun c42 => ?_)
      · refine lv_aload hx hb dX11_set_51 (lv_at hl 0 rfl) ?_
        refine wz_get hx hb hts hown hK hW (30 + 2 * r_.toNat) 0 (by omega) (e_row (by omega)) rfl (by decide) inG7 w_293 rfl rfl dX11_set_53 ?_
        refine lv_iload_n hx hb dX11_set_56 rfl (lv_at hl 3 rfl) ?_
        refine lv_aload hx hb dX11_set_57 (lv_at hl 0 rfl) ?_
        refine lv_iload_n hx hb dX11_set_59 rfl (lv_at hl 4 rfl) ?_
        refine k_vi (fr := 1) (lo := 22) (r := fitI (σ (30 + 2 * r_.toNat) 1) v_) (As := [.int (iI (v_))]) (rest := [.int (iI (i_)), .ref (B + (30 + 2 * r_.toNat + 1))]) hx hb hml hown hts hK hRf hRl hW hS (c_X7_fitted l D cy B σ r_.toNat v_ (show r_.toNat < 8 from (by first | assumption | omega | (simp only [tpL_25, List.length_cons, List.length_nil]; omega))) (show -2147483648 ≤ v_ ∧ v_ < 2147483648 from (by first | assumption | omega | (simp only [tpL_25, List.length_cons, List.length_nil]; omega))) (show -1 ≤ σ (30 + 2 * r_.toNat) 1 ∧ σ (30 + 2 * r_.toNat) 1 ≤ 2 from (by first | assumption | omega | (simp only [tpL_25, List.length_cons, List.length_nil]; omega)))) vX7_fitted ⟨w_388, w_389⟩ w_387 (by omega) (e_row (by omega)) rfl ⟨Nat.le_of_ble_eq_true rfl, Nat.le_of_ble_eq_true rfl⟩ hl.1 rfl (Nat.le_of_ble_eq_true rfl) ⟨Nat.zero_le _, Nat.zero_le _⟩ dX11_set_60 (fun H locs hW hS => ?_)
        refine wz_ast (σ' := (up σ (30 + 2 * r_.toNat + 1) i_.toNat (fitI (σ (30 + 2 * r_.toNat) 1) v_))) hx hb hK hW hS (30 + 2 * r_.toNat + 1) i_.toNat (by omega) (e_it (by omega)) (by omega) (by omega) (by decide) (p_it (by omega)) dX11_set_63 (fun H locs hW hS => ?_)
        refine lv_aload_n hx hb dX11_set_64 rfl (lv_at hl 1 rfl) ?_
        refine lv_aload hx hb dX11_set_65 (lv_at hl 0 rfl) ?_
        refine wz_get hx hb hts hown hK hW (30 + 2 * r_.toNat) 0 (by omega) (e_row (by omega)) rfl (by decide) inG7 w_293 rfl rfl dX11_set_67 ?_
        refine lv_iload_n hx hb dX11_set_70 rfl (lv_at hl 3 rfl) ?_
        refine wz_ald hx hb hK hW (30 + 2 * r_.toNat + 1) i_.toNat (by omega) (e_it (by omega)) (by omega) (by omega) (by decide) dX11_set_71 ?_
        refine zi_top (y := fitI (σ (30 + 2 * r_.toNat) 1) v_) (by unfold up; rw [us_eq, uf_eq]) ?_
        refine k_vi (fr := 1) (lo := 22) (r := (fitI (σ (30 + 2 * r_.toNat) 1) v_)) (σ' := (up (up σ (30 + 2 * r_.toNat + 1) i_.toNat (fitI (σ (30 + 2 * r_.toNat) 1) v_)) 0 15 0)) (As := [.int (iI (fitI (σ (30 + 2 * r_.toNat) 1) v_))]) (rest := []) hx hb hml hown hts hK hRf hRl hW hS (c_X11_foundNothing l D cy B (up σ (30 + 2 * r_.toNat + 1) i_.toNat (fitI (σ (30 + 2 * r_.toNat) 1) v_)) (fitI (σ (30 + 2 * r_.toNat) 1) v_) ) vX11_foundNothing ⟨w_373, w_1⟩ w_371 (by decide) e_0 rfl ⟨Nat.le_of_ble_eq_true rfl, Nat.le_of_ble_eq_true rfl⟩ hl.1 rfl (Nat.le_of_ble_eq_true rfl) ⟨Nat.zero_le _, Nat.zero_le _⟩ dX11_set_72 (fun H locs hW hS => ?_)
        exact hret _ _ _ _ _ _ dX11_set_75 hW hS ⟨by (repeat' split) <;> first | rfl | omega, by (repeat' split) <;> first | rfl | omega⟩
      · refine lv_aload_n hx hb dX11_set_45 rfl (lv_at hl 1 rfl) ?_
        refine zi_con hx hb dX11_set_46 ?_
        refine k_vi (fr := 1) (lo := 22) (r := -1000010 - 2) (σ' := (up σ 0 15 2)) (As := [.int (iI (2))]) (rest := []) hx hb hml hown hts hK hRf hRl hW hS (c_X11_found l D cy B σ 2 ) vX11_found ⟨w_364, w_0⟩ w_362 (by decide) e_0 rfl ⟨Nat.le_of_ble_eq_true rfl, Nat.le_of_ble_eq_true rfl⟩ hl.1 rfl (Nat.le_of_ble_eq_true rfl) ⟨Nat.zero_le _, Nat.zero_le _⟩ dX11_set_47 (fun H locs hW hS => ?_)
        exact hret _ _ _ _ _ _ dX11_set_50 hW hS ⟨by (repeat' split) <;> first | rfl | omega, by (repeat' split) <;> first | rfl | omega⟩
    · refine lv_aload_n hx hb dX11_set_29 rfl (lv_at hl 1 rfl) ?_
      refine zi_con hx hb dX11_set_30 ?_
      refine k_vi (fr := 1) (lo := 22) (r := -1000010 - 1) (σ' := (up σ 0 15 1)) (As := [.int (iI (1))]) (rest := []) hx hb hml hown hts hK hRf hRl hW hS (c_X11_found l D cy B σ 1 ) vX11_found ⟨w_364, w_0⟩ w_362 (by decide) e_0 rfl ⟨Nat.le_of_ble_eq_true rfl, Nat.le_of_ble_eq_true rfl⟩ hl.1 rfl (Nat.le_of_ble_eq_true rfl) ⟨Nat.zero_le _, Nat.zero_le _⟩ dX11_set_31 (fun H locs hW hS => ?_)
      exact hret _ _ _ _ _ _ dX11_set_34 hW hS ⟨by (repeat' split) <;> first | rfl | omega, by (repeat' split) <;> first | rfl | omega⟩
  · refine k_ldc hx hb hown hts (v := -1000001) (by decide) w_361 dX11_set_10 ?_
    exact hret _ _ _ _ _ _ dX11_set_12 hW hS ⟨by (repeat' split) <;> first | rfl | omega, by (repeat' split) <;> first | rfl | omega⟩

set_option maxRecDepth 100000 in
set_option maxHeartbeats 4000000 in
theorem c_X11_drop (l : Launch) (D : va_G) (cy : Nat → ClassId) (B : Nat) (σ : Sg) (r_ : Int) (r_r_ : -2147483648 ≤ r_ ∧ r_ < 2147483648) (hln : ∀ k, k < 8 → -1 ≤ σ (30 + 2 * k) 1 ∧ σ (30 + 2 * k) 1 ≤ 2) : CI l yX11_drop cX11_drop 4 (some .int) 1 22 D cy B [.ref (B + 0), .int (iI (r_))] σ (if ¬ (0 ≤ r_ ∧ r_ ≤ 7) then -1000001 else if σ (30 + 2 * r_.toNat) 1 = -1 then -1000011 else σ (30 + 2 * r_.toNat) 2) (if ¬ (0 ≤ r_ ∧ r_ ≤ 7) then σ else if σ (30 + 2 * r_.toNat) 1 = -1 then up σ 0 15 1 else up (up (up σ (30 + 2 * r_.toNat) 1 (-1)) (30 + 2 * r_.toNat) 2 0) 0 15 0) := by
  refine CI_of (ty := .int) (by decide) (rfl) (Nat.le_of_ble_eq_true rfl) ?_
  intro p e R s m args below meth c Q hx hb hml hown hts hK hRf hRl hW hret ls hl
  have hown : s.vm.findClass "LoveParts" = some m.cls := hown
  have hS : va_S (AB B) s.heap s.heap [] := va_S.rf
  have hl : lv_has ls 4 [(0, .ref (B + 0)), (1, .int (iI (r_)))] := hl
  refine lv_iload_n hx hb dX11_drop_0 rfl (lv_at hl 1 rfl) ?_
  refine zi_con hx hb dX11_drop_1 ?_
  refine zi_bip hx hb dX11_drop_2 (by decide) ?_
  refine k_si (fr := 1) (lo := 22) (r := (if 0 ≤ r_ ∧ r_ ≤ 7 then 1 else 0)) (As := [.int (iI (r_)), .int (iI (0)), .int (iI (7))]) (rest := []) hx hb hml hown hts hK hRf hRl hW hS (c_X11_within l D cy B σ r_ 0 7 (show -2147483648 ≤ r_ ∧ r_ < 2147483648 from (by first | assumption | omega | (simp only [tpL_25, List.length_cons, List.length_nil]; omega))) (show -2147483648 ≤ 0 ∧ 0 < 2147483648 from (by first | assumption | omega | (simp only [tpL_25, List.length_cons, List.length_nil]; omega))) (show -2147483648 ≤ 7 ∧ 7 < 2147483648 from (by first | assumption | omega | (simp only [tpL_25, List.length_cons, List.length_nil]; omega)))) vX11_within w_359 w_358 ⟨Nat.le_of_ble_eq_true rfl, Nat.le_of_ble_eq_true rfl⟩ hl.1 rfl (Nat.le_of_ble_eq_true rfl) ⟨Nat.zero_le _, Nat.zero_le _⟩ dX11_drop_4 (fun H locs hW hS => ?_)
  refine zi_bne (tgt := 13) hx hb dX11_drop_7 (by decide) (fun c7 => ?_) (fun c7 => ?_)
  · have hz1 := hln r_.toNat (by omega)
    refine lv_aload_n hx hb dX11_drop_13 rfl (lv_at hl 0 rfl) ?_
    refine wz_get hx hb hts hown hK hW 0 0 (by decide) e_0 rfl (by decide) inG11 w_305 rfl rfl dX11_drop_14 ?_
    refine lv_iload_n hx hb dX11_drop_17 rfl (lv_at hl 1 rfl) ?_
    refine wz_ara hx hb hK hW 1 r_.toNat 5 (by decide) e_1 rfl (by omega) (by omega) (by decide) rfl dX11_drop_18 ?_
    refine lv_astore_n (lv' := [(2, .ref (B + (30 + 2 * r_.toNat))), (0, .ref (B + 0)), (1, .int (iI (r_)))]) hx hb dX11_drop_19 rfl hl (by decide) rfl (fun ls hl => ?_)
    refine lv_aload_n hx hb dX11_drop_20 rfl (lv_at hl 0 rfl) ?_
    refine k_vi (fr := 1) (lo := 22) (r := (if σ (30 + 2 * r_.toNat) 1 = -1 then 1 else 0)) (As := []) (rest := []) hx hb hml hown hts hK hRf hRl hW hS (c_X7_missing l D cy B σ r_.toNat (show r_.toNat < 8 from (by first | assumption | omega | (simp only [tpL_25, List.length_cons, List.length_nil]; omega))) (show -1 ≤ σ (30 + 2 * r_.toNat) 1 ∧ σ (30 + 2 * r_.toNat) 1 ≤ 2 from (by first | assumption | omega | (simp only [tpL_25, List.length_cons, List.length_nil]; omega)))) vX7_missing ⟨w_380, w_381⟩ w_379 (by omega) (e_row (by omega)) rfl ⟨Nat.le_of_ble_eq_true rfl, Nat.le_of_ble_eq_true rfl⟩ hl.1 rfl (Nat.le_of_ble_eq_true rfl) ⟨Nat.zero_le _, Nat.zero_le _⟩ dX11_drop_21 (fun H locs hW hS => ?_)
    refine zi_beq (tgt := 33) hx hb dX11_drop_24 (by decide) (fun c24 => ?_) (fun c24 => ?_)
    · refine lv_aload_n hx hb dX11_drop_33 rfl (lv_at hl 0 rfl) ?_
      refine wz_get hx hb hts hown hK hW (30 + 2 * r_.toNat) 2 (by omega) (e_row (by omega)) rfl (by decide) inG7 w_297 rfl rfl dX11_drop_34 ?_
      refine lv_istore_n (lv' := [(3, .int (iI (σ (30 + 2 * r_.toNat) 2))), (2, .ref (B + (30 + 2 * r_.toNat))), (0, .ref (B + 0)), (1, .int (iI (r_)))]) hx hb dX11_drop_37 rfl hl (by decide) rfl (fun ls hl => ?_)
      refine lv_aload_n hx hb dX11_drop_38 rfl (lv_at hl 1 rfl) ?_
      refine k_vv (fr := 1) (lo := 22) (σ' := (up (up σ (30 + 2 * r_.toNat) 1 (-1)) (30 + 2 * r_.toNat) 2 0)) (As := []) (rest := []) hx hb hml hown hts hK hRf hRl hW hS (c_X7_end l D cy B σ r_.toNat (show r_.toNat < 8 from (by first | assumption | omega | (simp only [tpL_25, List.length_cons, List.length_nil]; omega)))) vX7_end ⟨w_403, w_404⟩ w_402 (by omega) (e_row (by omega)) rfl ⟨Nat.le_of_ble_eq_true rfl, Nat.le_of_ble_eq_true rfl⟩ hl.1 rfl (Nat.le_of_ble_eq_true rfl) ⟨Nat.zero_le _, Nat.zero_le _⟩ dX11_drop_39 (fun H locs hW hS => ?_)
      refine lv_aload_n hx hb dX11_drop_42 rfl (lv_at hl 2 rfl) ?_
      refine lv_iload_n hx hb dX11_drop_43 rfl (lv_at hl 0 rfl) ?_
      refine k_vi (fr := 1) (lo := 22) (r := (σ (30 + 2 * r_.toNat) 2)) (σ' := (up (up (up σ (30 + 2 * r_.toNat) 1 (-1)) (30 + 2 * r_.toNat) 2 0) 0 15 0)) (As := [.int (iI (σ (30 + 2 * r_.toNat) 2))]) (rest := []) hx hb hml hown hts hK hRf hRl hW hS (c_X11_foundNothing l D cy B (up (up σ (30 + 2 * r_.toNat) 1 (-1)) (30 + 2 * r_.toNat) 2 0) (σ (30 + 2 * r_.toNat) 2) ) vX11_foundNothing ⟨w_373, w_1⟩ w_371 (by decide) e_0 rfl ⟨Nat.le_of_ble_eq_true rfl, Nat.le_of_ble_eq_true rfl⟩ hl.1 rfl (Nat.le_of_ble_eq_true rfl) ⟨Nat.zero_le _, Nat.zero_le _⟩ dX11_drop_44 (fun H locs hW hS => ?_)
      exact hret _ _ _ _ _ _ dX11_drop_47 hW hS ⟨by (repeat' split) <;> first | rfl | omega, by (repeat' split) <;> first | rfl | omega⟩
    · refine lv_aload_n hx hb dX11_drop_27 rfl (lv_at hl 1 rfl) ?_
      refine zi_con hx hb dX11_drop_28 ?_
      refine k_vi (fr := 1) (lo := 22) (r := -1000010 - 1) (σ' := (up σ 0 15 1)) (As := [.int (iI (1))]) (rest := []) hx hb hml hown hts hK hRf hRl hW hS (c_X11_found l D cy B σ 1 ) vX11_found ⟨w_364, w_0⟩ w_362 (by decide) e_0 rfl ⟨Nat.le_of_ble_eq_true rfl, Nat.le_of_ble_eq_true rfl⟩ hl.1 rfl (Nat.le_of_ble_eq_true rfl) ⟨Nat.zero_le _, Nat.zero_le _⟩ dX11_drop_29 (fun H locs hW hS => ?_)
      exact hret _ _ _ _ _ _ dX11_drop_32 hW hS ⟨by (repeat' split) <;> first | rfl | omega, by (repeat' split) <;> first | rfl | omega⟩
  · refine k_ldc hx hb hown hts (v := -1000001) (by decide) w_361 dX11_drop_10 ?_
    exact hret _ _ _ _ _ _ dX11_drop_12 hW hS ⟨by (repeat' split) <;> first | rfl | omega, by (repeat' split) <;> first | rfl | omega⟩

set_option maxRecDepth 100000 in
set_option maxHeartbeats 4000000 in
theorem c_X11_feed (l : Launch) (D : va_G) (cy : Nat → ClassId) (B : Nat) (σ : Sg) (z_ : Int) (r_z_ : -2147483648 ≤ z_ ∧ z_ < 2147483648) (hby : 0 ≤ σ 2 1 ∧ σ 2 1 ≤ 100) : CI l yX11_feed cX11_feed 2 (some .int) 1 22 D cy B [.ref (B + 0), .int (iI (z_))] σ (if ¬ (0 ≤ z_ ∧ z_ ≤ 255) then -1000001 else if σ 2 1 = 100 then -1000003 else σ 2 1 + 1) (if ¬ (0 ≤ z_ ∧ z_ ≤ 255) then σ else if σ 2 1 = 100 then σ else up (up σ 3 (σ 2 1).toNat z_) 2 1 (σ 2 1 + 1)) := by
  refine CI_of (ty := .int) (by decide) (rfl) (Nat.le_of_ble_eq_true rfl) ?_
  intro p e R s m args below meth c Q hx hb hml hown hts hK hRf hRl hW hret ls hl
  have hown : s.vm.findClass "LoveParts" = some m.cls := hown
  have hS : va_S (AB B) s.heap s.heap [] := va_S.rf
  have hl : lv_has ls 2 [(0, .ref (B + 0)), (1, .int (iI (z_)))] := hl
  refine lv_iload_n hx hb dX11_feed_0 rfl (lv_at hl 1 rfl) ?_
  refine zi_con hx hb dX11_feed_1 ?_
  refine zi_sip hx hb dX11_feed_2 (by decide) ?_
  refine k_si (fr := 1) (lo := 22) (r := (if 0 ≤ z_ ∧ z_ ≤ 255 then 1 else 0)) (As := [.int (iI (z_)), .int (iI (0)), .int (iI (255))]) (rest := []) hx hb hml hown hts hK hRf hRl hW hS (c_X11_within l D cy B σ z_ 0 255 (show -2147483648 ≤ z_ ∧ z_ < 2147483648 from (by first | assumption | omega | (simp only [tpL_25, List.length_cons, List.length_nil]; omega))) (show -2147483648 ≤ 0 ∧ 0 < 2147483648 from (by first | assumption | omega | (simp only [tpL_25, List.length_cons, List.length_nil]; omega))) (show -2147483648 ≤ 255 ∧ 255 < 2147483648 from (by first | assumption | omega | (simp only [tpL_25, List.length_cons, List.length_nil]; omega)))) vX11_within w_359 w_358 ⟨Nat.le_of_ble_eq_true rfl, Nat.le_of_ble_eq_true rfl⟩ hl.1 rfl (Nat.le_of_ble_eq_true rfl) ⟨Nat.zero_le _, Nat.zero_le _⟩ dX11_feed_5 (fun H locs hW hS => ?_)
  refine zi_bne (tgt := 14) hx hb dX11_feed_8 (by decide) (fun c8 => ?_) (fun c8 => ?_)
  · refine lv_aload_n hx hb dX11_feed_14 rfl (lv_at hl 0 rfl) ?_
    refine wz_get hx hb hts hown hK hW 0 1 (by decide) e_0 rfl (by decide) inG11 w_306 rfl rfl dX11_feed_15 ?_
    refine wz_get hx hb hts hown hK hW 2 1 (by decide) e_2 rfl (by decide) inG5 w_87 rfl rfl dX11_feed_18 ?_
    refine zi_bip hx hb dX11_feed_21 (by decide) ?_
    refine zi_clt (tgt := 29) hx hb dX11_feed_23 (by decide) (by omega) (by omega) (fun c23 => ?_) (fun c23 => ?_)
    · refine lv_aload_n hx hb dX11_feed_29 rfl (lv_at hl 0 rfl) ?_
      refine wz_get hx hb hts hown hK hW 0 1 (by decide) e_0 rfl (by decide) inG11 w_306 rfl rfl dX11_feed_30 ?_
      refine wz_get hx hb hts hown hK hW 2 0 (by decide) e_2 rfl (by decide) inG5 w_85 rfl rfl dX11_feed_33 ?_
      refine lv_aload_n hx hb dX11_feed_36 rfl (lv_at hl 0 rfl) ?_
      refine wz_get hx hb hts hown hK hW 0 1 (by decide) e_0 rfl (by decide) inG11 w_306 rfl rfl dX11_feed_37 ?_
      refine wz_get hx hb hts hown hK hW 2 1 (by decide) e_2 rfl (by decide) inG5 w_87 rfl rfl dX11_feed_40 ?_
      refine lv_iload_n hx hb dX11_feed_43 rfl (lv_at hl 1 rfl) ?_
      refine wz_ast (σ' := (up σ 3 ((σ 2 1).toNat) z_)) hx hb hK hW hS 3 ((σ 2 1).toNat) (by decide) e_3 (by omega) (by omega) (by decide) p_3 dX11_feed_44 (fun H locs hW hS => ?_)
      refine lv_aload_n hx hb dX11_feed_45 rfl (lv_at hl 0 rfl) ?_
      refine wz_get hx hb hts hown hK hW 0 1 (by decide) e_0 rfl (by decide) inG11 w_306 rfl rfl dX11_feed_46 ?_
      refine lv_dup hx hb dX11_feed_49 rfl ?_
      refine wz_get hx hb hts hown hK hW 2 1 (by decide) e_2 rfl (by decide) inG5 w_87 rfl rfl dX11_feed_50 ?_
      refine zi_top (y := σ 2 1) (by (first | rfl | (simp [us, uf, nS] <;> omega))) ?_
      refine zi_con hx hb dX11_feed_53 ?_
      refine zi_add hx hb dX11_feed_54 ?_
      refine wz_put (σ' := (up (up σ 3 ((σ 2 1).toNat) z_) 2 1 ((σ 2 1) + 1))) (ty := .int) hx hb hts hown hK hW hS 2 1 tyX5 (by decide) e_2 rfl (by decide) inG5 tyX5_ok nmX5 w_87 ⟨rfl, rfl, Nat.le_of_ble_eq_true rfl⟩ (by decide +kernel) ⟨rfl, rfl⟩ p_2_1 dX11_feed_55 (fun H locs hW hS => ?_)
      refine lv_aload_n hx hb dX11_feed_58 rfl (lv_at hl 0 rfl) ?_
      refine wz_get hx hb hts hown hK hW 0 1 (by decide) e_0 rfl (by decide) inG11 w_306 rfl rfl dX11_feed_59 ?_
      refine wz_get hx hb hts hown hK hW 2 1 (by decide) e_2 rfl (by decide) inG5 w_87 rfl rfl dX11_feed_62 ?_
      refine zi_top (y := (σ 2 1) + 1) (by (first | rfl | (simp [us, uf, nS] <;> omega))) ?_
      exact hret _ _ _ _ _ _ dX11_feed_65 hW hS ⟨by (repeat' split) <;> first | rfl | omega, by (repeat' split) <;> first | rfl | omega⟩
    · refine k_ldc hx hb hown hts (v := -1000003) (by decide) w_410 dX11_feed_26 ?_
      exact hret _ _ _ _ _ _ dX11_feed_28 hW hS ⟨by (repeat' split) <;> first | rfl | omega, by (repeat' split) <;> first | rfl | omega⟩
  · refine k_ldc hx hb hown hts (v := -1000001) (by decide) w_361 dX11_feed_11 ?_
    exact hret _ _ _ _ _ _ dX11_feed_13 hW hS ⟨by (repeat' split) <;> first | rfl | omega, by (repeat' split) <;> first | rfl | omega⟩

set_option maxRecDepth 100000 in
set_option maxHeartbeats 4000000 in
theorem c_X11_undo (l : Launch) (D : va_G) (cy : Nat → ClassId) (B : Nat) (σ : Sg)  (ha8 : 0 ≤ σ 0 8 ∧ σ 0 8 ≤ 24) (ha9 : 0 ≤ σ 0 9 ∧ σ 0 9 ≤ 23) (hbe : ¬ σ 0 8 = 0 → okV (σ (58 + 6 * (bk (σ)).toNat))) : CI l yX11_undo cX11_undo 1 (some .int) 2 43 D cy B [.ref (B + 0)] σ (if σ 0 8 = 0 then -1000002 else σ 0 8 - 1) (if σ 0 8 = 0 then σ else us (up (up σ 0 9 (bk (σ))) 0 8 (σ 0 8 - 1)) 18 (tkN (σ 18) (σ (58 + 6 * (bk (σ)).toNat)) (mn (σ (58 + 6 * (bk (σ)).toNat))))) := by
  refine CI_of (ty := .int) (by decide) (rfl) (Nat.le_of_ble_eq_true rfl) ?_
  intro p e R s m args below meth c Q hx hb hml hown hts hK hRf hRl hW hret ls hl
  have hown : s.vm.findClass "LoveParts" = some m.cls := hown
  have hS : va_S (AB B) s.heap s.heap [] := va_S.rf
  have hl : lv_has ls 1 [(0, .ref (B + 0))] := hl
  have hbk : 0 ≤ bk (σ) ∧ bk (σ) ≤ 23 := by unfold bk; split <;> omega
  refine lv_aload_n hx hb dX11_undo_0 rfl (lv_at hl 0 rfl) ?_
  refine wz_get hx hb hts hown hK hW 0 8 (by decide) e_0 rfl (by decide) inG11 w_313 rfl rfl dX11_undo_1 ?_
  refine zi_ne (tgt := 10) hx hb dX11_undo_4 (by decide) (by omega) (fun c4 => ?_) (fun c4 => ?_)
  · have hok2 := hbe (by omega)
    obtain ⟨o4, o0, o1, o2, o3, o5, o6, o7, oH⟩ := id hok2
    refine lv_aload_n hx hb dX11_undo_10 rfl (lv_at hl 0 rfl) ?_
    refine lv_aload_n hx hb dX11_undo_11 rfl (lv_at hl 0 rfl) ?_
    refine wz_get hx hb hts hown hK hW 0 9 (by decide) e_0 rfl (by decide) inG11 w_314 rfl rfl dX11_undo_12 ?_
    refine zi_ne (tgt := 23) hx hb dX11_undo_15 (by decide) (by omega) (fun c15 => ?_) (fun c15 => ?_)
    · refine lv_aload_n hx hb dX11_undo_23 rfl (lv_at hl 0 rfl) ?_
      refine wz_get hx hb hts hown hK hW 0 9 (by decide) e_0 rfl (by decide) inG11 w_314 rfl rfl dX11_undo_24 ?_
      refine zi_con hx hb dX11_undo_27 ?_
      refine zi_sub hx hb dX11_undo_28 ?_
      refine zi_top (y := bk (σ)) (by unfold bk; rw [if_neg (by omega)]) ?_
      refine wz_put (σ' := (up σ 0 9 (bk (σ)))) (ty := .int) hx hb hts hown hK hW hS 0 9 tyX11 (by decide) e_0 rfl (by decide) inG11 tyX11_ok nmX11 w_314 ⟨rfl, rfl, Nat.le_of_ble_eq_true rfl⟩ (by decide +kernel) ⟨rfl, rfl⟩ p_0_9 dX11_undo_29 (fun H locs hW hS => ?_)
      refine lv_aload_n hx hb dX11_undo_32 rfl (lv_at hl 0 rfl) ?_
      refine lv_dup hx hb dX11_undo_33 rfl ?_
      refine wz_get hx hb hts hown hK hW 0 8 (by decide) e_0 rfl (by decide) inG11 w_313 rfl rfl dX11_undo_34 ?_
      refine zi_top (y := σ 0 8) (by (first | rfl | (simp [us, uf, nS] <;> omega))) ?_
      refine zi_con hx hb dX11_undo_37 ?_
      refine zi_sub hx hb dX11_undo_38 ?_
      refine wz_put (σ' := (up (up σ 0 9 (bk (σ))) 0 8 ((σ 0 8) - 1))) (ty := .int) hx hb hts hown hK hW hS 0 8 tyX11 (by decide) e_0 rfl (by decide) inG11 tyX11_ok nmX11 w_313 ⟨rfl, rfl, Nat.le_of_ble_eq_true rfl⟩ (by decide +kernel) ⟨rfl, rfl⟩ p_0_8 dX11_undo_39 (fun H locs hW hS => ?_)
      refine lv_aload_n hx hb dX11_undo_42 rfl (lv_at hl 0 rfl) ?_
      refine wz_get hx hb hts hown hK hW 0 4 (by decide) e_0 rfl (by decide) inG11 w_309 rfl rfl dX11_undo_43 ?_
      refine lv_aload_n hx hb dX11_undo_46 rfl (lv_at hl 0 rfl) ?_
      refine wz_get hx hb hts hown hK hW 0 7 (by decide) e_0 rfl (by decide) inG11 w_312 rfl rfl dX11_undo_47 ?_
      refine lv_aload_n hx hb dX11_undo_50 rfl (lv_at hl 0 rfl) ?_
      refine wz_get hx hb hts hown hK hW 0 9 (by decide) e_0 rfl (by decide) inG11 w_314 rfl rfl dX11_undo_51 ?_
      refine zi_top (y := bk (σ)) (by (first | rfl | (simp [us, uf, nS] <;> omega))) ?_
      refine wz_ara hx hb hK hW 8 ((bk (σ)).toNat) 4 (by decide) e_8 rfl (by omega) (by omega) (by decide) rfl dX11_undo_54 ?_
      refine k_vv (fr := 2) (lo := 43) (σ' := (us (up (up σ 0 9 (bk (σ))) 0 8 ((σ 0 8) - 1)) 18 (tkN (σ 18) ((up (up σ 0 9 (bk (σ))) 0 8 ((σ 0 8) - 1)) (58 + 6 * ((bk (σ)).toNat))) (mn ((up (up σ 0 9 (bk (σ))) 0 8 ((σ 0 8) - 1)) (58 + 6 * ((bk (σ)).toNat))))))) (As := [.ref (B + (58 + 6 * ((bk (σ)).toNat)))]) (rest := []) hx hb hml hown hts hK hRf hRl hW hS (c_X6_take l D cy B (up (up σ 0 9 (bk (σ))) 0 8 ((σ 0 8) - 1)) 18 (58 + 6 * ((bk (σ)).toNat)) (show isR 18 from isR_18) (show isR (58 + 6 * ((bk (σ)).toNat)) from (isR_be (by omega))) (show 18 ≠ (58 + 6 * ((bk (σ)).toNat)) from (by omega)) (show 0 ≤ (up (up σ 0 9 (bk (σ))) 0 8 ((σ 0 8) - 1)) (58 + 6 * ((bk (σ)).toNat)) 4 ∧ (up (up σ 0 9 (bk (σ))) 0 8 ((σ 0 8) - 1)) (58 + 6 * ((bk (σ)).toNat)) 4 ≤ 4 from (by unfold up; rw [us_ne _ _ (by omega), us_ne _ _ (by omega)]; omega)) (show (up (up σ 0 9 (bk (σ))) 0 8 ((σ 0 8) - 1)) (58 + 6 * ((bk (σ)).toNat)) 7 = 0 ∨ (up (up σ 0 9 (bk (σ))) 0 8 ((σ 0 8) - 1)) (58 + 6 * ((bk (σ)).toNat)) 7 = 1 from (by unfold up; rw [us_ne _ _ (by omega), us_ne _ _ (by omega)]; exact o7)) (show ∀ h : Nat, (h : Int) < (up (up σ 0 9 (bk (σ))) 0 8 ((σ 0 8) - 1)) (58 + 6 * ((bk (σ)).toNat)) 4 → (up (up σ 0 9 (bk (σ))) 0 8 ((σ 0 8) - 1)) (58 + 6 * ((bk (σ)).toNat)) (20 + h) = 0 ∨ (up (up σ 0 9 (bk (σ))) 0 8 ((σ 0 8) - 1)) (58 + 6 * ((bk (σ)).toNat)) (20 + h) = 1 from (by unfold up; rw [us_ne _ _ (by omega), us_ne _ _ (by omega)]; exact (fun h hh => (oH h hh).2.2.2.1)))) vX6_take ⟨w_460, w_461⟩ w_459 (lt_R isR_18) (e_R isR_18) rfl ⟨Nat.le_of_ble_eq_true rfl, Nat.le_of_ble_eq_true rfl⟩ hl.1 rfl (Nat.le_of_ble_eq_true rfl) ⟨Nat.zero_le _, Nat.zero_le _⟩ dX11_undo_55 (fun H locs hW hS => ?_)
      rw [show (us (up (up σ 0 9 (bk (σ))) 0 8 ((σ 0 8) - 1)) 18 (tkN (σ 18) ((up (up σ 0 9 (bk (σ))) 0 8 ((σ 0 8) - 1)) (58 + 6 * ((bk (σ)).toNat))) (mn ((up (up σ 0 9 (bk (σ))) 0 8 ((σ 0 8) - 1)) (58 + 6 * ((bk (σ)).toNat)))))) = (us (up (up σ 0 9 (bk (σ))) 0 8 (σ 0 8 - 1)) 18 (tkN (σ 18) (σ (58 + 6 * (bk (σ)).toNat)) (mn (σ (58 + 6 * (bk (σ)).toNat))))) from (by unfold up; rw [us_ne _ _ (show 58 + 6 * (bk (σ)).toNat ≠ 0 by omega), us_ne _ _ (show 58 + 6 * (bk (σ)).toNat ≠ 0 by omega)])] at hW
      refine lv_aload_n hx hb dX11_undo_58 rfl (lv_at hl 0 rfl) ?_
      refine wz_get hx hb hts hown hK hW 0 8 (by decide) e_0 rfl (by decide) inG11 w_313 rfl rfl dX11_undo_59 ?_
      refine zi_top (y := σ 0 8 - 1) (by rfl) ?_
      exact hret _ _ _ _ _ _ dX11_undo_62 hW hS ⟨by (repeat' split) <;> first | rfl | omega, by (repeat' split) <;> first | rfl | omega⟩
    · refine zi_bip hx hb dX11_undo_18 (by decide) ?_
      refine zi_top (y := bk (σ)) (by unfold bk; rw [if_pos (by omega)]) ?_
      refine lv_goto (tgt := 29) hx hb dX11_undo_20 (by decide) ?_
      refine wz_put (σ' := (up σ 0 9 (bk (σ)))) (ty := .int) hx hb hts hown hK hW hS 0 9 tyX11 (by decide) e_0 rfl (by decide) inG11 tyX11_ok nmX11 w_314 ⟨rfl, rfl, Nat.le_of_ble_eq_true rfl⟩ (by decide +kernel) ⟨rfl, rfl⟩ p_0_9 dX11_undo_29 (fun H locs hW hS => ?_)
      refine lv_aload_n hx hb dX11_undo_32 rfl (lv_at hl 0 rfl) ?_
      refine lv_dup hx hb dX11_undo_33 rfl ?_
      refine wz_get hx hb hts hown hK hW 0 8 (by decide) e_0 rfl (by decide) inG11 w_313 rfl rfl dX11_undo_34 ?_
      refine zi_top (y := σ 0 8) (by (first | rfl | (simp [us, uf, nS] <;> omega))) ?_
      refine zi_con hx hb dX11_undo_37 ?_
      refine zi_sub hx hb dX11_undo_38 ?_
      refine wz_put (σ' := (up (up σ 0 9 (bk (σ))) 0 8 ((σ 0 8) - 1))) (ty := .int) hx hb hts hown hK hW hS 0 8 tyX11 (by decide) e_0 rfl (by decide) inG11 tyX11_ok nmX11 w_313 ⟨rfl, rfl, Nat.le_of_ble_eq_true rfl⟩ (by decide +kernel) ⟨rfl, rfl⟩ p_0_8 dX11_undo_39 (fun H locs hW hS => ?_)
      refine lv_aload_n hx hb dX11_undo_42 rfl (lv_at hl 0 rfl) ?_
      refine wz_get hx hb hts hown hK hW 0 4 (by decide) e_0 rfl (by decide) inG11 w_309 rfl rfl dX11_undo_43 ?_
      refine lv_aload_n hx hb dX11_undo_46 rfl (lv_at hl 0 rfl) ?_
      refine wz_get hx hb hts hown hK hW 0 7 (by decide) e_0 rfl (by decide) inG11 w_312 rfl rfl dX11_undo_47 ?_
      refine lv_aload_n hx hb dX11_undo_50 rfl (lv_at hl 0 rfl) ?_
      refine wz_get hx hb hts hown hK hW 0 9 (by decide) e_0 rfl (by decide) inG11 w_314 rfl rfl dX11_undo_51 ?_
      refine zi_top (y := bk (σ)) (by (first | rfl | (simp [us, uf, nS] <;> omega))) ?_
      refine wz_ara hx hb hK hW 8 ((bk (σ)).toNat) 4 (by decide) e_8 rfl (by omega) (by omega) (by decide) rfl dX11_undo_54 ?_
      refine k_vv (fr := 2) (lo := 43) (σ' := (us (up (up σ 0 9 (bk (σ))) 0 8 ((σ 0 8) - 1)) 18 (tkN (σ 18) ((up (up σ 0 9 (bk (σ))) 0 8 ((σ 0 8) - 1)) (58 + 6 * ((bk (σ)).toNat))) (mn ((up (up σ 0 9 (bk (σ))) 0 8 ((σ 0 8) - 1)) (58 + 6 * ((bk (σ)).toNat))))))) (As := [.ref (B + (58 + 6 * ((bk (σ)).toNat)))]) (rest := []) hx hb hml hown hts hK hRf hRl hW hS (c_X6_take l D cy B (up (up σ 0 9 (bk (σ))) 0 8 ((σ 0 8) - 1)) 18 (58 + 6 * ((bk (σ)).toNat)) (show isR 18 from isR_18) (show isR (58 + 6 * ((bk (σ)).toNat)) from (isR_be (by omega))) (show 18 ≠ (58 + 6 * ((bk (σ)).toNat)) from (by omega)) (show 0 ≤ (up (up σ 0 9 (bk (σ))) 0 8 ((σ 0 8) - 1)) (58 + 6 * ((bk (σ)).toNat)) 4 ∧ (up (up σ 0 9 (bk (σ))) 0 8 ((σ 0 8) - 1)) (58 + 6 * ((bk (σ)).toNat)) 4 ≤ 4 from (by unfold up; rw [us_ne _ _ (by omega), us_ne _ _ (by omega)]; omega)) (show (up (up σ 0 9 (bk (σ))) 0 8 ((σ 0 8) - 1)) (58 + 6 * ((bk (σ)).toNat)) 7 = 0 ∨ (up (up σ 0 9 (bk (σ))) 0 8 ((σ 0 8) - 1)) (58 + 6 * ((bk (σ)).toNat)) 7 = 1 from (by unfold up; rw [us_ne _ _ (by omega), us_ne _ _ (by omega)]; exact o7)) (show ∀ h : Nat, (h : Int) < (up (up σ 0 9 (bk (σ))) 0 8 ((σ 0 8) - 1)) (58 + 6 * ((bk (σ)).toNat)) 4 → (up (up σ 0 9 (bk (σ))) 0 8 ((σ 0 8) - 1)) (58 + 6 * ((bk (σ)).toNat)) (20 + h) = 0 ∨ (up (up σ 0 9 (bk (σ))) 0 8 ((σ 0 8) - 1)) (58 + 6 * ((bk (σ)).toNat)) (20 + h) = 1 from (by unfold up; rw [us_ne _ _ (by omega), us_ne _ _ (by omega)]; exact (fun h hh => (oH h hh).2.2.2.1)))) vX6_take ⟨w_460, w_461⟩ w_459 (lt_R isR_18) (e_R isR_18) rfl ⟨Nat.le_of_ble_eq_true rfl, Nat.le_of_ble_eq_true rfl⟩ hl.1 rfl (Nat.le_of_ble_eq_true rfl) ⟨Nat.zero_le _, Nat.zero_le _⟩ dX11_undo_55 (fun H locs hW hS => ?_)
      rw [show (us (up (up σ 0 9 (bk (σ))) 0 8 ((σ 0 8) - 1)) 18 (tkN (σ 18) ((up (up σ 0 9 (bk (σ))) 0 8 ((σ 0 8) - 1)) (58 + 6 * ((bk (σ)).toNat))) (mn ((up (up σ 0 9 (bk (σ))) 0 8 ((σ 0 8) - 1)) (58 + 6 * ((bk (σ)).toNat)))))) = (us (up (up σ 0 9 (bk (σ))) 0 8 (σ 0 8 - 1)) 18 (tkN (σ 18) (σ (58 + 6 * (bk (σ)).toNat)) (mn (σ (58 + 6 * (bk (σ)).toNat))))) from (by unfold up; rw [us_ne _ _ (show 58 + 6 * (bk (σ)).toNat ≠ 0 by omega), us_ne _ _ (show 58 + 6 * (bk (σ)).toNat ≠ 0 by omega)])] at hW
      refine lv_aload_n hx hb dX11_undo_58 rfl (lv_at hl 0 rfl) ?_
      refine wz_get hx hb hts hown hK hW 0 8 (by decide) e_0 rfl (by decide) inG11 w_313 rfl rfl dX11_undo_59 ?_
      refine zi_top (y := σ 0 8 - 1) (by rfl) ?_
      exact hret _ _ _ _ _ _ dX11_undo_62 hW hS ⟨by (repeat' split) <;> first | rfl | omega, by (repeat' split) <;> first | rfl | omega⟩
  · refine k_ldc hx hb hown hts (v := -1000002) (by decide) w_479 dX11_undo_7 ?_
    exact hret _ _ _ _ _ _ dX11_undo_9 hW hS ⟨by (repeat' split) <;> first | rfl | omega, by (repeat' split) <;> first | rfl | omega⟩

set_option maxRecDepth 100000 in
set_option maxHeartbeats 4000000 in
theorem c_X11_rowsThere (l : Launch) (D : va_G) (cy : Nat → ClassId) (B : Nat) (σ : Sg)  (hln : ∀ k, k < 8 → -1 ≤ σ (30 + 2 * k) 1 ∧ σ (30 + 2 * k) 1 ≤ 2) : CI l yX11_rowsThere cX11_rowsThere 3 (some .int) 1 20 D cy B [.ref (B + 0)] σ (sm (fun k => if σ (30 + 2 * k) 1 = -1 then 0 else 1) 8) (σ) := by
  refine CI_of (ty := .int) (by decide) (rfl) (Nat.le_of_ble_eq_true rfl) ?_
  intro p e R s m args below meth c Q hx hb hml hown hts hK hRf hRl hW hret ls hl
  have hown : s.vm.findClass "LoveParts" = some m.cls := hown
  have hS : va_S (AB B) s.heap s.heap [] := va_S.rf
  have hl : lv_has ls 3 [(0, .ref (B + 0))] := hl
  refine zi_con hx hb dX11_rowsThere_0 ?_
  refine lv_istore_n (lv' := [(1, .int (iI (0))), (0, .ref (B + 0))]) hx hb dX11_rowsThere_1 rfl hl (by decide) rfl (fun ls hl => ?_)
  refine zi_con hx hb dX11_rowsThere_2 ?_
  refine lv_istore_n (lv' := [(2, .int (iI (0))), (1, .int (iI (0))), (0, .ref (B + 0))]) hx hb dX11_rowsThere_3 rfl hl (by decide) rfl (fun ls hl => ?_)
  have L4 : ∀ (n4 : Nat) (i_ : Nat) (H : Heap) (locs : List Loc) (ls : Array Slot), 8 - i_ < n4 → (i_ ≤ 8) → wd D cy B σ H → va_S (AB B) s.heap H locs → lv_has ls 3 [(2, .int (iI (((i_ : Nat) : Int)))), (1, .int (iI (sm (fun k => if σ (30 + 2 * k) 1 = -1 then 0 else 1) i_))), (0, .ref (B + 0))] → W p l e R s m args below meth c H locs 0 0 Q (F0 m 4 ls []) := by
    intro n4
    induction n4 with
    | zero => intro i_ H locs ls hms; omega
    | succ n4 ih4 =>
      intro i_ H locs ls hms4 hi hW hS hl
      refine lv_iload_n hx hb dX11_rowsThere_4 rfl (lv_at hl 0 rfl) ?_
      refine zi_bip hx hb dX11_rowsThere_5 (by decide) ?_
      refine zi_cge (tgt := 36) hx hb dX11_rowsThere_7 (by decide) (by omega) (by omega) (fun c7 => ?_) (fun c7 => ?_)
      · have hi8 : i_ = 8 := by omega
        subst hi8
        refine lv_iload_n hx hb dX11_rowsThere_36 rfl (lv_at hl 1 rfl) ?_
        exact hret _ _ _ _ _ _ dX11_rowsThere_37 hW hS ⟨by (repeat' split) <;> first | rfl | omega, rfl⟩
      · have hz := hln i_ (by omega)
        refine lv_iload_n hx hb dX11_rowsThere_10 rfl (lv_at hl 1 rfl) ?_
        refine lv_aload_n hx hb dX11_rowsThere_11 rfl (lv_at hl 2 rfl) ?_
        refine wz_get hx hb hts hown hK hW 0 0 (by decide) e_0 rfl (by decide) inG11 w_305 rfl rfl dX11_rowsThere_12 ?_
        refine lv_iload_n hx hb dX11_rowsThere_15 rfl (lv_at hl 0 rfl) ?_
        refine wz_ara hx hb hK hW 1 i_ 5 (by decide) e_1 rfl (by omega) (by omega) (by decide) rfl dX11_rowsThere_16 ?_
        refine k_vi (fr := 1) (lo := 20) (r := (if σ (30 + 2 * i_) 1 = -1 then 1 else 0)) (As := []) (rest := [.int (iI (sm (fun k => if σ (30 + 2 * k) 1 = -1 then 0 else 1) i_))]) hx hb hml hown hts hK hRf hRl hW hS (c_X7_missing l D cy B σ i_ (show i_ < 8 from (by first | assumption | omega | (simp only [tpL_25, List.length_cons, List.length_nil]; omega))) (show -1 ≤ σ (30 + 2 * i_) 1 ∧ σ (30 + 2 * i_) 1 ≤ 2 from (by first | assumption | omega | (simp only [tpL_25, List.length_cons, List.length_nil]; omega)))) vX7_missing ⟨w_380, w_381⟩ w_379 (by omega) (e_row (by omega)) rfl ⟨Nat.le_of_ble_eq_true rfl, Nat.le_of_ble_eq_true rfl⟩ hl.1 rfl (Nat.le_of_ble_eq_true rfl) ⟨Nat.zero_le _, Nat.zero_le _⟩ dX11_rowsThere_17 (fun H locs hW hS => ?_)
        refine zi_beq (tgt := 27) hx hb dX11_rowsThere_20 (by decide) (fun c20 => ?_) (fun c20 => ?_)
        · refine zi_con hx hb dX11_rowsThere_27 ?_
          refine zi_add hx hb dX11_rowsThere_28 ?_
          refine lv_istore_n (lv' := [(1, .int (iI ((sm (fun k => if σ (30 + 2 * k) 1 = -1 then 0 else 1) i_) + 1))), (2, .int (iI (((i_ : Nat) : Int)))), (0, .ref (B + 0))]) hx hb dX11_rowsThere_29 rfl hl (by decide) rfl (fun ls hl => ?_)
          refine lv_iinc (v := iI (((i_ : Nat) : Int) + 1)) (lv' := [(2, .int (iI (((i_ : Nat) : Int) + 1))), (1, .int (iI ((sm (fun k => if σ (30 + 2 * k) 1 = -1 then 0 else 1) i_) + 1))), (0, .ref (B + 0))]) hx hb dX11_rowsThere_30 hl (k := 1) rfl (iI_add _ _) (by decide) rfl (fun ls hl => ?_)
          refine lv_goto (tgt := 4) hx hb dX11_rowsThere_33 (by decide) ?_
          have e3 : sm (fun k => if σ (30 + 2 * k) 1 = -1 then 0 else 1) (i_ + 1) = sm (fun k => if σ (30 + 2 * k) 1 = -1 then 0 else 1) i_ + (if σ (30 + 2 * i_) 1 = -1 then 0 else 1) := rfl
          first | (rw [if_pos (by omega)] at e3) | (rw [if_neg (by omega)] at e3)
          exact ih4 (i_ + 1) _ _ _ (by omega) (by omega) hW hS (lv_sub hl [0, 1, 2] (by rw [e3]; rfl))
        · refine zi_con hx hb dX11_rowsThere_23 ?_
          refine lv_goto (tgt := 28) hx hb dX11_rowsThere_24 (by decide) ?_
          refine zi_add hx hb dX11_rowsThere_28 ?_
          refine lv_istore_n (lv' := [(1, .int (iI ((sm (fun k => if σ (30 + 2 * k) 1 = -1 then 0 else 1) i_) + 0))), (2, .int (iI (((i_ : Nat) : Int)))), (0, .ref (B + 0))]) hx hb dX11_rowsThere_29 rfl hl (by decide) rfl (fun ls hl => ?_)
          refine lv_iinc (v := iI (((i_ : Nat) : Int) + 1)) (lv' := [(2, .int (iI (((i_ : Nat) : Int) + 1))), (1, .int (iI ((sm (fun k => if σ (30 + 2 * k) 1 = -1 then 0 else 1) i_) + 0))), (0, .ref (B + 0))]) hx hb dX11_rowsThere_30 hl (k := 1) rfl (iI_add _ _) (by decide) rfl (fun ls hl => ?_)
          refine lv_goto (tgt := 4) hx hb dX11_rowsThere_33 (by decide) ?_
          have e3 : sm (fun k => if σ (30 + 2 * k) 1 = -1 then 0 else 1) (i_ + 1) = sm (fun k => if σ (30 + 2 * k) 1 = -1 then 0 else 1) i_ + (if σ (30 + 2 * i_) 1 = -1 then 0 else 1) := rfl
          first | (rw [if_pos (by omega)] at e3) | (rw [if_neg (by omega)] at e3)
          exact ih4 (i_ + 1) _ _ _ (by omega) (by omega) hW hS (lv_sub hl [0, 1, 2] (by rw [e3]; rfl))
  exact L4 _ 0 _ _ _ (Nat.lt_succ_self _) (by omega) hW hS (lv_sub hl [0, 1, 2] rfl)

set_option maxRecDepth 100000 in
set_option maxHeartbeats 4000000 in
theorem c_X11_count (l : Launch) (D : va_G) (cy : Nat → ClassId) (B : Nat) (σ : Sg) (z_ : Int) (r_z_ : -2147483648 ≤ z_ ∧ z_ < 2147483648) (hok : σ 18 4 = 0 ∨ okV (σ 18)) (hln : ∀ k, k < 8 → -1 ≤ σ (30 + 2 * k) 1 ∧ σ (30 + 2 * k) 1 ≤ 2) : CI l yX11_count cX11_count 2 (some .int) 2 42 D cy B [.ref (B + 0), .int (iI (z_))] σ (if z_ = 0 then sm (fun k => if σ (30 + 2 * k) 1 = -1 then 0 else 1) 8 else if z_ = 1 then σ 18 4 else if z_ = 2 then σ 18 0 else if z_ = 3 then σ 18 2 else if z_ = 4 then σ 18 3 else if z_ = 5 then σ 18 5 else if z_ = 6 then brk (σ 18) else if z_ = 7 then σ 0 8 else if z_ = 8 then σ 2 1 else -1000001) (σ) := by
  refine CI_of (ty := .int) (by decide) (rfl) (Nat.le_of_ble_eq_true rfl) ?_
  intro p e R s m args below meth c Q hx hb hml hown hts hK hRf hRl hW hret ls hl
  have hown : s.vm.findClass "LoveParts" = some m.cls := hown
  have hS : va_S (AB B) s.heap s.heap [] := va_S.rf
  have hl : lv_has ls 2 [(0, .ref (B + 0)), (1, .int (iI (z_)))] := hl
  have f4 : 0 ≤ σ 18 4 ∧ σ 18 4 ≤ 4 := by rcases hok with h | h; (· omega); (· exact ⟨by have := h.1; omega, h.1.2⟩)
  refine lv_iload_n hx hb dX11_count_0 rfl (lv_at hl 1 rfl) ?_
  by_cases hsw1 : z_ < 0 ∨ 8 < z_
  · refine lv_tableOut (tgt := 118) hx hb dX11_count_1 (by rw [iI_toInt (by omega)]; exact hsw1) (by decide) ?_
    refine k_ldc hx hb hown hts (v := -1000001) (by decide) w_361 dX11_count_118 ?_
    exact hret _ _ _ _ _ _ dX11_count_120 hW hS ⟨by (repeat' split) <;> first | rfl | omega, rfl⟩
  · have hsx1 : z_ = 0 ∨ z_ = 1 ∨ z_ = 2 ∨ z_ = 3 ∨ z_ = 4 ∨ z_ = 5 ∨ z_ = 6 ∨ z_ = 7 ∨ z_ = 8 := by omega
    rcases hsx1 with hs1 | hs1 | hs1 | hs1 | hs1 | hs1 | hs1 | hs1 | hs1
    · refine lv_tableIn (off := 51) (tgt := 52) hx hb dX11_count_1 (by rw [iI_toInt (by omega)]; omega) (by rw [iI_toInt (by omega)]; omega) (by rw [iI_toInt (by omega), hs1]; rfl) (by decide) ?_
      refine lv_aload_n hx hb dX11_count_52 rfl (lv_at hl 0 rfl) ?_
      refine k_vi (fr := 2) (lo := 42) (r := sm (fun k => if σ (30 + 2 * k) 1 = -1 then 0 else 1) 8) (As := []) (rest := []) hx hb hml hown hts hK hRf hRl hW hS (c_X11_rowsThere l D cy B σ  (show ∀ k, k < 8 → -1 ≤ σ (30 + 2 * k) 1 ∧ σ (30 + 2 * k) 1 ≤ 2 from (by first | assumption | omega | (simp only [tpL_25, List.length_cons, List.length_nil]; omega)))) vX11_rowsThere ⟨w_803, w_17⟩ w_801 (by decide) e_0 rfl ⟨Nat.le_of_ble_eq_true rfl, Nat.le_of_ble_eq_true rfl⟩ hl.1 rfl (Nat.le_of_ble_eq_true rfl) ⟨Nat.zero_le _, Nat.zero_le _⟩ dX11_count_53 (fun H locs hW hS => ?_)
      exact hret _ _ _ _ _ _ dX11_count_56 hW hS ⟨by (repeat' split) <;> first | rfl | omega, rfl⟩
    · refine lv_tableIn (off := 56) (tgt := 57) hx hb dX11_count_1 (by rw [iI_toInt (by omega)]; omega) (by rw [iI_toInt (by omega)]; omega) (by rw [iI_toInt (by omega), hs1]; rfl) (by decide) ?_
      refine lv_aload_n hx hb dX11_count_57 rfl (lv_at hl 0 rfl) ?_
      refine wz_get hx hb hts hown hK hW 0 4 (by decide) e_0 rfl (by decide) inG11 w_309 rfl rfl dX11_count_58 ?_
      refine wz_get hx hb hts hown hK hW 18 1 (lt_R isR_18) (e_R isR_18) rfl (by decide) inG6 w_249 rfl rfl dX11_count_61 ?_
      exact hret _ _ _ _ _ _ dX11_count_64 hW hS ⟨by (repeat' split) <;> first | rfl | omega, rfl⟩
    · refine lv_tableIn (off := 64) (tgt := 65) hx hb dX11_count_1 (by rw [iI_toInt (by omega)]; omega) (by rw [iI_toInt (by omega)]; omega) (by rw [iI_toInt (by omega), hs1]; rfl) (by decide) ?_
      refine lv_aload_n hx hb dX11_count_65 rfl (lv_at hl 0 rfl) ?_
      refine wz_get hx hb hts hown hK hW 0 4 (by decide) e_0 rfl (by decide) inG11 w_309 rfl rfl dX11_count_66 ?_
      refine wz_get hx hb hts hown hK hW 18 2 (lt_R isR_18) (e_R isR_18) rfl (by decide) inG6 w_252 rfl rfl dX11_count_69 ?_
      exact hret _ _ _ _ _ _ dX11_count_72 hW hS ⟨by (repeat' split) <;> first | rfl | omega, rfl⟩
    · refine lv_tableIn (off := 72) (tgt := 73) hx hb dX11_count_1 (by rw [iI_toInt (by omega)]; omega) (by rw [iI_toInt (by omega)]; omega) (by rw [iI_toInt (by omega), hs1]; rfl) (by decide) ?_
      refine lv_aload_n hx hb dX11_count_73 rfl (lv_at hl 0 rfl) ?_
      refine wz_get hx hb hts hown hK hW 0 4 (by decide) e_0 rfl (by decide) inG11 w_309 rfl rfl dX11_count_74 ?_
      refine wz_get hx hb hts hown hK hW 18 4 (lt_R isR_18) (e_R isR_18) rfl (by decide) inG6 w_258 rfl rfl dX11_count_77 ?_
      exact hret _ _ _ _ _ _ dX11_count_80 hW hS ⟨by (repeat' split) <;> first | rfl | omega, rfl⟩
    · refine lv_tableIn (off := 80) (tgt := 81) hx hb dX11_count_1 (by rw [iI_toInt (by omega)]; omega) (by rw [iI_toInt (by omega)]; omega) (by rw [iI_toInt (by omega), hs1]; rfl) (by decide) ?_
      refine lv_aload_n hx hb dX11_count_81 rfl (lv_at hl 0 rfl) ?_
      refine wz_get hx hb hts hown hK hW 0 4 (by decide) e_0 rfl (by decide) inG11 w_309 rfl rfl dX11_count_82 ?_
      refine wz_get hx hb hts hown hK hW 18 5 (lt_R isR_18) (e_R isR_18) rfl (by decide) inG6 w_261 rfl rfl dX11_count_85 ?_
      exact hret _ _ _ _ _ _ dX11_count_88 hW hS ⟨by (repeat' split) <;> first | rfl | omega, rfl⟩
    · refine lv_tableIn (off := 88) (tgt := 89) hx hb dX11_count_1 (by rw [iI_toInt (by omega)]; omega) (by rw [iI_toInt (by omega)]; omega) (by rw [iI_toInt (by omega), hs1]; rfl) (by decide) ?_
      refine lv_aload_n hx hb dX11_count_89 rfl (lv_at hl 0 rfl) ?_
      refine wz_get hx hb hts hown hK hW 0 4 (by decide) e_0 rfl (by decide) inG11 w_309 rfl rfl dX11_count_90 ?_
      refine wz_get hx hb hts hown hK hW 18 7 (lt_R isR_18) (e_R isR_18) rfl (by decide) inG6 w_265 rfl rfl dX11_count_93 ?_
      exact hret _ _ _ _ _ _ dX11_count_96 hW hS ⟨by (repeat' split) <;> first | rfl | omega, rfl⟩
    · refine lv_tableIn (off := 96) (tgt := 97) hx hb dX11_count_1 (by rw [iI_toInt (by omega)]; omega) (by rw [iI_toInt (by omega)]; omega) (by rw [iI_toInt (by omega), hs1]; rfl) (by decide) ?_
      refine lv_aload_n hx hb dX11_count_97 rfl (lv_at hl 0 rfl) ?_
      refine wz_get hx hb hts hown hK hW 0 4 (by decide) e_0 rfl (by decide) inG11 w_309 rfl rfl dX11_count_98 ?_
      refine k_vi (fr := 2) (lo := 42) (r := brk (σ 18)) (As := []) (rest := []) hx hb hml hown hts hK hRf hRl hW hS (c_X6_brokenByAll l D cy B σ 18 (show isR 18 from isR_18) (show 0 ≤ σ 18 4 ∧ σ 18 4 ≤ 4 from (by first | assumption | omega | (simp only [tpL_25, List.length_cons, List.length_nil]; omega)))) vX6_brokenByAll ⟨w_647, w_648⟩ w_646 (lt_R isR_18) (e_R isR_18) rfl ⟨Nat.le_of_ble_eq_true rfl, Nat.le_of_ble_eq_true rfl⟩ hl.1 rfl (Nat.le_of_ble_eq_true rfl) ⟨Nat.zero_le _, Nat.zero_le _⟩ dX11_count_101 (fun H locs hW hS => ?_)
      exact hret _ _ _ _ _ _ dX11_count_104 hW hS ⟨by (repeat' split) <;> first | rfl | omega, rfl⟩
    · refine lv_tableIn (off := 104) (tgt := 105) hx hb dX11_count_1 (by rw [iI_toInt (by omega)]; omega) (by rw [iI_toInt (by omega)]; omega) (by rw [iI_toInt (by omega), hs1]; rfl) (by decide) ?_
      refine lv_aload_n hx hb dX11_count_105 rfl (lv_at hl 0 rfl) ?_
      refine wz_get hx hb hts hown hK hW 0 8 (by decide) e_0 rfl (by decide) inG11 w_313 rfl rfl dX11_count_106 ?_
      exact hret _ _ _ _ _ _ dX11_count_109 hW hS ⟨by (repeat' split) <;> first | rfl | omega, rfl⟩
    · refine lv_tableIn (off := 109) (tgt := 110) hx hb dX11_count_1 (by rw [iI_toInt (by omega)]; omega) (by rw [iI_toInt (by omega)]; omega) (by rw [iI_toInt (by omega), hs1]; rfl) (by decide) ?_
      refine lv_aload_n hx hb dX11_count_110 rfl (lv_at hl 0 rfl) ?_
      refine wz_get hx hb hts hown hK hW 0 1 (by decide) e_0 rfl (by decide) inG11 w_306 rfl rfl dX11_count_111 ?_
      refine wz_get hx hb hts hown hK hW 2 1 (by decide) e_2 rfl (by decide) inG5 w_87 rfl rfl dX11_count_114 ?_
      exact hret _ _ _ _ _ _ dX11_count_117 hW hS ⟨by (repeat' split) <;> first | rfl | omega, rfl⟩

set_option maxRecDepth 100000 in
set_option maxHeartbeats 4000000 in
theorem c_X11_trace (l : Launch) (D : va_G) (cy : Nat → ClassId) (B : Nat) (σ : Sg) (z_ : Int) (r_z_ : -2147483648 ≤ z_ ∧ z_ < 2147483648) (ht : 0 ≤ σ 5 1 ∧ σ 5 1 ≤ 16) : CI l yX11_trace cX11_trace 2 (some .int) 1 22 D cy B [.ref (B + 0), .int (iI (z_))] σ (if 0 ≤ z_ ∧ z_ ≤ σ 5 1 - 1 then σ 6 z_.toNat else -1000000) (σ) := by
  refine CI_of (ty := .int) (by decide) (rfl) (Nat.le_of_ble_eq_true rfl) ?_
  intro p e R s m args below meth c Q hx hb hml hown hts hK hRf hRl hW hret ls hl
  have hown : s.vm.findClass "LoveParts" = some m.cls := hown
  have hS : va_S (AB B) s.heap s.heap [] := va_S.rf
  have hl : lv_has ls 2 [(0, .ref (B + 0)), (1, .int (iI (z_)))] := hl
  refine lv_iload_n hx hb dX11_trace_0 rfl (lv_at hl 1 rfl) ?_
  refine zi_con hx hb dX11_trace_1 ?_
  refine lv_aload_n hx hb dX11_trace_2 rfl (lv_at hl 0 rfl) ?_
  refine wz_get hx hb hts hown hK hW 0 3 (by decide) e_0 rfl (by decide) inG11 w_308 rfl rfl dX11_trace_3 ?_
  refine wz_get hx hb hts hown hK hW 5 1 (by decide) e_5 rfl (by decide) inG10 w_122 rfl rfl dX11_trace_6 ?_
  refine zi_con hx hb dX11_trace_9 ?_
  refine zi_sub hx hb dX11_trace_10 ?_
  refine k_si (fr := 1) (lo := 22) (r := (if 0 ≤ z_ ∧ z_ ≤ ((σ 5 1) - 1) then 1 else 0)) (As := [.int (iI (z_)), .int (iI (0)), .int (iI ((σ 5 1) - 1))]) (rest := []) hx hb hml hown hts hK hRf hRl hW hS (c_X11_within l D cy B σ z_ 0 ((σ 5 1) - 1) (show -2147483648 ≤ z_ ∧ z_ < 2147483648 from (by first | assumption | omega | (simp only [tpL_25, List.length_cons, List.length_nil]; omega))) (show -2147483648 ≤ 0 ∧ 0 < 2147483648 from (by first | assumption | omega | (simp only [tpL_25, List.length_cons, List.length_nil]; omega))) (show -2147483648 ≤ ((σ 5 1) - 1) ∧ ((σ 5 1) - 1) < 2147483648 from (by first | assumption | omega | (simp only [tpL_25, List.length_cons, List.length_nil]; omega)))) vX11_within w_359 w_358 ⟨Nat.le_of_ble_eq_true rfl, Nat.le_of_ble_eq_true rfl⟩ hl.1 rfl (Nat.le_of_ble_eq_true rfl) ⟨Nat.zero_le _, Nat.zero_le _⟩ dX11_trace_11 (fun H locs hW hS => ?_)
  refine zi_beq (tgt := 29) hx hb dX11_trace_14 (by decide) (fun c14 => ?_) (fun c14 => ?_)
  · refine k_ldc_w hx hb hown hts (v := -1000000) (by decide) w_625 dX11_trace_29 ?_
    exact hret _ _ _ _ _ _ dX11_trace_32 hW hS ⟨by (repeat' split) <;> first | rfl | omega, rfl⟩
  · refine lv_aload_n hx hb dX11_trace_17 rfl (lv_at hl 0 rfl) ?_
    refine wz_get hx hb hts hown hK hW 0 3 (by decide) e_0 rfl (by decide) inG11 w_308 rfl rfl dX11_trace_18 ?_
    refine wz_get hx hb hts hown hK hW 5 0 (by decide) e_5 rfl (by decide) inG10 w_120 rfl rfl dX11_trace_21 ?_
    refine lv_iload_n hx hb dX11_trace_24 rfl (lv_at hl 1 rfl) ?_
    refine wz_ald hx hb hK hW 6 z_.toNat (by decide) e_6 (by omega) (by omega) (by decide) dX11_trace_25 ?_
    refine lv_goto (tgt := 32) hx hb dX11_trace_26 (by decide) ?_
    exact hret _ _ _ _ _ _ dX11_trace_32 hW hS ⟨by (repeat' split) <;> first | rfl | omega, rfl⟩

set_option maxRecDepth 100000 in
set_option maxHeartbeats 4000000 in
theorem c_X11_king (l : Launch) (D : va_G) (cy : Nat → ClassId) (B : Nat) (σ : Sg) (z_ : Int) (r_z_ : -2147483648 ≤ z_ ∧ z_ < 2147483648) (hok : σ 18 4 = 0 ∨ okV (σ 18)) : CI l yX11_king cX11_king 2 (some .int) 1 20 D cy B [.ref (B + 0), .int (iI (z_))] σ (if σ 18 4 = 0 then -1000002 else if z_ = 0 then σ 18 1 else if z_ = 1 then σ 18 6 else if z_ = 2 then σ 18 7 else -1000001) (σ) := by
  refine CI_of (ty := .int) (by decide) (rfl) (Nat.le_of_ble_eq_true rfl) ?_
  intro p e R s m args below meth c Q hx hb hml hown hts hK hRf hRl hW hret ls hl
  have hown : s.vm.findClass "LoveParts" = some m.cls := hown
  have hS : va_S (AB B) s.heap s.heap [] := va_S.rf
  have hl : lv_has ls 2 [(0, .ref (B + 0)), (1, .int (iI (z_)))] := hl
  have f4 : 0 ≤ σ 18 4 ∧ σ 18 4 ≤ 4 := by rcases hok with h | h; (· omega); (· exact ⟨by have := h.1; omega, h.1.2⟩)
  refine lv_aload_n hx hb dX11_king_0 rfl (lv_at hl 0 rfl) ?_
  refine k_vi (fr := 1) (lo := 20) (r := (if σ 18 4 = 0 then 1 else 0)) (As := []) (rest := []) hx hb hml hown hts hK hRf hRl hW hS (c_X11_noRealm l D cy B σ  (show 0 ≤ σ 18 4 ∧ σ 18 4 ≤ 4 from (by first | assumption | omega | (simp only [tpL_25, List.length_cons, List.length_nil]; omega)))) vX11_noRealm ⟨w_528, w_5⟩ w_526 (by decide) e_0 rfl ⟨Nat.le_of_ble_eq_true rfl, Nat.le_of_ble_eq_true rfl⟩ hl.1 rfl (Nat.le_of_ble_eq_true rfl) ⟨Nat.zero_le _, Nat.zero_le _⟩ dX11_king_1 (fun H locs hW hS => ?_)
  refine zi_beq (tgt := 10) hx hb dX11_king_4 (by decide) (fun c4 => ?_) (fun c4 => ?_)
  · have hok := hok.resolve_left (by omega)
    obtain ⟨o4, o0, o1, o2, o3, o5, o6, o7, oH⟩ := id hok
    refine lv_iload_n hx hb dX11_king_10 rfl (lv_at hl 1 rfl) ?_
    by_cases hsw11 : z_ < 0 ∨ 2 < z_
    · refine lv_tableOut (tgt := 68) hx hb dX11_king_11 (by rw [iI_toInt (by omega)]; exact hsw11) (by decide) ?_
      refine k_ldc hx hb hown hts (v := -1000001) (by decide) w_361 dX11_king_68 ?_
      exact hret _ _ _ _ _ _ dX11_king_70 hW hS ⟨by (repeat' split) <;> first | rfl | omega, rfl⟩
    · have hsx11 : z_ = 0 ∨ z_ = 1 ∨ z_ = 2 := by omega
      rcases hsx11 with hs11 | hs11 | hs11
      · refine lv_tableIn (off := 25) (tgt := 36) hx hb dX11_king_11 (by rw [iI_toInt (by omega)]; omega) (by rw [iI_toInt (by omega)]; omega) (by rw [iI_toInt (by omega), hs11]; rfl) (by decide) ?_
        refine lv_aload_n hx hb dX11_king_36 rfl (lv_at hl 0 rfl) ?_
        refine wz_get hx hb hts hown hK hW 0 4 (by decide) e_0 rfl (by decide) inG11 w_309 rfl rfl dX11_king_37 ?_
        refine wz_get hx hb hts hown hK hW 18 3 (lt_R isR_18) (e_R isR_18) rfl (by decide) inG6 w_255 rfl rfl dX11_king_40 ?_
        exact hret _ _ _ _ _ _ dX11_king_43 hW hS ⟨by (repeat' split) <;> first | rfl | omega, rfl⟩
      · refine lv_tableIn (off := 33) (tgt := 44) hx hb dX11_king_11 (by rw [iI_toInt (by omega)]; omega) (by rw [iI_toInt (by omega)]; omega) (by rw [iI_toInt (by omega), hs11]; rfl) (by decide) ?_
        refine lv_aload_n hx hb dX11_king_44 rfl (lv_at hl 0 rfl) ?_
        refine wz_get hx hb hts hown hK hW 0 4 (by decide) e_0 rfl (by decide) inG11 w_309 rfl rfl dX11_king_45 ?_
        refine wz_get hx hb hts hown hK hW 18 6 (lt_R isR_18) (e_R isR_18) rfl (by decide) inG6 w_263 rfl rfl dX11_king_48 ?_
        exact hret _ _ _ _ _ _ dX11_king_51 hW hS ⟨by (repeat' split) <;> first | rfl | omega, rfl⟩
      · refine lv_tableIn (off := 41) (tgt := 52) hx hb dX11_king_11 (by rw [iI_toInt (by omega)]; omega) (by rw [iI_toInt (by omega)]; omega) (by rw [iI_toInt (by omega), hs11]; rfl) (by decide) ?_
        refine lv_aload_n hx hb dX11_king_52 rfl (lv_at hl 0 rfl) ?_
        refine wz_get hx hb hts hown hK hW 0 4 (by decide) e_0 rfl (by decide) inG11 w_309 rfl rfl dX11_king_53 ?_
        refine wz_get hx hb hts hown hK hW 18 8 (lt_R isR_18) (e_R isR_18) rfl (by decide) inG6 w_267 rfl rfl dX11_king_56 ?_
        refine zi_eq (tgt := 66) hx hb dX11_king_59 (by decide) (by omega) (fun c59 => ?_) (fun c59 => ?_)
        · refine zi_con hx hb dX11_king_66 ?_
          exact hret _ _ _ _ _ _ dX11_king_67 hW hS ⟨by (repeat' split) <;> first | rfl | omega, rfl⟩
        · refine zi_con hx hb dX11_king_62 ?_
          refine lv_goto (tgt := 67) hx hb dX11_king_63 (by decide) ?_
          exact hret _ _ _ _ _ _ dX11_king_67 hW hS ⟨by (repeat' split) <;> first | rfl | omega, rfl⟩
  · refine k_ldc hx hb hown hts (v := -1000002) (by decide) w_479 dX11_king_7 ?_
    exact hret _ _ _ _ _ _ dX11_king_9 hW hS ⟨by (repeat' split) <;> first | rfl | omega, rfl⟩

set_option maxRecDepth 100000 in
set_option maxHeartbeats 4000000 in
theorem c_X11_heir (l : Launch) (D : va_G) (cy : Nat → ClassId) (B : Nat) (σ : Sg) (h_ : Int) (z_ : Int) (r_h_ : -2147483648 ≤ h_ ∧ h_ < 2147483648) (r_z_ : -2147483648 ≤ z_ ∧ z_ < 2147483648) (hok : σ 18 4 = 0 ∨ okV (σ 18)) : CI l yX11_heir cX11_heir 4 (some .int) 3 66 D cy B [.ref (B + 0), .int (iI (h_)), .int (iI (z_))] σ (if ¬ (0 ≤ h_ ∧ h_ ≤ σ 18 4 - 1) then -1000001 else if z_ = 0 then σ 18 (12 + h_.toNat) else if z_ = 1 then σ 18 (16 + h_.toNat) else if z_ = 2 then σ 18 (20 + h_.toNat) else if z_ = 3 then says (σ 18) h_.toNat else if z_ = 4 then σ 18 (28 + h_.toNat) else if z_ = 5 then σ 18 (32 + h_.toNat) else if z_ = 6 then alw (σ 18) h_.toNat else if z_ = 7 then σ 18 (36 + h_.toNat) else if z_ = 8 then σ 18 (40 + h_.toNat) else -1000001) (σ) := by
  refine CI_of (ty := .int) (by decide) (rfl) (Nat.le_of_ble_eq_true rfl) ?_
  intro p e R s m args below meth c Q hx hb hml hown hts hK hRf hRl hW hret ls hl
  have hown : s.vm.findClass "LoveParts" = some m.cls := hown
  have hS : va_S (AB B) s.heap s.heap [] := va_S.rf
  have hl : lv_has ls 4 [(0, .ref (B + 0)), (1, .int (iI (h_))), (2, .int (iI (z_)))] := hl
  have f4 : 0 ≤ σ 18 4 ∧ σ 18 4 ≤ 4 := by rcases hok with h | h; (· omega); (· exact ⟨by have := h.1; omega, h.1.2⟩)
  refine lv_aload_n hx hb dX11_heir_0 rfl (lv_at hl 0 rfl) ?_
  refine lv_iload_n hx hb dX11_heir_1 rfl (lv_at hl 1 rfl) ?_
  refine k_vi (fr := 3) (lo := 66) (r := (if 0 ≤ h_ ∧ h_ ≤ σ 18 4 - 1 then 1 else 0)) (As := [.int (iI (h_))]) (rest := []) hx hb hml hown hts hK hRf hRl hW hS (c_X11_isHeir l D cy B σ h_ (show -2147483648 ≤ h_ ∧ h_ < 2147483648 from (by first | assumption | omega | (simp only [tpL_25, List.length_cons, List.length_nil]; omega))) (show 0 ≤ σ 18 4 ∧ σ 18 4 ≤ 4 from (by first | assumption | omega | (simp only [tpL_25, List.length_cons, List.length_nil]; omega)))) vX11_isHeir ⟨w_486, w_3⟩ w_484 (by decide) e_0 rfl ⟨Nat.le_of_ble_eq_true rfl, Nat.le_of_ble_eq_true rfl⟩ hl.1 rfl (Nat.le_of_ble_eq_true rfl) ⟨Nat.zero_le _, Nat.zero_le _⟩ dX11_heir_2 (fun H locs hW hS => ?_)
  refine zi_bne (tgt := 11) hx hb dX11_heir_5 (by decide) (fun c5 => ?_) (fun c5 => ?_)
  · obtain ⟨n_, rfl⟩ : ∃ h : Nat, h_ = (h : Int) := ⟨h_.toNat, by omega⟩
    have hok := hok.resolve_left (by omega)
    obtain ⟨o4, o0, o1, o2, o3, o5, o6, o7, oH⟩ := id hok
    obtain ⟨k8, k12, k16, k20, k24, k28, k32, k36, k40, k44⟩ := oH n_ (by omega)
    refine lv_aload_n hx hb dX11_heir_11 rfl (lv_at hl 0 rfl) ?_
    refine wz_get hx hb hts hown hK hW 0 4 (by decide) e_0 rfl (by decide) inG11 w_309 rfl rfl dX11_heir_12 ?_
    refine wz_get hx hb hts hown hK hW 18 0 (lt_R isR_18) (e_R isR_18) rfl (by decide) inG6 w_246 rfl rfl dX11_heir_15 ?_
    refine lv_iload_n hx hb dX11_heir_18 rfl (lv_at hl 1 rfl) ?_
    refine wz_ara hx hb hK hW (18 + 1) n_ 2 (lt_Ra isR_18) (e_Ra isR_18) rfl (by omega) (by omega) (by decide) rfl dX11_heir_19 ?_
    refine lv_astore_n (lv' := [(3, .ref (B + (18 + 2 + n_))), (0, .ref (B + 0)), (1, .int (iI (((n_ : Nat) : Int)))), (2, .int (iI (z_)))]) hx hb dX11_heir_20 rfl hl (by decide) rfl (fun ls hl => ?_)
    refine lv_iload_n hx hb dX11_heir_21 rfl (lv_at hl 3 rfl) ?_
    by_cases hsw22 : z_ < 0 ∨ 8 < z_
    · refine lv_tableOut (tgt := 133) hx hb dX11_heir_22 (by rw [iI_toInt (by omega)]; exact hsw22) (by decide) ?_
      refine k_ldc hx hb hown hts (v := -1000001) (by decide) w_361 dX11_heir_133 ?_
      exact hret _ _ _ _ _ _ dX11_heir_135 hW hS ⟨by (try simp only [Int.toNat_natCast]); (repeat' split) <;> first | rfl | omega, rfl⟩
    · have hsx22 : z_ = 0 ∨ z_ = 1 ∨ z_ = 2 ∨ z_ = 3 ∨ z_ = 4 ∨ z_ = 5 ∨ z_ = 6 ∨ z_ = 7 ∨ z_ = 8 := by omega
      rcases hsx22 with hs22 | hs22 | hs22 | hs22 | hs22 | hs22 | hs22 | hs22 | hs22
      · refine lv_tableIn (off := 50) (tgt := 72) hx hb dX11_heir_22 (by rw [iI_toInt (by omega)]; omega) (by rw [iI_toInt (by omega)]; omega) (by rw [iI_toInt (by omega), hs22]; rfl) (by decide) ?_
        refine lv_aload_n hx hb dX11_heir_72 rfl (lv_at hl 0 rfl) ?_
        refine wz_get hx hb hts hown hK hW (18 + 2 + n_) 2 (lt_H isR_18 (by omega)) (e_H isR_18 (by omega)) rfl (by decide) inG0 w_195 rfl rfl dX11_heir_73 ?_
        exact hret _ _ _ _ _ _ dX11_heir_76 hW hS ⟨by (try simp only [Int.toNat_natCast]); (repeat' split) <;> first | rfl | omega, rfl⟩
      · refine lv_tableIn (off := 55) (tgt := 77) hx hb dX11_heir_22 (by rw [iI_toInt (by omega)]; omega) (by rw [iI_toInt (by omega)]; omega) (by rw [iI_toInt (by omega), hs22]; rfl) (by decide) ?_
        refine lv_aload_n hx hb dX11_heir_77 rfl (lv_at hl 0 rfl) ?_
        refine wz_get hx hb hts hown hK hW (18 + 2 + n_) 3 (lt_H isR_18 (by omega)) (e_H isR_18 (by omega)) rfl (by decide) inG0 w_200 rfl rfl dX11_heir_78 ?_
        exact hret _ _ _ _ _ _ dX11_heir_81 hW hS ⟨by (try simp only [Int.toNat_natCast]); (repeat' split) <;> first | rfl | omega, rfl⟩
      · refine lv_tableIn (off := 60) (tgt := 82) hx hb dX11_heir_22 (by rw [iI_toInt (by omega)]; omega) (by rw [iI_toInt (by omega)]; omega) (by rw [iI_toInt (by omega), hs22]; rfl) (by decide) ?_
        refine lv_aload_n hx hb dX11_heir_82 rfl (lv_at hl 0 rfl) ?_
        refine wz_get hx hb hts hown hK hW (18 + 2 + n_) 4 (lt_H isR_18 (by omega)) (e_H isR_18 (by omega)) rfl (by decide) inG0 w_203 rfl rfl dX11_heir_83 ?_
        refine zi_eq (tgt := 93) hx hb dX11_heir_86 (by decide) (by omega) (fun c86 => ?_) (fun c86 => ?_)
        · refine zi_con hx hb dX11_heir_93 ?_
          exact hret _ _ _ _ _ _ dX11_heir_94 hW hS ⟨by (try simp only [Int.toNat_natCast]); (repeat' split) <;> first | rfl | omega, rfl⟩
        · refine zi_con hx hb dX11_heir_89 ?_
          refine lv_goto (tgt := 94) hx hb dX11_heir_90 (by decide) ?_
          exact hret _ _ _ _ _ _ dX11_heir_94 hW hS ⟨by (try simp only [Int.toNat_natCast]); (repeat' split) <;> first | rfl | omega, rfl⟩
      · refine lv_tableIn (off := 73) (tgt := 95) hx hb dX11_heir_22 (by rw [iI_toInt (by omega)]; omega) (by rw [iI_toInt (by omega)]; omega) (by rw [iI_toInt (by omega), hs22]; rfl) (by decide) ?_
        refine lv_aload_n hx hb dX11_heir_95 rfl (lv_at hl 1 rfl) ?_
        refine wz_get hx hb hts hown hK hW 0 4 (by decide) e_0 rfl (by decide) inG11 w_309 rfl rfl dX11_heir_96 ?_
        refine lv_iload_n hx hb dX11_heir_99 rfl (lv_at hl 2 rfl) ?_
        refine k_vi (fr := 3) (lo := 66) (r := says (σ 18) n_) (As := [.int (iI (((n_ : Nat) : Int)))]) (rest := []) hx hb hml hown hts hK hRf hRl hW hS (c_X6_says l D cy B σ 18 n_ (show isR 18 from isR_18) (show okV (σ 18) from (by first | assumption | omega | (simp only [tpL_25, List.length_cons, List.length_nil]; omega))) (show (n_ : Int) < σ 18 4 from (by first | assumption | omega | (simp only [tpL_25, List.length_cons, List.length_nil]; omega)))) vX6_says ⟨w_539, w_540⟩ w_582 (lt_R isR_18) (e_R isR_18) rfl ⟨Nat.le_of_ble_eq_true rfl, Nat.le_of_ble_eq_true rfl⟩ hl.1 rfl (Nat.le_of_ble_eq_true rfl) ⟨Nat.zero_le _, Nat.zero_le _⟩ dX11_heir_100 (fun H locs hW hS => ?_)
        exact hret _ _ _ _ _ _ dX11_heir_103 hW hS ⟨by (try simp only [Int.toNat_natCast]); (repeat' split) <;> first | rfl | omega, rfl⟩
      · refine lv_tableIn (off := 82) (tgt := 104) hx hb dX11_heir_22 (by rw [iI_toInt (by omega)]; omega) (by rw [iI_toInt (by omega)]; omega) (by rw [iI_toInt (by omega), hs22]; rfl) (by decide) ?_
        refine lv_aload_n hx hb dX11_heir_104 rfl (lv_at hl 0 rfl) ?_
        refine wz_get hx hb hts hown hK hW (18 + 2 + n_) 6 (lt_H isR_18 (by omega)) (e_H isR_18 (by omega)) rfl (by decide) inG0 w_209 rfl rfl dX11_heir_105 ?_
        exact hret _ _ _ _ _ _ dX11_heir_108 hW hS ⟨by (try simp only [Int.toNat_natCast]); (repeat' split) <;> first | rfl | omega, rfl⟩
      · refine lv_tableIn (off := 87) (tgt := 109) hx hb dX11_heir_22 (by rw [iI_toInt (by omega)]; omega) (by rw [iI_toInt (by omega)]; omega) (by rw [iI_toInt (by omega), hs22]; rfl) (by decide) ?_
        refine lv_aload_n hx hb dX11_heir_109 rfl (lv_at hl 0 rfl) ?_
        refine wz_get hx hb hts hown hK hW (18 + 2 + n_) 7 (lt_H isR_18 (by omega)) (e_H isR_18 (by omega)) rfl (by decide) inG0 w_211 rfl rfl dX11_heir_110 ?_
        exact hret _ _ _ _ _ _ dX11_heir_113 hW hS ⟨by (try simp only [Int.toNat_natCast]); (repeat' split) <;> first | rfl | omega, rfl⟩
      · refine lv_tableIn (off := 92) (tgt := 114) hx hb dX11_heir_22 (by rw [iI_toInt (by omega)]; omega) (by rw [iI_toInt (by omega)]; omega) (by rw [iI_toInt (by omega), hs22]; rfl) (by decide) ?_
        refine lv_aload_n hx hb dX11_heir_114 rfl (lv_at hl 1 rfl) ?_
        refine wz_get hx hb hts hown hK hW 0 4 (by decide) e_0 rfl (by decide) inG11 w_309 rfl rfl dX11_heir_115 ?_
        refine lv_iload_n hx hb dX11_heir_118 rfl (lv_at hl 2 rfl) ?_
        refine k_vi (fr := 3) (lo := 66) (r := alw (σ 18) n_) (As := [.int (iI (((n_ : Nat) : Int)))]) (rest := []) hx hb hml hown hts hK hRf hRl hW hS (c_X6_allowedBy l D cy B σ 18 n_ (show isR 18 from isR_18) (show okV (σ 18) from (by first | assumption | omega | (simp only [tpL_25, List.length_cons, List.length_nil]; omega))) (show (n_ : Int) < σ 18 4 from (by first | assumption | omega | (simp only [tpL_25, List.length_cons, List.length_nil]; omega)))) vX6_allowedBy ⟨w_567, w_568⟩ w_577 (lt_R isR_18) (e_R isR_18) rfl ⟨Nat.le_of_ble_eq_true rfl, Nat.le_of_ble_eq_true rfl⟩ hl.1 rfl (Nat.le_of_ble_eq_true rfl) ⟨Nat.zero_le _, Nat.zero_le _⟩ dX11_heir_119 (fun H locs hW hS => ?_)
        exact hret _ _ _ _ _ _ dX11_heir_122 hW hS ⟨by (try simp only [Int.toNat_natCast]); (repeat' split) <;> first | rfl | omega, rfl⟩
      · refine lv_tableIn (off := 101) (tgt := 123) hx hb dX11_heir_22 (by rw [iI_toInt (by omega)]; omega) (by rw [iI_toInt (by omega)]; omega) (by rw [iI_toInt (by omega), hs22]; rfl) (by decide) ?_
        refine lv_aload_n hx hb dX11_heir_123 rfl (lv_at hl 0 rfl) ?_
        refine wz_get hx hb hts hown hK hW (18 + 2 + n_) 9 (lt_H isR_18 (by omega)) (e_H isR_18 (by omega)) rfl (by decide) inG0 w_217 rfl rfl dX11_heir_124 ?_
        exact hret _ _ _ _ _ _ dX11_heir_127 hW hS ⟨by (try simp only [Int.toNat_natCast]); (repeat' split) <;> first | rfl | omega, rfl⟩
      · refine lv_tableIn (off := 106) (tgt := 128) hx hb dX11_heir_22 (by rw [iI_toInt (by omega)]; omega) (by rw [iI_toInt (by omega)]; omega) (by rw [iI_toInt (by omega), hs22]; rfl) (by decide) ?_
        refine lv_aload_n hx hb dX11_heir_128 rfl (lv_at hl 0 rfl) ?_
        refine wz_get hx hb hts hown hK hW (18 + 2 + n_) 10 (lt_H isR_18 (by omega)) (e_H isR_18 (by omega)) rfl (by decide) inG0 w_220 rfl rfl dX11_heir_129 ?_
        exact hret _ _ _ _ _ _ dX11_heir_132 hW hS ⟨by (try simp only [Int.toNat_natCast]); (repeat' split) <;> first | rfl | omega, rfl⟩
  · refine k_ldc hx hb hown hts (v := -1000001) (by decide) w_361 dX11_heir_8 ?_
    exact hret _ _ _ _ _ _ dX11_heir_10 hW hS ⟨by (try simp only [Int.toNat_natCast]); (repeat' split) <;> first | rfl | omega, rfl⟩

set_option maxRecDepth 100000 in
set_option maxHeartbeats 4000000 in
theorem c_X11_share (l : Launch) (D : va_G) (cy : Nat → ClassId) (B : Nat) (σ : Sg) (h_ : Int) (z_ : Int) (r_h_ : -2147483648 ≤ h_ ∧ h_ < 2147483648) (r_z_ : -2147483648 ≤ z_ ∧ z_ < 2147483648) (hok : σ 18 4 = 0 ∨ okV (σ 18)) : CI l yX11_share cX11_share 3 (some .int) 5 111 D cy B [.ref (B + 0), .int (iI (h_)), .int (iI (z_))] σ (if ¬ (0 ≤ h_ ∧ h_ ≤ σ 18 4 - 1) ∨ ¬ (0 ≤ z_ ∧ z_ ≤ 3) then -1000001 else shr (σ 18) z_ h_.toNat) (if ¬ (0 ≤ h_ ∧ h_ ≤ σ 18 4 - 1) ∨ ¬ (0 ≤ z_ ∧ z_ ≤ 3) then σ else us σ 10 (cpy (mn (σ 18)) (shr (σ 18) z_) (σ 10))) := by
  refine CI_of (ty := .int) (by decide) (rfl) (Nat.le_of_ble_eq_true rfl) ?_
  intro p e R s m args below meth c Q hx hb hml hown hts hK hRf hRl hW hret ls hl
  have hown : s.vm.findClass "LoveParts" = some m.cls := hown
  have hS : va_S (AB B) s.heap s.heap [] := va_S.rf
  have hl : lv_has ls 3 [(0, .ref (B + 0)), (1, .int (iI (h_))), (2, .int (iI (z_)))] := hl
  have f4 : 0 ≤ σ 18 4 ∧ σ 18 4 ≤ 4 := by rcases hok with h | h; (· omega); (· exact ⟨by have := h.1; omega, h.1.2⟩)
  refine lv_aload_n hx hb dX11_share_0 rfl (lv_at hl 0 rfl) ?_
  refine lv_iload_n hx hb dX11_share_1 rfl (lv_at hl 1 rfl) ?_
  refine k_vi (fr := 5) (lo := 111) (r := (if 0 ≤ h_ ∧ h_ ≤ σ 18 4 - 1 then 1 else 0)) (As := [.int (iI (h_))]) (rest := []) hx hb hml hown hts hK hRf hRl hW hS (c_X11_isHeir l D cy B σ h_ (show -2147483648 ≤ h_ ∧ h_ < 2147483648 from (by first | assumption | omega | (simp only [tpL_25, List.length_cons, List.length_nil]; omega))) (show 0 ≤ σ 18 4 ∧ σ 18 4 ≤ 4 from (by first | assumption | omega | (simp only [tpL_25, List.length_cons, List.length_nil]; omega)))) vX11_isHeir ⟨w_486, w_3⟩ w_484 (by decide) e_0 rfl ⟨Nat.le_of_ble_eq_true rfl, Nat.le_of_ble_eq_true rfl⟩ hl.1 rfl (Nat.le_of_ble_eq_true rfl) ⟨Nat.zero_le _, Nat.zero_le _⟩ dX11_share_2 (fun H locs hW hS => ?_)
  refine zi_beq (tgt := 17) hx hb dX11_share_5 (by decide) (fun c5 => ?_) (fun c5 => ?_)
  · refine k_ldc hx hb hown hts (v := -1000001) (by decide) w_361 dX11_share_17 ?_
    exact hret _ _ _ _ _ _ dX11_share_19 hW hS ⟨by (try simp only [Int.toNat_natCast]); (repeat' split) <;> first | rfl | omega, by (try simp only [Int.toNat_natCast]); (repeat' split) <;> first | rfl | omega⟩
  · obtain ⟨n_, rfl⟩ : ∃ h : Nat, h_ = (h : Int) := ⟨h_.toNat, by omega⟩
    have hok := hok.resolve_left (by omega)
    obtain ⟨o4, o0, o1, o2, o3, o5, o6, o7, oH⟩ := id hok
    refine lv_iload_n hx hb dX11_share_8 rfl (lv_at hl 2 rfl) ?_
    refine zi_con hx hb dX11_share_9 ?_
    refine zi_con hx hb dX11_share_10 ?_
    refine k_si (fr := 5) (lo := 111) (r := (if 0 ≤ z_ ∧ z_ ≤ 3 then 1 else 0)) (As := [.int (iI (z_)), .int (iI (0)), .int (iI (3))]) (rest := []) hx hb hml hown hts hK hRf hRl hW hS (c_X11_within l D cy B σ z_ 0 3 (show -2147483648 ≤ z_ ∧ z_ < 2147483648 from (by first | assumption | omega | (simp only [tpL_25, List.length_cons, List.length_nil]; omega))) (show -2147483648 ≤ 0 ∧ 0 < 2147483648 from (by first | assumption | omega | (simp only [tpL_25, List.length_cons, List.length_nil]; omega))) (show -2147483648 ≤ 3 ∧ 3 < 2147483648 from (by first | assumption | omega | (simp only [tpL_25, List.length_cons, List.length_nil]; omega)))) vX11_within w_359 w_358 ⟨Nat.le_of_ble_eq_true rfl, Nat.le_of_ble_eq_true rfl⟩ hl.1 rfl (Nat.le_of_ble_eq_true rfl) ⟨Nat.zero_le _, Nat.zero_le _⟩ dX11_share_11 (fun H locs hW hS => ?_)
    refine zi_bne (tgt := 20) hx hb dX11_share_14 (by decide) (fun c14 => ?_) (fun c14 => ?_)
    · refine lv_aload_n hx hb dX11_share_20 rfl (lv_at hl 0 rfl) ?_
      refine wz_get hx hb hts hown hK hW 0 4 (by decide) e_0 rfl (by decide) inG11 w_309 rfl rfl dX11_share_21 ?_
      refine lv_iload_n hx hb dX11_share_24 rfl (lv_at hl 2 rfl) ?_
      refine lv_aload_n hx hb dX11_share_25 rfl (lv_at hl 0 rfl) ?_
      refine wz_get hx hb hts hown hK hW 0 11 (by decide) e_0 rfl (by decide) inG11 w_316 rfl rfl dX11_share_26 ?_
      refine k_vv (fr := 5) (lo := 111) (σ' := (us σ 10 (cpy (mn (σ 18)) (shr (σ 18) z_) (σ 10)))) (As := [.int (iI (z_)), .ref (B + 10)]) (rest := []) hx hb hml hown hts hK hRf hRl hW hS (c_X6_divide l D cy B σ 18 z_ (show isR 18 from isR_18) (show okV (σ 18) from (by first | assumption | omega | (simp only [tpL_25, List.length_cons, List.length_nil]; omega))) (show 0 ≤ z_ ∧ z_ ≤ 3 from (by first | assumption | omega | (simp only [tpL_25, List.length_cons, List.length_nil]; omega)))) vX6_divide ⟨w_531, w_532⟩ w_530 (lt_R isR_18) (e_R isR_18) rfl ⟨Nat.le_of_ble_eq_true rfl, Nat.le_of_ble_eq_true rfl⟩ hl.1 rfl (Nat.le_of_ble_eq_true rfl) ⟨Nat.zero_le _, Nat.zero_le _⟩ dX11_share_29 (fun H locs hW hS => ?_)
      refine lv_aload_n hx hb dX11_share_32 rfl (lv_at hl 0 rfl) ?_
      refine wz_get hx hb hts hown hK hW 0 11 (by decide) e_0 rfl (by decide) inG11 w_316 rfl rfl dX11_share_33 ?_
      refine lv_iload_n hx hb dX11_share_36 rfl (lv_at hl 1 rfl) ?_
      refine wz_ald hx hb hK hW 10 n_ (by decide) e_10 (by omega) (by omega) (by decide) dX11_share_37 ?_
      refine zi_top (y := shr (σ 18) z_ n_) (by rw [us_eq]; exact if_pos (by unfold mn; omega)) ?_
      exact hret _ _ _ _ _ _ dX11_share_38 hW hS ⟨by (try simp only [Int.toNat_natCast]); (repeat' split) <;> first | rfl | omega, by (try simp only [Int.toNat_natCast]); (repeat' split) <;> first | rfl | omega⟩
    · refine k_ldc hx hb hown hts (v := -1000001) (by decide) w_361 dX11_share_17 ?_
      exact hret _ _ _ _ _ _ dX11_share_19 hW hS ⟨by (try simp only [Int.toNat_natCast]); (repeat' split) <;> first | rfl | omega, by (try simp only [Int.toNat_natCast]); (repeat' split) <;> first | rfl | omega⟩

set_option maxRecDepth 100000 in
set_option maxHeartbeats 4000000 in
theorem c_X11_image (l : Launch) (D : va_G) (cy : Nat → ClassId) (B : Nat) (σ : Sg) (z_ : Int) (r_z_ : -2147483648 ≤ z_ ∧ z_ < 2147483648) (hok : σ 18 4 = 0 ∨ okV (σ 18)) : CI l yX11_image cX11_image 2 (some .int) 2 43 D cy B [.ref (B + 0), .int (iI (z_))] σ (if ¬ (0 ≤ z_ ∧ z_ ≤ 1) then -1000001 else if σ 18 4 = 0 then -1000002 else 1) (if ¬ (0 ≤ z_ ∧ z_ ≤ 1) then σ else if σ 18 4 = 0 then σ else us σ (46 + 6 * z_.toNat) (tkN (σ (46 + 6 * z_.toNat)) (σ 18) (mn (σ 18)))) := by
  refine CI_of (ty := .int) (by decide) (rfl) (Nat.le_of_ble_eq_true rfl) ?_
  intro p e R s m args below meth c Q hx hb hml hown hts hK hRf hRl hW hret ls hl
  have hown : s.vm.findClass "LoveParts" = some m.cls := hown
  have hS : va_S (AB B) s.heap s.heap [] := va_S.rf
  have hl : lv_has ls 2 [(0, .ref (B + 0)), (1, .int (iI (z_)))] := hl
  have f4 : 0 ≤ σ 18 4 ∧ σ 18 4 ≤ 4 := by rcases hok with h | h; (· omega); (· exact ⟨by have := h.1; omega, h.1.2⟩)
  refine lv_iload_n hx hb dX11_image_0 rfl (lv_at hl 1 rfl) ?_
  refine zi_con hx hb dX11_image_1 ?_
  refine zi_con hx hb dX11_image_2 ?_
  refine k_si (fr := 2) (lo := 43) (r := (if 0 ≤ z_ ∧ z_ ≤ 1 then 1 else 0)) (As := [.int (iI (z_)), .int (iI (0)), .int (iI (1))]) (rest := []) hx hb hml hown hts hK hRf hRl hW hS (c_X11_within l D cy B σ z_ 0 1 (show -2147483648 ≤ z_ ∧ z_ < 2147483648 from (by first | assumption | omega | (simp only [tpL_25, List.length_cons, List.length_nil]; omega))) (show -2147483648 ≤ 0 ∧ 0 < 2147483648 from (by first | assumption | omega | (simp only [tpL_25, List.length_cons, List.length_nil]; omega))) (show -2147483648 ≤ 1 ∧ 1 < 2147483648 from (by first | assumption | omega | (simp only [tpL_25, List.length_cons, List.length_nil]; omega)))) vX11_within w_359 w_358 ⟨Nat.le_of_ble_eq_true rfl, Nat.le_of_ble_eq_true rfl⟩ hl.1 rfl (Nat.le_of_ble_eq_true rfl) ⟨Nat.zero_le _, Nat.zero_le _⟩ dX11_image_3 (fun H locs hW hS => ?_)
  refine zi_bne (tgt := 12) hx hb dX11_image_6 (by decide) (fun c6 => ?_) (fun c6 => ?_)
  · refine lv_aload_n hx hb dX11_image_12 rfl (lv_at hl 0 rfl) ?_
    refine k_vi (fr := 2) (lo := 43) (r := (if σ 18 4 = 0 then 1 else 0)) (As := []) (rest := []) hx hb hml hown hts hK hRf hRl hW hS (c_X11_noRealm l D cy B σ  (show 0 ≤ σ 18 4 ∧ σ 18 4 ≤ 4 from (by first | assumption | omega | (simp only [tpL_25, List.length_cons, List.length_nil]; omega)))) vX11_noRealm ⟨w_528, w_5⟩ w_526 (by decide) e_0 rfl ⟨Nat.le_of_ble_eq_true rfl, Nat.le_of_ble_eq_true rfl⟩ hl.1 rfl (Nat.le_of_ble_eq_true rfl) ⟨Nat.zero_le _, Nat.zero_le _⟩ dX11_image_13 (fun H locs hW hS => ?_)
    refine zi_beq (tgt := 22) hx hb dX11_image_16 (by decide) (fun c16 => ?_) (fun c16 => ?_)
    · have hok := hok.resolve_left (by omega)
      obtain ⟨o4, o0, o1, o2, o3, o5, o6, o7, oH⟩ := id hok
      refine lv_aload_n hx hb dX11_image_22 rfl (lv_at hl 0 rfl) ?_
      refine wz_get hx hb hts hown hK hW 0 6 (by decide) e_0 rfl (by decide) inG11 w_311 rfl rfl dX11_image_23 ?_
      refine lv_iload_n hx hb dX11_image_26 rfl (lv_at hl 1 rfl) ?_
      refine wz_ara hx hb hK hW 7 z_.toNat 4 (by decide) e_7 rfl (by omega) (by omega) (by decide) rfl dX11_image_27 ?_
      refine lv_aload_n hx hb dX11_image_28 rfl (lv_at hl 0 rfl) ?_
      refine wz_get hx hb hts hown hK hW 0 4 (by decide) e_0 rfl (by decide) inG11 w_309 rfl rfl dX11_image_29 ?_
      refine k_vv (fr := 2) (lo := 43) (σ' := (us σ (46 + 6 * z_.toNat) (tkN (σ (46 + 6 * z_.toNat)) (σ 18) (mn (σ 18))))) (As := [.ref (B + 18)]) (rest := []) hx hb hml hown hts hK hRf hRl hW hS (c_X6_take l D cy B σ (46 + 6 * z_.toNat) 18 (show isR (46 + 6 * z_.toNat) from (isR_im (by omega))) (show isR 18 from isR_18) (show (46 + 6 * z_.toNat) ≠ 18 from (by omega)) (show 0 ≤ σ 18 4 ∧ σ 18 4 ≤ 4 from (by omega)) (show σ 18 7 = 0 ∨ σ 18 7 = 1 from o7) (show ∀ h : Nat, (h : Int) < σ 18 4 → σ 18 (20 + h) = 0 ∨ σ 18 (20 + h) = 1 from (fun h hh => (oH h hh).2.2.2.1))) vX6_take ⟨w_460, w_461⟩ w_459 (lt_R (isR_im (by omega))) (e_R (isR_im (by omega))) rfl ⟨Nat.le_of_ble_eq_true rfl, Nat.le_of_ble_eq_true rfl⟩ hl.1 rfl (Nat.le_of_ble_eq_true rfl) ⟨Nat.zero_le _, Nat.zero_le _⟩ dX11_image_32 (fun H locs hW hS => ?_)
      refine zi_con hx hb dX11_image_35 ?_
      exact hret _ _ _ _ _ _ dX11_image_36 hW hS ⟨by (repeat' split) <;> first | rfl | omega, by (repeat' split) <;> first | rfl | omega⟩
    · refine k_ldc hx hb hown hts (v := -1000002) (by decide) w_479 dX11_image_19 ?_
      exact hret _ _ _ _ _ _ dX11_image_21 hW hS ⟨by (repeat' split) <;> first | rfl | omega, by (repeat' split) <;> first | rfl | omega⟩
  · refine k_ldc hx hb hown hts (v := -1000001) (by decide) w_361 dX11_image_9 ?_
    exact hret _ _ _ _ _ _ dX11_image_11 hW hS ⟨by (repeat' split) <;> first | rfl | omega, by (repeat' split) <;> first | rfl | omega⟩

set_option maxRecDepth 100000 in
set_option maxHeartbeats 4000000 in
theorem c_X11_restore (l : Launch) (D : va_G) (cy : Nat → ClassId) (B : Nat) (σ : Sg) (z_ : Int) (r_z_ : -2147483648 ≤ z_ ∧ z_ < 2147483648) (him : ∀ k, k < 2 → σ (46 + 6 * k) 4 = 0 ∨ okV (σ (46 + 6 * k))) : CI l yX11_restore cX11_restore 2 (some .int) 2 43 D cy B [.ref (B + 0), .int (iI (z_))] σ (if ¬ (0 ≤ z_ ∧ z_ ≤ 1) then -1000001 else if σ (46 + 6 * z_.toNat) 4 = 0 then -1000002 else 1) (if ¬ (0 ≤ z_ ∧ z_ ≤ 1) then σ else if σ (46 + 6 * z_.toNat) 4 = 0 then σ else up (up (us σ 18 (tkN (σ 18) (σ (46 + 6 * z_.toNat)) (mn (σ (46 + 6 * z_.toNat))))) 0 8 0) 0 9 0) := by
  refine CI_of (ty := .int) (by decide) (rfl) (Nat.le_of_ble_eq_true rfl) ?_
  intro p e R s m args below meth c Q hx hb hml hown hts hK hRf hRl hW hret ls hl
  have hown : s.vm.findClass "LoveParts" = some m.cls := hown
  have hS : va_S (AB B) s.heap s.heap [] := va_S.rf
  have hl : lv_has ls 2 [(0, .ref (B + 0)), (1, .int (iI (z_)))] := hl
  refine lv_iload_n hx hb dX11_restore_0 rfl (lv_at hl 1 rfl) ?_
  refine zi_con hx hb dX11_restore_1 ?_
  refine zi_con hx hb dX11_restore_2 ?_
  refine k_si (fr := 2) (lo := 43) (r := (if 0 ≤ z_ ∧ z_ ≤ 1 then 1 else 0)) (As := [.int (iI (z_)), .int (iI (0)), .int (iI (1))]) (rest := []) hx hb hml hown hts hK hRf hRl hW hS (c_X11_within l D cy B σ z_ 0 1 (show -2147483648 ≤ z_ ∧ z_ < 2147483648 from (by first | assumption | omega | (simp only [tpL_25, List.length_cons, List.length_nil]; omega))) (show -2147483648 ≤ 0 ∧ 0 < 2147483648 from (by first | assumption | omega | (simp only [tpL_25, List.length_cons, List.length_nil]; omega))) (show -2147483648 ≤ 1 ∧ 1 < 2147483648 from (by first | assumption | omega | (simp only [tpL_25, List.length_cons, List.length_nil]; omega)))) vX11_within w_359 w_358 ⟨Nat.le_of_ble_eq_true rfl, Nat.le_of_ble_eq_true rfl⟩ hl.1 rfl (Nat.le_of_ble_eq_true rfl) ⟨Nat.zero_le _, Nat.zero_le _⟩ dX11_restore_3 (fun H locs hW hS => ?_)
  refine zi_bne (tgt := 12) hx hb dX11_restore_6 (by decide) (fun c6 => ?_) (fun c6 => ?_)
  · have hok := him z_.toNat (by omega)
    have f4 : 0 ≤ σ (46 + 6 * z_.toNat) 4 ∧ σ (46 + 6 * z_.toNat) 4 ≤ 4 := by rcases hok with h | h; (· omega); (· exact ⟨by have := h.1; omega, h.1.2⟩)
    refine lv_aload_n hx hb dX11_restore_12 rfl (lv_at hl 0 rfl) ?_
    refine wz_get hx hb hts hown hK hW 0 6 (by decide) e_0 rfl (by decide) inG11 w_311 rfl rfl dX11_restore_13 ?_
    refine lv_iload_n hx hb dX11_restore_16 rfl (lv_at hl 1 rfl) ?_
    refine wz_ara hx hb hK hW 7 z_.toNat 4 (by decide) e_7 rfl (by omega) (by omega) (by decide) rfl dX11_restore_17 ?_
    refine wz_get hx hb hts hown hK hW (46 + 6 * z_.toNat) 1 (lt_R (isR_im (by omega))) (e_R (isR_im (by omega))) rfl (by decide) inG6 w_249 rfl rfl dX11_restore_18 ?_
    refine zi_ne (tgt := 27) hx hb dX11_restore_21 (by decide) (by omega) (fun c21 => ?_) (fun c21 => ?_)
    · have hok := hok.resolve_left (by omega)
      obtain ⟨o4, o0, o1, o2, o3, o5, o6, o7, oH⟩ := id hok
      refine lv_aload_n hx hb dX11_restore_27 rfl (lv_at hl 0 rfl) ?_
      refine wz_get hx hb hts hown hK hW 0 4 (by decide) e_0 rfl (by decide) inG11 w_309 rfl rfl dX11_restore_28 ?_
      refine lv_aload_n hx hb dX11_restore_31 rfl (lv_at hl 0 rfl) ?_
      refine wz_get hx hb hts hown hK hW 0 6 (by decide) e_0 rfl (by decide) inG11 w_311 rfl rfl dX11_restore_32 ?_
      refine lv_iload_n hx hb dX11_restore_35 rfl (lv_at hl 1 rfl) ?_
      refine wz_ara hx hb hK hW 7 z_.toNat 4 (by decide) e_7 rfl (by omega) (by omega) (by decide) rfl dX11_restore_36 ?_
      refine k_vv (fr := 2) (lo := 43) (σ' := (us σ 18 (tkN (σ 18) (σ (46 + 6 * z_.toNat)) (mn (σ (46 + 6 * z_.toNat)))))) (As := [.ref (B + (46 + 6 * z_.toNat))]) (rest := []) hx hb hml hown hts hK hRf hRl hW hS (c_X6_take l D cy B σ 18 (46 + 6 * z_.toNat) (show isR 18 from isR_18) (show isR (46 + 6 * z_.toNat) from (isR_im (by omega))) (show 18 ≠ (46 + 6 * z_.toNat) from (by omega)) (show 0 ≤ σ (46 + 6 * z_.toNat) 4 ∧ σ (46 + 6 * z_.toNat) 4 ≤ 4 from (by omega)) (show σ (46 + 6 * z_.toNat) 7 = 0 ∨ σ (46 + 6 * z_.toNat) 7 = 1 from o7) (show ∀ h : Nat, (h : Int) < σ (46 + 6 * z_.toNat) 4 → σ (46 + 6 * z_.toNat) (20 + h) = 0 ∨ σ (46 + 6 * z_.toNat) (20 + h) = 1 from (fun h hh => (oH h hh).2.2.2.1))) vX6_take ⟨w_460, w_461⟩ w_459 (lt_R isR_18) (e_R isR_18) rfl ⟨Nat.le_of_ble_eq_true rfl, Nat.le_of_ble_eq_true rfl⟩ hl.1 rfl (Nat.le_of_ble_eq_true rfl) ⟨Nat.zero_le _, Nat.zero_le _⟩ dX11_restore_37 (fun H locs hW hS => ?_)
      refine lv_aload_n hx hb dX11_restore_40 rfl (lv_at hl 0 rfl) ?_
      refine k_vv (fr := 2) (lo := 43) (σ' := (up (up (us σ 18 (tkN (σ 18) (σ (46 + 6 * z_.toNat)) (mn (σ (46 + 6 * z_.toNat))))) 0 8 0) 0 9 0)) (As := []) (rest := []) hx hb hml hown hts hK hRf hRl hW hS (c_X11_forgetActs l D cy B (us σ 18 (tkN (σ 18) (σ (46 + 6 * z_.toNat)) (mn (σ (46 + 6 * z_.toNat)))))  ) vX11_forgetActs ⟨w_469, w_2⟩ w_467 (by decide) e_0 rfl ⟨Nat.le_of_ble_eq_true rfl, Nat.le_of_ble_eq_true rfl⟩ hl.1 rfl (Nat.le_of_ble_eq_true rfl) ⟨Nat.zero_le _, Nat.zero_le _⟩ dX11_restore_41 (fun H locs hW hS => ?_)
      refine zi_con hx hb dX11_restore_44 ?_
      exact hret _ _ _ _ _ _ dX11_restore_45 hW hS ⟨by (repeat' split) <;> first | rfl | omega, by (repeat' split) <;> first | rfl | omega⟩
    · refine k_ldc hx hb hown hts (v := -1000002) (by decide) w_479 dX11_restore_24 ?_
      exact hret _ _ _ _ _ _ dX11_restore_26 hW hS ⟨by (repeat' split) <;> first | rfl | omega, by (repeat' split) <;> first | rfl | omega⟩
  · refine k_ldc hx hb hown hts (v := -1000001) (by decide) w_361 dX11_restore_9 ?_
    exact hret _ _ _ _ _ _ dX11_restore_11 hW hS ⟨by (repeat' split) <;> first | rfl | omega, by (repeat' split) <;> first | rfl | omega⟩
