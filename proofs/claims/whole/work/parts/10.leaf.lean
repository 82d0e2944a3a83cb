
set_option maxRecDepth 100000 in
set_option maxHeartbeats 4000000 in
theorem c_X12_in (l : Launch) (D : va_G) (cy : Nat → ClassId) (B : Nat) (σ : Sg) (v_ : Int) (a_ : Int) (b_ : Int) (h1 : -9223372036854775808 ≤ v_ ∧ v_ < 9223372036854775808) (h2 : -9223372036854775808 ≤ a_ ∧ a_ < 9223372036854775808) (h3 : -9223372036854775808 ≤ b_ ∧ b_ < 9223372036854775808) : CI l yX12_in cX12_in 6 (some .boolean) 0 0 D cy B [.long (lI (v_)), .long (lI (a_)), .long (lI (b_))] σ ((if a_ ≤ v_ ∧ v_ ≤ b_ then 1 else 0)) (σ) := by
  refine CI_of (ty := .boolean) (by decide) (nb_ite) (Nat.le_of_ble_eq_true rfl) ?_
  intro p e R s m args below meth c Q hx hb hml hown hts hK hRf hRl hW hret ls hl
  have hown : s.vm.findClass "LovePartsModel" = some m.cls := hown
  have hS : va_S (AB B) s.heap s.heap [] := va_S.rf
  have hl : lv_has ls 6 [(0, .long (lI (v_))), (2, .long (lI (a_))), (4, .long (lI (b_)))] := hl
  refine lv_lload_n hx hb dX12_in_0 rfl (lv_at hl 0 rfl) ?_
  refine lv_lload_n hx hb dX12_in_1 rfl (lv_at hl 1 rfl) ?_
  refine zi_lcmp hx hb dX12_in_2 (by omega) (by omega) ?_
  refine zi_lt (tgt := 17) hx hb dX12_in_3 (by decide) (sg_bd _ _) (fun c3 => ?_) (fun c3 => ?_)
  · refine zi_con hx hb dX12_in_17 ?_
    exact hret _ _ _ _ _ _ dX12_in_18 hW hS ⟨by simp only [sg_lt, sg_gt] at *; split <;> first | rfl | omega, rfl⟩
  · refine lv_lload_n hx hb dX12_in_6 rfl (lv_at hl 0 rfl) ?_
    refine lv_lload hx hb dX12_in_7 (lv_at hl 2 rfl) ?_
    refine zi_lcmp hx hb dX12_in_9 (by omega) (by omega) ?_
    refine zi_gt (tgt := 17) hx hb dX12_in_10 (by decide) (sg_bd _ _) (fun c10 => ?_) (fun c10 => ?_)
    · refine zi_con hx hb dX12_in_17 ?_
      exact hret _ _ _ _ _ _ dX12_in_18 hW hS ⟨by simp only [sg_lt, sg_gt] at *; split <;> first | rfl | omega, rfl⟩
    · refine zi_con hx hb dX12_in_13 ?_
      refine lv_goto (tgt := 18) hx hb dX12_in_14 (by decide) ?_
      exact hret _ _ _ _ _ _ dX12_in_18 hW hS ⟨by simp only [sg_lt, sg_gt] at *; split <;> first | rfl | omega, rfl⟩

set_option maxRecDepth 100000 in
set_option maxHeartbeats 4000000 in
theorem c_X12_find (l : Launch) (D : va_G) (cy : Nat → ClassId) (B : Nat) (σ : Sg) (z_ : Int)  : CI l yX12_find cX12_find 2 (some .int) 0 0 D cy B [.ref (B + 202), .int (iI (z_))] σ (-1000010 - z_) (up σ 202 3 z_) := by
  refine CI_of (ty := .int) (by decide) (rfl) (Nat.le_of_ble_eq_true rfl) ?_
  intro p e R s m args below meth c Q hx hb hml hown hts hK hRf hRl hW hret ls hl
  have hown : s.vm.findClass "LovePartsModel" = some m.cls := hown
  have hS : va_S (AB B) s.heap s.heap [] := va_S.rf
  have hl : lv_has ls 2 [(0, .ref (B + 202)), (1, .int (iI (z_)))] := hl
  refine lv_aload_n hx hb dX12_find_0 rfl (lv_at hl 0 rfl) ?_
  refine lv_iload_n hx hb dX12_find_1 rfl (lv_at hl 1 rfl) ?_
  refine wz_put (σ' := (up σ 202 3 z_)) (ty := .int) hx hb hts hown hK hW hS 202 3 tyX12 (by decide) e_202 rfl (by decide) inG12 tyX12_ok nmX12 w_818 ⟨rfl, rfl, Nat.le_of_ble_eq_true rfl⟩ (by decide +kernel) ⟨rfl, rfl⟩ p_202_3 dX12_find_2 (fun H locs hW hS => ?_)
  refine k_ldc hx hb hown hts (v := -1000010) (by decide) w_912 dX12_find_5 ?_
  refine lv_iload_n hx hb dX12_find_7 rfl (lv_at hl 1 rfl) ?_
  refine zi_sub hx hb dX12_find_8 ?_
  exact hret _ _ _ _ _ _ dX12_find_9 hW hS ⟨rfl, rfl⟩

set_option maxRecDepth 100000 in
set_option maxHeartbeats 4000000 in
theorem c_X12_well (l : Launch) (D : va_G) (cy : Nat → ClassId) (B : Nat) (σ : Sg) (z_ : Int)  : CI l yX12_well cX12_well 2 (some .int) 0 0 D cy B [.ref (B + 202), .int (iI (z_))] σ (z_) (up σ 202 3 0) := by
  refine CI_of (ty := .int) (by decide) (rfl) (Nat.le_of_ble_eq_true rfl) ?_
  intro p e R s m args below meth c Q hx hb hml hown hts hK hRf hRl hW hret ls hl
  have hown : s.vm.findClass "LovePartsModel" = some m.cls := hown
  have hS : va_S (AB B) s.heap s.heap [] := va_S.rf
  have hl : lv_has ls 2 [(0, .ref (B + 202)), (1, .int (iI (z_)))] := hl
  refine lv_aload_n hx hb dX12_well_0 rfl (lv_at hl 0 rfl) ?_
  refine zi_con hx hb dX12_well_1 ?_
  refine wz_put (σ' := (up σ 202 3 0)) (ty := .int) hx hb hts hown hK hW hS 202 3 tyX12 (by decide) e_202 rfl (by decide) inG12 tyX12_ok nmX12 w_818 ⟨rfl, rfl, Nat.le_of_ble_eq_true rfl⟩ (by decide +kernel) ⟨rfl, rfl⟩ p_202_3 dX12_well_2 (fun H locs hW hS => ?_)
  refine lv_iload_n hx hb dX12_well_5 rfl (lv_at hl 1 rfl) ?_
  exact hret _ _ _ _ _ _ dX12_well_6 hW hS ⟨rfl, rfl⟩

set_option maxRecDepth 100000 in
set_option maxHeartbeats 4000000 in
theorem c_X12_isRow (l : Launch) (D : va_G) (cy : Nat → ClassId) (B : Nat) (σ : Sg) (z_ : Int) (h1 : -2147483648 ≤ z_ ∧ z_ < 2147483648) : CI l yX12_isRow cX12_isRow 1 (some .boolean) 1 25 D cy B [.int (iI (z_))] σ ((if 0 ≤ z_ ∧ z_ ≤ 7 then 1 else 0)) (σ) := by
  refine CI_of (ty := .boolean) (by decide) (nb_ite) (Nat.le_of_ble_eq_true rfl) ?_
  intro p e R s m args below meth c Q hx hb hml hown hts hK hRf hRl hW hret ls hl
  have hown : s.vm.findClass "LovePartsModel" = some m.cls := hown
  have hS : va_S (AB B) s.heap s.heap [] := va_S.rf
  have hl : lv_has ls 1 [(0, .int (iI (z_)))] := hl
  refine lv_iload_n hx hb dX12_isRow_0 rfl (lv_at hl 0 rfl) ?_
  refine zi_i2l hx hb dX12_isRow_1 (by omega) ?_
  refine zi_lcon (z := 0) hx hb dX12_isRow_2 (by decide) ?_
  refine k_ldc2 hx hb hown hts (v := 7) (by decide) w_902 dX12_isRow_3 ?_
  refine k_si (fr := 1) (lo := 25) (r := (if 0 ≤ z_ ∧ z_ ≤ 7 then 1 else 0)) (As := [.long (lI (z_)), .long (lI (0)), .long (lI (7))]) (rest := []) hx hb hml hown hts hK hRf hRl hW hS (c_X12_in l D cy B σ z_ 0 7 (show -9223372036854775808 ≤ z_ ∧ z_ < 9223372036854775808 from (by first | assumption | omega)) (show -9223372036854775808 ≤ 0 ∧ 0 < 9223372036854775808 from (by first | assumption | omega)) (show -9223372036854775808 ≤ 7 ∧ 7 < 9223372036854775808 from (by first | assumption | omega))) vX12_in w_904 w_903 ⟨Nat.le_of_ble_eq_true rfl, Nat.le_of_ble_eq_true rfl⟩ hl.1 rfl (Nat.le_of_ble_eq_true rfl) ⟨Nat.zero_le _, Nat.zero_le _⟩ dX12_isRow_6 (fun H locs hW hS => ?_)
  exact hret _ _ _ _ _ _ dX12_isRow_9 hW hS ⟨rfl, rfl⟩

set_option maxRecDepth 100000 in
set_option maxHeartbeats 4000000 in
theorem c_X12_faults (l : Launch) (D : va_G) (cy : Nat → ClassId) (B : Nat) (σ : Sg) (z_ : Int)  : CI l yX12_faults cX12_faults 2 (some .boolean) 0 0 D cy B [.ref (B + 202), .int (iI (z_))] σ ((if False then 1 else 0)) (up σ 202 14 z_) := by
  refine CI_of (ty := .boolean) (by decide) (nb_ite) (Nat.le_of_ble_eq_true rfl) ?_
  intro p e R s m args below meth c Q hx hb hml hown hts hK hRf hRl hW hret ls hl
  have hown : s.vm.findClass "LovePartsModel" = some m.cls := hown
  have hS : va_S (AB B) s.heap s.heap [] := va_S.rf
  have hl : lv_has ls 2 [(0, .ref (B + 202)), (1, .int (iI (z_)))] := hl
  refine lv_aload_n hx hb dX12_faults_0 rfl (lv_at hl 0 rfl) ?_
  refine lv_iload_n hx hb dX12_faults_1 rfl (lv_at hl 1 rfl) ?_
  refine wz_put (σ' := (up σ 202 14 z_)) (ty := .int) hx hb hts hown hK hW hS 202 14 tyX12 (by decide) e_202 rfl (by decide) inG12 tyX12_ok nmX12 w_829 ⟨rfl, rfl, Nat.le_of_ble_eq_true rfl⟩ (by decide +kernel) ⟨rfl, rfl⟩ p_202_14 dX12_faults_2 (fun H locs hW hS => ?_)
  refine zi_con hx hb dX12_faults_5 ?_
  exact hret _ _ _ _ _ _ dX12_faults_6 hW hS ⟨by simp, rfl⟩

set_option maxRecDepth 100000 in
set_option maxHeartbeats 4000000 in
theorem c_X12_isHeir (l : Launch) (D : va_G) (cy : Nat → ClassId) (B : Nat) (σ : Sg) (z_ : Int) (h1 : -2147483648 ≤ z_ ∧ z_ < 2147483648) (h2 : 0 ≤ σ 206 4 ∧ σ 206 4 ≤ 4) : CI l yX12_isHeir cX12_isHeir 2 (some .boolean) 1 25 D cy B [.ref (B + 202), .int (iI (z_))] σ ((if 0 ≤ z_ ∧ z_ ≤ σ 206 4 - 1 then 1 else 0)) (σ) := by
  refine CI_of (ty := .boolean) (by decide) (nb_ite) (Nat.le_of_ble_eq_true rfl) ?_
  intro p e R s m args below meth c Q hx hb hml hown hts hK hRf hRl hW hret ls hl
  have hown : s.vm.findClass "LovePartsModel" = some m.cls := hown
  have hS : va_S (AB B) s.heap s.heap [] := va_S.rf
  have hl : lv_has ls 2 [(0, .ref (B + 202)), (1, .int (iI (z_)))] := hl
  refine lv_iload_n hx hb dX12_isHeir_0 rfl (lv_at hl 1 rfl) ?_
  refine zi_i2l hx hb dX12_isHeir_1 (by omega) ?_
  refine zi_lcon (z := 0) hx hb dX12_isHeir_2 (by decide) ?_
  refine lv_aload_n hx hb dX12_isHeir_3 rfl (lv_at hl 0 rfl) ?_
  refine wz_get hx hb hts hown hK hW 202 5 (by decide) e_202 rfl (by decide) inG12 w_820 rfl rfl dX12_isHeir_4 ?_
  refine zi_con hx hb dX12_isHeir_7 ?_
  refine wz_ald hx hb hK hW 206 4 (by decide) e_206 (by omega) (by omega) (by decide) dX12_isHeir_8 ?_
  refine zi_con hx hb dX12_isHeir_9 ?_
  refine zi_sub hx hb dX12_isHeir_10 ?_
  refine zi_i2l hx hb dX12_isHeir_11 (by omega) ?_
  refine k_si (fr := 1) (lo := 25) (r := (if 0 ≤ z_ ∧ z_ ≤ ((σ 206 4) - 1) then 1 else 0)) (As := [.long (lI (z_)), .long (lI (0)), .long (lI ((σ 206 4) - 1))]) (rest := []) hx hb hml hown hts hK hRf hRl hW hS (c_X12_in l D cy B σ z_ 0 ((σ 206 4) - 1) (show -9223372036854775808 ≤ z_ ∧ z_ < 9223372036854775808 from (by first | assumption | omega)) (show -9223372036854775808 ≤ 0 ∧ 0 < 9223372036854775808 from (by first | assumption | omega)) (show -9223372036854775808 ≤ ((σ 206 4) - 1) ∧ ((σ 206 4) - 1) < 9223372036854775808 from (by first | assumption | omega))) vX12_in w_904 w_903 ⟨Nat.le_of_ble_eq_true rfl, Nat.le_of_ble_eq_true rfl⟩ hl.1 rfl (Nat.le_of_ble_eq_true rfl) ⟨Nat.zero_le _, Nat.zero_le _⟩ dX12_isHeir_12 (fun H locs hW hS => ?_)
  exact hret _ _ _ _ _ _ dX12_isHeir_15 hW hS ⟨rfl, rfl⟩

set_option maxRecDepth 100000 in
set_option maxHeartbeats 4000000 in
theorem c_X11_within (l : Launch) (D : va_G) (cy : Nat → ClassId) (B : Nat) (σ : Sg) (z_ : Int) (a_ : Int) (b_ : Int) (h1 : -2147483648 ≤ z_ ∧ z_ < 2147483648) (h2 : -2147483648 ≤ a_ ∧ a_ < 2147483648) (h3 : -2147483648 ≤ b_ ∧ b_ < 2147483648) : CI l yX11_within cX11_within 3 (some .boolean) 0 0 D cy B [.int (iI (z_)), .int (iI (a_)), .int (iI (b_))] σ ((if a_ ≤ z_ ∧ z_ ≤ b_ then 1 else 0)) (σ) := by
  refine CI_of (ty := .boolean) (by decide) (nb_ite) (Nat.le_of_ble_eq_true rfl) ?_
  intro p e R s m args below meth c Q hx hb hml hown hts hK hRf hRl hW hret ls hl
  have hown : s.vm.findClass "LoveParts" = some m.cls := hown
  have hS : va_S (AB B) s.heap s.heap [] := va_S.rf
  have hl : lv_has ls 3 [(0, .int (iI (z_))), (1, .int (iI (a_))), (2, .int (iI (b_)))] := hl
  refine lv_iload_n hx hb dX11_within_0 rfl (lv_at hl 0 rfl) ?_
  refine lv_iload_n hx hb dX11_within_1 rfl (lv_at hl 1 rfl) ?_
  refine zi_clt (tgt := 14) hx hb dX11_within_2 (by decide) (by omega) (by omega) (fun c2 => ?_) (fun c2 => ?_)
  · refine zi_con hx hb dX11_within_14 ?_
    exact hret _ _ _ _ _ _ dX11_within_15 hW hS ⟨by split <;> first | rfl | omega, rfl⟩
  · refine lv_iload_n hx hb dX11_within_5 rfl (lv_at hl 0 rfl) ?_
    refine lv_iload_n hx hb dX11_within_6 rfl (lv_at hl 2 rfl) ?_
    refine zi_cgt (tgt := 14) hx hb dX11_within_7 (by decide) (by omega) (by omega) (fun c7 => ?_) (fun c7 => ?_)
    · refine zi_con hx hb dX11_within_14 ?_
      exact hret _ _ _ _ _ _ dX11_within_15 hW hS ⟨by split <;> first | rfl | omega, rfl⟩
    · refine zi_con hx hb dX11_within_10 ?_
      refine lv_goto (tgt := 15) hx hb dX11_within_11 (by decide) ?_
      exact hret _ _ _ _ _ _ dX11_within_15 hW hS ⟨by split <;> first | rfl | omega, rfl⟩

set_option maxRecDepth 100000 in
set_option maxHeartbeats 4000000 in
theorem c_X11_noRealm (l : Launch) (D : va_G) (cy : Nat → ClassId) (B : Nat) (σ : Sg)  (h2 : 0 ≤ σ 18 4 ∧ σ 18 4 ≤ 4) : CI l yX11_noRealm cX11_noRealm 1 (some .boolean) 0 0 D cy B [.ref (B + 0)] σ ((if σ 18 4 = 0 then 1 else 0)) (σ) := by
  refine CI_of (ty := .boolean) (by decide) (nb_ite) (Nat.le_of_ble_eq_true rfl) ?_
  intro p e R s m args below meth c Q hx hb hml hown hts hK hRf hRl hW hret ls hl
  have hown : s.vm.findClass "LoveParts" = some m.cls := hown
  have hS : va_S (AB B) s.heap s.heap [] := va_S.rf
  have hl : lv_has ls 1 [(0, .ref (B + 0))] := hl
  refine lv_aload_n hx hb dX11_noRealm_0 rfl (lv_at hl 0 rfl) ?_
  refine wz_get hx hb hts hown hK hW 0 4 (by decide) e_0 rfl (by decide) inG11 w_309 rfl rfl dX11_noRealm_1 ?_
  refine wz_get hx hb hts hown hK hW 18 1 (lt_R isR_18) (e_R isR_18) rfl (by decide) inG6 w_249 rfl rfl dX11_noRealm_4 ?_
  refine zi_ne (tgt := 14) hx hb dX11_noRealm_7 (by decide) (by omega) (fun c7 => ?_) (fun c7 => ?_)
  · refine zi_con hx hb dX11_noRealm_14 ?_
    exact hret _ _ _ _ _ _ dX11_noRealm_15 hW hS ⟨by split <;> first | rfl | omega, rfl⟩
  · refine zi_con hx hb dX11_noRealm_10 ?_
    refine lv_goto (tgt := 15) hx hb dX11_noRealm_11 (by decide) ?_
    exact hret _ _ _ _ _ _ dX11_noRealm_15 hW hS ⟨by split <;> first | rfl | omega, rfl⟩

set_option maxRecDepth 100000 in
set_option maxHeartbeats 4000000 in
theorem c_X11_isHeir (l : Launch) (D : va_G) (cy : Nat → ClassId) (B : Nat) (σ : Sg) (z_ : Int) (h1 : -2147483648 ≤ z_ ∧ z_ < 2147483648) (h2 : 0 ≤ σ 18 4 ∧ σ 18 4 ≤ 4) : CI l yX11_isHeir cX11_isHeir 2 (some .boolean) 1 22 D cy B [.ref (B + 0), .int (iI (z_))] σ ((if 0 ≤ z_ ∧ z_ ≤ σ 18 4 - 1 then 1 else 0)) (σ) := by
  refine CI_of (ty := .boolean) (by decide) (nb_ite) (Nat.le_of_ble_eq_true rfl) ?_
  intro p e R s m args below meth c Q hx hb hml hown hts hK hRf hRl hW hret ls hl
  have hown : s.vm.findClass "LoveParts" = some m.cls := hown
  have hS : va_S (AB B) s.heap s.heap [] := va_S.rf
  have hl : lv_has ls 2 [(0, .ref (B + 0)), (1, .int (iI (z_)))] := hl
  refine lv_iload_n hx hb dX11_isHeir_0 rfl (lv_at hl 1 rfl) ?_
  refine zi_con hx hb dX11_isHeir_1 ?_
  refine lv_aload_n hx hb dX11_isHeir_2 rfl (lv_at hl 0 rfl) ?_
  refine wz_get hx hb hts hown hK hW 0 4 (by decide) e_0 rfl (by decide) inG11 w_309 rfl rfl dX11_isHeir_3 ?_
  refine wz_get hx hb hts hown hK hW 18 1 (lt_R isR_18) (e_R isR_18) rfl (by decide) inG6 w_249 rfl rfl dX11_isHeir_6 ?_
  refine zi_con hx hb dX11_isHeir_9 ?_
  refine zi_sub hx hb dX11_isHeir_10 ?_
  refine k_si (fr := 1) (lo := 22) (r := (if 0 ≤ z_ ∧ z_ ≤ ((σ 18 4) - 1) then 1 else 0)) (As := [.int (iI (z_)), .int (iI (0)), .int (iI ((σ 18 4) - 1))]) (rest := []) hx hb hml hown hts hK hRf hRl hW hS (c_X11_within l D cy B σ z_ 0 ((σ 18 4) - 1) (show -2147483648 ≤ z_ ∧ z_ < 2147483648 from (by first | assumption | omega)) (show -2147483648 ≤ 0 ∧ 0 < 2147483648 from (by first | assumption | omega)) (show -2147483648 ≤ ((σ 18 4) - 1) ∧ ((σ 18 4) - 1) < 2147483648 from (by first | assumption | omega))) vX11_within w_359 w_358 ⟨Nat.le_of_ble_eq_true rfl, Nat.le_of_ble_eq_true rfl⟩ hl.1 rfl (Nat.le_of_ble_eq_true rfl) ⟨Nat.zero_le _, Nat.zero_le _⟩ dX11_isHeir_11 (fun H locs hW hS => ?_)
  exact hret _ _ _ _ _ _ dX11_isHeir_14 hW hS ⟨rfl, rfl⟩

set_option maxRecDepth 100000 in
set_option maxHeartbeats 4000000 in
theorem c_X11_found (l : Launch) (D : va_G) (cy : Nat → ClassId) (B : Nat) (σ : Sg) (z_ : Int)  : CI l yX11_found cX11_found 2 (some .int) 0 0 D cy B [.ref (B + 0), .int (iI (z_))] σ (-1000010 - z_) (up σ 0 15 z_) := by
  refine CI_of (ty := .int) (by decide) (rfl) (Nat.le_of_ble_eq_true rfl) ?_
  intro p e R s m args below meth c Q hx hb hml hown hts hK hRf hRl hW hret ls hl
  have hown : s.vm.findClass "LoveParts" = some m.cls := hown
  have hS : va_S (AB B) s.heap s.heap [] := va_S.rf
  have hl : lv_has ls 2 [(0, .ref (B + 0)), (1, .int (iI (z_)))] := hl
  refine lv_aload_n hx hb dX11_found_0 rfl (lv_at hl 0 rfl) ?_
  refine lv_iload_n hx hb dX11_found_1 rfl (lv_at hl 1 rfl) ?_
  refine wz_put (σ' := (up σ 0 15 z_)) (ty := .int) hx hb hts hown hK hW hS 0 15 tyX11 (by decide) e_0 rfl (by decide) inG11 tyX11_ok nmX11 w_320 ⟨rfl, rfl, Nat.le_of_ble_eq_true rfl⟩ (by decide +kernel) ⟨rfl, rfl⟩ p_0_15 dX11_found_2 (fun H locs hW hS => ?_)
  refine k_ldc_w hx hb hown hts (v := -1000010) (by decide) w_366 dX11_found_5 ?_
  refine lv_iload_n hx hb dX11_found_8 rfl (lv_at hl 1 rfl) ?_
  refine zi_sub hx hb dX11_found_9 ?_
  exact hret _ _ _ _ _ _ dX11_found_10 hW hS ⟨rfl, rfl⟩

set_option maxRecDepth 100000 in
set_option maxHeartbeats 4000000 in
theorem c_X11_foundNothing (l : Launch) (D : va_G) (cy : Nat → ClassId) (B : Nat) (σ : Sg) (z_ : Int)  : CI l yX11_foundNothing cX11_foundNothing 2 (some .int) 0 0 D cy B [.ref (B + 0), .int (iI (z_))] σ (z_) (up σ 0 15 0) := by
  refine CI_of (ty := .int) (by decide) (rfl) (Nat.le_of_ble_eq_true rfl) ?_
  intro p e R s m args below meth c Q hx hb hml hown hts hK hRf hRl hW hret ls hl
  have hown : s.vm.findClass "LoveParts" = some m.cls := hown
  have hS : va_S (AB B) s.heap s.heap [] := va_S.rf
  have hl : lv_has ls 2 [(0, .ref (B + 0)), (1, .int (iI (z_)))] := hl
  refine lv_aload_n hx hb dX11_foundNothing_0 rfl (lv_at hl 0 rfl) ?_
  refine zi_con hx hb dX11_foundNothing_1 ?_
  refine wz_put (σ' := (up σ 0 15 0)) (ty := .int) hx hb hts hown hK hW hS 0 15 tyX11 (by decide) e_0 rfl (by decide) inG11 tyX11_ok nmX11 w_320 ⟨rfl, rfl, Nat.le_of_ble_eq_true rfl⟩ (by decide +kernel) ⟨rfl, rfl⟩ p_0_15 dX11_foundNothing_2 (fun H locs hW hS => ?_)
  refine lv_iload_n hx hb dX11_foundNothing_5 rfl (lv_at hl 1 rfl) ?_
  exact hret _ _ _ _ _ _ dX11_foundNothing_6 hW hS ⟨rfl, rfl⟩

set_option maxRecDepth 100000 in
set_option maxHeartbeats 4000000 in
theorem c_X11_forgetActs (l : Launch) (D : va_G) (cy : Nat → ClassId) (B : Nat) (σ : Sg)   : CV l yX11_forgetActs cX11_forgetActs 1 0 0 D cy B [.ref (B + 0)] σ (up (up σ 0 8 0) 0 9 0) := by
  refine CV_of (by decide) (Nat.le_of_ble_eq_true rfl) ?_
  intro p e R s m args below meth c Q hx hb hml hown hts hK hRf hRl hW hret ls hl
  have hown : s.vm.findClass "LoveParts" = some m.cls := hown
  have hS : va_S (AB B) s.heap s.heap [] := va_S.rf
  have hl : lv_has ls 1 [(0, .ref (B + 0))] := hl
  refine lv_aload_n hx hb dX11_forgetActs_0 rfl (lv_at hl 0 rfl) ?_
  refine zi_con hx hb dX11_forgetActs_1 ?_
  refine wz_put (σ' := (up σ 0 8 0)) (ty := .int) hx hb hts hown hK hW hS 0 8 tyX11 (by decide) e_0 rfl (by decide) inG11 tyX11_ok nmX11 w_313 ⟨rfl, rfl, Nat.le_of_ble_eq_true rfl⟩ (by decide +kernel) ⟨rfl, rfl⟩ p_0_8 dX11_forgetActs_2 (fun H locs hW hS => ?_)
  refine lv_aload_n hx hb dX11_forgetActs_5 rfl (lv_at hl 0 rfl) ?_
  refine zi_con hx hb dX11_forgetActs_6 ?_
  refine wz_put (σ' := (up (up σ 0 8 0) 0 9 0)) (ty := .int) hx hb hts hown hK hW hS 0 9 tyX11 (by decide) e_0 rfl (by decide) inG11 tyX11_ok nmX11 w_314 ⟨rfl, rfl, Nat.le_of_ble_eq_true rfl⟩ (by decide +kernel) ⟨rfl, rfl⟩ p_0_9 dX11_forgetActs_7 (fun H locs hW hS => ?_)
  exact hret _ _ _ _ _ dX11_forgetActs_10 hW hS rfl

set_option maxRecDepth 100000 in
set_option maxHeartbeats 4000000 in
theorem c_X11_fault (l : Launch) (D : va_G) (cy : Nat → ClassId) (B : Nat) (σ : Sg)   : CI l yX11_fault cX11_fault 1 (some .int) 0 0 D cy B [.ref (B + 0)] σ (σ 0 14) (σ) := by
  refine CI_of (ty := .int) (by decide) (rfl) (Nat.le_of_ble_eq_true rfl) ?_
  intro p e R s m args below meth c Q hx hb hml hown hts hK hRf hRl hW hret ls hl
  have hown : s.vm.findClass "LoveParts" = some m.cls := hown
  have hS : va_S (AB B) s.heap s.heap [] := va_S.rf
  have hl : lv_has ls 1 [(0, .ref (B + 0))] := hl
  refine lv_aload_n hx hb dX11_fault_0 rfl (lv_at hl 0 rfl) ?_
  refine wz_get hx hb hts hown hK hW 0 14 (by decide) e_0 rfl (by decide) inG11 w_319 rfl rfl dX11_fault_1 ?_
  exact hret _ _ _ _ _ _ dX11_fault_4 hW hS ⟨rfl, rfl⟩

set_option maxRecDepth 100000 in
set_option maxHeartbeats 4000000 in
theorem c_X11_status (l : Launch) (D : va_G) (cy : Nat → ClassId) (B : Nat) (σ : Sg)   : CI l yX11_status cX11_status 1 (some .int) 0 0 D cy B [.ref (B + 0)] σ (σ 0 15) (σ) := by
  refine CI_of (ty := .int) (by decide) (rfl) (Nat.le_of_ble_eq_true rfl) ?_
  intro p e R s m args below meth c Q hx hb hml hown hts hK hRf hRl hW hret ls hl
  have hown : s.vm.findClass "LoveParts" = some m.cls := hown
  have hS : va_S (AB B) s.heap s.heap [] := va_S.rf
  have hl : lv_has ls 1 [(0, .ref (B + 0))] := hl
  refine lv_aload_n hx hb dX11_status_0 rfl (lv_at hl 0 rfl) ?_
  refine wz_get hx hb hts hown hK hW 0 15 (by decide) e_0 rfl (by decide) inG11 w_320 rfl rfl dX11_status_1 ?_
  exact hret _ _ _ _ _ _ dX11_status_4 hW hS ⟨rfl, rfl⟩

set_option maxRecDepth 100000 in
set_option maxHeartbeats 4000000 in
theorem c_X12_fault (l : Launch) (D : va_G) (cy : Nat → ClassId) (B : Nat) (σ : Sg)   : CI l yX12_fault cX12_fault 1 (some .int) 0 0 D cy B [.ref (B + 202)] σ (σ 202 9) (σ) := by
  refine CI_of (ty := .int) (by decide) (rfl) (Nat.le_of_ble_eq_true rfl) ?_
  intro p e R s m args below meth c Q hx hb hml hown hts hK hRf hRl hW hret ls hl
  have hown : s.vm.findClass "LovePartsModel" = some m.cls := hown
  have hS : va_S (AB B) s.heap s.heap [] := va_S.rf
  have hl : lv_has ls 1 [(0, .ref (B + 202))] := hl
  refine lv_aload_n hx hb dX12_fault_0 rfl (lv_at hl 0 rfl) ?_
  refine wz_get hx hb hts hown hK hW 202 9 (by decide) e_202 rfl (by decide) inG12 w_824 rfl rfl dX12_fault_1 ?_
  exact hret _ _ _ _ _ _ dX12_fault_4 hW hS ⟨rfl, rfl⟩

set_option maxRecDepth 100000 in
set_option maxHeartbeats 4000000 in
theorem c_X12_status (l : Launch) (D : va_G) (cy : Nat → ClassId) (B : Nat) (σ : Sg)   : CI l yX12_status cX12_status 1 (some .int) 0 0 D cy B [.ref (B + 202)] σ (σ 202 3) (σ) := by
  refine CI_of (ty := .int) (by decide) (rfl) (Nat.le_of_ble_eq_true rfl) ?_
  intro p e R s m args below meth c Q hx hb hml hown hts hK hRf hRl hW hret ls hl
  have hown : s.vm.findClass "LovePartsModel" = some m.cls := hown
  have hS : va_S (AB B) s.heap s.heap [] := va_S.rf
  have hl : lv_has ls 1 [(0, .ref (B + 202))] := hl
  refine lv_aload_n hx hb dX12_status_0 rfl (lv_at hl 0 rfl) ?_
  refine wz_get hx hb hts hown hK hW 202 3 (by decide) e_202 rfl (by decide) inG12 w_818 rfl rfl dX12_status_1 ?_
  exact hret _ _ _ _ _ _ dX12_status_4 hW hS ⟨rfl, rfl⟩
