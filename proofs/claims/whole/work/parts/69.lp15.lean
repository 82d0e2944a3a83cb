
set_option maxRecDepth 100000 in
set_option maxHeartbeats 4000000 in
theorem c_X3_size (l : Launch) (D : va_G) (cy : Nat → ClassId) (B : Nat) (σ : Sg) (z_ : Int) (h_ : Nat) (hz : 1 ≤ z_ ∧ z_ ≤ 5) (hh : h_ < 4) (ht : 0 ≤ σ 5 1 ∧ σ 5 1 ≤ 15) : CI l yX3_size cX3_size 3 (some .int) 1 21 D cy B [.ref (B + (12 + z_.toNat)), .ref (B + (18 + 2 + h_)), .ref (B + 5)] σ (σ 18 (12 + h_)) (tcL σ [10]) := by
  refine CI_of (ty := .int) (by decide) (rfl) (Nat.le_of_ble_eq_true rfl) ?_
  intro p e R s m args below meth c Q hx hb hml hown hts hK hRf hRl hW hret ls hl
  have hown : s.vm.findClass "LoveParts$Nature" = some m.cls := hown
  have hS : va_S (AB B) s.heap s.heap [] := va_S.rf
  have hl : lv_has ls 3 [(0, .ref (B + (12 + z_.toNat))), (1, .ref (B + (18 + 2 + h_))), (2, .ref (B + 5))] := hl
  refine lv_aload_n hx hb dX3_size_0 rfl (lv_at hl 2 rfl) ?_
  refine zi_bip hx hb dX3_size_1 (by decide) ?_
  refine k_vv (fr := 1) (lo := 21) (σ' := (tcL σ [10])) (As := [.int (iI (10))]) (rest := []) hx hb hml hown hts hK hRf hRl hW hS (c_X10_leave l D cy B σ 10 (show 0 ≤ σ 5 1 ∧ σ 5 1 ≤ 15 from (by first | assumption | omega | (simp only [tpL_25, tcL_1, List.length_cons, List.length_nil]; omega)))) vX10_leave ⟨w_749, w_750⟩ w_780 (by decide) e_5 rfl ⟨Nat.le_of_ble_eq_true rfl, Nat.le_of_ble_eq_true rfl⟩ hl.1 rfl (Nat.le_of_ble_eq_true rfl) ⟨Nat.zero_le _, Nat.zero_le _⟩ dX3_size_3 (fun H locs hW hS => ?_)
  refine lv_aload_n hx hb dX3_size_6 rfl (lv_at hl 1 rfl) ?_
  refine wz_get hx hb hts hown hK hW (18 + 2 + h_) 2 (lt_H isR_18 (by omega)) (e_H isR_18 (by omega)) rfl (by decide) inG0 w_192 rfl rfl dX3_size_7 ?_
  refine zi_top (y := σ 18 (12 + h_)) (by (first | rfl | (simp [us, uf, nS] <;> omega))) ?_
  exact hret _ _ _ _ _ _ dX3_size_10 hW hS ⟨rfl, rfl⟩

set_option maxRecDepth 100000 in
set_option maxHeartbeats 4000000 in
theorem c_X3_mark (l : Launch) (D : va_G) (cy : Nat → ClassId) (B : Nat) (σ : Sg) (z_ : Int) (h_ : Nat) (hz : 1 ≤ z_ ∧ z_ ≤ 5) (hh : h_ < 4) (ht : 0 ≤ σ 5 1 ∧ σ 5 1 ≤ 15) : CI l yX3_mark cX3_mark 3 (some .int) 1 21 D cy B [.ref (B + (12 + z_.toNat)), .ref (B + (18 + 2 + h_)), .ref (B + 5)] σ (((h_ : Nat) : Int)) (tcL σ [20]) := by
  refine CI_of (ty := .int) (by decide) (rfl) (Nat.le_of_ble_eq_true rfl) ?_
  intro p e R s m args below meth c Q hx hb hml hown hts hK hRf hRl hW hret ls hl
  have hown : s.vm.findClass "LoveParts$Nature" = some m.cls := hown
  have hS : va_S (AB B) s.heap s.heap [] := va_S.rf
  have hl : lv_has ls 3 [(0, .ref (B + (12 + z_.toNat))), (1, .ref (B + (18 + 2 + h_))), (2, .ref (B + 5))] := hl
  refine lv_aload_n hx hb dX3_mark_0 rfl (lv_at hl 2 rfl) ?_
  refine zi_bip hx hb dX3_mark_1 (by decide) ?_
  refine k_vv (fr := 1) (lo := 21) (σ' := (tcL σ [20])) (As := [.int (iI (20))]) (rest := []) hx hb hml hown hts hK hRf hRl hW hS (c_X10_leave l D cy B σ 20 (show 0 ≤ σ 5 1 ∧ σ 5 1 ≤ 15 from (by first | assumption | omega | (simp only [tpL_25, tcL_1, List.length_cons, List.length_nil]; omega)))) vX10_leave ⟨w_749, w_750⟩ w_780 (by decide) e_5 rfl ⟨Nat.le_of_ble_eq_true rfl, Nat.le_of_ble_eq_true rfl⟩ hl.1 rfl (Nat.le_of_ble_eq_true rfl) ⟨Nat.zero_le _, Nat.zero_le _⟩ dX3_mark_3 (fun H locs hW hS => ?_)
  refine lv_aload_n hx hb dX3_mark_6 rfl (lv_at hl 1 rfl) ?_
  refine wz_get hx hb hts hown hK hW (18 + 2 + h_) 0 (lt_H isR_18 (by omega)) (e_H isR_18 (by omega)) rfl (by decide) inG0 w_182 rfl rfl dX3_mark_7 ?_
  exact hret _ _ _ _ _ _ dX3_mark_10 hW hS ⟨rfl, rfl⟩

set_option maxRecDepth 100000 in
set_option maxHeartbeats 4000000 in
theorem c_X4_mark (l : Launch) (D : va_G) (cy : Nat → ClassId) (B : Nat) (σ : Sg) (z_ : Int) (h_ : Nat) (hz : 1 ≤ z_ ∧ z_ ≤ 3) (hh : h_ < 4) (ht : 0 ≤ σ 5 1 ∧ σ 5 1 ≤ 14) : CI l yX4_mark cX4_mark 3 (some .int) 2 43 D cy B [.ref (B + (12 + z_.toNat)), .ref (B + (18 + 2 + h_)), .ref (B + 5)] σ (((h_ : Nat) : Int) + σ 18 (16 + h_)) (tcL σ [21, 20]) := by
  refine CI_of (ty := .int) (by decide) (rfl) (Nat.le_of_ble_eq_true rfl) ?_
  intro p e R s m args below meth c Q hx hb hml hown hts hK hRf hRl hW hret ls hl
  have hown : s.vm.findClass "LoveParts$Plain" = some m.cls := hown
  have hS : va_S (AB B) s.heap s.heap [] := va_S.rf
  have hl : lv_has ls 3 [(0, .ref (B + (12 + z_.toNat))), (1, .ref (B + (18 + 2 + h_))), (2, .ref (B + 5))] := hl
  refine lv_aload_n hx hb dX4_mark_0 rfl (lv_at hl 2 rfl) ?_
  refine zi_bip hx hb dX4_mark_1 (by decide) ?_
  refine k_vv (fr := 2) (lo := 43) (σ' := (tcL σ [21])) (As := [.int (iI (21))]) (rest := []) hx hb hml hown hts hK hRf hRl hW hS (c_X10_leave l D cy B σ 21 (show 0 ≤ σ 5 1 ∧ σ 5 1 ≤ 15 from (by first | assumption | omega | (simp only [tpL_25, tcL_1, List.length_cons, List.length_nil]; omega)))) vX10_leave ⟨w_749, w_750⟩ w_760 (by decide) e_5 rfl ⟨Nat.le_of_ble_eq_true rfl, Nat.le_of_ble_eq_true rfl⟩ hl.1 rfl (Nat.le_of_ble_eq_true rfl) ⟨Nat.zero_le _, Nat.zero_le _⟩ dX4_mark_3 (fun H locs hW hS => ?_)
  refine lv_aload_n hx hb dX4_mark_6 rfl (lv_at hl 0 rfl) ?_
  refine lv_aload_n hx hb dX4_mark_7 rfl (lv_at hl 1 rfl) ?_
  refine lv_aload_n hx hb dX4_mark_8 rfl (lv_at hl 2 rfl) ?_
  obtain ⟨ci9, q9, he9, hc9⟩ := natC (cy := cy) (B := B) (σ := (tcL σ [21])) (z := z_) (by omega)
  refine k_su (fr := 2) (lo := 43) (r := ((h_ : Nat) : Int)) (σ' := (tcL (tcL σ [21]) [20])) (As := [.ref (B + (18 + 2 + h_)), .ref (B + 5)]) (rest := []) hx hb hml hown hts hK hRf hRl hW hS (c_X3_mark l D cy B (tcL σ [21]) z_ h_ (show 1 ≤ z_ ∧ z_ ≤ 5 from (by first | assumption | omega | (simp only [tpL_25, tcL_1, List.length_cons, List.length_nil]; omega))) (show h_ < 4 from (by first | assumption | omega | (simp only [tpL_25, tcL_1, List.length_cons, List.length_nil]; omega))) (show 0 ≤ (tcL σ [21]) 5 1 ∧ (tcL σ [21]) 5 1 ≤ 15 from (by first | assumption | omega | (simp only [tpL_25, tcL_1, List.length_cons, List.length_nil]; omega)))) vX3_mark ⟨w_778, w_139, w_1214⟩ w_777 (by decide) (by omega) he9 hc9 ⟨Nat.le_of_ble_eq_true rfl, Nat.le_of_ble_eq_true rfl⟩ hl.1 rfl (Nat.le_of_ble_eq_true rfl) ⟨Nat.zero_le _, Nat.zero_le _⟩ dX4_mark_9 (fun H locs hW hS => ?_)
  refine lv_aload_n hx hb dX4_mark_12 rfl (lv_at hl 1 rfl) ?_
  refine wz_get hx hb hts hown hK hW (18 + 2 + h_) 3 (lt_H isR_18 (by omega)) (e_H isR_18 (by omega)) rfl (by decide) inG0 w_199 rfl rfl dX4_mark_13 ?_
  refine zi_top (y := σ 18 (16 + h_)) (by (first | rfl | (simp [us, uf, nS] <;> omega))) ?_
  refine zi_add hx hb dX4_mark_16 ?_
  exact hret _ _ _ _ _ _ dX4_mark_17 hW hS ⟨rfl, rfl⟩

set_option maxRecDepth 100000 in
set_option maxHeartbeats 4000000 in
theorem c_X8_mark (l : Launch) (D : va_G) (cy : Nat → ClassId) (B : Nat) (σ : Sg) (z_ : Int) (h_ : Nat) (hz : 2 ≤ z_ ∧ z_ ≤ 2) (hh : h_ < 4) (ht : 0 ≤ σ 5 1 ∧ σ 5 1 ≤ 13) : CI l yX8_mark cX8_mark 3 (some .int) 3 65 D cy B [.ref (B + (12 + z_.toNat)), .ref (B + (18 + 2 + h_)), .ref (B + 5)] σ (2 * (((h_ : Nat) : Int) + σ 18 (16 + h_))) (tcL σ [24, 21, 20]) := by
  refine CI_of (ty := .int) (by decide) (rfl) (Nat.le_of_ble_eq_true rfl) ?_
  intro p e R s m args below meth c Q hx hb hml hown hts hK hRf hRl hW hret ls hl
  have hown : s.vm.findClass "LoveParts$Schooled" = some m.cls := hown
  have hS : va_S (AB B) s.heap s.heap [] := va_S.rf
  have hl : lv_has ls 3 [(0, .ref (B + (12 + z_.toNat))), (1, .ref (B + (18 + 2 + h_))), (2, .ref (B + 5))] := hl
  refine lv_aload_n hx hb dX8_mark_0 rfl (lv_at hl 2 rfl) ?_
  refine zi_bip hx hb dX8_mark_1 (by decide) ?_
  refine k_vv (fr := 3) (lo := 65) (σ' := (tcL σ [24])) (As := [.int (iI (24))]) (rest := []) hx hb hml hown hts hK hRf hRl hW hS (c_X10_leave l D cy B σ 24 (show 0 ≤ σ 5 1 ∧ σ 5 1 ≤ 15 from (by first | assumption | omega | (simp only [tpL_25, tcL_1, List.length_cons, List.length_nil]; omega)))) vX10_leave ⟨w_749, w_750⟩ w_774 (by decide) e_5 rfl ⟨Nat.le_of_ble_eq_true rfl, Nat.le_of_ble_eq_true rfl⟩ hl.1 rfl (Nat.le_of_ble_eq_true rfl) ⟨Nat.zero_le _, Nat.zero_le _⟩ dX8_mark_3 (fun H locs hW hS => ?_)
  refine zi_con hx hb dX8_mark_6 ?_
  refine lv_aload_n hx hb dX8_mark_7 rfl (lv_at hl 0 rfl) ?_
  refine lv_aload_n hx hb dX8_mark_8 rfl (lv_at hl 1 rfl) ?_
  refine lv_aload_n hx hb dX8_mark_9 rfl (lv_at hl 2 rfl) ?_
  obtain ⟨ci10, q10, he10, hc10⟩ := natC (cy := cy) (B := B) (σ := (tcL σ [24])) (z := z_) (by omega)
  refine k_su (fr := 3) (lo := 65) (r := ((h_ : Nat) : Int) + σ 18 (16 + h_)) (σ' := (tcL (tcL σ [24]) [21, 20])) (As := [.ref (B + (18 + 2 + h_)), .ref (B + 5)]) (rest := [.int (iI (2))]) hx hb hml hown hts hK hRf hRl hW hS (c_X4_mark l D cy B (tcL σ [24]) z_ h_ (show 1 ≤ z_ ∧ z_ ≤ 3 from (by first | assumption | omega | (simp only [tpL_25, tcL_1, List.length_cons, List.length_nil]; omega))) (show h_ < 4 from (by first | assumption | omega | (simp only [tpL_25, tcL_1, List.length_cons, List.length_nil]; omega))) (show 0 ≤ (tcL σ [24]) 5 1 ∧ (tcL σ [24]) 5 1 ≤ 14 from (by first | assumption | omega | (simp only [tpL_25, tcL_1, List.length_cons, List.length_nil]; omega)))) vX4_mark ⟨w_763, w_146, w_765⟩ w_775 (by decide) (by omega) he10 hc10 ⟨Nat.le_of_ble_eq_true rfl, Nat.le_of_ble_eq_true rfl⟩ hl.1 rfl (Nat.le_of_ble_eq_true rfl) ⟨Nat.zero_le _, Nat.zero_le _⟩ dX8_mark_10 (fun H locs hW hS => ?_)
  refine zi_mul hx hb dX8_mark_13 ?_
  exact hret _ _ _ _ _ _ dX8_mark_14 hW hS ⟨rfl, rfl⟩

set_option maxRecDepth 100000 in
set_option maxHeartbeats 4000000 in
theorem c_X2_mark (l : Launch) (D : va_G) (cy : Nat → ClassId) (B : Nat) (σ : Sg) (z_ : Int) (h_ : Nat) (hz : 3 ≤ z_ ∧ z_ ≤ 3) (hh : h_ < 4) (ht : 0 ≤ σ 5 1 ∧ σ 5 1 ≤ 13) : CI l yX2_mark cX2_mark 3 (some .int) 3 65 D cy B [.ref (B + (12 + z_.toNat)), .ref (B + (18 + 2 + h_)), .ref (B + 5)] σ (((h_ : Nat) : Int) + σ 18 (16 + h_) - 1000) (tcL σ [22, 21, 20]) := by
  refine CI_of (ty := .int) (by decide) (rfl) (Nat.le_of_ble_eq_true rfl) ?_
  intro p e R s m args below meth c Q hx hb hml hown hts hK hRf hRl hW hret ls hl
  have hown : s.vm.findClass "LoveParts$Joint" = some m.cls := hown
  have hS : va_S (AB B) s.heap s.heap [] := va_S.rf
  have hl : lv_has ls 3 [(0, .ref (B + (12 + z_.toNat))), (1, .ref (B + (18 + 2 + h_))), (2, .ref (B + 5))] := hl
  refine lv_aload_n hx hb dX2_mark_0 rfl (lv_at hl 2 rfl) ?_
  refine zi_bip hx hb dX2_mark_1 (by decide) ?_
  refine k_vv (fr := 3) (lo := 65) (σ' := (tcL σ [22])) (As := [.int (iI (22))]) (rest := []) hx hb hml hown hts hK hRf hRl hW hS (c_X10_leave l D cy B σ 22 (show 0 ≤ σ 5 1 ∧ σ 5 1 ≤ 15 from (by first | assumption | omega | (simp only [tpL_25, tcL_1, List.length_cons, List.length_nil]; omega)))) vX10_leave ⟨w_749, w_750⟩ w_769 (by decide) e_5 rfl ⟨Nat.le_of_ble_eq_true rfl, Nat.le_of_ble_eq_true rfl⟩ hl.1 rfl (Nat.le_of_ble_eq_true rfl) ⟨Nat.zero_le _, Nat.zero_le _⟩ dX2_mark_3 (fun H locs hW hS => ?_)
  refine lv_aload_n hx hb dX2_mark_6 rfl (lv_at hl 0 rfl) ?_
  refine lv_aload_n hx hb dX2_mark_7 rfl (lv_at hl 1 rfl) ?_
  refine lv_aload_n hx hb dX2_mark_8 rfl (lv_at hl 2 rfl) ?_
  obtain ⟨ci9, q9, he9, hc9⟩ := natC (cy := cy) (B := B) (σ := (tcL σ [22])) (z := z_) (by omega)
  refine k_su (fr := 3) (lo := 65) (r := ((h_ : Nat) : Int) + σ 18 (16 + h_)) (σ' := (tcL (tcL σ [22]) [21, 20])) (As := [.ref (B + (18 + 2 + h_)), .ref (B + 5)]) (rest := []) hx hb hml hown hts hK hRf hRl hW hS (c_X4_mark l D cy B (tcL σ [22]) z_ h_ (show 1 ≤ z_ ∧ z_ ≤ 3 from (by first | assumption | omega | (simp only [tpL_25, tcL_1, List.length_cons, List.length_nil]; omega))) (show h_ < 4 from (by first | assumption | omega | (simp only [tpL_25, tcL_1, List.length_cons, List.length_nil]; omega))) (show 0 ≤ (tcL σ [22]) 5 1 ∧ (tcL σ [22]) 5 1 ≤ 14 from (by first | assumption | omega | (simp only [tpL_25, tcL_1, List.length_cons, List.length_nil]; omega)))) vX4_mark ⟨w_763, w_153, w_765⟩ w_770 (by decide) (by omega) he9 hc9 ⟨Nat.le_of_ble_eq_true rfl, Nat.le_of_ble_eq_true rfl⟩ hl.1 rfl (Nat.le_of_ble_eq_true rfl) ⟨Nat.zero_le _, Nat.zero_le _⟩ dX2_mark_9 (fun H locs hW hS => ?_)
  refine zi_sip hx hb dX2_mark_12 (by decide) ?_
  refine zi_sub hx hb dX2_mark_15 ?_
  exact hret _ _ _ _ _ _ dX2_mark_16 hW hS ⟨rfl, rfl⟩

set_option maxRecDepth 100000 in
set_option maxHeartbeats 4000000 in
theorem c_X9_size (l : Launch) (D : va_G) (cy : Nat → ClassId) (B : Nat) (σ : Sg) (z_ : Int) (h_ : Nat) (hz : 4 ≤ z_ ∧ z_ ≤ 5) (hh : h_ < 4) (ht : 0 ≤ σ 5 1 ∧ σ 5 1 ≤ 14) : CI l yX9_size cX9_size 3 (some .int) 2 43 D cy B [.ref (B + (12 + z_.toNat)), .ref (B + (18 + 2 + h_)), .ref (B + 5)] σ (σ 18 (12 + h_) - 100) (tcL σ [13, 10]) := by
  refine CI_of (ty := .int) (by decide) (rfl) (Nat.le_of_ble_eq_true rfl) ?_
  intro p e R s m args below meth c Q hx hb hml hown hts hK hRf hRl hW hret ls hl
  have hown : s.vm.findClass "LoveParts$Silent" = some m.cls := hown
  have hS : va_S (AB B) s.heap s.heap [] := va_S.rf
  have hl : lv_has ls 3 [(0, .ref (B + (12 + z_.toNat))), (1, .ref (B + (18 + 2 + h_))), (2, .ref (B + 5))] := hl
  refine lv_aload_n hx hb dX9_size_0 rfl (lv_at hl 2 rfl) ?_
  refine zi_bip hx hb dX9_size_1 (by decide) ?_
  refine k_vv (fr := 2) (lo := 43) (σ' := (tcL σ [13])) (As := [.int (iI (13))]) (rest := []) hx hb hml hown hts hK hRf hRl hW hS (c_X10_leave l D cy B σ 13 (show 0 ≤ σ 5 1 ∧ σ 5 1 ≤ 15 from (by first | assumption | omega | (simp only [tpL_25, tcL_1, List.length_cons, List.length_nil]; omega)))) vX10_leave ⟨w_749, w_750⟩ w_755 (by decide) e_5 rfl ⟨Nat.le_of_ble_eq_true rfl, Nat.le_of_ble_eq_true rfl⟩ hl.1 rfl (Nat.le_of_ble_eq_true rfl) ⟨Nat.zero_le _, Nat.zero_le _⟩ dX9_size_3 (fun H locs hW hS => ?_)
  refine lv_aload_n hx hb dX9_size_6 rfl (lv_at hl 0 rfl) ?_
  refine lv_aload_n hx hb dX9_size_7 rfl (lv_at hl 1 rfl) ?_
  refine lv_aload_n hx hb dX9_size_8 rfl (lv_at hl 2 rfl) ?_
  obtain ⟨ci9, q9, he9, hc9⟩ := natC (cy := cy) (B := B) (σ := (tcL σ [13])) (z := z_) (by omega)
  refine k_su (fr := 2) (lo := 43) (r := σ 18 (12 + h_)) (σ' := (tcL (tcL σ [13]) [10])) (As := [.ref (B + (18 + 2 + h_)), .ref (B + 5)]) (rest := []) hx hb hml hown hts hK hRf hRl hW hS (c_X3_size l D cy B (tcL σ [13]) z_ h_ (show 1 ≤ z_ ∧ z_ ≤ 5 from (by first | assumption | omega | (simp only [tpL_25, tcL_1, List.length_cons, List.length_nil]; omega))) (show h_ < 4 from (by first | assumption | omega | (simp only [tpL_25, tcL_1, List.length_cons, List.length_nil]; omega))) (show 0 ≤ (tcL σ [13]) 5 1 ∧ (tcL σ [13]) 5 1 ≤ 15 from (by first | assumption | omega | (simp only [tpL_25, tcL_1, List.length_cons, List.length_nil]; omega)))) vX3_size ⟨w_743, w_160, w_744⟩ w_756 (by decide) (by omega) he9 hc9 ⟨Nat.le_of_ble_eq_true rfl, Nat.le_of_ble_eq_true rfl⟩ hl.1 rfl (Nat.le_of_ble_eq_true rfl) ⟨Nat.zero_le _, Nat.zero_le _⟩ dX9_size_9 (fun H locs hW hS => ?_)
  refine zi_bip hx hb dX9_size_12 (by decide) ?_
  refine zi_sub hx hb dX9_size_14 ?_
  exact hret _ _ _ _ _ _ dX9_size_15 hW hS ⟨rfl, rfl⟩

set_option maxRecDepth 100000 in
set_option maxHeartbeats 4000000 in
theorem c_X1_size (l : Launch) (D : va_G) (cy : Nat → ClassId) (B : Nat) (σ : Sg) (z_ : Int) (h_ : Nat) (hz : 5 ≤ z_ ∧ z_ ≤ 5) (hh : h_ < 4) (ht : 0 ≤ σ 5 1 ∧ σ 5 1 ≤ 13) : CI l yX1_size cX1_size 3 (some .int) 3 65 D cy B [.ref (B + (12 + z_.toNat)), .ref (B + (18 + 2 + h_)), .ref (B + 5)] σ (2 * (σ 18 (12 + h_) - 100)) (tcL σ [14, 13, 10]) := by
  refine CI_of (ty := .int) (by decide) (rfl) (Nat.le_of_ble_eq_true rfl) ?_
  intro p e R s m args below meth c Q hx hb hml hown hts hK hRf hRl hW hret ls hl
  have hown : s.vm.findClass "LoveParts$Ironic" = some m.cls := hown
  have hS : va_S (AB B) s.heap s.heap [] := va_S.rf
  have hl : lv_has ls 3 [(0, .ref (B + (12 + z_.toNat))), (1, .ref (B + (18 + 2 + h_))), (2, .ref (B + 5))] := hl
  refine lv_aload_n hx hb dX1_size_0 rfl (lv_at hl 2 rfl) ?_
  refine zi_bip hx hb dX1_size_1 (by decide) ?_
  refine k_vv (fr := 3) (lo := 65) (σ' := (tcL σ [14])) (As := [.int (iI (14))]) (rest := []) hx hb hml hown hts hK hRf hRl hW hS (c_X10_leave l D cy B σ 14 (show 0 ≤ σ 5 1 ∧ σ 5 1 ≤ 15 from (by first | assumption | omega | (simp only [tpL_25, tcL_1, List.length_cons, List.length_nil]; omega)))) vX10_leave ⟨w_749, w_750⟩ w_748 (by decide) e_5 rfl ⟨Nat.le_of_ble_eq_true rfl, Nat.le_of_ble_eq_true rfl⟩ hl.1 rfl (Nat.le_of_ble_eq_true rfl) ⟨Nat.zero_le _, Nat.zero_le _⟩ dX1_size_3 (fun H locs hW hS => ?_)
  refine zi_con hx hb dX1_size_6 ?_
  refine lv_aload_n hx hb dX1_size_7 rfl (lv_at hl 0 rfl) ?_
  refine lv_aload_n hx hb dX1_size_8 rfl (lv_at hl 1 rfl) ?_
  refine lv_aload_n hx hb dX1_size_9 rfl (lv_at hl 2 rfl) ?_
  obtain ⟨ci10, q10, he10, hc10⟩ := natC (cy := cy) (B := B) (σ := (tcL σ [14])) (z := z_) (by omega)
  refine k_su (fr := 3) (lo := 65) (r := σ 18 (12 + h_) - 100) (σ' := (tcL (tcL σ [14]) [13, 10])) (As := [.ref (B + (18 + 2 + h_)), .ref (B + 5)]) (rest := [.int (iI (2))]) hx hb hml hown hts hK hRf hRl hW hS (c_X9_size l D cy B (tcL σ [14]) z_ h_ (show 4 ≤ z_ ∧ z_ ≤ 5 from (by first | assumption | omega | (simp only [tpL_25, tcL_1, List.length_cons, List.length_nil]; omega))) (show h_ < 4 from (by first | assumption | omega | (simp only [tpL_25, tcL_1, List.length_cons, List.length_nil]; omega))) (show 0 ≤ (tcL σ [14]) 5 1 ∧ (tcL σ [14]) 5 1 ≤ 14 from (by first | assumption | omega | (simp only [tpL_25, tcL_1, List.length_cons, List.length_nil]; omega)))) vX9_size ⟨w_753, w_167, w_1213⟩ w_752 (by decide) (by omega) he10 hc10 ⟨Nat.le_of_ble_eq_true rfl, Nat.le_of_ble_eq_true rfl⟩ hl.1 rfl (Nat.le_of_ble_eq_true rfl) ⟨Nat.zero_le _, Nat.zero_le _⟩ dX1_size_10 (fun H locs hW hS => ?_)
  refine zi_mul hx hb dX1_size_13 ?_
  exact hret _ _ _ _ _ _ dX1_size_14 hW hS ⟨rfl, rfl⟩

set_option maxRecDepth 100000 in
set_option maxHeartbeats 4000000 in
theorem k_mk {p : Program} {l : Launch} {e : Env} {R : Room} {s : State} {m : MethodId} {args : Array Value} {below : List Frame} {meth : Method} {c : Code} {H H0 : Heap} {locs : List Loc} {cells slots : Nat} {Q : State → Prop} {cc : ByteArray} {pc nL fr lo : Nat} {ls : Array Slot} {D : va_G} {cy : Nat → ClassId} {B : Nat} {σ : Sg} {rest : List Value} {z : Int} {h : Nat} (hx : p.tables.exec = Jvm.exec) (hb : c.code = cc) (hml : c.maxLocals = nL) (hown : s.vm.findClass "LoveParts$Plain" = some m.cls) (hts : ∀ w ∈ gw, w.before args s = true) (hK : KK D cy s) (hRf : fr ≤ R.frames) (hRl : lo ≤ R.locals) (hW : wd D cy B σ H) (hS : va_S (AB B) H0 H locs) (hz : 1 ≤ z ∧ z ≤ 3) (hh : h < 4) (ht : 0 ≤ σ 5 1 ∧ σ 5 1 ≤ 11) (hfr : 4 ≤ fr ∧ 87 ≤ lo) (hsz : ls.size = nL) (hcat : (rest.map fun v => v.category).sum ≤ 8) (hcs : cells ≤ R.cells ∧ slots ≤ R.slots) (hdg : decode cc pc = .ok (.invokevirtual 23, 3))
    (kk : ∀ (H1 : Heap) (locs1 : List Loc), wd D cy B (tcL σ (mkL z)) H1 → va_S (AB B) H0 H1 locs1 → W p l e R s m args below meth c H1 locs1 cells slots Q (F0 m (pc + 3) ls (.int (iI (mkR z (σ 18 (12 + h)) (σ 18 (16 + h)) ((h : Nat) : Int))) :: rest))) : W p l e R s m args below meth c H locs cells slots Q (F0 m pc ls (.ref (B + 5) :: .ref (B + (18 + 2 + h)) :: .ref (B + (12 + z.toNat)) :: rest)) := by
  have hk : z = 1 ∨ z = 2 ∨ z = 3 := by omega
  rcases hk with rfl | rfl | rfl
  · rw [show mkR (1 : Int) (σ 18 (12 + h)) (σ 18 (16 + h)) ((h : Nat) : Int) = ((h : Nat) : Int) + σ 18 (16 + h) from by simp [mkR, szR, siR] <;> omega, show mkL (1 : Int) = [21, 20] from by decide] at kk
    exact k_vi (As := [.ref (B + (18 + 2 + h)), .ref (B + 5)]) (rest := rest) (b := 13) (ci := 3) (fs := []) hx hb hml hown hts hK hRf hRl hW hS (c_X4_mark l D cy B σ 1 h (by omega) hh (by omega)) vX4_mark ⟨w_763, w_764⟩ w_762 (by decide) rfl rfl ⟨by omega, by omega⟩ hsz rfl hcat hcs hdg kk
  · rw [show mkR (2 : Int) (σ 18 (12 + h)) (σ 18 (16 + h)) ((h : Nat) : Int) = 2 * (((h : Nat) : Int) + σ 18 (16 + h)) from by simp [mkR, szR, siR] <;> omega, show mkL (2 : Int) = [24, 21, 20] from by decide] at kk
    exact k_oi (x := ⟨"LoveParts$Plain", "mark", "(LLoveParts$Heir;LLoveParts$Trace;)I"⟩) (As := [.ref (B + (18 + 2 + h)), .ref (B + 5)]) (rest := rest) (b := 14) (ci := 7) (fs := []) hx hb hml hown hts hK hRf hRl hW hS (c_X8_mark l D cy B σ 2 h (by omega) hh (by omega)) vX8_mark ⟨w_772, w_771, w_763, w_776⟩ w_762 w_765 ⟨by decide, by decide, (by decide +kernel : (parseMethodDescriptor "(LLoveParts$Heir;LLoveParts$Trace;)I").map (fun d => d.parameters.length) = some 2)⟩ (by decide) rfl rfl ⟨by omega, by omega⟩ hsz rfl hcat hcs hdg kk
  · rw [show mkR (3 : Int) (σ 18 (12 + h)) (σ 18 (16 + h)) ((h : Nat) : Int) = ((h : Nat) : Int) + σ 18 (16 + h) - 1000 from by simp [mkR, szR, siR] <;> omega, show mkL (3 : Int) = [22, 21, 20] from by decide] at kk
    exact k_oi (x := ⟨"LoveParts$Plain", "mark", "(LLoveParts$Heir;LLoveParts$Trace;)I"⟩) (As := [.ref (B + (18 + 2 + h)), .ref (B + 5)]) (rest := rest) (b := 15) (ci := 2) (fs := []) hx hb hml hown hts hK hRf hRl hW hS (c_X2_mark l D cy B σ 3 h (by omega) hh (by omega)) vX2_mark ⟨w_767, w_766, w_763, w_776⟩ w_762 w_765 ⟨by decide, by decide, (by decide +kernel : (parseMethodDescriptor "(LLoveParts$Heir;LLoveParts$Trace;)I").map (fun d => d.parameters.length) = some 2)⟩ (by decide) rfl rfl ⟨by omega, by omega⟩ hsz rfl hcat hcs hdg kk

set_option maxRecDepth 100000 in
set_option maxHeartbeats 4000000 in
theorem k_sz {p : Program} {l : Launch} {e : Env} {R : Room} {s : State} {m : MethodId} {args : Array Value} {below : List Frame} {meth : Method} {c : Code} {H H0 : Heap} {locs : List Loc} {cells slots : Nat} {Q : State → Prop} {cc : ByteArray} {pc nL fr lo : Nat} {ls : Array Slot} {D : va_G} {cy : Nat → ClassId} {B : Nat} {σ : Sg} {rest : List Value} {z : Int} {h : Nat} (hx : p.tables.exec = Jvm.exec) (hb : c.code = cc) (hml : c.maxLocals = nL) (hown : s.vm.findClass "LoveParts$Silent" = some m.cls) (hts : ∀ w ∈ gw, w.before args s = true) (hK : KK D cy s) (hRf : fr ≤ R.frames) (hRl : lo ≤ R.locals) (hW : wd D cy B σ H) (hS : va_S (AB B) H0 H locs) (hz : 4 ≤ z ∧ z ≤ 5) (hh : h < 4) (ht : 0 ≤ σ 5 1 ∧ σ 5 1 ≤ 11) (hfr : 4 ≤ fr ∧ 87 ≤ lo) (hsz : ls.size = nL) (hcat : (rest.map fun v => v.category).sum ≤ 8) (hcs : cells ≤ R.cells ∧ slots ≤ R.slots) (hdg : decode cc pc = .ok (.invokevirtual 20, 3))
    (kk : ∀ (H1 : Heap) (locs1 : List Loc), wd D cy B (tcL σ (szL z)) H1 → va_S (AB B) H0 H1 locs1 → W p l e R s m args below meth c H1 locs1 cells slots Q (F0 m (pc + 3) ls (.int (iI (szR z (σ 18 (12 + h)))) :: rest))) : W p l e R s m args below meth c H locs cells slots Q (F0 m pc ls (.ref (B + 5) :: .ref (B + (18 + 2 + h)) :: .ref (B + (12 + z.toNat)) :: rest)) := by
  have hk : z = 4 ∨ z = 5 := by omega
  rcases hk with rfl | rfl
  · rw [show szR (4 : Int) (σ 18 (12 + h)) = σ 18 (12 + h) - 100 from by simp [mkR, szR, siR] <;> omega, show szL (4 : Int) = [13, 10] from by decide] at kk
    exact k_vi (As := [.ref (B + (18 + 2 + h)), .ref (B + 5)]) (rest := rest) (b := 16) (ci := 8) (fs := []) hx hb hml hown hts hK hRf hRl hW hS (c_X9_size l D cy B σ 4 h (by omega) hh (by omega)) vX9_size ⟨w_753, w_1218⟩ w_792 (by decide) rfl rfl ⟨by omega, by omega⟩ hsz rfl hcat hcs hdg kk
  · rw [show szR (5 : Int) (σ 18 (12 + h)) = 2 * (σ 18 (12 + h) - 100) from by simp [mkR, szR, siR] <;> omega, show szL (5 : Int) = [14, 13, 10] from by decide] at kk
    exact k_oi (x := ⟨"LoveParts$Silent", "size", "(LLoveParts$Heir;LLoveParts$Trace;)I"⟩) (As := [.ref (B + (18 + 2 + h)), .ref (B + 5)]) (rest := rest) (b := 17) (ci := 1) (fs := []) hx hb hml hown hts hK hRf hRl hW hS (c_X1_size l D cy B σ 5 h (by omega) hh (by omega)) vX1_size ⟨w_746, w_1217, w_753, w_754⟩ w_792 w_1213 ⟨by decide, by decide, (by decide +kernel : (parseMethodDescriptor "(LLoveParts$Heir;LLoveParts$Trace;)I").map (fun d => d.parameters.length) = some 2)⟩ (by decide) rfl rfl ⟨by omega, by omega⟩ hsz rfl hcat hcs hdg kk

set_option maxRecDepth 100000 in
set_option maxHeartbeats 4000000 in
theorem c_X4_size (l : Launch) (D : va_G) (cy : Nat → ClassId) (B : Nat) (σ : Sg) (z_ : Int) (h_ : Nat) (hz : 1 ≤ z_ ∧ z_ ≤ 3) (hh : h_ < 4) (ht : 0 ≤ σ 5 1 ∧ σ 5 1 ≤ 9) : CI l yX4_size cX4_size 3 (some .int) 4 87 D cy B [.ref (B + (12 + z_.toNat)), .ref (B + (18 + 2 + h_)), .ref (B + 5)] σ (σ 18 (12 + h_) + mkR z_ (σ 18 (12 + h_)) (σ 18 (16 + h_)) ((h_ : Nat) : Int)) (tcL σ ([11, 10] ++ mkL z_)) := by
  refine CI_of (ty := .int) (by decide) (rfl) (Nat.le_of_ble_eq_true rfl) ?_
  intro p e R s m args below meth c Q hx hb hml hown hts hK hRf hRl hW hret ls hl
  have hown : s.vm.findClass "LoveParts$Plain" = some m.cls := hown
  have hS : va_S (AB B) s.heap s.heap [] := va_S.rf
  have hl : lv_has ls 3 [(0, .ref (B + (12 + z_.toNat))), (1, .ref (B + (18 + 2 + h_))), (2, .ref (B + 5))] := hl
  refine lv_aload_n hx hb dX4_size_0 rfl (lv_at hl 2 rfl) ?_
  refine zi_bip hx hb dX4_size_1 (by decide) ?_
  refine k_vv (fr := 4) (lo := 87) (σ' := (tcL σ [11])) (As := [.int (iI (11))]) (rest := []) hx hb hml hown hts hK hRf hRl hW hS (c_X10_leave l D cy B σ 11 (show 0 ≤ σ 5 1 ∧ σ 5 1 ≤ 15 from (by first | assumption | omega | (simp only [tpL_25, tcL_1, List.length_cons, List.length_nil]; omega)))) vX10_leave ⟨w_749, w_750⟩ w_760 (by decide) e_5 rfl ⟨Nat.le_of_ble_eq_true rfl, Nat.le_of_ble_eq_true rfl⟩ hl.1 rfl (Nat.le_of_ble_eq_true rfl) ⟨Nat.zero_le _, Nat.zero_le _⟩ dX4_size_3 (fun H locs hW hS => ?_)
  refine lv_aload_n hx hb dX4_size_6 rfl (lv_at hl 0 rfl) ?_
  refine lv_aload_n hx hb dX4_size_7 rfl (lv_at hl 1 rfl) ?_
  refine lv_aload_n hx hb dX4_size_8 rfl (lv_at hl 2 rfl) ?_
  obtain ⟨ci9, q9, he9, hc9⟩ := natC (cy := cy) (B := B) (σ := (tcL σ [11])) (z := z_) (by omega)
  refine k_su (fr := 4) (lo := 87) (r := σ 18 (12 + h_)) (σ' := (tcL (tcL σ [11]) [10])) (As := [.ref (B + (18 + 2 + h_)), .ref (B + 5)]) (rest := []) hx hb hml hown hts hK hRf hRl hW hS (c_X3_size l D cy B (tcL σ [11]) z_ h_ (show 1 ≤ z_ ∧ z_ ≤ 5 from (by first | assumption | omega | (simp only [tpL_25, tcL_1, List.length_cons, List.length_nil]; omega))) (show h_ < 4 from (by first | assumption | omega | (simp only [tpL_25, tcL_1, List.length_cons, List.length_nil]; omega))) (show 0 ≤ (tcL σ [11]) 5 1 ∧ (tcL σ [11]) 5 1 ≤ 15 from (by first | assumption | omega | (simp only [tpL_25, tcL_1, List.length_cons, List.length_nil]; omega)))) vX3_size ⟨w_743, w_139, w_744⟩ w_761 (by decide) (by omega) he9 hc9 ⟨Nat.le_of_ble_eq_true rfl, Nat.le_of_ble_eq_true rfl⟩ hl.1 rfl (Nat.le_of_ble_eq_true rfl) ⟨Nat.zero_le _, Nat.zero_le _⟩ dX4_size_9 (fun H locs hW hS => ?_)
  refine lv_aload_n hx hb dX4_size_12 rfl (lv_at hl 0 rfl) ?_
  refine lv_aload_n hx hb dX4_size_13 rfl (lv_at hl 1 rfl) ?_
  refine lv_aload_n hx hb dX4_size_14 rfl (lv_at hl 2 rfl) ?_
  refine k_mk (z := z_) (h := h_) (fr := 4) (lo := 87) hx hb hml hown hts hK hRf hRl hW hS (by omega) (by omega) (by first | omega | (simp only [tcL_1, List.length_cons, List.length_nil]; omega)) ⟨Nat.le_of_ble_eq_true rfl, Nat.le_of_ble_eq_true rfl⟩ hl.1 (Nat.le_of_ble_eq_true rfl) ⟨Nat.zero_le _, Nat.zero_le _⟩ dX4_size_15 (fun H locs hW hS => ?_)
  refine zi_add hx hb dX4_size_18 ?_
  exact hret _ _ _ _ _ _ dX4_size_19 hW hS ⟨rfl, rfl⟩

set_option maxRecDepth 100000 in
set_option maxHeartbeats 4000000 in
theorem c_X8_size (l : Launch) (D : va_G) (cy : Nat → ClassId) (B : Nat) (σ : Sg) (z_ : Int) (h_ : Nat) (hz : 2 ≤ z_ ∧ z_ ≤ 2) (hh : h_ < 4) (ht : 0 ≤ σ 5 1 ∧ σ 5 1 ≤ 8) : CI l yX8_size cX8_size 3 (some .int) 5 109 D cy B [.ref (B + (12 + z_.toNat)), .ref (B + (18 + 2 + h_)), .ref (B + 5)] σ (-(σ 18 (12 + h_) + mkR z_ (σ 18 (12 + h_)) (σ 18 (16 + h_)) ((h_ : Nat) : Int))) (tcL σ ([12, 11, 10] ++ mkL z_)) := by
  refine CI_of (ty := .int) (by decide) (rfl) (Nat.le_of_ble_eq_true rfl) ?_
  intro p e R s m args below meth c Q hx hb hml hown hts hK hRf hRl hW hret ls hl
  have hown : s.vm.findClass "LoveParts$Schooled" = some m.cls := hown
  have hS : va_S (AB B) s.heap s.heap [] := va_S.rf
  have hl : lv_has ls 3 [(0, .ref (B + (12 + z_.toNat))), (1, .ref (B + (18 + 2 + h_))), (2, .ref (B + 5))] := hl
  refine lv_aload_n hx hb dX8_size_0 rfl (lv_at hl 2 rfl) ?_
  refine zi_bip hx hb dX8_size_1 (by decide) ?_
  refine k_vv (fr := 5) (lo := 109) (σ' := (tcL σ [12])) (As := [.int (iI (12))]) (rest := []) hx hb hml hown hts hK hRf hRl hW hS (c_X10_leave l D cy B σ 12 (show 0 ≤ σ 5 1 ∧ σ 5 1 ≤ 15 from (by first | assumption | omega | (simp only [tpL_25, tcL_1, List.length_cons, List.length_nil]; omega)))) vX10_leave ⟨w_749, w_750⟩ w_774 (by decide) e_5 rfl ⟨Nat.le_of_ble_eq_true rfl, Nat.le_of_ble_eq_true rfl⟩ hl.1 rfl (Nat.le_of_ble_eq_true rfl) ⟨Nat.zero_le _, Nat.zero_le _⟩ dX8_size_3 (fun H locs hW hS => ?_)
  refine lv_aload_n hx hb dX8_size_6 rfl (lv_at hl 0 rfl) ?_
  refine lv_aload_n hx hb dX8_size_7 rfl (lv_at hl 1 rfl) ?_
  refine lv_aload_n hx hb dX8_size_8 rfl (lv_at hl 2 rfl) ?_
  obtain ⟨ci9, q9, he9, hc9⟩ := natC (cy := cy) (B := B) (σ := (tcL σ [12])) (z := z_) (by omega)
  refine k_su (fr := 5) (lo := 109) (r := σ 18 (12 + h_) + mkR z_ (σ 18 (12 + h_)) (σ 18 (16 + h_)) ((h_ : Nat) : Int)) (σ' := (tcL (tcL σ [12]) ([11, 10] ++ mkL z_))) (As := [.ref (B + (18 + 2 + h_)), .ref (B + 5)]) (rest := []) hx hb hml hown hts hK hRf hRl hW hS (c_X4_size l D cy B (tcL σ [12]) z_ h_ (show 1 ≤ z_ ∧ z_ ≤ 3 from (by first | assumption | omega | (simp only [tpL_25, tcL_1, List.length_cons, List.length_nil]; omega))) (show h_ < 4 from (by first | assumption | omega | (simp only [tpL_25, tcL_1, List.length_cons, List.length_nil]; omega))) (show 0 ≤ (tcL σ [12]) 5 1 ∧ (tcL σ [12]) 5 1 ≤ 9 from (by first | assumption | omega | (simp only [tpL_25, tcL_1, List.length_cons, List.length_nil]; omega)))) vX4_size ⟨w_758, w_146, w_1215⟩ w_785 (by decide) (by omega) he9 hc9 ⟨Nat.le_of_ble_eq_true rfl, Nat.le_of_ble_eq_true rfl⟩ hl.1 rfl (Nat.le_of_ble_eq_true rfl) ⟨Nat.zero_le _, Nat.zero_le _⟩ dX8_size_9 (fun H locs hW hS => ?_)
  refine zi_neg hx hb dX8_size_12 ?_
  exact hret _ _ _ _ _ _ dX8_size_13 hW hS ⟨rfl, rfl⟩

set_option maxRecDepth 100000 in
set_option maxHeartbeats 4000000 in
theorem c_X9_mark (l : Launch) (D : va_G) (cy : Nat → ClassId) (B : Nat) (σ : Sg) (z_ : Int) (h_ : Nat) (hz : 4 ≤ z_ ∧ z_ ≤ 5) (hh : h_ < 4) (ht : 0 ≤ σ 5 1 ∧ σ 5 1 ≤ 9) : CI l yX9_mark cX9_mark 3 (some .int) 4 87 D cy B [.ref (B + (12 + z_.toNat)), .ref (B + (18 + 2 + h_)), .ref (B + 5)] σ (((h_ : Nat) : Int) - szR z_ (σ 18 (12 + h_))) (tcL σ ([23, 20] ++ szL z_)) := by
  refine CI_of (ty := .int) (by decide) (rfl) (Nat.le_of_ble_eq_true rfl) ?_
  intro p e R s m args below meth c Q hx hb hml hown hts hK hRf hRl hW hret ls hl
  have hown : s.vm.findClass "LoveParts$Silent" = some m.cls := hown
  have hS : va_S (AB B) s.heap s.heap [] := va_S.rf
  have hl : lv_has ls 3 [(0, .ref (B + (12 + z_.toNat))), (1, .ref (B + (18 + 2 + h_))), (2, .ref (B + 5))] := hl
  refine lv_aload_n hx hb dX9_mark_0 rfl (lv_at hl 2 rfl) ?_
  refine zi_bip hx hb dX9_mark_1 (by decide) ?_
  refine k_vv (fr := 4) (lo := 87) (σ' := (tcL σ [23])) (As := [.int (iI (23))]) (rest := []) hx hb hml hown hts hK hRf hRl hW hS (c_X10_leave l D cy B σ 23 (show 0 ≤ σ 5 1 ∧ σ 5 1 ≤ 15 from (by first | assumption | omega | (simp only [tpL_25, tcL_1, List.length_cons, List.length_nil]; omega)))) vX10_leave ⟨w_749, w_750⟩ w_755 (by decide) e_5 rfl ⟨Nat.le_of_ble_eq_true rfl, Nat.le_of_ble_eq_true rfl⟩ hl.1 rfl (Nat.le_of_ble_eq_true rfl) ⟨Nat.zero_le _, Nat.zero_le _⟩ dX9_mark_3 (fun H locs hW hS => ?_)
  refine lv_aload_n hx hb dX9_mark_6 rfl (lv_at hl 0 rfl) ?_
  refine lv_aload_n hx hb dX9_mark_7 rfl (lv_at hl 1 rfl) ?_
  refine lv_aload_n hx hb dX9_mark_8 rfl (lv_at hl 2 rfl) ?_
  obtain ⟨ci9, q9, he9, hc9⟩ := natC (cy := cy) (B := B) (σ := (tcL σ [23])) (z := z_) (by omega)
  refine k_su (fr := 4) (lo := 87) (r := ((h_ : Nat) : Int)) (σ' := (tcL (tcL σ [23]) [20])) (As := [.ref (B + (18 + 2 + h_)), .ref (B + 5)]) (rest := []) hx hb hml hown hts hK hRf hRl hW hS (c_X3_mark l D cy B (tcL σ [23]) z_ h_ (show 1 ≤ z_ ∧ z_ ≤ 5 from (by first | assumption | omega | (simp only [tpL_25, tcL_1, List.length_cons, List.length_nil]; omega))) (show h_ < 4 from (by first | assumption | omega | (simp only [tpL_25, tcL_1, List.length_cons, List.length_nil]; omega))) (show 0 ≤ (tcL σ [23]) 5 1 ∧ (tcL σ [23]) 5 1 ≤ 15 from (by first | assumption | omega | (simp only [tpL_25, tcL_1, List.length_cons, List.length_nil]; omega)))) vX3_mark ⟨w_778, w_160, w_1214⟩ w_791 (by decide) (by omega) he9 hc9 ⟨Nat.le_of_ble_eq_true rfl, Nat.le_of_ble_eq_true rfl⟩ hl.1 rfl (Nat.le_of_ble_eq_true rfl) ⟨Nat.zero_le _, Nat.zero_le _⟩ dX9_mark_9 (fun H locs hW hS => ?_)
  refine lv_aload_n hx hb dX9_mark_12 rfl (lv_at hl 0 rfl) ?_
  refine lv_aload_n hx hb dX9_mark_13 rfl (lv_at hl 1 rfl) ?_
  refine lv_aload_n hx hb dX9_mark_14 rfl (lv_at hl 2 rfl) ?_
  refine k_sz (z := z_) (h := h_) (fr := 4) (lo := 87) hx hb hml hown hts hK hRf hRl hW hS (by omega) (by omega) (by first | omega | (simp only [tcL_1, List.length_cons, List.length_nil]; omega)) ⟨Nat.le_of_ble_eq_true rfl, Nat.le_of_ble_eq_true rfl⟩ hl.1 (Nat.le_of_ble_eq_true rfl) ⟨Nat.zero_le _, Nat.zero_le _⟩ dX9_mark_15 (fun H locs hW hS => ?_)
  refine zi_sub hx hb dX9_mark_18 ?_
  exact hret _ _ _ _ _ _ dX9_mark_19 hW hS ⟨rfl, rfl⟩

set_option maxRecDepth 100000 in
set_option maxHeartbeats 4000000 in
theorem k_as {p : Program} {l : Launch} {e : Env} {R : Room} {s : State} {m : MethodId} {args : Array Value} {below : List Frame} {meth : Method} {c : Code} {H H0 : Heap} {locs : List Loc} {cells slots : Nat} {Q : State → Prop} {cc : ByteArray} {pc nL fr lo : Nat} {ls : Array Slot} {D : va_G} {cy : Nat → ClassId} {B : Nat} {σ : Sg} {rest : List Value} {z : Int} {h : Nat} (hx : p.tables.exec = Jvm.exec) (hb : c.code = cc) (hml : c.maxLocals = nL) (hown : s.vm.findClass "LoveParts" = some m.cls) (hts : ∀ w ∈ gw, w.before args s = true) (hK : KK D cy s) (hRf : fr ≤ R.frames) (hRl : lo ≤ R.locals) (hW : wd D cy B σ H) (hS : va_S (AB B) H0 H locs) (hz : 1 ≤ z ∧ z ≤ 5) (hh : h < 4) (ht : 0 ≤ σ 5 1 ∧ σ 5 1 ≤ 8) (hfr : 6 ≤ fr ∧ 131 ≤ lo) (hsz : ls.size = nL) (hcat : (rest.map fun v => v.category).sum ≤ 8) (hcs : cells ≤ R.cells ∧ slots ≤ R.slots) (hdg : decode cc pc = .ok (.invokevirtual 320, 3))
    (kk : ∀ (H1 : Heap) (locs1 : List Loc), wd D cy B (tcL σ (siL z)) H1 → va_S (AB B) H0 H1 locs1 → W p l e R s m args below meth c H1 locs1 cells slots Q (F0 m (pc + 3) ls (.int (iI (siR z (σ 18 (12 + h)) (σ 18 (16 + h)) ((h : Nat) : Int))) :: rest))) : W p l e R s m args below meth c H locs cells slots Q (F0 m pc ls (.ref (B + 5) :: .ref (B + (18 + 2 + h)) :: .ref (B + (12 + z.toNat)) :: rest)) := by
  have hk : z = 1 ∨ z = 2 ∨ z = 3 ∨ z = 4 ∨ z = 5 := by omega
  rcases hk with rfl | rfl | rfl | rfl | rfl
  · rw [show siR (1 : Int) (σ 18 (12 + h)) (σ 18 (16 + h)) ((h : Nat) : Int) = σ 18 (12 + h) + mkR 1 (σ 18 (12 + h)) (σ 18 (16 + h)) ((h : Nat) : Int) from by simp [mkR, szR, siR] <;> omega, show siL (1 : Int) = [11, 10] ++ mkL 1 from by decide] at kk
    exact k_oi (x := ⟨"LoveParts$Nature", "size", "(LLoveParts$Heir;LLoveParts$Trace;)I"⟩) (As := [.ref (B + (18 + 2 + h)), .ref (B + 5)]) (rest := rest) (b := 13) (ci := 3) (fs := []) hx hb hml hown hts hK hRf hRl hW hS (c_X4_size l D cy B σ 1 h (by omega) hh (by omega)) vX4_size ⟨w_758, w_781, w_743, w_787⟩ w_742 w_744 ⟨by decide, by decide, (by decide +kernel : (parseMethodDescriptor "(LLoveParts$Heir;LLoveParts$Trace;)I").map (fun d => d.parameters.length) = some 2)⟩ (by decide) rfl rfl ⟨by omega, by omega⟩ hsz rfl hcat hcs hdg kk
  · rw [show siR (2 : Int) (σ 18 (12 + h)) (σ 18 (16 + h)) ((h : Nat) : Int) = -(σ 18 (12 + h) + mkR 2 (σ 18 (12 + h)) (σ 18 (16 + h)) ((h : Nat) : Int)) from by simp [mkR, szR, siR] <;> omega, show siL (2 : Int) = [12, 11, 10] ++ mkL 2 from by decide] at kk
    exact k_oi (x := ⟨"LoveParts$Nature", "size", "(LLoveParts$Heir;LLoveParts$Trace;)I"⟩) (As := [.ref (B + (18 + 2 + h)), .ref (B + 5)]) (rest := rest) (b := 14) (ci := 7) (fs := []) hx hb hml hown hts hK hRf hRl hW hS (c_X8_size l D cy B σ 2 h (by omega) hh (by omega)) vX8_size ⟨w_783, w_782, w_743, w_787⟩ w_742 w_744 ⟨by decide, by decide, (by decide +kernel : (parseMethodDescriptor "(LLoveParts$Heir;LLoveParts$Trace;)I").map (fun d => d.parameters.length) = some 2)⟩ (by decide) rfl rfl ⟨by omega, by omega⟩ hsz rfl hcat hcs hdg kk
  · rw [show siR (3 : Int) (σ 18 (12 + h)) (σ 18 (16 + h)) ((h : Nat) : Int) = σ 18 (12 + h) + mkR 3 (σ 18 (12 + h)) (σ 18 (16 + h)) ((h : Nat) : Int) from by simp [mkR, szR, siR] <;> omega, show siL (3 : Int) = [11, 10] ++ mkL 3 from by decide] at kk
    exact k_oi (x := ⟨"LoveParts$Nature", "size", "(LLoveParts$Heir;LLoveParts$Trace;)I"⟩) (As := [.ref (B + (18 + 2 + h)), .ref (B + 5)]) (rest := rest) (b := 15) (ci := 2) (fs := []) hx hb hml hown hts hK hRf hRl hW hS (c_X4_size l D cy B σ 3 h (by omega) hh (by omega)) vX4_size ⟨w_758, w_757, w_743, w_787⟩ w_742 w_744 ⟨by decide, by decide, (by decide +kernel : (parseMethodDescriptor "(LLoveParts$Heir;LLoveParts$Trace;)I").map (fun d => d.parameters.length) = some 2)⟩ (by decide) rfl rfl ⟨by omega, by omega⟩ hsz rfl hcat hcs hdg kk
  · rw [show siR (4 : Int) (σ 18 (12 + h)) (σ 18 (16 + h)) ((h : Nat) : Int) = σ 18 (12 + h) - 100 from by simp [mkR, szR, siR] <;> omega, show siL (4 : Int) = [13, 10] from by decide] at kk
    exact k_oi (x := ⟨"LoveParts$Nature", "size", "(LLoveParts$Heir;LLoveParts$Trace;)I"⟩) (As := [.ref (B + (18 + 2 + h)), .ref (B + 5)]) (rest := rest) (b := 16) (ci := 8) (fs := []) hx hb hml hown hts hK hRf hRl hW hS (c_X9_size l D cy B σ 4 h (by omega) hh (by omega)) vX9_size ⟨w_753, w_786, w_743, w_787⟩ w_742 w_744 ⟨by decide, by decide, (by decide +kernel : (parseMethodDescriptor "(LLoveParts$Heir;LLoveParts$Trace;)I").map (fun d => d.parameters.length) = some 2)⟩ (by decide) rfl rfl ⟨by omega, by omega⟩ hsz rfl hcat hcs hdg kk
  · rw [show siR (5 : Int) (σ 18 (12 + h)) (σ 18 (16 + h)) ((h : Nat) : Int) = 2 * (σ 18 (12 + h) - 100) from by simp [mkR, szR, siR] <;> omega, show siL (5 : Int) = [14, 13, 10] from by decide] at kk
    exact k_oi (x := ⟨"LoveParts$Nature", "size", "(LLoveParts$Heir;LLoveParts$Trace;)I"⟩) (As := [.ref (B + (18 + 2 + h)), .ref (B + 5)]) (rest := rest) (b := 17) (ci := 1) (fs := []) hx hb hml hown hts hK hRf hRl hW hS (c_X1_size l D cy B σ 5 h (by omega) hh (by omega)) vX1_size ⟨w_746, w_745, w_743, w_787⟩ w_742 w_744 ⟨by decide, by decide, (by decide +kernel : (parseMethodDescriptor "(LLoveParts$Heir;LLoveParts$Trace;)I").map (fun d => d.parameters.length) = some 2)⟩ (by decide) rfl rfl ⟨by omega, by omega⟩ hsz rfl hcat hcs hdg kk

set_option maxRecDepth 100000 in
set_option maxHeartbeats 4000000 in
theorem k_am {p : Program} {l : Launch} {e : Env} {R : Room} {s : State} {m : MethodId} {args : Array Value} {below : List Frame} {meth : Method} {c : Code} {H H0 : Heap} {locs : List Loc} {cells slots : Nat} {Q : State → Prop} {cc : ByteArray} {pc nL fr lo : Nat} {ls : Array Slot} {D : va_G} {cy : Nat → ClassId} {B : Nat} {σ : Sg} {rest : List Value} {z : Int} {h : Nat} (hx : p.tables.exec = Jvm.exec) (hb : c.code = cc) (hml : c.maxLocals = nL) (hown : s.vm.findClass "LoveParts" = some m.cls) (hts : ∀ w ∈ gw, w.before args s = true) (hK : KK D cy s) (hRf : fr ≤ R.frames) (hRl : lo ≤ R.locals) (hW : wd D cy B σ H) (hS : va_S (AB B) H0 H locs) (hz : 1 ≤ z ∧ z ≤ 5) (hh : h < 4) (ht : 0 ≤ σ 5 1 ∧ σ 5 1 ≤ 8) (hfr : 5 ≤ fr ∧ 109 ≤ lo) (hsz : ls.size = nL) (hcat : (rest.map fun v => v.category).sum ≤ 8) (hcs : cells ≤ R.cells ∧ slots ≤ R.slots) (hdg : decode cc pc = .ok (.invokevirtual 323, 3))
    (kk : ∀ (H1 : Heap) (locs1 : List Loc), wd D cy B (tcL σ (mkL z)) H1 → va_S (AB B) H0 H1 locs1 → W p l e R s m args below meth c H1 locs1 cells slots Q (F0 m (pc + 3) ls (.int (iI (mkR z (σ 18 (12 + h)) (σ 18 (16 + h)) ((h : Nat) : Int))) :: rest))) : W p l e R s m args below meth c H locs cells slots Q (F0 m pc ls (.ref (B + 5) :: .ref (B + (18 + 2 + h)) :: .ref (B + (12 + z.toNat)) :: rest)) := by
  have hk : z = 1 ∨ z = 2 ∨ z = 3 ∨ z = 4 ∨ z = 5 := by omega
  rcases hk with rfl | rfl | rfl | rfl | rfl
  · rw [show mkR (1 : Int) (σ 18 (12 + h)) (σ 18 (16 + h)) ((h : Nat) : Int) = ((h : Nat) : Int) + σ 18 (16 + h) from by simp [mkR, szR, siR] <;> omega, show mkL (1 : Int) = [21, 20] from by decide] at kk
    exact k_oi (x := ⟨"LoveParts$Nature", "mark", "(LLoveParts$Heir;LLoveParts$Trace;)I"⟩) (As := [.ref (B + (18 + 2 + h)), .ref (B + 5)]) (rest := rest) (b := 13) (ci := 3) (fs := []) hx hb hml hown hts hK hRf hRl hW hS (c_X4_mark l D cy B σ 1 h (by omega) hh (by omega)) vX4_mark ⟨w_763, w_1220, w_778, w_779⟩ w_788 w_1214 ⟨by decide, by decide, (by decide +kernel : (parseMethodDescriptor "(LLoveParts$Heir;LLoveParts$Trace;)I").map (fun d => d.parameters.length) = some 2)⟩ (by decide) rfl rfl ⟨by omega, by omega⟩ hsz rfl hcat hcs hdg kk
  · rw [show mkR (2 : Int) (σ 18 (12 + h)) (σ 18 (16 + h)) ((h : Nat) : Int) = 2 * (((h : Nat) : Int) + σ 18 (16 + h)) from by simp [mkR, szR, siR] <;> omega, show mkL (2 : Int) = [24, 21, 20] from by decide] at kk
    exact k_oi (x := ⟨"LoveParts$Nature", "mark", "(LLoveParts$Heir;LLoveParts$Trace;)I"⟩) (As := [.ref (B + (18 + 2 + h)), .ref (B + 5)]) (rest := rest) (b := 14) (ci := 7) (fs := []) hx hb hml hown hts hK hRf hRl hW hS (c_X8_mark l D cy B σ 2 h (by omega) hh (by omega)) vX8_mark ⟨w_772, w_1221, w_778, w_779⟩ w_788 w_1214 ⟨by decide, by decide, (by decide +kernel : (parseMethodDescriptor "(LLoveParts$Heir;LLoveParts$Trace;)I").map (fun d => d.parameters.length) = some 2)⟩ (by decide) rfl rfl ⟨by omega, by omega⟩ hsz rfl hcat hcs hdg kk
  · rw [show mkR (3 : Int) (σ 18 (12 + h)) (σ 18 (16 + h)) ((h : Nat) : Int) = ((h : Nat) : Int) + σ 18 (16 + h) - 1000 from by simp [mkR, szR, siR] <;> omega, show mkL (3 : Int) = [22, 21, 20] from by decide] at kk
    exact k_oi (x := ⟨"LoveParts$Nature", "mark", "(LLoveParts$Heir;LLoveParts$Trace;)I"⟩) (As := [.ref (B + (18 + 2 + h)), .ref (B + 5)]) (rest := rest) (b := 15) (ci := 2) (fs := []) hx hb hml hown hts hK hRf hRl hW hS (c_X2_mark l D cy B σ 3 h (by omega) hh (by omega)) vX2_mark ⟨w_767, w_1219, w_778, w_779⟩ w_788 w_1214 ⟨by decide, by decide, (by decide +kernel : (parseMethodDescriptor "(LLoveParts$Heir;LLoveParts$Trace;)I").map (fun d => d.parameters.length) = some 2)⟩ (by decide) rfl rfl ⟨by omega, by omega⟩ hsz rfl hcat hcs hdg kk
  · rw [show mkR (4 : Int) (σ 18 (12 + h)) (σ 18 (16 + h)) ((h : Nat) : Int) = ((h : Nat) : Int) - szR 4 (σ 18 (12 + h)) from by simp [mkR, szR, siR] <;> omega, show mkL (4 : Int) = [23, 20] ++ szL 4 from by decide] at kk
    exact k_oi (x := ⟨"LoveParts$Nature", "mark", "(LLoveParts$Heir;LLoveParts$Trace;)I"⟩) (As := [.ref (B + (18 + 2 + h)), .ref (B + 5)]) (rest := rest) (b := 16) (ci := 8) (fs := []) hx hb hml hown hts hK hRf hRl hW hS (c_X9_mark l D cy B σ 4 h (by omega) hh (by omega)) vX9_mark ⟨w_789, w_1222, w_778, w_779⟩ w_788 w_1214 ⟨by decide, by decide, (by decide +kernel : (parseMethodDescriptor "(LLoveParts$Heir;LLoveParts$Trace;)I").map (fun d => d.parameters.length) = some 2)⟩ (by decide) rfl rfl ⟨by omega, by omega⟩ hsz rfl hcat hcs hdg kk
  · rw [show mkR (5 : Int) (σ 18 (12 + h)) (σ 18 (16 + h)) ((h : Nat) : Int) = ((h : Nat) : Int) - szR 5 (σ 18 (12 + h)) from by simp [mkR, szR, siR] <;> omega, show mkL (5 : Int) = [23, 20] ++ szL 5 from by decide] at kk
    exact k_oi (x := ⟨"LoveParts$Nature", "mark", "(LLoveParts$Heir;LLoveParts$Trace;)I"⟩) (As := [.ref (B + (18 + 2 + h)), .ref (B + 5)]) (rest := rest) (b := 17) (ci := 1) (fs := []) hx hb hml hown hts hK hRf hRl hW hS (c_X9_mark l D cy B σ 5 h (by omega) hh (by omega)) vX9_mark ⟨w_789, w_1216, w_778, w_779⟩ w_788 w_1214 ⟨by decide, by decide, (by decide +kernel : (parseMethodDescriptor "(LLoveParts$Heir;LLoveParts$Trace;)I").map (fun d => d.parameters.length) = some 2)⟩ (by decide) rfl rfl ⟨by omega, by omega⟩ hsz rfl hcat hcs hdg kk

set_option maxRecDepth 100000 in
set_option maxHeartbeats 4000000 in
theorem c_X11_kind (l : Launch) (D : va_G) (cy : Nat → ClassId) (B : Nat) (σ : Sg) (h_ : Int) (r_h_ : -2147483648 ≤ h_ ∧ h_ < 2147483648) (hok : σ 18 4 = 0 ∨ okV (σ 18)) : CI l yX11_kind cX11_kind 2 (some .int) 2 43 D cy B [.ref (B + 0), .int (iI (h_))] σ (if ¬ (0 ≤ h_ ∧ h_ ≤ σ 18 4 - 1) then -1000001 else σ 18 (8 + h_.toNat)) (σ) := by
  refine CI_of (ty := .int) (by decide) (rfl) (Nat.le_of_ble_eq_true rfl) ?_
  intro p e R s m args below meth c Q hx hb hml hown hts hK hRf hRl hW hret ls hl
  have hown : s.vm.findClass "LoveParts" = some m.cls := hown
  have hS : va_S (AB B) s.heap s.heap [] := va_S.rf
  have hl : lv_has ls 2 [(0, .ref (B + 0)), (1, .int (iI (h_)))] := hl
  have f4 : 0 ≤ σ 18 4 ∧ σ 18 4 ≤ 4 := by rcases hok with h | h; (· omega); (· exact ⟨by have := h.1; omega, h.1.2⟩)
  refine lv_aload_n hx hb dX11_kind_0 rfl (lv_at hl 0 rfl) ?_
  refine lv_iload_n hx hb dX11_kind_1 rfl (lv_at hl 1 rfl) ?_
  refine k_vi (fr := 2) (lo := 43) (r := (if 0 ≤ h_ ∧ h_ ≤ σ 18 4 - 1 then 1 else 0)) (As := [.int (iI (h_))]) (rest := []) hx hb hml hown hts hK hRf hRl hW hS (c_X11_isHeir l D cy B σ h_ (show -2147483648 ≤ h_ ∧ h_ < 2147483648 from (by first | assumption | omega | (simp only [tpL_25, tcL_1, List.length_cons, List.length_nil]; omega))) (show 0 ≤ σ 18 4 ∧ σ 18 4 ≤ 4 from (by first | assumption | omega | (simp only [tpL_25, tcL_1, List.length_cons, List.length_nil]; omega)))) vX11_isHeir ⟨w_486, w_3⟩ w_484 (by decide) e_0 rfl ⟨Nat.le_of_ble_eq_true rfl, Nat.le_of_ble_eq_true rfl⟩ hl.1 rfl (Nat.le_of_ble_eq_true rfl) ⟨Nat.zero_le _, Nat.zero_le _⟩ dX11_kind_2 (fun H locs hW hS => ?_)
  refine zi_beq (tgt := 26) hx hb dX11_kind_5 (by decide) (fun c5 => ?_) (fun c5 => ?_)
  · refine k_ldc hx hb hown hts (v := -1000001) (by decide) w_361 dX11_kind_26 ?_
    exact hret _ _ _ _ _ _ dX11_kind_28 hW hS ⟨by (try simp only [Int.toNat_natCast]); (repeat' split) <;> first | rfl | omega, rfl⟩
  · obtain ⟨n_, rfl⟩ : ∃ h : Nat, h_ = (h : Int) := ⟨h_.toNat, by omega⟩
    have hok := hok.resolve_left (by omega)
    obtain ⟨o4, o0, o1, o2, o3, o5, o6, o7, oH⟩ := id hok
    obtain ⟨k8, k12, k16, k20, k24, k28, k32, k36, k40, k44⟩ := oH n_ (by omega)
    refine lv_aload_n hx hb dX11_kind_8 rfl (lv_at hl 0 rfl) ?_
    refine wz_get hx hb hts hown hK hW 0 4 (by decide) e_0 rfl (by decide) inG11 w_309 rfl rfl dX11_kind_9 ?_
    refine wz_get hx hb hts hown hK hW 18 0 (lt_R isR_18) (e_R isR_18) rfl (by decide) inG6 w_246 rfl rfl dX11_kind_12 ?_
    refine lv_iload_n hx hb dX11_kind_15 rfl (lv_at hl 1 rfl) ?_
    refine wz_ara hx hb hK hW (18 + 1) n_ 2 (lt_Ra isR_18) (e_Ra isR_18) rfl (by omega) (by omega) (by decide) rfl dX11_kind_16 ?_
    refine wz_get hx hb hts hown hK hW (18 + 2 + n_) 1 (lt_H isR_18 (by omega)) (e_H isR_18 (by omega)) rfl (by decide) inG0 w_186 rfl rfl dX11_kind_17 ?_
    refine k_num (z := σ 18 (8 + n_)) (fr := 2) (lo := 43) hx hb hml hown hts hK hRf hRl hW hS (by omega) ⟨Nat.le_of_ble_eq_true rfl, Nat.le_of_ble_eq_true rfl⟩ hl.1 ⟨Nat.zero_le _, Nat.zero_le _⟩ dX11_kind_20 (fun H locs hW hS => ?_)
    refine lv_goto (tgt := 28) hx hb dX11_kind_23 (by decide) ?_
    exact hret _ _ _ _ _ _ dX11_kind_28 hW hS ⟨by (try simp only [Int.toNat_natCast]); (repeat' split) <;> first | rfl | omega, rfl⟩

set_option maxRecDepth 100000 in
set_option maxHeartbeats 4000000 in
theorem c_X11_isOfKind (l : Launch) (D : va_G) (cy : Nat → ClassId) (B : Nat) (σ : Sg) (z_ : Int) (k_ : Int) (hz : 1 ≤ z_ ∧ z_ ≤ 5) (hk : 0 ≤ k_ ∧ k_ ≤ 5) : CI l yX11_isOfKind cX11_isOfKind 2 (some .boolean) 0 0 D cy B [.ref (B + (12 + z_.toNat)), .int (iI (k_))] σ ((if k_ = 0 ∨ z_ = k_ ∨ (k_ = 1 ∧ z_ < 4) ∨ (k_ = 4 ∧ z_ = 5) then 1 else 0)) (σ) := by
  refine CI_of (ty := .boolean) (by decide) (nb_ite) (Nat.le_of_ble_eq_true rfl) ?_
  intro p e R s m args below meth c Q hx hb hml hown hts hK hRf hRl hW hret ls hl
  have hown : s.vm.findClass "LoveParts" = some m.cls := hown
  have hS : va_S (AB B) s.heap s.heap [] := va_S.rf
  have hl : lv_has ls 2 [(0, .ref (B + (12 + z_.toNat))), (1, .int (iI (k_)))] := hl
  refine lv_iload_n hx hb dX11_isOfKind_0 rfl (lv_at hl 1 rfl) ?_
  by_cases hsw1 : k_ < 0 ∨ 5 < k_
  · refine lv_tableOut (tgt := 67) hx hb dX11_isOfKind_1 (by rw [iI_toInt (by omega)]; exact hsw1) (by decide) ?_
    refine zi_con hx hb dX11_isOfKind_67 ?_
    exact hret _ _ _ _ _ _ dX11_isOfKind_68 hW hS ⟨by (repeat' split) <;> first | rfl | omega, rfl⟩
  · have hsx1 : k_ = 0 ∨ k_ = 1 ∨ k_ = 2 ∨ k_ = 3 ∨ k_ = 4 ∨ k_ = 5 := by omega
    rcases hsx1 with hs1 | hs1 | hs1 | hs1 | hs1 | hs1
    · refine lv_tableIn (off := 39) (tgt := 40) hx hb dX11_isOfKind_1 (by rw [iI_toInt (by omega)]; omega) (by rw [iI_toInt (by omega)]; omega) (by rw [iI_toInt (by omega), hs1]; rfl) (by decide) ?_
      refine zi_con hx hb dX11_isOfKind_40 ?_
      exact hret _ _ _ _ _ _ dX11_isOfKind_41 hW hS ⟨by (repeat' split) <;> first | rfl | omega, rfl⟩
    · refine lv_tableIn (off := 41) (tgt := 42) hx hb dX11_isOfKind_1 (by rw [iI_toInt (by omega)]; omega) (by rw [iI_toInt (by omega)]; omega) (by rw [iI_toInt (by omega), hs1]; rfl) (by decide) ?_
      refine lv_aload_n hx hb dX11_isOfKind_42 rfl (lv_at hl 0 rfl) ?_
      refine ki_1 (z := z_) hx hb hown hts hK hW (by omega) dX11_isOfKind_43 ?_
      exact hret _ _ _ _ _ _ dX11_isOfKind_46 hW hS ⟨by (repeat' split) <;> first | rfl | omega, rfl⟩
    · refine lv_tableIn (off := 46) (tgt := 47) hx hb dX11_isOfKind_1 (by rw [iI_toInt (by omega)]; omega) (by rw [iI_toInt (by omega)]; omega) (by rw [iI_toInt (by omega), hs1]; rfl) (by decide) ?_
      refine lv_aload_n hx hb dX11_isOfKind_47 rfl (lv_at hl 0 rfl) ?_
      refine ki_2 (z := z_) hx hb hown hts hK hW (by omega) dX11_isOfKind_48 ?_
      exact hret _ _ _ _ _ _ dX11_isOfKind_51 hW hS ⟨by (repeat' split) <;> first | rfl | omega, rfl⟩
    · refine lv_tableIn (off := 51) (tgt := 52) hx hb dX11_isOfKind_1 (by rw [iI_toInt (by omega)]; omega) (by rw [iI_toInt (by omega)]; omega) (by rw [iI_toInt (by omega), hs1]; rfl) (by decide) ?_
      refine lv_aload_n hx hb dX11_isOfKind_52 rfl (lv_at hl 0 rfl) ?_
      refine ki_3 (z := z_) hx hb hown hts hK hW (by omega) dX11_isOfKind_53 ?_
      exact hret _ _ _ _ _ _ dX11_isOfKind_56 hW hS ⟨by (repeat' split) <;> first | rfl | omega, rfl⟩
    · refine lv_tableIn (off := 56) (tgt := 57) hx hb dX11_isOfKind_1 (by rw [iI_toInt (by omega)]; omega) (by rw [iI_toInt (by omega)]; omega) (by rw [iI_toInt (by omega), hs1]; rfl) (by decide) ?_
      refine lv_aload_n hx hb dX11_isOfKind_57 rfl (lv_at hl 0 rfl) ?_
      refine ki_4 (z := z_) hx hb hown hts hK hW (by omega) dX11_isOfKind_58 ?_
      exact hret _ _ _ _ _ _ dX11_isOfKind_61 hW hS ⟨by (repeat' split) <;> first | rfl | omega, rfl⟩
    · refine lv_tableIn (off := 61) (tgt := 62) hx hb dX11_isOfKind_1 (by rw [iI_toInt (by omega)]; omega) (by rw [iI_toInt (by omega)]; omega) (by rw [iI_toInt (by omega), hs1]; rfl) (by decide) ?_
      refine lv_aload_n hx hb dX11_isOfKind_62 rfl (lv_at hl 0 rfl) ?_
      refine ki_5 (z := z_) hx hb hown hts hK hW (by omega) dX11_isOfKind_63 ?_
      exact hret _ _ _ _ _ _ dX11_isOfKind_66 hW hS ⟨by (repeat' split) <;> first | rfl | omega, rfl⟩

set_option maxRecDepth 100000 in
set_option maxHeartbeats 4000000 in
theorem c_X11_as (l : Launch) (D : va_G) (cy : Nat → ClassId) (B : Nat) (σ : Sg) (h_ : Int) (b_ : Int) (r_h_ : -2147483648 ≤ h_ ∧ h_ < 2147483648) (r_b_ : -2147483648 ≤ b_ ∧ b_ < 2147483648) (hok : σ 18 4 = 0 ∨ okV (σ 18)) : CI l yX11_as cX11_as 3 (some .int) 2 43 D cy B [.ref (B + 0), .int (iI (h_)), .int (iI (b_))] σ (if ¬ (0 ≤ h_ ∧ h_ ≤ σ 18 4 - 1) ∨ ¬ (0 ≤ b_ ∧ b_ ≤ 5) then -1000001 else if b_ = 0 ∨ σ 18 (8 + h_.toNat) = b_ ∨ (b_ = 1 ∧ σ 18 (8 + h_.toNat) < 4) ∨ (b_ = 4 ∧ σ 18 (8 + h_.toNat) = 5) then h_ else -1000013) (if ¬ (0 ≤ h_ ∧ h_ ≤ σ 18 4 - 1) ∨ ¬ (0 ≤ b_ ∧ b_ ≤ 5) then σ else if b_ = 0 ∨ σ 18 (8 + h_.toNat) = b_ ∨ (b_ = 1 ∧ σ 18 (8 + h_.toNat) < 4) ∨ (b_ = 4 ∧ σ 18 (8 + h_.toNat) = 5) then up σ 0 15 0 else up σ 0 15 3) := by
  refine CI_of (ty := .int) (by decide) (rfl) (Nat.le_of_ble_eq_true rfl) ?_
  intro p e R s m args below meth c Q hx hb hml hown hts hK hRf hRl hW hret ls hl
  have hown : s.vm.findClass "LoveParts" = some m.cls := hown
  have hS : va_S (AB B) s.heap s.heap [] := va_S.rf
  have hl : lv_has ls 3 [(0, .ref (B + 0)), (1, .int (iI (h_))), (2, .int (iI (b_)))] := hl
  have f4 : 0 ≤ σ 18 4 ∧ σ 18 4 ≤ 4 := by rcases hok with h | h; (· omega); (· exact ⟨by have := h.1; omega, h.1.2⟩)
  refine lv_aload_n hx hb dX11_as_0 rfl (lv_at hl 0 rfl) ?_
  refine lv_iload_n hx hb dX11_as_1 rfl (lv_at hl 1 rfl) ?_
  refine k_vi (fr := 2) (lo := 43) (r := (if 0 ≤ h_ ∧ h_ ≤ σ 18 4 - 1 then 1 else 0)) (As := [.int (iI (h_))]) (rest := []) hx hb hml hown hts hK hRf hRl hW hS (c_X11_isHeir l D cy B σ h_ (show -2147483648 ≤ h_ ∧ h_ < 2147483648 from (by first | assumption | omega | (simp only [tpL_25, tcL_1, List.length_cons, List.length_nil]; omega))) (show 0 ≤ σ 18 4 ∧ σ 18 4 ≤ 4 from (by first | assumption | omega | (simp only [tpL_25, tcL_1, List.length_cons, List.length_nil]; omega)))) vX11_isHeir ⟨w_486, w_3⟩ w_484 (by decide) e_0 rfl ⟨Nat.le_of_ble_eq_true rfl, Nat.le_of_ble_eq_true rfl⟩ hl.1 rfl (Nat.le_of_ble_eq_true rfl) ⟨Nat.zero_le _, Nat.zero_le _⟩ dX11_as_2 (fun H locs hW hS => ?_)
  refine zi_beq (tgt := 17) hx hb dX11_as_5 (by decide) (fun c5 => ?_) (fun c5 => ?_)
  · refine k_ldc hx hb hown hts (v := -1000001) (by decide) w_361 dX11_as_17 ?_
    exact hret _ _ _ _ _ _ dX11_as_19 hW hS ⟨by (try simp only [Int.toNat_natCast]); (repeat' split) <;> first | rfl | omega, by (try simp only [Int.toNat_natCast]); (repeat' split) <;> first | rfl | omega⟩
  · obtain ⟨n_, rfl⟩ : ∃ h : Nat, h_ = (h : Int) := ⟨h_.toNat, by omega⟩
    have hok := hok.resolve_left (by omega)
    obtain ⟨o4, o0, o1, o2, o3, o5, o6, o7, oH⟩ := id hok
    obtain ⟨k8, k12, k16, k20, k24, k28, k32, k36, k40, k44⟩ := oH n_ (by omega)
    refine lv_iload_n hx hb dX11_as_8 rfl (lv_at hl 2 rfl) ?_
    refine zi_con hx hb dX11_as_9 ?_
    refine zi_con hx hb dX11_as_10 ?_
    refine k_si (fr := 2) (lo := 43) (r := (if 0 ≤ b_ ∧ b_ ≤ 5 then 1 else 0)) (As := [.int (iI (b_)), .int (iI (0)), .int (iI (5))]) (rest := []) hx hb hml hown hts hK hRf hRl hW hS (c_X11_within l D cy B σ b_ 0 5 (show -2147483648 ≤ b_ ∧ b_ < 2147483648 from (by first | assumption | omega | (simp only [tpL_25, tcL_1, List.length_cons, List.length_nil]; omega))) (show -2147483648 ≤ 0 ∧ 0 < 2147483648 from (by first | assumption | omega | (simp only [tpL_25, tcL_1, List.length_cons, List.length_nil]; omega))) (show -2147483648 ≤ 5 ∧ 5 < 2147483648 from (by first | assumption | omega | (simp only [tpL_25, tcL_1, List.length_cons, List.length_nil]; omega)))) vX11_within w_359 w_358 ⟨Nat.le_of_ble_eq_true rfl, Nat.le_of_ble_eq_true rfl⟩ hl.1 rfl (Nat.le_of_ble_eq_true rfl) ⟨Nat.zero_le _, Nat.zero_le _⟩ dX11_as_11 (fun H locs hW hS => ?_)
    refine zi_bne (tgt := 20) hx hb dX11_as_14 (by decide) (fun c14 => ?_) (fun c14 => ?_)
    · refine lv_aload_n hx hb dX11_as_20 rfl (lv_at hl 0 rfl) ?_
      refine wz_get hx hb hts hown hK hW 0 4 (by decide) e_0 rfl (by decide) inG11 w_309 rfl rfl dX11_as_21 ?_
      refine wz_get hx hb hts hown hK hW 18 0 (lt_R isR_18) (e_R isR_18) rfl (by decide) inG6 w_246 rfl rfl dX11_as_24 ?_
      refine lv_iload_n hx hb dX11_as_27 rfl (lv_at hl 1 rfl) ?_
      refine wz_ara hx hb hK hW (18 + 1) n_ 2 (lt_Ra isR_18) (e_Ra isR_18) rfl (by omega) (by omega) (by decide) rfl dX11_as_28 ?_
      refine wz_get hx hb hts hown hK hW (18 + 2 + n_) 1 (lt_H isR_18 (by omega)) (e_H isR_18 (by omega)) rfl (by decide) inG0 w_186 rfl rfl dX11_as_29 ?_
      refine lv_iload_n hx hb dX11_as_32 rfl (lv_at hl 2 rfl) ?_
      refine k_si (fr := 2) (lo := 43) (r := (if b_ = 0 ∨ (σ 18 (8 + n_)) = b_ ∨ (b_ = 1 ∧ (σ 18 (8 + n_)) < 4) ∨ (b_ = 4 ∧ (σ 18 (8 + n_)) = 5) then 1 else 0)) (As := [.ref (B + (12 + (σ 18 (8 + n_)).toNat)), .int (iI (b_))]) (rest := []) hx hb hml hown hts hK hRf hRl hW hS (c_X11_isOfKind l D cy B σ (σ 18 (8 + n_)) b_ (show 1 ≤ (σ 18 (8 + n_)) ∧ (σ 18 (8 + n_)) ≤ 5 from (by first | assumption | omega | (simp only [tpL_25, tcL_1, List.length_cons, List.length_nil]; omega))) (show 0 ≤ b_ ∧ b_ ≤ 5 from (by first | assumption | omega | (simp only [tpL_25, tcL_1, List.length_cons, List.length_nil]; omega)))) vX11_isOfKind w_736 w_735 ⟨Nat.le_of_ble_eq_true rfl, Nat.le_of_ble_eq_true rfl⟩ hl.1 rfl (Nat.le_of_ble_eq_true rfl) ⟨Nat.zero_le _, Nat.zero_le _⟩ dX11_as_33 (fun H locs hW hS => ?_)
      refine zi_beq (tgt := 47) hx hb dX11_as_36 (by decide) (fun c36 => ?_) (fun c36 => ?_)
      · refine lv_aload_n hx hb dX11_as_47 rfl (lv_at hl 0 rfl) ?_
        refine zi_con hx hb dX11_as_48 ?_
        refine k_vi (fr := 2) (lo := 43) (r := -1000010 - 3) (σ' := (up σ 0 15 3)) (As := [.int (iI (3))]) (rest := []) hx hb hml hown hts hK hRf hRl hW hS (c_X11_found l D cy B σ 3 ) vX11_found ⟨w_364, w_0⟩ w_362 (by decide) e_0 rfl ⟨Nat.le_of_ble_eq_true rfl, Nat.le_of_ble_eq_true rfl⟩ hl.1 rfl (Nat.le_of_ble_eq_true rfl) ⟨Nat.zero_le _, Nat.zero_le _⟩ dX11_as_49 (fun H locs hW hS => ?_)
        exact hret _ _ _ _ _ _ dX11_as_52 hW hS ⟨by (try simp only [Int.toNat_natCast]); (repeat' split) <;> first | rfl | omega, by (try simp only [Int.toNat_natCast]); (repeat' split) <;> first | rfl | omega⟩
      · refine lv_aload_n hx hb dX11_as_39 rfl (lv_at hl 0 rfl) ?_
        refine lv_iload_n hx hb dX11_as_40 rfl (lv_at hl 1 rfl) ?_
        refine k_vi (fr := 2) (lo := 43) (r := ((n_ : Nat) : Int)) (σ' := (up σ 0 15 0)) (As := [.int (iI (((n_ : Nat) : Int)))]) (rest := []) hx hb hml hown hts hK hRf hRl hW hS (c_X11_foundNothing l D cy B σ ((n_ : Nat) : Int) ) vX11_foundNothing ⟨w_373, w_1⟩ w_371 (by decide) e_0 rfl ⟨Nat.le_of_ble_eq_true rfl, Nat.le_of_ble_eq_true rfl⟩ hl.1 rfl (Nat.le_of_ble_eq_true rfl) ⟨Nat.zero_le _, Nat.zero_le _⟩ dX11_as_41 (fun H locs hW hS => ?_)
        refine lv_goto (tgt := 52) hx hb dX11_as_44 (by decide) ?_
        exact hret _ _ _ _ _ _ dX11_as_52 hW hS ⟨by (try simp only [Int.toNat_natCast]); (repeat' split) <;> first | rfl | omega, by (try simp only [Int.toNat_natCast]); (repeat' split) <;> first | rfl | omega⟩
    · refine k_ldc hx hb hown hts (v := -1000001) (by decide) w_361 dX11_as_17 ?_
      exact hret _ _ _ _ _ _ dX11_as_19 hW hS ⟨by (try simp only [Int.toNat_natCast]); (repeat' split) <;> first | rfl | omega, by (try simp only [Int.toNat_natCast]); (repeat' split) <;> first | rfl | omega⟩

set_option maxRecDepth 100000 in
set_option maxHeartbeats 4000000 in
theorem c_X11_ask (l : Launch) (D : va_G) (cy : Nat → ClassId) (B : Nat) (σ : Sg) (h_ : Int) (z_ : Int) (r_h_ : -2147483648 ≤ h_ ∧ h_ < 2147483648) (r_z_ : -2147483648 ≤ z_ ∧ z_ < 2147483648) (hok : σ 18 4 = 0 ∨ okV (σ 18)) : CI l yX11_ask cX11_ask 4 (some .int) 6 131 D cy B [.ref (B + 0), .int (iI (h_)), .int (iI (z_))] σ (if ¬ (0 ≤ h_ ∧ h_ ≤ σ 18 4 - 1) ∨ ¬ (0 ≤ z_ ∧ z_ ≤ 1) then -1000001 else if z_ = 0 then siR (σ 18 (8 + h_.toNat)) (σ 18 (12 + h_.toNat)) (σ 18 (16 + h_.toNat)) h_ else mkR (σ 18 (8 + h_.toNat)) (σ 18 (12 + h_.toNat)) (σ 18 (16 + h_.toNat)) h_) (if ¬ (0 ≤ h_ ∧ h_ ≤ σ 18 4 - 1) ∨ ¬ (0 ≤ z_ ∧ z_ ≤ 1) then σ else if z_ = 0 then tcL (up σ 5 1 0) (siL (σ 18 (8 + h_.toNat))) else tcL (up σ 5 1 0) (mkL (σ 18 (8 + h_.toNat)))) := by
  refine CI_of (ty := .int) (by decide) (rfl) (Nat.le_of_ble_eq_true rfl) ?_
  intro p e R s m args below meth c Q hx hb hml hown hts hK hRf hRl hW hret ls hl
  have hown : s.vm.findClass "LoveParts" = some m.cls := hown
  have hS : va_S (AB B) s.heap s.heap [] := va_S.rf
  have hl : lv_has ls 4 [(0, .ref (B + 0)), (1, .int (iI (h_))), (2, .int (iI (z_)))] := hl
  have f4 : 0 ≤ σ 18 4 ∧ σ 18 4 ≤ 4 := by rcases hok with h | h; (· omega); (· exact ⟨by have := h.1; omega, h.1.2⟩)
  refine lv_aload_n hx hb dX11_ask_0 rfl (lv_at hl 0 rfl) ?_
  refine lv_iload_n hx hb dX11_ask_1 rfl (lv_at hl 1 rfl) ?_
  refine k_vi (fr := 6) (lo := 131) (r := (if 0 ≤ h_ ∧ h_ ≤ σ 18 4 - 1 then 1 else 0)) (As := [.int (iI (h_))]) (rest := []) hx hb hml hown hts hK hRf hRl hW hS (c_X11_isHeir l D cy B σ h_ (show -2147483648 ≤ h_ ∧ h_ < 2147483648 from (by first | assumption | omega | (simp only [tpL_25, tcL_1, List.length_cons, List.length_nil]; omega))) (show 0 ≤ σ 18 4 ∧ σ 18 4 ≤ 4 from (by first | assumption | omega | (simp only [tpL_25, tcL_1, List.length_cons, List.length_nil]; omega)))) vX11_isHeir ⟨w_486, w_3⟩ w_484 (by decide) e_0 rfl ⟨Nat.le_of_ble_eq_true rfl, Nat.le_of_ble_eq_true rfl⟩ hl.1 rfl (Nat.le_of_ble_eq_true rfl) ⟨Nat.zero_le _, Nat.zero_le _⟩ dX11_ask_2 (fun H locs hW hS => ?_)
  refine zi_beq (tgt := 17) hx hb dX11_ask_5 (by decide) (fun c5 => ?_) (fun c5 => ?_)
  · refine k_ldc hx hb hown hts (v := -1000001) (by decide) w_361 dX11_ask_17 ?_
    exact hret _ _ _ _ _ _ dX11_ask_19 hW hS ⟨by (try simp only [Int.toNat_natCast]); (repeat' split) <;> first | rfl | omega, by (try simp only [Int.toNat_natCast]); (repeat' split) <;> first | rfl | omega⟩
  · obtain ⟨n_, rfl⟩ : ∃ h : Nat, h_ = (h : Int) := ⟨h_.toNat, by omega⟩
    have hok := hok.resolve_left (by omega)
    obtain ⟨o4, o0, o1, o2, o3, o5, o6, o7, oH⟩ := id hok
    obtain ⟨k8, k12, k16, k20, k24, k28, k32, k36, k40, k44⟩ := oH n_ (by omega)
    refine lv_iload_n hx hb dX11_ask_8 rfl (lv_at hl 2 rfl) ?_
    refine zi_con hx hb dX11_ask_9 ?_
    refine zi_con hx hb dX11_ask_10 ?_
    refine k_si (fr := 6) (lo := 131) (r := (if 0 ≤ z_ ∧ z_ ≤ 1 then 1 else 0)) (As := [.int (iI (z_)), .int (iI (0)), .int (iI (1))]) (rest := []) hx hb hml hown hts hK hRf hRl hW hS (c_X11_within l D cy B σ z_ 0 1 (show -2147483648 ≤ z_ ∧ z_ < 2147483648 from (by first | assumption | omega | (simp only [tpL_25, tcL_1, List.length_cons, List.length_nil]; omega))) (show -2147483648 ≤ 0 ∧ 0 < 2147483648 from (by first | assumption | omega | (simp only [tpL_25, tcL_1, List.length_cons, List.length_nil]; omega))) (show -2147483648 ≤ 1 ∧ 1 < 2147483648 from (by first | assumption | omega | (simp only [tpL_25, tcL_1, List.length_cons, List.length_nil]; omega)))) vX11_within w_359 w_358 ⟨Nat.le_of_ble_eq_true rfl, Nat.le_of_ble_eq_true rfl⟩ hl.1 rfl (Nat.le_of_ble_eq_true rfl) ⟨Nat.zero_le _, Nat.zero_le _⟩ dX11_ask_11 (fun H locs hW hS => ?_)
    refine zi_bne (tgt := 20) hx hb dX11_ask_14 (by decide) (fun c14 => ?_) (fun c14 => ?_)
    · refine lv_aload_n hx hb dX11_ask_20 rfl (lv_at hl 0 rfl) ?_
      refine wz_get hx hb hts hown hK hW 0 4 (by decide) e_0 rfl (by decide) inG11 w_309 rfl rfl dX11_ask_21 ?_
      refine wz_get hx hb hts hown hK hW 18 0 (lt_R isR_18) (e_R isR_18) rfl (by decide) inG6 w_246 rfl rfl dX11_ask_24 ?_
      refine lv_iload_n hx hb dX11_ask_27 rfl (lv_at hl 1 rfl) ?_
      refine wz_ara hx hb hK hW (18 + 1) n_ 2 (lt_Ra isR_18) (e_Ra isR_18) rfl (by omega) (by omega) (by decide) rfl dX11_ask_28 ?_
      refine lv_astore_n (lv' := [(3, .ref (B + (18 + 2 + n_))), (0, .ref (B + 0)), (1, .int (iI (((n_ : Nat) : Int)))), (2, .int (iI (z_)))]) hx hb dX11_ask_29 rfl hl (by decide) rfl (fun ls hl => ?_)
      refine lv_aload_n hx hb dX11_ask_30 rfl (lv_at hl 1 rfl) ?_
      refine wz_get hx hb hts hown hK hW 0 3 (by decide) e_0 rfl (by decide) inG11 w_308 rfl rfl dX11_ask_31 ?_
      refine zi_con hx hb dX11_ask_34 ?_
      refine wz_put (σ' := (up σ 5 1 0)) (ty := .int) hx hb hts hown hK hW hS 5 1 tyX10 (by decide) e_5 rfl (by decide) inG10 tyX10_ok nmX10 w_122 ⟨rfl, rfl, Nat.le_of_ble_eq_true rfl⟩ (by decide +kernel) ⟨rfl, rfl⟩ p_5_1 dX11_ask_35 (fun H locs hW hS => ?_)
      refine lv_iload_n hx hb dX11_ask_38 rfl (lv_at hl 3 rfl) ?_
      refine zi_ne (tgt := 57) hx hb dX11_ask_39 (by decide) (by omega) (fun c39 => ?_) (fun c39 => ?_)
      · refine lv_aload_n hx hb dX11_ask_57 rfl (lv_at hl 0 rfl) ?_
        refine wz_get hx hb hts hown hK hW (18 + 2 + n_) 1 (lt_H isR_18 (by omega)) (e_H isR_18 (by omega)) rfl (by decide) inG0 w_186 rfl rfl dX11_ask_58 ?_
        refine lv_aload_n hx hb dX11_ask_61 rfl (lv_at hl 0 rfl) ?_
        refine lv_aload_n hx hb dX11_ask_62 rfl (lv_at hl 1 rfl) ?_
        refine wz_get hx hb hts hown hK hW 0 3 (by decide) e_0 rfl (by decide) inG11 w_308 rfl rfl dX11_ask_63 ?_
        refine k_am (z := σ 18 (8 + n_)) (h := n_) (fr := 6) (lo := 131) hx hb hml hown hts hK hRf hRl hW hS (by omega) (by omega) (by show (0 : Int) ≤ 0 ∧ (0 : Int) ≤ 8; omega) ⟨Nat.le_of_ble_eq_true rfl, Nat.le_of_ble_eq_true rfl⟩ hl.1 (Nat.le_of_ble_eq_true rfl) ⟨Nat.zero_le _, Nat.zero_le _⟩ dX11_ask_66 (fun H locs hW hS => ?_)
        exact hret _ _ _ _ _ _ dX11_ask_69 hW hS ⟨by (try simp only [Int.toNat_natCast]); (repeat' split) <;> first | rfl | omega, by (try simp only [Int.toNat_natCast]); (repeat' split) <;> first | rfl | omega⟩
      · refine lv_aload_n hx hb dX11_ask_42 rfl (lv_at hl 0 rfl) ?_
        refine wz_get hx hb hts hown hK hW (18 + 2 + n_) 1 (lt_H isR_18 (by omega)) (e_H isR_18 (by omega)) rfl (by decide) inG0 w_186 rfl rfl dX11_ask_43 ?_
        refine lv_aload_n hx hb dX11_ask_46 rfl (lv_at hl 0 rfl) ?_
        refine lv_aload_n hx hb dX11_ask_47 rfl (lv_at hl 1 rfl) ?_
        refine wz_get hx hb hts hown hK hW 0 3 (by decide) e_0 rfl (by decide) inG11 w_308 rfl rfl dX11_ask_48 ?_
        refine k_as (z := σ 18 (8 + n_)) (h := n_) (fr := 6) (lo := 131) hx hb hml hown hts hK hRf hRl hW hS (by omega) (by omega) (by show (0 : Int) ≤ 0 ∧ (0 : Int) ≤ 8; omega) ⟨Nat.le_of_ble_eq_true rfl, Nat.le_of_ble_eq_true rfl⟩ hl.1 (Nat.le_of_ble_eq_true rfl) ⟨Nat.zero_le _, Nat.zero_le _⟩ dX11_ask_51 (fun H locs hW hS => ?_)
        refine lv_goto (tgt := 69) hx hb dX11_ask_54 (by decide) ?_
        exact hret _ _ _ _ _ _ dX11_ask_69 hW hS ⟨by (try simp only [Int.toNat_natCast]); (repeat' split) <;> first | rfl | omega, by (try simp only [Int.toNat_natCast]); (repeat' split) <;> first | rfl | omega⟩
    · refine k_ldc hx hb hown hts (v := -1000001) (by decide) w_361 dX11_ask_17 ?_
      exact hret _ _ _ _ _ _ dX11_ask_19 hW hS ⟨by (try simp only [Int.toNat_natCast]); (repeat' split) <;> first | rfl | omega, by (try simp only [Int.toNat_natCast]); (repeat' split) <;> first | rfl | omega⟩
