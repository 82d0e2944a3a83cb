
set_option maxRecDepth 100000 in
set_option maxHeartbeats 4000000 in
theorem c_X12_begin (l : Launch) (D : va_G) (cy : Nat → ClassId) (B : Nat) (σ : Sg) (b_ : Int) (ht : 0 ≤ σ 202 25 ∧ σ 202 25 ≤ 15) : CV l yX12_begin cX12_begin 2 0 0 D cy B [.ref (B + 202), .int (iI (b_))] σ (tpL σ [b_]) := by
  refine CV_of (by decide) (Nat.le_of_ble_eq_true rfl) ?_
  intro p e R s m args below meth c Q hx hb hml hown hts hK hRf hRl hW hret ls hl
  have hown : s.vm.findClass "LovePartsModel" = some m.cls := hown
  have hS : va_S (AB B) s.heap s.heap [] := va_S.rf
  have hl : lv_has ls 2 [(0, .ref (B + 202)), (1, .int (iI (b_)))] := hl
  refine lv_aload_n hx hb dX12_begin_0 rfl (lv_at hl 0 rfl) ?_
  refine wz_get hx hb hts hown hK hW 202 25 (by decide) e_202 rfl (by decide) inG12 w_840 rfl rfl dX12_begin_1 ?_
  refine zi_bip hx hb dX12_begin_4 (by decide) ?_
  refine zi_cge (tgt := 29) hx hb dX12_begin_6 (by decide) (by omega) (by omega) (fun c6 => ?_) (fun c6 => ?_)
  · exact hret _ _ _ _ _ dX12_begin_29 hW hS (by first | rfl | omega)
  · refine lv_aload_n hx hb dX12_begin_9 rfl (lv_at hl 0 rfl) ?_
    refine wz_get hx hb hts hown hK hW 202 24 (by decide) e_202 rfl (by decide) inG12 w_839 rfl rfl dX12_begin_10 ?_
    refine lv_aload_n hx hb dX12_begin_13 rfl (lv_at hl 0 rfl) ?_
    refine wz_get hx hb hts hown hK hW 202 25 (by decide) e_202 rfl (by decide) inG12 w_840 rfl rfl dX12_begin_14 ?_
    refine lv_iload_n hx hb dX12_begin_17 rfl (lv_at hl 1 rfl) ?_
    refine wz_ast (σ' := (up σ 216 ((σ 202 25).toNat) b_)) hx hb hK hW hS 216 ((σ 202 25).toNat) (by decide) e_216 (by omega) (by omega) (by decide) p_216 dX12_begin_18 (fun H locs hW hS => ?_)
    refine lv_aload_n hx hb dX12_begin_19 rfl (lv_at hl 0 rfl) ?_
    refine lv_dup hx hb dX12_begin_20 rfl ?_
    refine wz_get hx hb hts hown hK hW 202 25 (by decide) e_202 rfl (by decide) inG12 w_840 rfl rfl dX12_begin_21 ?_
    refine zi_top (y := σ 202 25) (by (first | rfl | (simp [us, uf, nS] <;> omega))) ?_
    refine zi_con hx hb dX12_begin_24 ?_
    refine zi_add hx hb dX12_begin_25 ?_
    refine wz_put (σ' := (up (up σ 216 ((σ 202 25).toNat) b_) 202 25 ((σ 202 25) + 1))) (ty := .int) hx hb hts hown hK hW hS 202 25 tyX12 (by decide) e_202 rfl (by decide) inG12 tyX12_ok nmX12 w_840 ⟨rfl, rfl, Nat.le_of_ble_eq_true rfl⟩ (by decide +kernel) ⟨rfl, rfl⟩ p_202_25 dX12_begin_26 (fun H locs hW hS => ?_)
    exact hret _ _ _ _ _ dX12_begin_29 hW hS (by first | rfl | omega)

set_option maxRecDepth 100000 in
set_option maxHeartbeats 4000000 in
theorem c_X12_lent (l : Launch) (D : va_G) (cy : Nat → ClassId) (B : Nat) (σ : Sg) (h_ : Nat) (b_ : Int) (hok : okV (σ 206)) (hh : (h_ : Int) < σ 206 4) (ht : 0 ≤ σ 202 25 ∧ σ 202 25 ≤ 15) (hbb : 0 ≤ b_ ∧ b_ ≤ 100) : CI l yX12_lent cX12_lent 3 (some .int) 1 21 D cy B [.ref (B + 202), .int (iI (((h_ : Nat) : Int))), .int (iI (b_))] σ (if b_ = 10 then σ 206 (12 + h_) else (h_ : Int)) (tpL σ [b_]) := by
  refine CI_of (ty := .int) (by decide) (rfl) (Nat.le_of_ble_eq_true rfl) ?_
  intro p e R s m args below meth c Q hx hb hml hown hts hK hRf hRl hW hret ls hl
  have hown : s.vm.findClass "LovePartsModel" = some m.cls := hown
  have hS : va_S (AB B) s.heap s.heap [] := va_S.rf
  have hl : lv_has ls 3 [(0, .ref (B + 202)), (1, .int (iI (((h_ : Nat) : Int)))), (2, .int (iI (b_)))] := hl
  obtain ⟨o4, o0, o1, o2, o3, o5, o6, o7, oH⟩ := id hok
  obtain ⟨k8, k12, k16, k20, k24, k28, k32, k36, k40, k44⟩ := oH h_ hh
  refine lv_aload_n hx hb dX12_lent_0 rfl (lv_at hl 0 rfl) ?_
  refine lv_iload_n hx hb dX12_lent_1 rfl (lv_at hl 2 rfl) ?_
  refine k_vv (fr := 1) (lo := 21) (σ' := (tpL σ [b_])) (As := [.int (iI (b_))]) (rest := []) hx hb hml hown hts hK hRf hRl hW hS (c_X12_begin l D cy B σ b_ (show 0 ≤ σ 202 25 ∧ σ 202 25 ≤ 15 from (by first | assumption | omega | (simp only [tpL_25, List.length_cons, List.length_nil]; omega)))) vX12_begin ⟨w_1175, w_45⟩ w_1173 (by decide) e_202 rfl ⟨Nat.le_of_ble_eq_true rfl, Nat.le_of_ble_eq_true rfl⟩ hl.1 rfl (Nat.le_of_ble_eq_true rfl) ⟨Nat.zero_le _, Nat.zero_le _⟩ dX12_lent_2 (fun H locs hW hS => ?_)
  refine lv_iload_n hx hb dX12_lent_5 rfl (lv_at hl 2 rfl) ?_
  refine zi_bip hx hb dX12_lent_6 (by decide) ?_
  refine zi_cne (tgt := 23) hx hb dX12_lent_8 (by decide) (by omega) (by omega) (fun c8 => ?_) (fun c8 => ?_)
  · refine lv_iload_n hx hb dX12_lent_23 rfl (lv_at hl 1 rfl) ?_
    exact hret _ _ _ _ _ _ dX12_lent_24 hW hS ⟨by split <;> first | rfl | omega, rfl⟩
  · refine lv_aload_n hx hb dX12_lent_11 rfl (lv_at hl 0 rfl) ?_
    refine wz_get hx hb hts hown hK hW 202 5 (by decide) e_202 rfl (by decide) inG12 w_820 rfl rfl dX12_lent_12 ?_
    refine zi_bip hx hb dX12_lent_15 (by decide) ?_
    refine lv_iload_n hx hb dX12_lent_17 rfl (lv_at hl 1 rfl) ?_
    refine zi_add hx hb dX12_lent_18 ?_
    refine wz_ald hx hb hK hW 206 (12 + h_) (by decide) e_206 (by omega) (by omega) (by decide) dX12_lent_19 ?_
    refine zi_top (y := σ 206 (12 + h_)) (by (first | rfl | (simp [us, uf, nS] <;> omega))) ?_
    refine lv_goto (tgt := 24) hx hb dX12_lent_20 (by decide) ?_
    exact hret _ _ _ _ _ _ dX12_lent_24 hW hS ⟨by split <;> first | rfl | omega, rfl⟩

set_option maxRecDepth 100000 in
set_option maxHeartbeats 4000000 in
theorem c_X12_plainMark (l : Launch) (D : va_G) (cy : Nat → ClassId) (B : Nat) (σ : Sg) (h_ : Nat) (hok : okV (σ 206)) (hh : (h_ : Int) < σ 206 4) (ht : 0 ≤ σ 202 25 ∧ σ 202 25 ≤ 14) : CI l yX12_plainMark cX12_plainMark 2 (some .int) 2 43 D cy B [.ref (B + 202), .int (iI (((h_ : Nat) : Int)))] σ ((h_ : Int) + σ 206 (16 + h_)) (tpL σ [21, 20]) := by
  refine CI_of (ty := .int) (by decide) (rfl) (Nat.le_of_ble_eq_true rfl) ?_
  intro p e R s m args below meth c Q hx hb hml hown hts hK hRf hRl hW hret ls hl
  have hown : s.vm.findClass "LovePartsModel" = some m.cls := hown
  have hS : va_S (AB B) s.heap s.heap [] := va_S.rf
  have hl : lv_has ls 2 [(0, .ref (B + 202)), (1, .int (iI (((h_ : Nat) : Int))))] := hl
  obtain ⟨o4, o0, o1, o2, o3, o5, o6, o7, oH⟩ := id hok
  obtain ⟨k8, k12, k16, k20, k24, k28, k32, k36, k40, k44⟩ := oH h_ hh
  refine lv_aload_n hx hb dX12_plainMark_0 rfl (lv_at hl 0 rfl) ?_
  refine zi_bip hx hb dX12_plainMark_1 (by decide) ?_
  refine k_vv (fr := 2) (lo := 43) (σ' := (tpL σ [21])) (As := [.int (iI (21))]) (rest := []) hx hb hml hown hts hK hRf hRl hW hS (c_X12_begin l D cy B σ 21 (show 0 ≤ σ 202 25 ∧ σ 202 25 ≤ 15 from (by first | assumption | omega | (simp only [tpL_25, List.length_cons, List.length_nil]; omega)))) vX12_begin ⟨w_1175, w_45⟩ w_1173 (by decide) e_202 rfl ⟨Nat.le_of_ble_eq_true rfl, Nat.le_of_ble_eq_true rfl⟩ hl.1 rfl (Nat.le_of_ble_eq_true rfl) ⟨Nat.zero_le _, Nat.zero_le _⟩ dX12_plainMark_3 (fun H locs hW hS => ?_)
  refine lv_aload_n hx hb dX12_plainMark_6 rfl (lv_at hl 0 rfl) ?_
  refine lv_iload_n hx hb dX12_plainMark_7 rfl (lv_at hl 1 rfl) ?_
  refine zi_bip hx hb dX12_plainMark_8 (by decide) ?_
  refine k_vi (fr := 2) (lo := 43) (r := if 20 = 10 then σ 206 (12 + h_) else (h_ : Int)) (σ' := (tpL (tpL σ [21]) [20])) (As := [.int (iI (((h_ : Nat) : Int))), .int (iI (20))]) (rest := []) hx hb hml hown hts hK hRf hRl hW hS (c_X12_lent l D cy B (tpL σ [21]) h_ 20 (show okV (σ 206) from (by first | assumption | omega | (simp only [tpL_25, List.length_cons, List.length_nil]; omega))) (show (h_ : Int) < σ 206 4 from (by first | assumption | omega | (simp only [tpL_25, List.length_cons, List.length_nil]; omega))) (show 0 ≤ (tpL σ [21]) 202 25 ∧ (tpL σ [21]) 202 25 ≤ 15 from (by first | assumption | omega | (simp only [tpL_25, List.length_cons, List.length_nil]; omega))) (show 0 ≤ 20 ∧ 20 ≤ 100 from (by first | assumption | omega | (simp only [tpL_25, List.length_cons, List.length_nil]; omega)))) vX12_lent ⟨w_1183, w_47⟩ w_1181 (by decide) e_202 rfl ⟨Nat.le_of_ble_eq_true rfl, Nat.le_of_ble_eq_true rfl⟩ hl.1 rfl (Nat.le_of_ble_eq_true rfl) ⟨Nat.zero_le _, Nat.zero_le _⟩ dX12_plainMark_10 (fun H locs hW hS => ?_)
  refine lv_aload_n hx hb dX12_plainMark_13 rfl (lv_at hl 0 rfl) ?_
  refine wz_get hx hb hts hown hK hW 202 5 (by decide) e_202 rfl (by decide) inG12 w_820 rfl rfl dX12_plainMark_14 ?_
  refine zi_bip hx hb dX12_plainMark_17 (by decide) ?_
  refine lv_iload_n hx hb dX12_plainMark_19 rfl (lv_at hl 1 rfl) ?_
  refine zi_add hx hb dX12_plainMark_20 ?_
  refine wz_ald hx hb hK hW 206 (16 + h_) (by decide) e_206 (by omega) (by omega) (by decide) dX12_plainMark_21 ?_
  refine zi_top (y := σ 206 (16 + h_)) (by (first | rfl | (simp [us, uf, nS] <;> omega))) ?_
  refine zi_add hx hb dX12_plainMark_22 ?_
  exact hret _ _ _ _ _ _ dX12_plainMark_23 hW hS ⟨by rw [if_neg (by omega)], rfl⟩

set_option maxRecDepth 100000 in
set_option maxHeartbeats 4000000 in
theorem c_X12_silentSize (l : Launch) (D : va_G) (cy : Nat → ClassId) (B : Nat) (σ : Sg) (h_ : Nat) (hok : okV (σ 206)) (hh : (h_ : Int) < σ 206 4) (ht : 0 ≤ σ 202 25 ∧ σ 202 25 ≤ 14) : CI l yX12_silentSize cX12_silentSize 2 (some .int) 2 43 D cy B [.ref (B + 202), .int (iI (((h_ : Nat) : Int)))] σ (σ 206 (12 + h_) - 100) (tpL σ [13, 10]) := by
  refine CI_of (ty := .int) (by decide) (rfl) (Nat.le_of_ble_eq_true rfl) ?_
  intro p e R s m args below meth c Q hx hb hml hown hts hK hRf hRl hW hret ls hl
  have hown : s.vm.findClass "LovePartsModel" = some m.cls := hown
  have hS : va_S (AB B) s.heap s.heap [] := va_S.rf
  have hl : lv_has ls 2 [(0, .ref (B + 202)), (1, .int (iI (((h_ : Nat) : Int))))] := hl
  obtain ⟨o4, o0, o1, o2, o3, o5, o6, o7, oH⟩ := id hok
  obtain ⟨k8, k12, k16, k20, k24, k28, k32, k36, k40, k44⟩ := oH h_ hh
  refine lv_aload_n hx hb dX12_silentSize_0 rfl (lv_at hl 0 rfl) ?_
  refine zi_bip hx hb dX12_silentSize_1 (by decide) ?_
  refine k_vv (fr := 2) (lo := 43) (σ' := (tpL σ [13])) (As := [.int (iI (13))]) (rest := []) hx hb hml hown hts hK hRf hRl hW hS (c_X12_begin l D cy B σ 13 (show 0 ≤ σ 202 25 ∧ σ 202 25 ≤ 15 from (by first | assumption | omega | (simp only [tpL_25, List.length_cons, List.length_nil]; omega)))) vX12_begin ⟨w_1175, w_45⟩ w_1173 (by decide) e_202 rfl ⟨Nat.le_of_ble_eq_true rfl, Nat.le_of_ble_eq_true rfl⟩ hl.1 rfl (Nat.le_of_ble_eq_true rfl) ⟨Nat.zero_le _, Nat.zero_le _⟩ dX12_silentSize_3 (fun H locs hW hS => ?_)
  refine lv_aload_n hx hb dX12_silentSize_6 rfl (lv_at hl 0 rfl) ?_
  refine lv_iload_n hx hb dX12_silentSize_7 rfl (lv_at hl 1 rfl) ?_
  refine zi_bip hx hb dX12_silentSize_8 (by decide) ?_
  refine k_vi (fr := 2) (lo := 43) (r := if 10 = 10 then σ 206 (12 + h_) else (h_ : Int)) (σ' := (tpL (tpL σ [13]) [10])) (As := [.int (iI (((h_ : Nat) : Int))), .int (iI (10))]) (rest := []) hx hb hml hown hts hK hRf hRl hW hS (c_X12_lent l D cy B (tpL σ [13]) h_ 10 (show okV (σ 206) from (by first | assumption | omega | (simp only [tpL_25, List.length_cons, List.length_nil]; omega))) (show (h_ : Int) < σ 206 4 from (by first | assumption | omega | (simp only [tpL_25, List.length_cons, List.length_nil]; omega))) (show 0 ≤ (tpL σ [13]) 202 25 ∧ (tpL σ [13]) 202 25 ≤ 15 from (by first | assumption | omega | (simp only [tpL_25, List.length_cons, List.length_nil]; omega))) (show 0 ≤ 10 ∧ 10 ≤ 100 from (by first | assumption | omega | (simp only [tpL_25, List.length_cons, List.length_nil]; omega)))) vX12_lent ⟨w_1183, w_47⟩ w_1181 (by decide) e_202 rfl ⟨Nat.le_of_ble_eq_true rfl, Nat.le_of_ble_eq_true rfl⟩ hl.1 rfl (Nat.le_of_ble_eq_true rfl) ⟨Nat.zero_le _, Nat.zero_le _⟩ dX12_silentSize_10 (fun H locs hW hS => ?_)
  refine zi_bip hx hb dX12_silentSize_13 (by decide) ?_
  refine zi_sub hx hb dX12_silentSize_15 ?_
  exact hret _ _ _ _ _ _ dX12_silentSize_16 hW hS ⟨by rw [if_pos rfl], rfl⟩

set_option maxRecDepth 100000 in
set_option maxHeartbeats 4000000 in
theorem c_X12_sizeOfSilent (l : Launch) (D : va_G) (cy : Nat → ClassId) (B : Nat) (σ : Sg) (h_ : Nat) (hok : okV (σ 206)) (hh : (h_ : Int) < σ 206 4) (ht : 0 ≤ σ 202 25 ∧ σ 202 25 ≤ 13) : CI l yX12_sizeOfSilent cX12_sizeOfSilent 2 (some .int) 3 64 D cy B [.ref (B + 202), .int (iI (((h_ : Nat) : Int)))] σ (szR (σ 206 (8 + h_)) (σ 206 (12 + h_))) (tpL σ (szL (σ 206 (8 + h_)))) := by
  refine CI_of (ty := .int) (by decide) (rfl) (Nat.le_of_ble_eq_true rfl) ?_
  intro p e R s m args below meth c Q hx hb hml hown hts hK hRf hRl hW hret ls hl
  have hown : s.vm.findClass "LovePartsModel" = some m.cls := hown
  have hS : va_S (AB B) s.heap s.heap [] := va_S.rf
  have hl : lv_has ls 2 [(0, .ref (B + 202)), (1, .int (iI (((h_ : Nat) : Int))))] := hl
  obtain ⟨o4, o0, o1, o2, o3, o5, o6, o7, oH⟩ := id hok
  obtain ⟨k8, k12, k16, k20, k24, k28, k32, k36, k40, k44⟩ := oH h_ hh
  refine lv_aload_n hx hb dX12_sizeOfSilent_0 rfl (lv_at hl 0 rfl) ?_
  refine wz_get hx hb hts hown hK hW 202 5 (by decide) e_202 rfl (by decide) inG12 w_820 rfl rfl dX12_sizeOfSilent_1 ?_
  refine zi_bip hx hb dX12_sizeOfSilent_4 (by decide) ?_
  refine lv_iload_n hx hb dX12_sizeOfSilent_6 rfl (lv_at hl 1 rfl) ?_
  refine zi_add hx hb dX12_sizeOfSilent_7 ?_
  refine wz_ald hx hb hK hW 206 (8 + h_) (by decide) e_206 (by omega) (by omega) (by decide) dX12_sizeOfSilent_8 ?_
  refine zi_con hx hb dX12_sizeOfSilent_9 ?_
  refine zi_cne (tgt := 27) hx hb dX12_sizeOfSilent_10 (by decide) (by omega) (by omega) (fun c10 => ?_) (fun c10 => ?_)
  · refine lv_aload_n hx hb dX12_sizeOfSilent_27 rfl (lv_at hl 0 rfl) ?_
    refine lv_iload_n hx hb dX12_sizeOfSilent_28 rfl (lv_at hl 1 rfl) ?_
    refine k_vi (fr := 3) (lo := 64) (r := σ 206 (12 + h_) - 100) (σ' := (tpL σ [13, 10])) (As := [.int (iI (((h_ : Nat) : Int)))]) (rest := []) hx hb hml hown hts hK hRf hRl hW hS (c_X12_silentSize l D cy B σ h_ (show okV (σ 206) from (by first | assumption | omega | (simp only [tpL_25, List.length_cons, List.length_nil]; omega))) (show (h_ : Int) < σ 206 4 from (by first | assumption | omega | (simp only [tpL_25, List.length_cons, List.length_nil]; omega))) (show 0 ≤ σ 202 25 ∧ σ 202 25 ≤ 14 from (by first | assumption | omega | (simp only [tpL_25, List.length_cons, List.length_nil]; omega)))) vX12_silentSize ⟨w_1199, w_51⟩ w_1197 (by decide) e_202 rfl ⟨Nat.le_of_ble_eq_true rfl, Nat.le_of_ble_eq_true rfl⟩ hl.1 rfl (Nat.le_of_ble_eq_true rfl) ⟨Nat.zero_le _, Nat.zero_le _⟩ dX12_sizeOfSilent_29 (fun H locs hW hS => ?_)
    exact hret _ _ _ _ _ _ dX12_sizeOfSilent_32 hW hS ⟨by simp only [mkR, szR, siR, mkL, szL, siL]; (repeat' split) <;> first | rfl | omega, by simp only [mkR, szR, siR, mkL, szL, siL]; (repeat' split) <;> first | rfl | omega⟩
  · refine lv_aload_n hx hb dX12_sizeOfSilent_13 rfl (lv_at hl 0 rfl) ?_
    refine zi_bip hx hb dX12_sizeOfSilent_14 (by decide) ?_
    refine k_vv (fr := 3) (lo := 64) (σ' := (tpL σ [14])) (As := [.int (iI (14))]) (rest := []) hx hb hml hown hts hK hRf hRl hW hS (c_X12_begin l D cy B σ 14 (show 0 ≤ σ 202 25 ∧ σ 202 25 ≤ 15 from (by first | assumption | omega | (simp only [tpL_25, List.length_cons, List.length_nil]; omega)))) vX12_begin ⟨w_1175, w_45⟩ w_1173 (by decide) e_202 rfl ⟨Nat.le_of_ble_eq_true rfl, Nat.le_of_ble_eq_true rfl⟩ hl.1 rfl (Nat.le_of_ble_eq_true rfl) ⟨Nat.zero_le _, Nat.zero_le _⟩ dX12_sizeOfSilent_16 (fun H locs hW hS => ?_)
    refine zi_con hx hb dX12_sizeOfSilent_19 ?_
    refine lv_aload_n hx hb dX12_sizeOfSilent_20 rfl (lv_at hl 0 rfl) ?_
    refine lv_iload_n hx hb dX12_sizeOfSilent_21 rfl (lv_at hl 1 rfl) ?_
    refine k_vi (fr := 3) (lo := 64) (r := σ 206 (12 + h_) - 100) (σ' := (tpL (tpL σ [14]) [13, 10])) (As := [.int (iI (((h_ : Nat) : Int)))]) (rest := [.int (iI (2))]) hx hb hml hown hts hK hRf hRl hW hS (c_X12_silentSize l D cy B (tpL σ [14]) h_ (show okV (σ 206) from (by first | assumption | omega | (simp only [tpL_25, List.length_cons, List.length_nil]; omega))) (show (h_ : Int) < σ 206 4 from (by first | assumption | omega | (simp only [tpL_25, List.length_cons, List.length_nil]; omega))) (show 0 ≤ (tpL σ [14]) 202 25 ∧ (tpL σ [14]) 202 25 ≤ 14 from (by first | assumption | omega | (simp only [tpL_25, List.length_cons, List.length_nil]; omega)))) vX12_silentSize ⟨w_1199, w_51⟩ w_1197 (by decide) e_202 rfl ⟨Nat.le_of_ble_eq_true rfl, Nat.le_of_ble_eq_true rfl⟩ hl.1 rfl (Nat.le_of_ble_eq_true rfl) ⟨Nat.zero_le _, Nat.zero_le _⟩ dX12_sizeOfSilent_22 (fun H locs hW hS => ?_)
    refine zi_mul hx hb dX12_sizeOfSilent_25 ?_
    exact hret _ _ _ _ _ _ dX12_sizeOfSilent_26 hW hS ⟨by simp only [mkR, szR, siR, mkL, szL, siL]; (repeat' split) <;> first | rfl | omega, by simp only [mkR, szR, siR, mkL, szL, siL]; (repeat' split) <;> first | rfl | omega⟩

set_option maxRecDepth 100000 in
set_option maxHeartbeats 4000000 in
theorem c_X12_markOf (l : Launch) (D : va_G) (cy : Nat → ClassId) (B : Nat) (σ : Sg) (h_ : Nat) (hok : okV (σ 206)) (hh : (h_ : Int) < σ 206 4) (ht : 0 ≤ σ 202 25 ∧ σ 202 25 ≤ 11) : CI l yX12_markOf cX12_markOf 4 (some .int) 4 85 D cy B [.ref (B + 202), .int (iI (((h_ : Nat) : Int)))] σ (mkR (σ 206 (8 + h_)) (σ 206 (12 + h_)) (σ 206 (16 + h_)) (h_ : Int)) (tpL σ (mkL (σ 206 (8 + h_)))) := by
  refine CI_of (ty := .int) (by decide) (rfl) (Nat.le_of_ble_eq_true rfl) ?_
  intro p e R s m args below meth c Q hx hb hml hown hts hK hRf hRl hW hret ls hl
  have hown : s.vm.findClass "LovePartsModel" = some m.cls := hown
  have hS : va_S (AB B) s.heap s.heap [] := va_S.rf
  have hl : lv_has ls 4 [(0, .ref (B + 202)), (1, .int (iI (((h_ : Nat) : Int))))] := hl
  obtain ⟨o4, o0, o1, o2, o3, o5, o6, o7, oH⟩ := id hok
  obtain ⟨k8, k12, k16, k20, k24, k28, k32, k36, k40, k44⟩ := oH h_ hh
  refine lv_aload_n hx hb dX12_markOf_0 rfl (lv_at hl 0 rfl) ?_
  refine wz_get hx hb hts hown hK hW 202 5 (by decide) e_202 rfl (by decide) inG12 w_820 rfl rfl dX12_markOf_1 ?_
  refine zi_bip hx hb dX12_markOf_4 (by decide) ?_
  refine lv_iload_n hx hb dX12_markOf_6 rfl (lv_at hl 1 rfl) ?_
  refine zi_add hx hb dX12_markOf_7 ?_
  refine wz_ald hx hb hK hW 206 (8 + h_) (by decide) e_206 (by omega) (by omega) (by decide) dX12_markOf_8 ?_
  refine lv_istore_n (lv' := [(2, .int (iI (σ 206 (8 + h_)))), (0, .ref (B + 202)), (1, .int (iI (((h_ : Nat) : Int))))]) hx hb dX12_markOf_9 rfl hl (by decide) rfl (fun ls hl => ?_)
  refine lv_iload_n hx hb dX12_markOf_10 rfl (lv_at hl 0 rfl) ?_
  refine zi_con hx hb dX12_markOf_11 ?_
  refine zi_cne (tgt := 29) hx hb dX12_markOf_12 (by decide) (by omega) (by omega) (fun c12 => ?_) (fun c12 => ?_)
  · refine lv_iload_n hx hb dX12_markOf_29 rfl (lv_at hl 0 rfl) ?_
    refine zi_con hx hb dX12_markOf_30 ?_
    refine zi_cne (tgt := 50) hx hb dX12_markOf_31 (by decide) (by omega) (by omega) (fun c31 => ?_) (fun c31 => ?_)
    · refine lv_iload_n hx hb dX12_markOf_50 rfl (lv_at hl 0 rfl) ?_
      refine zi_con hx hb dX12_markOf_51 ?_
      refine zi_cne (tgt := 61) hx hb dX12_markOf_52 (by decide) (by omega) (by omega) (fun c52 => ?_) (fun c52 => ?_)
      · refine lv_aload_n hx hb dX12_markOf_61 rfl (lv_at hl 1 rfl) ?_
        refine zi_bip hx hb dX12_markOf_62 (by decide) ?_
        refine k_vv (fr := 4) (lo := 85) (σ' := (tpL σ [23])) (As := [.int (iI (23))]) (rest := []) hx hb hml hown hts hK hRf hRl hW hS (c_X12_begin l D cy B σ 23 (show 0 ≤ σ 202 25 ∧ σ 202 25 ≤ 15 from (by first | assumption | omega | (simp only [tpL_25, List.length_cons, List.length_nil]; omega)))) vX12_begin ⟨w_1175, w_45⟩ w_1173 (by decide) e_202 rfl ⟨Nat.le_of_ble_eq_true rfl, Nat.le_of_ble_eq_true rfl⟩ hl.1 rfl (Nat.le_of_ble_eq_true rfl) ⟨Nat.zero_le _, Nat.zero_le _⟩ dX12_markOf_64 (fun H locs hW hS => ?_)
        refine lv_aload_n hx hb dX12_markOf_67 rfl (lv_at hl 1 rfl) ?_
        refine lv_iload_n hx hb dX12_markOf_68 rfl (lv_at hl 2 rfl) ?_
        refine zi_bip hx hb dX12_markOf_69 (by decide) ?_
        refine k_vi (fr := 4) (lo := 85) (r := if 20 = 10 then σ 206 (12 + h_) else (h_ : Int)) (σ' := (tpL (tpL σ [23]) [20])) (As := [.int (iI (((h_ : Nat) : Int))), .int (iI (20))]) (rest := []) hx hb hml hown hts hK hRf hRl hW hS (c_X12_lent l D cy B (tpL σ [23]) h_ 20 (show okV (σ 206) from (by first | assumption | omega | (simp only [tpL_25, List.length_cons, List.length_nil]; omega))) (show (h_ : Int) < σ 206 4 from (by first | assumption | omega | (simp only [tpL_25, List.length_cons, List.length_nil]; omega))) (show 0 ≤ (tpL σ [23]) 202 25 ∧ (tpL σ [23]) 202 25 ≤ 15 from (by first | assumption | omega | (simp only [tpL_25, List.length_cons, List.length_nil]; omega))) (show 0 ≤ 20 ∧ 20 ≤ 100 from (by first | assumption | omega | (simp only [tpL_25, List.length_cons, List.length_nil]; omega)))) vX12_lent ⟨w_1183, w_47⟩ w_1181 (by decide) e_202 rfl ⟨Nat.le_of_ble_eq_true rfl, Nat.le_of_ble_eq_true rfl⟩ hl.1 rfl (Nat.le_of_ble_eq_true rfl) ⟨Nat.zero_le _, Nat.zero_le _⟩ dX12_markOf_71 (fun H locs hW hS => ?_)
        refine lv_istore_n (lv' := [(3, .int (iI (if 20 = 10 then σ 206 (12 + h_) else (h_ : Int)))), (2, .int (iI (σ 206 (8 + h_)))), (0, .ref (B + 202)), (1, .int (iI (((h_ : Nat) : Int))))]) hx hb dX12_markOf_74 rfl hl (by decide) rfl (fun ls hl => ?_)
        refine lv_iload_n hx hb dX12_markOf_75 rfl (lv_at hl 0 rfl) ?_
        refine lv_aload_n hx hb dX12_markOf_76 rfl (lv_at hl 2 rfl) ?_
        refine lv_iload_n hx hb dX12_markOf_77 rfl (lv_at hl 3 rfl) ?_
        refine k_vi (fr := 4) (lo := 85) (r := szR (σ 206 (8 + h_)) (σ 206 (12 + h_))) (σ' := (tpL (tpL (tpL σ [23]) [20]) (szL (σ 206 (8 + h_))))) (As := [.int (iI (((h_ : Nat) : Int)))]) (rest := [.int (iI (if 20 = 10 then σ 206 (12 + h_) else (h_ : Int)))]) hx hb hml hown hts hK hRf hRl hW hS (c_X12_sizeOfSilent l D cy B (tpL (tpL σ [23]) [20]) h_ (show okV (σ 206) from (by first | assumption | omega | (simp only [tpL_25, List.length_cons, List.length_nil]; omega))) (show (h_ : Int) < σ 206 4 from (by first | assumption | omega | (simp only [tpL_25, List.length_cons, List.length_nil]; omega))) (show 0 ≤ (tpL (tpL σ [23]) [20]) 202 25 ∧ (tpL (tpL σ [23]) [20]) 202 25 ≤ 13 from (by first | assumption | omega | (simp only [tpL_25, List.length_cons, List.length_nil]; omega)))) vX12_sizeOfSilent ⟨w_1195, w_50⟩ w_1193 (by decide) e_202 rfl ⟨Nat.le_of_ble_eq_true rfl, Nat.le_of_ble_eq_true rfl⟩ hl.1 rfl (Nat.le_of_ble_eq_true rfl) ⟨Nat.zero_le _, Nat.zero_le _⟩ dX12_markOf_78 (fun H locs hW hS => ?_)
        refine zi_sub hx hb dX12_markOf_81 ?_
        exact hret _ _ _ _ _ _ dX12_markOf_82 hW hS ⟨by simp only [mkR, szR]; (repeat' split) <;> first | rfl | omega, by unfold mkL; (repeat' split) <;> first | rfl | omega⟩
      · refine lv_aload_n hx hb dX12_markOf_55 rfl (lv_at hl 1 rfl) ?_
        refine lv_iload_n hx hb dX12_markOf_56 rfl (lv_at hl 2 rfl) ?_
        refine k_vi (fr := 4) (lo := 85) (r := (h_ : Int) + σ 206 (16 + h_)) (σ' := (tpL σ [21, 20])) (As := [.int (iI (((h_ : Nat) : Int)))]) (rest := []) hx hb hml hown hts hK hRf hRl hW hS (c_X12_plainMark l D cy B σ h_ (show okV (σ 206) from (by first | assumption | omega | (simp only [tpL_25, List.length_cons, List.length_nil]; omega))) (show (h_ : Int) < σ 206 4 from (by first | assumption | omega | (simp only [tpL_25, List.length_cons, List.length_nil]; omega))) (show 0 ≤ σ 202 25 ∧ σ 202 25 ≤ 14 from (by first | assumption | omega | (simp only [tpL_25, List.length_cons, List.length_nil]; omega)))) vX12_plainMark ⟨w_1191, w_49⟩ w_1189 (by decide) e_202 rfl ⟨Nat.le_of_ble_eq_true rfl, Nat.le_of_ble_eq_true rfl⟩ hl.1 rfl (Nat.le_of_ble_eq_true rfl) ⟨Nat.zero_le _, Nat.zero_le _⟩ dX12_markOf_57 (fun H locs hW hS => ?_)
        exact hret _ _ _ _ _ _ dX12_markOf_60 hW hS ⟨by simp only [mkR, szR]; (repeat' split) <;> first | rfl | omega, by unfold mkL; (repeat' split) <;> first | rfl | omega⟩
    · refine lv_aload_n hx hb dX12_markOf_34 rfl (lv_at hl 1 rfl) ?_
      refine zi_bip hx hb dX12_markOf_35 (by decide) ?_
      refine k_vv (fr := 4) (lo := 85) (σ' := (tpL σ [22])) (As := [.int (iI (22))]) (rest := []) hx hb hml hown hts hK hRf hRl hW hS (c_X12_begin l D cy B σ 22 (show 0 ≤ σ 202 25 ∧ σ 202 25 ≤ 15 from (by first | assumption | omega | (simp only [tpL_25, List.length_cons, List.length_nil]; omega)))) vX12_begin ⟨w_1175, w_45⟩ w_1173 (by decide) e_202 rfl ⟨Nat.le_of_ble_eq_true rfl, Nat.le_of_ble_eq_true rfl⟩ hl.1 rfl (Nat.le_of_ble_eq_true rfl) ⟨Nat.zero_le _, Nat.zero_le _⟩ dX12_markOf_37 (fun H locs hW hS => ?_)
      refine lv_aload_n hx hb dX12_markOf_40 rfl (lv_at hl 1 rfl) ?_
      refine lv_iload_n hx hb dX12_markOf_41 rfl (lv_at hl 2 rfl) ?_
      refine k_vi (fr := 4) (lo := 85) (r := (h_ : Int) + σ 206 (16 + h_)) (σ' := (tpL (tpL σ [22]) [21, 20])) (As := [.int (iI (((h_ : Nat) : Int)))]) (rest := []) hx hb hml hown hts hK hRf hRl hW hS (c_X12_plainMark l D cy B (tpL σ [22]) h_ (show okV (σ 206) from (by first | assumption | omega | (simp only [tpL_25, List.length_cons, List.length_nil]; omega))) (show (h_ : Int) < σ 206 4 from (by first | assumption | omega | (simp only [tpL_25, List.length_cons, List.length_nil]; omega))) (show 0 ≤ (tpL σ [22]) 202 25 ∧ (tpL σ [22]) 202 25 ≤ 14 from (by first | assumption | omega | (simp only [tpL_25, List.length_cons, List.length_nil]; omega)))) vX12_plainMark ⟨w_1191, w_49⟩ w_1189 (by decide) e_202 rfl ⟨Nat.le_of_ble_eq_true rfl, Nat.le_of_ble_eq_true rfl⟩ hl.1 rfl (Nat.le_of_ble_eq_true rfl) ⟨Nat.zero_le _, Nat.zero_le _⟩ dX12_markOf_42 (fun H locs hW hS => ?_)
      refine zi_sip hx hb dX12_markOf_45 (by decide) ?_
      refine zi_sub hx hb dX12_markOf_48 ?_
      exact hret _ _ _ _ _ _ dX12_markOf_49 hW hS ⟨by simp only [mkR, szR]; (repeat' split) <;> first | rfl | omega, by unfold mkL; (repeat' split) <;> first | rfl | omega⟩
  · refine lv_aload_n hx hb dX12_markOf_15 rfl (lv_at hl 1 rfl) ?_
    refine zi_bip hx hb dX12_markOf_16 (by decide) ?_
    refine k_vv (fr := 4) (lo := 85) (σ' := (tpL σ [24])) (As := [.int (iI (24))]) (rest := []) hx hb hml hown hts hK hRf hRl hW hS (c_X12_begin l D cy B σ 24 (show 0 ≤ σ 202 25 ∧ σ 202 25 ≤ 15 from (by first | assumption | omega | (simp only [tpL_25, List.length_cons, List.length_nil]; omega)))) vX12_begin ⟨w_1175, w_45⟩ w_1173 (by decide) e_202 rfl ⟨Nat.le_of_ble_eq_true rfl, Nat.le_of_ble_eq_true rfl⟩ hl.1 rfl (Nat.le_of_ble_eq_true rfl) ⟨Nat.zero_le _, Nat.zero_le _⟩ dX12_markOf_18 (fun H locs hW hS => ?_)
    refine zi_con hx hb dX12_markOf_21 ?_
    refine lv_aload_n hx hb dX12_markOf_22 rfl (lv_at hl 1 rfl) ?_
    refine lv_iload_n hx hb dX12_markOf_23 rfl (lv_at hl 2 rfl) ?_
    refine k_vi (fr := 4) (lo := 85) (r := (h_ : Int) + σ 206 (16 + h_)) (σ' := (tpL (tpL σ [24]) [21, 20])) (As := [.int (iI (((h_ : Nat) : Int)))]) (rest := [.int (iI (2))]) hx hb hml hown hts hK hRf hRl hW hS (c_X12_plainMark l D cy B (tpL σ [24]) h_ (show okV (σ 206) from (by first | assumption | omega | (simp only [tpL_25, List.length_cons, List.length_nil]; omega))) (show (h_ : Int) < σ 206 4 from (by first | assumption | omega | (simp only [tpL_25, List.length_cons, List.length_nil]; omega))) (show 0 ≤ (tpL σ [24]) 202 25 ∧ (tpL σ [24]) 202 25 ≤ 14 from (by first | assumption | omega | (simp only [tpL_25, List.length_cons, List.length_nil]; omega)))) vX12_plainMark ⟨w_1191, w_49⟩ w_1189 (by decide) e_202 rfl ⟨Nat.le_of_ble_eq_true rfl, Nat.le_of_ble_eq_true rfl⟩ hl.1 rfl (Nat.le_of_ble_eq_true rfl) ⟨Nat.zero_le _, Nat.zero_le _⟩ dX12_markOf_24 (fun H locs hW hS => ?_)
    refine zi_mul hx hb dX12_markOf_27 ?_
    exact hret _ _ _ _ _ _ dX12_markOf_28 hW hS ⟨by simp only [mkR, szR]; (repeat' split) <;> first | rfl | omega, by unfold mkL; (repeat' split) <;> first | rfl | omega⟩

set_option maxRecDepth 100000 in
set_option maxHeartbeats 4000000 in
theorem c_X12_plainSize (l : Launch) (D : va_G) (cy : Nat → ClassId) (B : Nat) (σ : Sg) (h_ : Nat) (hok : okV (σ 206)) (hh : (h_ : Int) < σ 206 4) (ht : 0 ≤ σ 202 25 ∧ σ 202 25 ≤ 9) : CI l yX12_plainSize cX12_plainSize 3 (some .int) 5 108 D cy B [.ref (B + 202), .int (iI (((h_ : Nat) : Int)))] σ (σ 206 (12 + h_) + mkR (σ 206 (8 + h_)) (σ 206 (12 + h_)) (σ 206 (16 + h_)) (h_ : Int)) (tpL σ ([11, 10] ++ mkL (σ 206 (8 + h_)))) := by
  refine CI_of (ty := .int) (by decide) (rfl) (Nat.le_of_ble_eq_true rfl) ?_
  intro p e R s m args below meth c Q hx hb hml hown hts hK hRf hRl hW hret ls hl
  have hown : s.vm.findClass "LovePartsModel" = some m.cls := hown
  have hS : va_S (AB B) s.heap s.heap [] := va_S.rf
  have hl : lv_has ls 3 [(0, .ref (B + 202)), (1, .int (iI (((h_ : Nat) : Int))))] := hl
  obtain ⟨o4, o0, o1, o2, o3, o5, o6, o7, oH⟩ := id hok
  obtain ⟨k8, k12, k16, k20, k24, k28, k32, k36, k40, k44⟩ := oH h_ hh
  refine lv_aload_n hx hb dX12_plainSize_0 rfl (lv_at hl 0 rfl) ?_
  refine zi_bip hx hb dX12_plainSize_1 (by decide) ?_
  refine k_vv (fr := 5) (lo := 108) (σ' := (tpL σ [11])) (As := [.int (iI (11))]) (rest := []) hx hb hml hown hts hK hRf hRl hW hS (c_X12_begin l D cy B σ 11 (show 0 ≤ σ 202 25 ∧ σ 202 25 ≤ 15 from (by first | assumption | omega | (simp only [tpL_25, List.length_cons, List.length_nil]; omega)))) vX12_begin ⟨w_1175, w_45⟩ w_1173 (by decide) e_202 rfl ⟨Nat.le_of_ble_eq_true rfl, Nat.le_of_ble_eq_true rfl⟩ hl.1 rfl (Nat.le_of_ble_eq_true rfl) ⟨Nat.zero_le _, Nat.zero_le _⟩ dX12_plainSize_3 (fun H locs hW hS => ?_)
  refine lv_aload_n hx hb dX12_plainSize_6 rfl (lv_at hl 0 rfl) ?_
  refine lv_iload_n hx hb dX12_plainSize_7 rfl (lv_at hl 1 rfl) ?_
  refine zi_bip hx hb dX12_plainSize_8 (by decide) ?_
  refine k_vi (fr := 5) (lo := 108) (r := if 10 = 10 then σ 206 (12 + h_) else (h_ : Int)) (σ' := (tpL (tpL σ [11]) [10])) (As := [.int (iI (((h_ : Nat) : Int))), .int (iI (10))]) (rest := []) hx hb hml hown hts hK hRf hRl hW hS (c_X12_lent l D cy B (tpL σ [11]) h_ 10 (show okV (σ 206) from (by first | assumption | omega | (simp only [tpL_25, List.length_cons, List.length_nil]; omega))) (show (h_ : Int) < σ 206 4 from (by first | assumption | omega | (simp only [tpL_25, List.length_cons, List.length_nil]; omega))) (show 0 ≤ (tpL σ [11]) 202 25 ∧ (tpL σ [11]) 202 25 ≤ 15 from (by first | assumption | omega | (simp only [tpL_25, List.length_cons, List.length_nil]; omega))) (show 0 ≤ 10 ∧ 10 ≤ 100 from (by first | assumption | omega | (simp only [tpL_25, List.length_cons, List.length_nil]; omega)))) vX12_lent ⟨w_1183, w_47⟩ w_1181 (by decide) e_202 rfl ⟨Nat.le_of_ble_eq_true rfl, Nat.le_of_ble_eq_true rfl⟩ hl.1 rfl (Nat.le_of_ble_eq_true rfl) ⟨Nat.zero_le _, Nat.zero_le _⟩ dX12_plainSize_10 (fun H locs hW hS => ?_)
  refine lv_istore_n (lv' := [(2, .int (iI (if 10 = 10 then σ 206 (12 + h_) else (h_ : Int)))), (0, .ref (B + 202)), (1, .int (iI (((h_ : Nat) : Int))))]) hx hb dX12_plainSize_13 rfl hl (by decide) rfl (fun ls hl => ?_)
  refine lv_iload_n hx hb dX12_plainSize_14 rfl (lv_at hl 0 rfl) ?_
  refine lv_aload_n hx hb dX12_plainSize_15 rfl (lv_at hl 1 rfl) ?_
  refine lv_iload_n hx hb dX12_plainSize_16 rfl (lv_at hl 2 rfl) ?_
  refine k_vi (fr := 5) (lo := 108) (r := mkR (σ 206 (8 + h_)) (σ 206 (12 + h_)) (σ 206 (16 + h_)) (h_ : Int)) (σ' := (tpL (tpL (tpL σ [11]) [10]) (mkL (σ 206 (8 + h_))))) (As := [.int (iI (((h_ : Nat) : Int)))]) (rest := [.int (iI (if 10 = 10 then σ 206 (12 + h_) else (h_ : Int)))]) hx hb hml hown hts hK hRf hRl hW hS (c_X12_markOf l D cy B (tpL (tpL σ [11]) [10]) h_ (show okV (σ 206) from (by first | assumption | omega | (simp only [tpL_25, List.length_cons, List.length_nil]; omega))) (show (h_ : Int) < σ 206 4 from (by first | assumption | omega | (simp only [tpL_25, List.length_cons, List.length_nil]; omega))) (show 0 ≤ (tpL (tpL σ [11]) [10]) 202 25 ∧ (tpL (tpL σ [11]) [10]) 202 25 ≤ 11 from (by first | assumption | omega | (simp only [tpL_25, List.length_cons, List.length_nil]; omega)))) vX12_markOf ⟨w_1187, w_48⟩ w_1185 (by decide) e_202 rfl ⟨Nat.le_of_ble_eq_true rfl, Nat.le_of_ble_eq_true rfl⟩ hl.1 rfl (Nat.le_of_ble_eq_true rfl) ⟨Nat.zero_le _, Nat.zero_le _⟩ dX12_plainSize_17 (fun H locs hW hS => ?_)
  refine zi_add hx hb dX12_plainSize_20 ?_
  exact hret _ _ _ _ _ _ dX12_plainSize_21 hW hS ⟨by rw [if_pos rfl], rfl⟩

set_option maxRecDepth 100000 in
set_option maxHeartbeats 4000000 in
theorem c_X12_sizeOf (l : Launch) (D : va_G) (cy : Nat → ClassId) (B : Nat) (σ : Sg) (h_ : Nat) (hok : okV (σ 206)) (hh : (h_ : Int) < σ 206 4) (ht : 0 ≤ σ 202 25 ∧ σ 202 25 ≤ 8) : CI l yX12_sizeOf cX12_sizeOf 3 (some .int) 6 130 D cy B [.ref (B + 202), .int (iI (((h_ : Nat) : Int)))] σ (siR (σ 206 (8 + h_)) (σ 206 (12 + h_)) (σ 206 (16 + h_)) (h_ : Int)) (tpL σ (siL (σ 206 (8 + h_)))) := by
  refine CI_of (ty := .int) (by decide) (rfl) (Nat.le_of_ble_eq_true rfl) ?_
  intro p e R s m args below meth c Q hx hb hml hown hts hK hRf hRl hW hret ls hl
  have hown : s.vm.findClass "LovePartsModel" = some m.cls := hown
  have hS : va_S (AB B) s.heap s.heap [] := va_S.rf
  have hl : lv_has ls 3 [(0, .ref (B + 202)), (1, .int (iI (((h_ : Nat) : Int))))] := hl
  obtain ⟨o4, o0, o1, o2, o3, o5, o6, o7, oH⟩ := id hok
  obtain ⟨k8, k12, k16, k20, k24, k28, k32, k36, k40, k44⟩ := oH h_ hh
  refine lv_aload_n hx hb dX12_sizeOf_0 rfl (lv_at hl 0 rfl) ?_
  refine wz_get hx hb hts hown hK hW 202 5 (by decide) e_202 rfl (by decide) inG12 w_820 rfl rfl dX12_sizeOf_1 ?_
  refine zi_bip hx hb dX12_sizeOf_4 (by decide) ?_
  refine lv_iload_n hx hb dX12_sizeOf_6 rfl (lv_at hl 1 rfl) ?_
  refine zi_add hx hb dX12_sizeOf_7 ?_
  refine wz_ald hx hb hK hW 206 (8 + h_) (by decide) e_206 (by omega) (by omega) (by decide) dX12_sizeOf_8 ?_
  refine lv_istore_n (lv' := [(2, .int (iI (σ 206 (8 + h_)))), (0, .ref (B + 202)), (1, .int (iI (((h_ : Nat) : Int))))]) hx hb dX12_sizeOf_9 rfl hl (by decide) rfl (fun ls hl => ?_)
  refine lv_iload_n hx hb dX12_sizeOf_10 rfl (lv_at hl 0 rfl) ?_
  refine zi_con hx hb dX12_sizeOf_11 ?_
  refine zi_cne (tgt := 28) hx hb dX12_sizeOf_12 (by decide) (by omega) (by omega) (fun c12 => ?_) (fun c12 => ?_)
  · refine lv_iload_n hx hb dX12_sizeOf_28 rfl (lv_at hl 0 rfl) ?_
    refine zi_con hx hb dX12_sizeOf_29 ?_
    refine zi_clt (tgt := 41) hx hb dX12_sizeOf_30 (by decide) (by omega) (by omega) (fun c30 => ?_) (fun c30 => ?_)
    · refine lv_aload_n hx hb dX12_sizeOf_41 rfl (lv_at hl 1 rfl) ?_
      refine lv_iload_n hx hb dX12_sizeOf_42 rfl (lv_at hl 2 rfl) ?_
      refine k_vi (fr := 6) (lo := 130) (r := σ 206 (12 + h_) + mkR (σ 206 (8 + h_)) (σ 206 (12 + h_)) (σ 206 (16 + h_)) (h_ : Int)) (σ' := (tpL σ ([11, 10] ++ mkL (σ 206 (8 + h_))))) (As := [.int (iI (((h_ : Nat) : Int)))]) (rest := []) hx hb hml hown hts hK hRf hRl hW hS (c_X12_plainSize l D cy B σ h_ (show okV (σ 206) from (by first | assumption | omega | (simp only [tpL_25, List.length_cons, List.length_nil]; omega))) (show (h_ : Int) < σ 206 4 from (by first | assumption | omega | (simp only [tpL_25, List.length_cons, List.length_nil]; omega))) (show 0 ≤ σ 202 25 ∧ σ 202 25 ≤ 9 from (by first | assumption | omega | (simp only [tpL_25, List.length_cons, List.length_nil]; omega)))) vX12_plainSize ⟨w_1179, w_46⟩ w_1177 (by decide) e_202 rfl ⟨Nat.le_of_ble_eq_true rfl, Nat.le_of_ble_eq_true rfl⟩ hl.1 rfl (Nat.le_of_ble_eq_true rfl) ⟨Nat.zero_le _, Nat.zero_le _⟩ dX12_sizeOf_43 (fun H locs hW hS => ?_)
      exact hret _ _ _ _ _ _ dX12_sizeOf_46 hW hS ⟨by unfold siR; (repeat' split) <;> first | rfl | omega, by unfold siL; (repeat' split) <;> first | rfl | omega⟩
    · refine lv_aload_n hx hb dX12_sizeOf_33 rfl (lv_at hl 1 rfl) ?_
      refine lv_iload_n hx hb dX12_sizeOf_34 rfl (lv_at hl 2 rfl) ?_
      refine k_vi (fr := 6) (lo := 130) (r := szR (σ 206 (8 + h_)) (σ 206 (12 + h_))) (σ' := (tpL σ (szL (σ 206 (8 + h_))))) (As := [.int (iI (((h_ : Nat) : Int)))]) (rest := []) hx hb hml hown hts hK hRf hRl hW hS (c_X12_sizeOfSilent l D cy B σ h_ (show okV (σ 206) from (by first | assumption | omega | (simp only [tpL_25, List.length_cons, List.length_nil]; omega))) (show (h_ : Int) < σ 206 4 from (by first | assumption | omega | (simp only [tpL_25, List.length_cons, List.length_nil]; omega))) (show 0 ≤ σ 202 25 ∧ σ 202 25 ≤ 13 from (by first | assumption | omega | (simp only [tpL_25, List.length_cons, List.length_nil]; omega)))) vX12_sizeOfSilent ⟨w_1195, w_50⟩ w_1193 (by decide) e_202 rfl ⟨Nat.le_of_ble_eq_true rfl, Nat.le_of_ble_eq_true rfl⟩ hl.1 rfl (Nat.le_of_ble_eq_true rfl) ⟨Nat.zero_le _, Nat.zero_le _⟩ dX12_sizeOf_35 (fun H locs hW hS => ?_)
      refine lv_goto (tgt := 46) hx hb dX12_sizeOf_38 (by decide) ?_
      exact hret _ _ _ _ _ _ dX12_sizeOf_46 hW hS ⟨by unfold siR; (repeat' split) <;> first | rfl | omega, by unfold siL; (repeat' split) <;> first | rfl | omega⟩
  · refine lv_aload_n hx hb dX12_sizeOf_15 rfl (lv_at hl 1 rfl) ?_
    refine zi_bip hx hb dX12_sizeOf_16 (by decide) ?_
    refine k_vv (fr := 6) (lo := 130) (σ' := (tpL σ [12])) (As := [.int (iI (12))]) (rest := []) hx hb hml hown hts hK hRf hRl hW hS (c_X12_begin l D cy B σ 12 (show 0 ≤ σ 202 25 ∧ σ 202 25 ≤ 15 from (by first | assumption | omega | (simp only [tpL_25, List.length_cons, List.length_nil]; omega)))) vX12_begin ⟨w_1175, w_45⟩ w_1173 (by decide) e_202 rfl ⟨Nat.le_of_ble_eq_true rfl, Nat.le_of_ble_eq_true rfl⟩ hl.1 rfl (Nat.le_of_ble_eq_true rfl) ⟨Nat.zero_le _, Nat.zero_le _⟩ dX12_sizeOf_18 (fun H locs hW hS => ?_)
    refine lv_aload_n hx hb dX12_sizeOf_21 rfl (lv_at hl 1 rfl) ?_
    refine lv_iload_n hx hb dX12_sizeOf_22 rfl (lv_at hl 2 rfl) ?_
    refine k_vi (fr := 6) (lo := 130) (r := σ 206 (12 + h_) + mkR (σ 206 (8 + h_)) (σ 206 (12 + h_)) (σ 206 (16 + h_)) (h_ : Int)) (σ' := (tpL (tpL σ [12]) ([11, 10] ++ mkL (σ 206 (8 + h_))))) (As := [.int (iI (((h_ : Nat) : Int)))]) (rest := []) hx hb hml hown hts hK hRf hRl hW hS (c_X12_plainSize l D cy B (tpL σ [12]) h_ (show okV (σ 206) from (by first | assumption | omega | (simp only [tpL_25, List.length_cons, List.length_nil]; omega))) (show (h_ : Int) < σ 206 4 from (by first | assumption | omega | (simp only [tpL_25, List.length_cons, List.length_nil]; omega))) (show 0 ≤ (tpL σ [12]) 202 25 ∧ (tpL σ [12]) 202 25 ≤ 9 from (by first | assumption | omega | (simp only [tpL_25, List.length_cons, List.length_nil]; omega)))) vX12_plainSize ⟨w_1179, w_46⟩ w_1177 (by decide) e_202 rfl ⟨Nat.le_of_ble_eq_true rfl, Nat.le_of_ble_eq_true rfl⟩ hl.1 rfl (Nat.le_of_ble_eq_true rfl) ⟨Nat.zero_le _, Nat.zero_le _⟩ dX12_sizeOf_23 (fun H locs hW hS => ?_)
    refine zi_neg hx hb dX12_sizeOf_26 ?_
    exact hret _ _ _ _ _ _ dX12_sizeOf_27 hW hS ⟨by unfold siR; (repeat' split) <;> first | rfl | omega, by unfold siL; (repeat' split) <;> first | rfl | omega⟩

set_option maxRecDepth 100000 in
set_option maxHeartbeats 4000000 in
theorem c_X12_ask (l : Launch) (D : va_G) (cy : Nat → ClassId) (B : Nat) (σ : Sg) (h_ : Int) (z_ : Int) (r_h_ : -2147483648 ≤ h_ ∧ h_ < 2147483648) (r_z_ : -2147483648 ≤ z_ ∧ z_ < 2147483648) (hok : σ 206 4 = 0 ∨ okV (σ 206)) : CI l yX12_ask cX12_ask 3 (some .int) 7 152 D cy B [.ref (B + 202), .int (iI (h_)), .int (iI (z_))] σ (if ¬ (0 ≤ h_ ∧ h_ ≤ σ 206 4 - 1) ∨ ¬ (0 ≤ z_ ∧ z_ ≤ 1) then -1000001 else if z_ = 0 then siR (σ 206 (8 + h_.toNat)) (σ 206 (12 + h_.toNat)) (σ 206 (16 + h_.toNat)) h_ else mkR (σ 206 (8 + h_.toNat)) (σ 206 (12 + h_.toNat)) (σ 206 (16 + h_.toNat)) h_) (if ¬ (0 ≤ h_ ∧ h_ ≤ σ 206 4 - 1) ∨ ¬ (0 ≤ z_ ∧ z_ ≤ 1) then σ else if z_ = 0 then tpL (up σ 202 25 0) (siL (σ 206 (8 + h_.toNat))) else tpL (up σ 202 25 0) (mkL (σ 206 (8 + h_.toNat)))) := by
  refine CI_of (ty := .int) (by decide) (rfl) (Nat.le_of_ble_eq_true rfl) ?_
  intro p e R s m args below meth c Q hx hb hml hown hts hK hRf hRl hW hret ls hl
  have hown : s.vm.findClass "LovePartsModel" = some m.cls := hown
  have hS : va_S (AB B) s.heap s.heap [] := va_S.rf
  have hl : lv_has ls 3 [(0, .ref (B + 202)), (1, .int (iI (h_))), (2, .int (iI (z_)))] := hl
  have f4 : 0 ≤ σ 206 4 ∧ σ 206 4 ≤ 4 := by rcases hok with h | h; (· omega); (· exact ⟨by have := h.1; omega, h.1.2⟩)
  refine lv_aload_n hx hb dX12_ask_0 rfl (lv_at hl 0 rfl) ?_
  refine lv_iload_n hx hb dX12_ask_1 rfl (lv_at hl 1 rfl) ?_
  refine k_vi (fr := 7) (lo := 152) (r := (if 0 ≤ h_ ∧ h_ ≤ σ 206 4 - 1 then 1 else 0)) (As := [.int (iI (h_))]) (rest := []) hx hb hml hown hts hK hRf hRl hW hS (c_X12_isHeir l D cy B σ h_ (show -2147483648 ≤ h_ ∧ h_ < 2147483648 from (by first | assumption | omega | (simp only [tpL_25, List.length_cons, List.length_nil]; omega))) (show 0 ≤ σ 206 4 ∧ σ 206 4 ≤ 4 from (by first | assumption | omega | (simp only [tpL_25, List.length_cons, List.length_nil]; omega)))) vX12_isHeir ⟨w_990, w_27⟩ w_988 (by decide) e_202 rfl ⟨Nat.le_of_ble_eq_true rfl, Nat.le_of_ble_eq_true rfl⟩ hl.1 rfl (Nat.le_of_ble_eq_true rfl) ⟨Nat.zero_le _, Nat.zero_le _⟩ dX12_ask_2 (fun H locs hW hS => ?_)
  refine zi_beq (tgt := 18) hx hb dX12_ask_5 (by decide) (fun c5 => ?_) (fun c5 => ?_)
  · refine k_ldc hx hb hown hts (v := -1000001) (by decide) w_907 dX12_ask_18 ?_
    exact hret _ _ _ _ _ _ dX12_ask_20 hW hS ⟨by (try simp only [Int.toNat_natCast]); (repeat' split) <;> first | rfl | omega, by (try simp only [Int.toNat_natCast]); (repeat' split) <;> first | rfl | omega⟩
  · obtain ⟨n_, rfl⟩ : ∃ h : Nat, h_ = (h : Int) := ⟨h_.toNat, by omega⟩
    have hok := hok.resolve_left (by omega)
    obtain ⟨o4, o0, o1, o2, o3, o5, o6, o7, oH⟩ := id hok
    refine lv_iload_n hx hb dX12_ask_8 rfl (lv_at hl 2 rfl) ?_
    refine zi_i2l hx hb dX12_ask_9 (by omega) ?_
    refine zi_lcon (z := 0) hx hb dX12_ask_10 (by decide) ?_
    refine zi_lcon (z := 1) hx hb dX12_ask_11 (by decide) ?_
    refine k_si (fr := 7) (lo := 152) (r := (if 0 ≤ z_ ∧ z_ ≤ 1 then 1 else 0)) (As := [.long (lI (z_)), .long (lI (0)), .long (lI (1))]) (rest := []) hx hb hml hown hts hK hRf hRl hW hS (c_X12_in l D cy B σ z_ 0 1 (show -9223372036854775808 ≤ z_ ∧ z_ < 9223372036854775808 from (by first | assumption | omega | (simp only [tpL_25, List.length_cons, List.length_nil]; omega))) (show -9223372036854775808 ≤ 0 ∧ 0 < 9223372036854775808 from (by first | assumption | omega | (simp only [tpL_25, List.length_cons, List.length_nil]; omega))) (show -9223372036854775808 ≤ 1 ∧ 1 < 9223372036854775808 from (by first | assumption | omega | (simp only [tpL_25, List.length_cons, List.length_nil]; omega)))) vX12_in w_904 w_903 ⟨Nat.le_of_ble_eq_true rfl, Nat.le_of_ble_eq_true rfl⟩ hl.1 rfl (Nat.le_of_ble_eq_true rfl) ⟨Nat.zero_le _, Nat.zero_le _⟩ dX12_ask_12 (fun H locs hW hS => ?_)
    refine zi_bne (tgt := 21) hx hb dX12_ask_15 (by decide) (fun c15 => ?_) (fun c15 => ?_)
    · refine lv_aload_n hx hb dX12_ask_21 rfl (lv_at hl 0 rfl) ?_
      refine zi_con hx hb dX12_ask_22 ?_
      refine wz_put (σ' := (up σ 202 25 0)) (ty := .int) hx hb hts hown hK hW hS 202 25 tyX12 (by decide) e_202 rfl (by decide) inG12 tyX12_ok nmX12 w_840 ⟨rfl, rfl, Nat.le_of_ble_eq_true rfl⟩ (by decide +kernel) ⟨rfl, rfl⟩ p_202_25 dX12_ask_23 (fun H locs hW hS => ?_)
      refine lv_iload_n hx hb dX12_ask_26 rfl (lv_at hl 2 rfl) ?_
      refine zi_ne (tgt := 38) hx hb dX12_ask_27 (by decide) (by omega) (fun c27 => ?_) (fun c27 => ?_)
      · refine lv_aload_n hx hb dX12_ask_38 rfl (lv_at hl 0 rfl) ?_
        refine lv_iload_n hx hb dX12_ask_39 rfl (lv_at hl 1 rfl) ?_
        refine k_vi (fr := 7) (lo := 152) (r := mkR (σ 206 (8 + n_)) (σ 206 (12 + n_)) (σ 206 (16 + n_)) (n_ : Int)) (σ' := (tpL (up σ 202 25 0) (mkL (σ 206 (8 + n_))))) (As := [.int (iI (((n_ : Nat) : Int)))]) (rest := []) hx hb hml hown hts hK hRf hRl hW hS (c_X12_markOf l D cy B (up σ 202 25 0) n_ (show okV (σ 206) from (by first | assumption | omega | (simp only [tpL_25, List.length_cons, List.length_nil]; omega))) (show (n_ : Int) < σ 206 4 from (by first | assumption | omega | (simp only [tpL_25, List.length_cons, List.length_nil]; omega))) (show 0 ≤ (up σ 202 25 0) 202 25 ∧ (up σ 202 25 0) 202 25 ≤ 11 from (by show (0 : Int) ≤ 0 ∧ (0 : Int) ≤ 11; omega))) vX12_markOf ⟨w_1187, w_48⟩ w_1185 (by decide) e_202 rfl ⟨Nat.le_of_ble_eq_true rfl, Nat.le_of_ble_eq_true rfl⟩ hl.1 rfl (Nat.le_of_ble_eq_true rfl) ⟨Nat.zero_le _, Nat.zero_le _⟩ dX12_ask_40 (fun H locs hW hS => ?_)
        exact hret _ _ _ _ _ _ dX12_ask_43 hW hS ⟨by (try simp only [Int.toNat_natCast]); (repeat' split) <;> first | rfl | omega, by (try simp only [Int.toNat_natCast]); (repeat' split) <;> first | rfl | omega⟩
      · refine lv_aload_n hx hb dX12_ask_30 rfl (lv_at hl 0 rfl) ?_
        refine lv_iload_n hx hb dX12_ask_31 rfl (lv_at hl 1 rfl) ?_
        refine k_vi (fr := 7) (lo := 152) (r := siR (σ 206 (8 + n_)) (σ 206 (12 + n_)) (σ 206 (16 + n_)) (n_ : Int)) (σ' := (tpL (up σ 202 25 0) (siL (σ 206 (8 + n_))))) (As := [.int (iI (((n_ : Nat) : Int)))]) (rest := []) hx hb hml hown hts hK hRf hRl hW hS (c_X12_sizeOf l D cy B (up σ 202 25 0) n_ (show okV (σ 206) from (by first | assumption | omega | (simp only [tpL_25, List.length_cons, List.length_nil]; omega))) (show (n_ : Int) < σ 206 4 from (by first | assumption | omega | (simp only [tpL_25, List.length_cons, List.length_nil]; omega))) (show 0 ≤ (up σ 202 25 0) 202 25 ∧ (up σ 202 25 0) 202 25 ≤ 8 from (by show (0 : Int) ≤ 0 ∧ (0 : Int) ≤ 8; omega))) vX12_sizeOf ⟨w_1171, w_44⟩ w_1169 (by decide) e_202 rfl ⟨Nat.le_of_ble_eq_true rfl, Nat.le_of_ble_eq_true rfl⟩ hl.1 rfl (Nat.le_of_ble_eq_true rfl) ⟨Nat.zero_le _, Nat.zero_le _⟩ dX12_ask_32 (fun H locs hW hS => ?_)
        refine lv_goto (tgt := 43) hx hb dX12_ask_35 (by decide) ?_
        exact hret _ _ _ _ _ _ dX12_ask_43 hW hS ⟨by (try simp only [Int.toNat_natCast]); (repeat' split) <;> first | rfl | omega, by (try simp only [Int.toNat_natCast]); (repeat' split) <;> first | rfl | omega⟩
    · refine k_ldc hx hb hown hts (v := -1000001) (by decide) w_907 dX12_ask_18 ?_
      exact hret _ _ _ _ _ _ dX12_ask_20 hW hS ⟨by (try simp only [Int.toNat_natCast]); (repeat' split) <;> first | rfl | omega, by (try simp only [Int.toNat_natCast]); (repeat' split) <;> first | rfl | omega⟩

set_option maxRecDepth 100000 in
set_option maxHeartbeats 4000000 in
theorem c_X12_trace (l : Launch) (D : va_G) (cy : Nat → ClassId) (B : Nat) (σ : Sg) (z_ : Int) (r_z_ : -2147483648 ≤ z_ ∧ z_ < 2147483648) (ht : 0 ≤ σ 202 25 ∧ σ 202 25 ≤ 16) : CI l yX12_trace cX12_trace 2 (some .int) 1 25 D cy B [.ref (B + 202), .int (iI (z_))] σ (if 0 ≤ z_ ∧ z_ ≤ σ 202 25 - 1 then σ 216 z_.toNat else -1000000) (σ) := by
  refine CI_of (ty := .int) (by decide) (rfl) (Nat.le_of_ble_eq_true rfl) ?_
  intro p e R s m args below meth c Q hx hb hml hown hts hK hRf hRl hW hret ls hl
  have hown : s.vm.findClass "LovePartsModel" = some m.cls := hown
  have hS : va_S (AB B) s.heap s.heap [] := va_S.rf
  have hl : lv_has ls 2 [(0, .ref (B + 202)), (1, .int (iI (z_)))] := hl
  refine lv_iload_n hx hb dX12_trace_0 rfl (lv_at hl 1 rfl) ?_
  refine zi_i2l hx hb dX12_trace_1 (by omega) ?_
  refine zi_lcon (z := 0) hx hb dX12_trace_2 (by decide) ?_
  refine lv_aload_n hx hb dX12_trace_3 rfl (lv_at hl 0 rfl) ?_
  refine wz_get hx hb hts hown hK hW 202 25 (by decide) e_202 rfl (by decide) inG12 w_840 rfl rfl dX12_trace_4 ?_
  refine zi_con hx hb dX12_trace_7 ?_
  refine zi_sub hx hb dX12_trace_8 ?_
  refine zi_i2l hx hb dX12_trace_9 (by omega) ?_
  refine k_si (fr := 1) (lo := 25) (r := (if 0 ≤ z_ ∧ z_ ≤ ((σ 202 25) - 1) then 1 else 0)) (As := [.long (lI (z_)), .long (lI (0)), .long (lI ((σ 202 25) - 1))]) (rest := []) hx hb hml hown hts hK hRf hRl hW hS (c_X12_in l D cy B σ z_ 0 ((σ 202 25) - 1) (show -9223372036854775808 ≤ z_ ∧ z_ < 9223372036854775808 from (by first | assumption | omega | (simp only [tpL_25, List.length_cons, List.length_nil]; omega))) (show -9223372036854775808 ≤ 0 ∧ 0 < 9223372036854775808 from (by first | assumption | omega | (simp only [tpL_25, List.length_cons, List.length_nil]; omega))) (show -9223372036854775808 ≤ ((σ 202 25) - 1) ∧ ((σ 202 25) - 1) < 9223372036854775808 from (by first | assumption | omega | (simp only [tpL_25, List.length_cons, List.length_nil]; omega)))) vX12_in w_904 w_903 ⟨Nat.le_of_ble_eq_true rfl, Nat.le_of_ble_eq_true rfl⟩ hl.1 rfl (Nat.le_of_ble_eq_true rfl) ⟨Nat.zero_le _, Nat.zero_le _⟩ dX12_trace_10 (fun H locs hW hS => ?_)
  refine zi_beq (tgt := 25) hx hb dX12_trace_13 (by decide) (fun c13 => ?_) (fun c13 => ?_)
  · refine k_ldc hx hb hown hts (v := -1000000) (by decide) w_1080 dX12_trace_25 ?_
    exact hret _ _ _ _ _ _ dX12_trace_27 hW hS ⟨by (repeat' split) <;> first | rfl | omega, rfl⟩
  · refine lv_aload_n hx hb dX12_trace_16 rfl (lv_at hl 0 rfl) ?_
    refine wz_get hx hb hts hown hK hW 202 24 (by decide) e_202 rfl (by decide) inG12 w_839 rfl rfl dX12_trace_17 ?_
    refine lv_iload_n hx hb dX12_trace_20 rfl (lv_at hl 1 rfl) ?_
    refine wz_ald hx hb hK hW 216 z_.toNat (by decide) e_216 (by omega) (by omega) (by decide) dX12_trace_21 ?_
    refine lv_goto (tgt := 27) hx hb dX12_trace_22 (by decide) ?_
    exact hret _ _ _ _ _ _ dX12_trace_27 hW hS ⟨by (repeat' split) <;> first | rfl | omega, rfl⟩

set_option maxRecDepth 100000 in
set_option maxHeartbeats 4000000 in
theorem c_X12_count (l : Launch) (D : va_G) (cy : Nat → ClassId) (B : Nat) (σ : Sg) (z_ : Int) (r_z_ : -2147483648 ≤ z_ ∧ z_ < 2147483648) (hok : σ 206 4 = 0 ∨ okV (σ 206)) (hsz : ∀ k, k < 8 → -1 ≤ σ 204 k ∧ σ 204 k ≤ 40) (hby : 0 ≤ σ 202 8 ∧ σ 202 8 ≤ 100) : CI l yX12_count cX12_count 4 (some .int) 1 22 D cy B [.ref (B + 202), .int (iI (z_))] σ (if z_ = 0 then sm (fun k => if 0 ≤ σ 204 k then 1 else 0) 8 else if z_ = 1 then σ 206 4 else if z_ = 2 then σ 206 0 else if z_ = 3 then σ 206 2 else if z_ = 4 then σ 206 3 else if z_ = 5 then σ 206 5 else if z_ = 6 then brk (σ 206) else if z_ = 7 then σ 202 18 else if z_ = 8 then σ 202 8 else -1000001) (σ) := by
  refine CI_of (ty := .int) (by decide) (rfl) (Nat.le_of_ble_eq_true rfl) ?_
  intro p e R s m args below meth c Q hx hb hml hown hts hK hRf hRl hW hret ls hl
  have hown : s.vm.findClass "LovePartsModel" = some m.cls := hown
  have hS : va_S (AB B) s.heap s.heap [] := va_S.rf
  have hl : lv_has ls 4 [(0, .ref (B + 202)), (1, .int (iI (z_)))] := hl
  have f4 : 0 ≤ σ 206 4 ∧ σ 206 4 ≤ 4 := by rcases hok with h | h; (· omega); (· exact ⟨by have := h.1; omega, h.1.2⟩)
  refine zi_con hx hb dX12_count_0 ?_
  refine lv_istore_n (lv' := [(2, .int (iI (0))), (0, .ref (B + 202)), (1, .int (iI (z_)))]) hx hb dX12_count_1 rfl hl (by decide) rfl (fun ls hl => ?_)
  refine zi_con hx hb dX12_count_2 ?_
  refine lv_istore_n (lv' := [(3, .int (iI (0))), (2, .int (iI (0))), (0, .ref (B + 202)), (1, .int (iI (z_)))]) hx hb dX12_count_3 rfl hl (by decide) rfl (fun ls hl => ?_)
  have L4 : ∀ (n4 : Nat) (i_ : Nat) (H : Heap) (locs : List Loc) (ls : Array Slot), 8 - i_ < n4 → (i_ ≤ 8) → wd D cy B σ H → va_S (AB B) s.heap H locs → lv_has ls 4 [(3, .int (iI (((i_ : Nat) : Int)))), (2, .int (iI (sm (fun k => if 0 ≤ σ 204 k then 1 else 0) i_))), (0, .ref (B + 202)), (1, .int (iI (z_)))] → W p l e R s m args below meth c H locs 0 0 Q (F0 m 4 ls []) := by
    intro n4
    induction n4 with
    | zero => intro i_ H locs ls hms; omega
    | succ n4 ih4 =>
      intro i_ H locs ls hms4 hi hW hS hl
      refine lv_iload_n hx hb dX12_count_4 rfl (lv_at hl 0 rfl) ?_
      refine zi_bip hx hb dX12_count_5 (by decide) ?_
      refine zi_cge (tgt := 33) hx hb dX12_count_7 (by decide) (by omega) (by omega) (fun c7 => ?_) (fun c7 => ?_)
      · have hi8 : i_ = 8 := by omega
        subst hi8
        refine lv_iload_n hx hb dX12_count_33 rfl (lv_at hl 3 rfl) ?_
        by_cases hsw34 : z_ < 0 ∨ 8 < z_
        · refine lv_tableOut (tgt := 136) hx hb dX12_count_34 (by rw [iI_toInt (by omega)]; exact hsw34) (by decide) ?_
          refine k_ldc hx hb hown hts (v := -1000001) (by decide) w_907 dX12_count_136 ?_
          exact hret _ _ _ _ _ _ dX12_count_138 hW hS ⟨by (repeat' split) <;> first | rfl | omega, rfl⟩
        · have hsx34 : z_ = 0 ∨ z_ = 1 ∨ z_ = 2 ∨ z_ = 3 ∨ z_ = 4 ∨ z_ = 5 ∨ z_ = 6 ∨ z_ = 7 ∨ z_ = 8 := by omega
          rcases hsx34 with hs34 | hs34 | hs34 | hs34 | hs34 | hs34 | hs34 | hs34 | hs34
          · refine lv_tableIn (off := 50) (tgt := 84) hx hb dX12_count_34 (by rw [iI_toInt (by omega)]; omega) (by rw [iI_toInt (by omega)]; omega) (by rw [iI_toInt (by omega), hs34]; rfl) (by decide) ?_
            refine lv_iload_n hx hb dX12_count_84 rfl (lv_at hl 1 rfl) ?_
            exact hret _ _ _ _ _ _ dX12_count_85 hW hS ⟨by (repeat' split) <;> first | rfl | omega, rfl⟩
          · refine lv_tableIn (off := 52) (tgt := 86) hx hb dX12_count_34 (by rw [iI_toInt (by omega)]; omega) (by rw [iI_toInt (by omega)]; omega) (by rw [iI_toInt (by omega), hs34]; rfl) (by decide) ?_
            refine lv_aload_n hx hb dX12_count_86 rfl (lv_at hl 2 rfl) ?_
            refine wz_get hx hb hts hown hK hW 202 5 (by decide) e_202 rfl (by decide) inG12 w_820 rfl rfl dX12_count_87 ?_
            refine zi_con hx hb dX12_count_90 ?_
            refine wz_ald hx hb hK hW 206 4 (by decide) e_206 (by omega) (by omega) (by decide) dX12_count_91 ?_
            exact hret _ _ _ _ _ _ dX12_count_92 hW hS ⟨by (repeat' split) <;> first | rfl | omega, rfl⟩
          · refine lv_tableIn (off := 59) (tgt := 93) hx hb dX12_count_34 (by rw [iI_toInt (by omega)]; omega) (by rw [iI_toInt (by omega)]; omega) (by rw [iI_toInt (by omega), hs34]; rfl) (by decide) ?_
            refine lv_aload_n hx hb dX12_count_93 rfl (lv_at hl 2 rfl) ?_
            refine wz_get hx hb hts hown hK hW 202 5 (by decide) e_202 rfl (by decide) inG12 w_820 rfl rfl dX12_count_94 ?_
            refine zi_con hx hb dX12_count_97 ?_
            refine wz_ald hx hb hK hW 206 0 (by decide) e_206 (by omega) (by omega) (by decide) dX12_count_98 ?_
            exact hret _ _ _ _ _ _ dX12_count_99 hW hS ⟨by (repeat' split) <;> first | rfl | omega, rfl⟩
          · refine lv_tableIn (off := 66) (tgt := 100) hx hb dX12_count_34 (by rw [iI_toInt (by omega)]; omega) (by rw [iI_toInt (by omega)]; omega) (by rw [iI_toInt (by omega), hs34]; rfl) (by decide) ?_
            refine lv_aload_n hx hb dX12_count_100 rfl (lv_at hl 2 rfl) ?_
            refine wz_get hx hb hts hown hK hW 202 5 (by decide) e_202 rfl (by decide) inG12 w_820 rfl rfl dX12_count_101 ?_
            refine zi_con hx hb dX12_count_104 ?_
            refine wz_ald hx hb hK hW 206 2 (by decide) e_206 (by omega) (by omega) (by decide) dX12_count_105 ?_
            exact hret _ _ _ _ _ _ dX12_count_106 hW hS ⟨by (repeat' split) <;> first | rfl | omega, rfl⟩
          · refine lv_tableIn (off := 73) (tgt := 107) hx hb dX12_count_34 (by rw [iI_toInt (by omega)]; omega) (by rw [iI_toInt (by omega)]; omega) (by rw [iI_toInt (by omega), hs34]; rfl) (by decide) ?_
            refine lv_aload_n hx hb dX12_count_107 rfl (lv_at hl 2 rfl) ?_
            refine wz_get hx hb hts hown hK hW 202 5 (by decide) e_202 rfl (by decide) inG12 w_820 rfl rfl dX12_count_108 ?_
            refine zi_con hx hb dX12_count_111 ?_
            refine wz_ald hx hb hK hW 206 3 (by decide) e_206 (by omega) (by omega) (by decide) dX12_count_112 ?_
            exact hret _ _ _ _ _ _ dX12_count_113 hW hS ⟨by (repeat' split) <;> first | rfl | omega, rfl⟩
          · refine lv_tableIn (off := 80) (tgt := 114) hx hb dX12_count_34 (by rw [iI_toInt (by omega)]; omega) (by rw [iI_toInt (by omega)]; omega) (by rw [iI_toInt (by omega), hs34]; rfl) (by decide) ?_
            refine lv_aload_n hx hb dX12_count_114 rfl (lv_at hl 2 rfl) ?_
            refine wz_get hx hb hts hown hK hW 202 5 (by decide) e_202 rfl (by decide) inG12 w_820 rfl rfl dX12_count_115 ?_
            refine zi_con hx hb dX12_count_118 ?_
            refine wz_ald hx hb hK hW 206 5 (by decide) e_206 (by omega) (by omega) (by decide) dX12_count_119 ?_
            exact hret _ _ _ _ _ _ dX12_count_120 hW hS ⟨by (repeat' split) <;> first | rfl | omega, rfl⟩
          · refine lv_tableIn (off := 87) (tgt := 121) hx hb dX12_count_34 (by rw [iI_toInt (by omega)]; omega) (by rw [iI_toInt (by omega)]; omega) (by rw [iI_toInt (by omega), hs34]; rfl) (by decide) ?_
            refine lv_aload_n hx hb dX12_count_121 rfl (lv_at hl 2 rfl) ?_
            refine k_vi (fr := 1) (lo := 22) (r := brk (σ 206)) (As := []) (rest := []) hx hb hml hown hts hK hRf hRl hW hS (c_X12_brokenAll l D cy B σ  (show σ 206 4 = 0 ∨ okV (σ 206) from (by first | assumption | omega | (simp only [tpL_25, List.length_cons, List.length_nil]; omega)))) vX12_brokenAll ⟨w_1101, w_41⟩ w_1099 (by decide) e_202 rfl ⟨Nat.le_of_ble_eq_true rfl, Nat.le_of_ble_eq_true rfl⟩ hl.1 rfl (Nat.le_of_ble_eq_true rfl) ⟨Nat.zero_le _, Nat.zero_le _⟩ dX12_count_122 (fun H locs hW hS => ?_)
            exact hret _ _ _ _ _ _ dX12_count_125 hW hS ⟨by (repeat' split) <;> first | rfl | omega, rfl⟩
          · refine lv_tableIn (off := 92) (tgt := 126) hx hb dX12_count_34 (by rw [iI_toInt (by omega)]; omega) (by rw [iI_toInt (by omega)]; omega) (by rw [iI_toInt (by omega), hs34]; rfl) (by decide) ?_
            refine lv_aload_n hx hb dX12_count_126 rfl (lv_at hl 2 rfl) ?_
            refine wz_get hx hb hts hown hK hW 202 18 (by decide) e_202 rfl (by decide) inG12 w_833 rfl rfl dX12_count_127 ?_
            exact hret _ _ _ _ _ _ dX12_count_130 hW hS ⟨by (repeat' split) <;> first | rfl | omega, rfl⟩
          · refine lv_tableIn (off := 97) (tgt := 131) hx hb dX12_count_34 (by rw [iI_toInt (by omega)]; omega) (by rw [iI_toInt (by omega)]; omega) (by rw [iI_toInt (by omega), hs34]; rfl) (by decide) ?_
            refine lv_aload_n hx hb dX12_count_131 rfl (lv_at hl 2 rfl) ?_
            refine wz_get hx hb hts hown hK hW 202 8 (by decide) e_202 rfl (by decide) inG12 w_823 rfl rfl dX12_count_132 ?_
            exact hret _ _ _ _ _ _ dX12_count_135 hW hS ⟨by (repeat' split) <;> first | rfl | omega, rfl⟩
      · have hz := hsz i_ (by omega)
        refine lv_iload_n hx hb dX12_count_10 rfl (lv_at hl 1 rfl) ?_
        refine lv_aload_n hx hb dX12_count_11 rfl (lv_at hl 2 rfl) ?_
        refine wz_get hx hb hts hown hK hW 202 1 (by decide) e_202 rfl (by decide) inG12 w_816 rfl rfl dX12_count_12 ?_
        refine lv_iload_n hx hb dX12_count_15 rfl (lv_at hl 0 rfl) ?_
        refine wz_ald hx hb hK hW 204 i_ (by decide) e_204 (by omega) (by omega) (by decide) dX12_count_16 ?_
        refine zi_lt (tgt := 24) hx hb dX12_count_17 (by decide) (by omega) (fun c17 => ?_) (fun c17 => ?_)
        · refine zi_con hx hb dX12_count_24 ?_
          refine zi_add hx hb dX12_count_25 ?_
          refine lv_istore_n (lv' := [(2, .int (iI ((sm (fun k => if 0 ≤ σ 204 k then 1 else 0) i_) + 0))), (3, .int (iI (((i_ : Nat) : Int)))), (0, .ref (B + 202)), (1, .int (iI (z_)))]) hx hb dX12_count_26 rfl hl (by decide) rfl (fun ls hl => ?_)
          refine lv_iinc (v := iI (((i_ : Nat) : Int) + 1)) (lv' := [(3, .int (iI (((i_ : Nat) : Int) + 1))), (2, .int (iI ((sm (fun k => if 0 ≤ σ 204 k then 1 else 0) i_) + 0))), (0, .ref (B + 202)), (1, .int (iI (z_)))]) hx hb dX12_count_27 hl (k := 1) rfl (iI_add _ _) (by decide) rfl (fun ls hl => ?_)
          refine lv_goto (tgt := 4) hx hb dX12_count_30 (by decide) ?_
          have e3 : sm (fun k => if 0 ≤ σ 204 k then 1 else 0) (i_ + 1) = sm (fun k => if 0 ≤ σ 204 k then 1 else 0) i_ + (if 0 ≤ σ 204 i_ then 1 else 0) := rfl
          first | (rw [if_pos (by omega)] at e3) | (rw [if_neg (by omega)] at e3)
          exact ih4 (i_ + 1) _ _ _ (by omega) (by omega) hW hS (lv_sub hl [0, 1, 2, 3] (by rw [e3]; rfl))
        · refine zi_con hx hb dX12_count_20 ?_
          refine lv_goto (tgt := 25) hx hb dX12_count_21 (by decide) ?_
          refine zi_add hx hb dX12_count_25 ?_
          refine lv_istore_n (lv' := [(2, .int (iI ((sm (fun k => if 0 ≤ σ 204 k then 1 else 0) i_) + 1))), (3, .int (iI (((i_ : Nat) : Int)))), (0, .ref (B + 202)), (1, .int (iI (z_)))]) hx hb dX12_count_26 rfl hl (by decide) rfl (fun ls hl => ?_)
          refine lv_iinc (v := iI (((i_ : Nat) : Int) + 1)) (lv' := [(3, .int (iI (((i_ : Nat) : Int) + 1))), (2, .int (iI ((sm (fun k => if 0 ≤ σ 204 k then 1 else 0) i_) + 1))), (0, .ref (B + 202)), (1, .int (iI (z_)))]) hx hb dX12_count_27 hl (k := 1) rfl (iI_add _ _) (by decide) rfl (fun ls hl => ?_)
          refine lv_goto (tgt := 4) hx hb dX12_count_30 (by decide) ?_
          have e3 : sm (fun k => if 0 ≤ σ 204 k then 1 else 0) (i_ + 1) = sm (fun k => if 0 ≤ σ 204 k then 1 else 0) i_ + (if 0 ≤ σ 204 i_ then 1 else 0) := rfl
          first | (rw [if_pos (by omega)] at e3) | (rw [if_neg (by omega)] at e3)
          exact ih4 (i_ + 1) _ _ _ (by omega) (by omega) hW hS (lv_sub hl [0, 1, 2, 3] (by rw [e3]; rfl))
  exact L4 _ 0 _ _ _ (Nat.lt_succ_self _) (by omega) hW hS (lv_sub hl [0, 1, 2, 3] rfl)
