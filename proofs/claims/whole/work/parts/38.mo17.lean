
set_option maxRecDepth 100000 in
set_option maxHeartbeats 4000000 in
theorem c_X12_takes (l : Launch) (D : va_G) (cy : Nat → ClassId) (B : Nat) (σ : Sg) (b_ : Nat) (c_ : Int) (r_c_ : -2147483648 ≤ c_ ∧ c_ < 2147483648) (hps : PS (σ) b_) : CI l yX12_takes cX12_takes 2 (some .boolean) 2 45 D cy B [.ref (B + 202), .int (iI (c_))] σ ((if σ 202 11 = 1 ∧ σ 202 12 = c_ then 1 else 0)) (tkS (σ) c_) := by
  refine CI_of (ty := .boolean) (by decide) (nb_ite) (Nat.le_of_ble_eq_true rfl) ?_
  intro p e R s m args below meth c Q hx hb hml hown hts hK hRf hRl hW hret ls hl
  have hown : s.vm.findClass "LovePartsModel" = some m.cls := hown
  have hS : va_S (AB B) s.heap s.heap [] := va_S.rf
  have hl : lv_has ls 2 [(0, .ref (B + 202)), (1, .int (iI (c_)))] := hl
  have hpb := PS_bd hps
  have htp := hps.2.2
  refine lv_aload_n hx hb dX12_takes_0 rfl (lv_at hl 0 rfl) ?_
  refine lv_iload_n hx hb dX12_takes_1 rfl (lv_at hl 1 rfl) ?_
  refine k_vi (fr := 2) (lo := 45) (r := (if σ 202 11 = 1 ∧ σ 202 12 = c_ then 1 else 0)) (As := [.int (iI (c_))]) (rest := []) hx hb hml hown hts hK hRf hRl hW hS (c_X12_isLetter l D cy B σ c_ (show -2147483648 ≤ c_ ∧ c_ < 2147483648 from (by first | assumption | omega | (simp only [tpL_25, List.length_cons, List.length_nil]; omega))) (show 0 ≤ σ 202 11 ∧ σ 202 11 ≤ 3 from (by first | assumption | omega | (simp only [tpL_25, List.length_cons, List.length_nil]; omega))) (show 0 ≤ σ 202 12 ∧ σ 202 12 ≤ 999 from (by first | assumption | omega | (simp only [tpL_25, List.length_cons, List.length_nil]; omega)))) vX12_isLetter ⟨w_960, w_23⟩ w_958 (by decide) e_202 rfl ⟨Nat.le_of_ble_eq_true rfl, Nat.le_of_ble_eq_true rfl⟩ hl.1 rfl (Nat.le_of_ble_eq_true rfl) ⟨Nat.zero_le _, Nat.zero_le _⟩ dX12_takes_2 (fun H locs hW hS => ?_)
  refine zi_bne (tgt := 14) hx hb dX12_takes_5 (by decide) (fun c5 => ?_) (fun c5 => ?_)
  · refine lv_aload_n hx hb dX12_takes_14 rfl (lv_at hl 0 rfl) ?_
    refine k_vv (fr := 2) (lo := 45) (σ' := (ntk σ)) (As := []) (rest := []) hx hb hml hown hts hK hRf hRl hW hS (c_X12_nextToken l D cy B σ  (show (0 ≤ σ 202 10 ∧ σ 202 10 ≤ σ 202 8) ∧ σ 202 8 ≤ 100 from (by first | assumption | omega | (simp only [tpL_25, List.length_cons, List.length_nil]; omega))) (show ∀ k, k < 100 → 0 ≤ σ 208 k ∧ σ 208 k ≤ 255 from (by first | assumption | omega | (simp only [tpL_25, List.length_cons, List.length_nil]; omega)))) vX12_nextToken ⟨w_948, w_21⟩ w_946 (by decide) e_202 rfl ⟨Nat.le_of_ble_eq_true rfl, Nat.le_of_ble_eq_true rfl⟩ hl.1 rfl (Nat.le_of_ble_eq_true rfl) ⟨Nat.zero_le _, Nat.zero_le _⟩ dX12_takes_15 (fun H locs hW hS => ?_)
    refine zi_con hx hb dX12_takes_18 ?_
    exact hret _ _ _ _ _ _ dX12_takes_19 hW hS ⟨by (try split) <;> first | rfl | omega | simp_all, by unfold tkS; split <;> first | rfl | omega⟩
  · refine lv_aload_n hx hb dX12_takes_8 rfl (lv_at hl 0 rfl) ?_
    refine zi_con hx hb dX12_takes_9 ?_
    refine k_vi (fr := 2) (lo := 45) (r := (if False then 1 else 0)) (σ' := (up σ 202 14 1)) (As := [.int (iI (1))]) (rest := []) hx hb hml hown hts hK hRf hRl hW hS (c_X12_faults l D cy B σ 1 ) vX12_faults ⟨w_964, w_24⟩ w_962 (by decide) e_202 rfl ⟨Nat.le_of_ble_eq_true rfl, Nat.le_of_ble_eq_true rfl⟩ hl.1 rfl (Nat.le_of_ble_eq_true rfl) ⟨Nat.zero_le _, Nat.zero_le _⟩ dX12_takes_10 (fun H locs hW hS => ?_)
    exact hret _ _ _ _ _ _ dX12_takes_13 hW hS ⟨by (try split) <;> first | rfl | omega | simp_all, by unfold tkS; split <;> first | rfl | omega⟩

set_option maxRecDepth 100000 in
set_option maxHeartbeats 4000000 in
theorem c_X12_takesNumber (l : Launch) (D : va_G) (cy : Nat → ClassId) (B : Nat) (σ : Sg) (b_ : Nat) (l_ : Int) (u_ : Int) (a_ : Nat) (c_ : Int) (r_l_ : -2147483648 ≤ l_ ∧ l_ < 2147483648) (r_u_ : -2147483648 ≤ u_ ∧ u_ < 2147483648) (r_c_ : -2147483648 ≤ c_ ∧ c_ < 2147483648) (hps : PS (σ) b_) (ha : a_ < 48) : CI l yX12_takesNumber cX12_takesNumber 5 (some .boolean) 3 66 D cy B [.ref (B + 202), .int (iI (l_)), .int (iI (u_)), .int (iI (((a_ : Nat) : Int))), .int (iI (c_))] σ ((if (σ 202 11 = 2 ∧ l_ ≤ σ 202 12 ∧ σ 202 12 ≤ u_) ∧ (ntk (up σ 209 a_ (σ 202 12)) 202 11 = 1 ∧ ntk (up σ 209 a_ (σ 202 12)) 202 12 = c_) then 1 else 0)) (tnS (σ) l_ u_ a_ c_) := by
  refine CI_of (ty := .boolean) (by decide) (nb_ite) (Nat.le_of_ble_eq_true rfl) ?_
  intro p e R s m args below meth c Q hx hb hml hown hts hK hRf hRl hW hret ls hl
  have hown : s.vm.findClass "LovePartsModel" = some m.cls := hown
  have hS : va_S (AB B) s.heap s.heap [] := va_S.rf
  have hl : lv_has ls 5 [(0, .ref (B + 202)), (1, .int (iI (l_))), (2, .int (iI (u_))), (3, .int (iI (((a_ : Nat) : Int)))), (4, .int (iI (c_)))] := hl
  have hpb := PS_bd hps
  have htp := hps.2.2
  refine lv_aload_n hx hb dX12_takesNumber_0 rfl (lv_at hl 0 rfl) ?_
  refine wz_get hx hb hts hown hK hW 202 11 (by decide) e_202 rfl (by decide) inG12 w_826 rfl rfl dX12_takesNumber_1 ?_
  refine zi_con hx hb dX12_takesNumber_4 ?_
  refine zi_cne (tgt := 23) hx hb dX12_takesNumber_5 (by decide) (by omega) (by omega) (fun c5 => ?_) (fun c5 => ?_)
  · refine lv_aload_n hx hb dX12_takesNumber_23 rfl (lv_at hl 0 rfl) ?_
    refine lv_aload_n hx hb dX12_takesNumber_24 rfl (lv_at hl 0 rfl) ?_
    refine wz_get hx hb hts hown hK hW 202 11 (by decide) e_202 rfl (by decide) inG12 w_826 rfl rfl dX12_takesNumber_25 ?_
    refine zi_con hx hb dX12_takesNumber_28 ?_
    refine zi_cne (tgt := 36) hx hb dX12_takesNumber_29 (by decide) (by omega) (by omega) (fun c29 => ?_) (fun c29 => ?_)
    · refine zi_con hx hb dX12_takesNumber_36 ?_
      refine k_vi (fr := 3) (lo := 66) (r := (if False then 1 else 0)) (σ' := (up σ 202 14 1)) (As := [.int (iI (1))]) (rest := []) hx hb hml hown hts hK hRf hRl hW hS (c_X12_faults l D cy B σ 1 ) vX12_faults ⟨w_964, w_24⟩ w_962 (by decide) e_202 rfl ⟨Nat.le_of_ble_eq_true rfl, Nat.le_of_ble_eq_true rfl⟩ hl.1 rfl (Nat.le_of_ble_eq_true rfl) ⟨Nat.zero_le _, Nat.zero_le _⟩ dX12_takesNumber_37 (fun H locs hW hS => ?_)
      exact hret _ _ _ _ _ _ dX12_takesNumber_40 hW hS ⟨by (repeat' split) <;> first | rfl | omega | simp_all, by unfold tnS; (repeat' split) <;> first | rfl | omega⟩
    · refine zi_con hx hb dX12_takesNumber_32 ?_
      refine lv_goto (tgt := 37) hx hb dX12_takesNumber_33 (by decide) ?_
      refine k_vi (fr := 3) (lo := 66) (r := (if False then 1 else 0)) (σ' := (up σ 202 14 2)) (As := [.int (iI (2))]) (rest := []) hx hb hml hown hts hK hRf hRl hW hS (c_X12_faults l D cy B σ 2 ) vX12_faults ⟨w_964, w_24⟩ w_962 (by decide) e_202 rfl ⟨Nat.le_of_ble_eq_true rfl, Nat.le_of_ble_eq_true rfl⟩ hl.1 rfl (Nat.le_of_ble_eq_true rfl) ⟨Nat.zero_le _, Nat.zero_le _⟩ dX12_takesNumber_37 (fun H locs hW hS => ?_)
      exact hret _ _ _ _ _ _ dX12_takesNumber_40 hW hS ⟨by (repeat' split) <;> first | rfl | omega | simp_all, by unfold tnS; (repeat' split) <;> first | rfl | omega⟩
  · refine lv_aload_n hx hb dX12_takesNumber_8 rfl (lv_at hl 0 rfl) ?_
    refine wz_get hx hb hts hown hK hW 202 12 (by decide) e_202 rfl (by decide) inG12 w_827 rfl rfl dX12_takesNumber_9 ?_
    refine zi_i2l hx hb dX12_takesNumber_12 (by omega) ?_
    refine lv_iload_n hx hb dX12_takesNumber_13 rfl (lv_at hl 1 rfl) ?_
    refine zi_i2l hx hb dX12_takesNumber_14 (by omega) ?_
    refine lv_iload_n hx hb dX12_takesNumber_15 rfl (lv_at hl 2 rfl) ?_
    refine zi_i2l hx hb dX12_takesNumber_16 (by omega) ?_
    refine k_si (fr := 3) (lo := 66) (r := (if l_ ≤ (σ 202 12) ∧ (σ 202 12) ≤ u_ then 1 else 0)) (As := [.long (lI (σ 202 12)), .long (lI (l_)), .long (lI (u_))]) (rest := []) hx hb hml hown hts hK hRf hRl hW hS (c_X12_in l D cy B σ (σ 202 12) l_ u_ (show -9223372036854775808 ≤ (σ 202 12) ∧ (σ 202 12) < 9223372036854775808 from (by first | assumption | omega | (simp only [tpL_25, List.length_cons, List.length_nil]; omega))) (show -9223372036854775808 ≤ l_ ∧ l_ < 9223372036854775808 from (by first | assumption | omega | (simp only [tpL_25, List.length_cons, List.length_nil]; omega))) (show -9223372036854775808 ≤ u_ ∧ u_ < 9223372036854775808 from (by first | assumption | omega | (simp only [tpL_25, List.length_cons, List.length_nil]; omega)))) vX12_in w_904 w_903 ⟨Nat.le_of_ble_eq_true rfl, Nat.le_of_ble_eq_true rfl⟩ hl.1 rfl (Nat.le_of_ble_eq_true rfl) ⟨Nat.zero_le _, Nat.zero_le _⟩ dX12_takesNumber_17 (fun H locs hW hS => ?_)
    refine zi_bne (tgt := 41) hx hb dX12_takesNumber_20 (by decide) (fun c20 => ?_) (fun c20 => ?_)
    · refine lv_aload_n hx hb dX12_takesNumber_41 rfl (lv_at hl 0 rfl) ?_
      refine wz_get hx hb hts hown hK hW 202 15 (by decide) e_202 rfl (by decide) inG12 w_830 rfl rfl dX12_takesNumber_42 ?_
      refine lv_iload_n hx hb dX12_takesNumber_45 rfl (lv_at hl 3 rfl) ?_
      refine lv_aload_n hx hb dX12_takesNumber_46 rfl (lv_at hl 0 rfl) ?_
      refine wz_get hx hb hts hown hK hW 202 12 (by decide) e_202 rfl (by decide) inG12 w_827 rfl rfl dX12_takesNumber_47 ?_
      refine wz_ast (σ' := (up σ 209 a_ (σ 202 12))) hx hb hK hW hS 209 a_ (by decide) e_209 (by omega) (by omega) (by decide) p_209 dX12_takesNumber_50 (fun H locs hW hS => ?_)
      refine lv_aload_n hx hb dX12_takesNumber_51 rfl (lv_at hl 0 rfl) ?_
      refine k_vv (fr := 3) (lo := 66) (σ' := (ntk (up σ 209 a_ (σ 202 12)))) (As := []) (rest := []) hx hb hml hown hts hK hRf hRl hW hS (c_X12_nextToken l D cy B (up σ 209 a_ (σ 202 12))  (show (0 ≤ σ 202 10 ∧ σ 202 10 ≤ σ 202 8) ∧ σ 202 8 ≤ 100 from (by first | assumption | omega | (simp only [tpL_25, List.length_cons, List.length_nil]; omega))) (show ∀ k, k < 100 → 0 ≤ σ 208 k ∧ σ 208 k ≤ 255 from (by first | assumption | omega | (simp only [tpL_25, List.length_cons, List.length_nil]; omega)))) vX12_nextToken ⟨w_948, w_21⟩ w_946 (by decide) e_202 rfl ⟨Nat.le_of_ble_eq_true rfl, Nat.le_of_ble_eq_true rfl⟩ hl.1 rfl (Nat.le_of_ble_eq_true rfl) ⟨Nat.zero_le _, Nat.zero_le _⟩ dX12_takesNumber_52 (fun H locs hW hS => ?_)
      refine lv_aload_n hx hb dX12_takesNumber_55 rfl (lv_at hl 0 rfl) ?_
      refine lv_iload hx hb dX12_takesNumber_56 (lv_at hl 4 rfl) ?_
      refine k_vi (fr := 3) (lo := 66) (r := (if (ntk (up σ 209 a_ (σ 202 12))) 202 11 = 1 ∧ (ntk (up σ 209 a_ (σ 202 12))) 202 12 = c_ then 1 else 0)) (σ' := (tkS ((ntk (up σ 209 a_ (σ 202 12)))) c_)) (As := [.int (iI (c_))]) (rest := []) hx hb hml hown hts hK hRf hRl hW hS (c_X12_takes l D cy B (ntk (up σ 209 a_ (σ 202 12))) (tpl (σ 208) (σ 202 8).toNat b_) c_ (show -2147483648 ≤ c_ ∧ c_ < 2147483648 from (by first | assumption | omega | (simp only [tpL_25, List.length_cons, List.length_nil]; omega))) (show PS ((ntk (up σ 209 a_ (σ 202 12)))) (tpl (σ 208) (σ 202 8).toNat b_) from (PS_ntk (PS_209 hps)))) vX12_takes ⟨w_956, w_22⟩ w_954 (by decide) e_202 rfl ⟨Nat.le_of_ble_eq_true rfl, Nat.le_of_ble_eq_true rfl⟩ hl.1 rfl (Nat.le_of_ble_eq_true rfl) ⟨Nat.zero_le _, Nat.zero_le _⟩ dX12_takesNumber_58 (fun H locs hW hS => ?_)
      exact hret _ _ _ _ _ _ dX12_takesNumber_61 hW hS ⟨by (repeat' split) <;> first | rfl | omega | simp_all, by unfold tnS; (repeat' split) <;> first | rfl | omega⟩
    · refine lv_aload_n hx hb dX12_takesNumber_23 rfl (lv_at hl 0 rfl) ?_
      refine lv_aload_n hx hb dX12_takesNumber_24 rfl (lv_at hl 0 rfl) ?_
      refine wz_get hx hb hts hown hK hW 202 11 (by decide) e_202 rfl (by decide) inG12 w_826 rfl rfl dX12_takesNumber_25 ?_
      refine zi_con hx hb dX12_takesNumber_28 ?_
      refine zi_cne (tgt := 36) hx hb dX12_takesNumber_29 (by decide) (by omega) (by omega) (fun c29 => ?_) (fun c29 => ?_)
      · refine zi_con hx hb dX12_takesNumber_36 ?_
        refine k_vi (fr := 3) (lo := 66) (r := (if False then 1 else 0)) (σ' := (up σ 202 14 1)) (As := [.int (iI (1))]) (rest := []) hx hb hml hown hts hK hRf hRl hW hS (c_X12_faults l D cy B σ 1 ) vX12_faults ⟨w_964, w_24⟩ w_962 (by decide) e_202 rfl ⟨Nat.le_of_ble_eq_true rfl, Nat.le_of_ble_eq_true rfl⟩ hl.1 rfl (Nat.le_of_ble_eq_true rfl) ⟨Nat.zero_le _, Nat.zero_le _⟩ dX12_takesNumber_37 (fun H locs hW hS => ?_)
        exact hret _ _ _ _ _ _ dX12_takesNumber_40 hW hS ⟨by (repeat' split) <;> first | rfl | omega | simp_all, by unfold tnS; (repeat' split) <;> first | rfl | omega⟩
      · refine zi_con hx hb dX12_takesNumber_32 ?_
        refine lv_goto (tgt := 37) hx hb dX12_takesNumber_33 (by decide) ?_
        refine k_vi (fr := 3) (lo := 66) (r := (if False then 1 else 0)) (σ' := (up σ 202 14 2)) (As := [.int (iI (2))]) (rest := []) hx hb hml hown hts hK hRf hRl hW hS (c_X12_faults l D cy B σ 2 ) vX12_faults ⟨w_964, w_24⟩ w_962 (by decide) e_202 rfl ⟨Nat.le_of_ble_eq_true rfl, Nat.le_of_ble_eq_true rfl⟩ hl.1 rfl (Nat.le_of_ble_eq_true rfl) ⟨Nat.zero_le _, Nat.zero_le _⟩ dX12_takesNumber_37 (fun H locs hW hS => ?_)
        exact hret _ _ _ _ _ _ dX12_takesNumber_40 hW hS ⟨by (repeat' split) <;> first | rfl | omega | simp_all, by unfold tnS; (repeat' split) <;> first | rfl | omega⟩
