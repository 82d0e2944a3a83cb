
set_option maxRecDepth 100000 in
set_option maxHeartbeats 4000000 in
theorem c_X12_ahead (l : Launch) (D : va_G) (cy : Nat → ClassId) (B : Nat) (σ : Sg) (z_ : Int) (w_ : Int) (r_z_ : -2147483648 ≤ z_ ∧ z_ < 2147483648) (r_w_ : -2147483648 ≤ w_ ∧ w_ < 2147483648) (hok : σ 206 4 = 0 ∨ okV (σ 206)) (hith : σ 202 4 = if σ 206 4 = 0 then 0 else 1) (hm : σ 206 5 ≤ 999) : CI l yX12_ahead cX12_ahead 4 (some .int) 2 45 D cy B [.ref (B + 202), .int (iI (z_)), .int (iI (w_))] σ (if σ 206 4 = 0 then -1000002 else if ¬ (0 ≤ z_ ∧ z_ ≤ 60) ∨ ¬ (0 ≤ w_ ∧ w_ ≤ 1) then -1000001 else if w_ = 0 then itf mon z_.toNat (σ 206) 1 else brk (itf mon z_.toNat (σ 206))) (if σ 206 4 = 0 then σ else if ¬ (0 ≤ z_ ∧ z_ ≤ 60) ∨ ¬ (0 ≤ w_ ∧ w_ ≤ 1) then σ else us σ 212 (σ 206)) := by
  refine CI_of (ty := .int) (by decide) (rfl) (Nat.le_of_ble_eq_true rfl) ?_
  intro p e R s m args below meth c Q hx hb hml hown hts hK hRf hRl hW hret ls hl
  have hown : s.vm.findClass "LovePartsModel" = some m.cls := hown
  have hS : va_S (AB B) s.heap s.heap [] := va_S.rf
  have hl : lv_has ls 4 [(0, .ref (B + 202)), (1, .int (iI (z_))), (2, .int (iI (w_)))] := hl
  have hbi : -2147483648 ≤ σ 202 4 ∧ σ 202 4 < 2147483648 := by rw [hith]; split <;> omega
  have hit : (σ 202 4 = 0 ∧ σ 206 4 = 0) ∨ (σ 202 4 = 1 ∧ ¬ σ 206 4 = 0) := by rw [hith]; split <;> simp_all
  refine lv_aload_n hx hb dX12_ahead_0 rfl (lv_at hl 0 rfl) ?_
  refine wz_get hx hb hts hown hK hW 202 4 (by decide) e_202 rfl (by decide) inG12 w_819 rfl rfl dX12_ahead_1 ?_
  refine zi_ne (tgt := 10) hx hb dX12_ahead_4 (by decide) (by omega) (fun c4 => ?_) (fun c4 => ?_)
  · have hok := hok.resolve_left (by omega)
    obtain ⟨o4, o0, o1, o2, o3, o5, o6, o7, oH⟩ := id hok
    refine lv_iload_n hx hb dX12_ahead_10 rfl (lv_at hl 1 rfl) ?_
    refine zi_i2l hx hb dX12_ahead_11 (by omega) ?_
    refine zi_lcon (z := 0) hx hb dX12_ahead_12 (by decide) ?_
    refine k_ldc2 hx hb hown hts (v := 60) (by decide) w_1098 dX12_ahead_13 ?_
    refine k_si (fr := 2) (lo := 45) (r := (if 0 ≤ z_ ∧ z_ ≤ 60 then 1 else 0)) (As := [.long (lI (z_)), .long (lI (0)), .long (lI (60))]) (rest := []) hx hb hml hown hts hK hRf hRl hW hS (c_X12_in l D cy B σ z_ 0 60 (show -9223372036854775808 ≤ z_ ∧ z_ < 9223372036854775808 from (by first | assumption | omega | (simp only [tpL_25, List.length_cons, List.length_nil]; omega))) (show -9223372036854775808 ≤ 0 ∧ 0 < 9223372036854775808 from (by first | assumption | omega | (simp only [tpL_25, List.length_cons, List.length_nil]; omega))) (show -9223372036854775808 ≤ 60 ∧ 60 < 9223372036854775808 from (by first | assumption | omega | (simp only [tpL_25, List.length_cons, List.length_nil]; omega)))) vX12_in w_904 w_903 ⟨Nat.le_of_ble_eq_true rfl, Nat.le_of_ble_eq_true rfl⟩ hl.1 rfl (Nat.le_of_ble_eq_true rfl) ⟨Nat.zero_le _, Nat.zero_le _⟩ dX12_ahead_16 (fun H locs hW hS => ?_)
    refine zi_beq (tgt := 32) hx hb dX12_ahead_19 (by decide) (fun c19 => ?_) (fun c19 => ?_)
    · refine k_ldc hx hb hown hts (v := -1000001) (by decide) w_907 dX12_ahead_32 ?_
      exact hret _ _ _ _ _ _ dX12_ahead_34 hW hS ⟨by (try simp only [Int.toNat_natCast]); (repeat' split) <;> first | rfl | omega, by (try simp only [Int.toNat_natCast]); (repeat' split) <;> first | rfl | omega⟩
    · refine lv_iload_n hx hb dX12_ahead_22 rfl (lv_at hl 2 rfl) ?_
      refine zi_i2l hx hb dX12_ahead_23 (by omega) ?_
      refine zi_lcon (z := 0) hx hb dX12_ahead_24 (by decide) ?_
      refine zi_lcon (z := 1) hx hb dX12_ahead_25 (by decide) ?_
      refine k_si (fr := 2) (lo := 45) (r := (if 0 ≤ w_ ∧ w_ ≤ 1 then 1 else 0)) (As := [.long (lI (w_)), .long (lI (0)), .long (lI (1))]) (rest := []) hx hb hml hown hts hK hRf hRl hW hS (c_X12_in l D cy B σ w_ 0 1 (show -9223372036854775808 ≤ w_ ∧ w_ < 9223372036854775808 from (by first | assumption | omega | (simp only [tpL_25, List.length_cons, List.length_nil]; omega))) (show -9223372036854775808 ≤ 0 ∧ 0 < 9223372036854775808 from (by first | assumption | omega | (simp only [tpL_25, List.length_cons, List.length_nil]; omega))) (show -9223372036854775808 ≤ 1 ∧ 1 < 9223372036854775808 from (by first | assumption | omega | (simp only [tpL_25, List.length_cons, List.length_nil]; omega)))) vX12_in w_904 w_903 ⟨Nat.le_of_ble_eq_true rfl, Nat.le_of_ble_eq_true rfl⟩ hl.1 rfl (Nat.le_of_ble_eq_true rfl) ⟨Nat.zero_le _, Nat.zero_le _⟩ dX12_ahead_26 (fun H locs hW hS => ?_)
      refine zi_bne (tgt := 35) hx hb dX12_ahead_29 (by decide) (fun c29 => ?_) (fun c29 => ?_)
      · refine lv_aload_n hx hb dX12_ahead_35 rfl (lv_at hl 0 rfl) ?_
        refine k_vv (fr := 2) (lo := 45) (σ' := (us σ 212 (σ 206))) (As := []) (rest := []) hx hb hml hown hts hK hRf hRl hW hS (c_X12_putAside l D cy B σ  ) vX12_putAside ⟨w_1066, w_37⟩ w_1064 (by decide) e_202 rfl ⟨Nat.le_of_ble_eq_true rfl, Nat.le_of_ble_eq_true rfl⟩ hl.1 rfl (Nat.le_of_ble_eq_true rfl) ⟨Nat.zero_le _, Nat.zero_le _⟩ dX12_ahead_36 (fun H locs hW hS => ?_)
        refine zi_con hx hb dX12_ahead_39 ?_
        refine lv_istore_n (lv' := [(3, .int (iI (0))), (0, .ref (B + 202)), (1, .int (iI (z_))), (2, .int (iI (w_)))]) hx hb dX12_ahead_40 rfl hl (by decide) rfl (fun ls hl => ?_)
        have L41 : ∀ (n41 : Nat) (k_ : Nat) (H : Heap) (locs : List Loc) (ls : Array Slot), 60 - k_ < n41 → ((k_ : Int) ≤ z_) → wd D cy B (us (us σ 212 (σ 206)) 206 (itf mon k_ (σ 206))) H → va_S (AB B) s.heap H locs → lv_has ls 4 [(3, .int (iI (((k_ : Nat) : Int)))), (0, .ref (B + 202)), (1, .int (iI (z_))), (2, .int (iI (w_)))] → W p l e R s m args below meth c H locs 0 0 Q (F0 m 41 ls []) := by
          intro n41
          induction n41 with
          | zero => intro k_ H locs ls hms; omega
          | succ n41 ih41 =>
            intro k_ H locs ls hms41 hk hW hS hl
            have hit2 := okV_it hok (n := k_) (by omega)
            have ho2 := hit2.1.2.2.1
            have ho4 := hit2.1.1
            refine lv_iload_n hx hb dX12_ahead_41 rfl (lv_at hl 0 rfl) ?_
            refine lv_iload_n hx hb dX12_ahead_42 rfl (lv_at hl 2 rfl) ?_
            refine zi_cge (tgt := 56) hx hb dX12_ahead_43 (by decide) (by omega) (by omega) (fun c43 => ?_) (fun c43 => ?_)
            · have hkz : z_.toNat = k_ := by omega
              refine lv_iload_n hx hb dX12_ahead_56 rfl (lv_at hl 3 rfl) ?_
              refine zi_ne (tgt := 69) hx hb dX12_ahead_57 (by decide) (by omega) (fun c57 => ?_) (fun c57 => ?_)
              · refine lv_aload_n hx hb dX12_ahead_69 rfl (lv_at hl 1 rfl) ?_
                refine k_vi (fr := 2) (lo := 45) (r := brk ((us (us σ 212 (σ 206)) 206 (itf mon k_ (σ 206))) 206)) (As := []) (rest := []) hx hb hml hown hts hK hRf hRl hW hS (c_X12_brokenAll l D cy B (us (us σ 212 (σ 206)) 206 (itf mon k_ (σ 206)))  (show (us (us σ 212 (σ 206)) 206 (itf mon k_ (σ 206))) 206 4 = 0 ∨ okV ((us (us σ 212 (σ 206)) 206 (itf mon k_ (σ 206))) 206) from (by show (itf mon k_ (σ 206)) 4 = 0 ∨ okV (itf mon k_ (σ 206)); exact Or.inr hit2.1))) vX12_brokenAll ⟨w_1101, w_41⟩ w_1099 (by decide) e_202 rfl ⟨Nat.le_of_ble_eq_true rfl, Nat.le_of_ble_eq_true rfl⟩ hl.1 rfl (Nat.le_of_ble_eq_true rfl) ⟨Nat.zero_le _, Nat.zero_le _⟩ dX12_ahead_70 (fun H locs hW hS => ?_)
                refine zi_top (y := brk (itf mon k_ (σ 206))) (by rfl) ?_
                refine lv_istore_n (lv' := [(3, .int (iI (brk (itf mon k_ (σ 206))))), (0, .ref (B + 202)), (1, .int (iI (z_))), (2, .int (iI (w_)))]) hx hb dX12_ahead_73 rfl hl (by decide) rfl (fun ls hl => ?_)
                refine lv_aload_n hx hb dX12_ahead_74 rfl (lv_at hl 1 rfl) ?_
                refine k_vv (fr := 2) (lo := 45) (σ' := (us (us (us σ 212 (σ 206)) 206 (itf mon k_ (σ 206))) 206 ((us (us σ 212 (σ 206)) 206 (itf mon k_ (σ 206))) 212))) (As := []) (rest := []) hx hb hml hown hts hK hRf hRl hW hS (c_X12_takeBack l D cy B (us (us σ 212 (σ 206)) 206 (itf mon k_ (σ 206)))  ) vX12_takeBack ⟨w_1070, w_38⟩ w_1068 (by decide) e_202 rfl ⟨Nat.le_of_ble_eq_true rfl, Nat.le_of_ble_eq_true rfl⟩ hl.1 rfl (Nat.le_of_ble_eq_true rfl) ⟨Nat.zero_le _, Nat.zero_le _⟩ dX12_ahead_75 (fun H locs hW hS => ?_)
                refine lv_iload_n hx hb dX12_ahead_78 rfl (lv_at hl 0 rfl) ?_
                exact hret _ _ _ _ _ _ dX12_ahead_79 hW hS ⟨by (repeat' split) <;> first | (subst hkz; rfl) | omega, by rw [if_neg (by omega), if_neg (by omega), us_us]; exact us_id (us σ 212 (σ 206)) 206⟩
              · refine lv_aload_n hx hb dX12_ahead_60 rfl (lv_at hl 1 rfl) ?_
                refine wz_get hx hb hts hown hK hW 202 5 (by decide) e_202 rfl (by decide) inG12 w_820 rfl rfl dX12_ahead_61 ?_
                refine zi_con hx hb dX12_ahead_64 ?_
                refine wz_ald hx hb hK hW 206 1 (by decide) e_206 (by omega) (by omega) (by decide) dX12_ahead_65 ?_
                refine zi_top (y := (itf mon k_ (σ 206)) 1) (by rfl) ?_
                refine lv_goto (tgt := 73) hx hb dX12_ahead_66 (by decide) ?_
                refine lv_istore_n (lv' := [(3, .int (iI ((itf mon k_ (σ 206)) 1))), (0, .ref (B + 202)), (1, .int (iI (z_))), (2, .int (iI (w_)))]) hx hb dX12_ahead_73 rfl hl (by decide) rfl (fun ls hl => ?_)
                refine lv_aload_n hx hb dX12_ahead_74 rfl (lv_at hl 1 rfl) ?_
                refine k_vv (fr := 2) (lo := 45) (σ' := (us (us (us σ 212 (σ 206)) 206 (itf mon k_ (σ 206))) 206 ((us (us σ 212 (σ 206)) 206 (itf mon k_ (σ 206))) 212))) (As := []) (rest := []) hx hb hml hown hts hK hRf hRl hW hS (c_X12_takeBack l D cy B (us (us σ 212 (σ 206)) 206 (itf mon k_ (σ 206)))  ) vX12_takeBack ⟨w_1070, w_38⟩ w_1068 (by decide) e_202 rfl ⟨Nat.le_of_ble_eq_true rfl, Nat.le_of_ble_eq_true rfl⟩ hl.1 rfl (Nat.le_of_ble_eq_true rfl) ⟨Nat.zero_le _, Nat.zero_le _⟩ dX12_ahead_75 (fun H locs hW hS => ?_)
                refine lv_iload_n hx hb dX12_ahead_78 rfl (lv_at hl 0 rfl) ?_
                exact hret _ _ _ _ _ _ dX12_ahead_79 hW hS ⟨by (repeat' split) <;> first | (subst hkz; rfl) | omega, by rw [if_neg (by omega), if_neg (by omega), us_us]; exact us_id (us σ 212 (σ 206)) 206⟩
            · refine lv_aload_n hx hb dX12_ahead_46 rfl (lv_at hl 1 rfl) ?_
              refine k_vv (fr := 2) (lo := 45) (σ' := (us (us (us σ 212 (σ 206)) 206 (itf mon k_ (σ 206))) 206 (mon ((us (us σ 212 (σ 206)) 206 (itf mon k_ (σ 206))) 206)))) (As := []) (rest := []) hx hb hml hown hts hK hRf hRl hW hS (c_X12_oneMonth l D cy B (us (us σ 212 (σ 206)) 206 (itf mon k_ (σ 206)))  (show okV ((us (us σ 212 (σ 206)) 206 (itf mon k_ (σ 206))) 206) from (by show okV (itf mon k_ (σ 206)); exact hit2.1))) vX12_oneMonth ⟨w_1034, w_34⟩ w_1032 (by decide) e_202 rfl ⟨Nat.le_of_ble_eq_true rfl, Nat.le_of_ble_eq_true rfl⟩ hl.1 rfl (Nat.le_of_ble_eq_true rfl) ⟨Nat.zero_le _, Nat.zero_le _⟩ dX12_ahead_47 (fun H locs hW hS => ?_)
              refine lv_iinc (v := iI (((k_ : Nat) : Int) + 1)) (lv' := [(3, .int (iI (((k_ : Nat) : Int) + 1))), (0, .ref (B + 202)), (1, .int (iI (z_))), (2, .int (iI (w_)))]) hx hb dX12_ahead_50 hl (k := 0) rfl (iI_add _ _) (by decide) rfl (fun ls hl => ?_)
              refine lv_goto (tgt := 41) hx hb dX12_ahead_53 (by decide) ?_
              exact ih41 (k_ + 1) _ _ _ (by omega) (by omega) (by have h2 := hW; rw [us_us] at h2; exact h2) hS (lv_sub hl [0, 1, 2, 3] rfl)
        exact L41 _ 0 _ _ _ (Nat.lt_succ_self _) (by omega) (by rw [show us (us σ 212 (σ 206)) 206 (itf mon 0 (σ 206)) = (us σ 212 (σ 206)) from us_id (us σ 212 (σ 206)) 206]; exact hW) hS (lv_sub hl [0, 1, 2, 3] rfl)
      · refine k_ldc hx hb hown hts (v := -1000001) (by decide) w_907 dX12_ahead_32 ?_
        exact hret _ _ _ _ _ _ dX12_ahead_34 hW hS ⟨by (try simp only [Int.toNat_natCast]); (repeat' split) <;> first | rfl | omega, by (try simp only [Int.toNat_natCast]); (repeat' split) <;> first | rfl | omega⟩
  · refine k_ldc hx hb hown hts (v := -1000002) (by decide) w_983 dX12_ahead_7 ?_
    exact hret _ _ _ _ _ _ dX12_ahead_9 hW hS ⟨by (try simp only [Int.toNat_natCast]); (repeat' split) <;> first | rfl | omega, by (try simp only [Int.toNat_natCast]); (repeat' split) <;> first | rfl | omega⟩

set_option maxRecDepth 100000 in
set_option maxHeartbeats 4000000 in
theorem c_X12_down (l : Launch) (D : va_G) (cy : Nat → ClassId) (B : Nat) (σ : Sg) (z_ : Int) (r_z_ : -2147483648 ≤ z_ ∧ z_ < 2147483648) (hok : σ 206 4 = 0 ∨ okV (σ 206)) (hith : σ 202 4 = if σ 206 4 = 0 then 0 else 1) (hm : σ 206 5 ≤ 999) : CI l yX12_down cX12_down 4 (some .int) 2 45 D cy B [.ref (B + 202), .int (iI (z_))] σ (if σ 206 4 = 0 then -1000002 else if ¬ (1 ≤ z_ ∧ z_ ≤ 99) then -1000001 else dw (σ 206) z_ 61 0) (if σ 206 4 = 0 then σ else if ¬ (1 ≤ z_ ∧ z_ ≤ 99) then σ else us σ 212 (σ 206)) := by
  refine CI_of (ty := .int) (by decide) (rfl) (Nat.le_of_ble_eq_true rfl) ?_
  intro p e R s m args below meth c Q hx hb hml hown hts hK hRf hRl hW hret ls hl
  have hown : s.vm.findClass "LovePartsModel" = some m.cls := hown
  have hS : va_S (AB B) s.heap s.heap [] := va_S.rf
  have hl : lv_has ls 4 [(0, .ref (B + 202)), (1, .int (iI (z_)))] := hl
  have hbi : -2147483648 ≤ σ 202 4 ∧ σ 202 4 < 2147483648 := by rw [hith]; split <;> omega
  have hit : (σ 202 4 = 0 ∧ σ 206 4 = 0) ∨ (σ 202 4 = 1 ∧ ¬ σ 206 4 = 0) := by rw [hith]; split <;> simp_all
  refine lv_aload_n hx hb dX12_down_0 rfl (lv_at hl 0 rfl) ?_
  refine wz_get hx hb hts hown hK hW 202 4 (by decide) e_202 rfl (by decide) inG12 w_819 rfl rfl dX12_down_1 ?_
  refine zi_ne (tgt := 10) hx hb dX12_down_4 (by decide) (by omega) (fun c4 => ?_) (fun c4 => ?_)
  · have hok := hok.resolve_left (by omega)
    obtain ⟨o4, o0, o1, o2, o3, o5, o6, o7, oH⟩ := id hok
    refine lv_iload_n hx hb dX12_down_10 rfl (lv_at hl 1 rfl) ?_
    refine zi_i2l hx hb dX12_down_11 (by omega) ?_
    refine zi_lcon (z := 1) hx hb dX12_down_12 (by decide) ?_
    refine k_ldc2 hx hb hown hts (v := 99) (by decide) w_1107 dX12_down_13 ?_
    refine k_si (fr := 2) (lo := 45) (r := (if 1 ≤ z_ ∧ z_ ≤ 99 then 1 else 0)) (As := [.long (lI (z_)), .long (lI (1)), .long (lI (99))]) (rest := []) hx hb hml hown hts hK hRf hRl hW hS (c_X12_in l D cy B σ z_ 1 99 (show -9223372036854775808 ≤ z_ ∧ z_ < 9223372036854775808 from (by first | assumption | omega | (simp only [tpL_25, List.length_cons, List.length_nil]; omega))) (show -9223372036854775808 ≤ 1 ∧ 1 < 9223372036854775808 from (by first | assumption | omega | (simp only [tpL_25, List.length_cons, List.length_nil]; omega))) (show -9223372036854775808 ≤ 99 ∧ 99 < 9223372036854775808 from (by first | assumption | omega | (simp only [tpL_25, List.length_cons, List.length_nil]; omega)))) vX12_in w_904 w_903 ⟨Nat.le_of_ble_eq_true rfl, Nat.le_of_ble_eq_true rfl⟩ hl.1 rfl (Nat.le_of_ble_eq_true rfl) ⟨Nat.zero_le _, Nat.zero_le _⟩ dX12_down_16 (fun H locs hW hS => ?_)
    refine zi_bne (tgt := 25) hx hb dX12_down_19 (by decide) (fun c19 => ?_) (fun c19 => ?_)
    · refine lv_aload_n hx hb dX12_down_25 rfl (lv_at hl 0 rfl) ?_
      refine k_vv (fr := 2) (lo := 45) (σ' := (us σ 212 (σ 206))) (As := []) (rest := []) hx hb hml hown hts hK hRf hRl hW hS (c_X12_putAside l D cy B σ  ) vX12_putAside ⟨w_1066, w_37⟩ w_1064 (by decide) e_202 rfl ⟨Nat.le_of_ble_eq_true rfl, Nat.le_of_ble_eq_true rfl⟩ hl.1 rfl (Nat.le_of_ble_eq_true rfl) ⟨Nat.zero_le _, Nat.zero_le _⟩ dX12_down_26 (fun H locs hW hS => ?_)
      refine zi_con hx hb dX12_down_29 ?_
      refine lv_istore_n (lv' := [(2, .int (iI (0))), (0, .ref (B + 202)), (1, .int (iI (z_)))]) hx hb dX12_down_30 rfl hl (by decide) rfl (fun ls hl => ?_)
      have L31 : ∀ (n31 : Nat) (k_ : Nat) (H : Heap) (locs : List Loc) (ls : Array Slot), 60 - k_ < n31 → (k_ ≤ 60) → (dw (σ 206) z_ 61 0 = dw (σ 206) z_ (61 - k_) k_) → wd D cy B (us (us σ 212 (σ 206)) 206 (itf mon k_ (σ 206))) H → va_S (AB B) s.heap H locs → lv_has ls 4 [(2, .int (iI (((k_ : Nat) : Int)))), (0, .ref (B + 202)), (1, .int (iI (z_)))] → W p l e R s m args below meth c H locs 0 0 Q (F0 m 31 ls []) := by
        intro n31
        induction n31 with
        | zero => intro k_ H locs ls hms; omega
        | succ n31 ih31 =>
          intro k_ H locs ls hms31 hk hd hW hS hl
          have hit2 := okV_it hok (n := k_) (by omega)
          have ho2 := hit2.1.2.2.1
          have ho4 := hit2.1.1
          refine lv_iload_n hx hb dX12_down_31 rfl (lv_at hl 0 rfl) ?_
          refine zi_bip hx hb dX12_down_32 (by decide) ?_
          refine zi_cge (tgt := 57) hx hb dX12_down_34 (by decide) (by omega) (by omega) (fun c34 => ?_) (fun c34 => ?_)
          · refine lv_aload_n hx hb dX12_down_57 rfl (lv_at hl 1 rfl) ?_
            refine wz_get hx hb hts hown hK hW 202 5 (by decide) e_202 rfl (by decide) inG12 w_820 rfl rfl dX12_down_58 ?_
            refine zi_con hx hb dX12_down_61 ?_
            refine wz_ald hx hb hK hW 206 1 (by decide) e_206 (by omega) (by omega) (by decide) dX12_down_62 ?_
            refine zi_top (y := (itf mon k_ (σ 206)) 1) (by rfl) ?_
            refine lv_iload_n hx hb dX12_down_63 rfl (lv_at hl 2 rfl) ?_
            refine zi_cge (tgt := 71) hx hb dX12_down_64 (by decide) (by omega) (by omega) (fun c64 => ?_) (fun c64 => ?_)
            · refine zi_con hx hb dX12_down_71 ?_
              refine lv_istore_n (lv' := [(3, .int (iI (0))), (2, .int (iI (((k_ : Nat) : Int)))), (0, .ref (B + 202)), (1, .int (iI (z_)))]) hx hb dX12_down_72 rfl hl (by decide) rfl (fun ls hl => ?_)
              refine lv_aload_n hx hb dX12_down_73 rfl (lv_at hl 2 rfl) ?_
              refine k_vv (fr := 2) (lo := 45) (σ' := (us (us (us σ 212 (σ 206)) 206 (itf mon k_ (σ 206))) 206 ((us (us σ 212 (σ 206)) 206 (itf mon k_ (σ 206))) 212))) (As := []) (rest := []) hx hb hml hown hts hK hRf hRl hW hS (c_X12_takeBack l D cy B (us (us σ 212 (σ 206)) 206 (itf mon k_ (σ 206)))  ) vX12_takeBack ⟨w_1070, w_38⟩ w_1068 (by decide) e_202 rfl ⟨Nat.le_of_ble_eq_true rfl, Nat.le_of_ble_eq_true rfl⟩ hl.1 rfl (Nat.le_of_ble_eq_true rfl) ⟨Nat.zero_le _, Nat.zero_le _⟩ dX12_down_74 (fun H locs hW hS => ?_)
              refine lv_iload_n hx hb dX12_down_77 rfl (lv_at hl 0 rfl) ?_
              refine zi_eq (tgt := 85) hx hb dX12_down_78 (by decide) (by omega) (fun c78 => ?_) (fun c78 => ?_)
              · refine k_ldc hx hb hown hts (v := -1000000) (by decide) w_1080 dX12_down_85 ?_
                exact hret _ _ _ _ _ _ dX12_down_87 hW hS ⟨by first | omega | (rw [if_neg (by omega), if_neg (by omega), hd, show 61 - k_ = (60 - k_) + 1 from by omega, dw_s]; (first | rw [if_pos (by omega)] | (rw [if_neg (by omega), show 60 - k_ = 0 from by omega]; rfl))), by rw [if_neg (by omega), if_neg (by omega), us_us]; exact us_id (us σ 212 (σ 206)) 206⟩
              · refine lv_iload_n hx hb dX12_down_81 rfl (lv_at hl 1 rfl) ?_
                refine lv_goto (tgt := 87) hx hb dX12_down_82 (by decide) ?_
                exact hret _ _ _ _ _ _ dX12_down_87 hW hS ⟨by first | omega | (rw [if_neg (by omega), if_neg (by omega), hd, show 61 - k_ = (60 - k_) + 1 from by omega, dw_s]; (first | rw [if_pos (by omega)] | (rw [if_neg (by omega), show 60 - k_ = 0 from by omega]; rfl))), by rw [if_neg (by omega), if_neg (by omega), us_us]; exact us_id (us σ 212 (σ 206)) 206⟩
            · refine zi_con hx hb dX12_down_67 ?_
              refine lv_goto (tgt := 72) hx hb dX12_down_68 (by decide) ?_
              refine lv_istore_n (lv' := [(3, .int (iI (1))), (2, .int (iI (((k_ : Nat) : Int)))), (0, .ref (B + 202)), (1, .int (iI (z_)))]) hx hb dX12_down_72 rfl hl (by decide) rfl (fun ls hl => ?_)
              refine lv_aload_n hx hb dX12_down_73 rfl (lv_at hl 2 rfl) ?_
              refine k_vv (fr := 2) (lo := 45) (σ' := (us (us (us σ 212 (σ 206)) 206 (itf mon k_ (σ 206))) 206 ((us (us σ 212 (σ 206)) 206 (itf mon k_ (σ 206))) 212))) (As := []) (rest := []) hx hb hml hown hts hK hRf hRl hW hS (c_X12_takeBack l D cy B (us (us σ 212 (σ 206)) 206 (itf mon k_ (σ 206)))  ) vX12_takeBack ⟨w_1070, w_38⟩ w_1068 (by decide) e_202 rfl ⟨Nat.le_of_ble_eq_true rfl, Nat.le_of_ble_eq_true rfl⟩ hl.1 rfl (Nat.le_of_ble_eq_true rfl) ⟨Nat.zero_le _, Nat.zero_le _⟩ dX12_down_74 (fun H locs hW hS => ?_)
              refine lv_iload_n hx hb dX12_down_77 rfl (lv_at hl 0 rfl) ?_
              refine zi_eq (tgt := 85) hx hb dX12_down_78 (by decide) (by omega) (fun c78 => ?_) (fun c78 => ?_)
              · refine k_ldc hx hb hown hts (v := -1000000) (by decide) w_1080 dX12_down_85 ?_
                exact hret _ _ _ _ _ _ dX12_down_87 hW hS ⟨by first | omega | (rw [if_neg (by omega), if_neg (by omega), hd, show 61 - k_ = (60 - k_) + 1 from by omega, dw_s]; (first | rw [if_pos (by omega)] | (rw [if_neg (by omega), show 60 - k_ = 0 from by omega]; rfl))), by rw [if_neg (by omega), if_neg (by omega), us_us]; exact us_id (us σ 212 (σ 206)) 206⟩
              · refine lv_iload_n hx hb dX12_down_81 rfl (lv_at hl 1 rfl) ?_
                refine lv_goto (tgt := 87) hx hb dX12_down_82 (by decide) ?_
                exact hret _ _ _ _ _ _ dX12_down_87 hW hS ⟨by first | omega | (rw [if_neg (by omega), if_neg (by omega), hd, show 61 - k_ = (60 - k_) + 1 from by omega, dw_s]; (first | rw [if_pos (by omega)] | (rw [if_neg (by omega), show 60 - k_ = 0 from by omega]; rfl))), by rw [if_neg (by omega), if_neg (by omega), us_us]; exact us_id (us σ 212 (σ 206)) 206⟩
          · refine lv_aload_n hx hb dX12_down_37 rfl (lv_at hl 1 rfl) ?_
            refine wz_get hx hb hts hown hK hW 202 5 (by decide) e_202 rfl (by decide) inG12 w_820 rfl rfl dX12_down_38 ?_
            refine zi_con hx hb dX12_down_41 ?_
            refine wz_ald hx hb hK hW 206 1 (by decide) e_206 (by omega) (by omega) (by decide) dX12_down_42 ?_
            refine zi_top (y := (itf mon k_ (σ 206)) 1) (by rfl) ?_
            refine lv_iload_n hx hb dX12_down_43 rfl (lv_at hl 2 rfl) ?_
            refine zi_clt (tgt := 57) hx hb dX12_down_44 (by decide) (by omega) (by omega) (fun c44 => ?_) (fun c44 => ?_)
            · refine lv_aload_n hx hb dX12_down_57 rfl (lv_at hl 1 rfl) ?_
              refine wz_get hx hb hts hown hK hW 202 5 (by decide) e_202 rfl (by decide) inG12 w_820 rfl rfl dX12_down_58 ?_
              refine zi_con hx hb dX12_down_61 ?_
              refine wz_ald hx hb hK hW 206 1 (by decide) e_206 (by omega) (by omega) (by decide) dX12_down_62 ?_
              refine zi_top (y := (itf mon k_ (σ 206)) 1) (by rfl) ?_
              refine lv_iload_n hx hb dX12_down_63 rfl (lv_at hl 2 rfl) ?_
              refine zi_cge (tgt := 71) hx hb dX12_down_64 (by decide) (by omega) (by omega) (fun c64 => ?_) (fun c64 => ?_)
              · refine zi_con hx hb dX12_down_71 ?_
                refine lv_istore_n (lv' := [(3, .int (iI (0))), (2, .int (iI (((k_ : Nat) : Int)))), (0, .ref (B + 202)), (1, .int (iI (z_)))]) hx hb dX12_down_72 rfl hl (by decide) rfl (fun ls hl => ?_)
                refine lv_aload_n hx hb dX12_down_73 rfl (lv_at hl 2 rfl) ?_
                refine k_vv (fr := 2) (lo := 45) (σ' := (us (us (us σ 212 (σ 206)) 206 (itf mon k_ (σ 206))) 206 ((us (us σ 212 (σ 206)) 206 (itf mon k_ (σ 206))) 212))) (As := []) (rest := []) hx hb hml hown hts hK hRf hRl hW hS (c_X12_takeBack l D cy B (us (us σ 212 (σ 206)) 206 (itf mon k_ (σ 206)))  ) vX12_takeBack ⟨w_1070, w_38⟩ w_1068 (by decide) e_202 rfl ⟨Nat.le_of_ble_eq_true rfl, Nat.le_of_ble_eq_true rfl⟩ hl.1 rfl (Nat.le_of_ble_eq_true rfl) ⟨Nat.zero_le _, Nat.zero_le _⟩ dX12_down_74 (fun H locs hW hS => ?_)
                refine lv_iload_n hx hb dX12_down_77 rfl (lv_at hl 0 rfl) ?_
                refine zi_eq (tgt := 85) hx hb dX12_down_78 (by decide) (by omega) (fun c78 => ?_) (fun c78 => ?_)
                · refine k_ldc hx hb hown hts (v := -1000000) (by decide) w_1080 dX12_down_85 ?_
                  exact hret _ _ _ _ _ _ dX12_down_87 hW hS ⟨by first | omega | (rw [if_neg (by omega), if_neg (by omega), hd, show 61 - k_ = (60 - k_) + 1 from by omega, dw_s]; (first | rw [if_pos (by omega)] | (rw [if_neg (by omega), show 60 - k_ = 0 from by omega]; rfl))), by rw [if_neg (by omega), if_neg (by omega), us_us]; exact us_id (us σ 212 (σ 206)) 206⟩
                · refine lv_iload_n hx hb dX12_down_81 rfl (lv_at hl 1 rfl) ?_
                  refine lv_goto (tgt := 87) hx hb dX12_down_82 (by decide) ?_
                  exact hret _ _ _ _ _ _ dX12_down_87 hW hS ⟨by first | omega | (rw [if_neg (by omega), if_neg (by omega), hd, show 61 - k_ = (60 - k_) + 1 from by omega, dw_s]; (first | rw [if_pos (by omega)] | (rw [if_neg (by omega), show 60 - k_ = 0 from by omega]; rfl))), by rw [if_neg (by omega), if_neg (by omega), us_us]; exact us_id (us σ 212 (σ 206)) 206⟩
              · refine zi_con hx hb dX12_down_67 ?_
                refine lv_goto (tgt := 72) hx hb dX12_down_68 (by decide) ?_
                refine lv_istore_n (lv' := [(3, .int (iI (1))), (2, .int (iI (((k_ : Nat) : Int)))), (0, .ref (B + 202)), (1, .int (iI (z_)))]) hx hb dX12_down_72 rfl hl (by decide) rfl (fun ls hl => ?_)
                refine lv_aload_n hx hb dX12_down_73 rfl (lv_at hl 2 rfl) ?_
                refine k_vv (fr := 2) (lo := 45) (σ' := (us (us (us σ 212 (σ 206)) 206 (itf mon k_ (σ 206))) 206 ((us (us σ 212 (σ 206)) 206 (itf mon k_ (σ 206))) 212))) (As := []) (rest := []) hx hb hml hown hts hK hRf hRl hW hS (c_X12_takeBack l D cy B (us (us σ 212 (σ 206)) 206 (itf mon k_ (σ 206)))  ) vX12_takeBack ⟨w_1070, w_38⟩ w_1068 (by decide) e_202 rfl ⟨Nat.le_of_ble_eq_true rfl, Nat.le_of_ble_eq_true rfl⟩ hl.1 rfl (Nat.le_of_ble_eq_true rfl) ⟨Nat.zero_le _, Nat.zero_le _⟩ dX12_down_74 (fun H locs hW hS => ?_)
                refine lv_iload_n hx hb dX12_down_77 rfl (lv_at hl 0 rfl) ?_
                refine zi_eq (tgt := 85) hx hb dX12_down_78 (by decide) (by omega) (fun c78 => ?_) (fun c78 => ?_)
                · refine k_ldc hx hb hown hts (v := -1000000) (by decide) w_1080 dX12_down_85 ?_
                  exact hret _ _ _ _ _ _ dX12_down_87 hW hS ⟨by first | omega | (rw [if_neg (by omega), if_neg (by omega), hd, show 61 - k_ = (60 - k_) + 1 from by omega, dw_s]; (first | rw [if_pos (by omega)] | (rw [if_neg (by omega), show 60 - k_ = 0 from by omega]; rfl))), by rw [if_neg (by omega), if_neg (by omega), us_us]; exact us_id (us σ 212 (σ 206)) 206⟩
                · refine lv_iload_n hx hb dX12_down_81 rfl (lv_at hl 1 rfl) ?_
                  refine lv_goto (tgt := 87) hx hb dX12_down_82 (by decide) ?_
                  exact hret _ _ _ _ _ _ dX12_down_87 hW hS ⟨by first | omega | (rw [if_neg (by omega), if_neg (by omega), hd, show 61 - k_ = (60 - k_) + 1 from by omega, dw_s]; (first | rw [if_pos (by omega)] | (rw [if_neg (by omega), show 60 - k_ = 0 from by omega]; rfl))), by rw [if_neg (by omega), if_neg (by omega), us_us]; exact us_id (us σ 212 (σ 206)) 206⟩
            · refine lv_aload_n hx hb dX12_down_47 rfl (lv_at hl 1 rfl) ?_
              refine k_vv (fr := 2) (lo := 45) (σ' := (us (us (us σ 212 (σ 206)) 206 (itf mon k_ (σ 206))) 206 (mon ((us (us σ 212 (σ 206)) 206 (itf mon k_ (σ 206))) 206)))) (As := []) (rest := []) hx hb hml hown hts hK hRf hRl hW hS (c_X12_oneMonth l D cy B (us (us σ 212 (σ 206)) 206 (itf mon k_ (σ 206)))  (show okV ((us (us σ 212 (σ 206)) 206 (itf mon k_ (σ 206))) 206) from (by show okV (itf mon k_ (σ 206)); exact hit2.1))) vX12_oneMonth ⟨w_1034, w_34⟩ w_1032 (by decide) e_202 rfl ⟨Nat.le_of_ble_eq_true rfl, Nat.le_of_ble_eq_true rfl⟩ hl.1 rfl (Nat.le_of_ble_eq_true rfl) ⟨Nat.zero_le _, Nat.zero_le _⟩ dX12_down_48 (fun H locs hW hS => ?_)
              refine lv_iinc (v := iI (((k_ : Nat) : Int) + 1)) (lv' := [(2, .int (iI (((k_ : Nat) : Int) + 1))), (0, .ref (B + 202)), (1, .int (iI (z_)))]) hx hb dX12_down_51 hl (k := 0) rfl (iI_add _ _) (by decide) rfl (fun ls hl => ?_)
              refine lv_goto (tgt := 31) hx hb dX12_down_54 (by decide) ?_
              exact ih31 (k_ + 1) _ _ _ (by omega) (by omega) (by rw [hd, show 61 - k_ = (61 - (k_ + 1)) + 1 from by omega, dw_s, if_neg (by omega)]) (by have h2 := hW; rw [us_us] at h2; exact h2) hS (lv_sub hl [0, 1, 2] rfl)
      exact L31 _ 0 _ _ _ (Nat.lt_succ_self _) (by omega) rfl (by rw [show us (us σ 212 (σ 206)) 206 (itf mon 0 (σ 206)) = (us σ 212 (σ 206)) from us_id (us σ 212 (σ 206)) 206]; exact hW) hS (lv_sub hl [0, 1, 2] rfl)
    · refine k_ldc hx hb hown hts (v := -1000001) (by decide) w_907 dX12_down_22 ?_
      exact hret _ _ _ _ _ _ dX12_down_24 hW hS ⟨by (try simp only [Int.toNat_natCast]); (repeat' split) <;> first | rfl | omega, by (try simp only [Int.toNat_natCast]); (repeat' split) <;> first | rfl | omega⟩
  · refine k_ldc hx hb hown hts (v := -1000002) (by decide) w_983 dX12_down_7 ?_
    exact hret _ _ _ _ _ _ dX12_down_9 hW hS ⟨by (try simp only [Int.toNat_natCast]); (repeat' split) <;> first | rfl | omega, by (try simp only [Int.toNat_natCast]); (repeat' split) <;> first | rfl | omega⟩

set_option maxRecDepth 100000 in
set_option maxHeartbeats 4000000 in
theorem c_X12_drawn (l : Launch) (D : va_G) (cy : Nat → ClassId) (B : Nat) (σ : Sg) (z_ : Int) (s_ : Int) (w_ : Int) (r_z_ : -2147483648 ≤ z_ ∧ z_ < 2147483648) (r_s_ : -2147483648 ≤ s_ ∧ s_ < 2147483648) (r_w_ : -2147483648 ≤ w_ ∧ w_ < 2147483648) (hok : σ 206 4 = 0 ∨ okV (σ 206)) (hith : σ 202 4 = if σ 206 4 = 0 then 0 else 1) (hm : σ 206 5 ≤ 999) : CI l yX12_drawn cX12_drawn 7 (some .int) 2 45 D cy B [.ref (B + 202), .int (iI (z_)), .int (iI (s_)), .int (iI (w_))] σ (if σ 206 4 = 0 then -1000002 else if ¬ (0 ≤ z_ ∧ z_ ≤ 60) ∨ ¬ (1 ≤ s_ ∧ s_ ≤ 999999) ∨ ¬ (0 ≤ w_ ∧ w_ ≤ 1) then -1000001 else if w_ = 0 then drf (σ 206) s_ z_.toNat 1 else brk (drf (σ 206) s_ z_.toNat)) (if σ 206 4 = 0 then σ else if ¬ (0 ≤ z_ ∧ z_ ≤ 60) ∨ ¬ (1 ≤ s_ ∧ s_ ≤ 999999) ∨ ¬ (0 ≤ w_ ∧ w_ ≤ 1) then σ else us σ 212 (σ 206)) := by
  refine CI_of (ty := .int) (by decide) (rfl) (Nat.le_of_ble_eq_true rfl) ?_
  intro p e R s m args below meth c Q hx hb hml hown hts hK hRf hRl hW hret ls hl
  have hown : s.vm.findClass "LovePartsModel" = some m.cls := hown
  have hS : va_S (AB B) s.heap s.heap [] := va_S.rf
  have hl : lv_has ls 7 [(0, .ref (B + 202)), (1, .int (iI (z_))), (2, .int (iI (s_))), (3, .int (iI (w_)))] := hl
  have hbi : -2147483648 ≤ σ 202 4 ∧ σ 202 4 < 2147483648 := by rw [hith]; split <;> omega
  have hit : (σ 202 4 = 0 ∧ σ 206 4 = 0) ∨ (σ 202 4 = 1 ∧ ¬ σ 206 4 = 0) := by rw [hith]; split <;> simp_all
  refine lv_aload_n hx hb dX12_drawn_0 rfl (lv_at hl 0 rfl) ?_
  refine wz_get hx hb hts hown hK hW 202 4 (by decide) e_202 rfl (by decide) inG12 w_819 rfl rfl dX12_drawn_1 ?_
  refine zi_ne (tgt := 10) hx hb dX12_drawn_4 (by decide) (by omega) (fun c4 => ?_) (fun c4 => ?_)
  · have hok := hok.resolve_left (by omega)
    obtain ⟨o4, o0, o1, o2, o3, o5, o6, o7, oH⟩ := id hok
    refine lv_iload_n hx hb dX12_drawn_10 rfl (lv_at hl 1 rfl) ?_
    refine zi_i2l hx hb dX12_drawn_11 (by omega) ?_
    refine zi_lcon (z := 0) hx hb dX12_drawn_12 (by decide) ?_
    refine k_ldc2 hx hb hown hts (v := 60) (by decide) w_1098 dX12_drawn_13 ?_
    refine k_si (fr := 2) (lo := 45) (r := (if 0 ≤ z_ ∧ z_ ≤ 60 then 1 else 0)) (As := [.long (lI (z_)), .long (lI (0)), .long (lI (60))]) (rest := []) hx hb hml hown hts hK hRf hRl hW hS (c_X12_in l D cy B σ z_ 0 60 (show -9223372036854775808 ≤ z_ ∧ z_ < 9223372036854775808 from (by first | assumption | omega | (simp only [tpL_25, List.length_cons, List.length_nil]; omega))) (show -9223372036854775808 ≤ 0 ∧ 0 < 9223372036854775808 from (by first | assumption | omega | (simp only [tpL_25, List.length_cons, List.length_nil]; omega))) (show -9223372036854775808 ≤ 60 ∧ 60 < 9223372036854775808 from (by first | assumption | omega | (simp only [tpL_25, List.length_cons, List.length_nil]; omega)))) vX12_in w_904 w_903 ⟨Nat.le_of_ble_eq_true rfl, Nat.le_of_ble_eq_true rfl⟩ hl.1 rfl (Nat.le_of_ble_eq_true rfl) ⟨Nat.zero_le _, Nat.zero_le _⟩ dX12_drawn_16 (fun H locs hW hS => ?_)
    refine zi_beq (tgt := 44) hx hb dX12_drawn_19 (by decide) (fun c19 => ?_) (fun c19 => ?_)
    · refine k_ldc hx hb hown hts (v := -1000001) (by decide) w_907 dX12_drawn_44 ?_
      exact hret _ _ _ _ _ _ dX12_drawn_46 hW hS ⟨by (try simp only [Int.toNat_natCast]); (repeat' split) <;> first | rfl | omega, by (try simp only [Int.toNat_natCast]); (repeat' split) <;> first | rfl | omega⟩
    · refine lv_iload_n hx hb dX12_drawn_22 rfl (lv_at hl 2 rfl) ?_
      refine zi_i2l hx hb dX12_drawn_23 (by omega) ?_
      refine zi_lcon (z := 1) hx hb dX12_drawn_24 (by decide) ?_
      refine k_ldc2 hx hb hown hts (v := 999999) (by decide) w_1142 dX12_drawn_25 ?_
      refine k_si (fr := 2) (lo := 45) (r := (if 1 ≤ s_ ∧ s_ ≤ 999999 then 1 else 0)) (As := [.long (lI (s_)), .long (lI (1)), .long (lI (999999))]) (rest := []) hx hb hml hown hts hK hRf hRl hW hS (c_X12_in l D cy B σ s_ 1 999999 (show -9223372036854775808 ≤ s_ ∧ s_ < 9223372036854775808 from (by first | assumption | omega | (simp only [tpL_25, List.length_cons, List.length_nil]; omega))) (show -9223372036854775808 ≤ 1 ∧ 1 < 9223372036854775808 from (by first | assumption | omega | (simp only [tpL_25, List.length_cons, List.length_nil]; omega))) (show -9223372036854775808 ≤ 999999 ∧ 999999 < 9223372036854775808 from (by first | assumption | omega | (simp only [tpL_25, List.length_cons, List.length_nil]; omega)))) vX12_in w_904 w_903 ⟨Nat.le_of_ble_eq_true rfl, Nat.le_of_ble_eq_true rfl⟩ hl.1 rfl (Nat.le_of_ble_eq_true rfl) ⟨Nat.zero_le _, Nat.zero_le _⟩ dX12_drawn_28 (fun H locs hW hS => ?_)
      refine zi_beq (tgt := 44) hx hb dX12_drawn_31 (by decide) (fun c31 => ?_) (fun c31 => ?_)
      · refine k_ldc hx hb hown hts (v := -1000001) (by decide) w_907 dX12_drawn_44 ?_
        exact hret _ _ _ _ _ _ dX12_drawn_46 hW hS ⟨by (try simp only [Int.toNat_natCast]); (repeat' split) <;> first | rfl | omega, by (try simp only [Int.toNat_natCast]); (repeat' split) <;> first | rfl | omega⟩
      · refine lv_iload_n hx hb dX12_drawn_34 rfl (lv_at hl 3 rfl) ?_
        refine zi_i2l hx hb dX12_drawn_35 (by omega) ?_
        refine zi_lcon (z := 0) hx hb dX12_drawn_36 (by decide) ?_
        refine zi_lcon (z := 1) hx hb dX12_drawn_37 (by decide) ?_
        refine k_si (fr := 2) (lo := 45) (r := (if 0 ≤ w_ ∧ w_ ≤ 1 then 1 else 0)) (As := [.long (lI (w_)), .long (lI (0)), .long (lI (1))]) (rest := []) hx hb hml hown hts hK hRf hRl hW hS (c_X12_in l D cy B σ w_ 0 1 (show -9223372036854775808 ≤ w_ ∧ w_ < 9223372036854775808 from (by first | assumption | omega | (simp only [tpL_25, List.length_cons, List.length_nil]; omega))) (show -9223372036854775808 ≤ 0 ∧ 0 < 9223372036854775808 from (by first | assumption | omega | (simp only [tpL_25, List.length_cons, List.length_nil]; omega))) (show -9223372036854775808 ≤ 1 ∧ 1 < 9223372036854775808 from (by first | assumption | omega | (simp only [tpL_25, List.length_cons, List.length_nil]; omega)))) vX12_in w_904 w_903 ⟨Nat.le_of_ble_eq_true rfl, Nat.le_of_ble_eq_true rfl⟩ hl.1 rfl (Nat.le_of_ble_eq_true rfl) ⟨Nat.zero_le _, Nat.zero_le _⟩ dX12_drawn_38 (fun H locs hW hS => ?_)
        refine zi_bne (tgt := 47) hx hb dX12_drawn_41 (by decide) (fun c41 => ?_) (fun c41 => ?_)
        · refine lv_aload_n hx hb dX12_drawn_47 rfl (lv_at hl 0 rfl) ?_
          refine k_vv (fr := 2) (lo := 45) (σ' := (us σ 212 (σ 206))) (As := []) (rest := []) hx hb hml hown hts hK hRf hRl hW hS (c_X12_putAside l D cy B σ  ) vX12_putAside ⟨w_1066, w_37⟩ w_1064 (by decide) e_202 rfl ⟨Nat.le_of_ble_eq_true rfl, Nat.le_of_ble_eq_true rfl⟩ hl.1 rfl (Nat.le_of_ble_eq_true rfl) ⟨Nat.zero_le _, Nat.zero_le _⟩ dX12_drawn_48 (fun H locs hW hS => ?_)
          refine lv_iload_n hx hb dX12_drawn_51 rfl (lv_at hl 2 rfl) ?_
          refine zi_i2l hx hb dX12_drawn_52 (by omega) ?_
          refine lv_lstore (lv' := [(4, .long (lI (s_))), (0, .ref (B + 202)), (1, .int (iI (z_))), (2, .int (iI (s_))), (3, .int (iI (w_)))]) hx hb dX12_drawn_53 hl (by decide) rfl (fun ls hl => ?_)
          refine zi_con hx hb dX12_drawn_55 ?_
          refine lv_istore (lv' := [(6, .int (iI (0))), (4, .long (lI (s_))), (0, .ref (B + 202)), (1, .int (iI (z_))), (2, .int (iI (s_))), (3, .int (iI (w_)))]) hx hb dX12_drawn_56 hl (by decide) rfl (fun ls hl => ?_)
          have L58 : ∀ (n58 : Nat) (k_ : Nat) (H : Heap) (locs : List Loc) (ls : Array Slot), 60 - k_ < n58 → ((k_ : Int) ≤ z_) → wd D cy B (us (us σ 212 (σ 206)) 206 (drf (σ 206) s_ k_)) H → va_S (AB B) s.heap H locs → lv_has ls 7 [(6, .int (iI (((k_ : Nat) : Int)))), (4, .long (lI (drx s_ k_))), (0, .ref (B + 202)), (1, .int (iI (z_))), (2, .int (iI (s_))), (3, .int (iI (w_)))] → W p l e R s m args below meth c H locs 0 0 Q (F0 m 58 ls []) := by
            intro n58
            induction n58 with
            | zero => intro k_ H locs ls hms; omega
            | succ n58 ih58 =>
              intro k_ H locs ls hms58 hk hW hS hl
              have hit2 := okV_drf hok (seed := s_) (by omega) (n := k_) (by omega)
              have hdx := drx_bd (seed := s_) (by omega) k_
              have hdx1 := drx_bd (seed := s_) (by omega) (k_ + 1)
              have hdx2 : drx s_ (k_ + 1) = drx s_ k_ * 16807 % 2147483647 := rfl
              have hmd := Int.emod_nonneg (drx s_ k_ * 16807 % 2147483647) (b := σ 206 4) (by omega)
              have hml2 := Int.emod_lt_of_pos (drx s_ k_ * 16807 % 2147483647) (b := σ 206 4) (by omega)
              refine lv_iload hx hb dX12_drawn_58 (lv_at hl 0 rfl) ?_
              refine lv_iload_n hx hb dX12_drawn_60 rfl (lv_at hl 3 rfl) ?_
              refine zi_cge (tgt := 104) hx hb dX12_drawn_61 (by decide) (by omega) (by omega) (fun c61 => ?_) (fun c61 => ?_)
              · have hkz : z_.toNat = k_ := by omega
                refine lv_iload_n hx hb dX12_drawn_104 rfl (lv_at hl 5 rfl) ?_
                refine zi_ne (tgt := 117) hx hb dX12_drawn_105 (by decide) (by omega) (fun c105 => ?_) (fun c105 => ?_)
                · refine lv_aload_n hx hb dX12_drawn_117 rfl (lv_at hl 2 rfl) ?_
                  refine k_vi (fr := 2) (lo := 45) (r := brk ((us (us σ 212 (σ 206)) 206 (drf (σ 206) s_ k_)) 206)) (As := []) (rest := []) hx hb hml hown hts hK hRf hRl hW hS (c_X12_brokenAll l D cy B (us (us σ 212 (σ 206)) 206 (drf (σ 206) s_ k_))  (show (us (us σ 212 (σ 206)) 206 (drf (σ 206) s_ k_)) 206 4 = 0 ∨ okV ((us (us σ 212 (σ 206)) 206 (drf (σ 206) s_ k_)) 206) from (by show (drf (σ 206) s_ k_) 4 = 0 ∨ okV (drf (σ 206) s_ k_); exact Or.inr hit2.1))) vX12_brokenAll ⟨w_1101, w_41⟩ w_1099 (by decide) e_202 rfl ⟨Nat.le_of_ble_eq_true rfl, Nat.le_of_ble_eq_true rfl⟩ hl.1 rfl (Nat.le_of_ble_eq_true rfl) ⟨Nat.zero_le _, Nat.zero_le _⟩ dX12_drawn_118 (fun H locs hW hS => ?_)
                  refine zi_top (y := brk (drf (σ 206) s_ k_)) (by rfl) ?_
                  refine lv_istore (lv' := [(6, .int (iI (brk (drf (σ 206) s_ k_)))), (4, .long (lI (drx s_ k_))), (0, .ref (B + 202)), (1, .int (iI (z_))), (2, .int (iI (s_))), (3, .int (iI (w_)))]) hx hb dX12_drawn_121 hl (by decide) rfl (fun ls hl => ?_)
                  refine lv_aload_n hx hb dX12_drawn_123 rfl (lv_at hl 2 rfl) ?_
                  refine k_vv (fr := 2) (lo := 45) (σ' := (us (us (us σ 212 (σ 206)) 206 (drf (σ 206) s_ k_)) 206 ((us (us σ 212 (σ 206)) 206 (drf (σ 206) s_ k_)) 212))) (As := []) (rest := []) hx hb hml hown hts hK hRf hRl hW hS (c_X12_takeBack l D cy B (us (us σ 212 (σ 206)) 206 (drf (σ 206) s_ k_))  ) vX12_takeBack ⟨w_1070, w_38⟩ w_1068 (by decide) e_202 rfl ⟨Nat.le_of_ble_eq_true rfl, Nat.le_of_ble_eq_true rfl⟩ hl.1 rfl (Nat.le_of_ble_eq_true rfl) ⟨Nat.zero_le _, Nat.zero_le _⟩ dX12_drawn_124 (fun H locs hW hS => ?_)
                  refine lv_iload hx hb dX12_drawn_127 (lv_at hl 0 rfl) ?_
                  exact hret _ _ _ _ _ _ dX12_drawn_129 hW hS ⟨by (repeat' split) <;> first | (subst hkz; rfl) | omega, by rw [if_neg (by omega), if_neg (by omega), us_us]; exact us_id (us σ 212 (σ 206)) 206⟩
                · refine lv_aload_n hx hb dX12_drawn_108 rfl (lv_at hl 2 rfl) ?_
                  refine wz_get hx hb hts hown hK hW 202 5 (by decide) e_202 rfl (by decide) inG12 w_820 rfl rfl dX12_drawn_109 ?_
                  refine zi_con hx hb dX12_drawn_112 ?_
                  refine wz_ald hx hb hK hW 206 1 (by decide) e_206 (by omega) (by omega) (by decide) dX12_drawn_113 ?_
                  refine zi_top (y := (drf (σ 206) s_ k_) 1) (by rfl) ?_
                  refine lv_goto (tgt := 121) hx hb dX12_drawn_114 (by decide) ?_
                  refine lv_istore (lv' := [(6, .int (iI ((drf (σ 206) s_ k_) 1))), (4, .long (lI (drx s_ k_))), (0, .ref (B + 202)), (1, .int (iI (z_))), (2, .int (iI (s_))), (3, .int (iI (w_)))]) hx hb dX12_drawn_121 hl (by decide) rfl (fun ls hl => ?_)
                  refine lv_aload_n hx hb dX12_drawn_123 rfl (lv_at hl 2 rfl) ?_
                  refine k_vv (fr := 2) (lo := 45) (σ' := (us (us (us σ 212 (σ 206)) 206 (drf (σ 206) s_ k_)) 206 ((us (us σ 212 (σ 206)) 206 (drf (σ 206) s_ k_)) 212))) (As := []) (rest := []) hx hb hml hown hts hK hRf hRl hW hS (c_X12_takeBack l D cy B (us (us σ 212 (σ 206)) 206 (drf (σ 206) s_ k_))  ) vX12_takeBack ⟨w_1070, w_38⟩ w_1068 (by decide) e_202 rfl ⟨Nat.le_of_ble_eq_true rfl, Nat.le_of_ble_eq_true rfl⟩ hl.1 rfl (Nat.le_of_ble_eq_true rfl) ⟨Nat.zero_le _, Nat.zero_le _⟩ dX12_drawn_124 (fun H locs hW hS => ?_)
                  refine lv_iload hx hb dX12_drawn_127 (lv_at hl 0 rfl) ?_
                  exact hret _ _ _ _ _ _ dX12_drawn_129 hW hS ⟨by (repeat' split) <;> first | (subst hkz; rfl) | omega, by rw [if_neg (by omega), if_neg (by omega), us_us]; exact us_id (us σ 212 (σ 206)) 206⟩
              · refine lv_lload hx hb dX12_drawn_64 (lv_at hl 1 rfl) ?_
                refine k_ldc2 hx hb hown hts (v := 16807) (by decide) w_1143 dX12_drawn_66 ?_
                refine zi_lmul hx hb dX12_drawn_69 ?_
                refine k_ldc2 hx hb hown hts (v := 2147483647) (by decide) w_1144 dX12_drawn_70 ?_
                refine zi_lrem hx hb dX12_drawn_73 (by omega) (by omega) ?_
                refine lv_lstore (lv' := [(4, .long (lI (((drx s_ k_) * 16807) % 2147483647))), (6, .int (iI (((k_ : Nat) : Int)))), (0, .ref (B + 202)), (1, .int (iI (z_))), (2, .int (iI (s_))), (3, .int (iI (w_)))]) hx hb dX12_drawn_74 hl (by decide) rfl (fun ls hl => ?_)
                refine lv_aload_n hx hb dX12_drawn_76 rfl (lv_at hl 2 rfl) ?_
                refine wz_get hx hb hts hown hK hW 202 5 (by decide) e_202 rfl (by decide) inG12 w_820 rfl rfl dX12_drawn_77 ?_
                refine zi_bip hx hb dX12_drawn_80 (by decide) ?_
                refine lv_lload hx hb dX12_drawn_82 (lv_at hl 0 rfl) ?_
                refine lv_aload_n hx hb dX12_drawn_84 rfl (lv_at hl 2 rfl) ?_
                refine wz_get hx hb hts hown hK hW 202 5 (by decide) e_202 rfl (by decide) inG12 w_820 rfl rfl dX12_drawn_85 ?_
                refine zi_con hx hb dX12_drawn_88 ?_
                refine wz_ald hx hb hK hW 206 4 (by decide) e_206 (by omega) (by omega) (by decide) dX12_drawn_89 ?_
                refine zi_top (y := σ 206 4) (by exact hit2.2.2) ?_
                refine zi_i2l hx hb dX12_drawn_90 (by omega) ?_
                refine zi_lrem hx hb dX12_drawn_91 (by omega) (by omega) ?_
                refine zi_l2i hx hb dX12_drawn_92 (by omega) ?_
                refine wz_ast (σ' := (up (us (us σ 212 (σ 206)) 206 (drf (σ 206) s_ k_)) 206 6 ((((drx s_ k_) * 16807) % 2147483647) % (σ 206 4)))) hx hb hK hW hS 206 6 (by decide) e_206 (by omega) (by omega) (by decide) p_206 dX12_drawn_93 (fun H locs hW hS => ?_)
                refine lv_aload_n hx hb dX12_drawn_94 rfl (lv_at hl 2 rfl) ?_
                refine k_vv (fr := 2) (lo := 45) (σ' := (us (up (us (us σ 212 (σ 206)) 206 (drf (σ 206) s_ k_)) 206 6 ((((drx s_ k_) * 16807) % 2147483647) % (σ 206 4))) 206 (mon ((up (us (us σ 212 (σ 206)) 206 (drf (σ 206) s_ k_)) 206 6 ((((drx s_ k_) * 16807) % 2147483647) % (σ 206 4))) 206)))) (As := []) (rest := []) hx hb hml hown hts hK hRf hRl hW hS (c_X12_oneMonth l D cy B (up (us (us σ 212 (σ 206)) 206 (drf (σ 206) s_ k_)) 206 6 ((((drx s_ k_) * 16807) % 2147483647) % (σ 206 4)))  (show okV ((up (us (us σ 212 (σ 206)) 206 (drf (σ 206) s_ k_)) 206 6 ((((drx s_ k_) * 16807) % 2147483647) % (σ 206 4))) 206) from (by show okV (uf (drf (σ 206) s_ k_) 6 (drx s_ k_ * 16807 % 2147483647 % σ 206 4)); exact okV_host hit2.1 (by rw [hit2.2.2]; exact ⟨hmd, hml2⟩)))) vX12_oneMonth ⟨w_1034, w_34⟩ w_1032 (by decide) e_202 rfl ⟨Nat.le_of_ble_eq_true rfl, Nat.le_of_ble_eq_true rfl⟩ hl.1 rfl (Nat.le_of_ble_eq_true rfl) ⟨Nat.zero_le _, Nat.zero_le _⟩ dX12_drawn_95 (fun H locs hW hS => ?_)
                refine lv_iinc (v := iI (((k_ : Nat) : Int) + 1)) (lv' := [(6, .int (iI (((k_ : Nat) : Int) + 1))), (4, .long (lI (((drx s_ k_) * 16807) % 2147483647))), (0, .ref (B + 202)), (1, .int (iI (z_))), (2, .int (iI (s_))), (3, .int (iI (w_)))]) hx hb dX12_drawn_98 hl (k := 1) rfl (iI_add _ _) (by decide) rfl (fun ls hl => ?_)
                refine lv_goto (tgt := 58) hx hb dX12_drawn_101 (by decide) ?_
                exact ih58 (k_ + 1) _ _ _ (by omega) (by omega) (by have h2 := hW; simp only [us_us] at h2; exact h2) hS (lv_sub hl [0, 1, 2, 3, 4, 5] rfl)
          exact L58 _ 0 _ _ _ (Nat.lt_succ_self _) (by omega) (by rw [show us (us σ 212 (σ 206)) 206 (drf (σ 206) s_ 0) = (us σ 212 (σ 206)) from us_id (us σ 212 (σ 206)) 206]; exact hW) hS (lv_sub hl [0, 1, 2, 3, 4, 5] rfl)
        · refine k_ldc hx hb hown hts (v := -1000001) (by decide) w_907 dX12_drawn_44 ?_
          exact hret _ _ _ _ _ _ dX12_drawn_46 hW hS ⟨by (try simp only [Int.toNat_natCast]); (repeat' split) <;> first | rfl | omega, by (try simp only [Int.toNat_natCast]); (repeat' split) <;> first | rfl | omega⟩
  · refine k_ldc hx hb hown hts (v := -1000002) (by decide) w_983 dX12_drawn_7 ?_
    exact hret _ _ _ _ _ _ dX12_drawn_9 hW hS ⟨by (try simp only [Int.toNat_natCast]); (repeat' split) <;> first | rfl | omega, by (try simp only [Int.toNat_natCast]); (repeat' split) <;> first | rfl | omega⟩
