
set_option maxRecDepth 100000 in
set_option maxHeartbeats 4000000 in
theorem c_X12_speak (l : Launch) (D : va_G) (cy : Nat → ClassId) (B : Nat) (σ : Sg) (h_ : Int) (w_ : Int) (k_ : Int) (r_h_ : -2147483648 ≤ h_ ∧ h_ < 2147483648) (r_w_ : -2147483648 ≤ w_ ∧ w_ < 2147483648) (r_k_ : -2147483648 ≤ k_ ∧ k_ < 2147483648) (hok : σ 206 4 = 0 ∨ okV (σ 206)) (ha1 : 0 ≤ σ 202 18 ∧ σ 202 18 ≤ 24) : CI l yX12_speak cX12_speak 4 (some .int) 2 46 D cy B [.ref (B + 202), .int (iI (h_)), .int (iI (w_)), .int (iI (k_))] σ (if ¬ (0 ≤ h_ ∧ h_ ≤ σ 206 4 - 1) ∨ ¬ (0 ≤ w_ ∧ w_ ≤ 18) ∨ ¬ (0 ≤ k_ ∧ k_ ≤ 40) then -1000001 else if σ 206 7 = 1 then -1000002 else own (σ 206) h_.toNat) (if ¬ (0 ≤ h_ ∧ h_ ≤ σ 206 4 - 1) ∨ ¬ (0 ≤ w_ ∧ w_ ≤ 18) ∨ ¬ (0 ≤ k_ ∧ k_ ≤ 40) then σ else if σ 206 7 = 1 then σ else us (nS σ) 206 (uf (uf (uf (σ 206) (20 + h_.toNat) 1) (24 + h_.toNat) w_) (28 + h_.toNat) k_)) := by
  refine CI_of (ty := .int) (by decide) (rfl) (Nat.le_of_ble_eq_true rfl) ?_
  intro p e R s m args below meth c Q hx hb hml hown hts hK hRf hRl hW hret ls hl
  have hown : s.vm.findClass "LovePartsModel" = some m.cls := hown
  have hS : va_S (AB B) s.heap s.heap [] := va_S.rf
  have hl : lv_has ls 4 [(0, .ref (B + 202)), (1, .int (iI (h_))), (2, .int (iI (w_))), (3, .int (iI (k_)))] := hl
  have f4 : 0 ≤ σ 206 4 ∧ σ 206 4 ≤ 4 := by rcases hok with h | h; (· omega); (· exact ⟨by have := h.1; omega, h.1.2⟩)
  refine lv_aload_n hx hb dX12_speak_0 rfl (lv_at hl 0 rfl) ?_
  refine lv_iload_n hx hb dX12_speak_1 rfl (lv_at hl 1 rfl) ?_
  refine k_vi (fr := 2) (lo := 46) (r := (if 0 ≤ h_ ∧ h_ ≤ σ 206 4 - 1 then 1 else 0)) (As := [.int (iI (h_))]) (rest := []) hx hb hml hown hts hK hRf hRl hW hS (c_X12_isHeir l D cy B σ h_ (show -2147483648 ≤ h_ ∧ h_ < 2147483648 from (by first | assumption | omega)) (show 0 ≤ σ 206 4 ∧ σ 206 4 ≤ 4 from (by first | assumption | omega))) vX12_isHeir ⟨w_990, w_27⟩ w_988 (by decide) e_202 rfl ⟨Nat.le_of_ble_eq_true rfl, Nat.le_of_ble_eq_true rfl⟩ hl.1 rfl (Nat.le_of_ble_eq_true rfl) ⟨Nat.zero_le _, Nat.zero_le _⟩ dX12_speak_2 (fun H locs hW hS => ?_)
  refine zi_beq (tgt := 32) hx hb dX12_speak_5 (by decide) (fun c5 => ?_) (fun c5 => ?_)
  · refine k_ldc hx hb hown hts (v := -1000001) (by decide) w_907 dX12_speak_32 ?_
    exact hret _ _ _ _ _ _ dX12_speak_34 hW hS ⟨by (repeat' split) <;> first | rfl | omega, by (repeat' split) <;> first | rfl | omega⟩
  · obtain ⟨n_, rfl⟩ : ∃ h : Nat, h_ = (h : Int) := ⟨h_.toNat, by omega⟩
    have hok := hok.resolve_left (by omega)
    obtain ⟨o4, o0, o1, o2, o3, o5, o6, o7, oH⟩ := id hok
    refine lv_iload_n hx hb dX12_speak_8 rfl (lv_at hl 2 rfl) ?_
    refine zi_i2l hx hb dX12_speak_9 (by omega) ?_
    refine zi_lcon (z := 0) hx hb dX12_speak_10 (by decide) ?_
    refine k_ldc2 hx hb hown hts (v := 18) (by decide) w_992 dX12_speak_11 ?_
    refine k_si (fr := 2) (lo := 46) (r := (if 0 ≤ w_ ∧ w_ ≤ 18 then 1 else 0)) (As := [.long (lI (w_)), .long (lI (0)), .long (lI (18))]) (rest := []) hx hb hml hown hts hK hRf hRl hW hS (c_X12_in l D cy B σ w_ 0 18 (show -9223372036854775808 ≤ w_ ∧ w_ < 9223372036854775808 from (by first | assumption | omega)) (show -9223372036854775808 ≤ 0 ∧ 0 < 9223372036854775808 from (by first | assumption | omega)) (show -9223372036854775808 ≤ 18 ∧ 18 < 9223372036854775808 from (by first | assumption | omega))) vX12_in w_904 w_903 ⟨Nat.le_of_ble_eq_true rfl, Nat.le_of_ble_eq_true rfl⟩ hl.1 rfl (Nat.le_of_ble_eq_true rfl) ⟨Nat.zero_le _, Nat.zero_le _⟩ dX12_speak_14 (fun H locs hW hS => ?_)
    refine zi_beq (tgt := 32) hx hb dX12_speak_17 (by decide) (fun c17 => ?_) (fun c17 => ?_)
    · refine k_ldc hx hb hown hts (v := -1000001) (by decide) w_907 dX12_speak_32 ?_
      exact hret _ _ _ _ _ _ dX12_speak_34 hW hS ⟨by (repeat' split) <;> first | rfl | omega, by (repeat' split) <;> first | rfl | omega⟩
    · refine lv_iload_n hx hb dX12_speak_20 rfl (lv_at hl 3 rfl) ?_
      refine zi_i2l hx hb dX12_speak_21 (by omega) ?_
      refine zi_lcon (z := 0) hx hb dX12_speak_22 (by decide) ?_
      refine k_ldc2 hx hb hown hts (v := 40) (by decide) w_993 dX12_speak_23 ?_
      refine k_si (fr := 2) (lo := 46) (r := (if 0 ≤ k_ ∧ k_ ≤ 40 then 1 else 0)) (As := [.long (lI (k_)), .long (lI (0)), .long (lI (40))]) (rest := []) hx hb hml hown hts hK hRf hRl hW hS (c_X12_in l D cy B σ k_ 0 40 (show -9223372036854775808 ≤ k_ ∧ k_ < 9223372036854775808 from (by first | assumption | omega)) (show -9223372036854775808 ≤ 0 ∧ 0 < 9223372036854775808 from (by first | assumption | omega)) (show -9223372036854775808 ≤ 40 ∧ 40 < 9223372036854775808 from (by first | assumption | omega))) vX12_in w_904 w_903 ⟨Nat.le_of_ble_eq_true rfl, Nat.le_of_ble_eq_true rfl⟩ hl.1 rfl (Nat.le_of_ble_eq_true rfl) ⟨Nat.zero_le _, Nat.zero_le _⟩ dX12_speak_26 (fun H locs hW hS => ?_)
      refine zi_bne (tgt := 35) hx hb dX12_speak_29 (by decide) (fun c29 => ?_) (fun c29 => ?_)
      · refine lv_aload_n hx hb dX12_speak_35 rfl (lv_at hl 0 rfl) ?_
        refine wz_get hx hb hts hown hK hW 202 5 (by decide) e_202 rfl (by decide) inG12 w_820 rfl rfl dX12_speak_36 ?_
        refine zi_bip hx hb dX12_speak_39 (by decide) ?_
        refine wz_ald hx hb hK hW 206 7 (by decide) e_206 (by omega) (by omega) (by decide) dX12_speak_41 ?_
        refine zi_con hx hb dX12_speak_42 ?_
        refine zi_cne (tgt := 49) hx hb dX12_speak_43 (by decide) (by omega) (by omega) (fun c43 => ?_) (fun c43 => ?_)
        · refine lv_aload_n hx hb dX12_speak_49 rfl (lv_at hl 0 rfl) ?_
          refine k_vv (fr := 2) (lo := 46) (σ' := (nS σ)) (As := []) (rest := []) hx hb hml hown hts hK hRf hRl hW hS (c_X12_note l D cy B σ  (show 0 ≤ σ 202 18 ∧ σ 202 18 ≤ 24 from (by first | assumption | omega))) vX12_note ⟨w_996, w_28⟩ w_994 (by decide) e_202 rfl ⟨Nat.le_of_ble_eq_true rfl, Nat.le_of_ble_eq_true rfl⟩ hl.1 rfl (Nat.le_of_ble_eq_true rfl) ⟨Nat.zero_le _, Nat.zero_le _⟩ dX12_speak_50 (fun H locs hW hS => ?_)
          refine lv_aload_n hx hb dX12_speak_53 rfl (lv_at hl 0 rfl) ?_
          refine lv_iload_n hx hb dX12_speak_54 rfl (lv_at hl 1 rfl) ?_
          refine lv_iload_n hx hb dX12_speak_55 rfl (lv_at hl 2 rfl) ?_
          refine k_vv (fr := 2) (lo := 46) (σ' := (us (nS σ) 206 (uf (uf (σ 206) (20 + n_) 1) (24 + n_) w_))) (As := [.int (iI (((n_ : Nat) : Int))), .int (iI (w_))]) (rest := []) hx hb hml hown hts hK hRf hRl hW hS (c_X12_say l D cy B (nS σ) n_ w_ (show n_ < 4 from (by first | assumption | omega))) vX12_say ⟨w_1000, w_29⟩ w_998 (by decide) e_202 rfl ⟨Nat.le_of_ble_eq_true rfl, Nat.le_of_ble_eq_true rfl⟩ hl.1 rfl (Nat.le_of_ble_eq_true rfl) ⟨Nat.zero_le _, Nat.zero_le _⟩ dX12_speak_56 (fun H locs hW hS => ?_)
          refine lv_aload_n hx hb dX12_speak_59 rfl (lv_at hl 0 rfl) ?_
          refine wz_get hx hb hts hown hK hW 202 5 (by decide) e_202 rfl (by decide) inG12 w_820 rfl rfl dX12_speak_60 ?_
          refine zi_bip hx hb dX12_speak_63 (by decide) ?_
          refine lv_iload_n hx hb dX12_speak_65 rfl (lv_at hl 1 rfl) ?_
          refine zi_add hx hb dX12_speak_66 ?_
          refine lv_iload_n hx hb dX12_speak_67 rfl (lv_at hl 3 rfl) ?_
          refine wz_ast (σ' := (up (us (nS σ) 206 (uf (uf (σ 206) (20 + n_) 1) (24 + n_) w_)) 206 (28 + n_) k_)) hx hb hK hW hS 206 (28 + n_) (by decide) e_206 (by omega) (by omega) (by decide) p_206 dX12_speak_68 (fun H locs hW hS => ?_)
          refine lv_aload_n hx hb dX12_speak_69 rfl (lv_at hl 0 rfl) ?_
          refine lv_iload_n hx hb dX12_speak_70 rfl (lv_at hl 1 rfl) ?_
          refine k_vi (fr := 2) (lo := 46) (r := own ((up (us (nS σ) 206 (uf (uf (σ 206) (20 + n_) 1) (24 + n_) w_)) 206 (28 + n_) k_) 206) n_) (As := [.int (iI (((n_ : Nat) : Int)))]) (rest := []) hx hb hml hown hts hK hRf hRl hW hS (c_X12_ownOf l D cy B (up (us (nS σ) 206 (uf (uf (σ 206) (20 + n_) 1) (24 + n_) w_)) 206 (28 + n_) k_) n_ (show okV ((up (us (nS σ) 206 (uf (uf (σ 206) (20 + n_) 1) (24 + n_) w_)) 206 (28 + n_) k_) 206) from (okV_say hok (by omega) (by omega) (by omega))) (show (n_ : Int) < (up (us (nS σ) 206 (uf (uf (σ 206) (20 + n_) 1) (24 + n_) w_)) 206 (28 + n_) k_) 206 4 from (by show (n_ : Int) < uf (uf (uf (σ 206) (20 + n_) 1) (24 + n_) w_) (28 + n_) k_ 4; rw [uf_ne _ _ (by omega), uf_ne _ _ (by omega), uf_ne _ _ (by omega)]; omega))) vX12_ownOf ⟨w_1004, w_30⟩ w_1002 (by decide) e_202 rfl ⟨Nat.le_of_ble_eq_true rfl, Nat.le_of_ble_eq_true rfl⟩ hl.1 rfl (Nat.le_of_ble_eq_true rfl) ⟨Nat.zero_le _, Nat.zero_le _⟩ dX12_speak_71 (fun H locs hW hS => ?_)
          exact hret _ _ _ _ _ _ dX12_speak_74 hW hS ⟨by rw [if_neg (by omega), if_neg (by omega)]; exact own_say (by omega), by rw [if_neg (by omega), if_neg (by omega), Int.toNat_natCast]; unfold up; rw [us_us, us_eq]⟩
        · refine k_ldc hx hb hown hts (v := -1000002) (by decide) w_983 dX12_speak_46 ?_
          exact hret _ _ _ _ _ _ dX12_speak_48 hW hS ⟨by (repeat' split) <;> first | rfl | omega, by (repeat' split) <;> first | rfl | omega⟩
      · refine k_ldc hx hb hown hts (v := -1000001) (by decide) w_907 dX12_speak_32 ?_
        exact hret _ _ _ _ _ _ dX12_speak_34 hW hS ⟨by (repeat' split) <;> first | rfl | omega, by (repeat' split) <;> first | rfl | omega⟩

set_option maxRecDepth 100000 in
set_option maxHeartbeats 4000000 in
theorem c_X12_rule (l : Launch) (D : va_G) (cy : Nat → ClassId) (B : Nat) (σ : Sg) (z_ : Int) (r_z_ : -2147483648 ≤ z_ ∧ z_ < 2147483648) (hok : σ 206 4 = 0 ∨ okV (σ 206)) (hith : σ 202 4 = if σ 206 4 = 0 then 0 else 1) (ha1 : 0 ≤ σ 202 18 ∧ σ 202 18 ≤ 24) : CI l yX12_rule cX12_rule 3 (some .int) 1 25 D cy B [.ref (B + 202), .int (iI (z_))] σ (if σ 206 4 = 0 then -1000002 else if ¬ (0 ≤ z_ ∧ z_ ≤ 3) then -1000001 else if σ 206 7 = 1 then -1000002 else σ 206 3) (if σ 206 4 = 0 then σ else if ¬ (0 ≤ z_ ∧ z_ ≤ 3) then σ else if σ 206 7 = 1 then σ else up (nS σ) 206 3 z_) := by
  refine CI_of (ty := .int) (by decide) (rfl) (Nat.le_of_ble_eq_true rfl) ?_
  intro p e R s m args below meth c Q hx hb hml hown hts hK hRf hRl hW hret ls hl
  have hown : s.vm.findClass "LovePartsModel" = some m.cls := hown
  have hS : va_S (AB B) s.heap s.heap [] := va_S.rf
  have hl : lv_has ls 3 [(0, .ref (B + 202)), (1, .int (iI (z_)))] := hl
  have hbi : -2147483648 ≤ σ 202 4 ∧ σ 202 4 < 2147483648 := by rw [hith]; split <;> omega
  have hit : (σ 202 4 = 0 ∧ σ 206 4 = 0) ∨ (σ 202 4 = 1 ∧ ¬ σ 206 4 = 0) := by rw [hith]; split <;> simp_all
  refine lv_aload_n hx hb dX12_rule_0 rfl (lv_at hl 0 rfl) ?_
  refine wz_get hx hb hts hown hK hW 202 4 (by decide) e_202 rfl (by decide) inG12 w_819 rfl rfl dX12_rule_1 ?_
  refine zi_ne (tgt := 10) hx hb dX12_rule_4 (by decide) (by omega) (fun c4 => ?_) (fun c4 => ?_)
  · have hok := hok.resolve_left (by omega)
    obtain ⟨o4, o0, o1, o2, o3, o5, o6, o7, oH⟩ := id hok
    refine lv_iload_n hx hb dX12_rule_10 rfl (lv_at hl 1 rfl) ?_
    refine zi_i2l hx hb dX12_rule_11 (by omega) ?_
    refine zi_lcon (z := 0) hx hb dX12_rule_12 (by decide) ?_
    refine k_ldc2 hx hb hown hts (v := 3) (by decide) w_1026 dX12_rule_13 ?_
    refine k_si (fr := 1) (lo := 25) (r := (if 0 ≤ z_ ∧ z_ ≤ 3 then 1 else 0)) (As := [.long (lI (z_)), .long (lI (0)), .long (lI (3))]) (rest := []) hx hb hml hown hts hK hRf hRl hW hS (c_X12_in l D cy B σ z_ 0 3 (show -9223372036854775808 ≤ z_ ∧ z_ < 9223372036854775808 from (by first | assumption | omega)) (show -9223372036854775808 ≤ 0 ∧ 0 < 9223372036854775808 from (by first | assumption | omega)) (show -9223372036854775808 ≤ 3 ∧ 3 < 9223372036854775808 from (by first | assumption | omega))) vX12_in w_904 w_903 ⟨Nat.le_of_ble_eq_true rfl, Nat.le_of_ble_eq_true rfl⟩ hl.1 rfl (Nat.le_of_ble_eq_true rfl) ⟨Nat.zero_le _, Nat.zero_le _⟩ dX12_rule_16 (fun H locs hW hS => ?_)
    refine zi_bne (tgt := 25) hx hb dX12_rule_19 (by decide) (fun c19 => ?_) (fun c19 => ?_)
    · refine lv_aload_n hx hb dX12_rule_25 rfl (lv_at hl 0 rfl) ?_
      refine wz_get hx hb hts hown hK hW 202 5 (by decide) e_202 rfl (by decide) inG12 w_820 rfl rfl dX12_rule_26 ?_
      refine zi_bip hx hb dX12_rule_29 (by decide) ?_
      refine wz_ald hx hb hK hW 206 7 (by decide) e_206 (by omega) (by omega) (by decide) dX12_rule_31 ?_
      refine zi_con hx hb dX12_rule_32 ?_
      refine zi_cne (tgt := 39) hx hb dX12_rule_33 (by decide) (by omega) (by omega) (fun c33 => ?_) (fun c33 => ?_)
      · refine lv_aload_n hx hb dX12_rule_39 rfl (lv_at hl 0 rfl) ?_
        refine k_vv (fr := 1) (lo := 25) (σ' := (nS σ)) (As := []) (rest := []) hx hb hml hown hts hK hRf hRl hW hS (c_X12_note l D cy B σ  (show 0 ≤ σ 202 18 ∧ σ 202 18 ≤ 24 from (by first | assumption | omega))) vX12_note ⟨w_996, w_28⟩ w_994 (by decide) e_202 rfl ⟨Nat.le_of_ble_eq_true rfl, Nat.le_of_ble_eq_true rfl⟩ hl.1 rfl (Nat.le_of_ble_eq_true rfl) ⟨Nat.zero_le _, Nat.zero_le _⟩ dX12_rule_40 (fun H locs hW hS => ?_)
        refine lv_aload_n hx hb dX12_rule_43 rfl (lv_at hl 0 rfl) ?_
        refine wz_get hx hb hts hown hK hW 202 5 (by decide) e_202 rfl (by decide) inG12 w_820 rfl rfl dX12_rule_44 ?_
        refine zi_con hx hb dX12_rule_47 ?_
        refine wz_ald hx hb hK hW 206 3 (by decide) e_206 (by omega) (by omega) (by decide) dX12_rule_48 ?_
        refine zi_top (y := σ 206 3) (by (first | rfl | (simp [us, uf, nS] <;> omega))) ?_
        refine lv_istore_n (lv' := [(2, .int (iI (σ 206 3))), (0, .ref (B + 202)), (1, .int (iI (z_)))]) hx hb dX12_rule_49 rfl hl (by decide) rfl (fun ls hl => ?_)
        refine lv_aload_n hx hb dX12_rule_50 rfl (lv_at hl 1 rfl) ?_
        refine wz_get hx hb hts hown hK hW 202 5 (by decide) e_202 rfl (by decide) inG12 w_820 rfl rfl dX12_rule_51 ?_
        refine zi_con hx hb dX12_rule_54 ?_
        refine lv_iload_n hx hb dX12_rule_55 rfl (lv_at hl 2 rfl) ?_
        refine wz_ast (σ' := (up (nS σ) 206 3 z_)) hx hb hK hW hS 206 3 (by decide) e_206 (by omega) (by omega) (by decide) p_206 dX12_rule_56 (fun H locs hW hS => ?_)
        refine lv_iload_n hx hb dX12_rule_57 rfl (lv_at hl 0 rfl) ?_
        exact hret _ _ _ _ _ _ dX12_rule_58 hW hS ⟨by (repeat' split) <;> first | rfl | omega, by (repeat' split) <;> first | rfl | omega⟩
      · refine k_ldc hx hb hown hts (v := -1000002) (by decide) w_983 dX12_rule_36 ?_
        exact hret _ _ _ _ _ _ dX12_rule_38 hW hS ⟨by (repeat' split) <;> first | rfl | omega, by (repeat' split) <;> first | rfl | omega⟩
    · refine k_ldc hx hb hown hts (v := -1000001) (by decide) w_907 dX12_rule_22 ?_
      exact hret _ _ _ _ _ _ dX12_rule_24 hW hS ⟨by (repeat' split) <;> first | rfl | omega, by (repeat' split) <;> first | rfl | omega⟩
  · refine k_ldc hx hb hown hts (v := -1000002) (by decide) w_983 dX12_rule_7 ?_
    exact hret _ _ _ _ _ _ dX12_rule_9 hW hS ⟨by (repeat' split) <;> first | rfl | omega, by (repeat' split) <;> first | rfl | omega⟩

set_option maxRecDepth 100000 in
set_option maxHeartbeats 4000000 in
theorem c_X12_heir (l : Launch) (D : va_G) (cy : Nat → ClassId) (B : Nat) (σ : Sg) (h_ : Int) (z_ : Int) (r_h_ : -2147483648 ≤ h_ ∧ h_ < 2147483648) (r_z_ : -2147483648 ≤ z_ ∧ z_ < 2147483648) (hok : σ 206 4 = 0 ∨ okV (σ 206)) : CI l yX12_heir cX12_heir 3 (some .int) 2 46 D cy B [.ref (B + 202), .int (iI (h_)), .int (iI (z_))] σ (if ¬ (0 ≤ h_ ∧ h_ ≤ σ 206 4 - 1) then -1000001 else if z_ = 0 then σ 206 (12 + h_.toNat) else if z_ = 1 then σ 206 (16 + h_.toNat) else if z_ = 2 then σ 206 (20 + h_.toNat) else if z_ = 3 then says (σ 206) h_.toNat else if z_ = 4 then σ 206 (28 + h_.toNat) else if z_ = 5 then σ 206 (32 + h_.toNat) else if z_ = 6 then alw (σ 206) h_.toNat else if z_ = 7 then σ 206 (36 + h_.toNat) else if z_ = 8 then σ 206 (40 + h_.toNat) else -1000001) (σ) := by
  refine CI_of (ty := .int) (by decide) (rfl) (Nat.le_of_ble_eq_true rfl) ?_
  intro p e R s m args below meth c Q hx hb hml hown hts hK hRf hRl hW hret ls hl
  have hown : s.vm.findClass "LovePartsModel" = some m.cls := hown
  have hS : va_S (AB B) s.heap s.heap [] := va_S.rf
  have hl : lv_has ls 3 [(0, .ref (B + 202)), (1, .int (iI (h_))), (2, .int (iI (z_)))] := hl
  have f4 : 0 ≤ σ 206 4 ∧ σ 206 4 ≤ 4 := by rcases hok with h | h; (· omega); (· exact ⟨by have := h.1; omega, h.1.2⟩)
  refine lv_aload_n hx hb dX12_heir_0 rfl (lv_at hl 0 rfl) ?_
  refine lv_iload_n hx hb dX12_heir_1 rfl (lv_at hl 1 rfl) ?_
  refine k_vi (fr := 2) (lo := 46) (r := (if 0 ≤ h_ ∧ h_ ≤ σ 206 4 - 1 then 1 else 0)) (As := [.int (iI (h_))]) (rest := []) hx hb hml hown hts hK hRf hRl hW hS (c_X12_isHeir l D cy B σ h_ (show -2147483648 ≤ h_ ∧ h_ < 2147483648 from (by first | assumption | omega)) (show 0 ≤ σ 206 4 ∧ σ 206 4 ≤ 4 from (by first | assumption | omega))) vX12_isHeir ⟨w_990, w_27⟩ w_988 (by decide) e_202 rfl ⟨Nat.le_of_ble_eq_true rfl, Nat.le_of_ble_eq_true rfl⟩ hl.1 rfl (Nat.le_of_ble_eq_true rfl) ⟨Nat.zero_le _, Nat.zero_le _⟩ dX12_heir_2 (fun H locs hW hS => ?_)
  refine zi_bne (tgt := 11) hx hb dX12_heir_5 (by decide) (fun c5 => ?_) (fun c5 => ?_)
  · obtain ⟨n_, rfl⟩ : ∃ h : Nat, h_ = (h : Int) := ⟨h_.toNat, by omega⟩
    have hok := hok.resolve_left (by omega)
    obtain ⟨o4, o0, o1, o2, o3, o5, o6, o7, oH⟩ := id hok
    refine lv_iload_n hx hb dX12_heir_11 rfl (lv_at hl 2 rfl) ?_
    by_cases hsw12 : z_ < 0 ∨ 8 < z_
    · refine lv_tableOut (tgt := 146) hx hb dX12_heir_12 (by rw [iI_toInt (by omega)]; exact hsw12) (by decide) ?_
      refine k_ldc hx hb hown hts (v := -1000001) (by decide) w_907 dX12_heir_146 ?_
      exact hret _ _ _ _ _ _ dX12_heir_148 hW hS ⟨by (repeat' split) <;> first | rfl | omega, rfl⟩
    · have hsx12 : z_ = 0 ∨ z_ = 1 ∨ z_ = 2 ∨ z_ = 3 ∨ z_ = 4 ∨ z_ = 5 ∨ z_ = 6 ∨ z_ = 7 ∨ z_ = 8 := by omega
      rcases hsx12 with hs12 | hs12 | hs12 | hs12 | hs12 | hs12 | hs12 | hs12 | hs12
      · refine lv_tableIn (off := 52) (tgt := 64) hx hb dX12_heir_12 (by rw [iI_toInt (by omega)]; omega) (by rw [iI_toInt (by omega)]; omega) (by rw [iI_toInt (by omega), hs12]; rfl) (by decide) ?_
        refine lv_aload_n hx hb dX12_heir_64 rfl (lv_at hl 0 rfl) ?_
        refine wz_get hx hb hts hown hK hW 202 5 (by decide) e_202 rfl (by decide) inG12 w_820 rfl rfl dX12_heir_65 ?_
        refine zi_bip hx hb dX12_heir_68 (by decide) ?_
        refine lv_iload_n hx hb dX12_heir_70 rfl (lv_at hl 1 rfl) ?_
        refine zi_add hx hb dX12_heir_71 ?_
        refine wz_ald hx hb hK hW 206 (12 + n_) (by decide) e_206 (by omega) (by omega) (by decide) dX12_heir_72 ?_
        exact hret _ _ _ _ _ _ dX12_heir_73 hW hS ⟨by (repeat' split) <;> first | rfl | omega, rfl⟩
      · refine lv_tableIn (off := 62) (tgt := 74) hx hb dX12_heir_12 (by rw [iI_toInt (by omega)]; omega) (by rw [iI_toInt (by omega)]; omega) (by rw [iI_toInt (by omega), hs12]; rfl) (by decide) ?_
        refine lv_aload_n hx hb dX12_heir_74 rfl (lv_at hl 0 rfl) ?_
        refine wz_get hx hb hts hown hK hW 202 5 (by decide) e_202 rfl (by decide) inG12 w_820 rfl rfl dX12_heir_75 ?_
        refine zi_bip hx hb dX12_heir_78 (by decide) ?_
        refine lv_iload_n hx hb dX12_heir_80 rfl (lv_at hl 1 rfl) ?_
        refine zi_add hx hb dX12_heir_81 ?_
        refine wz_ald hx hb hK hW 206 (16 + n_) (by decide) e_206 (by omega) (by omega) (by decide) dX12_heir_82 ?_
        exact hret _ _ _ _ _ _ dX12_heir_83 hW hS ⟨by (repeat' split) <;> first | rfl | omega, rfl⟩
      · refine lv_tableIn (off := 72) (tgt := 84) hx hb dX12_heir_12 (by rw [iI_toInt (by omega)]; omega) (by rw [iI_toInt (by omega)]; omega) (by rw [iI_toInt (by omega), hs12]; rfl) (by decide) ?_
        refine lv_aload_n hx hb dX12_heir_84 rfl (lv_at hl 0 rfl) ?_
        refine wz_get hx hb hts hown hK hW 202 5 (by decide) e_202 rfl (by decide) inG12 w_820 rfl rfl dX12_heir_85 ?_
        refine zi_bip hx hb dX12_heir_88 (by decide) ?_
        refine lv_iload_n hx hb dX12_heir_90 rfl (lv_at hl 1 rfl) ?_
        refine zi_add hx hb dX12_heir_91 ?_
        refine wz_ald hx hb hK hW 206 (20 + n_) (by decide) e_206 (by omega) (by omega) (by decide) dX12_heir_92 ?_
        exact hret _ _ _ _ _ _ dX12_heir_93 hW hS ⟨by (repeat' split) <;> first | rfl | omega, rfl⟩
      · refine lv_tableIn (off := 82) (tgt := 94) hx hb dX12_heir_12 (by rw [iI_toInt (by omega)]; omega) (by rw [iI_toInt (by omega)]; omega) (by rw [iI_toInt (by omega), hs12]; rfl) (by decide) ?_
        refine lv_aload_n hx hb dX12_heir_94 rfl (lv_at hl 0 rfl) ?_
        refine lv_iload_n hx hb dX12_heir_95 rfl (lv_at hl 1 rfl) ?_
        refine k_vi (fr := 2) (lo := 46) (r := says (σ 206) n_) (As := [.int (iI (((n_ : Nat) : Int)))]) (rest := []) hx hb hml hown hts hK hRf hRl hW hS (c_X12_says l D cy B σ n_ (show okV (σ 206) from (by first | assumption | omega)) (show (n_ : Int) < σ 206 4 from (by first | assumption | omega))) vX12_says ⟨w_1020, w_33⟩ w_1018 (by decide) e_202 rfl ⟨Nat.le_of_ble_eq_true rfl, Nat.le_of_ble_eq_true rfl⟩ hl.1 rfl (Nat.le_of_ble_eq_true rfl) ⟨Nat.zero_le _, Nat.zero_le _⟩ dX12_heir_96 (fun H locs hW hS => ?_)
        exact hret _ _ _ _ _ _ dX12_heir_99 hW hS ⟨by (repeat' split) <;> first | rfl | omega, rfl⟩
      · refine lv_tableIn (off := 88) (tgt := 100) hx hb dX12_heir_12 (by rw [iI_toInt (by omega)]; omega) (by rw [iI_toInt (by omega)]; omega) (by rw [iI_toInt (by omega), hs12]; rfl) (by decide) ?_
        refine lv_aload_n hx hb dX12_heir_100 rfl (lv_at hl 0 rfl) ?_
        refine wz_get hx hb hts hown hK hW 202 5 (by decide) e_202 rfl (by decide) inG12 w_820 rfl rfl dX12_heir_101 ?_
        refine zi_bip hx hb dX12_heir_104 (by decide) ?_
        refine lv_iload_n hx hb dX12_heir_106 rfl (lv_at hl 1 rfl) ?_
        refine zi_add hx hb dX12_heir_107 ?_
        refine wz_ald hx hb hK hW 206 (28 + n_) (by decide) e_206 (by omega) (by omega) (by decide) dX12_heir_108 ?_
        exact hret _ _ _ _ _ _ dX12_heir_109 hW hS ⟨by (repeat' split) <;> first | rfl | omega, rfl⟩
      · refine lv_tableIn (off := 98) (tgt := 110) hx hb dX12_heir_12 (by rw [iI_toInt (by omega)]; omega) (by rw [iI_toInt (by omega)]; omega) (by rw [iI_toInt (by omega), hs12]; rfl) (by decide) ?_
        refine lv_aload_n hx hb dX12_heir_110 rfl (lv_at hl 0 rfl) ?_
        refine wz_get hx hb hts hown hK hW 202 5 (by decide) e_202 rfl (by decide) inG12 w_820 rfl rfl dX12_heir_111 ?_
        refine zi_bip hx hb dX12_heir_114 (by decide) ?_
        refine lv_iload_n hx hb dX12_heir_116 rfl (lv_at hl 1 rfl) ?_
        refine zi_add hx hb dX12_heir_117 ?_
        refine wz_ald hx hb hK hW 206 (32 + n_) (by decide) e_206 (by omega) (by omega) (by decide) dX12_heir_118 ?_
        exact hret _ _ _ _ _ _ dX12_heir_119 hW hS ⟨by (repeat' split) <;> first | rfl | omega, rfl⟩
      · refine lv_tableIn (off := 108) (tgt := 120) hx hb dX12_heir_12 (by rw [iI_toInt (by omega)]; omega) (by rw [iI_toInt (by omega)]; omega) (by rw [iI_toInt (by omega), hs12]; rfl) (by decide) ?_
        refine lv_aload_n hx hb dX12_heir_120 rfl (lv_at hl 0 rfl) ?_
        refine lv_iload_n hx hb dX12_heir_121 rfl (lv_at hl 1 rfl) ?_
        refine k_vi (fr := 2) (lo := 46) (r := alw (σ 206) n_) (As := [.int (iI (((n_ : Nat) : Int)))]) (rest := []) hx hb hml hown hts hK hRf hRl hW hS (c_X12_allowed l D cy B σ n_ (show okV (σ 206) from (by first | assumption | omega)) (show (n_ : Int) < σ 206 4 from (by first | assumption | omega))) vX12_allowed ⟨w_1038, w_35⟩ w_1036 (by decide) e_202 rfl ⟨Nat.le_of_ble_eq_true rfl, Nat.le_of_ble_eq_true rfl⟩ hl.1 rfl (Nat.le_of_ble_eq_true rfl) ⟨Nat.zero_le _, Nat.zero_le _⟩ dX12_heir_122 (fun H locs hW hS => ?_)
        exact hret _ _ _ _ _ _ dX12_heir_125 hW hS ⟨by (repeat' split) <;> first | rfl | omega, rfl⟩
      · refine lv_tableIn (off := 114) (tgt := 126) hx hb dX12_heir_12 (by rw [iI_toInt (by omega)]; omega) (by rw [iI_toInt (by omega)]; omega) (by rw [iI_toInt (by omega), hs12]; rfl) (by decide) ?_
        refine lv_aload_n hx hb dX12_heir_126 rfl (lv_at hl 0 rfl) ?_
        refine wz_get hx hb hts hown hK hW 202 5 (by decide) e_202 rfl (by decide) inG12 w_820 rfl rfl dX12_heir_127 ?_
        refine zi_bip hx hb dX12_heir_130 (by decide) ?_
        refine lv_iload_n hx hb dX12_heir_132 rfl (lv_at hl 1 rfl) ?_
        refine zi_add hx hb dX12_heir_133 ?_
        refine wz_ald hx hb hK hW 206 (36 + n_) (by decide) e_206 (by omega) (by omega) (by decide) dX12_heir_134 ?_
        exact hret _ _ _ _ _ _ dX12_heir_135 hW hS ⟨by (repeat' split) <;> first | rfl | omega, rfl⟩
      · refine lv_tableIn (off := 124) (tgt := 136) hx hb dX12_heir_12 (by rw [iI_toInt (by omega)]; omega) (by rw [iI_toInt (by omega)]; omega) (by rw [iI_toInt (by omega), hs12]; rfl) (by decide) ?_
        refine lv_aload_n hx hb dX12_heir_136 rfl (lv_at hl 0 rfl) ?_
        refine wz_get hx hb hts hown hK hW 202 5 (by decide) e_202 rfl (by decide) inG12 w_820 rfl rfl dX12_heir_137 ?_
        refine zi_bip hx hb dX12_heir_140 (by decide) ?_
        refine lv_iload_n hx hb dX12_heir_142 rfl (lv_at hl 1 rfl) ?_
        refine zi_add hx hb dX12_heir_143 ?_
        refine wz_ald hx hb hK hW 206 (40 + n_) (by decide) e_206 (by omega) (by omega) (by decide) dX12_heir_144 ?_
        exact hret _ _ _ _ _ _ dX12_heir_145 hW hS ⟨by (repeat' split) <;> first | rfl | omega, rfl⟩
  · refine k_ldc hx hb hown hts (v := -1000001) (by decide) w_907 dX12_heir_8 ?_
    exact hret _ _ _ _ _ _ dX12_heir_10 hW hS ⟨by (repeat' split) <;> first | rfl | omega, rfl⟩

set_option maxRecDepth 100000 in
set_option maxHeartbeats 4000000 in
theorem c_X12_king (l : Launch) (D : va_G) (cy : Nat → ClassId) (B : Nat) (σ : Sg) (z_ : Int) (r_z_ : -2147483648 ≤ z_ ∧ z_ < 2147483648) (hok : σ 206 4 = 0 ∨ okV (σ 206)) (hith : σ 202 4 = if σ 206 4 = 0 then 0 else 1) : CI l yX12_king cX12_king 2 (some .int) 0 0 D cy B [.ref (B + 202), .int (iI (z_))] σ (if σ 206 4 = 0 then -1000002 else if z_ = 0 then σ 206 1 else if z_ = 1 then σ 206 6 else if z_ = 2 then σ 206 7 else -1000001) (σ) := by
  refine CI_of (ty := .int) (by decide) (rfl) (Nat.le_of_ble_eq_true rfl) ?_
  intro p e R s m args below meth c Q hx hb hml hown hts hK hRf hRl hW hret ls hl
  have hown : s.vm.findClass "LovePartsModel" = some m.cls := hown
  have hS : va_S (AB B) s.heap s.heap [] := va_S.rf
  have hl : lv_has ls 2 [(0, .ref (B + 202)), (1, .int (iI (z_)))] := hl
  have hbi : -2147483648 ≤ σ 202 4 ∧ σ 202 4 < 2147483648 := by rw [hith]; split <;> omega
  have hit : (σ 202 4 = 0 ∧ σ 206 4 = 0) ∨ (σ 202 4 = 1 ∧ ¬ σ 206 4 = 0) := by rw [hith]; split <;> simp_all
  refine lv_aload_n hx hb dX12_king_0 rfl (lv_at hl 0 rfl) ?_
  refine wz_get hx hb hts hown hK hW 202 4 (by decide) e_202 rfl (by decide) inG12 w_819 rfl rfl dX12_king_1 ?_
  refine zi_ne (tgt := 10) hx hb dX12_king_4 (by decide) (by omega) (fun c4 => ?_) (fun c4 => ?_)
  · have hok := hok.resolve_left (by omega)
    obtain ⟨o4, o0, o1, o2, o3, o5, o6, o7, oH⟩ := id hok
    refine lv_iload_n hx hb dX12_king_10 rfl (lv_at hl 1 rfl) ?_
    refine zi_ne (tgt := 23) hx hb dX12_king_11 (by decide) (by omega) (fun c11 => ?_) (fun c11 => ?_)
    · refine lv_iload_n hx hb dX12_king_23 rfl (lv_at hl 1 rfl) ?_
      refine zi_con hx hb dX12_king_24 ?_
      refine zi_cne (tgt := 38) hx hb dX12_king_25 (by decide) (by omega) (by omega) (fun c25 => ?_) (fun c25 => ?_)
      · refine lv_iload_n hx hb dX12_king_38 rfl (lv_at hl 1 rfl) ?_
        refine zi_con hx hb dX12_king_39 ?_
        refine zi_cne (tgt := 53) hx hb dX12_king_40 (by decide) (by omega) (by omega) (fun c40 => ?_) (fun c40 => ?_)
        · refine k_ldc hx hb hown hts (v := -1000001) (by decide) w_907 dX12_king_53 ?_
          exact hret _ _ _ _ _ _ dX12_king_55 hW hS ⟨by (repeat' split) <;> first | rfl | omega, rfl⟩
        · refine lv_aload_n hx hb dX12_king_43 rfl (lv_at hl 0 rfl) ?_
          refine wz_get hx hb hts hown hK hW 202 5 (by decide) e_202 rfl (by decide) inG12 w_820 rfl rfl dX12_king_44 ?_
          refine zi_bip hx hb dX12_king_47 (by decide) ?_
          refine wz_ald hx hb hK hW 206 7 (by decide) e_206 (by omega) (by omega) (by decide) dX12_king_49 ?_
          refine lv_goto (tgt := 55) hx hb dX12_king_50 (by decide) ?_
          exact hret _ _ _ _ _ _ dX12_king_55 hW hS ⟨by (repeat' split) <;> first | rfl | omega, rfl⟩
      · refine lv_aload_n hx hb dX12_king_28 rfl (lv_at hl 0 rfl) ?_
        refine wz_get hx hb hts hown hK hW 202 5 (by decide) e_202 rfl (by decide) inG12 w_820 rfl rfl dX12_king_29 ?_
        refine zi_bip hx hb dX12_king_32 (by decide) ?_
        refine wz_ald hx hb hK hW 206 6 (by decide) e_206 (by omega) (by omega) (by decide) dX12_king_34 ?_
        refine lv_goto (tgt := 55) hx hb dX12_king_35 (by decide) ?_
        exact hret _ _ _ _ _ _ dX12_king_55 hW hS ⟨by (repeat' split) <;> first | rfl | omega, rfl⟩
    · refine lv_aload_n hx hb dX12_king_14 rfl (lv_at hl 0 rfl) ?_
      refine wz_get hx hb hts hown hK hW 202 5 (by decide) e_202 rfl (by decide) inG12 w_820 rfl rfl dX12_king_15 ?_
      refine zi_con hx hb dX12_king_18 ?_
      refine wz_ald hx hb hK hW 206 1 (by decide) e_206 (by omega) (by omega) (by decide) dX12_king_19 ?_
      refine lv_goto (tgt := 55) hx hb dX12_king_20 (by decide) ?_
      exact hret _ _ _ _ _ _ dX12_king_55 hW hS ⟨by (repeat' split) <;> first | rfl | omega, rfl⟩
  · refine k_ldc hx hb hown hts (v := -1000002) (by decide) w_983 dX12_king_7 ?_
    exact hret _ _ _ _ _ _ dX12_king_9 hW hS ⟨by (repeat' split) <;> first | rfl | omega, rfl⟩

set_option maxRecDepth 100000 in
set_option maxHeartbeats 4000000 in
theorem c_X12_share (l : Launch) (D : va_G) (cy : Nat → ClassId) (B : Nat) (σ : Sg) (h_ : Int) (z_ : Int) (r_h_ : -2147483648 ≤ h_ ∧ h_ < 2147483648) (r_z_ : -2147483648 ≤ z_ ∧ z_ < 2147483648) (hok : σ 206 4 = 0 ∨ okV (σ 206)) : CI l yX12_share cX12_share 3 (some .int) 4 93 D cy B [.ref (B + 202), .int (iI (h_)), .int (iI (z_))] σ (if ¬ (0 ≤ h_ ∧ h_ ≤ σ 206 4 - 1) ∨ ¬ (0 ≤ z_ ∧ z_ ≤ 3) then -1000001 else shr (σ 206) z_ h_.toNat) (if ¬ (0 ≤ h_ ∧ h_ ≤ σ 206 4 - 1) ∨ ¬ (0 ≤ z_ ∧ z_ ≤ 3) then σ else us σ 210 (cpy (mn (σ 206)) (shr (σ 206) z_) (σ 210))) := by
  refine CI_of (ty := .int) (by decide) (rfl) (Nat.le_of_ble_eq_true rfl) ?_
  intro p e R s m args below meth c Q hx hb hml hown hts hK hRf hRl hW hret ls hl
  have hown : s.vm.findClass "LovePartsModel" = some m.cls := hown
  have hS : va_S (AB B) s.heap s.heap [] := va_S.rf
  have hl : lv_has ls 3 [(0, .ref (B + 202)), (1, .int (iI (h_))), (2, .int (iI (z_)))] := hl
  have f4 : 0 ≤ σ 206 4 ∧ σ 206 4 ≤ 4 := by rcases hok with h | h; (· omega); (· exact ⟨by have := h.1; omega, h.1.2⟩)
  refine lv_aload_n hx hb dX12_share_0 rfl (lv_at hl 0 rfl) ?_
  refine lv_iload_n hx hb dX12_share_1 rfl (lv_at hl 1 rfl) ?_
  refine k_vi (fr := 4) (lo := 93) (r := (if 0 ≤ h_ ∧ h_ ≤ σ 206 4 - 1 then 1 else 0)) (As := [.int (iI (h_))]) (rest := []) hx hb hml hown hts hK hRf hRl hW hS (c_X12_isHeir l D cy B σ h_ (show -2147483648 ≤ h_ ∧ h_ < 2147483648 from (by first | assumption | omega)) (show 0 ≤ σ 206 4 ∧ σ 206 4 ≤ 4 from (by first | assumption | omega))) vX12_isHeir ⟨w_990, w_27⟩ w_988 (by decide) e_202 rfl ⟨Nat.le_of_ble_eq_true rfl, Nat.le_of_ble_eq_true rfl⟩ hl.1 rfl (Nat.le_of_ble_eq_true rfl) ⟨Nat.zero_le _, Nat.zero_le _⟩ dX12_share_2 (fun H locs hW hS => ?_)
  refine zi_beq (tgt := 20) hx hb dX12_share_5 (by decide) (fun c5 => ?_) (fun c5 => ?_)
  · refine k_ldc hx hb hown hts (v := -1000001) (by decide) w_907 dX12_share_20 ?_
    exact hret _ _ _ _ _ _ dX12_share_22 hW hS ⟨by (repeat' split) <;> first | rfl | omega, by (repeat' split) <;> first | rfl | omega⟩
  · obtain ⟨n_, rfl⟩ : ∃ h : Nat, h_ = (h : Int) := ⟨h_.toNat, by omega⟩
    have hok := hok.resolve_left (by omega)
    obtain ⟨o4, o0, o1, o2, o3, o5, o6, o7, oH⟩ := id hok
    refine lv_iload_n hx hb dX12_share_8 rfl (lv_at hl 2 rfl) ?_
    refine zi_i2l hx hb dX12_share_9 (by omega) ?_
    refine zi_lcon (z := 0) hx hb dX12_share_10 (by decide) ?_
    refine k_ldc2 hx hb hown hts (v := 3) (by decide) w_1026 dX12_share_11 ?_
    refine k_si (fr := 4) (lo := 93) (r := (if 0 ≤ z_ ∧ z_ ≤ 3 then 1 else 0)) (As := [.long (lI (z_)), .long (lI (0)), .long (lI (3))]) (rest := []) hx hb hml hown hts hK hRf hRl hW hS (c_X12_in l D cy B σ z_ 0 3 (show -9223372036854775808 ≤ z_ ∧ z_ < 9223372036854775808 from (by first | assumption | omega)) (show -9223372036854775808 ≤ 0 ∧ 0 < 9223372036854775808 from (by first | assumption | omega)) (show -9223372036854775808 ≤ 3 ∧ 3 < 9223372036854775808 from (by first | assumption | omega))) vX12_in w_904 w_903 ⟨Nat.le_of_ble_eq_true rfl, Nat.le_of_ble_eq_true rfl⟩ hl.1 rfl (Nat.le_of_ble_eq_true rfl) ⟨Nat.zero_le _, Nat.zero_le _⟩ dX12_share_14 (fun H locs hW hS => ?_)
    refine zi_bne (tgt := 23) hx hb dX12_share_17 (by decide) (fun c17 => ?_) (fun c17 => ?_)
    · refine lv_aload_n hx hb dX12_share_23 rfl (lv_at hl 0 rfl) ?_
      refine lv_iload_n hx hb dX12_share_24 rfl (lv_at hl 2 rfl) ?_
      refine k_vv (fr := 4) (lo := 93) (σ' := (us σ 210 (cpy (mn (σ 206)) (shr (σ 206) z_) (σ 210)))) (As := [.int (iI (z_))]) (rest := []) hx hb hml hown hts hK hRf hRl hW hS (c_X12_findShares l D cy B σ z_ (show okV (σ 206) from (by first | assumption | omega)) (show 0 ≤ z_ ∧ z_ ≤ 3 from (by first | assumption | omega))) vX12_findShares ⟨w_1012, w_31⟩ w_1010 (by decide) e_202 rfl ⟨Nat.le_of_ble_eq_true rfl, Nat.le_of_ble_eq_true rfl⟩ hl.1 rfl (Nat.le_of_ble_eq_true rfl) ⟨Nat.zero_le _, Nat.zero_le _⟩ dX12_share_25 (fun H locs hW hS => ?_)
      refine lv_aload_n hx hb dX12_share_28 rfl (lv_at hl 0 rfl) ?_
      refine wz_get hx hb hts hown hK hW 202 16 (by decide) e_202 rfl (by decide) inG12 w_831 rfl rfl dX12_share_29 ?_
      refine lv_iload_n hx hb dX12_share_32 rfl (lv_at hl 1 rfl) ?_
      refine wz_ald hx hb hK hW 210 n_ (by decide) e_210 (by omega) (by omega) (by decide) dX12_share_33 ?_
      refine zi_top (y := shr (σ 206) z_ n_) (by (show cpy (mn (σ 206)) (shr (σ 206) z_) (σ 210) n_ = _; unfold cpy; rw [if_pos (by unfold mn; omega)])) ?_
      exact hret _ _ _ _ _ _ dX12_share_34 hW hS ⟨by (repeat' split) <;> first | rfl | omega, by (repeat' split) <;> first | rfl | omega⟩
    · refine k_ldc hx hb hown hts (v := -1000001) (by decide) w_907 dX12_share_20 ?_
      exact hret _ _ _ _ _ _ dX12_share_22 hW hS ⟨by (repeat' split) <;> first | rfl | omega, by (repeat' split) <;> first | rfl | omega⟩

set_option maxRecDepth 100000 in
set_option maxHeartbeats 4000000 in
theorem c_X12_kind (l : Launch) (D : va_G) (cy : Nat → ClassId) (B : Nat) (σ : Sg) (h_ : Int) (r_h_ : -2147483648 ≤ h_ ∧ h_ < 2147483648) (hok : σ 206 4 = 0 ∨ okV (σ 206)) : CI l yX12_kind cX12_kind 2 (some .int) 2 46 D cy B [.ref (B + 202), .int (iI (h_))] σ (if ¬ (0 ≤ h_ ∧ h_ ≤ σ 206 4 - 1) then -1000001 else σ 206 (8 + h_.toNat)) (σ) := by
  refine CI_of (ty := .int) (by decide) (rfl) (Nat.le_of_ble_eq_true rfl) ?_
  intro p e R s m args below meth c Q hx hb hml hown hts hK hRf hRl hW hret ls hl
  have hown : s.vm.findClass "LovePartsModel" = some m.cls := hown
  have hS : va_S (AB B) s.heap s.heap [] := va_S.rf
  have hl : lv_has ls 2 [(0, .ref (B + 202)), (1, .int (iI (h_)))] := hl
  have f4 : 0 ≤ σ 206 4 ∧ σ 206 4 ≤ 4 := by rcases hok with h | h; (· omega); (· exact ⟨by have := h.1; omega, h.1.2⟩)
  refine lv_aload_n hx hb dX12_kind_0 rfl (lv_at hl 0 rfl) ?_
  refine lv_iload_n hx hb dX12_kind_1 rfl (lv_at hl 1 rfl) ?_
  refine k_vi (fr := 2) (lo := 46) (r := (if 0 ≤ h_ ∧ h_ ≤ σ 206 4 - 1 then 1 else 0)) (As := [.int (iI (h_))]) (rest := []) hx hb hml hown hts hK hRf hRl hW hS (c_X12_isHeir l D cy B σ h_ (show -2147483648 ≤ h_ ∧ h_ < 2147483648 from (by first | assumption | omega)) (show 0 ≤ σ 206 4 ∧ σ 206 4 ≤ 4 from (by first | assumption | omega))) vX12_isHeir ⟨w_990, w_27⟩ w_988 (by decide) e_202 rfl ⟨Nat.le_of_ble_eq_true rfl, Nat.le_of_ble_eq_true rfl⟩ hl.1 rfl (Nat.le_of_ble_eq_true rfl) ⟨Nat.zero_le _, Nat.zero_le _⟩ dX12_kind_2 (fun H locs hW hS => ?_)
  refine zi_beq (tgt := 20) hx hb dX12_kind_5 (by decide) (fun c5 => ?_) (fun c5 => ?_)
  · refine k_ldc hx hb hown hts (v := -1000001) (by decide) w_907 dX12_kind_20 ?_
    exact hret _ _ _ _ _ _ dX12_kind_22 hW hS ⟨by (repeat' split) <;> first | rfl | omega, rfl⟩
  · obtain ⟨n_, rfl⟩ : ∃ h : Nat, h_ = (h : Int) := ⟨h_.toNat, by omega⟩
    have hok := hok.resolve_left (by omega)
    obtain ⟨o4, o0, o1, o2, o3, o5, o6, o7, oH⟩ := id hok
    refine lv_aload_n hx hb dX12_kind_8 rfl (lv_at hl 0 rfl) ?_
    refine wz_get hx hb hts hown hK hW 202 5 (by decide) e_202 rfl (by decide) inG12 w_820 rfl rfl dX12_kind_9 ?_
    refine zi_bip hx hb dX12_kind_12 (by decide) ?_
    refine lv_iload_n hx hb dX12_kind_14 rfl (lv_at hl 1 rfl) ?_
    refine zi_add hx hb dX12_kind_15 ?_
    refine wz_ald hx hb hK hW 206 (8 + n_) (by decide) e_206 (by omega) (by omega) (by decide) dX12_kind_16 ?_
    refine lv_goto (tgt := 22) hx hb dX12_kind_17 (by decide) ?_
    exact hret _ _ _ _ _ _ dX12_kind_22 hW hS ⟨by (repeat' split) <;> first | rfl | omega, rfl⟩
