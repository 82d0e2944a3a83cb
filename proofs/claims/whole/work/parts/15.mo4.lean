
set_option maxRecDepth 100000 in
set_option maxHeartbeats 4000000 in
theorem c_X12_row (l : Launch) (D : va_G) (cy : Nat → ClassId) (B : Nat) (σ : Sg) (r_ : Int) (l_ : Int) (n_ : Int) (r_r_ : -2147483648 ≤ r_ ∧ r_ < 2147483648) (r_l_ : -2147483648 ≤ l_ ∧ l_ < 2147483648) (r_n_ : -2147483648 ≤ n_ ∧ n_ < 2147483648) : CI l yX12_row cX12_row 5 (some .int) 2 45 D cy B [.ref (B + 202), .int (iI (r_)), .int (iI (l_)), .int (iI (n_))] σ (if ¬ (0 ≤ r_ ∧ r_ ≤ 7) ∨ ¬ (0 ≤ l_ ∧ l_ ≤ 2) ∨ 40 < n_ then -1000001 else if n_ < 0 then -1000014 else n_) (if ¬ (0 ≤ r_ ∧ r_ ≤ 7) ∨ ¬ (0 ≤ l_ ∧ l_ ≤ 2) ∨ 40 < n_ then σ else if n_ < 0 then up σ 202 3 4 else up (us (up (up σ 203 r_.toNat l_) 204 r_.toNat n_) 205 (cpo (40 * r_.toNat) 40 (fun _ => 0) (σ 205))) 202 3 0) := by
  refine CI_of (ty := .int) (by decide) (rfl) (Nat.le_of_ble_eq_true rfl) ?_
  intro p e R s m args below meth c Q hx hb hml hown hts hK hRf hRl hW hret ls hl
  have hown : s.vm.findClass "LovePartsModel" = some m.cls := hown
  have hS : va_S (AB B) s.heap s.heap [] := va_S.rf
  have hl : lv_has ls 5 [(0, .ref (B + 202)), (1, .int (iI (r_))), (2, .int (iI (l_))), (3, .int (iI (n_)))] := hl
  refine lv_iload_n hx hb dX12_row_0 rfl (lv_at hl 1 rfl) ?_
  refine k_si (fr := 2) (lo := 45) (r := (if 0 ≤ r_ ∧ r_ ≤ 7 then 1 else 0)) (As := [.int (iI (r_))]) (rest := []) hx hb hml hown hts hK hRf hRl hW hS (c_X12_isRow l D cy B σ r_ (show -2147483648 ≤ r_ ∧ r_ < 2147483648 from (by first | assumption | omega))) vX12_isRow w_900 w_899 ⟨Nat.le_of_ble_eq_true rfl, Nat.le_of_ble_eq_true rfl⟩ hl.1 rfl (Nat.le_of_ble_eq_true rfl) ⟨Nat.zero_le _, Nat.zero_le _⟩ dX12_row_1 (fun H locs hW hS => ?_)
  refine zi_beq (tgt := 25) hx hb dX12_row_4 (by decide) (fun c4 => ?_) (fun c4 => ?_)
  · refine k_ldc hx hb hown hts (v := -1000001) (by decide) w_907 dX12_row_25 ?_
    exact hret _ _ _ _ _ _ dX12_row_27 hW hS ⟨by (repeat' split) <;> first | rfl | omega, by (repeat' split) <;> first | rfl | omega⟩
  · refine lv_iload_n hx hb dX12_row_7 rfl (lv_at hl 2 rfl) ?_
    refine zi_i2l hx hb dX12_row_8 (by omega) ?_
    refine zi_lcon (z := 0) hx hb dX12_row_9 (by decide) ?_
    refine k_ldc2 hx hb hown hts (v := 2) (by decide) w_906 dX12_row_10 ?_
    refine k_si (fr := 2) (lo := 45) (r := (if 0 ≤ l_ ∧ l_ ≤ 2 then 1 else 0)) (As := [.long (lI (l_)), .long (lI (0)), .long (lI (2))]) (rest := []) hx hb hml hown hts hK hRf hRl hW hS (c_X12_in l D cy B σ l_ 0 2 (show -9223372036854775808 ≤ l_ ∧ l_ < 9223372036854775808 from (by first | assumption | omega)) (show -9223372036854775808 ≤ 0 ∧ 0 < 9223372036854775808 from (by first | assumption | omega)) (show -9223372036854775808 ≤ 2 ∧ 2 < 9223372036854775808 from (by first | assumption | omega))) vX12_in w_904 w_903 ⟨Nat.le_of_ble_eq_true rfl, Nat.le_of_ble_eq_true rfl⟩ hl.1 rfl (Nat.le_of_ble_eq_true rfl) ⟨Nat.zero_le _, Nat.zero_le _⟩ dX12_row_13 (fun H locs hW hS => ?_)
    refine zi_beq (tgt := 25) hx hb dX12_row_16 (by decide) (fun c16 => ?_) (fun c16 => ?_)
    · refine k_ldc hx hb hown hts (v := -1000001) (by decide) w_907 dX12_row_25 ?_
      exact hret _ _ _ _ _ _ dX12_row_27 hW hS ⟨by (repeat' split) <;> first | rfl | omega, by (repeat' split) <;> first | rfl | omega⟩
    · refine lv_iload_n hx hb dX12_row_19 rfl (lv_at hl 3 rfl) ?_
      refine zi_bip hx hb dX12_row_20 (by decide) ?_
      refine zi_cle (tgt := 28) hx hb dX12_row_22 (by decide) (by omega) (by omega) (fun c22 => ?_) (fun c22 => ?_)
      · refine lv_iload_n hx hb dX12_row_28 rfl (lv_at hl 3 rfl) ?_
        refine zi_ge (tgt := 38) hx hb dX12_row_29 (by decide) (by omega) (fun c29 => ?_) (fun c29 => ?_)
        · refine lv_aload_n hx hb dX12_row_38 rfl (lv_at hl 0 rfl) ?_
          refine wz_get hx hb hts hown hK hW 202 0 (by decide) e_202 rfl (by decide) inG12 w_815 rfl rfl dX12_row_39 ?_
          refine lv_iload_n hx hb dX12_row_42 rfl (lv_at hl 1 rfl) ?_
          refine lv_iload_n hx hb dX12_row_43 rfl (lv_at hl 2 rfl) ?_
          refine wz_ast (σ' := (up σ 203 r_.toNat l_)) hx hb hK hW hS 203 r_.toNat (by decide) e_203 (by omega) (by omega) (by decide) p_203 dX12_row_44 (fun H locs hW hS => ?_)
          refine lv_aload_n hx hb dX12_row_45 rfl (lv_at hl 0 rfl) ?_
          refine wz_get hx hb hts hown hK hW 202 1 (by decide) e_202 rfl (by decide) inG12 w_816 rfl rfl dX12_row_46 ?_
          refine lv_iload_n hx hb dX12_row_49 rfl (lv_at hl 1 rfl) ?_
          refine lv_iload_n hx hb dX12_row_50 rfl (lv_at hl 3 rfl) ?_
          refine wz_ast (σ' := (up (up σ 203 r_.toNat l_) 204 r_.toNat n_)) hx hb hK hW hS 204 r_.toNat (by decide) e_204 (by omega) (by omega) (by decide) p_204 dX12_row_51 (fun H locs hW hS => ?_)
          refine zi_con hx hb dX12_row_52 ?_
          refine lv_istore (lv' := [(4, .int (iI (0))), (0, .ref (B + 202)), (1, .int (iI (r_))), (2, .int (iI (l_))), (3, .int (iI (n_)))]) hx hb dX12_row_53 hl (by decide) rfl (fun ls hl => ?_)
          have L55 : ∀ (n55 : Nat) (k_ : Nat) (H : Heap) (locs : List Loc) (ls : Array Slot), 40 - k_ < n55 → (k_ ≤ 40) → wd D cy B (us (up (up σ 203 r_.toNat l_) 204 r_.toNat n_) 205 (cpo (40 * r_.toNat) k_ (fun _ => 0) ((up (up σ 203 r_.toNat l_) 204 r_.toNat n_) 205))) H → va_S (AB B) s.heap H locs → lv_has ls 5 [(4, .int (iI (((k_ : Nat) : Int)))), (0, .ref (B + 202)), (1, .int (iI (r_))), (2, .int (iI (l_))), (3, .int (iI (n_)))] → W p l e R s m args below meth c H locs 0 0 Q (F0 m 55 ls []) := by
            intro n55
            induction n55 with
            | zero => intro k_ H locs ls hms; omega
            | succ n55 ih55 =>
              intro k_ H locs ls hms55 hk hW hS hl
              refine lv_iload hx hb dX12_row_55 (lv_at hl 0 rfl) ?_
              refine zi_bip hx hb dX12_row_57 (by decide) ?_
              refine zi_cge (tgt := 81) hx hb dX12_row_59 (by decide) (by omega) (by omega) (fun c59 => ?_) (fun c59 => ?_)
              · have hk4 : k_ = 40 := by omega
                refine lv_aload_n hx hb dX12_row_81 rfl (lv_at hl 1 rfl) ?_
                refine lv_iload_n hx hb dX12_row_82 rfl (lv_at hl 4 rfl) ?_
                refine k_vi (fr := 2) (lo := 45) (r := n_) (σ' := (up (us (up (up σ 203 r_.toNat l_) 204 r_.toNat n_) 205 (cpo (40 * r_.toNat) k_ (fun _ => 0) ((up (up σ 203 r_.toNat l_) 204 r_.toNat n_) 205))) 202 3 0)) (As := [.int (iI (n_))]) (rest := []) hx hb hml hown hts hK hRf hRl hW hS (c_X12_well l D cy B (us (up (up σ 203 r_.toNat l_) 204 r_.toNat n_) 205 (cpo (40 * r_.toNat) k_ (fun _ => 0) ((up (up σ 203 r_.toNat l_) 204 r_.toNat n_) 205))) n_ ) vX12_well ⟨w_915, w_19⟩ w_913 (by decide) e_202 rfl ⟨Nat.le_of_ble_eq_true rfl, Nat.le_of_ble_eq_true rfl⟩ hl.1 rfl (Nat.le_of_ble_eq_true rfl) ⟨Nat.zero_le _, Nat.zero_le _⟩ dX12_row_83 (fun H locs hW hS => ?_)
                subst hk4
                exact hret _ _ _ _ _ _ dX12_row_86 hW hS ⟨by (repeat' split) <;> first | rfl | omega, by (repeat' split) <;> first | rfl | omega⟩
              · refine lv_aload_n hx hb dX12_row_62 rfl (lv_at hl 1 rfl) ?_
                refine wz_get hx hb hts hown hK hW 202 2 (by decide) e_202 rfl (by decide) inG12 w_817 rfl rfl dX12_row_63 ?_
                refine zi_bip hx hb dX12_row_66 (by decide) ?_
                refine lv_iload_n hx hb dX12_row_68 rfl (lv_at hl 2 rfl) ?_
                refine zi_mul hx hb dX12_row_69 ?_
                refine lv_iload hx hb dX12_row_70 (lv_at hl 0 rfl) ?_
                refine zi_add hx hb dX12_row_72 ?_
                refine zi_con hx hb dX12_row_73 ?_
                refine wz_ast (σ' := (up (us (up (up σ 203 r_.toNat l_) 204 r_.toNat n_) 205 (cpo (40 * r_.toNat) k_ (fun _ => 0) ((up (up σ 203 r_.toNat l_) 204 r_.toNat n_) 205))) 205 ((40 * r_.toNat) + k_) 0)) hx hb hK hW hS 205 ((40 * r_.toNat) + k_) (by decide) e_205 (by omega) (by omega) (by decide) p_205 dX12_row_74 (fun H locs hW hS => ?_)
                refine lv_iinc (v := iI (((k_ : Nat) : Int) + 1)) (lv' := [(4, .int (iI (((k_ : Nat) : Int) + 1))), (0, .ref (B + 202)), (1, .int (iI (r_))), (2, .int (iI (l_))), (3, .int (iI (n_)))]) hx hb dX12_row_75 hl (k := 0) rfl (iI_add _ _) (by decide) rfl (fun ls hl => ?_)
                refine lv_goto (tgt := 55) hx hb dX12_row_78 (by decide) ?_
                exact ih55 (k_ + 1) _ _ _ (by omega) (by omega) (by rw [← up_cpo]; exact hW) hS (lv_sub hl [0, 1, 2, 3, 4] rfl)
          exact L55 _ 0 _ _ _ (Nat.lt_succ_self _) (by omega) (by rw [us_cpo0]; exact hW) hS (lv_sub hl [0, 1, 2, 3, 4] rfl)
        · refine lv_aload_n hx hb dX12_row_32 rfl (lv_at hl 0 rfl) ?_
          refine zi_con hx hb dX12_row_33 ?_
          refine k_vi (fr := 2) (lo := 45) (r := -1000010 - 4) (σ' := (up σ 202 3 4)) (As := [.int (iI (4))]) (rest := []) hx hb hml hown hts hK hRf hRl hW hS (c_X12_find l D cy B σ 4 ) vX12_find ⟨w_910, w_18⟩ w_908 (by decide) e_202 rfl ⟨Nat.le_of_ble_eq_true rfl, Nat.le_of_ble_eq_true rfl⟩ hl.1 rfl (Nat.le_of_ble_eq_true rfl) ⟨Nat.zero_le _, Nat.zero_le _⟩ dX12_row_34 (fun H locs hW hS => ?_)
          exact hret _ _ _ _ _ _ dX12_row_37 hW hS ⟨by (repeat' split) <;> first | rfl | omega, by (repeat' split) <;> first | rfl | omega⟩
      · refine k_ldc hx hb hown hts (v := -1000001) (by decide) w_907 dX12_row_25 ?_
        exact hret _ _ _ _ _ _ dX12_row_27 hW hS ⟨by (repeat' split) <;> first | rfl | omega, by (repeat' split) <;> first | rfl | omega⟩

set_option maxRecDepth 100000 in
set_option maxHeartbeats 4000000 in
theorem c_X12_drop (l : Launch) (D : va_G) (cy : Nat → ClassId) (B : Nat) (σ : Sg) (r_ : Int) (r_r_ : -2147483648 ≤ r_ ∧ r_ < 2147483648) (hsz : ∀ k, k < 8 → -1 ≤ σ 204 k ∧ σ 204 k ≤ 40) : CI l yX12_drop cX12_drop 3 (some .int) 2 45 D cy B [.ref (B + 202), .int (iI (r_))] σ (if ¬ (0 ≤ r_ ∧ r_ ≤ 7) then -1000001 else if σ 204 r_.toNat < 0 then -1000011 else σ 204 r_.toNat) (if ¬ (0 ≤ r_ ∧ r_ ≤ 7) then σ else if σ 204 r_.toNat < 0 then up σ 202 3 1 else up (up σ 204 r_.toNat (-1)) 202 3 0) := by
  refine CI_of (ty := .int) (by decide) (rfl) (Nat.le_of_ble_eq_true rfl) ?_
  intro p e R s m args below meth c Q hx hb hml hown hts hK hRf hRl hW hret ls hl
  have hown : s.vm.findClass "LovePartsModel" = some m.cls := hown
  have hS : va_S (AB B) s.heap s.heap [] := va_S.rf
  have hl : lv_has ls 3 [(0, .ref (B + 202)), (1, .int (iI (r_)))] := hl
  refine lv_iload_n hx hb dX12_drop_0 rfl (lv_at hl 1 rfl) ?_
  refine k_si (fr := 2) (lo := 45) (r := (if 0 ≤ r_ ∧ r_ ≤ 7 then 1 else 0)) (As := [.int (iI (r_))]) (rest := []) hx hb hml hown hts hK hRf hRl hW hS (c_X12_isRow l D cy B σ r_ (show -2147483648 ≤ r_ ∧ r_ < 2147483648 from (by first | assumption | omega))) vX12_isRow w_900 w_899 ⟨Nat.le_of_ble_eq_true rfl, Nat.le_of_ble_eq_true rfl⟩ hl.1 rfl (Nat.le_of_ble_eq_true rfl) ⟨Nat.zero_le _, Nat.zero_le _⟩ dX12_drop_1 (fun H locs hW hS => ?_)
  refine zi_bne (tgt := 10) hx hb dX12_drop_4 (by decide) (fun c4 => ?_) (fun c4 => ?_)
  · have hz := hsz r_.toNat (by omega)
    refine lv_aload_n hx hb dX12_drop_10 rfl (lv_at hl 0 rfl) ?_
    refine wz_get hx hb hts hown hK hW 202 1 (by decide) e_202 rfl (by decide) inG12 w_816 rfl rfl dX12_drop_11 ?_
    refine lv_iload_n hx hb dX12_drop_14 rfl (lv_at hl 1 rfl) ?_
    refine wz_ald hx hb hK hW 204 r_.toNat (by decide) e_204 (by omega) (by omega) (by decide) dX12_drop_15 ?_
    refine zi_ge (tgt := 25) hx hb dX12_drop_16 (by decide) (by omega) (fun c16 => ?_) (fun c16 => ?_)
    · refine lv_aload_n hx hb dX12_drop_25 rfl (lv_at hl 0 rfl) ?_
      refine wz_get hx hb hts hown hK hW 202 1 (by decide) e_202 rfl (by decide) inG12 w_816 rfl rfl dX12_drop_26 ?_
      refine lv_iload_n hx hb dX12_drop_29 rfl (lv_at hl 1 rfl) ?_
      refine wz_ald hx hb hK hW 204 r_.toNat (by decide) e_204 (by omega) (by omega) (by decide) dX12_drop_30 ?_
      refine lv_istore_n (lv' := [(2, .int (iI (σ 204 r_.toNat))), (0, .ref (B + 202)), (1, .int (iI (r_)))]) hx hb dX12_drop_31 rfl hl (by decide) rfl (fun ls hl => ?_)
      refine lv_aload_n hx hb dX12_drop_32 rfl (lv_at hl 1 rfl) ?_
      refine wz_get hx hb hts hown hK hW 202 1 (by decide) e_202 rfl (by decide) inG12 w_816 rfl rfl dX12_drop_33 ?_
      refine lv_iload_n hx hb dX12_drop_36 rfl (lv_at hl 2 rfl) ?_
      refine zi_con hx hb dX12_drop_37 ?_
      refine wz_ast (σ' := (up σ 204 r_.toNat (-1))) hx hb hK hW hS 204 r_.toNat (by decide) e_204 (by omega) (by omega) (by decide) p_204 dX12_drop_38 (fun H locs hW hS => ?_)
      refine lv_aload_n hx hb dX12_drop_39 rfl (lv_at hl 1 rfl) ?_
      refine lv_iload_n hx hb dX12_drop_40 rfl (lv_at hl 0 rfl) ?_
      refine k_vi (fr := 2) (lo := 45) (r := (σ 204 r_.toNat)) (σ' := (up (up σ 204 r_.toNat (-1)) 202 3 0)) (As := [.int (iI (σ 204 r_.toNat))]) (rest := []) hx hb hml hown hts hK hRf hRl hW hS (c_X12_well l D cy B (up σ 204 r_.toNat (-1)) (σ 204 r_.toNat) ) vX12_well ⟨w_915, w_19⟩ w_913 (by decide) e_202 rfl ⟨Nat.le_of_ble_eq_true rfl, Nat.le_of_ble_eq_true rfl⟩ hl.1 rfl (Nat.le_of_ble_eq_true rfl) ⟨Nat.zero_le _, Nat.zero_le _⟩ dX12_drop_41 (fun H locs hW hS => ?_)
      exact hret _ _ _ _ _ _ dX12_drop_44 hW hS ⟨by (repeat' split) <;> first | rfl | omega, by (repeat' split) <;> first | rfl | omega⟩
    · refine lv_aload_n hx hb dX12_drop_19 rfl (lv_at hl 0 rfl) ?_
      refine zi_con hx hb dX12_drop_20 ?_
      refine k_vi (fr := 2) (lo := 45) (r := -1000010 - 1) (σ' := (up σ 202 3 1)) (As := [.int (iI (1))]) (rest := []) hx hb hml hown hts hK hRf hRl hW hS (c_X12_find l D cy B σ 1 ) vX12_find ⟨w_910, w_18⟩ w_908 (by decide) e_202 rfl ⟨Nat.le_of_ble_eq_true rfl, Nat.le_of_ble_eq_true rfl⟩ hl.1 rfl (Nat.le_of_ble_eq_true rfl) ⟨Nat.zero_le _, Nat.zero_le _⟩ dX12_drop_21 (fun H locs hW hS => ?_)
      exact hret _ _ _ _ _ _ dX12_drop_24 hW hS ⟨by (repeat' split) <;> first | rfl | omega, by (repeat' split) <;> first | rfl | omega⟩
  · refine k_ldc hx hb hown hts (v := -1000001) (by decide) w_907 dX12_drop_7 ?_
    exact hret _ _ _ _ _ _ dX12_drop_9 hW hS ⟨by (repeat' split) <;> first | rfl | omega, by (repeat' split) <;> first | rfl | omega⟩

set_option maxRecDepth 100000 in
set_option maxHeartbeats 4000000 in
theorem c_X12_feed (l : Launch) (D : va_G) (cy : Nat → ClassId) (B : Nat) (σ : Sg) (z_ : Int) (r_z_ : -2147483648 ≤ z_ ∧ z_ < 2147483648) (hby : 0 ≤ σ 202 8 ∧ σ 202 8 ≤ 100) : CI l yX12_feed cX12_feed 2 (some .int) 1 25 D cy B [.ref (B + 202), .int (iI (z_))] σ (if ¬ (0 ≤ z_ ∧ z_ ≤ 255) then -1000001 else if σ 202 8 = 100 then -1000003 else σ 202 8 + 1) (if ¬ (0 ≤ z_ ∧ z_ ≤ 255) then σ else if σ 202 8 = 100 then σ else up (up σ 208 (σ 202 8).toNat z_) 202 8 (σ 202 8 + 1)) := by
  refine CI_of (ty := .int) (by decide) (rfl) (Nat.le_of_ble_eq_true rfl) ?_
  intro p e R s m args below meth c Q hx hb hml hown hts hK hRf hRl hW hret ls hl
  have hown : s.vm.findClass "LovePartsModel" = some m.cls := hown
  have hS : va_S (AB B) s.heap s.heap [] := va_S.rf
  have hl : lv_has ls 2 [(0, .ref (B + 202)), (1, .int (iI (z_)))] := hl
  refine lv_iload_n hx hb dX12_feed_0 rfl (lv_at hl 1 rfl) ?_
  refine zi_i2l hx hb dX12_feed_1 (by omega) ?_
  refine zi_lcon (z := 0) hx hb dX12_feed_2 (by decide) ?_
  refine k_ldc2 hx hb hown hts (v := 255) (by decide) w_936 dX12_feed_3 ?_
  refine k_si (fr := 1) (lo := 25) (r := (if 0 ≤ z_ ∧ z_ ≤ 255 then 1 else 0)) (As := [.long (lI (z_)), .long (lI (0)), .long (lI (255))]) (rest := []) hx hb hml hown hts hK hRf hRl hW hS (c_X12_in l D cy B σ z_ 0 255 (show -9223372036854775808 ≤ z_ ∧ z_ < 9223372036854775808 from (by first | assumption | omega)) (show -9223372036854775808 ≤ 0 ∧ 0 < 9223372036854775808 from (by first | assumption | omega)) (show -9223372036854775808 ≤ 255 ∧ 255 < 9223372036854775808 from (by first | assumption | omega))) vX12_in w_904 w_903 ⟨Nat.le_of_ble_eq_true rfl, Nat.le_of_ble_eq_true rfl⟩ hl.1 rfl (Nat.le_of_ble_eq_true rfl) ⟨Nat.zero_le _, Nat.zero_le _⟩ dX12_feed_6 (fun H locs hW hS => ?_)
  refine zi_bne (tgt := 15) hx hb dX12_feed_9 (by decide) (fun c9 => ?_) (fun c9 => ?_)
  · refine lv_aload_n hx hb dX12_feed_15 rfl (lv_at hl 0 rfl) ?_
    refine wz_get hx hb hts hown hK hW 202 8 (by decide) e_202 rfl (by decide) inG12 w_823 rfl rfl dX12_feed_16 ?_
    refine zi_bip hx hb dX12_feed_19 (by decide) ?_
    refine zi_cne (tgt := 27) hx hb dX12_feed_21 (by decide) (by omega) (by omega) (fun c21 => ?_) (fun c21 => ?_)
    · refine lv_aload_n hx hb dX12_feed_27 rfl (lv_at hl 0 rfl) ?_
      refine wz_get hx hb hts hown hK hW 202 7 (by decide) e_202 rfl (by decide) inG12 w_822 rfl rfl dX12_feed_28 ?_
      refine lv_aload_n hx hb dX12_feed_31 rfl (lv_at hl 0 rfl) ?_
      refine wz_get hx hb hts hown hK hW 202 8 (by decide) e_202 rfl (by decide) inG12 w_823 rfl rfl dX12_feed_32 ?_
      refine lv_iload_n hx hb dX12_feed_35 rfl (lv_at hl 1 rfl) ?_
      refine wz_ast (σ' := (up σ 208 ((σ 202 8).toNat) z_)) hx hb hK hW hS 208 ((σ 202 8).toNat) (by decide) e_208 (by omega) (by omega) (by decide) p_208 dX12_feed_36 (fun H locs hW hS => ?_)
      refine lv_aload_n hx hb dX12_feed_37 rfl (lv_at hl 0 rfl) ?_
      refine lv_dup hx hb dX12_feed_38 rfl ?_
      refine wz_get hx hb hts hown hK hW 202 8 (by decide) e_202 rfl (by decide) inG12 w_823 rfl rfl dX12_feed_39 ?_
      refine zi_top (y := σ 202 8) (by (first | rfl | (simp [us, uf, nS] <;> omega))) ?_
      refine zi_con hx hb dX12_feed_42 ?_
      refine zi_add hx hb dX12_feed_43 ?_
      refine wz_put (σ' := (up (up σ 208 ((σ 202 8).toNat) z_) 202 8 ((σ 202 8) + 1))) (ty := .int) hx hb hts hown hK hW hS 202 8 tyX12 (by decide) e_202 rfl (by decide) inG12 tyX12_ok nmX12 w_823 ⟨rfl, rfl, Nat.le_of_ble_eq_true rfl⟩ (by decide +kernel) ⟨rfl, rfl⟩ p_202_8 dX12_feed_44 (fun H locs hW hS => ?_)
      refine lv_aload_n hx hb dX12_feed_47 rfl (lv_at hl 0 rfl) ?_
      refine wz_get hx hb hts hown hK hW 202 8 (by decide) e_202 rfl (by decide) inG12 w_823 rfl rfl dX12_feed_48 ?_
      refine zi_top (y := (σ 202 8) + 1) (by (first | rfl | (simp [us, uf, nS] <;> omega))) ?_
      exact hret _ _ _ _ _ _ dX12_feed_51 hW hS ⟨by (repeat' split) <;> first | rfl | omega, by (repeat' split) <;> first | rfl | omega⟩
    · refine k_ldc hx hb hown hts (v := -1000003) (by decide) w_937 dX12_feed_24 ?_
      exact hret _ _ _ _ _ _ dX12_feed_26 hW hS ⟨by (repeat' split) <;> first | rfl | omega, by (repeat' split) <;> first | rfl | omega⟩
  · refine k_ldc hx hb hown hts (v := -1000001) (by decide) w_907 dX12_feed_12 ?_
    exact hret _ _ _ _ _ _ dX12_feed_14 hW hS ⟨by (repeat' split) <;> first | rfl | omega, by (repeat' split) <;> first | rfl | omega⟩

set_option maxRecDepth 100000 in
set_option maxHeartbeats 4000000 in
theorem c_X12_undo (l : Launch) (D : va_G) (cy : Nat → ClassId) (B : Nat) (σ : Sg)  (ha1 : 0 ≤ σ 202 18 ∧ σ 202 18 ≤ 24) : CI l yX12_undo cX12_undo 2 (some .int) 0 0 D cy B [.ref (B + 202)] σ (if σ 202 18 = 0 then -1000002 else σ 202 18 - 1) (if σ 202 18 = 0 then σ else us (up σ 202 18 (σ 202 18 - 1)) 206 (fun j => σ 211 (48 * (σ 202 18 - 1).toNat + j))) := by
  refine CI_of (ty := .int) (by decide) (rfl) (Nat.le_of_ble_eq_true rfl) ?_
  intro p e R s m args below meth c Q hx hb hml hown hts hK hRf hRl hW hret ls hl
  have hown : s.vm.findClass "LovePartsModel" = some m.cls := hown
  have hS : va_S (AB B) s.heap s.heap [] := va_S.rf
  have hl : lv_has ls 2 [(0, .ref (B + 202))] := hl
  refine lv_aload_n hx hb dX12_undo_0 rfl (lv_at hl 0 rfl) ?_
  refine wz_get hx hb hts hown hK hW 202 18 (by decide) e_202 rfl (by decide) inG12 w_833 rfl rfl dX12_undo_1 ?_
  refine zi_ne (tgt := 10) hx hb dX12_undo_4 (by decide) (by omega) (fun c4 => ?_) (fun c4 => ?_)
  · refine lv_aload_n hx hb dX12_undo_10 rfl (lv_at hl 0 rfl) ?_
    refine lv_dup hx hb dX12_undo_11 rfl ?_
    refine wz_get hx hb hts hown hK hW 202 18 (by decide) e_202 rfl (by decide) inG12 w_833 rfl rfl dX12_undo_12 ?_
    refine zi_con hx hb dX12_undo_15 ?_
    refine zi_sub hx hb dX12_undo_16 ?_
    refine wz_put (σ' := (up σ 202 18 ((σ 202 18) - 1))) (ty := .int) hx hb hts hown hK hW hS 202 18 tyX12 (by decide) e_202 rfl (by decide) inG12 tyX12_ok nmX12 w_833 ⟨rfl, rfl, Nat.le_of_ble_eq_true rfl⟩ (by decide +kernel) ⟨rfl, rfl⟩ p_202_18 dX12_undo_17 (fun H locs hW hS => ?_)
    refine zi_con hx hb dX12_undo_20 ?_
    refine lv_istore_n (lv' := [(1, .int (iI (0))), (0, .ref (B + 202))]) hx hb dX12_undo_21 rfl hl (by decide) rfl (fun ls hl => ?_)
    have L22 : ∀ (n22 : Nat) (k_ : Nat) (H : Heap) (locs : List Loc) (ls : Array Slot), 48 - k_ < n22 → (k_ ≤ 48) → wd D cy B (us (up σ 202 18 ((σ 202 18) - 1)) 206 (cpy k_ (fun j => σ 211 (48 * (σ 202 18 - 1).toNat + j)) ((up σ 202 18 ((σ 202 18) - 1)) 206))) H → va_S (AB B) s.heap H locs → lv_has ls 2 [(1, .int (iI (((k_ : Nat) : Int)))), (0, .ref (B + 202))] → W p l e R s m args below meth c H locs 0 0 Q (F0 m 22 ls []) := by
      intro n22
      induction n22 with
      | zero => intro k_ H locs ls hms; omega
      | succ n22 ih22 =>
        intro k_ H locs ls hms22 hk hW hS hl
        refine lv_iload_n hx hb dX12_undo_22 rfl (lv_at hl 0 rfl) ?_
        refine zi_bip hx hb dX12_undo_23 (by decide) ?_
        refine zi_cge (tgt := 54) hx hb dX12_undo_25 (by decide) (by omega) (by omega) (fun c25 => ?_) (fun c25 => ?_)
        · have hW := wd_arr (c := 206) (n := 48) (g := fun j => σ 211 (48 * (σ 202 18 - 1).toNat + j)) (by omega) (fun _ => rfl) (fun j hj => by unfold cpy; rw [if_pos (by omega)]) hW
          refine lv_aload_n hx hb dX12_undo_54 rfl (lv_at hl 1 rfl) ?_
          refine wz_get hx hb hts hown hK hW 202 18 (by decide) e_202 rfl (by decide) inG12 w_833 rfl rfl dX12_undo_55 ?_
          refine zi_top (y := (σ 202 18) - 1) (by (first | rfl | (simp [us, uf, nS] <;> omega))) ?_
          exact hret _ _ _ _ _ _ dX12_undo_58 hW hS ⟨by (repeat' split) <;> first | rfl | omega, by (repeat' split) <;> first | rfl | omega⟩
        · refine lv_aload_n hx hb dX12_undo_28 rfl (lv_at hl 1 rfl) ?_
          refine wz_get hx hb hts hown hK hW 202 5 (by decide) e_202 rfl (by decide) inG12 w_820 rfl rfl dX12_undo_29 ?_
          refine lv_iload_n hx hb dX12_undo_32 rfl (lv_at hl 0 rfl) ?_
          refine lv_aload_n hx hb dX12_undo_33 rfl (lv_at hl 1 rfl) ?_
          refine wz_get hx hb hts hown hK hW 202 17 (by decide) e_202 rfl (by decide) inG12 w_832 rfl rfl dX12_undo_34 ?_
          refine zi_bip hx hb dX12_undo_37 (by decide) ?_
          refine lv_aload_n hx hb dX12_undo_39 rfl (lv_at hl 1 rfl) ?_
          refine wz_get hx hb hts hown hK hW 202 18 (by decide) e_202 rfl (by decide) inG12 w_833 rfl rfl dX12_undo_40 ?_
          refine zi_top (y := (σ 202 18) - 1) (by (first | rfl | (simp [us, uf, nS] <;> omega))) ?_
          refine zi_mul hx hb dX12_undo_43 ?_
          refine lv_iload_n hx hb dX12_undo_44 rfl (lv_at hl 0 rfl) ?_
          refine zi_add hx hb dX12_undo_45 ?_
          refine wz_ald hx hb hK hW 211 (48 * (σ 202 18 - 1).toNat + k_) (by decide) e_211 (by omega) (by omega) (by decide) dX12_undo_46 ?_
          refine zi_top (y := σ 211 (48 * (σ 202 18 - 1).toNat + k_)) (by (first | rfl | (simp [us, uf, nS] <;> omega))) ?_
          refine wz_ast (σ' := (up (us (up σ 202 18 ((σ 202 18) - 1)) 206 (cpy k_ (fun j => σ 211 (48 * (σ 202 18 - 1).toNat + j)) ((up σ 202 18 ((σ 202 18) - 1)) 206))) 206 k_ (σ 211 (48 * (σ 202 18 - 1).toNat + k_)))) hx hb hK hW hS 206 k_ (by decide) e_206 (by omega) (by omega) (by decide) p_206 dX12_undo_47 (fun H locs hW hS => ?_)
          refine lv_iinc (v := iI (((k_ : Nat) : Int) + 1)) (lv' := [(1, .int (iI (((k_ : Nat) : Int) + 1))), (0, .ref (B + 202))]) hx hb dX12_undo_48 hl (k := 0) rfl (iI_add _ _) (by decide) rfl (fun ls hl => ?_)
          refine lv_goto (tgt := 22) hx hb dX12_undo_51 (by decide) ?_
          exact ih22 (k_ + 1) _ _ _ (by omega) (by omega) (by rw [← up_cpy]; exact hW) hS (lv_sub hl [0, 1] rfl)
    exact L22 _ 0 _ _ _ (Nat.lt_succ_self _) (by omega) (by rw [us_cpy0]; exact hW) hS (lv_sub hl [0, 1] rfl)
  · refine k_ldc hx hb hown hts (v := -1000002) (by decide) w_983 dX12_undo_7 ?_
    exact hret _ _ _ _ _ _ dX12_undo_9 hW hS ⟨by (repeat' split) <;> first | rfl | omega, by (repeat' split) <;> first | rfl | omega⟩
