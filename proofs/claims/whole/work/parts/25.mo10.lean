
set_option maxRecDepth 100000 in
set_option maxHeartbeats 4000000 in
theorem c_X12_asLane (l : Launch) (D : va_G) (cy : Nat → ClassId) (B : Nat) (σ : Sg) (l_ : Int) (v_ : Int) (r_l_ : -2147483648 ≤ l_ ∧ l_ < 2147483648) (r_v_ : -2147483648 ≤ v_ ∧ v_ < 2147483648) : CI l yX12_asLane cX12_asLane 2 (some .int) 0 0 D cy B [.int (iI (l_)), .int (iI (v_))] σ (fitI l_ v_) (σ) := by
  refine CI_of (ty := .int) (by decide) (rfl) (Nat.le_of_ble_eq_true rfl) ?_
  intro p e R s m args below meth c Q hx hb hml hown hts hK hRf hRl hW hret ls hl
  have hown : s.vm.findClass "LovePartsModel" = some m.cls := hown
  have hS : va_S (AB B) s.heap s.heap [] := va_S.rf
  have hl : lv_has ls 2 [(0, .int (iI (l_))), (1, .int (iI (v_)))] := hl
  refine lv_iload_n hx hb dX12_asLane_0 rfl (lv_at hl 0 rfl) ?_
  refine zi_ne (tgt := 14) hx hb dX12_asLane_1 (by decide) (by omega) (fun c1 => ?_) (fun c1 => ?_)
  · refine lv_iload_n hx hb dX12_asLane_14 rfl (lv_at hl 0 rfl) ?_
    refine zi_con hx hb dX12_asLane_15 ?_
    refine zi_cne (tgt := 29) hx hb dX12_asLane_16 (by decide) (by omega) (by omega) (fun c16 => ?_) (fun c16 => ?_)
    · refine lv_iload_n hx hb dX12_asLane_29 rfl (lv_at hl 1 rfl) ?_
      exact hret _ _ _ _ _ _ dX12_asLane_30 hW hS ⟨by unfold fitI; (repeat' split) <;> first | rfl | omega, rfl⟩
    · refine lv_iload_n hx hb dX12_asLane_19 rfl (lv_at hl 1 rfl) ?_
      refine zi_bip hx hb dX12_asLane_20 (by decide) ?_
      refine lv_ishl hx hb dX12_asLane_22 ?_
      refine zi_bip hx hb dX12_asLane_23 (by decide) ?_
      refine lv_ishr hx hb dX12_asLane_25 ?_
      refine zi_toi (shl16 _) ?_
      refine lv_goto (tgt := 30) hx hb dX12_asLane_26 (by decide) ?_
      exact hret _ _ _ _ _ _ dX12_asLane_30 hW hS ⟨by unfold fitI; (repeat' split) <;> first | rfl | omega, rfl⟩
  · refine lv_iload_n hx hb dX12_asLane_4 rfl (lv_at hl 1 rfl) ?_
    refine zi_bip hx hb dX12_asLane_5 (by decide) ?_
    refine lv_ishl hx hb dX12_asLane_7 ?_
    refine zi_bip hx hb dX12_asLane_8 (by decide) ?_
    refine lv_ishr hx hb dX12_asLane_10 ?_
    refine zi_toi (shl24 _) ?_
    refine lv_goto (tgt := 30) hx hb dX12_asLane_11 (by decide) ?_
    exact hret _ _ _ _ _ _ dX12_asLane_30 hW hS ⟨by unfold fitI; (repeat' split) <;> first | rfl | omega, rfl⟩

set_option maxRecDepth 100000 in
set_option maxHeartbeats 4000000 in
theorem c_X12_set (l : Launch) (D : va_G) (cy : Nat → ClassId) (B : Nat) (σ : Sg) (r_ : Int) (i_ : Int) (v_ : Int) (r_r_ : -2147483648 ≤ r_ ∧ r_ < 2147483648) (r_i_ : -2147483648 ≤ i_ ∧ i_ < 2147483648) (r_v_ : -2147483648 ≤ v_ ∧ v_ < 2147483648) (hsz : ∀ k, k < 8 → -1 ≤ σ 204 k ∧ σ 204 k ≤ 40) (hla : ∀ k, k < 8 → -1 ≤ σ 203 k ∧ σ 203 k ≤ 2) : CI l yX12_set cX12_set 4 (some .int) 2 45 D cy B [.ref (B + 202), .int (iI (r_)), .int (iI (i_)), .int (iI (v_))] σ (if ¬ (0 ≤ r_ ∧ r_ ≤ 7) then -1000001 else if σ 204 r_.toNat < 0 then -1000011 else if ¬ (0 ≤ i_ ∧ i_ ≤ σ 204 r_.toNat - 1) then -1000012 else fitI (σ 203 r_.toNat) v_) (if ¬ (0 ≤ r_ ∧ r_ ≤ 7) then σ else if σ 204 r_.toNat < 0 then up σ 202 3 1 else if ¬ (0 ≤ i_ ∧ i_ ≤ σ 204 r_.toNat - 1) then up σ 202 3 2 else up (up σ 205 (40 * r_.toNat + i_.toNat) (fitI (σ 203 r_.toNat) v_)) 202 3 0) := by
  refine CI_of (ty := .int) (by decide) (rfl) (Nat.le_of_ble_eq_true rfl) ?_
  intro p e R s m args below meth c Q hx hb hml hown hts hK hRf hRl hW hret ls hl
  have hown : s.vm.findClass "LovePartsModel" = some m.cls := hown
  have hS : va_S (AB B) s.heap s.heap [] := va_S.rf
  have hl : lv_has ls 4 [(0, .ref (B + 202)), (1, .int (iI (r_))), (2, .int (iI (i_))), (3, .int (iI (v_)))] := hl
  refine lv_iload_n hx hb dX12_set_0 rfl (lv_at hl 1 rfl) ?_
  refine k_si (fr := 2) (lo := 45) (r := (if 0 ≤ r_ ∧ r_ ≤ 7 then 1 else 0)) (As := [.int (iI (r_))]) (rest := []) hx hb hml hown hts hK hRf hRl hW hS (c_X12_isRow l D cy B σ r_ (show -2147483648 ≤ r_ ∧ r_ < 2147483648 from (by first | assumption | omega | (simp only [tpL_25, List.length_cons, List.length_nil]; omega)))) vX12_isRow w_900 w_899 ⟨Nat.le_of_ble_eq_true rfl, Nat.le_of_ble_eq_true rfl⟩ hl.1 rfl (Nat.le_of_ble_eq_true rfl) ⟨Nat.zero_le _, Nat.zero_le _⟩ dX12_set_1 (fun H locs hW hS => ?_)
  refine zi_bne (tgt := 10) hx hb dX12_set_4 (by decide) (fun c4 => ?_) (fun c4 => ?_)
  · have hz := hsz r_.toNat (by omega)
    have hlz := hla r_.toNat (by omega)
    refine lv_aload_n hx hb dX12_set_10 rfl (lv_at hl 0 rfl) ?_
    refine wz_get hx hb hts hown hK hW 202 1 (by decide) e_202 rfl (by decide) inG12 w_816 rfl rfl dX12_set_11 ?_
    refine lv_iload_n hx hb dX12_set_14 rfl (lv_at hl 1 rfl) ?_
    refine wz_ald hx hb hK hW 204 r_.toNat (by decide) e_204 (by omega) (by omega) (by decide) dX12_set_15 ?_
    refine zi_ge (tgt := 25) hx hb dX12_set_16 (by decide) (by omega) (fun c16 => ?_) (fun c16 => ?_)
    · refine lv_iload_n hx hb dX12_set_25 rfl (lv_at hl 2 rfl) ?_
      refine zi_i2l hx hb dX12_set_26 (by omega) ?_
      refine zi_lcon (z := 0) hx hb dX12_set_27 (by decide) ?_
      refine lv_aload_n hx hb dX12_set_28 rfl (lv_at hl 0 rfl) ?_
      refine wz_get hx hb hts hown hK hW 202 1 (by decide) e_202 rfl (by decide) inG12 w_816 rfl rfl dX12_set_29 ?_
      refine lv_iload_n hx hb dX12_set_32 rfl (lv_at hl 1 rfl) ?_
      refine wz_ald hx hb hK hW 204 r_.toNat (by decide) e_204 (by omega) (by omega) (by decide) dX12_set_33 ?_
      refine zi_con hx hb dX12_set_34 ?_
      refine zi_sub hx hb dX12_set_35 ?_
      refine zi_i2l hx hb dX12_set_36 (by omega) ?_
      refine k_si (fr := 2) (lo := 45) (r := (if 0 ≤ i_ ∧ i_ ≤ ((σ 204 r_.toNat) - 1) then 1 else 0)) (As := [.long (lI (i_)), .long (lI (0)), .long (lI ((σ 204 r_.toNat) - 1))]) (rest := []) hx hb hml hown hts hK hRf hRl hW hS (c_X12_in l D cy B σ i_ 0 ((σ 204 r_.toNat) - 1) (show -9223372036854775808 ≤ i_ ∧ i_ < 9223372036854775808 from (by first | assumption | omega | (simp only [tpL_25, List.length_cons, List.length_nil]; omega))) (show -9223372036854775808 ≤ 0 ∧ 0 < 9223372036854775808 from (by first | assumption | omega | (simp only [tpL_25, List.length_cons, List.length_nil]; omega))) (show -9223372036854775808 ≤ ((σ 204 r_.toNat) - 1) ∧ ((σ 204 r_.toNat) - 1) < 9223372036854775808 from (by first | assumption | omega | (simp only [tpL_25, List.length_cons, List.length_nil]; omega)))) vX12_in w_904 w_903 ⟨Nat.le_of_ble_eq_true rfl, Nat.le_of_ble_eq_true rfl⟩ hl.1 rfl (Nat.le_of_ble_eq_true rfl) ⟨Nat.zero_le _, Nat.zero_le _⟩ dX12_set_37 (fun H locs hW hS => ?_)
      refine zi_bne (tgt := 49) hx hb dX12_set_40 (by decide) (fun c40 => ?_) (fun c40 => ?_)
      · refine lv_aload_n hx hb dX12_set_49 rfl (lv_at hl 0 rfl) ?_
        refine wz_get hx hb hts hown hK hW 202 2 (by decide) e_202 rfl (by decide) inG12 w_817 rfl rfl dX12_set_50 ?_
        refine zi_bip hx hb dX12_set_53 (by decide) ?_
        refine lv_iload_n hx hb dX12_set_55 rfl (lv_at hl 1 rfl) ?_
        refine zi_mul hx hb dX12_set_56 ?_
        refine lv_iload_n hx hb dX12_set_57 rfl (lv_at hl 2 rfl) ?_
        refine zi_add hx hb dX12_set_58 ?_
        refine lv_aload_n hx hb dX12_set_59 rfl (lv_at hl 0 rfl) ?_
        refine wz_get hx hb hts hown hK hW 202 0 (by decide) e_202 rfl (by decide) inG12 w_815 rfl rfl dX12_set_60 ?_
        refine lv_iload_n hx hb dX12_set_63 rfl (lv_at hl 1 rfl) ?_
        refine wz_ald hx hb hK hW 203 r_.toNat (by decide) e_203 (by omega) (by omega) (by decide) dX12_set_64 ?_
        refine lv_iload_n hx hb dX12_set_65 rfl (lv_at hl 3 rfl) ?_
        refine k_si (fr := 2) (lo := 45) (r := fitI (σ 203 r_.toNat) v_) (As := [.int (iI (σ 203 r_.toNat)), .int (iI (v_))]) (rest := [.int (iI ((40 * r_) + i_)), .ref (B + 205)]) hx hb hml hown hts hK hRf hRl hW hS (c_X12_asLane l D cy B σ (σ 203 r_.toNat) v_ (show -2147483648 ≤ (σ 203 r_.toNat) ∧ (σ 203 r_.toNat) < 2147483648 from (by first | assumption | omega | (simp only [tpL_25, List.length_cons, List.length_nil]; omega))) (show -2147483648 ≤ v_ ∧ v_ < 2147483648 from (by first | assumption | omega | (simp only [tpL_25, List.length_cons, List.length_nil]; omega)))) vX12_asLane w_922 w_921 ⟨Nat.le_of_ble_eq_true rfl, Nat.le_of_ble_eq_true rfl⟩ hl.1 rfl (Nat.le_of_ble_eq_true rfl) ⟨Nat.zero_le _, Nat.zero_le _⟩ dX12_set_66 (fun H locs hW hS => ?_)
        refine wz_ast (σ' := (up σ 205 (40 * r_.toNat + i_.toNat) (fitI (σ 203 r_.toNat) v_))) hx hb hK hW hS 205 (40 * r_.toNat + i_.toNat) (by decide) e_205 (by omega) (by omega) (by decide) p_205 dX12_set_69 (fun H locs hW hS => ?_)
        refine lv_aload_n hx hb dX12_set_70 rfl (lv_at hl 0 rfl) ?_
        refine lv_aload_n hx hb dX12_set_71 rfl (lv_at hl 0 rfl) ?_
        refine wz_get hx hb hts hown hK hW 202 2 (by decide) e_202 rfl (by decide) inG12 w_817 rfl rfl dX12_set_72 ?_
        refine zi_bip hx hb dX12_set_75 (by decide) ?_
        refine lv_iload_n hx hb dX12_set_77 rfl (lv_at hl 1 rfl) ?_
        refine zi_mul hx hb dX12_set_78 ?_
        refine lv_iload_n hx hb dX12_set_79 rfl (lv_at hl 2 rfl) ?_
        refine zi_add hx hb dX12_set_80 ?_
        refine wz_ald hx hb hK hW 205 (40 * r_.toNat + i_.toNat) (by decide) e_205 (by omega) (by omega) (by decide) dX12_set_81 ?_
        refine zi_top (y := fitI (σ 203 r_.toNat) v_) (by (first | rfl | (simp [us, uf, nS] <;> omega))) ?_
        refine k_vi (fr := 2) (lo := 45) (r := (fitI (σ 203 r_.toNat) v_)) (σ' := (up (up σ 205 (40 * r_.toNat + i_.toNat) (fitI (σ 203 r_.toNat) v_)) 202 3 0)) (As := [.int (iI (fitI (σ 203 r_.toNat) v_))]) (rest := []) hx hb hml hown hts hK hRf hRl hW hS (c_X12_well l D cy B (up σ 205 (40 * r_.toNat + i_.toNat) (fitI (σ 203 r_.toNat) v_)) (fitI (σ 203 r_.toNat) v_) ) vX12_well ⟨w_915, w_19⟩ w_913 (by decide) e_202 rfl ⟨Nat.le_of_ble_eq_true rfl, Nat.le_of_ble_eq_true rfl⟩ hl.1 rfl (Nat.le_of_ble_eq_true rfl) ⟨Nat.zero_le _, Nat.zero_le _⟩ dX12_set_82 (fun H locs hW hS => ?_)
        exact hret _ _ _ _ _ _ dX12_set_85 hW hS ⟨by (repeat' split) <;> first | rfl | omega, by (repeat' split) <;> first | rfl | omega⟩
      · refine lv_aload_n hx hb dX12_set_43 rfl (lv_at hl 0 rfl) ?_
        refine zi_con hx hb dX12_set_44 ?_
        refine k_vi (fr := 2) (lo := 45) (r := -1000010 - 2) (σ' := (up σ 202 3 2)) (As := [.int (iI (2))]) (rest := []) hx hb hml hown hts hK hRf hRl hW hS (c_X12_find l D cy B σ 2 ) vX12_find ⟨w_910, w_18⟩ w_908 (by decide) e_202 rfl ⟨Nat.le_of_ble_eq_true rfl, Nat.le_of_ble_eq_true rfl⟩ hl.1 rfl (Nat.le_of_ble_eq_true rfl) ⟨Nat.zero_le _, Nat.zero_le _⟩ dX12_set_45 (fun H locs hW hS => ?_)
        exact hret _ _ _ _ _ _ dX12_set_48 hW hS ⟨by (repeat' split) <;> first | rfl | omega, by (repeat' split) <;> first | rfl | omega⟩
    · refine lv_aload_n hx hb dX12_set_19 rfl (lv_at hl 0 rfl) ?_
      refine zi_con hx hb dX12_set_20 ?_
      refine k_vi (fr := 2) (lo := 45) (r := -1000010 - 1) (σ' := (up σ 202 3 1)) (As := [.int (iI (1))]) (rest := []) hx hb hml hown hts hK hRf hRl hW hS (c_X12_find l D cy B σ 1 ) vX12_find ⟨w_910, w_18⟩ w_908 (by decide) e_202 rfl ⟨Nat.le_of_ble_eq_true rfl, Nat.le_of_ble_eq_true rfl⟩ hl.1 rfl (Nat.le_of_ble_eq_true rfl) ⟨Nat.zero_le _, Nat.zero_le _⟩ dX12_set_21 (fun H locs hW hS => ?_)
      exact hret _ _ _ _ _ _ dX12_set_24 hW hS ⟨by (repeat' split) <;> first | rfl | omega, by (repeat' split) <;> first | rfl | omega⟩
  · refine k_ldc hx hb hown hts (v := -1000001) (by decide) w_907 dX12_set_7 ?_
    exact hret _ _ _ _ _ _ dX12_set_9 hW hS ⟨by (repeat' split) <;> first | rfl | omega, by (repeat' split) <;> first | rfl | omega⟩

set_option maxRecDepth 100000 in
set_option maxHeartbeats 4000000 in
theorem c_X12_copy (l : Launch) (D : va_G) (cy : Nat → ClassId) (B : Nat) (σ : Sg) (a_ : Int) (i_ : Int) (b_ : Int) (j_ : Int) (n_ : Int) (r_a_ : -2147483648 ≤ a_ ∧ a_ < 2147483648) (r_i_ : -2147483648 ≤ i_ ∧ i_ < 2147483648) (r_b_ : -2147483648 ≤ b_ ∧ b_ < 2147483648) (r_j_ : -2147483648 ≤ j_ ∧ j_ < 2147483648) (r_n_ : -2147483648 ≤ n_ ∧ n_ < 2147483648) (hsz : ∀ k, k < 8 → -1 ≤ σ 204 k ∧ σ 204 k ≤ 40) (hla : ∀ k, k < 8 → -1 ≤ σ 203 k ∧ σ 203 k ≤ 2) : CI l yX12_copy cX12_copy 7 (some .int) 2 45 D cy B [.ref (B + 202), .int (iI (a_)), .int (iI (i_)), .int (iI (b_)), .int (iI (j_)), .int (iI (n_))] σ (if ¬ (0 ≤ a_ ∧ a_ ≤ 7) ∨ ¬ (0 ≤ b_ ∧ b_ ≤ 7) then -1000001 else if σ 204 a_.toNat < 0 ∨ σ 204 b_.toNat < 0 then -1000011 else if ¬ σ 203 a_.toNat = σ 203 b_.toNat then -1000015 else if n_ < 0 ∨ ¬ (0 ≤ i_ ∧ i_ ≤ σ 204 a_.toNat - n_) ∨ ¬ (0 ≤ j_ ∧ j_ ≤ σ 204 b_.toNat - n_) then -1000012 else n_) (if ¬ (0 ≤ a_ ∧ a_ ≤ 7) ∨ ¬ (0 ≤ b_ ∧ b_ ≤ 7) then σ else if σ 204 a_.toNat < 0 ∨ σ 204 b_.toNat < 0 then up σ 202 3 1 else if ¬ σ 203 a_.toNat = σ 203 b_.toNat then up σ 202 3 5 else if n_ < 0 ∨ ¬ (0 ≤ i_ ∧ i_ ≤ σ 204 a_.toNat - n_) ∨ ¬ (0 ≤ j_ ∧ j_ ≤ σ 204 b_.toNat - n_) then up σ 202 3 2 else up (us (us σ 207 (cpy n_.toNat (fun x => σ 205 (40 * a_.toNat + i_.toNat + x)) (σ 207))) 205 (cpo (40 * b_.toNat + j_.toNat) n_.toNat (fun x => σ 205 (40 * a_.toNat + i_.toNat + x)) (σ 205))) 202 3 0) := by
  refine CI_of (ty := .int) (by decide) (rfl) (Nat.le_of_ble_eq_true rfl) ?_
  intro p e R s m args below meth c Q hx hb hml hown hts hK hRf hRl hW hret ls hl
  have hown : s.vm.findClass "LovePartsModel" = some m.cls := hown
  have hS : va_S (AB B) s.heap s.heap [] := va_S.rf
  have hl : lv_has ls 7 [(0, .ref (B + 202)), (1, .int (iI (a_))), (2, .int (iI (i_))), (3, .int (iI (b_))), (4, .int (iI (j_))), (5, .int (iI (n_)))] := hl
  refine lv_iload_n hx hb dX12_copy_0 rfl (lv_at hl 1 rfl) ?_
  refine k_si (fr := 2) (lo := 45) (r := (if 0 ≤ a_ ∧ a_ ≤ 7 then 1 else 0)) (As := [.int (iI (a_))]) (rest := []) hx hb hml hown hts hK hRf hRl hW hS (c_X12_isRow l D cy B σ a_ (show -2147483648 ≤ a_ ∧ a_ < 2147483648 from (by first | assumption | omega | (simp only [tpL_25, List.length_cons, List.length_nil]; omega)))) vX12_isRow w_900 w_899 ⟨Nat.le_of_ble_eq_true rfl, Nat.le_of_ble_eq_true rfl⟩ hl.1 rfl (Nat.le_of_ble_eq_true rfl) ⟨Nat.zero_le _, Nat.zero_le _⟩ dX12_copy_1 (fun H locs hW hS => ?_)
  refine zi_beq (tgt := 14) hx hb dX12_copy_4 (by decide) (fun c4 => ?_) (fun c4 => ?_)
  · refine k_ldc hx hb hown hts (v := -1000001) (by decide) w_907 dX12_copy_14 ?_
    exact hret _ _ _ _ _ _ dX12_copy_16 hW hS ⟨by (repeat' split) <;> first | rfl | omega, by (repeat' split) <;> first | rfl | omega⟩
  · refine lv_iload_n hx hb dX12_copy_7 rfl (lv_at hl 3 rfl) ?_
    refine k_si (fr := 2) (lo := 45) (r := (if 0 ≤ b_ ∧ b_ ≤ 7 then 1 else 0)) (As := [.int (iI (b_))]) (rest := []) hx hb hml hown hts hK hRf hRl hW hS (c_X12_isRow l D cy B σ b_ (show -2147483648 ≤ b_ ∧ b_ < 2147483648 from (by first | assumption | omega | (simp only [tpL_25, List.length_cons, List.length_nil]; omega)))) vX12_isRow w_900 w_899 ⟨Nat.le_of_ble_eq_true rfl, Nat.le_of_ble_eq_true rfl⟩ hl.1 rfl (Nat.le_of_ble_eq_true rfl) ⟨Nat.zero_le _, Nat.zero_le _⟩ dX12_copy_8 (fun H locs hW hS => ?_)
    refine zi_bne (tgt := 17) hx hb dX12_copy_11 (by decide) (fun c11 => ?_) (fun c11 => ?_)
    · have hz1 := hsz a_.toNat (by omega)
      have hz2 := hsz b_.toNat (by omega)
      have hl1 := hla a_.toNat (by omega)
      have hl2 := hla b_.toNat (by omega)
      refine lv_aload_n hx hb dX12_copy_17 rfl (lv_at hl 0 rfl) ?_
      refine wz_get hx hb hts hown hK hW 202 1 (by decide) e_202 rfl (by decide) inG12 w_816 rfl rfl dX12_copy_18 ?_
      refine lv_iload_n hx hb dX12_copy_21 rfl (lv_at hl 1 rfl) ?_
      refine wz_ald hx hb hK hW 204 a_.toNat (by decide) e_204 (by omega) (by omega) (by decide) dX12_copy_22 ?_
      refine zi_lt (tgt := 35) hx hb dX12_copy_23 (by decide) (by omega) (fun c23 => ?_) (fun c23 => ?_)
      · refine lv_aload_n hx hb dX12_copy_35 rfl (lv_at hl 0 rfl) ?_
        refine zi_con hx hb dX12_copy_36 ?_
        refine k_vi (fr := 2) (lo := 45) (r := -1000010 - 1) (σ' := (up σ 202 3 1)) (As := [.int (iI (1))]) (rest := []) hx hb hml hown hts hK hRf hRl hW hS (c_X12_find l D cy B σ 1 ) vX12_find ⟨w_910, w_18⟩ w_908 (by decide) e_202 rfl ⟨Nat.le_of_ble_eq_true rfl, Nat.le_of_ble_eq_true rfl⟩ hl.1 rfl (Nat.le_of_ble_eq_true rfl) ⟨Nat.zero_le _, Nat.zero_le _⟩ dX12_copy_37 (fun H locs hW hS => ?_)
        exact hret _ _ _ _ _ _ dX12_copy_40 hW hS ⟨by (repeat' split) <;> first | rfl | omega, by (repeat' split) <;> first | rfl | omega⟩
      · refine lv_aload_n hx hb dX12_copy_26 rfl (lv_at hl 0 rfl) ?_
        refine wz_get hx hb hts hown hK hW 202 1 (by decide) e_202 rfl (by decide) inG12 w_816 rfl rfl dX12_copy_27 ?_
        refine lv_iload_n hx hb dX12_copy_30 rfl (lv_at hl 3 rfl) ?_
        refine wz_ald hx hb hK hW 204 b_.toNat (by decide) e_204 (by omega) (by omega) (by decide) dX12_copy_31 ?_
        refine zi_ge (tgt := 41) hx hb dX12_copy_32 (by decide) (by omega) (fun c32 => ?_) (fun c32 => ?_)
        · refine lv_aload_n hx hb dX12_copy_41 rfl (lv_at hl 0 rfl) ?_
          refine wz_get hx hb hts hown hK hW 202 0 (by decide) e_202 rfl (by decide) inG12 w_815 rfl rfl dX12_copy_42 ?_
          refine lv_iload_n hx hb dX12_copy_45 rfl (lv_at hl 1 rfl) ?_
          refine wz_ald hx hb hK hW 203 a_.toNat (by decide) e_203 (by omega) (by omega) (by decide) dX12_copy_46 ?_
          refine lv_aload_n hx hb dX12_copy_47 rfl (lv_at hl 0 rfl) ?_
          refine wz_get hx hb hts hown hK hW 202 0 (by decide) e_202 rfl (by decide) inG12 w_815 rfl rfl dX12_copy_48 ?_
          refine lv_iload_n hx hb dX12_copy_51 rfl (lv_at hl 3 rfl) ?_
          refine wz_ald hx hb hK hW 203 b_.toNat (by decide) e_203 (by omega) (by omega) (by decide) dX12_copy_52 ?_
          refine zi_ceq (tgt := 62) hx hb dX12_copy_53 (by decide) (by omega) (by omega) (fun c53 => ?_) (fun c53 => ?_)
          · refine lv_iload hx hb dX12_copy_62 (lv_at hl 5 rfl) ?_
            refine zi_lt (tgt := 108) hx hb dX12_copy_64 (by decide) (by omega) (fun c64 => ?_) (fun c64 => ?_)
            · refine lv_aload_n hx hb dX12_copy_108 rfl (lv_at hl 0 rfl) ?_
              refine zi_con hx hb dX12_copy_109 ?_
              refine k_vi (fr := 2) (lo := 45) (r := -1000010 - 2) (σ' := (up σ 202 3 2)) (As := [.int (iI (2))]) (rest := []) hx hb hml hown hts hK hRf hRl hW hS (c_X12_find l D cy B σ 2 ) vX12_find ⟨w_910, w_18⟩ w_908 (by decide) e_202 rfl ⟨Nat.le_of_ble_eq_true rfl, Nat.le_of_ble_eq_true rfl⟩ hl.1 rfl (Nat.le_of_ble_eq_true rfl) ⟨Nat.zero_le _, Nat.zero_le _⟩ dX12_copy_110 (fun H locs hW hS => ?_)
              exact hret _ _ _ _ _ _ dX12_copy_113 hW hS ⟨by (repeat' split) <;> first | rfl | omega, by (repeat' split) <;> first | rfl | omega⟩
            · refine lv_iload_n hx hb dX12_copy_67 rfl (lv_at hl 2 rfl) ?_
              refine zi_i2l hx hb dX12_copy_68 (by omega) ?_
              refine zi_lcon (z := 0) hx hb dX12_copy_69 (by decide) ?_
              refine lv_aload_n hx hb dX12_copy_70 rfl (lv_at hl 0 rfl) ?_
              refine wz_get hx hb hts hown hK hW 202 1 (by decide) e_202 rfl (by decide) inG12 w_816 rfl rfl dX12_copy_71 ?_
              refine lv_iload_n hx hb dX12_copy_74 rfl (lv_at hl 1 rfl) ?_
              refine wz_ald hx hb hK hW 204 a_.toNat (by decide) e_204 (by omega) (by omega) (by decide) dX12_copy_75 ?_
              refine zi_i2l hx hb dX12_copy_76 (by omega) ?_
              refine lv_iload hx hb dX12_copy_77 (lv_at hl 5 rfl) ?_
              refine zi_i2l hx hb dX12_copy_79 (by omega) ?_
              refine zi_lsub hx hb dX12_copy_80 ?_
              refine k_si (fr := 2) (lo := 45) (r := (if 0 ≤ i_ ∧ i_ ≤ ((σ 204 a_.toNat) - n_) then 1 else 0)) (As := [.long (lI (i_)), .long (lI (0)), .long (lI ((σ 204 a_.toNat) - n_))]) (rest := []) hx hb hml hown hts hK hRf hRl hW hS (c_X12_in l D cy B σ i_ 0 ((σ 204 a_.toNat) - n_) (show -9223372036854775808 ≤ i_ ∧ i_ < 9223372036854775808 from (by first | assumption | omega | (simp only [tpL_25, List.length_cons, List.length_nil]; omega))) (show -9223372036854775808 ≤ 0 ∧ 0 < 9223372036854775808 from (by first | assumption | omega | (simp only [tpL_25, List.length_cons, List.length_nil]; omega))) (show -9223372036854775808 ≤ ((σ 204 a_.toNat) - n_) ∧ ((σ 204 a_.toNat) - n_) < 9223372036854775808 from (by first | assumption | omega | (simp only [tpL_25, List.length_cons, List.length_nil]; omega)))) vX12_in w_904 w_903 ⟨Nat.le_of_ble_eq_true rfl, Nat.le_of_ble_eq_true rfl⟩ hl.1 rfl (Nat.le_of_ble_eq_true rfl) ⟨Nat.zero_le _, Nat.zero_le _⟩ dX12_copy_81 (fun H locs hW hS => ?_)
              refine zi_beq (tgt := 108) hx hb dX12_copy_84 (by decide) (fun c84 => ?_) (fun c84 => ?_)
              · refine lv_aload_n hx hb dX12_copy_108 rfl (lv_at hl 0 rfl) ?_
                refine zi_con hx hb dX12_copy_109 ?_
                refine k_vi (fr := 2) (lo := 45) (r := -1000010 - 2) (σ' := (up σ 202 3 2)) (As := [.int (iI (2))]) (rest := []) hx hb hml hown hts hK hRf hRl hW hS (c_X12_find l D cy B σ 2 ) vX12_find ⟨w_910, w_18⟩ w_908 (by decide) e_202 rfl ⟨Nat.le_of_ble_eq_true rfl, Nat.le_of_ble_eq_true rfl⟩ hl.1 rfl (Nat.le_of_ble_eq_true rfl) ⟨Nat.zero_le _, Nat.zero_le _⟩ dX12_copy_110 (fun H locs hW hS => ?_)
                exact hret _ _ _ _ _ _ dX12_copy_113 hW hS ⟨by (repeat' split) <;> first | rfl | omega, by (repeat' split) <;> first | rfl | omega⟩
              · refine lv_iload hx hb dX12_copy_87 (lv_at hl 4 rfl) ?_
                refine zi_i2l hx hb dX12_copy_89 (by omega) ?_
                refine zi_lcon (z := 0) hx hb dX12_copy_90 (by decide) ?_
                refine lv_aload_n hx hb dX12_copy_91 rfl (lv_at hl 0 rfl) ?_
                refine wz_get hx hb hts hown hK hW 202 1 (by decide) e_202 rfl (by decide) inG12 w_816 rfl rfl dX12_copy_92 ?_
                refine lv_iload_n hx hb dX12_copy_95 rfl (lv_at hl 3 rfl) ?_
                refine wz_ald hx hb hK hW 204 b_.toNat (by decide) e_204 (by omega) (by omega) (by decide) dX12_copy_96 ?_
                refine zi_i2l hx hb dX12_copy_97 (by omega) ?_
                refine lv_iload hx hb dX12_copy_98 (lv_at hl 5 rfl) ?_
                refine zi_i2l hx hb dX12_copy_100 (by omega) ?_
                refine zi_lsub hx hb dX12_copy_101 ?_
                refine k_si (fr := 2) (lo := 45) (r := (if 0 ≤ j_ ∧ j_ ≤ ((σ 204 b_.toNat) - n_) then 1 else 0)) (As := [.long (lI (j_)), .long (lI (0)), .long (lI ((σ 204 b_.toNat) - n_))]) (rest := []) hx hb hml hown hts hK hRf hRl hW hS (c_X12_in l D cy B σ j_ 0 ((σ 204 b_.toNat) - n_) (show -9223372036854775808 ≤ j_ ∧ j_ < 9223372036854775808 from (by first | assumption | omega | (simp only [tpL_25, List.length_cons, List.length_nil]; omega))) (show -9223372036854775808 ≤ 0 ∧ 0 < 9223372036854775808 from (by first | assumption | omega | (simp only [tpL_25, List.length_cons, List.length_nil]; omega))) (show -9223372036854775808 ≤ ((σ 204 b_.toNat) - n_) ∧ ((σ 204 b_.toNat) - n_) < 9223372036854775808 from (by first | assumption | omega | (simp only [tpL_25, List.length_cons, List.length_nil]; omega)))) vX12_in w_904 w_903 ⟨Nat.le_of_ble_eq_true rfl, Nat.le_of_ble_eq_true rfl⟩ hl.1 rfl (Nat.le_of_ble_eq_true rfl) ⟨Nat.zero_le _, Nat.zero_le _⟩ dX12_copy_102 (fun H locs hW hS => ?_)
                refine zi_bne (tgt := 114) hx hb dX12_copy_105 (by decide) (fun c105 => ?_) (fun c105 => ?_)
                · refine zi_con hx hb dX12_copy_114 ?_
                  refine lv_istore (lv' := [(6, .int (iI (0))), (0, .ref (B + 202)), (1, .int (iI (a_))), (2, .int (iI (i_))), (3, .int (iI (b_))), (4, .int (iI (j_))), (5, .int (iI (n_)))]) hx hb dX12_copy_115 hl (by decide) rfl (fun ls hl => ?_)
                  have L117 : ∀ (n117 : Nat) (k_ : Nat) (H : Heap) (locs : List Loc) (ls : Array Slot), 40 - k_ < n117 → ((k_ : Int) ≤ n_) → wd D cy B (us σ 207 (cpy k_ (fun x => σ 205 (40 * a_.toNat + i_.toNat + x)) (σ 207))) H → va_S (AB B) s.heap H locs → lv_has ls 7 [(6, .int (iI (((k_ : Nat) : Int)))), (0, .ref (B + 202)), (1, .int (iI (a_))), (2, .int (iI (i_))), (3, .int (iI (b_))), (4, .int (iI (j_))), (5, .int (iI (n_)))] → W p l e R s m args below meth c H locs 0 0 Q (F0 m 117 ls []) := by
                    intro n117
                    induction n117 with
                    | zero => intro k_ H locs ls hms; omega
                    | succ n117 ih117 =>
                      intro k_ H locs ls hms117 hk hW hS hl
                      refine lv_iload hx hb dX12_copy_117 (lv_at hl 0 rfl) ?_
                      refine lv_iload hx hb dX12_copy_119 (lv_at hl 6 rfl) ?_
                      refine zi_cge (tgt := 151) hx hb dX12_copy_121 (by decide) (by omega) (by omega) (fun c121 => ?_) (fun c121 => ?_)
                      · have hkn : n_.toNat = k_ := by omega
                        refine zi_con hx hb dX12_copy_151 ?_
                        refine lv_istore (lv' := [(6, .int (iI (0))), (0, .ref (B + 202)), (1, .int (iI (a_))), (2, .int (iI (i_))), (3, .int (iI (b_))), (4, .int (iI (j_))), (5, .int (iI (n_)))]) hx hb dX12_copy_152 hl (by decide) rfl (fun ls hl => ?_)
                        have L154 : ∀ (n154 : Nat) (q_ : Nat) (H : Heap) (locs : List Loc) (ls : Array Slot), 40 - q_ < n154 → ((q_ : Int) ≤ n_) → wd D cy B (us (us σ 207 (cpy k_ (fun x => σ 205 (40 * a_.toNat + i_.toNat + x)) (σ 207))) 205 (cpo (40 * b_.toNat + j_.toNat) q_ (fun x => σ 205 (40 * a_.toNat + i_.toNat + x)) ((us σ 207 (cpy k_ (fun x => σ 205 (40 * a_.toNat + i_.toNat + x)) (σ 207))) 205))) H → va_S (AB B) s.heap H locs → lv_has ls 7 [(6, .int (iI (((q_ : Nat) : Int)))), (0, .ref (B + 202)), (1, .int (iI (a_))), (2, .int (iI (i_))), (3, .int (iI (b_))), (4, .int (iI (j_))), (5, .int (iI (n_)))] → W p l e R s m args below meth c H locs 0 0 Q (F0 m 154 ls []) := by
                          intro n154
                          induction n154 with
                          | zero => intro q_ H locs ls hms; omega
                          | succ n154 ih154 =>
                            intro q_ H locs ls hms154 hq hW hS hl
                            refine lv_iload hx hb dX12_copy_154 (lv_at hl 0 rfl) ?_
                            refine lv_iload hx hb dX12_copy_156 (lv_at hl 6 rfl) ?_
                            refine zi_cge (tgt := 189) hx hb dX12_copy_158 (by decide) (by omega) (by omega) (fun c158 => ?_) (fun c158 => ?_)
                            · have hqn : q_ = k_ := by omega
                              refine lv_aload_n hx hb dX12_copy_189 rfl (lv_at hl 1 rfl) ?_
                              refine lv_iload hx hb dX12_copy_190 (lv_at hl 6 rfl) ?_
                              refine k_vi (fr := 2) (lo := 45) (r := n_) (σ' := (up (us (us σ 207 (cpy k_ (fun x => σ 205 (40 * a_.toNat + i_.toNat + x)) (σ 207))) 205 (cpo (40 * b_.toNat + j_.toNat) q_ (fun x => σ 205 (40 * a_.toNat + i_.toNat + x)) ((us σ 207 (cpy k_ (fun x => σ 205 (40 * a_.toNat + i_.toNat + x)) (σ 207))) 205))) 202 3 0)) (As := [.int (iI (n_))]) (rest := []) hx hb hml hown hts hK hRf hRl hW hS (c_X12_well l D cy B (us (us σ 207 (cpy k_ (fun x => σ 205 (40 * a_.toNat + i_.toNat + x)) (σ 207))) 205 (cpo (40 * b_.toNat + j_.toNat) q_ (fun x => σ 205 (40 * a_.toNat + i_.toNat + x)) ((us σ 207 (cpy k_ (fun x => σ 205 (40 * a_.toNat + i_.toNat + x)) (σ 207))) 205))) n_ ) vX12_well ⟨w_915, w_19⟩ w_913 (by decide) e_202 rfl ⟨Nat.le_of_ble_eq_true rfl, Nat.le_of_ble_eq_true rfl⟩ hl.1 rfl (Nat.le_of_ble_eq_true rfl) ⟨Nat.zero_le _, Nat.zero_le _⟩ dX12_copy_192 (fun H locs hW hS => ?_)
                              subst hqn
                              subst hkn
                              exact hret _ _ _ _ _ _ dX12_copy_195 hW hS ⟨by (repeat' split) <;> first | rfl | omega, by rw [if_neg (by omega), if_neg (by omega), if_neg (by omega), if_neg (by omega)]; rfl⟩
                            · refine lv_aload_n hx hb dX12_copy_161 rfl (lv_at hl 1 rfl) ?_
                              refine wz_get hx hb hts hown hK hW 202 2 (by decide) e_202 rfl (by decide) inG12 w_817 rfl rfl dX12_copy_162 ?_
                              refine zi_bip hx hb dX12_copy_165 (by decide) ?_
                              refine lv_iload_n hx hb dX12_copy_167 rfl (lv_at hl 4 rfl) ?_
                              refine zi_mul hx hb dX12_copy_168 ?_
                              refine lv_iload hx hb dX12_copy_169 (lv_at hl 5 rfl) ?_
                              refine zi_add hx hb dX12_copy_171 ?_
                              refine lv_iload hx hb dX12_copy_172 (lv_at hl 0 rfl) ?_
                              refine zi_add hx hb dX12_copy_174 ?_
                              refine lv_aload_n hx hb dX12_copy_175 rfl (lv_at hl 1 rfl) ?_
                              refine wz_get hx hb hts hown hK hW 202 6 (by decide) e_202 rfl (by decide) inG12 w_821 rfl rfl dX12_copy_176 ?_
                              refine lv_iload hx hb dX12_copy_179 (lv_at hl 0 rfl) ?_
                              refine wz_ald hx hb hK hW 207 q_ (by decide) e_207 (by omega) (by omega) (by decide) dX12_copy_181 ?_
                              refine zi_top (y := σ 205 (40 * a_.toNat + i_.toNat + q_)) (by (show cpy k_ (fun x => σ 205 (40 * a_.toNat + i_.toNat + x)) (σ 207) q_ = _; unfold cpy; rw [if_pos (by omega)])) ?_
                              refine wz_ast (σ' := (up (us (us σ 207 (cpy k_ (fun x => σ 205 (40 * a_.toNat + i_.toNat + x)) (σ 207))) 205 (cpo (40 * b_.toNat + j_.toNat) q_ (fun x => σ 205 (40 * a_.toNat + i_.toNat + x)) ((us σ 207 (cpy k_ (fun x => σ 205 (40 * a_.toNat + i_.toNat + x)) (σ 207))) 205))) 205 (40 * b_.toNat + j_.toNat + q_) (σ 205 (40 * a_.toNat + i_.toNat + q_)))) hx hb hK hW hS 205 (40 * b_.toNat + j_.toNat + q_) (by decide) e_205 (by omega) (by omega) (by decide) p_205 dX12_copy_182 (fun H locs hW hS => ?_)
                              refine lv_iinc (v := iI (((q_ : Nat) : Int) + 1)) (lv' := [(6, .int (iI (((q_ : Nat) : Int) + 1))), (0, .ref (B + 202)), (1, .int (iI (a_))), (2, .int (iI (i_))), (3, .int (iI (b_))), (4, .int (iI (j_))), (5, .int (iI (n_)))]) hx hb dX12_copy_183 hl (k := 0) rfl (iI_add _ _) (by decide) rfl (fun ls hl => ?_)
                              refine lv_goto (tgt := 154) hx hb dX12_copy_186 (by decide) ?_
                              exact ih154 (q_ + 1) _ _ _ (by omega) (by omega) (by rw [← up_cpo]; exact hW) hS (lv_sub hl [0, 1, 2, 3, 4, 5, 6] rfl)
                        exact L154 _ 0 _ _ _ (Nat.lt_succ_self _) (by omega) (by rw [us_cpo0]; exact hW) hS (lv_sub hl [0, 1, 2, 3, 4, 5, 6] rfl)
                      · refine lv_aload_n hx hb dX12_copy_124 rfl (lv_at hl 1 rfl) ?_
                        refine wz_get hx hb hts hown hK hW 202 6 (by decide) e_202 rfl (by decide) inG12 w_821 rfl rfl dX12_copy_125 ?_
                        refine lv_iload hx hb dX12_copy_128 (lv_at hl 0 rfl) ?_
                        refine lv_aload_n hx hb dX12_copy_130 rfl (lv_at hl 1 rfl) ?_
                        refine wz_get hx hb hts hown hK hW 202 2 (by decide) e_202 rfl (by decide) inG12 w_817 rfl rfl dX12_copy_131 ?_
                        refine zi_bip hx hb dX12_copy_134 (by decide) ?_
                        refine lv_iload_n hx hb dX12_copy_136 rfl (lv_at hl 2 rfl) ?_
                        refine zi_mul hx hb dX12_copy_137 ?_
                        refine lv_iload_n hx hb dX12_copy_138 rfl (lv_at hl 3 rfl) ?_
                        refine zi_add hx hb dX12_copy_139 ?_
                        refine lv_iload hx hb dX12_copy_140 (lv_at hl 0 rfl) ?_
                        refine zi_add hx hb dX12_copy_142 ?_
                        refine wz_ald hx hb hK hW 205 (40 * a_.toNat + i_.toNat + k_) (by decide) e_205 (by omega) (by omega) (by decide) dX12_copy_143 ?_
                        refine zi_top (y := σ 205 (40 * a_.toNat + i_.toNat + k_)) (by (first | rfl | (simp [us, uf, nS] <;> omega))) ?_
                        refine wz_ast (σ' := (up (us σ 207 (cpy k_ (fun x => σ 205 (40 * a_.toNat + i_.toNat + x)) (σ 207))) 207 k_ (σ 205 (40 * a_.toNat + i_.toNat + k_)))) hx hb hK hW hS 207 k_ (by decide) e_207 (by omega) (by omega) (by decide) p_207 dX12_copy_144 (fun H locs hW hS => ?_)
                        refine lv_iinc (v := iI (((k_ : Nat) : Int) + 1)) (lv' := [(6, .int (iI (((k_ : Nat) : Int) + 1))), (0, .ref (B + 202)), (1, .int (iI (a_))), (2, .int (iI (i_))), (3, .int (iI (b_))), (4, .int (iI (j_))), (5, .int (iI (n_)))]) hx hb dX12_copy_145 hl (k := 0) rfl (iI_add _ _) (by decide) rfl (fun ls hl => ?_)
                        refine lv_goto (tgt := 117) hx hb dX12_copy_148 (by decide) ?_
                        exact ih117 (k_ + 1) _ _ _ (by omega) (by omega) (by rw [← up_cpy]; exact hW) hS (lv_sub hl [0, 1, 2, 3, 4, 5, 6] rfl)
                  exact L117 _ 0 _ _ _ (Nat.lt_succ_self _) (by omega) (by rw [us_cpy0]; exact hW) hS (lv_sub hl [0, 1, 2, 3, 4, 5, 6] rfl)
                · refine lv_aload_n hx hb dX12_copy_108 rfl (lv_at hl 0 rfl) ?_
                  refine zi_con hx hb dX12_copy_109 ?_
                  refine k_vi (fr := 2) (lo := 45) (r := -1000010 - 2) (σ' := (up σ 202 3 2)) (As := [.int (iI (2))]) (rest := []) hx hb hml hown hts hK hRf hRl hW hS (c_X12_find l D cy B σ 2 ) vX12_find ⟨w_910, w_18⟩ w_908 (by decide) e_202 rfl ⟨Nat.le_of_ble_eq_true rfl, Nat.le_of_ble_eq_true rfl⟩ hl.1 rfl (Nat.le_of_ble_eq_true rfl) ⟨Nat.zero_le _, Nat.zero_le _⟩ dX12_copy_110 (fun H locs hW hS => ?_)
                  exact hret _ _ _ _ _ _ dX12_copy_113 hW hS ⟨by (repeat' split) <;> first | rfl | omega, by (repeat' split) <;> first | rfl | omega⟩
          · refine lv_aload_n hx hb dX12_copy_56 rfl (lv_at hl 0 rfl) ?_
            refine zi_con hx hb dX12_copy_57 ?_
            refine k_vi (fr := 2) (lo := 45) (r := -1000010 - 5) (σ' := (up σ 202 3 5)) (As := [.int (iI (5))]) (rest := []) hx hb hml hown hts hK hRf hRl hW hS (c_X12_find l D cy B σ 5 ) vX12_find ⟨w_910, w_18⟩ w_908 (by decide) e_202 rfl ⟨Nat.le_of_ble_eq_true rfl, Nat.le_of_ble_eq_true rfl⟩ hl.1 rfl (Nat.le_of_ble_eq_true rfl) ⟨Nat.zero_le _, Nat.zero_le _⟩ dX12_copy_58 (fun H locs hW hS => ?_)
            exact hret _ _ _ _ _ _ dX12_copy_61 hW hS ⟨by (repeat' split) <;> first | rfl | omega, by (repeat' split) <;> first | rfl | omega⟩
        · refine lv_aload_n hx hb dX12_copy_35 rfl (lv_at hl 0 rfl) ?_
          refine zi_con hx hb dX12_copy_36 ?_
          refine k_vi (fr := 2) (lo := 45) (r := -1000010 - 1) (σ' := (up σ 202 3 1)) (As := [.int (iI (1))]) (rest := []) hx hb hml hown hts hK hRf hRl hW hS (c_X12_find l D cy B σ 1 ) vX12_find ⟨w_910, w_18⟩ w_908 (by decide) e_202 rfl ⟨Nat.le_of_ble_eq_true rfl, Nat.le_of_ble_eq_true rfl⟩ hl.1 rfl (Nat.le_of_ble_eq_true rfl) ⟨Nat.zero_le _, Nat.zero_le _⟩ dX12_copy_37 (fun H locs hW hS => ?_)
          exact hret _ _ _ _ _ _ dX12_copy_40 hW hS ⟨by (repeat' split) <;> first | rfl | omega, by (repeat' split) <;> first | rfl | omega⟩
    · refine k_ldc hx hb hown hts (v := -1000001) (by decide) w_907 dX12_copy_14 ?_
      exact hret _ _ _ _ _ _ dX12_copy_16 hW hS ⟨by (repeat' split) <;> first | rfl | omega, by (repeat' split) <;> first | rfl | omega⟩

set_option maxRecDepth 100000 in
set_option maxHeartbeats 4000000 in
theorem c_X12_map (l : Launch) (D : va_G) (cy : Nat → ClassId) (B : Nat) (σ : Sg) (t_ : Int) (i_ : Int) (r_t_ : -2147483648 ≤ t_ ∧ t_ < 2147483648) (r_i_ : -2147483648 ≤ i_ ∧ i_ < 2147483648) (hok : σ 206 4 = 0 ∨ okV (σ 206)) (hith : σ 202 4 = if σ 206 4 = 0 then 0 else 1) (hsz : ∀ k, k < 8 → -1 ≤ σ 204 k ∧ σ 204 k ≤ 40) (hit5 : ∀ k, k < 320 → -2147483648 ≤ σ 205 k ∧ σ 205 k < 2147483648) : CIe l yX12_map cX12_map 6 (some .int) 5 117 D cy B [.ref (B + 202), .int (iI (t_)), .int (iI (i_))] σ (if σ 206 4 = 0 then -1000002 else if ¬ (0 ≤ t_ ∧ t_ ≤ 7) then -1000001 else if σ 204 t_.toNat < 0 then -1000011 else if 0 ≤ i_ ∧ i_ ≤ σ 204 t_.toNat - σ 206 4 then bt (mpP (σ 206) (fun h => σ 205 (40 * t_.toNat + i_.toNat + h))) 4 else -1000012) (fun u => ∃ (g : Nat → Int), u = if σ 206 4 = 0 then σ else if ¬ (0 ≤ t_ ∧ t_ ≤ 7) then σ else if σ 204 t_.toNat < 0 then up σ 202 3 1 else if 0 ≤ i_ ∧ i_ ≤ σ 204 t_.toNat - σ 206 4 then up (us σ 210 g) 202 3 0 else up σ 202 3 2) := by
  refine CIe_of (ty := .int) (by decide) (rfl) (Nat.le_of_ble_eq_true rfl) ?_
  intro p e R s m args below meth c Q hx hb hml hown hts hK hRf hRl hW hret ls hl
  have hown : s.vm.findClass "LovePartsModel" = some m.cls := hown
  have hS : va_S (AB B) s.heap s.heap [] := va_S.rf
  have hl : lv_has ls 6 [(0, .ref (B + 202)), (1, .int (iI (t_))), (2, .int (iI (i_)))] := hl
  have hbi : -2147483648 ≤ σ 202 4 ∧ σ 202 4 < 2147483648 := by rw [hith]; split <;> omega
  have hit : (σ 202 4 = 0 ∧ σ 206 4 = 0) ∨ (σ 202 4 = 1 ∧ ¬ σ 206 4 = 0) := by rw [hith]; split <;> simp_all
  refine lv_aload_n hx hb dX12_map_0 rfl (lv_at hl 0 rfl) ?_
  refine wz_get hx hb hts hown hK hW 202 4 (by decide) e_202 rfl (by decide) inG12 w_819 rfl rfl dX12_map_1 ?_
  refine zi_ne (tgt := 10) hx hb dX12_map_4 (by decide) (by omega) (fun c4 => ?_) (fun c4 => ?_)
  · have hok := hok.resolve_left (by omega)
    obtain ⟨o4, o0, o1, o2, o3, o5, o6, o7, oH⟩ := id hok
    refine lv_iload_n hx hb dX12_map_10 rfl (lv_at hl 1 rfl) ?_
    refine k_si (fr := 5) (lo := 117) (r := (if 0 ≤ t_ ∧ t_ ≤ 7 then 1 else 0)) (As := [.int (iI (t_))]) (rest := []) hx hb hml hown hts hK hRf hRl hW hS (c_X12_isRow l D cy B σ t_ (show -2147483648 ≤ t_ ∧ t_ < 2147483648 from (by first | assumption | omega | (simp only [tpL_25, List.length_cons, List.length_nil]; omega)))) vX12_isRow w_900 w_899 ⟨Nat.le_of_ble_eq_true rfl, Nat.le_of_ble_eq_true rfl⟩ hl.1 rfl (Nat.le_of_ble_eq_true rfl) ⟨Nat.zero_le _, Nat.zero_le _⟩ dX12_map_11 (fun H locs hW hS => ?_)
    refine zi_bne (tgt := 20) hx hb dX12_map_14 (by decide) (fun c14 => ?_) (fun c14 => ?_)
    · obtain ⟨r_, rfl⟩ : ∃ h : Nat, t_ = (h : Int) := ⟨t_.toNat, by omega⟩
      have hz := hsz r_ (by omega)
      refine lv_aload_n hx hb dX12_map_20 rfl (lv_at hl 0 rfl) ?_
      refine lv_iload_n hx hb dX12_map_21 rfl (lv_at hl 1 rfl) ?_
      refine lv_iload_n hx hb dX12_map_22 rfl (lv_at hl 2 rfl) ?_
      refine lv_aload_n hx hb dX12_map_23 rfl (lv_at hl 0 rfl) ?_
      refine wz_get hx hb hts hown hK hW 202 5 (by decide) e_202 rfl (by decide) inG12 w_820 rfl rfl dX12_map_24 ?_
      refine zi_con hx hb dX12_map_27 ?_
      refine wz_ald hx hb hK hW 206 4 (by decide) e_206 (by omega) (by omega) (by decide) dX12_map_28 ?_
      refine k_vi (fr := 5) (lo := 117) (r := if σ 204 r_ < 0 then -1000011 else if 0 ≤ i_ ∧ i_ ≤ σ 204 r_ - (σ 206 4) then 0 else -1000012) (σ' := (if σ 204 r_ < 0 then up σ 202 3 1 else if 0 ≤ i_ ∧ i_ ≤ σ 204 r_ - (σ 206 4) then σ else up σ 202 3 2)) (As := [.int (iI (((r_ : Nat) : Int))), .int (iI (i_)), .int (iI (σ 206 4))]) (rest := []) hx hb hml hown hts hK hRf hRl hW hS (c_X12_lacks l D cy B σ r_ i_ (σ 206 4) (show -2147483648 ≤ i_ ∧ i_ < 2147483648 from (by first | assumption | omega | (simp only [tpL_25, List.length_cons, List.length_nil]; omega))) (show r_ < 8 from (by first | assumption | omega | (simp only [tpL_25, List.length_cons, List.length_nil]; omega))) (show 0 ≤ (σ 206 4) ∧ (σ 206 4) ≤ 12 from (by first | assumption | omega | (simp only [tpL_25, List.length_cons, List.length_nil]; omega))) (show ∀ k, k < 8 → -1 ≤ σ 204 k ∧ σ 204 k ≤ 40 from (by first | assumption | omega | (simp only [tpL_25, List.length_cons, List.length_nil]; omega)))) vX12_lacks ⟨w_1115, w_42⟩ w_1113 (by decide) e_202 rfl ⟨Nat.le_of_ble_eq_true rfl, Nat.le_of_ble_eq_true rfl⟩ hl.1 rfl (Nat.le_of_ble_eq_true rfl) ⟨Nat.zero_le _, Nat.zero_le _⟩ dX12_map_29 (fun H locs hW hS => ?_)
      refine lv_istore_n (lv' := [(3, .int (iI (if σ 204 r_ < 0 then -1000011 else if 0 ≤ i_ ∧ i_ ≤ σ 204 r_ - (σ 206 4) then 0 else -1000012))), (0, .ref (B + 202)), (1, .int (iI (((r_ : Nat) : Int)))), (2, .int (iI (i_)))]) hx hb dX12_map_32 rfl hl (by decide) rfl (fun ls hl => ?_)
      refine lv_iload_n hx hb dX12_map_33 rfl (lv_at hl 0 rfl) ?_
      refine zi_ge (tgt := 39) hx hb dX12_map_34 (by decide) (by ((repeat' split) <;> omega)) (fun c34 => ?_) (fun c34 => ?_)
      · have hlk : ¬ σ 204 r_ < 0 ∧ (0 ≤ i_ ∧ i_ ≤ σ 204 r_ - σ 206 4) := by revert c34; (repeat' split) <;> intro hh1 <;> omega
        rw [if_neg hlk.1, if_pos hlk.2] at hW
        obtain ⟨q_, rfl⟩ : ∃ h : Nat, i_ = (h : Int) := ⟨i_.toNat, by omega⟩
        refine zi_con hx hb dX12_map_39 ?_
        refine lv_istore (lv' := [(4, .int (iI (0))), (3, .int (iI (if σ 204 r_ < 0 then -1000011 else if 0 ≤ ((q_ : Nat) : Int) ∧ ((q_ : Nat) : Int) ≤ σ 204 r_ - (σ 206 4) then 0 else -1000012))), (0, .ref (B + 202)), (1, .int (iI (((r_ : Nat) : Int)))), (2, .int (iI (((q_ : Nat) : Int))))]) hx hb dX12_map_40 hl (by decide) rfl (fun ls hl => ?_)
        refine zi_con hx hb dX12_map_42 ?_
        refine lv_istore (lv' := [(5, .int (iI (0))), (4, .int (iI (0))), (3, .int (iI (if σ 204 r_ < 0 then -1000011 else if 0 ≤ ((q_ : Nat) : Int) ∧ ((q_ : Nat) : Int) ≤ σ 204 r_ - (σ 206 4) then 0 else -1000012))), (0, .ref (B + 202)), (1, .int (iI (((r_ : Nat) : Int)))), (2, .int (iI (((q_ : Nat) : Int))))]) hx hb dX12_map_43 hl (by decide) rfl (fun ls hl => ?_)
        have L45 : ∀ (n45 : Nat) (b_ : Nat) (g_ : Nat → Int) (H : Heap) (locs : List Loc) (ls : Array Slot), 4 - b_ < n45 → (b_ ≤ 4) → wd D cy B (us σ 210 g_) H → va_S (AB B) s.heap H locs → lv_has ls 6 [(5, .int (iI (((b_ : Nat) : Int)))), (4, .int (iI (bt (mpP (σ 206) (fun h => σ 205 (40 * r_ + q_ + h))) b_))), (0, .ref (B + 202)), (1, .int (iI (((r_ : Nat) : Int)))), (2, .int (iI (((q_ : Nat) : Int))))] → W p l e R s m args below meth c H locs 0 0 Q (F0 m 45 ls []) := by
          intro n45
          induction n45 with
          | zero => intro b_ g_ H locs ls hms; omega
          | succ n45 ih45 =>
            intro b_ g_ H locs ls hms45 hb4 hW hS hl
            refine lv_iload hx hb dX12_map_45 (lv_at hl 0 rfl) ?_
            refine zi_con hx hb dX12_map_47 ?_
            refine zi_cge (tgt := 85) hx hb dX12_map_48 (by decide) (by omega) (by omega) (fun c48 => ?_) (fun c48 => ?_)
            · refine lv_aload_n hx hb dX12_map_85 rfl (lv_at hl 2 rfl) ?_
              refine lv_iload hx hb dX12_map_86 (lv_at hl 1 rfl) ?_
              refine k_vi (fr := 5) (lo := 117) (r := (bt (mpP (σ 206) (fun h => σ 205 (40 * r_ + q_ + h))) b_)) (σ' := (up (us σ 210 g_) 202 3 0)) (As := [.int (iI (bt (mpP (σ 206) (fun h => σ 205 (40 * r_ + q_ + h))) b_))]) (rest := []) hx hb hml hown hts hK hRf hRl hW hS (c_X12_well l D cy B (us σ 210 g_) (bt (mpP (σ 206) (fun h => σ 205 (40 * r_ + q_ + h))) b_) ) vX12_well ⟨w_915, w_19⟩ w_913 (by decide) e_202 rfl ⟨Nat.le_of_ble_eq_true rfl, Nat.le_of_ble_eq_true rfl⟩ hl.1 rfl (Nat.le_of_ble_eq_true rfl) ⟨Nat.zero_le _, Nat.zero_le _⟩ dX12_map_88 (fun H locs hW hS => ?_)
              have hb5 : b_ = 4 := by omega
              subst hb5
              exact hret _ _ _ _ _ _ dX12_map_91 hW hS ⟨by simp only [Int.toNat_natCast]; rw [if_neg (by omega), if_neg (by omega), if_neg (by omega), if_pos (by omega)], ⟨g_, by simp only [Int.toNat_natCast]; rw [if_neg (by omega), if_neg (by omega), if_neg (by omega), if_pos (by omega)]⟩⟩
            · refine lv_iload hx hb dX12_map_51 (lv_at hl 1 rfl) ?_
              refine lv_aload_n hx hb dX12_map_53 rfl (lv_at hl 2 rfl) ?_
              refine zi_bip hx hb dX12_map_54 (by decide) ?_
              refine lv_iload_n hx hb dX12_map_56 rfl (lv_at hl 3 rfl) ?_
              refine zi_mul hx hb dX12_map_57 ?_
              refine lv_iload_n hx hb dX12_map_58 rfl (lv_at hl 4 rfl) ?_
              refine zi_add hx hb dX12_map_59 ?_
              refine zi_top (y := ((40 * r_ + q_ : Nat) : Int)) (by omega) ?_
              refine lv_iload hx hb dX12_map_60 (lv_at hl 0 rfl) ?_
              refine k_vi (fr := 5) (lo := 117) (r := (if al (fun h => σ 205 ((40 * r_ + q_) + h)) (shr (σ 206) ((b_ : Nat) : Int)) (mn (σ 206)) = true then 1 else 0)) (σ' := (us (us σ 210 g_) 210 (cpy (mn (σ 206)) (shr (σ 206) ((b_ : Nat) : Int)) ((us σ 210 g_) 210)))) (As := [.int (iI (((40 * r_ + q_ : Nat) : Int))), .int (iI (((b_ : Nat) : Int)))]) (rest := [.int (iI (bt (mpP (σ 206) (fun h => σ 205 (40 * r_ + q_ + h))) b_))]) hx hb hml hown hts hK hRf hRl hW hS (c_X12_isSo l D cy B (us σ 210 g_) (40 * r_ + q_) ((b_ : Nat) : Int) (show okV (σ 206) from (by first | assumption | omega | (simp only [tpL_25, List.length_cons, List.length_nil]; omega))) (show 0 ≤ ((b_ : Nat) : Int) ∧ ((b_ : Nat) : Int) ≤ 3 from (by first | assumption | omega | (simp only [tpL_25, List.length_cons, List.length_nil]; omega))) (show ((40 * r_ + q_) : Int) + σ 206 4 ≤ 320 from (by first | assumption | omega | (simp only [tpL_25, List.length_cons, List.length_nil]; omega))) (show ∀ k, k < 320 → -2147483648 ≤ σ 205 k ∧ σ 205 k < 2147483648 from (by first | assumption | omega | (simp only [tpL_25, List.length_cons, List.length_nil]; omega)))) vX12_isSo ⟨w_1123, w_43⟩ w_1121 (by decide) e_202 rfl ⟨Nat.le_of_ble_eq_true rfl, Nat.le_of_ble_eq_true rfl⟩ hl.1 rfl (Nat.le_of_ble_eq_true rfl) ⟨Nat.zero_le _, Nat.zero_le _⟩ dX12_map_62 (fun H locs hW hS => ?_)
              refine zi_beq (tgt := 75) hx hb dX12_map_65 (by decide) (fun c65 => ?_) (fun c65 => ?_)
              · refine zi_con hx hb dX12_map_75 ?_
                refine zi_or hx hb dX12_map_76 ?_
                refine lv_istore (lv' := [(4, .int (iI (orI (bt (mpP (σ 206) (fun h => σ 205 (40 * r_ + q_ + h))) b_) 0))), (5, .int (iI (((b_ : Nat) : Int)))), (0, .ref (B + 202)), (1, .int (iI (((r_ : Nat) : Int)))), (2, .int (iI (((q_ : Nat) : Int))))]) hx hb dX12_map_77 hl (by decide) rfl (fun ls hl => ?_)
                refine lv_iinc (v := iI (((b_ : Nat) : Int) + 1)) (lv' := [(5, .int (iI (((b_ : Nat) : Int) + 1))), (4, .int (iI (orI (bt (mpP (σ 206) (fun h => σ 205 (40 * r_ + q_ + h))) b_) 0))), (0, .ref (B + 202)), (1, .int (iI (((r_ : Nat) : Int)))), (2, .int (iI (((q_ : Nat) : Int))))]) hx hb dX12_map_79 hl (k := 1) rfl (iI_add _ _) (by decide) rfl (fun ls hl => ?_)
                refine lv_goto (tgt := 45) hx hb dX12_map_82 (by decide) ?_
                have e3 : bt (mpP (σ 206) (fun h => σ 205 (40 * r_ + q_ + h))) (b_ + 1) = orI (bt (mpP (σ 206) (fun h => σ 205 (40 * r_ + q_ + h))) b_) (if mpP (σ 206) (fun h => σ 205 (40 * r_ + q_ + h)) b_ = true then p2 b_ else 0) := rfl
                first | rw [if_pos (show mpP (σ 206) (fun h => σ 205 (40 * r_ + q_ + h)) b_ = true from c65)] at e3 | rw [if_neg (show ¬ mpP (σ 206) (fun h => σ 205 (40 * r_ + q_ + h)) b_ = true from c65)] at e3
                exact ih45 (b_ + 1) (cpy (mn (σ 206)) (shr (σ 206) (b_ : Int)) g_) _ _ _ (by omega) (by omega) (by have h2 := hW; rw [us_us] at h2; exact h2) hS (lv_sub hl [0, 1, 2, 3, 4] (by rw [e3]; rfl))
              · refine zi_con hx hb dX12_map_68 ?_
                refine lv_iload hx hb dX12_map_69 (lv_at hl 0 rfl) ?_
                refine zi_shl (k := b_) hx hb (by omega) (by omega) dX12_map_71 ?_
                refine lv_goto (tgt := 76) hx hb dX12_map_72 (by decide) ?_
                refine zi_or hx hb dX12_map_76 ?_
                refine lv_istore (lv' := [(4, .int (iI (orI (bt (mpP (σ 206) (fun h => σ 205 (40 * r_ + q_ + h))) b_) (p2 b_)))), (5, .int (iI (((b_ : Nat) : Int)))), (0, .ref (B + 202)), (1, .int (iI (((r_ : Nat) : Int)))), (2, .int (iI (((q_ : Nat) : Int))))]) hx hb dX12_map_77 hl (by decide) rfl (fun ls hl => ?_)
                refine lv_iinc (v := iI (((b_ : Nat) : Int) + 1)) (lv' := [(5, .int (iI (((b_ : Nat) : Int) + 1))), (4, .int (iI (orI (bt (mpP (σ 206) (fun h => σ 205 (40 * r_ + q_ + h))) b_) (p2 b_)))), (0, .ref (B + 202)), (1, .int (iI (((r_ : Nat) : Int)))), (2, .int (iI (((q_ : Nat) : Int))))]) hx hb dX12_map_79 hl (k := 1) rfl (iI_add _ _) (by decide) rfl (fun ls hl => ?_)
                refine lv_goto (tgt := 45) hx hb dX12_map_82 (by decide) ?_
                have e3 : bt (mpP (σ 206) (fun h => σ 205 (40 * r_ + q_ + h))) (b_ + 1) = orI (bt (mpP (σ 206) (fun h => σ 205 (40 * r_ + q_ + h))) b_) (if mpP (σ 206) (fun h => σ 205 (40 * r_ + q_ + h)) b_ = true then p2 b_ else 0) := rfl
                first | rw [if_pos (show mpP (σ 206) (fun h => σ 205 (40 * r_ + q_ + h)) b_ = true from c65)] at e3 | rw [if_neg (show ¬ mpP (σ 206) (fun h => σ 205 (40 * r_ + q_ + h)) b_ = true from c65)] at e3
                exact ih45 (b_ + 1) (cpy (mn (σ 206)) (shr (σ 206) (b_ : Int)) g_) _ _ _ (by omega) (by omega) (by have h2 := hW; rw [us_us] at h2; exact h2) hS (lv_sub hl [0, 1, 2, 3, 4] (by rw [e3]; rfl))
        exact L45 _ 0 (σ 210) _ _ _ (Nat.lt_succ_self _) (by omega) (by rw [us_id]; exact hW) hS (lv_sub hl [0, 1, 3, 4, 5] rfl)
      · have hlk : σ 204 r_ < 0 ∨ ¬ (0 ≤ i_ ∧ i_ ≤ σ 204 r_ - σ 206 4) := by revert c34; (repeat' split) <;> intro hh1 <;> omega
        refine lv_iload_n hx hb dX12_map_37 rfl (lv_at hl 0 rfl) ?_
        exact hret _ _ _ _ _ _ dX12_map_38 hW hS ⟨by (try simp only [Int.toNat_natCast]); (repeat' split) <;> first | rfl | omega, ⟨σ 210, by (try simp only [Int.toNat_natCast]); (repeat' split) <;> first | rfl | omega⟩⟩
    · refine k_ldc hx hb hown hts (v := -1000001) (by decide) w_907 dX12_map_17 ?_
      exact hret _ _ _ _ _ _ dX12_map_19 hW hS ⟨by (try simp only [Int.toNat_natCast]); (repeat' split) <;> first | rfl | omega, ⟨σ 210, by (try simp only [Int.toNat_natCast]); (repeat' split) <;> first | rfl | omega⟩⟩
  · refine k_ldc hx hb hown hts (v := -1000002) (by decide) w_983 dX12_map_7 ?_
    exact hret _ _ _ _ _ _ dX12_map_9 hW hS ⟨by (try simp only [Int.toNat_natCast]); (repeat' split) <;> first | rfl | omega, ⟨σ 210, by (try simp only [Int.toNat_natCast]); (repeat' split) <;> first | rfl | omega⟩⟩
