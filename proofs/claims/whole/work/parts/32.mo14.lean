
set_option maxRecDepth 100000 in
set_option maxHeartbeats 4000000 in
theorem c_X12_isOrder (l : Launch) (D : va_G) (cy : Nat → ClassId) (B : Nat) (σ : Sg) (r_ : Nat) (hok : okV (σ 206)) (hr : r_ < 256) : CI l yX12_isOrder cX12_isOrder 5 (some .boolean) 0 0 D cy B [.ref (B + 202), .int (iI (((r_ : Nat) : Int)))] σ ((if isO ((r_ : Nat) : Int) (mn (σ 206)) = true then 1 else 0)) (us σ 213 (rwj ((r_ : Nat) : Int) (mn (σ 206)) (σ 213) (mn (σ 206)))) := by
  refine CI_of (ty := .boolean) (by decide) (nb_ite) (Nat.le_of_ble_eq_true rfl) ?_
  intro p e R s m args below meth c Q hx hb hml hown hts hK hRf hRl hW hret ls hl
  have hown : s.vm.findClass "LovePartsModel" = some m.cls := hown
  have hS : va_S (AB B) s.heap s.heap [] := va_S.rf
  have hl : lv_has ls 5 [(0, .ref (B + 202)), (1, .int (iI (((r_ : Nat) : Int))))] := hl
  obtain ⟨o4, o0, o1, o2, o3, o5, o6, o7, oH⟩ := id hok
  have hmn : ((mn (σ 206) : Nat) : Int) = σ 206 4 := by unfold mn; omega
  have hp2 := p2_bd (k := mn (σ 206)) (by omega)
  refine lv_iload_n hx hb dX12_isOrder_0 rfl (lv_at hl 1 rfl) ?_
  refine lv_istore_n (lv' := [(2, .int (iI (((r_ : Nat) : Int)))), (0, .ref (B + 202)), (1, .int (iI (((r_ : Nat) : Int))))]) hx hb dX12_isOrder_1 rfl hl (by decide) rfl (fun ls hl => ?_)
  refine zi_con hx hb dX12_isOrder_2 ?_
  refine lv_istore_n (lv' := [(3, .int (iI (0))), (2, .int (iI (((r_ : Nat) : Int)))), (0, .ref (B + 202)), (1, .int (iI (((r_ : Nat) : Int))))]) hx hb dX12_isOrder_3 rfl hl (by decide) rfl (fun ls hl => ?_)
  refine lv_aload_n hx hb dX12_isOrder_4 rfl (lv_at hl 2 rfl) ?_
  refine wz_get hx hb hts hown hK hW 202 5 (by decide) e_202 rfl (by decide) inG12 w_820 rfl rfl dX12_isOrder_5 ?_
  refine zi_con hx hb dX12_isOrder_8 ?_
  refine wz_ald hx hb hK hW 206 4 (by decide) e_206 (by omega) (by omega) (by decide) dX12_isOrder_9 ?_
  refine zi_con hx hb dX12_isOrder_10 ?_
  refine zi_sub hx hb dX12_isOrder_11 ?_
  refine lv_istore (lv' := [(4, .int (iI ((σ 206 4) - 1))), (3, .int (iI (0))), (2, .int (iI (((r_ : Nat) : Int)))), (0, .ref (B + 202)), (1, .int (iI (((r_ : Nat) : Int))))]) hx hb dX12_isOrder_12 hl (by decide) rfl (fun ls hl => ?_)
  have L14 : ∀ (n14 : Nat) (j_ : Nat) (H : Heap) (locs : List Loc) (ls : Array Slot), 4 - j_ < n14 → ((j_ : Int) ≤ σ 206 4) → wd D cy B (us σ 213 (rwj ((r_ : Nat) : Int) (mn (σ 206)) (σ 213) j_)) H → va_S (AB B) s.heap H locs → lv_has ls 5 [(4, .int (iI (σ 206 4 - 1 - ((j_ : Nat) : Int)))), (3, .int (iI (sn ((r_ : Nat) : Int) j_))), (2, .int (iI (rs ((r_ : Nat) : Int) j_))), (0, .ref (B + 202)), (1, .int (iI (((r_ : Nat) : Int))))] → W p l e R s m args below meth c H locs 0 0 Q (F0 m 14 ls []) := by
    intro n14
    induction n14 with
    | zero => intro j_ H locs ls hms; omega
    | succ n14 ih14 =>
      intro j_ H locs ls hms14 hj hW hS hl
      have hrs := rs_bd (k := ((r_ : Nat) : Int)) (by omega) j_
      have hsn := sn_bd ((r_ : Nat) : Int) j_
      refine lv_iload hx hb dX12_isOrder_14 (lv_at hl 0 rfl) ?_
      refine zi_lt (tgt := 51) hx hb dX12_isOrder_16 (by decide) (by omega) (fun c16 => ?_) (fun c16 => ?_)
      · have hj7 : j_ = mn (σ 206) := by omega
        have hr7 : rs ((r_ : Nat) : Int) j_ = rs ((r_ : Nat) : Int) (mn (σ 206)) := by rw [hj7]
        have hs7 : sn ((r_ : Nat) : Int) j_ = sn ((r_ : Nat) : Int) (mn (σ 206)) := by rw [hj7]
        refine lv_iload_n hx hb dX12_isOrder_51 rfl (lv_at hl 2 rfl) ?_
        refine zi_ne (tgt := 73) hx hb dX12_isOrder_52 (by decide) (by omega) (fun c52 => ?_) (fun c52 => ?_)
        · refine zi_con hx hb dX12_isOrder_73 ?_
          exact hret _ _ _ _ _ _ dX12_isOrder_74 hW hS ⟨by first | rw [if_pos (by unfold isO; rw [decide_eq_true (show rs ((r_ : Nat) : Int) (mn (σ 206)) = 0 by omega), decide_eq_true (show sn ((r_ : Nat) : Int) (mn (σ 206)) = p2 (mn (σ 206)) - 1 by omega)]; rfl)] | rw [if_neg (fun h9 => by unfold isO at h9; rw [Bool.and_eq_true] at h9; have q1 := of_decide_eq_true h9.1; have q2 := of_decide_eq_true h9.2; omega)], by rw [hj7]⟩
        · refine lv_iload_n hx hb dX12_isOrder_55 rfl (lv_at hl 1 rfl) ?_
          refine zi_con hx hb dX12_isOrder_56 ?_
          refine lv_aload_n hx hb dX12_isOrder_57 rfl (lv_at hl 3 rfl) ?_
          refine wz_get hx hb hts hown hK hW 202 5 (by decide) e_202 rfl (by decide) inG12 w_820 rfl rfl dX12_isOrder_58 ?_
          refine zi_con hx hb dX12_isOrder_61 ?_
          refine wz_ald hx hb hK hW 206 4 (by decide) e_206 (by omega) (by omega) (by decide) dX12_isOrder_62 ?_
          refine zi_top (y := σ 206 4) (by (first | rfl | (simp [us, uf, nS] <;> omega))) ?_
          refine zi_shl (k := mn (σ 206)) hx hb (by omega) (by omega) dX12_isOrder_63 ?_
          refine zi_con hx hb dX12_isOrder_64 ?_
          refine zi_sub hx hb dX12_isOrder_65 ?_
          refine zi_cne (tgt := 73) hx hb dX12_isOrder_66 (by decide) (by omega) (by omega) (fun c66 => ?_) (fun c66 => ?_)
          · refine zi_con hx hb dX12_isOrder_73 ?_
            exact hret _ _ _ _ _ _ dX12_isOrder_74 hW hS ⟨by first | rw [if_pos (by unfold isO; rw [decide_eq_true (show rs ((r_ : Nat) : Int) (mn (σ 206)) = 0 by omega), decide_eq_true (show sn ((r_ : Nat) : Int) (mn (σ 206)) = p2 (mn (σ 206)) - 1 by omega)]; rfl)] | rw [if_neg (fun h9 => by unfold isO at h9; rw [Bool.and_eq_true] at h9; have q1 := of_decide_eq_true h9.1; have q2 := of_decide_eq_true h9.2; omega)], by rw [hj7]⟩
          · refine zi_con hx hb dX12_isOrder_69 ?_
            refine lv_goto (tgt := 74) hx hb dX12_isOrder_70 (by decide) ?_
            exact hret _ _ _ _ _ _ dX12_isOrder_74 hW hS ⟨by first | rw [if_pos (by unfold isO; rw [decide_eq_true (show rs ((r_ : Nat) : Int) (mn (σ 206)) = 0 by omega), decide_eq_true (show sn ((r_ : Nat) : Int) (mn (σ 206)) = p2 (mn (σ 206)) - 1 by omega)]; rfl)] | rw [if_neg (fun h9 => by unfold isO at h9; rw [Bool.and_eq_true] at h9; have q1 := of_decide_eq_true h9.1; have q2 := of_decide_eq_true h9.2; omega)], by rw [hj7]⟩
      · refine lv_aload_n hx hb dX12_isOrder_19 rfl (lv_at hl 3 rfl) ?_
        refine wz_get hx hb hts hown hK hW 202 21 (by decide) e_202 rfl (by decide) inG12 w_836 rfl rfl dX12_isOrder_20 ?_
        refine lv_iload hx hb dX12_isOrder_23 (lv_at hl 0 rfl) ?_
        refine lv_iload_n hx hb dX12_isOrder_25 rfl (lv_at hl 2 rfl) ?_
        refine zi_con hx hb dX12_isOrder_26 ?_
        refine zi_rem hx hb dX12_isOrder_27 (by omega) (by omega) ?_
        refine wz_ast (σ' := (up (us σ 213 (rwj ((r_ : Nat) : Int) (mn (σ 206)) (σ 213) j_)) 213 (mn (σ 206) - 1 - j_) ((rs ((r_ : Nat) : Int) j_) % 4))) hx hb hK hW hS 213 (mn (σ 206) - 1 - j_) (by decide) e_213 (by omega) (by omega) (by decide) p_213 dX12_isOrder_28 (fun H locs hW hS => ?_)
        refine lv_iload_n hx hb dX12_isOrder_29 rfl (lv_at hl 1 rfl) ?_
        refine zi_con hx hb dX12_isOrder_30 ?_
        refine lv_aload_n hx hb dX12_isOrder_31 rfl (lv_at hl 3 rfl) ?_
        refine wz_get hx hb hts hown hK hW 202 21 (by decide) e_202 rfl (by decide) inG12 w_836 rfl rfl dX12_isOrder_32 ?_
        refine lv_iload hx hb dX12_isOrder_35 (lv_at hl 0 rfl) ?_
        refine wz_ald hx hb hK hW 213 (mn (σ 206) - 1 - j_) (by decide) e_213 (by omega) (by omega) (by decide) dX12_isOrder_37 ?_
        refine zi_top (y := (rs ((r_ : Nat) : Int) j_) % 4) (by (first | rfl | (simp [us, uf, nS] <;> omega))) ?_
        refine zi_shl (k := (rs ((r_ : Nat) : Int) j_ % 4).toNat) hx hb (by omega) (by omega) dX12_isOrder_38 ?_
        refine zi_or hx hb dX12_isOrder_39 ?_
        refine lv_istore_n (lv' := [(3, .int (iI (orI (sn ((r_ : Nat) : Int) j_) (p2 ((rs ((r_ : Nat) : Int) j_ % 4).toNat))))), (4, .int (iI (σ 206 4 - 1 - ((j_ : Nat) : Int)))), (2, .int (iI (rs ((r_ : Nat) : Int) j_))), (0, .ref (B + 202)), (1, .int (iI (((r_ : Nat) : Int))))]) hx hb dX12_isOrder_40 rfl hl (by decide) rfl (fun ls hl => ?_)
        refine lv_iload_n hx hb dX12_isOrder_41 rfl (lv_at hl 2 rfl) ?_
        refine zi_con hx hb dX12_isOrder_42 ?_
        refine zi_div hx hb dX12_isOrder_43 (by omega) (by omega) ?_
        refine lv_istore_n (lv' := [(2, .int (iI ((rs ((r_ : Nat) : Int) j_) / 4))), (3, .int (iI (orI (sn ((r_ : Nat) : Int) j_) (p2 ((rs ((r_ : Nat) : Int) j_ % 4).toNat))))), (4, .int (iI (σ 206 4 - 1 - ((j_ : Nat) : Int)))), (0, .ref (B + 202)), (1, .int (iI (((r_ : Nat) : Int))))]) hx hb dX12_isOrder_44 rfl hl (by decide) rfl (fun ls hl => ?_)
        refine lv_iinc (v := iI ((σ 206 4 - 1 - ((j_ : Nat) : Int)) + (-1))) (lv' := [(4, .int (iI ((σ 206 4 - 1 - ((j_ : Nat) : Int)) + (-1)))), (2, .int (iI ((rs ((r_ : Nat) : Int) j_) / 4))), (3, .int (iI (orI (sn ((r_ : Nat) : Int) j_) (p2 ((rs ((r_ : Nat) : Int) j_ % 4).toNat))))), (0, .ref (B + 202)), (1, .int (iI (((r_ : Nat) : Int))))]) hx hb dX12_isOrder_45 hl (k := 2) rfl (iI_add _ _) (by decide) rfl (fun ls hl => ?_)
        refine lv_goto (tgt := 14) hx hb dX12_isOrder_48 (by decide) ?_
        rw [show σ 206 4 - 1 - ((j_ : Nat) : Int) + (-1) = σ 206 4 - 1 - ((j_ + 1 : Nat) : Int) from by omega] at hl
        exact ih14 (j_ + 1) _ _ _ (by omega) (by omega) (by have h2 := hW; unfold up at h2; rw [us_us, us_eq] at h2; exact h2) hS (lv_sub hl [0, 2, 1, 3, 4] rfl)
  exact L14 _ 0 _ _ _ (Nat.lt_succ_self _) (by omega) (by rw [show us σ 213 (rwj ((r_ : Nat) : Int) (mn (σ 206)) (σ 213) 0) = σ from us_id σ 213]; exact hW) hS (lv_sub hl [0, 1, 2, 3, 4] (by rw [show σ 206 4 - 1 - ((0 : Nat) : Int) = σ 206 4 - 1 from by omega]; rfl))

set_option maxRecDepth 100000 in
set_option maxHeartbeats 4000000 in
theorem c_X12_order (l : Launch) (D : va_G) (cy : Nat → ClassId) (B : Nat) (σ : Sg) (z_ : Int) (k_ : Int) (r_z_ : -2147483648 ≤ z_ ∧ z_ < 2147483648) (r_k_ : -2147483648 ≤ k_ ∧ k_ < 2147483648) (hok : σ 206 4 = 0 ∨ okV (σ 206)) (hith : σ 202 4 = if σ 206 4 = 0 then 0 else 1) (hm : σ 206 5 ≤ 999) : CIe l yX12_order cX12_order 7 (some .int) 2 45 D cy B [.ref (B + 202), .int (iI (z_)), .int (iI (k_))] σ (if σ 206 4 = 0 then -1000002 else if ¬ (1 ≤ z_ ∧ z_ ≤ 24) ∨ ¬ (-1 ≤ k_ ∧ k_ ≤ 3) then -1000001 else if k_ < 0 then om (σ 206) z_.toNat 256 else if k_ < σ 206 4 then rs ((ob (σ 206) z_.toNat 256 : Nat) : Int) (mn (σ 206) - 1 - k_.toNat) % 4 else -1000000) (fun u => ∃ (g : Nat → Int), u = if σ 206 4 = 0 then σ else if ¬ (1 ≤ z_ ∧ z_ ≤ 24) ∨ ¬ (-1 ≤ k_ ∧ k_ ≤ 3) then σ else us (us σ 212 (σ 206)) 213 g) := by
  refine CIe_of (ty := .int) (by decide) (rfl) (Nat.le_of_ble_eq_true rfl) ?_
  intro p e R s m args below meth c Q hx hb hml hown hts hK hRf hRl hW hret ls hl
  have hown : s.vm.findClass "LovePartsModel" = some m.cls := hown
  have hS : va_S (AB B) s.heap s.heap [] := va_S.rf
  have hl : lv_has ls 7 [(0, .ref (B + 202)), (1, .int (iI (z_))), (2, .int (iI (k_)))] := hl
  have hbi : -2147483648 ≤ σ 202 4 ∧ σ 202 4 < 2147483648 := by rw [hith]; split <;> omega
  have hit : (σ 202 4 = 0 ∧ σ 206 4 = 0) ∨ (σ 202 4 = 1 ∧ ¬ σ 206 4 = 0) := by rw [hith]; split <;> simp_all
  refine lv_aload_n hx hb dX12_order_0 rfl (lv_at hl 0 rfl) ?_
  refine wz_get hx hb hts hown hK hW 202 4 (by decide) e_202 rfl (by decide) inG12 w_819 rfl rfl dX12_order_1 ?_
  refine zi_ne (tgt := 10) hx hb dX12_order_4 (by decide) (by omega) (fun c4 => ?_) (fun c4 => ?_)
  · have hok := hok.resolve_left (by omega)
    obtain ⟨o4, o0, o1, o2, o3, o5, o6, o7, oH⟩ := id hok
    have hmn : ((mn (σ 206) : Nat) : Int) = σ 206 4 := by unfold mn; omega
    refine lv_iload_n hx hb dX12_order_10 rfl (lv_at hl 1 rfl) ?_
    refine zi_i2l hx hb dX12_order_11 (by omega) ?_
    refine zi_lcon (z := 1) hx hb dX12_order_12 (by decide) ?_
    refine k_ldc2 hx hb hown hts (v := 24) (by decide) w_1031 dX12_order_13 ?_
    refine k_si (fr := 2) (lo := 45) (r := (if 1 ≤ z_ ∧ z_ ≤ 24 then 1 else 0)) (As := [.long (lI (z_)), .long (lI (1)), .long (lI (24))]) (rest := []) hx hb hml hown hts hK hRf hRl hW hS (c_X12_in l D cy B σ z_ 1 24 (show -9223372036854775808 ≤ z_ ∧ z_ < 9223372036854775808 from (by first | assumption | omega | (simp only [tpL_25, List.length_cons, List.length_nil]; omega))) (show -9223372036854775808 ≤ 1 ∧ 1 < 9223372036854775808 from (by first | assumption | omega | (simp only [tpL_25, List.length_cons, List.length_nil]; omega))) (show -9223372036854775808 ≤ 24 ∧ 24 < 9223372036854775808 from (by first | assumption | omega | (simp only [tpL_25, List.length_cons, List.length_nil]; omega)))) vX12_in w_904 w_903 ⟨Nat.le_of_ble_eq_true rfl, Nat.le_of_ble_eq_true rfl⟩ hl.1 rfl (Nat.le_of_ble_eq_true rfl) ⟨Nat.zero_le _, Nat.zero_le _⟩ dX12_order_16 (fun H locs hW hS => ?_)
    refine zi_beq (tgt := 36) hx hb dX12_order_19 (by decide) (fun c19 => ?_) (fun c19 => ?_)
    · refine k_ldc hx hb hown hts (v := -1000001) (by decide) w_907 dX12_order_36 ?_
      exact hret _ _ _ _ _ _ dX12_order_38 hW hS ⟨by (repeat' split) <;> first | rfl | omega, ⟨σ 213, by (repeat' split) <;> first | rfl | omega⟩⟩
    · obtain ⟨n_, rfl⟩ : ∃ h : Nat, z_ = (h : Int) := ⟨z_.toNat, by omega⟩
      refine lv_iload_n hx hb dX12_order_22 rfl (lv_at hl 2 rfl) ?_
      refine zi_i2l hx hb dX12_order_23 (by omega) ?_
      refine k_ldc2 hx hb hown hts (v := -1) (by decide) w_1089 dX12_order_24 ?_
      refine k_ldc2 hx hb hown hts (v := 3) (by decide) w_1026 dX12_order_27 ?_
      refine k_si (fr := 2) (lo := 45) (r := (if (-1) ≤ k_ ∧ k_ ≤ 3 then 1 else 0)) (As := [.long (lI (k_)), .long (lI ((-1))), .long (lI (3))]) (rest := []) hx hb hml hown hts hK hRf hRl hW hS (c_X12_in l D cy B σ k_ (-1) 3 (show -9223372036854775808 ≤ k_ ∧ k_ < 9223372036854775808 from (by first | assumption | omega | (simp only [tpL_25, List.length_cons, List.length_nil]; omega))) (show -9223372036854775808 ≤ (-1) ∧ (-1) < 9223372036854775808 from (by first | assumption | omega | (simp only [tpL_25, List.length_cons, List.length_nil]; omega))) (show -9223372036854775808 ≤ 3 ∧ 3 < 9223372036854775808 from (by first | assumption | omega | (simp only [tpL_25, List.length_cons, List.length_nil]; omega)))) vX12_in w_904 w_903 ⟨Nat.le_of_ble_eq_true rfl, Nat.le_of_ble_eq_true rfl⟩ hl.1 rfl (Nat.le_of_ble_eq_true rfl) ⟨Nat.zero_le _, Nat.zero_le _⟩ dX12_order_30 (fun H locs hW hS => ?_)
      refine zi_bne (tgt := 39) hx hb dX12_order_33 (by decide) (fun c33 => ?_) (fun c33 => ?_)
      · refine lv_aload_n hx hb dX12_order_39 rfl (lv_at hl 0 rfl) ?_
        refine k_vv (fr := 2) (lo := 45) (σ' := (us σ 212 (σ 206))) (As := []) (rest := []) hx hb hml hown hts hK hRf hRl hW hS (c_X12_putAside l D cy B σ  ) vX12_putAside ⟨w_1066, w_37⟩ w_1064 (by decide) e_202 rfl ⟨Nat.le_of_ble_eq_true rfl, Nat.le_of_ble_eq_true rfl⟩ hl.1 rfl (Nat.le_of_ble_eq_true rfl) ⟨Nat.zero_le _, Nat.zero_le _⟩ dX12_order_40 (fun H locs hW hS => ?_)
        refine zi_con hx hb dX12_order_43 ?_
        refine lv_istore_n (lv' := [(3, .int (iI ((-1)))), (0, .ref (B + 202)), (1, .int (iI (((n_ : Nat) : Int)))), (2, .int (iI (k_)))]) hx hb dX12_order_44 rfl hl (by decide) rfl (fun ls hl => ?_)
        refine zi_con hx hb dX12_order_45 ?_
        refine lv_istore (lv' := [(4, .int (iI (0))), (3, .int (iI ((-1)))), (0, .ref (B + 202)), (1, .int (iI (((n_ : Nat) : Int)))), (2, .int (iI (k_)))]) hx hb dX12_order_46 hl (by decide) rfl (fun ls hl => ?_)
        refine zi_con hx hb dX12_order_48 ?_
        refine lv_istore (lv' := [(5, .int (iI (0))), (4, .int (iI (0))), (3, .int (iI ((-1)))), (0, .ref (B + 202)), (1, .int (iI (((n_ : Nat) : Int)))), (2, .int (iI (k_)))]) hx hb dX12_order_49 hl (by decide) rfl (fun ls hl => ?_)
        have L51 : ∀ (n51 : Nat) (r_ : Nat) (w_ : Nat → Int) (H : Heap) (locs : List Loc) (ls : Array Slot), 256 - r_ < n51 → (r_ ≤ 256) → wd D cy B (us (us σ 212 (σ 206)) 213 w_) H → va_S (AB B) s.heap H locs → lv_has ls 7 [(5, .int (iI (((r_ : Nat) : Int)))), (4, .int (iI (((ob (σ 206) n_ r_ : Nat) : Int)))), (3, .int (iI (om (σ 206) n_ r_))), (0, .ref (B + 202)), (1, .int (iI (((n_ : Nat) : Int)))), (2, .int (iI (k_)))] → W p l e R s m args below meth c H locs 0 0 Q (F0 m 51 ls []) := by
          intro n51
          induction n51 with
          | zero => intro r_ w_ H locs ls hms; omega
          | succ n51 ih51 =>
            intro r_ w_ H locs ls hms51 hr hW hS hl
            have hob := om_bd hok (n := n_) (by omega) hr
            refine lv_iload hx hb dX12_order_51 (lv_at hl 0 rfl) ?_
            refine zi_sip hx hb dX12_order_53 (by decide) ?_
            refine zi_cge (tgt := 158) hx hb dX12_order_56 (by decide) (by omega) (by omega) (fun c56 => ?_) (fun c56 => ?_)
            · have hr2 : r_ = 256 := by omega
              have hol := ob_lt (σ 206) n_ r_ (by omega)
              refine lv_aload_n hx hb dX12_order_158 rfl (lv_at hl 3 rfl) ?_
              refine lv_iload hx hb dX12_order_159 (lv_at hl 1 rfl) ?_
              refine k_vi (fr := 2) (lo := 45) (r := (if isO (((ob (σ 206) n_ r_) : Nat) : Int) (mn (σ 206)) = true then 1 else 0)) (σ' := (us (us (us σ 212 (σ 206)) 213 w_) 213 (rwj (((ob (σ 206) n_ r_) : Nat) : Int) (mn (σ 206)) ((us (us σ 212 (σ 206)) 213 w_) 213) (mn (σ 206))))) (As := [.int (iI (((ob (σ 206) n_ r_ : Nat) : Int)))]) (rest := []) hx hb hml hown hts hK hRf hRl hW hS (c_X12_isOrder l D cy B (us (us σ 212 (σ 206)) 213 w_) (ob (σ 206) n_ r_) (show okV (σ 206) from (by first | assumption | omega | (simp only [tpL_25, List.length_cons, List.length_nil]; omega))) (show (ob (σ 206) n_ r_) < 256 from (by first | assumption | omega | (simp only [tpL_25, List.length_cons, List.length_nil]; omega)))) vX12_isOrder ⟨w_1092, w_40⟩ w_1090 (by decide) e_202 rfl ⟨Nat.le_of_ble_eq_true rfl, Nat.le_of_ble_eq_true rfl⟩ hl.1 rfl (Nat.le_of_ble_eq_true rfl) ⟨Nat.zero_le _, Nat.zero_le _⟩ dX12_order_161 (fun H locs hW hS => ?_)
              refine lv_pop hx hb dX12_order_164 rfl ?_
              refine lv_iload_n hx hb dX12_order_165 rfl (lv_at hl 5 rfl) ?_
              refine zi_ge (tgt := 173) hx hb dX12_order_166 (by decide) (by omega) (fun c166 => ?_) (fun c166 => ?_)
              · refine lv_iload_n hx hb dX12_order_173 rfl (lv_at hl 5 rfl) ?_
                refine lv_aload_n hx hb dX12_order_174 rfl (lv_at hl 3 rfl) ?_
                refine wz_get hx hb hts hown hK hW 202 5 (by decide) e_202 rfl (by decide) inG12 w_820 rfl rfl dX12_order_175 ?_
                refine zi_con hx hb dX12_order_178 ?_
                refine wz_ald hx hb hK hW 206 4 (by decide) e_206 (by omega) (by omega) (by decide) dX12_order_179 ?_
                refine zi_top (y := σ 206 4) (by (first | rfl | (simp [us, uf, nS] <;> omega))) ?_
                refine zi_cge (tgt := 192) hx hb dX12_order_180 (by decide) (by omega) (by omega) (fun c180 => ?_) (fun c180 => ?_)
                · refine k_ldc hx hb hown hts (v := -1000000) (by decide) w_1080 dX12_order_192 ?_
                  exact hret _ _ _ _ _ _ dX12_order_194 hW hS ⟨by simp only [Int.toNat_natCast]; subst hr2; (repeat' split) <;> first | rfl | omega, ⟨_, by rw [if_neg (by omega), if_neg (by omega), us_us]⟩⟩
                · refine lv_aload_n hx hb dX12_order_183 rfl (lv_at hl 3 rfl) ?_
                  refine wz_get hx hb hts hown hK hW 202 21 (by decide) e_202 rfl (by decide) inG12 w_836 rfl rfl dX12_order_184 ?_
                  refine lv_iload_n hx hb dX12_order_187 rfl (lv_at hl 5 rfl) ?_
                  refine wz_ald hx hb hK hW 213 k_.toNat (by decide) e_213 (by omega) (by omega) (by decide) dX12_order_188 ?_
                  refine zi_top (y := rs ((ob (σ 206) n_ r_ : Nat) : Int) (mn (σ 206) - 1 - k_.toNat) % 4) (by (show rwj ((ob (σ 206) n_ r_ : Nat) : Int) (mn (σ 206)) w_ (mn (σ 206)) k_.toNat = _; rw [rwj_at _ _ _ (by omega), if_pos (by omega)])) ?_
                  refine lv_goto (tgt := 194) hx hb dX12_order_189 (by decide) ?_
                  exact hret _ _ _ _ _ _ dX12_order_194 hW hS ⟨by simp only [Int.toNat_natCast]; subst hr2; (repeat' split) <;> first | rfl | omega, ⟨_, by rw [if_neg (by omega), if_neg (by omega), us_us]⟩⟩
              · refine lv_iload_n hx hb dX12_order_169 rfl (lv_at hl 2 rfl) ?_
                refine lv_goto (tgt := 194) hx hb dX12_order_170 (by decide) ?_
                exact hret _ _ _ _ _ _ dX12_order_194 hW hS ⟨by simp only [Int.toNat_natCast]; subst hr2; (repeat' split) <;> first | rfl | omega, ⟨_, by rw [if_neg (by omega), if_neg (by omega), us_us]⟩⟩
            · refine lv_aload_n hx hb dX12_order_59 rfl (lv_at hl 3 rfl) ?_
              refine lv_iload hx hb dX12_order_60 (lv_at hl 0 rfl) ?_
              refine k_vi (fr := 2) (lo := 45) (r := (if isO ((r_ : Nat) : Int) (mn (σ 206)) = true then 1 else 0)) (σ' := (us (us (us σ 212 (σ 206)) 213 w_) 213 (rwj ((r_ : Nat) : Int) (mn (σ 206)) ((us (us σ 212 (σ 206)) 213 w_) 213) (mn (σ 206))))) (As := [.int (iI (((r_ : Nat) : Int)))]) (rest := []) hx hb hml hown hts hK hRf hRl hW hS (c_X12_isOrder l D cy B (us (us σ 212 (σ 206)) 213 w_) r_ (show okV (σ 206) from (by first | assumption | omega | (simp only [tpL_25, List.length_cons, List.length_nil]; omega))) (show r_ < 256 from (by first | assumption | omega | (simp only [tpL_25, List.length_cons, List.length_nil]; omega)))) vX12_isOrder ⟨w_1092, w_40⟩ w_1090 (by decide) e_202 rfl ⟨Nat.le_of_ble_eq_true rfl, Nat.le_of_ble_eq_true rfl⟩ hl.1 rfl (Nat.le_of_ble_eq_true rfl) ⟨Nat.zero_le _, Nat.zero_le _⟩ dX12_order_62 (fun H locs hW hS => ?_)
              have hW : wd D cy B (us (us σ 212 (σ 206)) 213 (rwj ((r_ : Nat) : Int) (mn (σ 206)) w_ (mn (σ 206)))) H := by rw [us_us] at hW; exact hW
              refine zi_beq (tgt := 152) hx hb dX12_order_65 (by decide) (fun c65 => ?_) (fun c65 => ?_)
              · refine lv_iinc (v := iI (((r_ : Nat) : Int) + 1)) (lv' := [(5, .int (iI (((r_ : Nat) : Int) + 1))), (4, .int (iI (((ob (σ 206) n_ r_ : Nat) : Int)))), (3, .int (iI (om (σ 206) n_ r_))), (0, .ref (B + 202)), (1, .int (iI (((n_ : Nat) : Int)))), (2, .int (iI (k_)))]) hx hb dX12_order_152 hl (k := 0) rfl (iI_add _ _) (by decide) rfl (fun ls hl => ?_)
                refine lv_goto (tgt := 51) hx hb dX12_order_155 (by decide) ?_
                have e3 : om (σ 206) n_ (r_ + 1) = (if isO ((r_ : Nat) : Int) (mn (σ 206)) = true ∧ om (σ 206) n_ r_ < orF (σ 206) ((r_ : Nat) : Int) n_ 1 then orF (σ 206) ((r_ : Nat) : Int) n_ 1 else om (σ 206) n_ r_) := rfl
                have e4 : ob (σ 206) n_ (r_ + 1) = (if isO ((r_ : Nat) : Int) (mn (σ 206)) = true ∧ om (σ 206) n_ r_ < orF (σ 206) ((r_ : Nat) : Int) n_ 1 then r_ else ob (σ 206) n_ r_) := rfl
                first | (rw [if_neg (by exact fun h9 => c65 h9.1)] at e3 e4) | (rw [if_pos (by exact ⟨c65, by omega⟩)] at e3 e4) | (rw [if_neg (by exact fun h9 => absurd h9.2 (by omega))] at e3 e4)
                exact ih51 (r_ + 1) (rwj ((r_ : Nat) : Int) (mn (σ 206)) w_ (mn (σ 206))) _ _ _ (by omega) (by omega) (by first | exact hW | (have h2 := hW; rw [us_us] at h2; have h3 : wd D cy B (us (us (us σ 212 (σ 206)) 213 (rwj ((r_ : Nat) : Int) (mn (σ 206)) w_ (mn (σ 206)))) 206 ((us (us σ 212 (σ 206)) 213 (rwj ((r_ : Nat) : Int) (mn (σ 206)) w_ (mn (σ 206)))) 206)) _ := h2; rw [us_id] at h3; exact h3)) hS (lv_sub hl [0, 1, 2, 3, 4, 5] (by first | (rw [e3, e4]; rfl) | omega))
              · refine zi_con hx hb dX12_order_68 ?_
                refine lv_istore (lv' := [(6, .int (iI (0))), (5, .int (iI (((r_ : Nat) : Int)))), (4, .int (iI (((ob (σ 206) n_ r_ : Nat) : Int)))), (3, .int (iI (om (σ 206) n_ r_))), (0, .ref (B + 202)), (1, .int (iI (((n_ : Nat) : Int)))), (2, .int (iI (k_)))]) hx hb dX12_order_69 hl (by decide) rfl (fun ls hl => ?_)
                have L71 : ∀ (n71 : Nat) (m_ : Nat) (H : Heap) (locs : List Loc) (ls : Array Slot), 24 - m_ < n71 → (m_ ≤ n_) → wd D cy B (us (us (us σ 212 (σ 206)) 213 (rwj ((r_ : Nat) : Int) (mn (σ 206)) w_ (mn (σ 206)))) 206 (orF (σ 206) ((r_ : Nat) : Int) m_)) H → va_S (AB B) s.heap H locs → lv_has ls 7 [(6, .int (iI (((m_ : Nat) : Int)))), (5, .int (iI (((r_ : Nat) : Int)))), (4, .int (iI (((ob (σ 206) n_ r_ : Nat) : Int)))), (3, .int (iI (om (σ 206) n_ r_))), (0, .ref (B + 202)), (1, .int (iI (((n_ : Nat) : Int)))), (2, .int (iI (k_)))] → W p l e R s m args below meth c H locs 0 0 Q (F0 m 71 ls []) := by
                  intro n71
                  induction n71 with
                  | zero => intro m_ H locs ls hms; omega
                  | succ n71 ih71 =>
                    intro m_ H locs ls hms71 hm2 hW hS hl
                    have hit2 := okV_orF hok (r := r_) (by omega) c65 (n := m_) (by omega)
                    have hmm := Nat.mod_lt m_ (y := mn (σ 206)) (by omega)
                    have hil := isO_lt (r := r_) (m := mn (σ 206)) (by omega) (by omega) c65 (j := mn (σ 206) - 1 - m_ % mn (σ 206)) (by omega)
                    refine lv_iload hx hb dX12_order_71 (lv_at hl 0 rfl) ?_
                    refine lv_iload_n hx hb dX12_order_73 rfl (lv_at hl 5 rfl) ?_
                    refine zi_cge (tgt := 108) hx hb dX12_order_74 (by decide) (by omega) (by omega) (fun c74 => ?_) (fun c74 => ?_)
                    · have hmz : m_ = n_ := by omega
                      have hkn := hit2.1.2.2.1
                      rw [hmz] at hkn
                      refine lv_aload_n hx hb dX12_order_108 rfl (lv_at hl 4 rfl) ?_
                      refine wz_get hx hb hts hown hK hW 202 5 (by decide) e_202 rfl (by decide) inG12 w_820 rfl rfl dX12_order_109 ?_
                      refine zi_con hx hb dX12_order_112 ?_
                      refine wz_ald hx hb hK hW 206 1 (by decide) e_206 (by omega) (by omega) (by decide) dX12_order_113 ?_
                      refine zi_top (y := orF (σ 206) ((r_ : Nat) : Int) n_ 1) (by (show (orF (σ 206) ((r_ : Nat) : Int) m_) 1 = _; rw [hmz])) ?_
                      refine lv_iload_n hx hb dX12_order_114 rfl (lv_at hl 3 rfl) ?_
                      refine zi_cle (tgt := 123) hx hb dX12_order_115 (by decide) (by omega) (by omega) (fun c115 => ?_) (fun c115 => ?_)
                      · refine lv_iload hx hb dX12_order_123 (lv_at hl 2 rfl) ?_
                        refine lv_istore (lv' := [(4, .int (iI (((ob (σ 206) n_ r_ : Nat) : Int)))), (6, .int (iI (((m_ : Nat) : Int)))), (5, .int (iI (((r_ : Nat) : Int)))), (3, .int (iI (om (σ 206) n_ r_))), (0, .ref (B + 202)), (1, .int (iI (((n_ : Nat) : Int)))), (2, .int (iI (k_)))]) hx hb dX12_order_125 hl (by decide) rfl (fun ls hl => ?_)
                        refine lv_aload_n hx hb dX12_order_127 rfl (lv_at hl 4 rfl) ?_
                        refine wz_get hx hb hts hown hK hW 202 5 (by decide) e_202 rfl (by decide) inG12 w_820 rfl rfl dX12_order_128 ?_
                        refine zi_con hx hb dX12_order_131 ?_
                        refine wz_ald hx hb hK hW 206 1 (by decide) e_206 (by omega) (by omega) (by decide) dX12_order_132 ?_
                        refine zi_top (y := orF (σ 206) ((r_ : Nat) : Int) n_ 1) (by (show (orF (σ 206) ((r_ : Nat) : Int) m_) 1 = _; rw [hmz])) ?_
                        refine lv_iload_n hx hb dX12_order_133 rfl (lv_at hl 3 rfl) ?_
                        refine zi_cle (tgt := 146) hx hb dX12_order_134 (by decide) (by omega) (by omega) (fun c134 => ?_) (fun c134 => ?_)
                        · refine lv_iload_n hx hb dX12_order_146 rfl (lv_at hl 3 rfl) ?_
                          refine lv_istore_n (lv' := [(3, .int (iI (om (σ 206) n_ r_))), (4, .int (iI (((ob (σ 206) n_ r_ : Nat) : Int)))), (6, .int (iI (((m_ : Nat) : Int)))), (5, .int (iI (((r_ : Nat) : Int)))), (0, .ref (B + 202)), (1, .int (iI (((n_ : Nat) : Int)))), (2, .int (iI (k_)))]) hx hb dX12_order_147 rfl hl (by decide) rfl (fun ls hl => ?_)
                          refine lv_aload_n hx hb dX12_order_148 rfl (lv_at hl 4 rfl) ?_
                          refine k_vv (fr := 2) (lo := 45) (σ' := (us (us (us (us σ 212 (σ 206)) 213 (rwj ((r_ : Nat) : Int) (mn (σ 206)) w_ (mn (σ 206)))) 206 (orF (σ 206) ((r_ : Nat) : Int) m_)) 206 ((us (us (us σ 212 (σ 206)) 213 (rwj ((r_ : Nat) : Int) (mn (σ 206)) w_ (mn (σ 206)))) 206 (orF (σ 206) ((r_ : Nat) : Int) m_)) 212))) (As := []) (rest := []) hx hb hml hown hts hK hRf hRl hW hS (c_X12_takeBack l D cy B (us (us (us σ 212 (σ 206)) 213 (rwj ((r_ : Nat) : Int) (mn (σ 206)) w_ (mn (σ 206)))) 206 (orF (σ 206) ((r_ : Nat) : Int) m_))  ) vX12_takeBack ⟨w_1070, w_38⟩ w_1068 (by decide) e_202 rfl ⟨Nat.le_of_ble_eq_true rfl, Nat.le_of_ble_eq_true rfl⟩ hl.1 rfl (Nat.le_of_ble_eq_true rfl) ⟨Nat.zero_le _, Nat.zero_le _⟩ dX12_order_149 (fun H locs hW hS => ?_)
                          refine lv_iinc (v := iI (((r_ : Nat) : Int) + 1)) (lv' := [(5, .int (iI (((r_ : Nat) : Int) + 1))), (3, .int (iI (om (σ 206) n_ r_))), (4, .int (iI (((ob (σ 206) n_ r_ : Nat) : Int)))), (6, .int (iI (((m_ : Nat) : Int)))), (0, .ref (B + 202)), (1, .int (iI (((n_ : Nat) : Int)))), (2, .int (iI (k_)))]) hx hb dX12_order_152 hl (k := 3) rfl (iI_add _ _) (by decide) rfl (fun ls hl => ?_)
                          refine lv_goto (tgt := 51) hx hb dX12_order_155 (by decide) ?_
                          have e3 : om (σ 206) n_ (r_ + 1) = (if isO ((r_ : Nat) : Int) (mn (σ 206)) = true ∧ om (σ 206) n_ r_ < orF (σ 206) ((r_ : Nat) : Int) n_ 1 then orF (σ 206) ((r_ : Nat) : Int) n_ 1 else om (σ 206) n_ r_) := rfl
                          have e4 : ob (σ 206) n_ (r_ + 1) = (if isO ((r_ : Nat) : Int) (mn (σ 206)) = true ∧ om (σ 206) n_ r_ < orF (σ 206) ((r_ : Nat) : Int) n_ 1 then r_ else ob (σ 206) n_ r_) := rfl
                          first | (rw [if_neg (by exact fun h9 => c65 h9.1)] at e3 e4) | (rw [if_pos (by exact ⟨c65, by omega⟩)] at e3 e4) | (rw [if_neg (by exact fun h9 => absurd h9.2 (by omega))] at e3 e4)
                          exact ih51 (r_ + 1) (rwj ((r_ : Nat) : Int) (mn (σ 206)) w_ (mn (σ 206))) _ _ _ (by omega) (by omega) (by first | exact hW | (have h2 := hW; rw [us_us] at h2; have h3 : wd D cy B (us (us (us σ 212 (σ 206)) 213 (rwj ((r_ : Nat) : Int) (mn (σ 206)) w_ (mn (σ 206)))) 206 ((us (us σ 212 (σ 206)) 213 (rwj ((r_ : Nat) : Int) (mn (σ 206)) w_ (mn (σ 206)))) 206)) _ := h2; rw [us_id] at h3; exact h3)) hS (lv_sub hl [0, 2, 1, 4, 5, 6] (by first | (rw [e3, e4]; rfl) | omega))
                        · refine lv_aload_n hx hb dX12_order_137 rfl (lv_at hl 4 rfl) ?_
                          refine wz_get hx hb hts hown hK hW 202 5 (by decide) e_202 rfl (by decide) inG12 w_820 rfl rfl dX12_order_138 ?_
                          refine zi_con hx hb dX12_order_141 ?_
                          refine wz_ald hx hb hK hW 206 1 (by decide) e_206 (by omega) (by omega) (by decide) dX12_order_142 ?_
                          refine zi_top (y := orF (σ 206) ((r_ : Nat) : Int) n_ 1) (by (show (orF (σ 206) ((r_ : Nat) : Int) m_) 1 = _; rw [hmz])) ?_
                          refine lv_goto (tgt := 147) hx hb dX12_order_143 (by decide) ?_
                          refine lv_istore_n (lv' := [(3, .int (iI (orF (σ 206) ((r_ : Nat) : Int) n_ 1))), (4, .int (iI (((ob (σ 206) n_ r_ : Nat) : Int)))), (6, .int (iI (((m_ : Nat) : Int)))), (5, .int (iI (((r_ : Nat) : Int)))), (0, .ref (B + 202)), (1, .int (iI (((n_ : Nat) : Int)))), (2, .int (iI (k_)))]) hx hb dX12_order_147 rfl hl (by decide) rfl (fun ls hl => ?_)
                          refine lv_aload_n hx hb dX12_order_148 rfl (lv_at hl 4 rfl) ?_
                          refine k_vv (fr := 2) (lo := 45) (σ' := (us (us (us (us σ 212 (σ 206)) 213 (rwj ((r_ : Nat) : Int) (mn (σ 206)) w_ (mn (σ 206)))) 206 (orF (σ 206) ((r_ : Nat) : Int) m_)) 206 ((us (us (us σ 212 (σ 206)) 213 (rwj ((r_ : Nat) : Int) (mn (σ 206)) w_ (mn (σ 206)))) 206 (orF (σ 206) ((r_ : Nat) : Int) m_)) 212))) (As := []) (rest := []) hx hb hml hown hts hK hRf hRl hW hS (c_X12_takeBack l D cy B (us (us (us σ 212 (σ 206)) 213 (rwj ((r_ : Nat) : Int) (mn (σ 206)) w_ (mn (σ 206)))) 206 (orF (σ 206) ((r_ : Nat) : Int) m_))  ) vX12_takeBack ⟨w_1070, w_38⟩ w_1068 (by decide) e_202 rfl ⟨Nat.le_of_ble_eq_true rfl, Nat.le_of_ble_eq_true rfl⟩ hl.1 rfl (Nat.le_of_ble_eq_true rfl) ⟨Nat.zero_le _, Nat.zero_le _⟩ dX12_order_149 (fun H locs hW hS => ?_)
                          refine lv_iinc (v := iI (((r_ : Nat) : Int) + 1)) (lv' := [(5, .int (iI (((r_ : Nat) : Int) + 1))), (3, .int (iI (orF (σ 206) ((r_ : Nat) : Int) n_ 1))), (4, .int (iI (((ob (σ 206) n_ r_ : Nat) : Int)))), (6, .int (iI (((m_ : Nat) : Int)))), (0, .ref (B + 202)), (1, .int (iI (((n_ : Nat) : Int)))), (2, .int (iI (k_)))]) hx hb dX12_order_152 hl (k := 3) rfl (iI_add _ _) (by decide) rfl (fun ls hl => ?_)
                          refine lv_goto (tgt := 51) hx hb dX12_order_155 (by decide) ?_
                          have e3 : om (σ 206) n_ (r_ + 1) = (if isO ((r_ : Nat) : Int) (mn (σ 206)) = true ∧ om (σ 206) n_ r_ < orF (σ 206) ((r_ : Nat) : Int) n_ 1 then orF (σ 206) ((r_ : Nat) : Int) n_ 1 else om (σ 206) n_ r_) := rfl
                          have e4 : ob (σ 206) n_ (r_ + 1) = (if isO ((r_ : Nat) : Int) (mn (σ 206)) = true ∧ om (σ 206) n_ r_ < orF (σ 206) ((r_ : Nat) : Int) n_ 1 then r_ else ob (σ 206) n_ r_) := rfl
                          first | (rw [if_neg (by exact fun h9 => c65 h9.1)] at e3 e4) | (rw [if_pos (by exact ⟨c65, by omega⟩)] at e3 e4) | (rw [if_neg (by exact fun h9 => absurd h9.2 (by omega))] at e3 e4)
                          exact ih51 (r_ + 1) (rwj ((r_ : Nat) : Int) (mn (σ 206)) w_ (mn (σ 206))) _ _ _ (by omega) (by omega) (by first | exact hW | (have h2 := hW; rw [us_us] at h2; have h3 : wd D cy B (us (us (us σ 212 (σ 206)) 213 (rwj ((r_ : Nat) : Int) (mn (σ 206)) w_ (mn (σ 206)))) 206 ((us (us σ 212 (σ 206)) 213 (rwj ((r_ : Nat) : Int) (mn (σ 206)) w_ (mn (σ 206)))) 206)) _ := h2; rw [us_id] at h3; exact h3)) hS (lv_sub hl [0, 2, 1, 4, 5, 6] (by first | (rw [e3, e4]; rfl) | omega))
                      · refine lv_iload hx hb dX12_order_118 (lv_at hl 1 rfl) ?_
                        refine lv_goto (tgt := 125) hx hb dX12_order_120 (by decide) ?_
                        refine lv_istore (lv' := [(4, .int (iI (((r_ : Nat) : Int)))), (6, .int (iI (((m_ : Nat) : Int)))), (5, .int (iI (((r_ : Nat) : Int)))), (3, .int (iI (om (σ 206) n_ r_))), (0, .ref (B + 202)), (1, .int (iI (((n_ : Nat) : Int)))), (2, .int (iI (k_)))]) hx hb dX12_order_125 hl (by decide) rfl (fun ls hl => ?_)
                        refine lv_aload_n hx hb dX12_order_127 rfl (lv_at hl 4 rfl) ?_
                        refine wz_get hx hb hts hown hK hW 202 5 (by decide) e_202 rfl (by decide) inG12 w_820 rfl rfl dX12_order_128 ?_
                        refine zi_con hx hb dX12_order_131 ?_
                        refine wz_ald hx hb hK hW 206 1 (by decide) e_206 (by omega) (by omega) (by decide) dX12_order_132 ?_
                        refine zi_top (y := orF (σ 206) ((r_ : Nat) : Int) n_ 1) (by (show (orF (σ 206) ((r_ : Nat) : Int) m_) 1 = _; rw [hmz])) ?_
                        refine lv_iload_n hx hb dX12_order_133 rfl (lv_at hl 3 rfl) ?_
                        refine zi_cle (tgt := 146) hx hb dX12_order_134 (by decide) (by omega) (by omega) (fun c134 => ?_) (fun c134 => ?_)
                        · refine lv_iload_n hx hb dX12_order_146 rfl (lv_at hl 3 rfl) ?_
                          refine lv_istore_n (lv' := [(3, .int (iI (om (σ 206) n_ r_))), (4, .int (iI (((r_ : Nat) : Int)))), (6, .int (iI (((m_ : Nat) : Int)))), (5, .int (iI (((r_ : Nat) : Int)))), (0, .ref (B + 202)), (1, .int (iI (((n_ : Nat) : Int)))), (2, .int (iI (k_)))]) hx hb dX12_order_147 rfl hl (by decide) rfl (fun ls hl => ?_)
                          refine lv_aload_n hx hb dX12_order_148 rfl (lv_at hl 4 rfl) ?_
                          refine k_vv (fr := 2) (lo := 45) (σ' := (us (us (us (us σ 212 (σ 206)) 213 (rwj ((r_ : Nat) : Int) (mn (σ 206)) w_ (mn (σ 206)))) 206 (orF (σ 206) ((r_ : Nat) : Int) m_)) 206 ((us (us (us σ 212 (σ 206)) 213 (rwj ((r_ : Nat) : Int) (mn (σ 206)) w_ (mn (σ 206)))) 206 (orF (σ 206) ((r_ : Nat) : Int) m_)) 212))) (As := []) (rest := []) hx hb hml hown hts hK hRf hRl hW hS (c_X12_takeBack l D cy B (us (us (us σ 212 (σ 206)) 213 (rwj ((r_ : Nat) : Int) (mn (σ 206)) w_ (mn (σ 206)))) 206 (orF (σ 206) ((r_ : Nat) : Int) m_))  ) vX12_takeBack ⟨w_1070, w_38⟩ w_1068 (by decide) e_202 rfl ⟨Nat.le_of_ble_eq_true rfl, Nat.le_of_ble_eq_true rfl⟩ hl.1 rfl (Nat.le_of_ble_eq_true rfl) ⟨Nat.zero_le _, Nat.zero_le _⟩ dX12_order_149 (fun H locs hW hS => ?_)
                          refine lv_iinc (v := iI (((r_ : Nat) : Int) + 1)) (lv' := [(5, .int (iI (((r_ : Nat) : Int) + 1))), (3, .int (iI (om (σ 206) n_ r_))), (4, .int (iI (((r_ : Nat) : Int)))), (6, .int (iI (((m_ : Nat) : Int)))), (0, .ref (B + 202)), (1, .int (iI (((n_ : Nat) : Int)))), (2, .int (iI (k_)))]) hx hb dX12_order_152 hl (k := 3) rfl (iI_add _ _) (by decide) rfl (fun ls hl => ?_)
                          refine lv_goto (tgt := 51) hx hb dX12_order_155 (by decide) ?_
                          have e3 : om (σ 206) n_ (r_ + 1) = (if isO ((r_ : Nat) : Int) (mn (σ 206)) = true ∧ om (σ 206) n_ r_ < orF (σ 206) ((r_ : Nat) : Int) n_ 1 then orF (σ 206) ((r_ : Nat) : Int) n_ 1 else om (σ 206) n_ r_) := rfl
                          have e4 : ob (σ 206) n_ (r_ + 1) = (if isO ((r_ : Nat) : Int) (mn (σ 206)) = true ∧ om (σ 206) n_ r_ < orF (σ 206) ((r_ : Nat) : Int) n_ 1 then r_ else ob (σ 206) n_ r_) := rfl
                          first | (rw [if_neg (by exact fun h9 => c65 h9.1)] at e3 e4) | (rw [if_pos (by exact ⟨c65, by omega⟩)] at e3 e4) | (rw [if_neg (by exact fun h9 => absurd h9.2 (by omega))] at e3 e4)
                          exact ih51 (r_ + 1) (rwj ((r_ : Nat) : Int) (mn (σ 206)) w_ (mn (σ 206))) _ _ _ (by omega) (by omega) (by first | exact hW | (have h2 := hW; rw [us_us] at h2; have h3 : wd D cy B (us (us (us σ 212 (σ 206)) 213 (rwj ((r_ : Nat) : Int) (mn (σ 206)) w_ (mn (σ 206)))) 206 ((us (us σ 212 (σ 206)) 213 (rwj ((r_ : Nat) : Int) (mn (σ 206)) w_ (mn (σ 206)))) 206)) _ := h2; rw [us_id] at h3; exact h3)) hS (lv_sub hl [0, 2, 1, 4, 5, 6] (by first | (rw [e3, e4]; rfl) | omega))
                        · refine lv_aload_n hx hb dX12_order_137 rfl (lv_at hl 4 rfl) ?_
                          refine wz_get hx hb hts hown hK hW 202 5 (by decide) e_202 rfl (by decide) inG12 w_820 rfl rfl dX12_order_138 ?_
                          refine zi_con hx hb dX12_order_141 ?_
                          refine wz_ald hx hb hK hW 206 1 (by decide) e_206 (by omega) (by omega) (by decide) dX12_order_142 ?_
                          refine zi_top (y := orF (σ 206) ((r_ : Nat) : Int) n_ 1) (by (show (orF (σ 206) ((r_ : Nat) : Int) m_) 1 = _; rw [hmz])) ?_
                          refine lv_goto (tgt := 147) hx hb dX12_order_143 (by decide) ?_
                          refine lv_istore_n (lv' := [(3, .int (iI (orF (σ 206) ((r_ : Nat) : Int) n_ 1))), (4, .int (iI (((r_ : Nat) : Int)))), (6, .int (iI (((m_ : Nat) : Int)))), (5, .int (iI (((r_ : Nat) : Int)))), (0, .ref (B + 202)), (1, .int (iI (((n_ : Nat) : Int)))), (2, .int (iI (k_)))]) hx hb dX12_order_147 rfl hl (by decide) rfl (fun ls hl => ?_)
                          refine lv_aload_n hx hb dX12_order_148 rfl (lv_at hl 4 rfl) ?_
                          refine k_vv (fr := 2) (lo := 45) (σ' := (us (us (us (us σ 212 (σ 206)) 213 (rwj ((r_ : Nat) : Int) (mn (σ 206)) w_ (mn (σ 206)))) 206 (orF (σ 206) ((r_ : Nat) : Int) m_)) 206 ((us (us (us σ 212 (σ 206)) 213 (rwj ((r_ : Nat) : Int) (mn (σ 206)) w_ (mn (σ 206)))) 206 (orF (σ 206) ((r_ : Nat) : Int) m_)) 212))) (As := []) (rest := []) hx hb hml hown hts hK hRf hRl hW hS (c_X12_takeBack l D cy B (us (us (us σ 212 (σ 206)) 213 (rwj ((r_ : Nat) : Int) (mn (σ 206)) w_ (mn (σ 206)))) 206 (orF (σ 206) ((r_ : Nat) : Int) m_))  ) vX12_takeBack ⟨w_1070, w_38⟩ w_1068 (by decide) e_202 rfl ⟨Nat.le_of_ble_eq_true rfl, Nat.le_of_ble_eq_true rfl⟩ hl.1 rfl (Nat.le_of_ble_eq_true rfl) ⟨Nat.zero_le _, Nat.zero_le _⟩ dX12_order_149 (fun H locs hW hS => ?_)
                          refine lv_iinc (v := iI (((r_ : Nat) : Int) + 1)) (lv' := [(5, .int (iI (((r_ : Nat) : Int) + 1))), (3, .int (iI (orF (σ 206) ((r_ : Nat) : Int) n_ 1))), (4, .int (iI (((r_ : Nat) : Int)))), (6, .int (iI (((m_ : Nat) : Int)))), (0, .ref (B + 202)), (1, .int (iI (((n_ : Nat) : Int)))), (2, .int (iI (k_)))]) hx hb dX12_order_152 hl (k := 3) rfl (iI_add _ _) (by decide) rfl (fun ls hl => ?_)
                          refine lv_goto (tgt := 51) hx hb dX12_order_155 (by decide) ?_
                          have e3 : om (σ 206) n_ (r_ + 1) = (if isO ((r_ : Nat) : Int) (mn (σ 206)) = true ∧ om (σ 206) n_ r_ < orF (σ 206) ((r_ : Nat) : Int) n_ 1 then orF (σ 206) ((r_ : Nat) : Int) n_ 1 else om (σ 206) n_ r_) := rfl
                          have e4 : ob (σ 206) n_ (r_ + 1) = (if isO ((r_ : Nat) : Int) (mn (σ 206)) = true ∧ om (σ 206) n_ r_ < orF (σ 206) ((r_ : Nat) : Int) n_ 1 then r_ else ob (σ 206) n_ r_) := rfl
                          first | (rw [if_neg (by exact fun h9 => c65 h9.1)] at e3 e4) | (rw [if_pos (by exact ⟨c65, by omega⟩)] at e3 e4) | (rw [if_neg (by exact fun h9 => absurd h9.2 (by omega))] at e3 e4)
                          exact ih51 (r_ + 1) (rwj ((r_ : Nat) : Int) (mn (σ 206)) w_ (mn (σ 206))) _ _ _ (by omega) (by omega) (by first | exact hW | (have h2 := hW; rw [us_us] at h2; have h3 : wd D cy B (us (us (us σ 212 (σ 206)) 213 (rwj ((r_ : Nat) : Int) (mn (σ 206)) w_ (mn (σ 206)))) 206 ((us (us σ 212 (σ 206)) 213 (rwj ((r_ : Nat) : Int) (mn (σ 206)) w_ (mn (σ 206)))) 206)) _ := h2; rw [us_id] at h3; exact h3)) hS (lv_sub hl [0, 2, 1, 4, 5, 6] (by first | (rw [e3, e4]; rfl) | omega))
                    · refine lv_aload_n hx hb dX12_order_77 rfl (lv_at hl 4 rfl) ?_
                      refine wz_get hx hb hts hown hK hW 202 5 (by decide) e_202 rfl (by decide) inG12 w_820 rfl rfl dX12_order_78 ?_
                      refine zi_bip hx hb dX12_order_81 (by decide) ?_
                      refine lv_aload_n hx hb dX12_order_83 rfl (lv_at hl 4 rfl) ?_
                      refine wz_get hx hb hts hown hK hW 202 21 (by decide) e_202 rfl (by decide) inG12 w_836 rfl rfl dX12_order_84 ?_
                      refine lv_iload hx hb dX12_order_87 (lv_at hl 0 rfl) ?_
                      refine lv_aload_n hx hb dX12_order_89 rfl (lv_at hl 4 rfl) ?_
                      refine wz_get hx hb hts hown hK hW 202 5 (by decide) e_202 rfl (by decide) inG12 w_820 rfl rfl dX12_order_90 ?_
                      refine zi_con hx hb dX12_order_93 ?_
                      refine wz_ald hx hb hK hW 206 4 (by decide) e_206 (by omega) (by omega) (by decide) dX12_order_94 ?_
                      refine zi_top (y := σ 206 4) (by exact hit2.2.2) ?_
                      refine zi_rem hx hb dX12_order_95 (by omega) (by omega) ?_
                      refine zi_top (y := ((m_ % mn (σ 206) : Nat) : Int)) (by (rw [← hmn]; rfl)) ?_
                      refine wz_ald hx hb hK hW 213 (m_ % mn (σ 206)) (by decide) e_213 (by omega) (by omega) (by decide) dX12_order_96 ?_
                      refine zi_top (y := (rs ((r_ : Nat) : Int) (mn (σ 206) - 1 - m_ % mn (σ 206)) % 4)) (by (show (rwj ((r_ : Nat) : Int) (mn (σ 206)) w_ (mn (σ 206))) (m_ % mn (σ 206)) = _; rw [rwj_at _ _ _ (by omega), if_pos (by omega)])) ?_
                      refine wz_ast (σ' := (up (us (us (us σ 212 (σ 206)) 213 (rwj ((r_ : Nat) : Int) (mn (σ 206)) w_ (mn (σ 206)))) 206 (orF (σ 206) ((r_ : Nat) : Int) m_)) 206 6 (rs ((r_ : Nat) : Int) (mn (σ 206) - 1 - m_ % mn (σ 206)) % 4))) hx hb hK hW hS 206 6 (by decide) e_206 (by omega) (by omega) (by decide) p_206 dX12_order_97 (fun H locs hW hS => ?_)
                      refine lv_aload_n hx hb dX12_order_98 rfl (lv_at hl 4 rfl) ?_
                      refine k_vv (fr := 2) (lo := 45) (σ' := (us (up (us (us (us σ 212 (σ 206)) 213 (rwj ((r_ : Nat) : Int) (mn (σ 206)) w_ (mn (σ 206)))) 206 (orF (σ 206) ((r_ : Nat) : Int) m_)) 206 6 (rs ((r_ : Nat) : Int) (mn (σ 206) - 1 - m_ % mn (σ 206)) % 4)) 206 (mon ((up (us (us (us σ 212 (σ 206)) 213 (rwj ((r_ : Nat) : Int) (mn (σ 206)) w_ (mn (σ 206)))) 206 (orF (σ 206) ((r_ : Nat) : Int) m_)) 206 6 (rs ((r_ : Nat) : Int) (mn (σ 206) - 1 - m_ % mn (σ 206)) % 4)) 206)))) (As := []) (rest := []) hx hb hml hown hts hK hRf hRl hW hS (c_X12_oneMonth l D cy B (up (us (us (us σ 212 (σ 206)) 213 (rwj ((r_ : Nat) : Int) (mn (σ 206)) w_ (mn (σ 206)))) 206 (orF (σ 206) ((r_ : Nat) : Int) m_)) 206 6 (rs ((r_ : Nat) : Int) (mn (σ 206) - 1 - m_ % mn (σ 206)) % 4))  (show okV ((up (us (us (us σ 212 (σ 206)) 213 (rwj ((r_ : Nat) : Int) (mn (σ 206)) w_ (mn (σ 206)))) 206 (orF (σ 206) ((r_ : Nat) : Int) m_)) 206 6 (rs ((r_ : Nat) : Int) (mn (σ 206) - 1 - m_ % mn (σ 206)) % 4)) 206) from (by show okV (uf (orF (σ 206) ((r_ : Nat) : Int) m_) 6 (rs ((r_ : Nat) : Int) (mn (σ 206) - 1 - m_ % mn (σ 206)) % 4)); exact okV_host hit2.1 (by rw [hit2.2.2]; omega)))) vX12_oneMonth ⟨w_1034, w_34⟩ w_1032 (by decide) e_202 rfl ⟨Nat.le_of_ble_eq_true rfl, Nat.le_of_ble_eq_true rfl⟩ hl.1 rfl (Nat.le_of_ble_eq_true rfl) ⟨Nat.zero_le _, Nat.zero_le _⟩ dX12_order_99 (fun H locs hW hS => ?_)
                      refine lv_iinc (v := iI (((m_ : Nat) : Int) + 1)) (lv' := [(6, .int (iI (((m_ : Nat) : Int) + 1))), (5, .int (iI (((r_ : Nat) : Int)))), (4, .int (iI (((ob (σ 206) n_ r_ : Nat) : Int)))), (3, .int (iI (om (σ 206) n_ r_))), (0, .ref (B + 202)), (1, .int (iI (((n_ : Nat) : Int)))), (2, .int (iI (k_)))]) hx hb dX12_order_102 hl (k := 0) rfl (iI_add _ _) (by decide) rfl (fun ls hl => ?_)
                      refine lv_goto (tgt := 71) hx hb dX12_order_105 (by decide) ?_
                      exact ih71 (m_ + 1) _ _ _ (by omega) (by omega) (by have h2 := hW; simp only [us_us] at h2; exact h2) hS (lv_sub hl [0, 1, 2, 3, 4, 5, 6] rfl)
                exact L71 _ 0 _ _ _ (Nat.lt_succ_self _) (by omega) (by show wd D cy B (us (us (us σ 212 (σ 206)) 213 (rwj ((r_ : Nat) : Int) (mn (σ 206)) w_ (mn (σ 206)))) 206 ((us (us σ 212 (σ 206)) 213 (rwj ((r_ : Nat) : Int) (mn (σ 206)) w_ (mn (σ 206)))) 206)) _; rw [us_id]; exact hW) hS (lv_sub hl [0, 1, 2, 3, 4, 5, 6] rfl)
        exact L51 _ 0 (σ 213) _ _ _ (Nat.lt_succ_self _) (by omega) (by show wd D cy B (us (us σ 212 (σ 206)) 213 ((us σ 212 (σ 206)) 213)) _; rw [us_id]; exact hW) hS (lv_sub hl [0, 1, 2, 3, 4, 5] rfl)
      · refine k_ldc hx hb hown hts (v := -1000001) (by decide) w_907 dX12_order_36 ?_
        exact hret _ _ _ _ _ _ dX12_order_38 hW hS ⟨by (repeat' split) <;> first | rfl | omega, ⟨σ 213, by (repeat' split) <;> first | rfl | omega⟩⟩
  · refine k_ldc hx hb hown hts (v := -1000002) (by decide) w_983 dX12_order_7 ?_
    exact hret _ _ _ _ _ _ dX12_order_9 hW hS ⟨by (repeat' split) <;> first | rfl | omega, ⟨σ 213, by (repeat' split) <;> first | rfl | omega⟩⟩
