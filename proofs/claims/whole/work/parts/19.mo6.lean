
set_option maxRecDepth 100000 in
set_option maxHeartbeats 4000000 in
theorem c_X12_part (l : Launch) (D : va_G) (cy : Nat → ClassId) (B : Nat) (σ : Sg)  (hok : σ 206 4 = 0 ∨ okV (σ 206)) (hith : σ 202 4 = if σ 206 4 = 0 then 0 else 1) (ha1 : 0 ≤ σ 202 18 ∧ σ 202 18 ≤ 24) : CI l yX12_part cX12_part 3 (some .int) 4 93 D cy B [.ref (B + 202)] σ (if σ 206 4 = 0 ∨ σ 206 7 = 1 then -1000002 else ((fg (shr (σ 206) (σ 206 3)) (mn (σ 206)) : Nat) : Int)) (if σ 206 4 = 0 ∨ σ 206 7 = 1 then σ else us (us (nS σ) 210 (cpy (mn (σ 206)) (shr (σ 206) (σ 206 3)) (σ 210))) 206 (uf (cpo 32 (mn (σ 206)) (shr (σ 206) (σ 206 3)) (σ 206)) 7 1)) := by
  refine CI_of (ty := .int) (by decide) (rfl) (Nat.le_of_ble_eq_true rfl) ?_
  intro p e R s m args below meth c Q hx hb hml hown hts hK hRf hRl hW hret ls hl
  have hown : s.vm.findClass "LovePartsModel" = some m.cls := hown
  have hS : va_S (AB B) s.heap s.heap [] := va_S.rf
  have hl : lv_has ls 3 [(0, .ref (B + 202))] := hl
  have hbi : -2147483648 ≤ σ 202 4 ∧ σ 202 4 < 2147483648 := by rw [hith]; split <;> omega
  have hit : (σ 202 4 = 0 ∧ σ 206 4 = 0) ∨ (σ 202 4 = 1 ∧ ¬ σ 206 4 = 0) := by rw [hith]; split <;> simp_all
  refine lv_aload_n hx hb dX12_part_0 rfl (lv_at hl 0 rfl) ?_
  refine wz_get hx hb hts hown hK hW 202 4 (by decide) e_202 rfl (by decide) inG12 w_819 rfl rfl dX12_part_1 ?_
  refine zi_eq (tgt := 18) hx hb dX12_part_4 (by decide) (by omega) (fun c4 => ?_) (fun c4 => ?_)
  · refine k_ldc hx hb hown hts (v := -1000002) (by decide) w_983 dX12_part_18 ?_
    exact hret _ _ _ _ _ _ dX12_part_20 hW hS ⟨by (repeat' split) <;> first | rfl | omega, by (repeat' split) <;> first | rfl | omega⟩
  · have hok := hok.resolve_left (by omega)
    obtain ⟨o4, o0, o1, o2, o3, o5, o6, o7, oH⟩ := id hok
    refine lv_aload_n hx hb dX12_part_7 rfl (lv_at hl 0 rfl) ?_
    refine wz_get hx hb hts hown hK hW 202 5 (by decide) e_202 rfl (by decide) inG12 w_820 rfl rfl dX12_part_8 ?_
    refine zi_bip hx hb dX12_part_11 (by decide) ?_
    refine wz_ald hx hb hK hW 206 7 (by decide) e_206 (by omega) (by omega) (by decide) dX12_part_13 ?_
    refine zi_con hx hb dX12_part_14 ?_
    refine zi_cne (tgt := 21) hx hb dX12_part_15 (by decide) (by omega) (by omega) (fun c15 => ?_) (fun c15 => ?_)
    · refine lv_aload_n hx hb dX12_part_21 rfl (lv_at hl 0 rfl) ?_
      refine k_vv (fr := 4) (lo := 93) (σ' := (nS σ)) (As := []) (rest := []) hx hb hml hown hts hK hRf hRl hW hS (c_X12_note l D cy B σ  (show 0 ≤ σ 202 18 ∧ σ 202 18 ≤ 24 from (by first | assumption | omega))) vX12_note ⟨w_996, w_28⟩ w_994 (by decide) e_202 rfl ⟨Nat.le_of_ble_eq_true rfl, Nat.le_of_ble_eq_true rfl⟩ hl.1 rfl (Nat.le_of_ble_eq_true rfl) ⟨Nat.zero_le _, Nat.zero_le _⟩ dX12_part_22 (fun H locs hW hS => ?_)
      refine lv_aload_n hx hb dX12_part_25 rfl (lv_at hl 0 rfl) ?_
      refine lv_aload_n hx hb dX12_part_26 rfl (lv_at hl 0 rfl) ?_
      refine wz_get hx hb hts hown hK hW 202 5 (by decide) e_202 rfl (by decide) inG12 w_820 rfl rfl dX12_part_27 ?_
      refine zi_con hx hb dX12_part_30 ?_
      refine wz_ald hx hb hK hW 206 3 (by decide) e_206 (by omega) (by omega) (by decide) dX12_part_31 ?_
      refine zi_top (y := σ 206 3) (by (first | rfl | (simp [us, uf, nS] <;> omega))) ?_
      refine k_vv (fr := 4) (lo := 93) (σ' := (us (nS σ) 210 (cpy (mn (σ 206)) (shr (σ 206) (σ 206 3)) (σ 210)))) (As := [.int (iI (σ 206 3))]) (rest := []) hx hb hml hown hts hK hRf hRl hW hS (c_X12_findShares l D cy B (nS σ) (σ 206 3) (show okV (σ 206) from (by first | assumption | omega)) (show 0 ≤ (σ 206 3) ∧ (σ 206 3) ≤ 3 from (by first | assumption | omega))) vX12_findShares ⟨w_1012, w_31⟩ w_1010 (by decide) e_202 rfl ⟨Nat.le_of_ble_eq_true rfl, Nat.le_of_ble_eq_true rfl⟩ hl.1 rfl (Nat.le_of_ble_eq_true rfl) ⟨Nat.zero_le _, Nat.zero_le _⟩ dX12_part_32 (fun H locs hW hS => ?_)
      refine zi_con hx hb dX12_part_35 ?_
      refine lv_istore_n (lv' := [(1, .int (iI (0))), (0, .ref (B + 202))]) hx hb dX12_part_36 rfl hl (by decide) rfl (fun ls hl => ?_)
      refine zi_con hx hb dX12_part_37 ?_
      refine lv_istore_n (lv' := [(2, .int (iI (0))), (1, .int (iI (0))), (0, .ref (B + 202))]) hx hb dX12_part_38 rfl hl (by decide) rfl (fun ls hl => ?_)
      have L39 : ∀ (n39 : Nat) (i_ : Nat) (H : Heap) (locs : List Loc) (ls : Array Slot), 4 - i_ < n39 → ((i_ : Int) ≤ σ 206 4) → wd D cy B (us (us (nS σ) 210 (cpy (mn (σ 206)) (shr (σ 206) (σ 206 3)) (σ 210))) 206 (cpo 32 i_ (shr (σ 206) (σ 206 3)) ((us (nS σ) 210 (cpy (mn (σ 206)) (shr (σ 206) (σ 206 3)) (σ 210))) 206))) H → va_S (AB B) s.heap H locs → lv_has ls 3 [(2, .int (iI (((i_ : Nat) : Int)))), (1, .int (iI (((fg (shr (σ 206) (σ 206 3)) i_ : Nat) : Int)))), (0, .ref (B + 202))] → W p l e R s m args below meth c H locs 0 0 Q (F0 m 39 ls []) := by
        intro n39
        induction n39 with
        | zero => intro i_ H locs ls hms; omega
        | succ n39 ih39 =>
          intro i_ H locs ls hms39 hi hW hS hl
          have hfg := fg_lt' (shr (σ 206) (σ 206 3)) i_
          refine lv_iload_n hx hb dX12_part_39 rfl (lv_at hl 0 rfl) ?_
          refine lv_aload_n hx hb dX12_part_40 rfl (lv_at hl 2 rfl) ?_
          refine wz_get hx hb hts hown hK hW 202 5 (by decide) e_202 rfl (by decide) inG12 w_820 rfl rfl dX12_part_41 ?_
          refine zi_con hx hb dX12_part_44 ?_
          refine wz_ald hx hb hK hW 206 4 (by decide) e_206 (by omega) (by omega) (by decide) dX12_part_45 ?_
          refine zi_top (y := σ 206 4) (by (show cpo 32 i_ (shr (σ 206) (σ 206 3)) (σ 206) 4 = σ 206 4; unfold cpo; rw [if_neg (by omega)])) ?_
          refine zi_cge (tgt := 91) hx hb dX12_part_46 (by decide) (by omega) (by omega) (fun c46 => ?_) (fun c46 => ?_)
          · have hi2 : mn (σ 206) = i_ := by unfold mn; omega
            refine lv_aload_n hx hb dX12_part_91 rfl (lv_at hl 2 rfl) ?_
            refine wz_get hx hb hts hown hK hW 202 5 (by decide) e_202 rfl (by decide) inG12 w_820 rfl rfl dX12_part_92 ?_
            refine zi_bip hx hb dX12_part_95 (by decide) ?_
            refine zi_con hx hb dX12_part_97 ?_
            refine wz_ast (σ' := (up (us (us (nS σ) 210 (cpy (mn (σ 206)) (shr (σ 206) (σ 206 3)) (σ 210))) 206 (cpo 32 i_ (shr (σ 206) (σ 206 3)) ((us (nS σ) 210 (cpy (mn (σ 206)) (shr (σ 206) (σ 206 3)) (σ 210))) 206))) 206 7 1)) hx hb hK hW hS 206 7 (by decide) e_206 (by omega) (by omega) (by decide) p_206 dX12_part_98 (fun H locs hW hS => ?_)
            refine lv_iload_n hx hb dX12_part_99 rfl (lv_at hl 1 rfl) ?_
            exact hret _ _ _ _ _ _ dX12_part_100 hW hS ⟨by rw [if_neg (by omega), hi2], by rw [if_neg (by omega), hi2]; unfold up; rw [us_us, us_eq]; rfl⟩
          · have hs1 := shr_bd hok (σ 206 3) (h := i_) (by omega)
            have hs2 := shr_bd hok (σ 206 3) (h := fg (shr (σ 206) (σ 206 3)) i_) (by omega)
            refine lv_aload_n hx hb dX12_part_49 rfl (lv_at hl 2 rfl) ?_
            refine wz_get hx hb hts hown hK hW 202 5 (by decide) e_202 rfl (by decide) inG12 w_820 rfl rfl dX12_part_50 ?_
            refine zi_bip hx hb dX12_part_53 (by decide) ?_
            refine lv_iload_n hx hb dX12_part_55 rfl (lv_at hl 0 rfl) ?_
            refine zi_add hx hb dX12_part_56 ?_
            refine lv_aload_n hx hb dX12_part_57 rfl (lv_at hl 2 rfl) ?_
            refine wz_get hx hb hts hown hK hW 202 16 (by decide) e_202 rfl (by decide) inG12 w_831 rfl rfl dX12_part_58 ?_
            refine lv_iload_n hx hb dX12_part_61 rfl (lv_at hl 0 rfl) ?_
            refine wz_ald hx hb hK hW 210 i_ (by decide) e_210 (by omega) (by omega) (by decide) dX12_part_62 ?_
            refine zi_top (y := shr (σ 206) (σ 206 3) i_) (by (show cpy (mn (σ 206)) (shr (σ 206) (σ 206 3)) (σ 210) i_ = _; unfold cpy; rw [if_pos (by unfold mn; omega)])) ?_
            refine wz_ast (σ' := (up (us (us (nS σ) 210 (cpy (mn (σ 206)) (shr (σ 206) (σ 206 3)) (σ 210))) 206 (cpo 32 i_ (shr (σ 206) (σ 206 3)) ((us (nS σ) 210 (cpy (mn (σ 206)) (shr (σ 206) (σ 206 3)) (σ 210))) 206))) 206 (32 + i_) (shr (σ 206) (σ 206 3) i_))) hx hb hK hW hS 206 (32 + i_) (by decide) e_206 (by omega) (by omega) (by decide) p_206 dX12_part_63 (fun H locs hW hS => ?_)
            refine lv_aload_n hx hb dX12_part_64 rfl (lv_at hl 2 rfl) ?_
            refine wz_get hx hb hts hown hK hW 202 16 (by decide) e_202 rfl (by decide) inG12 w_831 rfl rfl dX12_part_65 ?_
            refine lv_iload_n hx hb dX12_part_68 rfl (lv_at hl 0 rfl) ?_
            refine wz_ald hx hb hK hW 210 i_ (by decide) e_210 (by omega) (by omega) (by decide) dX12_part_69 ?_
            refine zi_top (y := shr (σ 206) (σ 206 3) i_) (by (show cpy (mn (σ 206)) (shr (σ 206) (σ 206 3)) (σ 210) i_ = _; unfold cpy; rw [if_pos (by unfold mn; omega)])) ?_
            refine lv_aload_n hx hb dX12_part_70 rfl (lv_at hl 2 rfl) ?_
            refine wz_get hx hb hts hown hK hW 202 16 (by decide) e_202 rfl (by decide) inG12 w_831 rfl rfl dX12_part_71 ?_
            refine lv_iload_n hx hb dX12_part_74 rfl (lv_at hl 1 rfl) ?_
            refine wz_ald hx hb hK hW 210 (fg (shr (σ 206) (σ 206 3)) i_) (by decide) e_210 (by omega) (by omega) (by decide) dX12_part_75 ?_
            refine zi_top (y := shr (σ 206) (σ 206 3) (fg (shr (σ 206) (σ 206 3)) i_)) (by (show cpy (mn (σ 206)) (shr (σ 206) (σ 206 3)) (σ 210) (fg (shr (σ 206) (σ 206 3)) i_) = _; unfold cpy; rw [if_pos (by unfold mn; omega)])) ?_
            refine zi_cle (tgt := 83) hx hb dX12_part_76 (by decide) (by omega) (by omega) (fun c76 => ?_) (fun c76 => ?_)
            · refine lv_iload_n hx hb dX12_part_83 rfl (lv_at hl 1 rfl) ?_
              refine lv_istore_n (lv' := [(1, .int (iI (((fg (shr (σ 206) (σ 206 3)) i_ : Nat) : Int)))), (2, .int (iI (((i_ : Nat) : Int)))), (0, .ref (B + 202))]) hx hb dX12_part_84 rfl hl (by decide) rfl (fun ls hl => ?_)
              refine lv_iinc (v := iI (((i_ : Nat) : Int) + 1)) (lv' := [(2, .int (iI (((i_ : Nat) : Int) + 1))), (1, .int (iI (((fg (shr (σ 206) (σ 206 3)) i_ : Nat) : Int)))), (0, .ref (B + 202))]) hx hb dX12_part_85 hl (k := 1) rfl (iI_add _ _) (by decide) rfl (fun ls hl => ?_)
              refine lv_goto (tgt := 39) hx hb dX12_part_88 (by decide) ?_
              have e3 : fg (shr (σ 206) (σ 206 3)) (i_ + 1) = (if (shr (σ 206) (σ 206 3)) (fg (shr (σ 206) (σ 206 3)) i_) < (shr (σ 206) (σ 206 3)) i_ then i_ else fg (shr (σ 206) (σ 206 3)) i_) := rfl
              first | (rw [if_pos (by omega)] at e3) | (rw [if_neg (by omega)] at e3)
              exact ih39 (i_ + 1) _ _ _ (by omega) (by omega) (by rw [← up_cpo]; exact hW) hS (lv_sub hl [0, 1, 2] (by rw [e3]; rfl))
            · refine lv_iload_n hx hb dX12_part_79 rfl (lv_at hl 0 rfl) ?_
              refine lv_goto (tgt := 84) hx hb dX12_part_80 (by decide) ?_
              refine lv_istore_n (lv' := [(1, .int (iI (((i_ : Nat) : Int)))), (2, .int (iI (((i_ : Nat) : Int)))), (0, .ref (B + 202))]) hx hb dX12_part_84 rfl hl (by decide) rfl (fun ls hl => ?_)
              refine lv_iinc (v := iI (((i_ : Nat) : Int) + 1)) (lv' := [(2, .int (iI (((i_ : Nat) : Int) + 1))), (1, .int (iI (((i_ : Nat) : Int)))), (0, .ref (B + 202))]) hx hb dX12_part_85 hl (k := 1) rfl (iI_add _ _) (by decide) rfl (fun ls hl => ?_)
              refine lv_goto (tgt := 39) hx hb dX12_part_88 (by decide) ?_
              have e3 : fg (shr (σ 206) (σ 206 3)) (i_ + 1) = (if (shr (σ 206) (σ 206 3)) (fg (shr (σ 206) (σ 206 3)) i_) < (shr (σ 206) (σ 206 3)) i_ then i_ else fg (shr (σ 206) (σ 206 3)) i_) := rfl
              first | (rw [if_pos (by omega)] at e3) | (rw [if_neg (by omega)] at e3)
              exact ih39 (i_ + 1) _ _ _ (by omega) (by omega) (by rw [← up_cpo]; exact hW) hS (lv_sub hl [0, 1, 2] (by rw [e3]; rfl))
      exact L39 _ 0 _ _ _ (Nat.lt_succ_self _) (by omega) (by rw [us_cpo0]; exact hW) hS (lv_sub hl [0, 1, 2] rfl)
    · refine k_ldc hx hb hown hts (v := -1000002) (by decide) w_983 dX12_part_18 ?_
      exact hret _ _ _ _ _ _ dX12_part_20 hW hS ⟨by (repeat' split) <;> first | rfl | omega, by (repeat' split) <;> first | rfl | omega⟩

set_option maxRecDepth 100000 in
set_option maxHeartbeats 4000000 in
theorem c_X12_months (l : Launch) (D : va_G) (cy : Nat → ClassId) (B : Nat) (σ : Sg) (z_ : Int) (r_z_ : -2147483648 ≤ z_ ∧ z_ < 2147483648) (hok : σ 206 4 = 0 ∨ okV (σ 206)) (hith : σ 202 4 = if σ 206 4 = 0 then 0 else 1) (ha1 : 0 ≤ σ 202 18 ∧ σ 202 18 ≤ 24) (hm : σ 206 5 ≤ 999) : CI l yX12_months cX12_months 3 (some .int) 2 45 D cy B [.ref (B + 202), .int (iI (z_))] σ (if σ 206 4 = 0 then -1000002 else if ¬ (1 ≤ z_ ∧ z_ ≤ 24) then -1000001 else if σ 206 7 = 0 then -1000002 else if 999 < σ 206 5 + z_ then -1000003 else itf mon z_.toNat (σ 206) 1) (if σ 206 4 = 0 then σ else if ¬ (1 ≤ z_ ∧ z_ ≤ 24) then σ else if σ 206 7 = 0 then σ else if 999 < σ 206 5 + z_ then σ else itr mS z_.toNat σ) := by
  refine CI_of (ty := .int) (by decide) (rfl) (Nat.le_of_ble_eq_true rfl) ?_
  intro p e R s m args below meth c Q hx hb hml hown hts hK hRf hRl hW hret ls hl
  have hown : s.vm.findClass "LovePartsModel" = some m.cls := hown
  have hS : va_S (AB B) s.heap s.heap [] := va_S.rf
  have hl : lv_has ls 3 [(0, .ref (B + 202)), (1, .int (iI (z_)))] := hl
  have hbi : -2147483648 ≤ σ 202 4 ∧ σ 202 4 < 2147483648 := by rw [hith]; split <;> omega
  have hit : (σ 202 4 = 0 ∧ σ 206 4 = 0) ∨ (σ 202 4 = 1 ∧ ¬ σ 206 4 = 0) := by rw [hith]; split <;> simp_all
  refine lv_aload_n hx hb dX12_months_0 rfl (lv_at hl 0 rfl) ?_
  refine wz_get hx hb hts hown hK hW 202 4 (by decide) e_202 rfl (by decide) inG12 w_819 rfl rfl dX12_months_1 ?_
  refine zi_ne (tgt := 10) hx hb dX12_months_4 (by decide) (by omega) (fun c4 => ?_) (fun c4 => ?_)
  · have hok := hok.resolve_left (by omega)
    obtain ⟨o4, o0, o1, o2, o3, o5, o6, o7, oH⟩ := id hok
    refine lv_iload_n hx hb dX12_months_10 rfl (lv_at hl 1 rfl) ?_
    refine zi_i2l hx hb dX12_months_11 (by omega) ?_
    refine zi_lcon (z := 1) hx hb dX12_months_12 (by decide) ?_
    refine k_ldc2 hx hb hown hts (v := 24) (by decide) w_1031 dX12_months_13 ?_
    refine k_si (fr := 2) (lo := 45) (r := (if 1 ≤ z_ ∧ z_ ≤ 24 then 1 else 0)) (As := [.long (lI (z_)), .long (lI (1)), .long (lI (24))]) (rest := []) hx hb hml hown hts hK hRf hRl hW hS (c_X12_in l D cy B σ z_ 1 24 (show -9223372036854775808 ≤ z_ ∧ z_ < 9223372036854775808 from (by first | assumption | omega)) (show -9223372036854775808 ≤ 1 ∧ 1 < 9223372036854775808 from (by first | assumption | omega)) (show -9223372036854775808 ≤ 24 ∧ 24 < 9223372036854775808 from (by first | assumption | omega))) vX12_in w_904 w_903 ⟨Nat.le_of_ble_eq_true rfl, Nat.le_of_ble_eq_true rfl⟩ hl.1 rfl (Nat.le_of_ble_eq_true rfl) ⟨Nat.zero_le _, Nat.zero_le _⟩ dX12_months_16 (fun H locs hW hS => ?_)
    refine zi_bne (tgt := 25) hx hb dX12_months_19 (by decide) (fun c19 => ?_) (fun c19 => ?_)
    · refine lv_aload_n hx hb dX12_months_25 rfl (lv_at hl 0 rfl) ?_
      refine wz_get hx hb hts hown hK hW 202 5 (by decide) e_202 rfl (by decide) inG12 w_820 rfl rfl dX12_months_26 ?_
      refine zi_bip hx hb dX12_months_29 (by decide) ?_
      refine wz_ald hx hb hK hW 206 7 (by decide) e_206 (by omega) (by omega) (by decide) dX12_months_31 ?_
      refine zi_ne (tgt := 38) hx hb dX12_months_32 (by decide) (by omega) (fun c32 => ?_) (fun c32 => ?_)
      · refine lv_aload_n hx hb dX12_months_38 rfl (lv_at hl 0 rfl) ?_
        refine wz_get hx hb hts hown hK hW 202 5 (by decide) e_202 rfl (by decide) inG12 w_820 rfl rfl dX12_months_39 ?_
        refine zi_con hx hb dX12_months_42 ?_
        refine wz_ald hx hb hK hW 206 5 (by decide) e_206 (by omega) (by omega) (by decide) dX12_months_43 ?_
        refine lv_iload_n hx hb dX12_months_44 rfl (lv_at hl 1 rfl) ?_
        refine zi_add hx hb dX12_months_45 ?_
        refine zi_sip hx hb dX12_months_46 (by decide) ?_
        refine zi_cle (tgt := 55) hx hb dX12_months_49 (by decide) (by omega) (by omega) (fun c49 => ?_) (fun c49 => ?_)
        · refine zi_con hx hb dX12_months_55 ?_
          refine lv_istore_n (lv' := [(2, .int (iI (0))), (0, .ref (B + 202)), (1, .int (iI (z_)))]) hx hb dX12_months_56 rfl hl (by decide) rfl (fun ls hl => ?_)
          have L57 : ∀ (n57 : Nat) (k_ : Nat) (H : Heap) (locs : List Loc) (ls : Array Slot), 24 - k_ < n57 → ((k_ : Int) ≤ z_) → wd D cy B (itr mS k_ σ) H → va_S (AB B) s.heap H locs → lv_has ls 3 [(2, .int (iI (((k_ : Nat) : Int)))), (0, .ref (B + 202)), (1, .int (iI (z_)))] → W p l e R s m args below meth c H locs 0 0 Q (F0 m 57 ls []) := by
            intro n57
            induction n57 with
            | zero => intro k_ H locs ls hms; omega
            | succ n57 ih57 =>
              intro k_ H locs ls hms57 hk hW hS hl
              have hmk := mS_ok ha1 hok (n := k_) (by omega)
              have hit2 := okV_it hok (n := k_) (by omega)
              refine lv_iload_n hx hb dX12_months_57 rfl (lv_at hl 0 rfl) ?_
              refine lv_iload_n hx hb dX12_months_58 rfl (lv_at hl 2 rfl) ?_
              refine zi_cge (tgt := 76) hx hb dX12_months_59 (by decide) (by omega) (by omega) (fun c59 => ?_) (fun c59 => ?_)
              · have hkz : z_.toNat = k_ := by omega
                refine lv_aload_n hx hb dX12_months_76 rfl (lv_at hl 1 rfl) ?_
                refine wz_get hx hb hts hown hK hW 202 5 (by decide) e_202 rfl (by decide) inG12 w_820 rfl rfl dX12_months_77 ?_
                refine zi_con hx hb dX12_months_80 ?_
                refine wz_ald hx hb hK hW 206 1 (by decide) e_206 (by omega) (by omega) (by decide) dX12_months_81 ?_
                refine zi_top (y := itf mon k_ (σ 206) 1) (by rw [hmk.1]) ?_
                subst hkz
                exact hret _ _ _ _ _ _ dX12_months_82 hW hS ⟨by (repeat' split) <;> first | rfl | omega, by (repeat' split) <;> first | rfl | omega⟩
              · refine lv_aload_n hx hb dX12_months_62 rfl (lv_at hl 1 rfl) ?_
                refine k_vv (fr := 2) (lo := 45) (σ' := (nS (itr mS k_ σ))) (As := []) (rest := []) hx hb hml hown hts hK hRf hRl hW hS (c_X12_note l D cy B (itr mS k_ σ)  (show 0 ≤ (itr mS k_ σ) 202 18 ∧ (itr mS k_ σ) 202 18 ≤ 24 from hmk.2)) vX12_note ⟨w_996, w_28⟩ w_994 (by decide) e_202 rfl ⟨Nat.le_of_ble_eq_true rfl, Nat.le_of_ble_eq_true rfl⟩ hl.1 rfl (Nat.le_of_ble_eq_true rfl) ⟨Nat.zero_le _, Nat.zero_le _⟩ dX12_months_63 (fun H locs hW hS => ?_)
                refine lv_aload_n hx hb dX12_months_66 rfl (lv_at hl 1 rfl) ?_
                refine k_vv (fr := 2) (lo := 45) (σ' := (us (nS (itr mS k_ σ)) 206 (mon ((nS (itr mS k_ σ)) 206)))) (As := []) (rest := []) hx hb hml hown hts hK hRf hRl hW hS (c_X12_oneMonth l D cy B (nS (itr mS k_ σ))  (show okV ((nS (itr mS k_ σ)) 206) from (by show okV (itr mS k_ σ 206); rw [hmk.1]; exact hit2.1))) vX12_oneMonth ⟨w_1034, w_34⟩ w_1032 (by decide) e_202 rfl ⟨Nat.le_of_ble_eq_true rfl, Nat.le_of_ble_eq_true rfl⟩ hl.1 rfl (Nat.le_of_ble_eq_true rfl) ⟨Nat.zero_le _, Nat.zero_le _⟩ dX12_months_67 (fun H locs hW hS => ?_)
                refine lv_iinc (v := iI (((k_ : Nat) : Int) + 1)) (lv' := [(2, .int (iI (((k_ : Nat) : Int) + 1))), (0, .ref (B + 202)), (1, .int (iI (z_)))]) hx hb dX12_months_70 hl (k := 0) rfl (iI_add _ _) (by decide) rfl (fun ls hl => ?_)
                refine lv_goto (tgt := 57) hx hb dX12_months_73 (by decide) ?_
                exact ih57 (k_ + 1) _ _ _ (by omega) (by omega) hW hS (lv_sub hl [0, 1, 2] rfl)
          exact L57 _ 0 _ _ _ (Nat.lt_succ_self _) (by omega) hW hS (lv_sub hl [0, 1, 2] rfl)
        · refine k_ldc hx hb hown hts (v := -1000003) (by decide) w_937 dX12_months_52 ?_
          exact hret _ _ _ _ _ _ dX12_months_54 hW hS ⟨by (repeat' split) <;> first | rfl | omega, by (repeat' split) <;> first | rfl | omega⟩
      · refine k_ldc hx hb hown hts (v := -1000002) (by decide) w_983 dX12_months_35 ?_
        exact hret _ _ _ _ _ _ dX12_months_37 hW hS ⟨by (repeat' split) <;> first | rfl | omega, by (repeat' split) <;> first | rfl | omega⟩
    · refine k_ldc hx hb hown hts (v := -1000001) (by decide) w_907 dX12_months_22 ?_
      exact hret _ _ _ _ _ _ dX12_months_24 hW hS ⟨by (repeat' split) <;> first | rfl | omega, by (repeat' split) <;> first | rfl | omega⟩
  · refine k_ldc hx hb hown hts (v := -1000002) (by decide) w_983 dX12_months_7 ?_
    exact hret _ _ _ _ _ _ dX12_months_9 hW hS ⟨by (repeat' split) <;> first | rfl | omega, by (repeat' split) <;> first | rfl | omega⟩

set_option maxRecDepth 100000 in
set_option maxHeartbeats 4000000 in
theorem c_X12_letter (l : Launch) (D : va_G) (cy : Nat → ClassId) (B : Nat) (σ : Sg) (f_ : Int) (t_ : Int) (r_f_ : -2147483648 ≤ f_ ∧ f_ < 2147483648) (r_t_ : -2147483648 ≤ t_ ∧ t_ < 2147483648) (hok : σ 206 4 = 0 ∨ okV (σ 206)) (ha1 : 0 ≤ σ 202 18 ∧ σ 202 18 ≤ 24) : CI l yX12_letter cX12_letter 4 (some .int) 2 46 D cy B [.ref (B + 202), .int (iI (f_)), .int (iI (t_))] σ (if ¬ (0 ≤ f_ ∧ f_ ≤ σ 206 4 - 1) ∨ ¬ (0 ≤ t_ ∧ t_ ≤ σ 206 4 - 1) ∨ f_ = t_ then -1000001 else alw (uf (σ 206) (44 + t_.toNat) (if σ 206 (44 + t_.toNat) = 0 ∨ alw (σ 206) f_.toNat + 1 < σ 206 (44 + t_.toNat) then alw (σ 206) f_.toNat + 1 else σ 206 (44 + t_.toNat))) t_.toNat) (if ¬ (0 ≤ f_ ∧ f_ ≤ σ 206 4 - 1) ∨ ¬ (0 ≤ t_ ∧ t_ ≤ σ 206 4 - 1) ∨ f_ = t_ then σ else up (nS σ) 206 (44 + t_.toNat) (if σ 206 (44 + t_.toNat) = 0 ∨ alw (σ 206) f_.toNat + 1 < σ 206 (44 + t_.toNat) then alw (σ 206) f_.toNat + 1 else σ 206 (44 + t_.toNat))) := by
  refine CI_of (ty := .int) (by decide) (rfl) (Nat.le_of_ble_eq_true rfl) ?_
  intro p e R s m args below meth c Q hx hb hml hown hts hK hRf hRl hW hret ls hl
  have hown : s.vm.findClass "LovePartsModel" = some m.cls := hown
  have hS : va_S (AB B) s.heap s.heap [] := va_S.rf
  have hl : lv_has ls 4 [(0, .ref (B + 202)), (1, .int (iI (f_))), (2, .int (iI (t_)))] := hl
  have f4 : 0 ≤ σ 206 4 ∧ σ 206 4 ≤ 4 := by rcases hok with h | h; (· omega); (· exact ⟨by have := h.1; omega, h.1.2⟩)
  refine lv_aload_n hx hb dX12_letter_0 rfl (lv_at hl 0 rfl) ?_
  refine lv_iload_n hx hb dX12_letter_1 rfl (lv_at hl 1 rfl) ?_
  refine k_vi (fr := 2) (lo := 46) (r := (if 0 ≤ f_ ∧ f_ ≤ σ 206 4 - 1 then 1 else 0)) (As := [.int (iI (f_))]) (rest := []) hx hb hml hown hts hK hRf hRl hW hS (c_X12_isHeir l D cy B σ f_ (show -2147483648 ≤ f_ ∧ f_ < 2147483648 from (by first | assumption | omega)) (show 0 ≤ σ 206 4 ∧ σ 206 4 ≤ 4 from (by first | assumption | omega))) vX12_isHeir ⟨w_990, w_27⟩ w_988 (by decide) e_202 rfl ⟨Nat.le_of_ble_eq_true rfl, Nat.le_of_ble_eq_true rfl⟩ hl.1 rfl (Nat.le_of_ble_eq_true rfl) ⟨Nat.zero_le _, Nat.zero_le _⟩ dX12_letter_2 (fun H locs hW hS => ?_)
  refine zi_beq (tgt := 21) hx hb dX12_letter_5 (by decide) (fun c5 => ?_) (fun c5 => ?_)
  · refine k_ldc hx hb hown hts (v := -1000001) (by decide) w_907 dX12_letter_21 ?_
    exact hret _ _ _ _ _ _ dX12_letter_23 hW hS ⟨by (repeat' split) <;> first | rfl | omega, by (repeat' split) <;> first | rfl | omega⟩
  · obtain ⟨n_, rfl⟩ : ∃ h : Nat, f_ = (h : Int) := ⟨f_.toNat, by omega⟩
    refine lv_aload_n hx hb dX12_letter_8 rfl (lv_at hl 0 rfl) ?_
    refine lv_iload_n hx hb dX12_letter_9 rfl (lv_at hl 2 rfl) ?_
    refine k_vi (fr := 2) (lo := 46) (r := (if 0 ≤ t_ ∧ t_ ≤ σ 206 4 - 1 then 1 else 0)) (As := [.int (iI (t_))]) (rest := []) hx hb hml hown hts hK hRf hRl hW hS (c_X12_isHeir l D cy B σ t_ (show -2147483648 ≤ t_ ∧ t_ < 2147483648 from (by first | assumption | omega)) (show 0 ≤ σ 206 4 ∧ σ 206 4 ≤ 4 from (by first | assumption | omega))) vX12_isHeir ⟨w_990, w_27⟩ w_988 (by decide) e_202 rfl ⟨Nat.le_of_ble_eq_true rfl, Nat.le_of_ble_eq_true rfl⟩ hl.1 rfl (Nat.le_of_ble_eq_true rfl) ⟨Nat.zero_le _, Nat.zero_le _⟩ dX12_letter_10 (fun H locs hW hS => ?_)
    refine zi_beq (tgt := 21) hx hb dX12_letter_13 (by decide) (fun c13 => ?_) (fun c13 => ?_)
    · refine k_ldc hx hb hown hts (v := -1000001) (by decide) w_907 dX12_letter_21 ?_
      exact hret _ _ _ _ _ _ dX12_letter_23 hW hS ⟨by (repeat' split) <;> first | rfl | omega, by (repeat' split) <;> first | rfl | omega⟩
    · obtain ⟨q_, rfl⟩ : ∃ h : Nat, t_ = (h : Int) := ⟨t_.toNat, by omega⟩
      have hok := hok.resolve_left (by omega)
      obtain ⟨o4, o0, o1, o2, o3, o5, o6, o7, oH⟩ := id hok
      refine lv_iload_n hx hb dX12_letter_16 rfl (lv_at hl 1 rfl) ?_
      refine lv_iload_n hx hb dX12_letter_17 rfl (lv_at hl 2 rfl) ?_
      refine zi_cne (tgt := 24) hx hb dX12_letter_18 (by decide) (by omega) (by omega) (fun c18 => ?_) (fun c18 => ?_)
      · refine lv_aload_n hx hb dX12_letter_24 rfl (lv_at hl 0 rfl) ?_
        refine k_vv (fr := 2) (lo := 46) (σ' := (nS σ)) (As := []) (rest := []) hx hb hml hown hts hK hRf hRl hW hS (c_X12_note l D cy B σ  (show 0 ≤ σ 202 18 ∧ σ 202 18 ≤ 24 from (by first | assumption | omega))) vX12_note ⟨w_996, w_28⟩ w_994 (by decide) e_202 rfl ⟨Nat.le_of_ble_eq_true rfl, Nat.le_of_ble_eq_true rfl⟩ hl.1 rfl (Nat.le_of_ble_eq_true rfl) ⟨Nat.zero_le _, Nat.zero_le _⟩ dX12_letter_25 (fun H locs hW hS => ?_)
        refine lv_aload_n hx hb dX12_letter_28 rfl (lv_at hl 0 rfl) ?_
        refine lv_iload_n hx hb dX12_letter_29 rfl (lv_at hl 1 rfl) ?_
        have hal := alw_bd hok (h := n_) (by omega)
        have hq := oH q_ (by omega)
        obtain ⟨k8, k12, k16, k20, k24, k28, k32, k36, k40, k44⟩ := id hq
        refine k_vi (fr := 2) (lo := 46) (r := alw (σ 206) n_) (As := [.int (iI (((n_ : Nat) : Int)))]) (rest := []) hx hb hml hown hts hK hRf hRl hW hS (c_X12_allowed l D cy B (nS σ) n_ (show okV (σ 206) from (by first | assumption | omega)) (show (n_ : Int) < σ 206 4 from (by first | assumption | omega))) vX12_allowed ⟨w_1038, w_35⟩ w_1036 (by decide) e_202 rfl ⟨Nat.le_of_ble_eq_true rfl, Nat.le_of_ble_eq_true rfl⟩ hl.1 rfl (Nat.le_of_ble_eq_true rfl) ⟨Nat.zero_le _, Nat.zero_le _⟩ dX12_letter_30 (fun H locs hW hS => ?_)
        refine zi_con hx hb dX12_letter_33 ?_
        refine zi_add hx hb dX12_letter_34 ?_
        refine lv_istore_n (lv' := [(3, .int (iI ((alw (σ 206) n_) + 1))), (0, .ref (B + 202)), (1, .int (iI (((n_ : Nat) : Int)))), (2, .int (iI (((q_ : Nat) : Int))))]) hx hb dX12_letter_35 rfl hl (by decide) rfl (fun ls hl => ?_)
        refine lv_aload_n hx hb dX12_letter_36 rfl (lv_at hl 1 rfl) ?_
        refine wz_get hx hb hts hown hK hW 202 5 (by decide) e_202 rfl (by decide) inG12 w_820 rfl rfl dX12_letter_37 ?_
        refine zi_bip hx hb dX12_letter_40 (by decide) ?_
        refine lv_iload_n hx hb dX12_letter_42 rfl (lv_at hl 3 rfl) ?_
        refine zi_add hx hb dX12_letter_43 ?_
        refine lv_aload_n hx hb dX12_letter_44 rfl (lv_at hl 1 rfl) ?_
        refine wz_get hx hb hts hown hK hW 202 5 (by decide) e_202 rfl (by decide) inG12 w_820 rfl rfl dX12_letter_45 ?_
        refine zi_bip hx hb dX12_letter_48 (by decide) ?_
        refine lv_iload_n hx hb dX12_letter_50 rfl (lv_at hl 3 rfl) ?_
        refine zi_add hx hb dX12_letter_51 ?_
        refine wz_ald hx hb hK hW 206 (44 + q_) (by decide) e_206 (by omega) (by omega) (by decide) dX12_letter_52 ?_
        refine zi_top (y := σ 206 (44 + q_)) (by (first | rfl | (simp [us, uf, nS] <;> omega))) ?_
        have J82 : ∀ (x_ : Int) (H : Heap) (locs : List Loc) (ls : Array Slot), (x_ = (if σ 206 (44 + q_) = 0 ∨ alw (σ 206) n_ + 1 < σ 206 (44 + q_) then alw (σ 206) n_ + 1 else σ 206 (44 + q_))) → wd D cy B (nS σ) H → va_S (AB B) s.heap H locs → lv_has ls 4 [(3, .int (iI ((alw (σ 206) n_) + 1))), (0, .ref (B + 202)), (1, .int (iI (((n_ : Nat) : Int)))), (2, .int (iI (((q_ : Nat) : Int))))] → W p l e R s m args below meth c H locs 0 0 Q (F0 m 82 ls [.int (iI (x_)), .int (iI (44 + ((q_ : Nat) : Int))), .ref (B + 206)]) := by
          intro x_ H locs ls hx2 hW hS hl
          have hxb : 0 ≤ x_ ∧ x_ ≤ 50 := by rw [hx2]; split <;> omega
          have hok3 := okV_let hok (h := q_) (by omega) hxb
          refine wz_ast (σ' := (up (nS σ) 206 (44 + q_) x_)) hx hb hK hW hS 206 (44 + q_) (by decide) e_206 (by omega) (by omega) (by decide) p_206 dX12_letter_82 (fun H locs hW hS => ?_)
          refine lv_aload_n hx hb dX12_letter_83 rfl (lv_at hl 1 rfl) ?_
          refine lv_iload_n hx hb dX12_letter_84 rfl (lv_at hl 3 rfl) ?_
          refine k_vi (fr := 2) (lo := 46) (r := alw ((up (nS σ) 206 (44 + q_) x_) 206) q_) (As := [.int (iI (((q_ : Nat) : Int)))]) (rest := []) hx hb hml hown hts hK hRf hRl hW hS (c_X12_allowed l D cy B (up (nS σ) 206 (44 + q_) x_) q_ (show okV ((up (nS σ) 206 (44 + q_) x_) 206) from hok3) (show (q_ : Int) < (up (nS σ) 206 (44 + q_) x_) 206 4 from (by show (q_ : Int) < uf (σ 206) (44 + q_) x_ 4; rw [uf_ne _ _ (by omega)]; omega))) vX12_allowed ⟨w_1038, w_35⟩ w_1036 (by decide) e_202 rfl ⟨Nat.le_of_ble_eq_true rfl, Nat.le_of_ble_eq_true rfl⟩ hl.1 rfl (Nat.le_of_ble_eq_true rfl) ⟨Nat.zero_le _, Nat.zero_le _⟩ dX12_letter_85 (fun H locs hW hS => ?_)
          exact hret _ _ _ _ _ _ dX12_letter_88 hW hS ⟨by rw [if_neg (by omega), Int.toNat_natCast, Int.toNat_natCast, ← hx2]; rfl, by rw [if_neg (by omega), Int.toNat_natCast, Int.toNat_natCast, ← hx2]⟩
        refine zi_eq (tgt := 69) hx hb dX12_letter_53 (by decide) (by omega) (fun c53 => ?_) (fun c53 => ?_)
        · refine lv_iload_n hx hb dX12_letter_69 rfl (lv_at hl 0 rfl) ?_
          refine lv_goto (tgt := 82) hx hb dX12_letter_70 (by decide) ?_
          exact J82 ((alw (σ 206) n_) + 1) _ _ _ (by split <;> omega) hW hS (lv_sub hl [0, 1, 2, 3] rfl)
        · refine lv_iload_n hx hb dX12_letter_56 rfl (lv_at hl 0 rfl) ?_
          refine lv_aload_n hx hb dX12_letter_57 rfl (lv_at hl 1 rfl) ?_
          refine wz_get hx hb hts hown hK hW 202 5 (by decide) e_202 rfl (by decide) inG12 w_820 rfl rfl dX12_letter_58 ?_
          refine zi_bip hx hb dX12_letter_61 (by decide) ?_
          refine lv_iload_n hx hb dX12_letter_63 rfl (lv_at hl 3 rfl) ?_
          refine zi_add hx hb dX12_letter_64 ?_
          refine wz_ald hx hb hK hW 206 (44 + q_) (by decide) e_206 (by omega) (by omega) (by decide) dX12_letter_65 ?_
          refine zi_top (y := σ 206 (44 + q_)) (by (first | rfl | (simp [us, uf, nS] <;> omega))) ?_
          refine zi_cge (tgt := 73) hx hb dX12_letter_66 (by decide) (by omega) (by omega) (fun c66 => ?_) (fun c66 => ?_)
          · refine lv_aload_n hx hb dX12_letter_73 rfl (lv_at hl 1 rfl) ?_
            refine wz_get hx hb hts hown hK hW 202 5 (by decide) e_202 rfl (by decide) inG12 w_820 rfl rfl dX12_letter_74 ?_
            refine zi_bip hx hb dX12_letter_77 (by decide) ?_
            refine lv_iload_n hx hb dX12_letter_79 rfl (lv_at hl 3 rfl) ?_
            refine zi_add hx hb dX12_letter_80 ?_
            refine wz_ald hx hb hK hW 206 (44 + q_) (by decide) e_206 (by omega) (by omega) (by decide) dX12_letter_81 ?_
            refine zi_top (y := σ 206 (44 + q_)) (by (first | rfl | (simp [us, uf, nS] <;> omega))) ?_
            exact J82 (σ 206 (44 + q_)) _ _ _ (by split <;> omega) hW hS (lv_sub hl [0, 1, 2, 3] rfl)
          · refine lv_iload_n hx hb dX12_letter_69 rfl (lv_at hl 0 rfl) ?_
            refine lv_goto (tgt := 82) hx hb dX12_letter_70 (by decide) ?_
            exact J82 ((alw (σ 206) n_) + 1) _ _ _ (by split <;> omega) hW hS (lv_sub hl [0, 1, 2, 3] rfl)
      · refine k_ldc hx hb hown hts (v := -1000001) (by decide) w_907 dX12_letter_21 ?_
        exact hret _ _ _ _ _ _ dX12_letter_23 hW hS ⟨by (repeat' split) <;> first | rfl | omega, by (repeat' split) <;> first | rfl | omega⟩

set_option maxRecDepth 100000 in
set_option maxHeartbeats 4000000 in
theorem c_X12_isKind (l : Launch) (D : va_G) (cy : Nat → ClassId) (B : Nat) (σ : Sg) (a_ : Int) (b_ : Int) (r_a_ : -2147483648 ≤ a_ ∧ a_ < 2147483648) (r_b_ : -2147483648 ≤ b_ ∧ b_ < 2147483648) : CI l yX12_isKind cX12_isKind 2 (some .boolean) 0 0 D cy B [.int (iI (a_)), .int (iI (b_))] σ ((if b_ = 0 ∨ a_ = b_ ∨ (b_ = 1 ∧ a_ < 4) ∨ (b_ = 4 ∧ a_ = 5) then 1 else 0)) (σ) := by
  refine CI_of (ty := .boolean) (by decide) (nb_ite) (Nat.le_of_ble_eq_true rfl) ?_
  intro p e R s m args below meth c Q hx hb hml hown hts hK hRf hRl hW hret ls hl
  have hown : s.vm.findClass "LovePartsModel" = some m.cls := hown
  have hS : va_S (AB B) s.heap s.heap [] := va_S.rf
  have hl : lv_has ls 2 [(0, .int (iI (a_))), (1, .int (iI (b_)))] := hl
  refine lv_iload_n hx hb dX12_isKind_0 rfl (lv_at hl 1 rfl) ?_
  refine zi_eq (tgt := 29) hx hb dX12_isKind_1 (by decide) (by omega) (fun c1 => ?_) (fun c1 => ?_)
  · refine zi_con hx hb dX12_isKind_29 ?_
    refine lv_goto (tgt := 34) hx hb dX12_isKind_30 (by decide) ?_
    exact hret _ _ _ _ _ _ dX12_isKind_34 hW hS ⟨by split <;> first | rfl | omega, rfl⟩
  · refine lv_iload_n hx hb dX12_isKind_4 rfl (lv_at hl 0 rfl) ?_
    refine lv_iload_n hx hb dX12_isKind_5 rfl (lv_at hl 1 rfl) ?_
    refine zi_ceq (tgt := 29) hx hb dX12_isKind_6 (by decide) (by omega) (by omega) (fun c6 => ?_) (fun c6 => ?_)
    · refine zi_con hx hb dX12_isKind_29 ?_
      refine lv_goto (tgt := 34) hx hb dX12_isKind_30 (by decide) ?_
      exact hret _ _ _ _ _ _ dX12_isKind_34 hW hS ⟨by split <;> first | rfl | omega, rfl⟩
    · refine lv_iload_n hx hb dX12_isKind_9 rfl (lv_at hl 1 rfl) ?_
      refine zi_con hx hb dX12_isKind_10 ?_
      refine zi_cne (tgt := 19) hx hb dX12_isKind_11 (by decide) (by omega) (by omega) (fun c11 => ?_) (fun c11 => ?_)
      · refine lv_iload_n hx hb dX12_isKind_19 rfl (lv_at hl 1 rfl) ?_
        refine zi_con hx hb dX12_isKind_20 ?_
        refine zi_cne (tgt := 33) hx hb dX12_isKind_21 (by decide) (by omega) (by omega) (fun c21 => ?_) (fun c21 => ?_)
        · refine zi_con hx hb dX12_isKind_33 ?_
          exact hret _ _ _ _ _ _ dX12_isKind_34 hW hS ⟨by split <;> first | rfl | omega, rfl⟩
        · refine lv_iload_n hx hb dX12_isKind_24 rfl (lv_at hl 0 rfl) ?_
          refine zi_con hx hb dX12_isKind_25 ?_
          refine zi_cne (tgt := 33) hx hb dX12_isKind_26 (by decide) (by omega) (by omega) (fun c26 => ?_) (fun c26 => ?_)
          · refine zi_con hx hb dX12_isKind_33 ?_
            exact hret _ _ _ _ _ _ dX12_isKind_34 hW hS ⟨by split <;> first | rfl | omega, rfl⟩
          · refine zi_con hx hb dX12_isKind_29 ?_
            refine lv_goto (tgt := 34) hx hb dX12_isKind_30 (by decide) ?_
            exact hret _ _ _ _ _ _ dX12_isKind_34 hW hS ⟨by split <;> first | rfl | omega, rfl⟩
      · refine lv_iload_n hx hb dX12_isKind_14 rfl (lv_at hl 0 rfl) ?_
        refine zi_con hx hb dX12_isKind_15 ?_
        refine zi_clt (tgt := 29) hx hb dX12_isKind_16 (by decide) (by omega) (by omega) (fun c16 => ?_) (fun c16 => ?_)
        · refine zi_con hx hb dX12_isKind_29 ?_
          refine lv_goto (tgt := 34) hx hb dX12_isKind_30 (by decide) ?_
          exact hret _ _ _ _ _ _ dX12_isKind_34 hW hS ⟨by split <;> first | rfl | omega, rfl⟩
        · refine lv_iload_n hx hb dX12_isKind_19 rfl (lv_at hl 1 rfl) ?_
          refine zi_con hx hb dX12_isKind_20 ?_
          refine zi_cne (tgt := 33) hx hb dX12_isKind_21 (by decide) (by omega) (by omega) (fun c21 => ?_) (fun c21 => ?_)
          · refine zi_con hx hb dX12_isKind_33 ?_
            exact hret _ _ _ _ _ _ dX12_isKind_34 hW hS ⟨by split <;> first | rfl | omega, rfl⟩
          · refine lv_iload_n hx hb dX12_isKind_24 rfl (lv_at hl 0 rfl) ?_
            refine zi_con hx hb dX12_isKind_25 ?_
            refine zi_cne (tgt := 33) hx hb dX12_isKind_26 (by decide) (by omega) (by omega) (fun c26 => ?_) (fun c26 => ?_)
            · refine zi_con hx hb dX12_isKind_33 ?_
              exact hret _ _ _ _ _ _ dX12_isKind_34 hW hS ⟨by split <;> first | rfl | omega, rfl⟩
            · refine zi_con hx hb dX12_isKind_29 ?_
              refine lv_goto (tgt := 34) hx hb dX12_isKind_30 (by decide) ?_
              exact hret _ _ _ _ _ _ dX12_isKind_34 hW hS ⟨by split <;> first | rfl | omega, rfl⟩

set_option maxRecDepth 100000 in
set_option maxHeartbeats 4000000 in
theorem c_X12_as (l : Launch) (D : va_G) (cy : Nat → ClassId) (B : Nat) (σ : Sg) (h_ : Int) (b_ : Int) (r_h_ : -2147483648 ≤ h_ ∧ h_ < 2147483648) (r_b_ : -2147483648 ≤ b_ ∧ b_ < 2147483648) (hok : σ 206 4 = 0 ∨ okV (σ 206)) : CI l yX12_as cX12_as 3 (some .int) 2 46 D cy B [.ref (B + 202), .int (iI (h_)), .int (iI (b_))] σ (if ¬ (0 ≤ h_ ∧ h_ ≤ σ 206 4 - 1) ∨ ¬ (0 ≤ b_ ∧ b_ ≤ 5) then -1000001 else if b_ = 0 ∨ σ 206 (8 + h_.toNat) = b_ ∨ (b_ = 1 ∧ σ 206 (8 + h_.toNat) < 4) ∨ (b_ = 4 ∧ σ 206 (8 + h_.toNat) = 5) then h_ else -1000013) (if ¬ (0 ≤ h_ ∧ h_ ≤ σ 206 4 - 1) ∨ ¬ (0 ≤ b_ ∧ b_ ≤ 5) then σ else if b_ = 0 ∨ σ 206 (8 + h_.toNat) = b_ ∨ (b_ = 1 ∧ σ 206 (8 + h_.toNat) < 4) ∨ (b_ = 4 ∧ σ 206 (8 + h_.toNat) = 5) then up σ 202 3 0 else up σ 202 3 3) := by
  refine CI_of (ty := .int) (by decide) (rfl) (Nat.le_of_ble_eq_true rfl) ?_
  intro p e R s m args below meth c Q hx hb hml hown hts hK hRf hRl hW hret ls hl
  have hown : s.vm.findClass "LovePartsModel" = some m.cls := hown
  have hS : va_S (AB B) s.heap s.heap [] := va_S.rf
  have hl : lv_has ls 3 [(0, .ref (B + 202)), (1, .int (iI (h_))), (2, .int (iI (b_)))] := hl
  have f4 : 0 ≤ σ 206 4 ∧ σ 206 4 ≤ 4 := by rcases hok with h | h; (· omega); (· exact ⟨by have := h.1; omega, h.1.2⟩)
  refine lv_aload_n hx hb dX12_as_0 rfl (lv_at hl 0 rfl) ?_
  refine lv_iload_n hx hb dX12_as_1 rfl (lv_at hl 1 rfl) ?_
  refine k_vi (fr := 2) (lo := 46) (r := (if 0 ≤ h_ ∧ h_ ≤ σ 206 4 - 1 then 1 else 0)) (As := [.int (iI (h_))]) (rest := []) hx hb hml hown hts hK hRf hRl hW hS (c_X12_isHeir l D cy B σ h_ (show -2147483648 ≤ h_ ∧ h_ < 2147483648 from (by first | assumption | omega)) (show 0 ≤ σ 206 4 ∧ σ 206 4 ≤ 4 from (by first | assumption | omega))) vX12_isHeir ⟨w_990, w_27⟩ w_988 (by decide) e_202 rfl ⟨Nat.le_of_ble_eq_true rfl, Nat.le_of_ble_eq_true rfl⟩ hl.1 rfl (Nat.le_of_ble_eq_true rfl) ⟨Nat.zero_le _, Nat.zero_le _⟩ dX12_as_2 (fun H locs hW hS => ?_)
  refine zi_beq (tgt := 20) hx hb dX12_as_5 (by decide) (fun c5 => ?_) (fun c5 => ?_)
  · refine k_ldc hx hb hown hts (v := -1000001) (by decide) w_907 dX12_as_20 ?_
    exact hret _ _ _ _ _ _ dX12_as_22 hW hS ⟨by (try simp only [Int.toNat_natCast]); (repeat' split) <;> first | rfl | omega, by (try simp only [Int.toNat_natCast]); (repeat' split) <;> first | rfl | omega⟩
  · obtain ⟨n_, rfl⟩ : ∃ h : Nat, h_ = (h : Int) := ⟨h_.toNat, by omega⟩
    have hok := hok.resolve_left (by omega)
    obtain ⟨o4, o0, o1, o2, o3, o5, o6, o7, oH⟩ := id hok
    have hq := (oH n_ (by omega)).1
    refine lv_iload_n hx hb dX12_as_8 rfl (lv_at hl 2 rfl) ?_
    refine zi_i2l hx hb dX12_as_9 (by omega) ?_
    refine zi_lcon (z := 0) hx hb dX12_as_10 (by decide) ?_
    refine k_ldc2 hx hb hown hts (v := 5) (by decide) w_1161 dX12_as_11 ?_
    refine k_si (fr := 2) (lo := 46) (r := (if 0 ≤ b_ ∧ b_ ≤ 5 then 1 else 0)) (As := [.long (lI (b_)), .long (lI (0)), .long (lI (5))]) (rest := []) hx hb hml hown hts hK hRf hRl hW hS (c_X12_in l D cy B σ b_ 0 5 (show -9223372036854775808 ≤ b_ ∧ b_ < 9223372036854775808 from (by first | assumption | omega)) (show -9223372036854775808 ≤ 0 ∧ 0 < 9223372036854775808 from (by first | assumption | omega)) (show -9223372036854775808 ≤ 5 ∧ 5 < 9223372036854775808 from (by first | assumption | omega))) vX12_in w_904 w_903 ⟨Nat.le_of_ble_eq_true rfl, Nat.le_of_ble_eq_true rfl⟩ hl.1 rfl (Nat.le_of_ble_eq_true rfl) ⟨Nat.zero_le _, Nat.zero_le _⟩ dX12_as_14 (fun H locs hW hS => ?_)
    refine zi_bne (tgt := 23) hx hb dX12_as_17 (by decide) (fun c17 => ?_) (fun c17 => ?_)
    · refine lv_aload_n hx hb dX12_as_23 rfl (lv_at hl 0 rfl) ?_
      refine wz_get hx hb hts hown hK hW 202 5 (by decide) e_202 rfl (by decide) inG12 w_820 rfl rfl dX12_as_24 ?_
      refine zi_bip hx hb dX12_as_27 (by decide) ?_
      refine lv_iload_n hx hb dX12_as_29 rfl (lv_at hl 1 rfl) ?_
      refine zi_add hx hb dX12_as_30 ?_
      refine wz_ald hx hb hK hW 206 (8 + n_) (by decide) e_206 (by omega) (by omega) (by decide) dX12_as_31 ?_
      refine lv_iload_n hx hb dX12_as_32 rfl (lv_at hl 2 rfl) ?_
      refine k_si (fr := 2) (lo := 46) (r := (if b_ = 0 ∨ (σ 206 (8 + n_)) = b_ ∨ (b_ = 1 ∧ (σ 206 (8 + n_)) < 4) ∨ (b_ = 4 ∧ (σ 206 (8 + n_)) = 5) then 1 else 0)) (As := [.int (iI (σ 206 (8 + n_))), .int (iI (b_))]) (rest := []) hx hb hml hown hts hK hRf hRl hW hS (c_X12_isKind l D cy B σ (σ 206 (8 + n_)) b_ (show -2147483648 ≤ (σ 206 (8 + n_)) ∧ (σ 206 (8 + n_)) < 2147483648 from (by first | assumption | omega)) (show -2147483648 ≤ b_ ∧ b_ < 2147483648 from (by first | assumption | omega))) vX12_isKind w_1163 w_1162 ⟨Nat.le_of_ble_eq_true rfl, Nat.le_of_ble_eq_true rfl⟩ hl.1 rfl (Nat.le_of_ble_eq_true rfl) ⟨Nat.zero_le _, Nat.zero_le _⟩ dX12_as_33 (fun H locs hW hS => ?_)
      refine zi_beq (tgt := 47) hx hb dX12_as_36 (by decide) (fun c36 => ?_) (fun c36 => ?_)
      · refine lv_aload_n hx hb dX12_as_47 rfl (lv_at hl 0 rfl) ?_
        refine zi_con hx hb dX12_as_48 ?_
        refine k_vi (fr := 2) (lo := 46) (r := -1000010 - 3) (σ' := (up σ 202 3 3)) (As := [.int (iI (3))]) (rest := []) hx hb hml hown hts hK hRf hRl hW hS (c_X12_find l D cy B σ 3 ) vX12_find ⟨w_910, w_18⟩ w_908 (by decide) e_202 rfl ⟨Nat.le_of_ble_eq_true rfl, Nat.le_of_ble_eq_true rfl⟩ hl.1 rfl (Nat.le_of_ble_eq_true rfl) ⟨Nat.zero_le _, Nat.zero_le _⟩ dX12_as_49 (fun H locs hW hS => ?_)
        exact hret _ _ _ _ _ _ dX12_as_52 hW hS ⟨by (try simp only [Int.toNat_natCast]); (repeat' split) <;> first | rfl | omega, by (try simp only [Int.toNat_natCast]); (repeat' split) <;> first | rfl | omega⟩
      · refine lv_aload_n hx hb dX12_as_39 rfl (lv_at hl 0 rfl) ?_
        refine lv_iload_n hx hb dX12_as_40 rfl (lv_at hl 1 rfl) ?_
        refine k_vi (fr := 2) (lo := 46) (r := ((n_ : Nat) : Int)) (σ' := (up σ 202 3 0)) (As := [.int (iI (((n_ : Nat) : Int)))]) (rest := []) hx hb hml hown hts hK hRf hRl hW hS (c_X12_well l D cy B σ ((n_ : Nat) : Int) ) vX12_well ⟨w_915, w_19⟩ w_913 (by decide) e_202 rfl ⟨Nat.le_of_ble_eq_true rfl, Nat.le_of_ble_eq_true rfl⟩ hl.1 rfl (Nat.le_of_ble_eq_true rfl) ⟨Nat.zero_le _, Nat.zero_le _⟩ dX12_as_41 (fun H locs hW hS => ?_)
        refine lv_goto (tgt := 52) hx hb dX12_as_44 (by decide) ?_
        exact hret _ _ _ _ _ _ dX12_as_52 hW hS ⟨by (try simp only [Int.toNat_natCast]); (repeat' split) <;> first | rfl | omega, by (try simp only [Int.toNat_natCast]); (repeat' split) <;> first | rfl | omega⟩
    · refine k_ldc hx hb hown hts (v := -1000001) (by decide) w_907 dX12_as_20 ?_
      exact hret _ _ _ _ _ _ dX12_as_22 hW hS ⟨by (try simp only [Int.toNat_natCast]); (repeat' split) <;> first | rfl | omega, by (try simp only [Int.toNat_natCast]); (repeat' split) <;> first | rfl | omega⟩
