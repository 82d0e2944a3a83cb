
set_option maxRecDepth 100000 in
set_option maxHeartbeats 4000000 in
theorem c_X12_image (l : Launch) (D : va_G) (cy : Nat → ClassId) (B : Nat) (σ : Sg) (z_ : Int) (r_z_ : -2147483648 ≤ z_ ∧ z_ < 2147483648) (hok : σ 206 4 = 0 ∨ okV (σ 206)) (hith : σ 202 4 = if σ 206 4 = 0 then 0 else 1) : CI l yX12_image cX12_image 3 (some .int) 1 25 D cy B [.ref (B + 202), .int (iI (z_))] σ (if ¬ (0 ≤ z_ ∧ z_ ≤ 1) then -1000001 else if σ 206 4 = 0 then -1000002 else 1) (if ¬ (0 ≤ z_ ∧ z_ ≤ 1) then σ else if σ 206 4 = 0 then σ else up (us σ 215 (cpo (48 * z_.toNat) 48 (σ 206) (σ 215))) 214 z_.toNat 1) := by
  refine CI_of (ty := .int) (by decide) (rfl) (Nat.le_of_ble_eq_true rfl) ?_
  intro p e R s m args below meth c Q hx hb hml hown hts hK hRf hRl hW hret ls hl
  have hown : s.vm.findClass "LovePartsModel" = some m.cls := hown
  have hS : va_S (AB B) s.heap s.heap [] := va_S.rf
  have hl : lv_has ls 3 [(0, .ref (B + 202)), (1, .int (iI (z_)))] := hl
  have hbi : -2147483648 ≤ σ 202 4 ∧ σ 202 4 < 2147483648 := by rw [hith]; split <;> omega
  have hit : (σ 202 4 = 0 ∧ σ 206 4 = 0) ∨ (σ 202 4 = 1 ∧ ¬ σ 206 4 = 0) := by rw [hith]; split <;> simp_all
  refine lv_iload_n hx hb dX12_image_0 rfl (lv_at hl 1 rfl) ?_
  refine zi_i2l hx hb dX12_image_1 (by omega) ?_
  refine zi_lcon (z := 0) hx hb dX12_image_2 (by decide) ?_
  refine zi_lcon (z := 1) hx hb dX12_image_3 (by decide) ?_
  refine k_si (fr := 1) (lo := 25) (r := (if 0 ≤ z_ ∧ z_ ≤ 1 then 1 else 0)) (As := [.long (lI (z_)), .long (lI (0)), .long (lI (1))]) (rest := []) hx hb hml hown hts hK hRf hRl hW hS (c_X12_in l D cy B σ z_ 0 1 (show -9223372036854775808 ≤ z_ ∧ z_ < 9223372036854775808 from (by first | assumption | omega | (simp only [tpL_25, List.length_cons, List.length_nil]; omega))) (show -9223372036854775808 ≤ 0 ∧ 0 < 9223372036854775808 from (by first | assumption | omega | (simp only [tpL_25, List.length_cons, List.length_nil]; omega))) (show -9223372036854775808 ≤ 1 ∧ 1 < 9223372036854775808 from (by first | assumption | omega | (simp only [tpL_25, List.length_cons, List.length_nil]; omega)))) vX12_in w_904 w_903 ⟨Nat.le_of_ble_eq_true rfl, Nat.le_of_ble_eq_true rfl⟩ hl.1 rfl (Nat.le_of_ble_eq_true rfl) ⟨Nat.zero_le _, Nat.zero_le _⟩ dX12_image_4 (fun H locs hW hS => ?_)
  refine zi_bne (tgt := 13) hx hb dX12_image_7 (by decide) (fun c7 => ?_) (fun c7 => ?_)
  · refine lv_aload_n hx hb dX12_image_13 rfl (lv_at hl 0 rfl) ?_
    refine wz_get hx hb hts hown hK hW 202 4 (by decide) e_202 rfl (by decide) inG12 w_819 rfl rfl dX12_image_14 ?_
    refine zi_ne (tgt := 23) hx hb dX12_image_17 (by decide) (by omega) (fun c17 => ?_) (fun c17 => ?_)
    · refine zi_con hx hb dX12_image_23 ?_
      refine lv_istore_n (lv' := [(2, .int (iI (0))), (0, .ref (B + 202)), (1, .int (iI (z_)))]) hx hb dX12_image_24 rfl hl (by decide) rfl (fun ls hl => ?_)
      have L25 : ∀ (n25 : Nat) (k_ : Nat) (H : Heap) (locs : List Loc) (ls : Array Slot), 48 - k_ < n25 → (k_ ≤ 48) → wd D cy B (us σ 215 (cpo (48 * z_.toNat) k_ (σ 206) (σ 215))) H → va_S (AB B) s.heap H locs → lv_has ls 3 [(2, .int (iI (((k_ : Nat) : Int)))), (0, .ref (B + 202)), (1, .int (iI (z_)))] → W p l e R s m args below meth c H locs 0 0 Q (F0 m 25 ls []) := by
        intro n25
        induction n25 with
        | zero => intro k_ H locs ls hms; omega
        | succ n25 ih25 =>
          intro k_ H locs ls hms25 hk hW hS hl
          refine lv_iload_n hx hb dX12_image_25 rfl (lv_at hl 0 rfl) ?_
          refine zi_bip hx hb dX12_image_26 (by decide) ?_
          refine zi_cge (tgt := 54) hx hb dX12_image_28 (by decide) (by omega) (by omega) (fun c28 => ?_) (fun c28 => ?_)
          · have hk4 : k_ = 48 := by omega
            refine lv_aload_n hx hb dX12_image_54 rfl (lv_at hl 1 rfl) ?_
            refine wz_get hx hb hts hown hK hW 202 22 (by decide) e_202 rfl (by decide) inG12 w_837 rfl rfl dX12_image_55 ?_
            refine lv_iload_n hx hb dX12_image_58 rfl (lv_at hl 2 rfl) ?_
            refine zi_con hx hb dX12_image_59 ?_
            refine wz_astb (σ' := (up (us σ 215 (cpo (48 * z_.toNat) k_ (σ 206) (σ 215))) 214 z_.toNat 1)) hx hb hK hW hS 214 z_.toNat (by decide) e_214 (by omega) (by omega) (by decide) p_214 dX12_image_60 (fun H locs hW hS => ?_)
            refine zi_con hx hb dX12_image_61 ?_
            subst hk4
            exact hret _ _ _ _ _ _ dX12_image_62 hW hS ⟨by (try simp only [Int.toNat_natCast]); (repeat' split) <;> first | rfl | omega, by (try simp only [Int.toNat_natCast]); (repeat' split) <;> first | rfl | omega⟩
          · refine lv_aload_n hx hb dX12_image_31 rfl (lv_at hl 1 rfl) ?_
            refine wz_get hx hb hts hown hK hW 202 23 (by decide) e_202 rfl (by decide) inG12 w_838 rfl rfl dX12_image_32 ?_
            refine zi_bip hx hb dX12_image_35 (by decide) ?_
            refine lv_iload_n hx hb dX12_image_37 rfl (lv_at hl 2 rfl) ?_
            refine zi_mul hx hb dX12_image_38 ?_
            refine lv_iload_n hx hb dX12_image_39 rfl (lv_at hl 0 rfl) ?_
            refine zi_add hx hb dX12_image_40 ?_
            refine lv_aload_n hx hb dX12_image_41 rfl (lv_at hl 1 rfl) ?_
            refine wz_get hx hb hts hown hK hW 202 5 (by decide) e_202 rfl (by decide) inG12 w_820 rfl rfl dX12_image_42 ?_
            refine lv_iload_n hx hb dX12_image_45 rfl (lv_at hl 0 rfl) ?_
            refine wz_ald hx hb hK hW 206 k_ (by decide) e_206 (by omega) (by omega) (by decide) dX12_image_46 ?_
            refine zi_top (y := σ 206 k_) (by (first | rfl | (simp [us, uf, nS] <;> omega))) ?_
            refine wz_ast (σ' := (up (us σ 215 (cpo (48 * z_.toNat) k_ (σ 206) (σ 215))) 215 ((48 * z_.toNat) + k_) (σ 206 k_))) hx hb hK hW hS 215 ((48 * z_.toNat) + k_) (by decide) e_215 (by omega) (by omega) (by decide) p_215 dX12_image_47 (fun H locs hW hS => ?_)
            refine lv_iinc (v := iI (((k_ : Nat) : Int) + 1)) (lv' := [(2, .int (iI (((k_ : Nat) : Int) + 1))), (0, .ref (B + 202)), (1, .int (iI (z_)))]) hx hb dX12_image_48 hl (k := 0) rfl (iI_add _ _) (by decide) rfl (fun ls hl => ?_)
            refine lv_goto (tgt := 25) hx hb dX12_image_51 (by decide) ?_
            exact ih25 (k_ + 1) _ _ _ (by omega) (by omega) (by rw [← up_cpo]; exact hW) hS (lv_sub hl [0, 1, 2] rfl)
      exact L25 _ 0 _ _ _ (Nat.lt_succ_self _) (by omega) (by rw [us_cpo0]; exact hW) hS (lv_sub hl [0, 1, 2] rfl)
    · refine k_ldc hx hb hown hts (v := -1000002) (by decide) w_983 dX12_image_20 ?_
      exact hret _ _ _ _ _ _ dX12_image_22 hW hS ⟨by (try simp only [Int.toNat_natCast]); (repeat' split) <;> first | rfl | omega, by (try simp only [Int.toNat_natCast]); (repeat' split) <;> first | rfl | omega⟩
  · refine k_ldc hx hb hown hts (v := -1000001) (by decide) w_907 dX12_image_10 ?_
    exact hret _ _ _ _ _ _ dX12_image_12 hW hS ⟨by (try simp only [Int.toNat_natCast]); (repeat' split) <;> first | rfl | omega, by (try simp only [Int.toNat_natCast]); (repeat' split) <;> first | rfl | omega⟩

set_option maxRecDepth 100000 in
set_option maxHeartbeats 4000000 in
theorem c_X12_restore (l : Launch) (D : va_G) (cy : Nat → ClassId) (B : Nat) (σ : Sg) (z_ : Int) (r_z_ : -2147483648 ≤ z_ ∧ z_ < 2147483648) (hkb : ∀ k, k < 2 → σ 214 k = 0 ∨ σ 214 k = 1) : CI l yX12_restore cX12_restore 3 (some .int) 1 25 D cy B [.ref (B + 202), .int (iI (z_))] σ (if ¬ (0 ≤ z_ ∧ z_ ≤ 1) then -1000001 else if σ 214 z_.toNat = 0 then -1000002 else 1) (if ¬ (0 ≤ z_ ∧ z_ ≤ 1) then σ else if σ 214 z_.toNat = 0 then σ else up (us σ 206 (fun j => σ 215 (48 * z_.toNat + j))) 202 18 0) := by
  refine CI_of (ty := .int) (by decide) (rfl) (Nat.le_of_ble_eq_true rfl) ?_
  intro p e R s m args below meth c Q hx hb hml hown hts hK hRf hRl hW hret ls hl
  have hown : s.vm.findClass "LovePartsModel" = some m.cls := hown
  have hS : va_S (AB B) s.heap s.heap [] := va_S.rf
  have hl : lv_has ls 3 [(0, .ref (B + 202)), (1, .int (iI (z_)))] := hl
  refine lv_iload_n hx hb dX12_restore_0 rfl (lv_at hl 1 rfl) ?_
  refine zi_i2l hx hb dX12_restore_1 (by omega) ?_
  refine zi_lcon (z := 0) hx hb dX12_restore_2 (by decide) ?_
  refine zi_lcon (z := 1) hx hb dX12_restore_3 (by decide) ?_
  refine k_si (fr := 1) (lo := 25) (r := (if 0 ≤ z_ ∧ z_ ≤ 1 then 1 else 0)) (As := [.long (lI (z_)), .long (lI (0)), .long (lI (1))]) (rest := []) hx hb hml hown hts hK hRf hRl hW hS (c_X12_in l D cy B σ z_ 0 1 (show -9223372036854775808 ≤ z_ ∧ z_ < 9223372036854775808 from (by first | assumption | omega | (simp only [tpL_25, List.length_cons, List.length_nil]; omega))) (show -9223372036854775808 ≤ 0 ∧ 0 < 9223372036854775808 from (by first | assumption | omega | (simp only [tpL_25, List.length_cons, List.length_nil]; omega))) (show -9223372036854775808 ≤ 1 ∧ 1 < 9223372036854775808 from (by first | assumption | omega | (simp only [tpL_25, List.length_cons, List.length_nil]; omega)))) vX12_in w_904 w_903 ⟨Nat.le_of_ble_eq_true rfl, Nat.le_of_ble_eq_true rfl⟩ hl.1 rfl (Nat.le_of_ble_eq_true rfl) ⟨Nat.zero_le _, Nat.zero_le _⟩ dX12_restore_4 (fun H locs hW hS => ?_)
  refine zi_bne (tgt := 13) hx hb dX12_restore_7 (by decide) (fun c7 => ?_) (fun c7 => ?_)
  · have hkz := hkb z_.toNat (by omega)
    refine lv_aload_n hx hb dX12_restore_13 rfl (lv_at hl 0 rfl) ?_
    refine wz_get hx hb hts hown hK hW 202 22 (by decide) e_202 rfl (by decide) inG12 w_837 rfl rfl dX12_restore_14 ?_
    refine lv_iload_n hx hb dX12_restore_17 rfl (lv_at hl 1 rfl) ?_
    refine wz_aldb hx hb hK hW 214 z_.toNat (by decide) e_214 (by omega) (by omega) (by decide) dX12_restore_18 ?_
    refine zi_ne (tgt := 25) hx hb dX12_restore_19 (by decide) (by omega) (fun c19 => ?_) (fun c19 => ?_)
    · refine zi_con hx hb dX12_restore_25 ?_
      refine lv_istore_n (lv' := [(2, .int (iI (0))), (0, .ref (B + 202)), (1, .int (iI (z_)))]) hx hb dX12_restore_26 rfl hl (by decide) rfl (fun ls hl => ?_)
      have L27 : ∀ (n27 : Nat) (k_ : Nat) (H : Heap) (locs : List Loc) (ls : Array Slot), 48 - k_ < n27 → (k_ ≤ 48) → wd D cy B (us σ 206 (cpy k_ (fun j => σ 215 (48 * z_.toNat + j)) (σ 206))) H → va_S (AB B) s.heap H locs → lv_has ls 3 [(2, .int (iI (((k_ : Nat) : Int)))), (0, .ref (B + 202)), (1, .int (iI (z_)))] → W p l e R s m args below meth c H locs 0 0 Q (F0 m 27 ls []) := by
        intro n27
        induction n27 with
        | zero => intro k_ H locs ls hms; omega
        | succ n27 ih27 =>
          intro k_ H locs ls hms27 hk hW hS hl
          refine lv_iload_n hx hb dX12_restore_27 rfl (lv_at hl 0 rfl) ?_
          refine zi_bip hx hb dX12_restore_28 (by decide) ?_
          refine zi_cge (tgt := 56) hx hb dX12_restore_30 (by decide) (by omega) (by omega) (fun c30 => ?_) (fun c30 => ?_)
          · have hW := wd_arr (c := 206) (n := 48) (g := fun j => σ 215 (48 * z_.toNat + j)) (by omega) (fun _ => rfl) (fun j hj => by unfold cpy; rw [if_pos (by omega)]) hW
            refine lv_aload_n hx hb dX12_restore_56 rfl (lv_at hl 1 rfl) ?_
            refine zi_con hx hb dX12_restore_57 ?_
            refine wz_put (σ' := (up (us σ 206 (fun j => σ 215 (48 * z_.toNat + j))) 202 18 0)) (ty := .int) hx hb hts hown hK hW hS 202 18 tyX12 (by decide) e_202 rfl (by decide) inG12 tyX12_ok nmX12 w_833 ⟨rfl, rfl, Nat.le_of_ble_eq_true rfl⟩ (by decide +kernel) ⟨rfl, rfl⟩ p_202_18 dX12_restore_58 (fun H locs hW hS => ?_)
            refine zi_con hx hb dX12_restore_61 ?_
            exact hret _ _ _ _ _ _ dX12_restore_62 hW hS ⟨by (try simp only [Int.toNat_natCast]); (repeat' split) <;> first | rfl | omega, by (try simp only [Int.toNat_natCast]); (repeat' split) <;> first | rfl | omega⟩
          · refine lv_aload_n hx hb dX12_restore_33 rfl (lv_at hl 1 rfl) ?_
            refine wz_get hx hb hts hown hK hW 202 5 (by decide) e_202 rfl (by decide) inG12 w_820 rfl rfl dX12_restore_34 ?_
            refine lv_iload_n hx hb dX12_restore_37 rfl (lv_at hl 0 rfl) ?_
            refine lv_aload_n hx hb dX12_restore_38 rfl (lv_at hl 1 rfl) ?_
            refine wz_get hx hb hts hown hK hW 202 23 (by decide) e_202 rfl (by decide) inG12 w_838 rfl rfl dX12_restore_39 ?_
            refine zi_bip hx hb dX12_restore_42 (by decide) ?_
            refine lv_iload_n hx hb dX12_restore_44 rfl (lv_at hl 2 rfl) ?_
            refine zi_mul hx hb dX12_restore_45 ?_
            refine lv_iload_n hx hb dX12_restore_46 rfl (lv_at hl 0 rfl) ?_
            refine zi_add hx hb dX12_restore_47 ?_
            refine wz_ald hx hb hK hW 215 ((48 * z_.toNat) + k_) (by decide) e_215 (by omega) (by omega) (by decide) dX12_restore_48 ?_
            refine zi_top (y := σ 215 ((48 * z_.toNat) + k_)) (by (first | rfl | (simp [us, uf, nS] <;> omega))) ?_
            refine wz_ast (σ' := (up (us σ 206 (cpy k_ (fun j => σ 215 (48 * z_.toNat + j)) (σ 206))) 206 k_ (σ 215 ((48 * z_.toNat) + k_)))) hx hb hK hW hS 206 k_ (by decide) e_206 (by omega) (by omega) (by decide) p_206 dX12_restore_49 (fun H locs hW hS => ?_)
            refine lv_iinc (v := iI (((k_ : Nat) : Int) + 1)) (lv' := [(2, .int (iI (((k_ : Nat) : Int) + 1))), (0, .ref (B + 202)), (1, .int (iI (z_)))]) hx hb dX12_restore_50 hl (k := 0) rfl (iI_add _ _) (by decide) rfl (fun ls hl => ?_)
            refine lv_goto (tgt := 27) hx hb dX12_restore_53 (by decide) ?_
            exact ih27 (k_ + 1) _ _ _ (by omega) (by omega) (by rw [← up_cpy]; exact hW) hS (lv_sub hl [0, 1, 2] rfl)
      exact L27 _ 0 _ _ _ (Nat.lt_succ_self _) (by omega) (by rw [us_cpy0]; exact hW) hS (lv_sub hl [0, 1, 2] rfl)
    · refine k_ldc hx hb hown hts (v := -1000002) (by decide) w_983 dX12_restore_22 ?_
      exact hret _ _ _ _ _ _ dX12_restore_24 hW hS ⟨by (try simp only [Int.toNat_natCast]); (repeat' split) <;> first | rfl | omega, by (try simp only [Int.toNat_natCast]); (repeat' split) <;> first | rfl | omega⟩
  · refine k_ldc hx hb hown hts (v := -1000001) (by decide) w_907 dX12_restore_10 ?_
    exact hret _ _ _ _ _ _ dX12_restore_12 hW hS ⟨by (try simp only [Int.toNat_natCast]); (repeat' split) <;> first | rfl | omega, by (try simp only [Int.toNat_natCast]); (repeat' split) <;> first | rfl | omega⟩

set_option maxRecDepth 100000 in
set_option maxHeartbeats 4000000 in
theorem c_X12_lacks (l : Launch) (D : va_G) (cy : Nat → ClassId) (B : Nat) (σ : Sg) (t_ : Nat) (i_ : Int) (n_ : Int) (r_i_ : -2147483648 ≤ i_ ∧ i_ < 2147483648) (ht : t_ < 8) (hn : 0 ≤ n_ ∧ n_ ≤ 12) (hsz : ∀ k, k < 8 → -1 ≤ σ 204 k ∧ σ 204 k ≤ 40) : CI l yX12_lacks cX12_lacks 4 (some .int) 1 25 D cy B [.ref (B + 202), .int (iI (((t_ : Nat) : Int))), .int (iI (i_)), .int (iI (n_))] σ (if σ 204 t_ < 0 then -1000011 else if 0 ≤ i_ ∧ i_ ≤ σ 204 t_ - n_ then 0 else -1000012) (if σ 204 t_ < 0 then up σ 202 3 1 else if 0 ≤ i_ ∧ i_ ≤ σ 204 t_ - n_ then σ else up σ 202 3 2) := by
  refine CI_of (ty := .int) (by decide) (rfl) (Nat.le_of_ble_eq_true rfl) ?_
  intro p e R s m args below meth c Q hx hb hml hown hts hK hRf hRl hW hret ls hl
  have hown : s.vm.findClass "LovePartsModel" = some m.cls := hown
  have hS : va_S (AB B) s.heap s.heap [] := va_S.rf
  have hl : lv_has ls 4 [(0, .ref (B + 202)), (1, .int (iI (((t_ : Nat) : Int)))), (2, .int (iI (i_))), (3, .int (iI (n_)))] := hl
  have hz := hsz t_ ht
  refine lv_aload_n hx hb dX12_lacks_0 rfl (lv_at hl 0 rfl) ?_
  refine wz_get hx hb hts hown hK hW 202 1 (by decide) e_202 rfl (by decide) inG12 w_816 rfl rfl dX12_lacks_1 ?_
  refine lv_iload_n hx hb dX12_lacks_4 rfl (lv_at hl 1 rfl) ?_
  refine wz_ald hx hb hK hW 204 t_ (by decide) e_204 (by omega) (by omega) (by decide) dX12_lacks_5 ?_
  refine zi_ge (tgt := 15) hx hb dX12_lacks_6 (by decide) (by omega) (fun c6 => ?_) (fun c6 => ?_)
  · refine lv_iload_n hx hb dX12_lacks_15 rfl (lv_at hl 2 rfl) ?_
    refine zi_i2l hx hb dX12_lacks_16 (by omega) ?_
    refine zi_lcon (z := 0) hx hb dX12_lacks_17 (by decide) ?_
    refine lv_aload_n hx hb dX12_lacks_18 rfl (lv_at hl 0 rfl) ?_
    refine wz_get hx hb hts hown hK hW 202 1 (by decide) e_202 rfl (by decide) inG12 w_816 rfl rfl dX12_lacks_19 ?_
    refine lv_iload_n hx hb dX12_lacks_22 rfl (lv_at hl 1 rfl) ?_
    refine wz_ald hx hb hK hW 204 t_ (by decide) e_204 (by omega) (by omega) (by decide) dX12_lacks_23 ?_
    refine lv_iload_n hx hb dX12_lacks_24 rfl (lv_at hl 3 rfl) ?_
    refine zi_sub hx hb dX12_lacks_25 ?_
    refine zi_i2l hx hb dX12_lacks_26 (by omega) ?_
    refine k_si (fr := 1) (lo := 25) (r := (if 0 ≤ i_ ∧ i_ ≤ ((σ 204 t_) - n_) then 1 else 0)) (As := [.long (lI (i_)), .long (lI (0)), .long (lI ((σ 204 t_) - n_))]) (rest := []) hx hb hml hown hts hK hRf hRl hW hS (c_X12_in l D cy B σ i_ 0 ((σ 204 t_) - n_) (show -9223372036854775808 ≤ i_ ∧ i_ < 9223372036854775808 from (by first | assumption | omega | (simp only [tpL_25, List.length_cons, List.length_nil]; omega))) (show -9223372036854775808 ≤ 0 ∧ 0 < 9223372036854775808 from (by first | assumption | omega | (simp only [tpL_25, List.length_cons, List.length_nil]; omega))) (show -9223372036854775808 ≤ ((σ 204 t_) - n_) ∧ ((σ 204 t_) - n_) < 9223372036854775808 from (by first | assumption | omega | (simp only [tpL_25, List.length_cons, List.length_nil]; omega)))) vX12_in w_904 w_903 ⟨Nat.le_of_ble_eq_true rfl, Nat.le_of_ble_eq_true rfl⟩ hl.1 rfl (Nat.le_of_ble_eq_true rfl) ⟨Nat.zero_le _, Nat.zero_le _⟩ dX12_lacks_27 (fun H locs hW hS => ?_)
    refine zi_beq (tgt := 37) hx hb dX12_lacks_30 (by decide) (fun c30 => ?_) (fun c30 => ?_)
    · refine lv_aload_n hx hb dX12_lacks_37 rfl (lv_at hl 0 rfl) ?_
      refine zi_con hx hb dX12_lacks_38 ?_
      refine k_vi (fr := 1) (lo := 25) (r := -1000010 - 2) (σ' := (up σ 202 3 2)) (As := [.int (iI (2))]) (rest := []) hx hb hml hown hts hK hRf hRl hW hS (c_X12_find l D cy B σ 2 ) vX12_find ⟨w_910, w_18⟩ w_908 (by decide) e_202 rfl ⟨Nat.le_of_ble_eq_true rfl, Nat.le_of_ble_eq_true rfl⟩ hl.1 rfl (Nat.le_of_ble_eq_true rfl) ⟨Nat.zero_le _, Nat.zero_le _⟩ dX12_lacks_39 (fun H locs hW hS => ?_)
      exact hret _ _ _ _ _ _ dX12_lacks_42 hW hS ⟨by (repeat' split) <;> first | rfl | omega, by (repeat' split) <;> first | rfl | omega⟩
    · refine zi_con hx hb dX12_lacks_33 ?_
      refine lv_goto (tgt := 42) hx hb dX12_lacks_34 (by decide) ?_
      exact hret _ _ _ _ _ _ dX12_lacks_42 hW hS ⟨by (repeat' split) <;> first | rfl | omega, by (repeat' split) <;> first | rfl | omega⟩
  · refine lv_aload_n hx hb dX12_lacks_9 rfl (lv_at hl 0 rfl) ?_
    refine zi_con hx hb dX12_lacks_10 ?_
    refine k_vi (fr := 1) (lo := 25) (r := -1000010 - 1) (σ' := (up σ 202 3 1)) (As := [.int (iI (1))]) (rest := []) hx hb hml hown hts hK hRf hRl hW hS (c_X12_find l D cy B σ 1 ) vX12_find ⟨w_910, w_18⟩ w_908 (by decide) e_202 rfl ⟨Nat.le_of_ble_eq_true rfl, Nat.le_of_ble_eq_true rfl⟩ hl.1 rfl (Nat.le_of_ble_eq_true rfl) ⟨Nat.zero_le _, Nat.zero_le _⟩ dX12_lacks_11 (fun H locs hW hS => ?_)
    exact hret _ _ _ _ _ _ dX12_lacks_14 hW hS ⟨by (repeat' split) <;> first | rfl | omega, by (repeat' split) <;> first | rfl | omega⟩

set_option maxRecDepth 100000 in
set_option maxHeartbeats 4000000 in
theorem c_X12_isSo (l : Launch) (D : va_G) (cy : Nat → ClassId) (B : Nat) (σ : Sg) (t_ : Nat) (b_ : Int) (hok : okV (σ 206)) (hb2 : 0 ≤ b_ ∧ b_ ≤ 3) (ht : (t_ : Int) + σ 206 4 ≤ 320) (hit5 : ∀ k, k < 320 → -2147483648 ≤ σ 205 k ∧ σ 205 k < 2147483648) : CI l yX12_isSo cX12_isSo 5 (some .boolean) 4 93 D cy B [.ref (B + 202), .int (iI (((t_ : Nat) : Int))), .int (iI (b_))] σ ((if al (fun h => σ 205 (t_ + h)) (shr (σ 206) b_) (mn (σ 206)) = true then 1 else 0)) (us σ 210 (cpy (mn (σ 206)) (shr (σ 206) b_) (σ 210))) := by
  refine CI_of (ty := .boolean) (by decide) (nb_ite) (Nat.le_of_ble_eq_true rfl) ?_
  intro p e R s m args below meth c Q hx hb hml hown hts hK hRf hRl hW hret ls hl
  have hown : s.vm.findClass "LovePartsModel" = some m.cls := hown
  have hS : va_S (AB B) s.heap s.heap [] := va_S.rf
  have hl : lv_has ls 5 [(0, .ref (B + 202)), (1, .int (iI (((t_ : Nat) : Int)))), (2, .int (iI (b_)))] := hl
  obtain ⟨o4, o0, o1, o2, o3, o5, o6, o7, oH⟩ := id hok
  refine lv_aload_n hx hb dX12_isSo_0 rfl (lv_at hl 0 rfl) ?_
  refine lv_iload_n hx hb dX12_isSo_1 rfl (lv_at hl 2 rfl) ?_
  refine k_vv (fr := 4) (lo := 93) (σ' := (us σ 210 (cpy (mn (σ 206)) (shr (σ 206) b_) (σ 210)))) (As := [.int (iI (b_))]) (rest := []) hx hb hml hown hts hK hRf hRl hW hS (c_X12_findShares l D cy B σ b_ (show okV (σ 206) from (by first | assumption | omega | (simp only [tpL_25, List.length_cons, List.length_nil]; omega))) (show 0 ≤ b_ ∧ b_ ≤ 3 from (by first | assumption | omega | (simp only [tpL_25, List.length_cons, List.length_nil]; omega)))) vX12_findShares ⟨w_1012, w_31⟩ w_1010 (by decide) e_202 rfl ⟨Nat.le_of_ble_eq_true rfl, Nat.le_of_ble_eq_true rfl⟩ hl.1 rfl (Nat.le_of_ble_eq_true rfl) ⟨Nat.zero_le _, Nat.zero_le _⟩ dX12_isSo_2 (fun H locs hW hS => ?_)
  refine zi_con hx hb dX12_isSo_5 ?_
  refine lv_istore_n (lv' := [(3, .int (iI (1))), (0, .ref (B + 202)), (1, .int (iI (((t_ : Nat) : Int)))), (2, .int (iI (b_)))]) hx hb dX12_isSo_6 rfl hl (by decide) rfl (fun ls hl => ?_)
  refine zi_con hx hb dX12_isSo_7 ?_
  refine lv_istore (lv' := [(4, .int (iI (0))), (3, .int (iI (1))), (0, .ref (B + 202)), (1, .int (iI (((t_ : Nat) : Int)))), (2, .int (iI (b_)))]) hx hb dX12_isSo_8 hl (by decide) rfl (fun ls hl => ?_)
  have L10 : ∀ (n10 : Nat) (h_ : Nat) (H : Heap) (locs : List Loc) (ls : Array Slot), 4 - h_ < n10 → ((h_ : Int) ≤ σ 206 4) → wd D cy B (us σ 210 (cpy (mn (σ 206)) (shr (σ 206) b_) (σ 210))) H → va_S (AB B) s.heap H locs → lv_has ls 5 [(4, .int (iI (((h_ : Nat) : Int)))), (3, .int (iI (if al (fun h => σ 205 (t_ + h)) (shr (σ 206) b_) h_ = true then 1 else 0))), (0, .ref (B + 202)), (1, .int (iI (((t_ : Nat) : Int)))), (2, .int (iI (b_)))] → W p l e R s m args below meth c H locs 0 0 Q (F0 m 10 ls []) := by
    intro n10
    induction n10 with
    | zero => intro h_ H locs ls hms; omega
    | succ n10 ih10 =>
      intro h_ H locs ls hms10 hh hW hS hl
      refine lv_iload hx hb dX12_isSo_10 (lv_at hl 0 rfl) ?_
      refine lv_aload_n hx hb dX12_isSo_12 rfl (lv_at hl 2 rfl) ?_
      refine wz_get hx hb hts hown hK hW 202 5 (by decide) e_202 rfl (by decide) inG12 w_820 rfl rfl dX12_isSo_13 ?_
      refine zi_con hx hb dX12_isSo_16 ?_
      refine wz_ald hx hb hK hW 206 4 (by decide) e_206 (by omega) (by omega) (by decide) dX12_isSo_17 ?_
      refine zi_top (y := σ 206 4) (by (first | rfl | (simp [us, uf, nS] <;> omega))) ?_
      refine zi_cge (tgt := 56) hx hb dX12_isSo_18 (by decide) (by omega) (by omega) (fun c18 => ?_) (fun c18 => ?_)
      · have hmn : mn (σ 206) = h_ := by unfold mn; omega
        refine lv_iload_n hx hb dX12_isSo_56 rfl (lv_at hl 1 rfl) ?_
        exact hret _ _ _ _ _ _ dX12_isSo_57 hW hS ⟨by rw [hmn], rfl⟩
      · have hi5 := hit5 (t_ + h_) (by omega)
        have hsb := shr_bd hok b_ (h := h_) (by omega)
        refine lv_iload_n hx hb dX12_isSo_21 rfl (lv_at hl 1 rfl) ?_
        refine zi_beq (tgt := 48) hx hb dX12_isSo_22 (by decide) (fun c22 => ?_) (fun c22 => ?_)
        · refine zi_con hx hb dX12_isSo_48 ?_
          refine lv_istore_n (lv' := [(3, .int (iI (0))), (4, .int (iI (((h_ : Nat) : Int)))), (0, .ref (B + 202)), (1, .int (iI (((t_ : Nat) : Int)))), (2, .int (iI (b_)))]) hx hb dX12_isSo_49 rfl hl (by decide) rfl (fun ls hl => ?_)
          refine lv_iinc (v := iI (((h_ : Nat) : Int) + 1)) (lv' := [(4, .int (iI (((h_ : Nat) : Int) + 1))), (3, .int (iI (0))), (0, .ref (B + 202)), (1, .int (iI (((t_ : Nat) : Int)))), (2, .int (iI (b_)))]) hx hb dX12_isSo_50 hl (k := 1) rfl (iI_add _ _) (by decide) rfl (fun ls hl => ?_)
          refine lv_goto (tgt := 10) hx hb dX12_isSo_53 (by decide) ?_
          exact ih10 (h_ + 1) _ _ _ (by omega) (by omega) hW hS (lv_sub hl [0, 1, 2, 3, 4] (by first | (rw [if_pos (al_t (g := (fun h => σ 205 (t_ + h))) (g' := (shr (σ 206) b_)) (n := h_) (by assumption) (by omega))]; rfl) | (rw [if_neg (al_f1 (g := (fun h => σ 205 (t_ + h))) (g' := (shr (σ 206) b_)) (n := h_) (by assumption))]; rfl) | (rw [if_neg (al_f2 (g := (fun h => σ 205 (t_ + h))) (g' := (shr (σ 206) b_)) (n := h_) (by omega))]; rfl)))
        · refine lv_aload_n hx hb dX12_isSo_25 rfl (lv_at hl 2 rfl) ?_
          refine wz_get hx hb hts hown hK hW 202 2 (by decide) e_202 rfl (by decide) inG12 w_817 rfl rfl dX12_isSo_26 ?_
          refine lv_iload_n hx hb dX12_isSo_29 rfl (lv_at hl 3 rfl) ?_
          refine lv_iload hx hb dX12_isSo_30 (lv_at hl 0 rfl) ?_
          refine zi_add hx hb dX12_isSo_32 ?_
          refine wz_ald hx hb hK hW 205 (t_ + h_) (by decide) e_205 (by omega) (by omega) (by decide) dX12_isSo_33 ?_
          refine zi_top (y := σ 205 (t_ + h_)) (by (first | rfl | (simp [us, uf, nS] <;> omega))) ?_
          refine lv_aload_n hx hb dX12_isSo_34 rfl (lv_at hl 2 rfl) ?_
          refine wz_get hx hb hts hown hK hW 202 16 (by decide) e_202 rfl (by decide) inG12 w_831 rfl rfl dX12_isSo_35 ?_
          refine lv_iload hx hb dX12_isSo_38 (lv_at hl 0 rfl) ?_
          refine wz_ald hx hb hK hW 210 h_ (by decide) e_210 (by omega) (by omega) (by decide) dX12_isSo_40 ?_
          refine zi_top (y := shr (σ 206) b_ h_) (by (show cpy (mn (σ 206)) (shr (σ 206) b_) (σ 210) h_ = _; unfold cpy; rw [if_pos (by unfold mn; omega)])) ?_
          refine zi_cne (tgt := 48) hx hb dX12_isSo_41 (by decide) (by omega) (by omega) (fun c41 => ?_) (fun c41 => ?_)
          · refine zi_con hx hb dX12_isSo_48 ?_
            refine lv_istore_n (lv' := [(3, .int (iI (0))), (4, .int (iI (((h_ : Nat) : Int)))), (0, .ref (B + 202)), (1, .int (iI (((t_ : Nat) : Int)))), (2, .int (iI (b_)))]) hx hb dX12_isSo_49 rfl hl (by decide) rfl (fun ls hl => ?_)
            refine lv_iinc (v := iI (((h_ : Nat) : Int) + 1)) (lv' := [(4, .int (iI (((h_ : Nat) : Int) + 1))), (3, .int (iI (0))), (0, .ref (B + 202)), (1, .int (iI (((t_ : Nat) : Int)))), (2, .int (iI (b_)))]) hx hb dX12_isSo_50 hl (k := 1) rfl (iI_add _ _) (by decide) rfl (fun ls hl => ?_)
            refine lv_goto (tgt := 10) hx hb dX12_isSo_53 (by decide) ?_
            exact ih10 (h_ + 1) _ _ _ (by omega) (by omega) hW hS (lv_sub hl [0, 1, 2, 3, 4] (by first | (rw [if_pos (al_t (g := (fun h => σ 205 (t_ + h))) (g' := (shr (σ 206) b_)) (n := h_) (by assumption) (by omega))]; rfl) | (rw [if_neg (al_f1 (g := (fun h => σ 205 (t_ + h))) (g' := (shr (σ 206) b_)) (n := h_) (by assumption))]; rfl) | (rw [if_neg (al_f2 (g := (fun h => σ 205 (t_ + h))) (g' := (shr (σ 206) b_)) (n := h_) (by omega))]; rfl)))
          · refine zi_con hx hb dX12_isSo_44 ?_
            refine lv_goto (tgt := 49) hx hb dX12_isSo_45 (by decide) ?_
            refine lv_istore_n (lv' := [(3, .int (iI (1))), (4, .int (iI (((h_ : Nat) : Int)))), (0, .ref (B + 202)), (1, .int (iI (((t_ : Nat) : Int)))), (2, .int (iI (b_)))]) hx hb dX12_isSo_49 rfl hl (by decide) rfl (fun ls hl => ?_)
            refine lv_iinc (v := iI (((h_ : Nat) : Int) + 1)) (lv' := [(4, .int (iI (((h_ : Nat) : Int) + 1))), (3, .int (iI (1))), (0, .ref (B + 202)), (1, .int (iI (((t_ : Nat) : Int)))), (2, .int (iI (b_)))]) hx hb dX12_isSo_50 hl (k := 1) rfl (iI_add _ _) (by decide) rfl (fun ls hl => ?_)
            refine lv_goto (tgt := 10) hx hb dX12_isSo_53 (by decide) ?_
            exact ih10 (h_ + 1) _ _ _ (by omega) (by omega) hW hS (lv_sub hl [0, 1, 2, 3, 4] (by first | (rw [if_pos (al_t (g := (fun h => σ 205 (t_ + h))) (g' := (shr (σ 206) b_)) (n := h_) (by assumption) (by omega))]; rfl) | (rw [if_neg (al_f1 (g := (fun h => σ 205 (t_ + h))) (g' := (shr (σ 206) b_)) (n := h_) (by assumption))]; rfl) | (rw [if_neg (al_f2 (g := (fun h => σ 205 (t_ + h))) (g' := (shr (σ 206) b_)) (n := h_) (by omega))]; rfl)))
  exact L10 _ 0 _ _ _ (Nat.lt_succ_self _) (by omega) hW hS (lv_sub hl [0, 1, 2, 3, 4] rfl)
