
set_option maxRecDepth 100000 in
set_option maxHeartbeats 4000000 in
theorem c_X7_missing (l : Launch) (D : va_G) (cy : Nat → ClassId) (B : Nat) (σ : Sg) (i_ : Nat) (hi : i_ < 8) (hln : -1 ≤ σ (30 + 2 * i_) 1 ∧ σ (30 + 2 * i_) 1 ≤ 2) : CI l yX7_missing cX7_missing 1 (some .boolean) 0 0 D cy B [.ref (B + (30 + 2 * i_))] σ ((if σ (30 + 2 * i_) 1 = -1 then 1 else 0)) (σ) := by
  refine CI_of (ty := .boolean) (by decide) (nb_ite) (Nat.le_of_ble_eq_true rfl) ?_
  intro p e R s m args below meth c Q hx hb hml hown hts hK hRf hRl hW hret ls hl
  have hown : s.vm.findClass "LoveParts$Row" = some m.cls := hown
  have hS : va_S (AB B) s.heap s.heap [] := va_S.rf
  have hl : lv_has ls 1 [(0, .ref (B + (30 + 2 * i_)))] := hl
  refine lv_aload_n hx hb dX7_missing_0 rfl (lv_at hl 0 rfl) ?_
  refine wz_get hx hb hts hown hK hW (30 + 2 * i_) 1 (by omega) (e_row (by omega)) rfl (by decide) inG7 w_294 rfl rfl dX7_missing_1 ?_
  refine zi_con hx hb dX7_missing_4 ?_
  refine zi_cne (tgt := 12) hx hb dX7_missing_5 (by decide) (by omega) (by omega) (fun c5 => ?_) (fun c5 => ?_)
  · refine zi_con hx hb dX7_missing_12 ?_
    exact hret _ _ _ _ _ _ dX7_missing_13 hW hS ⟨by split <;> first | rfl | omega, rfl⟩
  · refine zi_con hx hb dX7_missing_8 ?_
    refine lv_goto (tgt := 13) hx hb dX7_missing_9 (by decide) ?_
    exact hret _ _ _ _ _ _ dX7_missing_13 hW hS ⟨by split <;> first | rfl | omega, rfl⟩

set_option maxRecDepth 100000 in
set_option maxHeartbeats 4000000 in
theorem c_X7_end (l : Launch) (D : va_G) (cy : Nat → ClassId) (B : Nat) (σ : Sg) (i_ : Nat) (hi : i_ < 8) : CV l yX7_end cX7_end 1 0 0 D cy B [.ref (B + (30 + 2 * i_))] σ (up (up σ (30 + 2 * i_) 1 (-1)) (30 + 2 * i_) 2 0) := by
  refine CV_of (by decide) (Nat.le_of_ble_eq_true rfl) ?_
  intro p e R s m args below meth c Q hx hb hml hown hts hK hRf hRl hW hret ls hl
  have hown : s.vm.findClass "LoveParts$Row" = some m.cls := hown
  have hS : va_S (AB B) s.heap s.heap [] := va_S.rf
  have hl : lv_has ls 1 [(0, .ref (B + (30 + 2 * i_)))] := hl
  refine lv_aload_n hx hb dX7_end_0 rfl (lv_at hl 0 rfl) ?_
  refine zi_con hx hb dX7_end_1 ?_
  refine wz_put (σ' := (up σ (30 + 2 * i_) 1 (-1))) (ty := .int) hx hb hts hown hK hW hS (30 + 2 * i_) 1 tyX7 (by omega) (e_row (by omega)) rfl (by decide) inG7 tyX7_ok nmX7 w_294 ⟨rfl, rfl, Nat.le_of_ble_eq_true rfl⟩ (by decide +kernel) ⟨rfl, rfl⟩ (p_row_1 (by omega)) dX7_end_2 (fun H locs hW hS => ?_)
  refine lv_aload_n hx hb dX7_end_5 rfl (lv_at hl 0 rfl) ?_
  refine zi_con hx hb dX7_end_6 ?_
  refine wz_put (σ' := (up (up σ (30 + 2 * i_) 1 (-1)) (30 + 2 * i_) 2 0)) (ty := .int) hx hb hts hown hK hW hS (30 + 2 * i_) 2 tyX7 (by omega) (e_row (by omega)) rfl (by decide) inG7 tyX7_ok nmX7 w_296 ⟨rfl, rfl, Nat.le_of_ble_eq_true rfl⟩ (by decide +kernel) ⟨rfl, rfl⟩ (p_row_2 (by omega)) dX7_end_7 (fun H locs hW hS => ?_)
  exact hret _ _ _ _ _ dX7_end_10 hW hS rfl

set_option maxRecDepth 100000 in
set_option maxHeartbeats 4000000 in
theorem c_X7_holds (l : Launch) (D : va_G) (cy : Nat → ClassId) (B : Nat) (σ : Sg) (i_ : Nat) (a_ : Int) (n_ : Int) (hi : i_ < 8) (r_a_ : -2147483648 ≤ a_ ∧ a_ < 2147483648) (r_n_ : -2147483648 ≤ n_ ∧ n_ < 2147483648) (hsz : 0 ≤ σ (30 + 2 * i_) 2 ∧ σ (30 + 2 * i_) 2 ≤ 40) : CI l yX7_holds cX7_holds 3 (some .boolean) 0 0 D cy B [.ref (B + (30 + 2 * i_)), .int (iI (a_)), .int (iI (n_))] σ ((if 0 ≤ a_ ∧ 0 ≤ n_ ∧ a_ ≤ σ (30 + 2 * i_) 2 - n_ then 1 else 0)) (σ) := by
  refine CI_of (ty := .boolean) (by decide) (nb_ite) (Nat.le_of_ble_eq_true rfl) ?_
  intro p e R s m args below meth c Q hx hb hml hown hts hK hRf hRl hW hret ls hl
  have hown : s.vm.findClass "LoveParts$Row" = some m.cls := hown
  have hS : va_S (AB B) s.heap s.heap [] := va_S.rf
  have hl : lv_has ls 3 [(0, .ref (B + (30 + 2 * i_))), (1, .int (iI (a_))), (2, .int (iI (n_)))] := hl
  refine lv_iload_n hx hb dX7_holds_0 rfl (lv_at hl 1 rfl) ?_
  refine zi_lt (tgt := 22) hx hb dX7_holds_1 (by decide) (by omega) (fun c1 => ?_) (fun c1 => ?_)
  · refine zi_con hx hb dX7_holds_22 ?_
    exact hret _ _ _ _ _ _ dX7_holds_23 hW hS ⟨by split <;> first | rfl | omega, rfl⟩
  · refine lv_iload_n hx hb dX7_holds_4 rfl (lv_at hl 2 rfl) ?_
    refine zi_lt (tgt := 22) hx hb dX7_holds_5 (by decide) (by omega) (fun c5 => ?_) (fun c5 => ?_)
    · refine zi_con hx hb dX7_holds_22 ?_
      exact hret _ _ _ _ _ _ dX7_holds_23 hW hS ⟨by split <;> first | rfl | omega, rfl⟩
    · refine lv_iload_n hx hb dX7_holds_8 rfl (lv_at hl 1 rfl) ?_
      refine lv_aload_n hx hb dX7_holds_9 rfl (lv_at hl 0 rfl) ?_
      refine wz_get hx hb hts hown hK hW (30 + 2 * i_) 2 (by omega) (e_row (by omega)) rfl (by decide) inG7 w_296 rfl rfl dX7_holds_10 ?_
      refine lv_iload_n hx hb dX7_holds_13 rfl (lv_at hl 2 rfl) ?_
      refine zi_sub hx hb dX7_holds_14 ?_
      refine zi_cgt (tgt := 22) hx hb dX7_holds_15 (by decide) (by omega) (by omega) (fun c15 => ?_) (fun c15 => ?_)
      · refine zi_con hx hb dX7_holds_22 ?_
        exact hret _ _ _ _ _ _ dX7_holds_23 hW hS ⟨by split <;> first | rfl | omega, rfl⟩
      · refine zi_con hx hb dX7_holds_18 ?_
        refine lv_goto (tgt := 23) hx hb dX7_holds_19 (by decide) ?_
        exact hret _ _ _ _ _ _ dX7_holds_23 hW hS ⟨by split <;> first | rfl | omega, rfl⟩

set_option maxRecDepth 100000 in
set_option maxHeartbeats 4000000 in
theorem c_X7_begin (l : Launch) (D : va_G) (cy : Nat → ClassId) (B : Nat) (σ : Sg) (i_ : Nat) (l_ : Int) (n_ : Int) (hi : i_ < 8) (hn : 0 ≤ n_ ∧ n_ ≤ 40) : CV l yX7_begin cX7_begin 4 0 0 D cy B [.ref (B + (30 + 2 * i_)), .int (iI (l_)), .int (iI (n_))] σ (us (up (up σ (30 + 2 * i_) 1 l_) (30 + 2 * i_) 2 n_) (30 + 2 * i_ + 1) (cpy n_.toNat (fun _ => 0) (σ (30 + 2 * i_ + 1)))) := by
  refine CV_of (by decide) (Nat.le_of_ble_eq_true rfl) ?_
  intro p e R s m args below meth c Q hx hb hml hown hts hK hRf hRl hW hret ls hl
  have hown : s.vm.findClass "LoveParts$Row" = some m.cls := hown
  have hS : va_S (AB B) s.heap s.heap [] := va_S.rf
  have hl : lv_has ls 4 [(0, .ref (B + (30 + 2 * i_))), (1, .int (iI (l_))), (2, .int (iI (n_)))] := hl
  refine lv_aload_n hx hb dX7_begin_0 rfl (lv_at hl 0 rfl) ?_
  refine lv_iload_n hx hb dX7_begin_1 rfl (lv_at hl 1 rfl) ?_
  refine wz_put (σ' := (up σ (30 + 2 * i_) 1 l_)) (ty := .int) hx hb hts hown hK hW hS (30 + 2 * i_) 1 tyX7 (by omega) (e_row (by omega)) rfl (by decide) inG7 tyX7_ok nmX7 w_294 ⟨rfl, rfl, Nat.le_of_ble_eq_true rfl⟩ (by decide +kernel) ⟨rfl, rfl⟩ (p_row_1 (by omega)) dX7_begin_2 (fun H locs hW hS => ?_)
  refine lv_aload_n hx hb dX7_begin_5 rfl (lv_at hl 0 rfl) ?_
  refine lv_iload_n hx hb dX7_begin_6 rfl (lv_at hl 2 rfl) ?_
  refine wz_put (σ' := (up (up σ (30 + 2 * i_) 1 l_) (30 + 2 * i_) 2 n_)) (ty := .int) hx hb hts hown hK hW hS (30 + 2 * i_) 2 tyX7 (by omega) (e_row (by omega)) rfl (by decide) inG7 tyX7_ok nmX7 w_296 ⟨rfl, rfl, Nat.le_of_ble_eq_true rfl⟩ (by decide +kernel) ⟨rfl, rfl⟩ (p_row_2 (by omega)) dX7_begin_7 (fun H locs hW hS => ?_)
  refine zi_con hx hb dX7_begin_10 ?_
  refine lv_istore_n (lv' := [(3, .int (iI (0))), (0, .ref (B + (30 + 2 * i_))), (1, .int (iI (l_))), (2, .int (iI (n_)))]) hx hb dX7_begin_11 rfl hl (by decide) rfl (fun ls hl => ?_)
  have L12 : ∀ (n12 : Nat) (k_ : Nat) (H : Heap) (locs : List Loc) (ls : Array Slot), 40 - k_ < n12 → ((k_ : Int) ≤ n_) → wd D cy B (us (up (up σ (30 + 2 * i_) 1 l_) (30 + 2 * i_) 2 n_) (30 + 2 * i_ + 1) (cpy k_ (fun _ => 0) ((up (up σ (30 + 2 * i_) 1 l_) (30 + 2 * i_) 2 n_) (30 + 2 * i_ + 1)))) H → va_S (AB B) s.heap H locs → lv_has ls 4 [(3, .int (iI (((k_ : Nat) : Int)))), (0, .ref (B + (30 + 2 * i_))), (1, .int (iI (l_))), (2, .int (iI (n_)))] → W p l e R s m args below meth c H locs 0 0 Q (F0 m 12 ls []) := by
    intro n12
    induction n12 with
    | zero => intro k_ H locs ls hms; omega
    | succ n12 ih12 =>
      intro k_ H locs ls hms12 hk hW hS hl
      refine lv_iload_n hx hb dX7_begin_12 rfl (lv_at hl 0 rfl) ?_
      refine lv_iload_n hx hb dX7_begin_13 rfl (lv_at hl 3 rfl) ?_
      refine zi_cge (tgt := 30) hx hb dX7_begin_14 (by decide) (by omega) (by omega) (fun c14 => ?_) (fun c14 => ?_)
      · exact hret _ _ _ _ _ dX7_begin_30 hW hS (by rw [show n_.toNat = k_ from by omega]; unfold up; rw [us_ne _ _ (show (30 + 2 * i_ + 1) ≠ (30 + 2 * i_) by omega), us_ne _ _ (show (30 + 2 * i_ + 1) ≠ (30 + 2 * i_) by omega)])
      · refine lv_aload_n hx hb dX7_begin_17 rfl (lv_at hl 1 rfl) ?_
        refine wz_get hx hb hts hown hK hW (30 + 2 * i_) 0 (by omega) (e_row (by omega)) rfl (by decide) inG7 w_292 rfl rfl dX7_begin_18 ?_
        refine lv_iload_n hx hb dX7_begin_21 rfl (lv_at hl 0 rfl) ?_
        refine zi_con hx hb dX7_begin_22 ?_
        refine wz_ast (σ' := (up (us (up (up σ (30 + 2 * i_) 1 l_) (30 + 2 * i_) 2 n_) (30 + 2 * i_ + 1) (cpy k_ (fun _ => 0) ((up (up σ (30 + 2 * i_) 1 l_) (30 + 2 * i_) 2 n_) (30 + 2 * i_ + 1)))) (30 + 2 * i_ + 1) k_ 0)) hx hb hK hW hS (30 + 2 * i_ + 1) k_ (by omega) (e_it (by omega)) (by omega) (by omega) (by decide) (p_it (by omega)) dX7_begin_23 (fun H locs hW hS => ?_)
        refine lv_iinc (v := iI (((k_ : Nat) : Int) + 1)) (lv' := [(3, .int (iI (((k_ : Nat) : Int) + 1))), (0, .ref (B + (30 + 2 * i_))), (1, .int (iI (l_))), (2, .int (iI (n_)))]) hx hb dX7_begin_24 hl (k := 0) rfl (iI_add _ _) (by decide) rfl (fun ls hl => ?_)
        refine lv_goto (tgt := 12) hx hb dX7_begin_27 (by decide) ?_
        exact ih12 (k_ + 1) _ _ _ (by omega) (by omega) (by rw [← up_cpy]; exact hW) hS (lv_sub hl [0, 1, 2, 3] rfl)
  exact L12 _ 0 _ _ _ (Nat.lt_succ_self _) (by omega) (by rw [us_cpy0]; exact hW) hS (lv_sub hl [0, 1, 2, 3] rfl)

set_option maxRecDepth 100000 in
set_option maxHeartbeats 4000000 in
theorem c_X7_fitted (l : Launch) (D : va_G) (cy : Nat → ClassId) (B : Nat) (σ : Sg) (i_ : Nat) (v_ : Int) (hi : i_ < 8) (r_v_ : -2147483648 ≤ v_ ∧ v_ < 2147483648) (hln : -1 ≤ σ (30 + 2 * i_) 1 ∧ σ (30 + 2 * i_) 1 ≤ 2) : CI l yX7_fitted cX7_fitted 2 (some .int) 0 0 D cy B [.ref (B + (30 + 2 * i_)), .int (iI (v_))] σ (fitI (σ (30 + 2 * i_) 1) v_) (σ) := by
  refine CI_of (ty := .int) (by decide) (rfl) (Nat.le_of_ble_eq_true rfl) ?_
  intro p e R s m args below meth c Q hx hb hml hown hts hK hRf hRl hW hret ls hl
  have hown : s.vm.findClass "LoveParts$Row" = some m.cls := hown
  have hS : va_S (AB B) s.heap s.heap [] := va_S.rf
  have hl : lv_has ls 2 [(0, .ref (B + (30 + 2 * i_))), (1, .int (iI (v_)))] := hl
  refine lv_aload_n hx hb dX7_fitted_0 rfl (lv_at hl 0 rfl) ?_
  refine wz_get hx hb hts hown hK hW (30 + 2 * i_) 1 (by omega) (e_row (by omega)) rfl (by decide) inG7 w_294 rfl rfl dX7_fitted_1 ?_
  refine zi_ne (tgt := 10) hx hb dX7_fitted_4 (by decide) (by omega) (fun c4 => ?_) (fun c4 => ?_)
  · refine lv_aload_n hx hb dX7_fitted_10 rfl (lv_at hl 0 rfl) ?_
    refine wz_get hx hb hts hown hK hW (30 + 2 * i_) 1 (by omega) (e_row (by omega)) rfl (by decide) inG7 w_294 rfl rfl dX7_fitted_11 ?_
    refine zi_con hx hb dX7_fitted_14 ?_
    refine zi_cne (tgt := 23) hx hb dX7_fitted_15 (by decide) (by omega) (by omega) (fun c15 => ?_) (fun c15 => ?_)
    · refine lv_iload_n hx hb dX7_fitted_23 rfl (lv_at hl 1 rfl) ?_
      exact hret _ _ _ _ _ _ dX7_fitted_24 hW hS ⟨by unfold fitI; (repeat' split) <;> first | rfl | omega, rfl⟩
    · refine lv_iload_n hx hb dX7_fitted_18 rfl (lv_at hl 1 rfl) ?_
      refine lv_i2s (v := iI (iI v_).toInt16.toInt) hx hb dX7_fitted_19 rfl ?_
      refine lv_goto (tgt := 24) hx hb dX7_fitted_20 (by decide) ?_
      exact hret _ _ _ _ _ _ dX7_fitted_24 hW hS ⟨by unfold fitI; (repeat' split) <;> first | rfl | omega, rfl⟩
  · refine lv_iload_n hx hb dX7_fitted_7 rfl (lv_at hl 1 rfl) ?_
    refine lv_i2b (v := iI (iI v_).toInt8.toInt) hx hb dX7_fitted_8 rfl ?_
    exact hret _ _ _ _ _ _ dX7_fitted_9 hW hS ⟨by unfold fitI; (repeat' split) <;> first | rfl | omega, rfl⟩

set_option maxRecDepth 100000 in
set_option maxHeartbeats 4000000 in
theorem c_X0_say (l : Launch) (D : va_G) (cy : Nat → ClassId) (B : Nat) (σ : Sg) (o_ : Nat) (h_ : Nat) (w_ : Int) (k_ : Int) (hR : isR o_) (hh : h_ < 4) : CV l yX0_say cX0_say 3 0 0 D cy B [.ref (B + (o_ + 2 + h_)), .int (iI (w_)), .int (iI (k_))] σ (us σ o_ (uf (uf (uf (σ o_) (20 + h_) 1) (24 + h_) w_) (28 + h_) k_)) := by
  refine CV_of (by decide) (Nat.le_of_ble_eq_true rfl) ?_
  intro p e R s m args below meth c Q hx hb hml hown hts hK hRf hRl hW hret ls hl
  have hown : s.vm.findClass "LoveParts$Heir" = some m.cls := hown
  have hS : va_S (AB B) s.heap s.heap [] := va_S.rf
  have hl : lv_has ls 3 [(0, .ref (B + (o_ + 2 + h_))), (1, .int (iI (w_))), (2, .int (iI (k_)))] := hl
  refine lv_aload_n hx hb dX0_say_0 rfl (lv_at hl 0 rfl) ?_
  refine zi_con hx hb dX0_say_1 ?_
  refine wz_put (σ' := (up σ o_ (20 + h_) 1)) (ty := .boolean) hx hb hts hown hK hW hS (o_ + 2 + h_) 4 tyX0 (lt_H hR (by omega)) (e_H hR (by omega)) rfl (by decide) inG0 tyX0_ok nmX0 w_201 ⟨rfl, rfl, Nat.le_of_ble_eq_true rfl⟩ (by decide +kernel) ⟨rfl, rfl⟩ (p_H_4 hR (by omega)) dX0_say_2 (fun H locs hW hS => ?_)
  refine lv_aload_n hx hb dX0_say_5 rfl (lv_at hl 0 rfl) ?_
  refine lv_iload_n hx hb dX0_say_6 rfl (lv_at hl 1 rfl) ?_
  refine wz_put (σ' := (up (up σ o_ (20 + h_) 1) o_ (24 + h_) w_)) (ty := .int) hx hb hts hown hK hW hS (o_ + 2 + h_) 5 tyX0 (lt_H hR (by omega)) (e_H hR (by omega)) rfl (by decide) inG0 tyX0_ok nmX0 w_204 ⟨rfl, rfl, Nat.le_of_ble_eq_true rfl⟩ (by decide +kernel) ⟨rfl, rfl⟩ (p_H_5 hR (by omega)) dX0_say_7 (fun H locs hW hS => ?_)
  refine lv_aload_n hx hb dX0_say_10 rfl (lv_at hl 0 rfl) ?_
  refine lv_iload_n hx hb dX0_say_11 rfl (lv_at hl 2 rfl) ?_
  refine wz_put (σ' := (up (up (up σ o_ (20 + h_) 1) o_ (24 + h_) w_) o_ (28 + h_) k_)) (ty := .int) hx hb hts hown hK hW hS (o_ + 2 + h_) 6 tyX0 (lt_H hR (by omega)) (e_H hR (by omega)) rfl (by decide) inG0 tyX0_ok nmX0 w_207 ⟨rfl, rfl, Nat.le_of_ble_eq_true rfl⟩ (by decide +kernel) ⟨rfl, rfl⟩ (p_H_6 hR (by omega)) dX0_say_12 (fun H locs hW hS => ?_)
  exact hret _ _ _ _ _ dX0_say_15 hW hS (by unfold up; simp only [us_us, us_eq])

set_option maxRecDepth 100000 in
set_option maxHeartbeats 4000000 in
theorem c_X0_begin (l : Launch) (D : va_G) (cy : Nat → ClassId) (B : Nat) (σ : Sg) (o_ : Nat) (h_ : Nat) (hR : isR o_) (hh : h_ < 4) : CV l yX0_begin cX0_begin 1 0 0 D cy B [.ref (B + (o_ + 2 + h_))] σ (us σ o_ (uf (uf (uf (uf (uf (uf (uf (σ o_) (20 + h_) 0) (24 + h_) 0) (28 + h_) 0) (32 + h_) 0) (44 + h_) 0) (36 + h_) 0) (40 + h_) 0)) := by
  refine CV_of (by decide) (Nat.le_of_ble_eq_true rfl) ?_
  intro p e R s m args below meth c Q hx hb hml hown hts hK hRf hRl hW hret ls hl
  have hown : s.vm.findClass "LoveParts$Heir" = some m.cls := hown
  have hS : va_S (AB B) s.heap s.heap [] := va_S.rf
  have hl : lv_has ls 1 [(0, .ref (B + (o_ + 2 + h_)))] := hl
  refine lv_aload_n hx hb dX0_begin_0 rfl (lv_at hl 0 rfl) ?_
  refine zi_con hx hb dX0_begin_1 ?_
  refine wz_put (σ' := (up σ o_ (20 + h_) 0)) (ty := .boolean) hx hb hts hown hK hW hS (o_ + 2 + h_) 4 tyX0 (lt_H hR (by omega)) (e_H hR (by omega)) rfl (by decide) inG0 tyX0_ok nmX0 w_201 ⟨rfl, rfl, Nat.le_of_ble_eq_true rfl⟩ (by decide +kernel) ⟨rfl, rfl⟩ (p_H_4 hR (by omega)) dX0_begin_2 (fun H locs hW hS => ?_)
  refine lv_aload_n hx hb dX0_begin_5 rfl (lv_at hl 0 rfl) ?_
  refine zi_con hx hb dX0_begin_6 ?_
  refine wz_put (σ' := (up (up σ o_ (20 + h_) 0) o_ (24 + h_) 0)) (ty := .int) hx hb hts hown hK hW hS (o_ + 2 + h_) 5 tyX0 (lt_H hR (by omega)) (e_H hR (by omega)) rfl (by decide) inG0 tyX0_ok nmX0 w_204 ⟨rfl, rfl, Nat.le_of_ble_eq_true rfl⟩ (by decide +kernel) ⟨rfl, rfl⟩ (p_H_5 hR (by omega)) dX0_begin_7 (fun H locs hW hS => ?_)
  refine lv_aload_n hx hb dX0_begin_10 rfl (lv_at hl 0 rfl) ?_
  refine zi_con hx hb dX0_begin_11 ?_
  refine wz_put (σ' := (up (up (up σ o_ (20 + h_) 0) o_ (24 + h_) 0) o_ (28 + h_) 0)) (ty := .int) hx hb hts hown hK hW hS (o_ + 2 + h_) 6 tyX0 (lt_H hR (by omega)) (e_H hR (by omega)) rfl (by decide) inG0 tyX0_ok nmX0 w_207 ⟨rfl, rfl, Nat.le_of_ble_eq_true rfl⟩ (by decide +kernel) ⟨rfl, rfl⟩ (p_H_6 hR (by omega)) dX0_begin_12 (fun H locs hW hS => ?_)
  refine lv_aload_n hx hb dX0_begin_15 rfl (lv_at hl 0 rfl) ?_
  refine zi_con hx hb dX0_begin_16 ?_
  refine wz_put (σ' := (up (up (up (up σ o_ (20 + h_) 0) o_ (24 + h_) 0) o_ (28 + h_) 0) o_ (32 + h_) 0)) (ty := .int) hx hb hts hown hK hW hS (o_ + 2 + h_) 7 tyX0 (lt_H hR (by omega)) (e_H hR (by omega)) rfl (by decide) inG0 tyX0_ok nmX0 w_210 ⟨rfl, rfl, Nat.le_of_ble_eq_true rfl⟩ (by decide +kernel) ⟨rfl, rfl⟩ (p_H_7 hR (by omega)) dX0_begin_17 (fun H locs hW hS => ?_)
  refine lv_aload_n hx hb dX0_begin_20 rfl (lv_at hl 0 rfl) ?_
  refine k_ldc hx hb hown hts (v := 1000000) (by decide) w_180 dX0_begin_21 ?_
  refine wz_put (σ' := (up (up (up (up (up σ o_ (20 + h_) 0) o_ (24 + h_) 0) o_ (28 + h_) 0) o_ (32 + h_) 0) o_ (44 + h_) 0)) (ty := .int) hx hb hts hown hK hW hS (o_ + 2 + h_) 8 tyX0 (lt_H hR (by omega)) (e_H hR (by omega)) rfl (by decide) inG0 tyX0_ok nmX0 w_212 ⟨rfl, rfl, Nat.le_of_ble_eq_true rfl⟩ (by decide +kernel) ⟨rfl, rfl⟩ (p_H_8 hR (by omega)) dX0_begin_23 (fun H locs hW hS => ?_)
  refine lv_aload_n hx hb dX0_begin_26 rfl (lv_at hl 0 rfl) ?_
  refine zi_con hx hb dX0_begin_27 ?_
  refine wz_put (σ' := (up (up (up (up (up (up σ o_ (20 + h_) 0) o_ (24 + h_) 0) o_ (28 + h_) 0) o_ (32 + h_) 0) o_ (44 + h_) 0) o_ (36 + h_) 0)) (ty := .int) hx hb hts hown hK hW hS (o_ + 2 + h_) 9 tyX0 (lt_H hR (by omega)) (e_H hR (by omega)) rfl (by decide) inG0 tyX0_ok nmX0 w_215 ⟨rfl, rfl, Nat.le_of_ble_eq_true rfl⟩ (by decide +kernel) ⟨rfl, rfl⟩ (p_H_9 hR (by omega)) dX0_begin_28 (fun H locs hW hS => ?_)
  refine lv_aload_n hx hb dX0_begin_31 rfl (lv_at hl 0 rfl) ?_
  refine zi_con hx hb dX0_begin_32 ?_
  refine wz_put (σ' := (up (up (up (up (up (up (up σ o_ (20 + h_) 0) o_ (24 + h_) 0) o_ (28 + h_) 0) o_ (32 + h_) 0) o_ (44 + h_) 0) o_ (36 + h_) 0) o_ (40 + h_) 0)) (ty := .int) hx hb hts hown hK hW hS (o_ + 2 + h_) 10 tyX0 (lt_H hR (by omega)) (e_H hR (by omega)) rfl (by decide) inG0 tyX0_ok nmX0 w_218 ⟨rfl, rfl, Nat.le_of_ble_eq_true rfl⟩ (by decide +kernel) ⟨rfl, rfl⟩ (p_H_10 hR (by omega)) dX0_begin_33 (fun H locs hW hS => ?_)
  exact hret _ _ _ _ _ dX0_begin_36 hW hS (by unfold up; simp only [us_us, us_eq])

set_option maxRecDepth 100000 in
set_option maxHeartbeats 4000000 in
theorem c_X10_leave (l : Launch) (D : va_G) (cy : Nat → ClassId) (B : Nat) (σ : Sg) (b_ : Int) (ht : 0 ≤ σ 5 1 ∧ σ 5 1 ≤ 15) : CV l yX10_leave cX10_leave 2 0 0 D cy B [.ref (B + 5), .int (iI (b_))] σ (tcL σ [b_]) := by
  refine CV_of (by decide) (Nat.le_of_ble_eq_true rfl) ?_
  intro p e R s m args below meth c Q hx hb hml hown hts hK hRf hRl hW hret ls hl
  have hown : s.vm.findClass "LoveParts$Trace" = some m.cls := hown
  have hS : va_S (AB B) s.heap s.heap [] := va_S.rf
  have hl : lv_has ls 2 [(0, .ref (B + 5)), (1, .int (iI (b_)))] := hl
  refine lv_aload_n hx hb dX10_leave_0 rfl (lv_at hl 0 rfl) ?_
  refine wz_get hx hb hts hown hK hW 5 1 (by decide) e_5 rfl (by decide) inG10 w_121 rfl rfl dX10_leave_1 ?_
  refine zi_bip hx hb dX10_leave_4 (by decide) ?_
  refine zi_cge (tgt := 29) hx hb dX10_leave_6 (by decide) (by omega) (by omega) (fun c6 => ?_) (fun c6 => ?_)
  · exact hret _ _ _ _ _ dX10_leave_29 hW hS (by first | rfl | omega)
  · refine lv_aload_n hx hb dX10_leave_9 rfl (lv_at hl 0 rfl) ?_
    refine wz_get hx hb hts hown hK hW 5 0 (by decide) e_5 rfl (by decide) inG10 w_119 rfl rfl dX10_leave_10 ?_
    refine lv_aload_n hx hb dX10_leave_13 rfl (lv_at hl 0 rfl) ?_
    refine wz_get hx hb hts hown hK hW 5 1 (by decide) e_5 rfl (by decide) inG10 w_121 rfl rfl dX10_leave_14 ?_
    refine lv_iload_n hx hb dX10_leave_17 rfl (lv_at hl 1 rfl) ?_
    refine wz_ast (σ' := (up σ 6 ((σ 5 1).toNat) b_)) hx hb hK hW hS 6 ((σ 5 1).toNat) (by decide) e_6 (by omega) (by omega) (by decide) p_6 dX10_leave_18 (fun H locs hW hS => ?_)
    refine lv_aload_n hx hb dX10_leave_19 rfl (lv_at hl 0 rfl) ?_
    refine lv_dup hx hb dX10_leave_20 rfl ?_
    refine wz_get hx hb hts hown hK hW 5 1 (by decide) e_5 rfl (by decide) inG10 w_121 rfl rfl dX10_leave_21 ?_
    refine zi_top (y := σ 5 1) (by (first | rfl | (simp [us, uf, nS] <;> omega))) ?_
    refine zi_con hx hb dX10_leave_24 ?_
    refine zi_add hx hb dX10_leave_25 ?_
    refine wz_put (σ' := (up (up σ 6 ((σ 5 1).toNat) b_) 5 1 ((σ 5 1) + 1))) (ty := .int) hx hb hts hown hK hW hS 5 1 tyX10 (by decide) e_5 rfl (by decide) inG10 tyX10_ok nmX10 w_121 ⟨rfl, rfl, Nat.le_of_ble_eq_true rfl⟩ (by decide +kernel) ⟨rfl, rfl⟩ p_5_1 dX10_leave_26 (fun H locs hW hS => ?_)
    exact hret _ _ _ _ _ dX10_leave_29 hW hS (by first | rfl | omega)
