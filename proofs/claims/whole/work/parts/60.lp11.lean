
set_option maxRecDepth 100000 in
set_option maxHeartbeats 4000000 in
theorem c_X11_gainNow (l : Launch) (D : va_G) (cy : Nat → ClassId) (B : Nat) (σ : Sg) (h_ : Nat) (hok : okV (σ 18)) (hh : (h_ : Int) < σ 18 4) : CI l yX11_gainNow cX11_gainNow 2 (some .int) 5 111 D cy B [.ref (B + 0), .int (iI (((h_ : Nat) : Int)))] σ (shr (σ 18) (σ 18 3) h_ - σ 18 (28 + h_) / 4) (us σ 10 (cpy (mn (σ 18)) (shr (σ 18) (σ 18 3)) (σ 10))) := by
  refine CI_of (ty := .int) (by decide) (rfl) (Nat.le_of_ble_eq_true rfl) ?_
  intro p e R s m args below meth c Q hx hb hml hown hts hK hRf hRl hW hret ls hl
  have hown : s.vm.findClass "LoveParts" = some m.cls := hown
  have hS : va_S (AB B) s.heap s.heap [] := va_S.rf
  have hl : lv_has ls 2 [(0, .ref (B + 0)), (1, .int (iI (((h_ : Nat) : Int))))] := hl
  obtain ⟨o4, o0, o1, o2, o3, o5, o6, o7, oH⟩ := id hok
  obtain ⟨k8, k12, k16, k20, k24, k28, k32, k36, k40, k44⟩ := oH h_ hh
  refine lv_aload_n hx hb dX11_gainNow_0 rfl (lv_at hl 0 rfl) ?_
  refine wz_get hx hb hts hown hK hW 0 4 (by decide) e_0 rfl (by decide) inG11 w_309 rfl rfl dX11_gainNow_1 ?_
  refine lv_aload_n hx hb dX11_gainNow_4 rfl (lv_at hl 0 rfl) ?_
  refine wz_get hx hb hts hown hK hW 0 4 (by decide) e_0 rfl (by decide) inG11 w_309 rfl rfl dX11_gainNow_5 ?_
  refine wz_get hx hb hts hown hK hW 18 5 (lt_R isR_18) (e_R isR_18) rfl (by decide) inG6 w_261 rfl rfl dX11_gainNow_8 ?_
  refine lv_aload_n hx hb dX11_gainNow_11 rfl (lv_at hl 0 rfl) ?_
  refine wz_get hx hb hts hown hK hW 0 11 (by decide) e_0 rfl (by decide) inG11 w_316 rfl rfl dX11_gainNow_12 ?_
  refine k_vv (fr := 5) (lo := 111) (σ' := (us σ 10 (cpy (mn (σ 18)) (shr (σ 18) (σ 18 3)) (σ 10)))) (As := [.int (iI (σ 18 3)), .ref (B + 10)]) (rest := []) hx hb hml hown hts hK hRf hRl hW hS (c_X6_divide l D cy B σ 18 (σ 18 3) (show isR 18 from isR_18) (show okV (σ 18) from hok) (show 0 ≤ (σ 18 3) ∧ (σ 18 3) ≤ 3 from (by first | assumption | omega | (simp only [tpL_25, List.length_cons, List.length_nil]; omega)))) vX6_divide ⟨w_531, w_532⟩ w_530 (lt_R isR_18) (e_R isR_18) rfl ⟨Nat.le_of_ble_eq_true rfl, Nat.le_of_ble_eq_true rfl⟩ hl.1 rfl (Nat.le_of_ble_eq_true rfl) ⟨Nat.zero_le _, Nat.zero_le _⟩ dX11_gainNow_15 (fun H locs hW hS => ?_)
  refine lv_aload_n hx hb dX11_gainNow_18 rfl (lv_at hl 0 rfl) ?_
  refine wz_get hx hb hts hown hK hW 0 11 (by decide) e_0 rfl (by decide) inG11 w_316 rfl rfl dX11_gainNow_19 ?_
  refine lv_iload_n hx hb dX11_gainNow_22 rfl (lv_at hl 1 rfl) ?_
  refine wz_ald hx hb hK hW 10 h_ (by decide) e_10 (by omega) (by omega) (by decide) dX11_gainNow_23 ?_
  refine zi_top (y := shr (σ 18) (σ 18 3) h_) (by rw [us_eq]; exact if_pos (by unfold mn; omega)) ?_
  refine lv_aload_n hx hb dX11_gainNow_24 rfl (lv_at hl 0 rfl) ?_
  refine wz_get hx hb hts hown hK hW 0 4 (by decide) e_0 rfl (by decide) inG11 w_309 rfl rfl dX11_gainNow_25 ?_
  refine wz_get hx hb hts hown hK hW 18 0 (lt_R isR_18) (e_R isR_18) rfl (by decide) inG6 w_246 rfl rfl dX11_gainNow_28 ?_
  refine lv_iload_n hx hb dX11_gainNow_31 rfl (lv_at hl 1 rfl) ?_
  refine wz_ara hx hb hK hW (18 + 1) h_ 2 (lt_Ra isR_18) (e_Ra isR_18) rfl (by omega) (by omega) (by decide) rfl dX11_gainNow_32 ?_
  refine wz_get hx hb hts hown hK hW (18 + 2 + h_) 6 (lt_H isR_18 (by omega)) (e_H isR_18 (by omega)) rfl (by decide) inG0 w_209 rfl rfl dX11_gainNow_33 ?_
  refine zi_top (y := σ 18 (28 + h_)) (by (first | rfl | (simp [us, uf, nS] <;> omega))) ?_
  refine zi_con hx hb dX11_gainNow_36 ?_
  refine zi_div hx hb dX11_gainNow_37 (by omega) (by omega) ?_
  refine zi_sub hx hb dX11_gainNow_38 ?_
  exact hret _ _ _ _ _ _ dX11_gainNow_39 hW hS ⟨rfl, rfl⟩
