
set_option maxRecDepth 100000 in
set_option maxHeartbeats 4000000 in
theorem c_X11_gainBySpeech (l : Launch) (D : va_G) (cy : Nat → ClassId) (B : Nat) (σ : Sg) (h_ : Nat) (v_ : Int) (hok : okV (σ 18)) (hh : (h_ : Int) < σ 18 4) (hv : 0 ≤ v_ ∧ v_ / 100 ≤ 18 ∧ v_ % 100 ≤ 40) : CIe l yX11_gainBySpeech cX11_gainBySpeech 4 (some .int) 5 111 D cy B [.ref (B + 0), .int (iI (((h_ : Nat) : Int))), .int (iI (v_))] σ (shr (uf (uf (uf (σ 18) (20 + h_) 1) (24 + h_) (v_ / 100)) (28 + h_) (v_ % 100)) (σ 18 3) h_ - v_ % 100 / 4) (fun u => ∃ (T_ : Nat → Int) (S_ : Nat → Int), u = us (us σ 24 T_) 10 S_) := by
  refine CIe_of (ty := .int) (by decide) (rfl) (Nat.le_of_ble_eq_true rfl) ?_
  intro p e R s m args below meth c Q hx hb hml hown hts hK hRf hRl hW hret ls hl
  have hown : s.vm.findClass "LoveParts" = some m.cls := hown
  have hS : va_S (AB B) s.heap s.heap [] := va_S.rf
  have hl : lv_has ls 4 [(0, .ref (B + 0)), (1, .int (iI (((h_ : Nat) : Int)))), (2, .int (iI (v_)))] := hl
  obtain ⟨o4, o0, o1, o2, o3, o5, o6, o7, oH⟩ := id hok
  obtain ⟨k8, k12, k16, k20, k24, k28, k32, k36, k40, k44⟩ := oH h_ hh
  have hq : eqR (uf (uf (uf (tkN (σ 24) (σ 18) (mn (σ 18))) (20 + h_) 1) (24 + h_) (v_ / 100)) (28 + h_) (v_ % 100)) (uf (uf (uf (σ 18) (20 + h_) 1) (24 + h_) (v_ / 100)) (28 + h_) (v_ % 100)) := eqR_uf (eqR_uf (eqR_uf (eqR_tk _ o4) (by omega) _) (by omega) _) (by omega) _
  have hko : okV (uf (uf (uf (σ 18) (20 + h_) 1) (24 + h_) (v_ / 100)) (28 + h_) (v_ % 100)) := okV_say hok hh (by omega) (by omega)
  have hko2 := eqR_okV hq hko
  have he3 : (uf (uf (uf (tkN (σ 24) (σ 18) (mn (σ 18))) (20 + h_) 1) (24 + h_) (v_ / 100)) (28 + h_) (v_ % 100)) 3 = σ 18 3 := by rw [eqR_hd hq 3 (by omega)]; unfold uf; rw [if_neg (by omega), if_neg (by omega), if_neg (by omega)]
  have he4 : (uf (uf (uf (tkN (σ 24) (σ 18) (mn (σ 18))) (20 + h_) 1) (24 + h_) (v_ / 100)) (28 + h_) (v_ % 100)) 4 = σ 18 4 := by rw [eqR_hd hq 4 (by omega)]; unfold uf; rw [if_neg (by omega), if_neg (by omega), if_neg (by omega)]
  have hmm : mn (uf (uf (uf (tkN (σ 24) (σ 18) (mn (σ 18))) (20 + h_) 1) (24 + h_) (v_ / 100)) (28 + h_) (v_ % 100)) = mn (σ 18) := congrArg Int.toNat he4
  refine lv_iload_n hx hb dX11_gainBySpeech_0 rfl (lv_at hl 2 rfl) ?_
  refine zi_bip hx hb dX11_gainBySpeech_1 (by decide) ?_
  refine zi_rem hx hb dX11_gainBySpeech_3 (by omega) (by omega) ?_
  refine lv_istore_n (lv' := [(3, .int (iI (v_ % 100))), (0, .ref (B + 0)), (1, .int (iI (((h_ : Nat) : Int)))), (2, .int (iI (v_)))]) hx hb dX11_gainBySpeech_4 rfl hl (by decide) rfl (fun ls hl => ?_)
  refine lv_aload_n hx hb dX11_gainBySpeech_5 rfl (lv_at hl 1 rfl) ?_
  refine wz_get hx hb hts hown hK hW 0 5 (by decide) e_0 rfl (by decide) inG11 w_310 rfl rfl dX11_gainBySpeech_6 ?_
  refine lv_aload_n hx hb dX11_gainBySpeech_9 rfl (lv_at hl 1 rfl) ?_
  refine wz_get hx hb hts hown hK hW 0 4 (by decide) e_0 rfl (by decide) inG11 w_309 rfl rfl dX11_gainBySpeech_10 ?_
  refine k_vv (fr := 5) (lo := 111) (σ' := (us σ 24 (tkN (σ 24) (σ 18) (mn (σ 18))))) (As := [.ref (B + 18)]) (rest := []) hx hb hml hown hts hK hRf hRl hW hS (c_X6_take l D cy B σ 24 18 (show isR 24 from isR_24) (show isR 18 from isR_18) (show 24 ≠ 18 from (by decide)) (show 0 ≤ σ 18 4 ∧ σ 18 4 ≤ 4 from (by first | assumption | omega | (simp only [tpL_25, List.length_cons, List.length_nil]; omega))) (show σ 18 7 = 0 ∨ σ 18 7 = 1 from (by first | assumption | omega | (simp only [tpL_25, List.length_cons, List.length_nil]; omega))) (show ∀ h : Nat, (h : Int) < σ 18 4 → σ 18 (20 + h) = 0 ∨ σ 18 (20 + h) = 1 from (fun h hh => (oH h hh).2.2.2.1))) vX6_take ⟨w_460, w_461⟩ w_459 (lt_R isR_24) (e_R isR_24) rfl ⟨Nat.le_of_ble_eq_true rfl, Nat.le_of_ble_eq_true rfl⟩ hl.1 rfl (Nat.le_of_ble_eq_true rfl) ⟨Nat.zero_le _, Nat.zero_le _⟩ dX11_gainBySpeech_13 (fun H locs hW hS => ?_)
  refine lv_aload_n hx hb dX11_gainBySpeech_16 rfl (lv_at hl 1 rfl) ?_
  refine wz_get hx hb hts hown hK hW 0 5 (by decide) e_0 rfl (by decide) inG11 w_310 rfl rfl dX11_gainBySpeech_17 ?_
  refine wz_get hx hb hts hown hK hW 24 0 (lt_R isR_24) (e_R isR_24) rfl (by decide) inG6 w_246 rfl rfl dX11_gainBySpeech_20 ?_
  refine lv_iload_n hx hb dX11_gainBySpeech_23 rfl (lv_at hl 2 rfl) ?_
  refine wz_ara hx hb hK hW (24 + 1) h_ 2 (lt_Ra isR_24) (e_Ra isR_24) rfl (by omega) (by omega) (by decide) rfl dX11_gainBySpeech_24 ?_
  refine lv_iload_n hx hb dX11_gainBySpeech_25 rfl (lv_at hl 3 rfl) ?_
  refine zi_bip hx hb dX11_gainBySpeech_26 (by decide) ?_
  refine zi_div hx hb dX11_gainBySpeech_28 (by omega) (by omega) ?_
  refine lv_iload_n hx hb dX11_gainBySpeech_29 rfl (lv_at hl 0 rfl) ?_
  refine k_vv (fr := 5) (lo := 111) (σ' := (us (us σ 24 (tkN (σ 24) (σ 18) (mn (σ 18)))) 24 (uf (uf (uf ((us σ 24 (tkN (σ 24) (σ 18) (mn (σ 18)))) 24) (20 + h_) 1) (24 + h_) (v_ / 100)) (28 + h_) (v_ % 100)))) (As := [.int (iI (v_ / 100)), .int (iI (v_ % 100))]) (rest := []) hx hb hml hown hts hK hRf hRl hW hS (c_X0_say l D cy B (us σ 24 (tkN (σ 24) (σ 18) (mn (σ 18)))) 24 h_ (v_ / 100) (v_ % 100) (show isR 24 from isR_24) (show h_ < 4 from (by first | assumption | omega | (simp only [tpL_25, List.length_cons, List.length_nil]; omega)))) vX0_say ⟨w_519, w_520⟩ w_518 (lt_H isR_24 (by omega)) (e_H isR_24 (by omega)) rfl ⟨Nat.le_of_ble_eq_true rfl, Nat.le_of_ble_eq_true rfl⟩ hl.1 rfl (Nat.le_of_ble_eq_true rfl) ⟨Nat.zero_le _, Nat.zero_le _⟩ dX11_gainBySpeech_30 (fun H locs hW hS => ?_)
  rw [show (us (us σ 24 (tkN (σ 24) (σ 18) (mn (σ 18)))) 24 (uf (uf (uf ((us σ 24 (tkN (σ 24) (σ 18) (mn (σ 18)))) 24) (20 + h_) 1) (24 + h_) (v_ / 100)) (28 + h_) (v_ % 100))) = us σ 24 (uf (uf (uf (tkN (σ 24) (σ 18) (mn (σ 18))) (20 + h_) 1) (24 + h_) (v_ / 100)) (28 + h_) (v_ % 100)) from (by rw [us_us, us_eq])] at hW
  refine lv_aload_n hx hb dX11_gainBySpeech_33 rfl (lv_at hl 1 rfl) ?_
  refine wz_get hx hb hts hown hK hW 0 5 (by decide) e_0 rfl (by decide) inG11 w_310 rfl rfl dX11_gainBySpeech_34 ?_
  refine lv_aload_n hx hb dX11_gainBySpeech_37 rfl (lv_at hl 1 rfl) ?_
  refine wz_get hx hb hts hown hK hW 0 5 (by decide) e_0 rfl (by decide) inG11 w_310 rfl rfl dX11_gainBySpeech_38 ?_
  refine wz_get hx hb hts hown hK hW 24 5 (lt_R isR_24) (e_R isR_24) rfl (by decide) inG6 w_261 rfl rfl dX11_gainBySpeech_41 ?_
  refine zi_top (y := σ 18 3) (by exact he3) ?_
  refine lv_aload_n hx hb dX11_gainBySpeech_44 rfl (lv_at hl 1 rfl) ?_
  refine wz_get hx hb hts hown hK hW 0 11 (by decide) e_0 rfl (by decide) inG11 w_316 rfl rfl dX11_gainBySpeech_45 ?_
  refine k_vv (fr := 5) (lo := 111) (σ' := (us (us σ 24 (uf (uf (uf (tkN (σ 24) (σ 18) (mn (σ 18))) (20 + h_) 1) (24 + h_) (v_ / 100)) (28 + h_) (v_ % 100))) 10 (cpy (mn ((us σ 24 (uf (uf (uf (tkN (σ 24) (σ 18) (mn (σ 18))) (20 + h_) 1) (24 + h_) (v_ / 100)) (28 + h_) (v_ % 100))) 24)) (shr ((us σ 24 (uf (uf (uf (tkN (σ 24) (σ 18) (mn (σ 18))) (20 + h_) 1) (24 + h_) (v_ / 100)) (28 + h_) (v_ % 100))) 24) (σ 18 3)) (σ 10)))) (As := [.int (iI (σ 18 3)), .ref (B + 10)]) (rest := []) hx hb hml hown hts hK hRf hRl hW hS (c_X6_divide l D cy B (us σ 24 (uf (uf (uf (tkN (σ 24) (σ 18) (mn (σ 18))) (20 + h_) 1) (24 + h_) (v_ / 100)) (28 + h_) (v_ % 100))) 24 (σ 18 3) (show isR 24 from isR_24) (show okV ((us σ 24 (uf (uf (uf (tkN (σ 24) (σ 18) (mn (σ 18))) (20 + h_) 1) (24 + h_) (v_ / 100)) (28 + h_) (v_ % 100))) 24) from hko2) (show 0 ≤ (σ 18 3) ∧ (σ 18 3) ≤ 3 from o3)) vX6_divide ⟨w_531, w_532⟩ w_530 (lt_R isR_24) (e_R isR_24) rfl ⟨Nat.le_of_ble_eq_true rfl, Nat.le_of_ble_eq_true rfl⟩ hl.1 rfl (Nat.le_of_ble_eq_true rfl) ⟨Nat.zero_le _, Nat.zero_le _⟩ dX11_gainBySpeech_48 (fun H locs hW hS => ?_)
  refine lv_aload_n hx hb dX11_gainBySpeech_51 rfl (lv_at hl 1 rfl) ?_
  refine wz_get hx hb hts hown hK hW 0 11 (by decide) e_0 rfl (by decide) inG11 w_316 rfl rfl dX11_gainBySpeech_52 ?_
  refine lv_iload_n hx hb dX11_gainBySpeech_55 rfl (lv_at hl 2 rfl) ?_
  refine wz_ald hx hb hK hW 10 h_ (by decide) e_10 (by omega) (by omega) (by decide) dX11_gainBySpeech_56 ?_
  refine zi_top (y := shr (uf (uf (uf (σ 18) (20 + h_) 1) (24 + h_) (v_ / 100)) (28 + h_) (v_ % 100)) (σ 18 3) h_) (by rw [us_eq]; show cpy (mn (uf (uf (uf (tkN (σ 24) (σ 18) (mn (σ 18))) (20 + h_) 1) (24 + h_) (v_ / 100)) (28 + h_) (v_ % 100))) (shr (uf (uf (uf (tkN (σ 24) (σ 18) (mn (σ 18))) (20 + h_) 1) (24 + h_) (v_ / 100)) (28 + h_) (v_ % 100)) (σ 18 3)) _ h_ = _; unfold cpy; rw [if_pos (by rw [hmm]; unfold mn; omega)]; exact eqR_shr hq (by omega) _ (by omega)) ?_
  refine lv_iload_n hx hb dX11_gainBySpeech_57 rfl (lv_at hl 0 rfl) ?_
  refine zi_con hx hb dX11_gainBySpeech_58 ?_
  refine zi_div hx hb dX11_gainBySpeech_59 (by omega) (by omega) ?_
  refine zi_sub hx hb dX11_gainBySpeech_60 ?_
  exact hret _ _ _ _ _ _ dX11_gainBySpeech_61 hW hS ⟨rfl, _, _, rfl⟩
