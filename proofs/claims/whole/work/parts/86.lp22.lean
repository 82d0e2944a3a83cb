
set_option maxRecDepth 100000 in
set_option maxHeartbeats 4000000 in
theorem c_X11_realm (l : Launch) (D : va_G) (cy : Nat → ClassId) (B : Nat) (σ : Sg)  (hri : RI0 (σ)) (htk : rdC (σ) 2 2 = 0 → okV (rdC (σ) 24)) : CI l yX11_realm cX11_realm 1 (some .int) 6 131 D cy B [.ref (B + 0)] σ (if rdC (σ) 2 2 = 0 then rdC (σ) 24 4 else -1000100 - rdC (σ) 2 3) (if rdC (σ) 2 2 = 0 then up (up (us (rdZ (σ)) 18 (tkN ((rdZ (σ)) 18) (rdC (σ) 24) (mn (rdC (σ) 24)))) 0 8 0) 0 9 0 else up (rdZ (σ)) 0 14 (rdC (σ) 2 2)) := by
  refine CI_of (ty := .int) (by decide) (rfl) (Nat.le_of_ble_eq_true rfl) ?_
  intro p e R s m args below meth c Q hx hb hml hown hts hK hRf hRl hW hret ls hl
  have hown : s.vm.findClass "LoveParts" = some m.cls := hown
  have hS : va_S (AB B) s.heap s.heap [] := va_S.rf
  have hl : lv_has ls 1 [(0, .ref (B + 0))] := hl
  have hr0 : RI (rdb σ) := RI_24 (RI_cnt hri.up)
  have hrc : RI (rdC σ) := RI_crr 5 0 (RI_9 hr0)
  have hf2 : 0 ≤ rdC (σ) 2 2 ∧ rdC (σ) 2 2 ≤ 3 := hrc.1
  refine lv_aload_n hx hb dX11_realm_0 rfl (lv_at hl 0 rfl) ?_
  refine wz_get hx hb hts hown hK hW 0 1 (by decide) e_0 rfl (by decide) inG11 w_306 rfl rfl dX11_realm_1 ?_
  refine lv_aload_n hx hb dX11_realm_4 rfl (lv_at hl 0 rfl) ?_
  refine wz_get hx hb hts hown hK hW 0 5 (by decide) e_0 rfl (by decide) inG11 w_310 rfl rfl dX11_realm_5 ?_
  refine lv_aload_n hx hb dX11_realm_8 rfl (lv_at hl 0 rfl) ?_
  refine wz_get hx hb hts hown hK hW 0 2 (by decide) e_0 rfl (by decide) inG11 w_307 rfl rfl dX11_realm_9 ?_
  refine k_vv (fr := 6) (lo := 131) (σ' := (rdZ (σ))) (As := [.ref (B + 24), .ref (B + 4)]) (rest := []) hx hb hml hown hts hK hRf hRl hW hS (c_X5_read l D cy B σ  (show RI0 (σ) from hri)) vX5_read ⟨w_416, w_417⟩ w_415 (by decide) e_2 rfl ⟨Nat.le_of_ble_eq_true rfl, Nat.le_of_ble_eq_true rfl⟩ hl.1 rfl (Nat.le_of_ble_eq_true rfl) ⟨Nat.zero_le _, Nat.zero_le _⟩ dX11_realm_12 (fun H locs hW hS => ?_)
  rw [show (rdZ (σ)) = (rdZ (σ)) from (by rfl)] at hW
  refine lv_aload_n hx hb dX11_realm_15 rfl (lv_at hl 0 rfl) ?_
  refine wz_get hx hb hts hown hK hW 0 1 (by decide) e_0 rfl (by decide) inG11 w_306 rfl rfl dX11_realm_16 ?_
  refine wz_get hx hb hts hown hK hW 2 2 (by decide) e_2 rfl (by decide) inG5 w_89 rfl rfl dX11_realm_19 ?_
  refine zi_top (y := rdC (σ) 2 2) (by rfl) ?_
  refine zi_eq (tgt := 47) hx hb dX11_realm_22 (by decide) (by omega) (fun c22 => ?_) (fun c22 => ?_)
  · have hok2 := htk (by omega)
    obtain ⟨o4, o0, o1, o2, o3, o5, o6, o7, oH⟩ := id hok2
    refine lv_aload_n hx hb dX11_realm_47 rfl (lv_at hl 0 rfl) ?_
    refine wz_get hx hb hts hown hK hW 0 4 (by decide) e_0 rfl (by decide) inG11 w_309 rfl rfl dX11_realm_48 ?_
    refine lv_aload_n hx hb dX11_realm_51 rfl (lv_at hl 0 rfl) ?_
    refine wz_get hx hb hts hown hK hW 0 5 (by decide) e_0 rfl (by decide) inG11 w_310 rfl rfl dX11_realm_52 ?_
    refine k_vv (fr := 6) (lo := 131) (σ' := (us (rdZ (σ)) 18 (tkN ((rdZ (σ)) 18) ((rdZ (σ)) 24) (mn ((rdZ (σ)) 24))))) (As := [.ref (B + 24)]) (rest := []) hx hb hml hown hts hK hRf hRl hW hS (c_X6_take l D cy B (rdZ (σ)) 18 24 (show isR 18 from isR_18) (show isR 24 from isR_24) (show 18 ≠ 24 from (by decide)) (show 0 ≤ (rdZ (σ)) 24 4 ∧ (rdZ (σ)) 24 4 ≤ 4 from (by show 0 ≤ rdC (σ) 24 4 ∧ rdC (σ) 24 4 ≤ 4; omega)) (show (rdZ (σ)) 24 7 = 0 ∨ (rdZ (σ)) 24 7 = 1 from o7) (show ∀ h : Nat, (h : Int) < (rdZ (σ)) 24 4 → (rdZ (σ)) 24 (20 + h) = 0 ∨ (rdZ (σ)) 24 (20 + h) = 1 from (fun h hh => (oH h hh).2.2.2.1))) vX6_take ⟨w_460, w_461⟩ w_459 (lt_R isR_18) (e_R isR_18) rfl ⟨Nat.le_of_ble_eq_true rfl, Nat.le_of_ble_eq_true rfl⟩ hl.1 rfl (Nat.le_of_ble_eq_true rfl) ⟨Nat.zero_le _, Nat.zero_le _⟩ dX11_realm_55 (fun H locs hW hS => ?_)
    refine lv_aload_n hx hb dX11_realm_58 rfl (lv_at hl 0 rfl) ?_
    refine k_vv (fr := 6) (lo := 131) (σ' := (up (up (us (rdZ (σ)) 18 (tkN ((rdZ (σ)) 18) ((rdZ (σ)) 24) (mn ((rdZ (σ)) 24)))) 0 8 0) 0 9 0)) (As := []) (rest := []) hx hb hml hown hts hK hRf hRl hW hS (c_X11_forgetActs l D cy B (us (rdZ (σ)) 18 (tkN ((rdZ (σ)) 18) ((rdZ (σ)) 24) (mn ((rdZ (σ)) 24))))  ) vX11_forgetActs ⟨w_469, w_2⟩ w_467 (by decide) e_0 rfl ⟨Nat.le_of_ble_eq_true rfl, Nat.le_of_ble_eq_true rfl⟩ hl.1 rfl (Nat.le_of_ble_eq_true rfl) ⟨Nat.zero_le _, Nat.zero_le _⟩ dX11_realm_59 (fun H locs hW hS => ?_)
    refine lv_aload_n hx hb dX11_realm_62 rfl (lv_at hl 0 rfl) ?_
    refine wz_get hx hb hts hown hK hW 0 4 (by decide) e_0 rfl (by decide) inG11 w_309 rfl rfl dX11_realm_63 ?_
    refine wz_get hx hb hts hown hK hW 18 1 (lt_R isR_18) (e_R isR_18) rfl (by decide) inG6 w_249 rfl rfl dX11_realm_66 ?_
    refine zi_top (y := rdC (σ) 24 4) (by rfl) ?_
    exact hret _ _ _ _ _ _ dX11_realm_69 hW hS ⟨by (repeat' split) <;> first | rfl | omega, by (repeat' split) <;> first | rfl | omega⟩
  · refine lv_aload_n hx hb dX11_realm_25 rfl (lv_at hl 0 rfl) ?_
    refine lv_aload_n hx hb dX11_realm_26 rfl (lv_at hl 0 rfl) ?_
    refine wz_get hx hb hts hown hK hW 0 1 (by decide) e_0 rfl (by decide) inG11 w_306 rfl rfl dX11_realm_27 ?_
    refine wz_get hx hb hts hown hK hW 2 2 (by decide) e_2 rfl (by decide) inG5 w_89 rfl rfl dX11_realm_30 ?_
    refine zi_top (y := rdC (σ) 2 2) (by rfl) ?_
    refine wz_put (σ' := (up (rdZ (σ)) 0 14 (rdC (σ) 2 2))) (ty := .int) hx hb hts hown hK hW hS 0 14 tyX11 (by decide) e_0 rfl (by decide) inG11 tyX11_ok nmX11 w_319 ⟨rfl, rfl, Nat.le_of_ble_eq_true rfl⟩ (by decide +kernel) ⟨rfl, rfl⟩ p_0_14 dX11_realm_33 (fun H locs hW hS => ?_)
    refine k_ldc hx hb hown hts (v := -1000100) (by decide) w_458 dX11_realm_36 ?_
    refine lv_aload_n hx hb dX11_realm_38 rfl (lv_at hl 0 rfl) ?_
    refine wz_get hx hb hts hown hK hW 0 1 (by decide) e_0 rfl (by decide) inG11 w_306 rfl rfl dX11_realm_39 ?_
    refine wz_get hx hb hts hown hK hW 2 3 (by decide) e_2 rfl (by decide) inG5 w_91 rfl rfl dX11_realm_42 ?_
    refine zi_top (y := rdC (σ) 2 3) (by rfl) ?_
    refine zi_sub hx hb dX11_realm_45 ?_
    exact hret _ _ _ _ _ _ dX11_realm_46 hW hS ⟨by (repeat' split) <;> first | rfl | omega, by (repeat' split) <;> first | rfl | omega⟩
