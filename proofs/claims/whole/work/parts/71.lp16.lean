
set_option maxRecDepth 100000 in
set_option maxHeartbeats 4000000 in
theorem c_X11_speak (l : Launch) (D : va_G) (cy : Nat → ClassId) (B : Nat) (σ : Sg) (h_ : Int) (w_ : Int) (k_ : Int) (r_h_ : -2147483648 ≤ h_ ∧ h_ < 2147483648) (r_w_ : -2147483648 ≤ w_ ∧ w_ < 2147483648) (r_k_ : -2147483648 ≤ k_ ∧ k_ < 2147483648) (hok : σ 18 4 = 0 ∨ okV (σ 18)) (ha8 : 0 ≤ σ 0 8 ∧ σ 0 8 ≤ 24) (ha9 : 0 ≤ σ 0 9 ∧ σ 0 9 ≤ 23) : CI l yX11_speak cX11_speak 5 (some .int) 3 63 D cy B [.ref (B + 0), .int (iI (h_)), .int (iI (w_)), .int (iI (k_))] σ (if ¬ (0 ≤ h_ ∧ h_ ≤ σ 18 4 - 1) ∨ ¬ (0 ≤ w_ ∧ w_ ≤ 18) ∨ ¬ (0 ≤ k_ ∧ k_ ≤ 40) then -1000001 else if σ 18 7 = 1 then -1000002 else own (σ 18) h_.toNat) (if ¬ (0 ≤ h_ ∧ h_ ≤ σ 18 4 - 1) ∨ ¬ (0 ≤ w_ ∧ w_ ≤ 18) ∨ ¬ (0 ≤ k_ ∧ k_ ≤ 40) then σ else if σ 18 7 = 1 then σ else us (kU (σ)) 18 (uf (uf (uf (σ 18) (20 + h_.toNat) 1) (24 + h_.toNat) w_) (28 + h_.toNat) k_)) := by
  refine CI_of (ty := .int) (by decide) (rfl) (Nat.le_of_ble_eq_true rfl) ?_
  intro p e R s m args below meth c Q hx hb hml hown hts hK hRf hRl hW hret ls hl
  have hown : s.vm.findClass "LoveParts" = some m.cls := hown
  have hS : va_S (AB B) s.heap s.heap [] := va_S.rf
  have hl : lv_has ls 5 [(0, .ref (B + 0)), (1, .int (iI (h_))), (2, .int (iI (w_))), (3, .int (iI (k_)))] := hl
  have f4 : 0 ≤ σ 18 4 ∧ σ 18 4 ≤ 4 := by rcases hok with h | h; (· omega); (· exact ⟨by have := h.1; omega, h.1.2⟩)
  refine lv_aload_n hx hb dX11_speak_0 rfl (lv_at hl 0 rfl) ?_
  refine lv_iload_n hx hb dX11_speak_1 rfl (lv_at hl 1 rfl) ?_
  refine k_vi (fr := 3) (lo := 63) (r := (if 0 ≤ h_ ∧ h_ ≤ σ 18 4 - 1 then 1 else 0)) (As := [.int (iI (h_))]) (rest := []) hx hb hml hown hts hK hRf hRl hW hS (c_X11_isHeir l D cy B σ h_ (show -2147483648 ≤ h_ ∧ h_ < 2147483648 from (by first | assumption | omega | (simp only [tpL_25, tcL_1, List.length_cons, List.length_nil]; omega))) (show 0 ≤ σ 18 4 ∧ σ 18 4 ≤ 4 from (by first | assumption | omega | (simp only [tpL_25, tcL_1, List.length_cons, List.length_nil]; omega)))) vX11_isHeir ⟨w_486, w_3⟩ w_484 (by decide) e_0 rfl ⟨Nat.le_of_ble_eq_true rfl, Nat.le_of_ble_eq_true rfl⟩ hl.1 rfl (Nat.le_of_ble_eq_true rfl) ⟨Nat.zero_le _, Nat.zero_le _⟩ dX11_speak_2 (fun H locs hW hS => ?_)
  refine zi_beq (tgt := 28) hx hb dX11_speak_5 (by decide) (fun c5 => ?_) (fun c5 => ?_)
  · refine k_ldc hx hb hown hts (v := -1000001) (by decide) w_361 dX11_speak_28 ?_
    exact hret _ _ _ _ _ _ dX11_speak_30 hW hS ⟨by (try simp only [Int.toNat_natCast]); (repeat' split) <;> first | rfl | omega, by (try simp only [Int.toNat_natCast]); (repeat' split) <;> first | rfl | omega⟩
  · obtain ⟨n_, rfl⟩ : ∃ h : Nat, h_ = (h : Int) := ⟨h_.toNat, by omega⟩
    have hok := hok.resolve_left (by omega)
    obtain ⟨o4, o0, o1, o2, o3, o5, o6, o7, oH⟩ := id hok
    obtain ⟨k8, k12, k16, k20, k24, k28, k32, k36, k40, k44⟩ := oH n_ (by omega)
    refine lv_iload_n hx hb dX11_speak_8 rfl (lv_at hl 2 rfl) ?_
    refine zi_con hx hb dX11_speak_9 ?_
    refine zi_bip hx hb dX11_speak_10 (by decide) ?_
    refine k_si (fr := 3) (lo := 63) (r := (if 0 ≤ w_ ∧ w_ ≤ 18 then 1 else 0)) (As := [.int (iI (w_)), .int (iI (0)), .int (iI (18))]) (rest := []) hx hb hml hown hts hK hRf hRl hW hS (c_X11_within l D cy B σ w_ 0 18 (show -2147483648 ≤ w_ ∧ w_ < 2147483648 from (by first | assumption | omega | (simp only [tpL_25, tcL_1, List.length_cons, List.length_nil]; omega))) (show -2147483648 ≤ 0 ∧ 0 < 2147483648 from (by first | assumption | omega | (simp only [tpL_25, tcL_1, List.length_cons, List.length_nil]; omega))) (show -2147483648 ≤ 18 ∧ 18 < 2147483648 from (by first | assumption | omega | (simp only [tpL_25, tcL_1, List.length_cons, List.length_nil]; omega)))) vX11_within w_359 w_358 ⟨Nat.le_of_ble_eq_true rfl, Nat.le_of_ble_eq_true rfl⟩ hl.1 rfl (Nat.le_of_ble_eq_true rfl) ⟨Nat.zero_le _, Nat.zero_le _⟩ dX11_speak_12 (fun H locs hW hS => ?_)
    refine zi_beq (tgt := 28) hx hb dX11_speak_15 (by decide) (fun c15 => ?_) (fun c15 => ?_)
    · refine k_ldc hx hb hown hts (v := -1000001) (by decide) w_361 dX11_speak_28 ?_
      exact hret _ _ _ _ _ _ dX11_speak_30 hW hS ⟨by (try simp only [Int.toNat_natCast]); (repeat' split) <;> first | rfl | omega, by (try simp only [Int.toNat_natCast]); (repeat' split) <;> first | rfl | omega⟩
    · refine lv_iload_n hx hb dX11_speak_18 rfl (lv_at hl 3 rfl) ?_
      refine zi_con hx hb dX11_speak_19 ?_
      refine zi_bip hx hb dX11_speak_20 (by decide) ?_
      refine k_si (fr := 3) (lo := 63) (r := (if 0 ≤ k_ ∧ k_ ≤ 40 then 1 else 0)) (As := [.int (iI (k_)), .int (iI (0)), .int (iI (40))]) (rest := []) hx hb hml hown hts hK hRf hRl hW hS (c_X11_within l D cy B σ k_ 0 40 (show -2147483648 ≤ k_ ∧ k_ < 2147483648 from (by first | assumption | omega | (simp only [tpL_25, tcL_1, List.length_cons, List.length_nil]; omega))) (show -2147483648 ≤ 0 ∧ 0 < 2147483648 from (by first | assumption | omega | (simp only [tpL_25, tcL_1, List.length_cons, List.length_nil]; omega))) (show -2147483648 ≤ 40 ∧ 40 < 2147483648 from (by first | assumption | omega | (simp only [tpL_25, tcL_1, List.length_cons, List.length_nil]; omega)))) vX11_within w_359 w_358 ⟨Nat.le_of_ble_eq_true rfl, Nat.le_of_ble_eq_true rfl⟩ hl.1 rfl (Nat.le_of_ble_eq_true rfl) ⟨Nat.zero_le _, Nat.zero_le _⟩ dX11_speak_22 (fun H locs hW hS => ?_)
      refine zi_bne (tgt := 31) hx hb dX11_speak_25 (by decide) (fun c25 => ?_) (fun c25 => ?_)
      · refine lv_aload_n hx hb dX11_speak_31 rfl (lv_at hl 0 rfl) ?_
        refine wz_get hx hb hts hown hK hW 0 4 (by decide) e_0 rfl (by decide) inG11 w_309 rfl rfl dX11_speak_32 ?_
        refine wz_get hx hb hts hown hK hW 18 8 (lt_R isR_18) (e_R isR_18) rfl (by decide) inG6 w_267 rfl rfl dX11_speak_35 ?_
        refine zi_eq (tgt := 44) hx hb dX11_speak_38 (by decide) (by omega) (fun c38 => ?_) (fun c38 => ?_)
        · refine lv_aload_n hx hb dX11_speak_44 rfl (lv_at hl 0 rfl) ?_
          refine wz_get hx hb hts hown hK hW 0 4 (by decide) e_0 rfl (by decide) inG11 w_309 rfl rfl dX11_speak_45 ?_
          refine lv_iload_n hx hb dX11_speak_48 rfl (lv_at hl 1 rfl) ?_
          refine k_vi (fr := 3) (lo := 63) (r := own (σ 18) n_) (As := [.int (iI (((n_ : Nat) : Int)))]) (rest := []) hx hb hml hown hts hK hRf hRl hW hS (c_X6_ownWords l D cy B σ 18 n_ (show isR 18 from isR_18) (show okV (σ 18) from (by first | assumption | omega | (simp only [tpL_25, tcL_1, List.length_cons, List.length_nil]; omega))) (show (n_ : Int) < σ 18 4 from (by first | assumption | omega | (simp only [tpL_25, tcL_1, List.length_cons, List.length_nil]; omega)))) vX6_ownWords ⟨w_489, w_490⟩ w_488 (lt_R isR_18) (e_R isR_18) rfl ⟨Nat.le_of_ble_eq_true rfl, Nat.le_of_ble_eq_true rfl⟩ hl.1 rfl (Nat.le_of_ble_eq_true rfl) ⟨Nat.zero_le _, Nat.zero_le _⟩ dX11_speak_49 (fun H locs hW hS => ?_)
          refine lv_istore (lv' := [(4, .int (iI (own (σ 18) n_))), (0, .ref (B + 0)), (1, .int (iI (((n_ : Nat) : Int)))), (2, .int (iI (w_))), (3, .int (iI (k_)))]) hx hb dX11_speak_52 hl (by decide) rfl (fun ls hl => ?_)
          refine lv_aload_n hx hb dX11_speak_54 rfl (lv_at hl 1 rfl) ?_
          refine k_vv (fr := 3) (lo := 63) (σ' := (kU σ)) (As := []) (rest := []) hx hb hml hown hts hK hRf hRl hW hS (c_X11_keepForUndo l D cy B σ  (show okV (σ 18) from (by first | assumption | omega | (simp only [tpL_25, tcL_1, List.length_cons, List.length_nil]; omega))) (show 0 ≤ σ 0 8 ∧ σ 0 8 ≤ 24 from (by first | assumption | omega | (simp only [tpL_25, tcL_1, List.length_cons, List.length_nil]; omega))) (show 0 ≤ σ 0 9 ∧ σ 0 9 ≤ 23 from (by first | assumption | omega | (simp only [tpL_25, tcL_1, List.length_cons, List.length_nil]; omega)))) vX11_keepForUndo ⟨w_515, w_4⟩ w_513 (by decide) e_0 rfl ⟨Nat.le_of_ble_eq_true rfl, Nat.le_of_ble_eq_true rfl⟩ hl.1 rfl (Nat.le_of_ble_eq_true rfl) ⟨Nat.zero_le _, Nat.zero_le _⟩ dX11_speak_55 (fun H locs hW hS => ?_)
          refine lv_aload_n hx hb dX11_speak_58 rfl (lv_at hl 1 rfl) ?_
          refine wz_get hx hb hts hown hK hW 0 4 (by decide) e_0 rfl (by decide) inG11 w_309 rfl rfl dX11_speak_59 ?_
          refine wz_get hx hb hts hown hK hW 18 0 (lt_R isR_18) (e_R isR_18) rfl (by decide) inG6 w_246 rfl rfl dX11_speak_62 ?_
          refine lv_iload_n hx hb dX11_speak_65 rfl (lv_at hl 2 rfl) ?_
          refine wz_ara hx hb hK hW (18 + 1) n_ 2 (lt_Ra isR_18) (e_Ra isR_18) rfl (by omega) (by omega) (by decide) rfl dX11_speak_66 ?_
          refine lv_iload_n hx hb dX11_speak_67 rfl (lv_at hl 3 rfl) ?_
          refine lv_iload_n hx hb dX11_speak_68 rfl (lv_at hl 4 rfl) ?_
          refine k_vv (fr := 3) (lo := 63) (σ' := (us (kU σ) 18 (uf (uf (uf ((kU σ) 18) (20 + n_) 1) (24 + n_) w_) (28 + n_) k_))) (As := [.int (iI (w_)), .int (iI (k_))]) (rest := []) hx hb hml hown hts hK hRf hRl hW hS (c_X0_say l D cy B (kU σ) 18 n_ w_ k_ (show isR 18 from isR_18) (show n_ < 4 from (by first | assumption | omega | (simp only [tpL_25, tcL_1, List.length_cons, List.length_nil]; omega)))) vX0_say ⟨w_519, w_520⟩ w_518 (lt_H isR_18 (by omega)) (e_H isR_18 (by omega)) rfl ⟨Nat.le_of_ble_eq_true rfl, Nat.le_of_ble_eq_true rfl⟩ hl.1 rfl (Nat.le_of_ble_eq_true rfl) ⟨Nat.zero_le _, Nat.zero_le _⟩ dX11_speak_69 (fun H locs hW hS => ?_)
          refine lv_iload hx hb dX11_speak_72 (lv_at hl 0 rfl) ?_
          exact hret _ _ _ _ _ _ dX11_speak_74 hW hS ⟨by rw [if_neg (by omega), if_neg (by omega), Int.toNat_natCast], by rw [if_neg (by omega), if_neg (by omega), Int.toNat_natCast, kU_c σ (c := 18) (by omega) ha9]⟩
        · refine k_ldc hx hb hown hts (v := -1000002) (by decide) w_479 dX11_speak_41 ?_
          exact hret _ _ _ _ _ _ dX11_speak_43 hW hS ⟨by (try simp only [Int.toNat_natCast]); (repeat' split) <;> first | rfl | omega, by (try simp only [Int.toNat_natCast]); (repeat' split) <;> first | rfl | omega⟩
      · refine k_ldc hx hb hown hts (v := -1000001) (by decide) w_361 dX11_speak_28 ?_
        exact hret _ _ _ _ _ _ dX11_speak_30 hW hS ⟨by (try simp only [Int.toNat_natCast]); (repeat' split) <;> first | rfl | omega, by (try simp only [Int.toNat_natCast]); (repeat' split) <;> first | rfl | omega⟩

set_option maxRecDepth 100000 in
set_option maxHeartbeats 4000000 in
theorem c_X11_rule (l : Launch) (D : va_G) (cy : Nat → ClassId) (B : Nat) (σ : Sg) (z_ : Int) (r_z_ : -2147483648 ≤ z_ ∧ z_ < 2147483648) (hok : σ 18 4 = 0 ∨ okV (σ 18)) (ha8 : 0 ≤ σ 0 8 ∧ σ 0 8 ≤ 24) (ha9 : 0 ≤ σ 0 9 ∧ σ 0 9 ≤ 23) : CI l yX11_rule cX11_rule 3 (some .int) 3 63 D cy B [.ref (B + 0), .int (iI (z_))] σ (if σ 18 4 = 0 then -1000002 else if ¬ (0 ≤ z_ ∧ z_ ≤ 3) then -1000001 else if σ 18 7 = 1 then -1000002 else σ 18 3) (if σ 18 4 = 0 then σ else if ¬ (0 ≤ z_ ∧ z_ ≤ 3) then σ else if σ 18 7 = 1 then σ else us (kU (σ)) 18 (uf (σ 18) 3 z_)) := by
  refine CI_of (ty := .int) (by decide) (rfl) (Nat.le_of_ble_eq_true rfl) ?_
  intro p e R s m args below meth c Q hx hb hml hown hts hK hRf hRl hW hret ls hl
  have hown : s.vm.findClass "LoveParts" = some m.cls := hown
  have hS : va_S (AB B) s.heap s.heap [] := va_S.rf
  have hl : lv_has ls 3 [(0, .ref (B + 0)), (1, .int (iI (z_)))] := hl
  have f4 : 0 ≤ σ 18 4 ∧ σ 18 4 ≤ 4 := by rcases hok with h | h; (· omega); (· exact ⟨by have := h.1; omega, h.1.2⟩)
  refine lv_aload_n hx hb dX11_rule_0 rfl (lv_at hl 0 rfl) ?_
  refine k_vi (fr := 3) (lo := 63) (r := (if σ 18 4 = 0 then 1 else 0)) (As := []) (rest := []) hx hb hml hown hts hK hRf hRl hW hS (c_X11_noRealm l D cy B σ  (show 0 ≤ σ 18 4 ∧ σ 18 4 ≤ 4 from (by first | assumption | omega | (simp only [tpL_25, tcL_1, List.length_cons, List.length_nil]; omega)))) vX11_noRealm ⟨w_528, w_5⟩ w_526 (by decide) e_0 rfl ⟨Nat.le_of_ble_eq_true rfl, Nat.le_of_ble_eq_true rfl⟩ hl.1 rfl (Nat.le_of_ble_eq_true rfl) ⟨Nat.zero_le _, Nat.zero_le _⟩ dX11_rule_1 (fun H locs hW hS => ?_)
  refine zi_beq (tgt := 10) hx hb dX11_rule_4 (by decide) (fun c4 => ?_) (fun c4 => ?_)
  · have hok := hok.resolve_left (by omega)
    obtain ⟨o4, o0, o1, o2, o3, o5, o6, o7, oH⟩ := id hok
    refine lv_iload_n hx hb dX11_rule_10 rfl (lv_at hl 1 rfl) ?_
    refine zi_con hx hb dX11_rule_11 ?_
    refine zi_con hx hb dX11_rule_12 ?_
    refine k_si (fr := 3) (lo := 63) (r := (if 0 ≤ z_ ∧ z_ ≤ 3 then 1 else 0)) (As := [.int (iI (z_)), .int (iI (0)), .int (iI (3))]) (rest := []) hx hb hml hown hts hK hRf hRl hW hS (c_X11_within l D cy B σ z_ 0 3 (show -2147483648 ≤ z_ ∧ z_ < 2147483648 from (by first | assumption | omega | (simp only [tpL_25, tcL_1, List.length_cons, List.length_nil]; omega))) (show -2147483648 ≤ 0 ∧ 0 < 2147483648 from (by first | assumption | omega | (simp only [tpL_25, tcL_1, List.length_cons, List.length_nil]; omega))) (show -2147483648 ≤ 3 ∧ 3 < 2147483648 from (by first | assumption | omega | (simp only [tpL_25, tcL_1, List.length_cons, List.length_nil]; omega)))) vX11_within w_359 w_358 ⟨Nat.le_of_ble_eq_true rfl, Nat.le_of_ble_eq_true rfl⟩ hl.1 rfl (Nat.le_of_ble_eq_true rfl) ⟨Nat.zero_le _, Nat.zero_le _⟩ dX11_rule_13 (fun H locs hW hS => ?_)
    refine zi_bne (tgt := 22) hx hb dX11_rule_16 (by decide) (fun c16 => ?_) (fun c16 => ?_)
    · refine lv_aload_n hx hb dX11_rule_22 rfl (lv_at hl 0 rfl) ?_
      refine wz_get hx hb hts hown hK hW 0 4 (by decide) e_0 rfl (by decide) inG11 w_309 rfl rfl dX11_rule_23 ?_
      refine wz_get hx hb hts hown hK hW 18 8 (lt_R isR_18) (e_R isR_18) rfl (by decide) inG6 w_267 rfl rfl dX11_rule_26 ?_
      refine zi_eq (tgt := 35) hx hb dX11_rule_29 (by decide) (by omega) (fun c29 => ?_) (fun c29 => ?_)
      · refine lv_aload_n hx hb dX11_rule_35 rfl (lv_at hl 0 rfl) ?_
        refine wz_get hx hb hts hown hK hW 0 4 (by decide) e_0 rfl (by decide) inG11 w_309 rfl rfl dX11_rule_36 ?_
        refine wz_get hx hb hts hown hK hW 18 5 (lt_R isR_18) (e_R isR_18) rfl (by decide) inG6 w_261 rfl rfl dX11_rule_39 ?_
        refine lv_istore_n (lv' := [(2, .int (iI (σ 18 3))), (0, .ref (B + 0)), (1, .int (iI (z_)))]) hx hb dX11_rule_42 rfl hl (by decide) rfl (fun ls hl => ?_)
        refine lv_aload_n hx hb dX11_rule_43 rfl (lv_at hl 1 rfl) ?_
        refine k_vv (fr := 3) (lo := 63) (σ' := (kU σ)) (As := []) (rest := []) hx hb hml hown hts hK hRf hRl hW hS (c_X11_keepForUndo l D cy B σ  (show okV (σ 18) from (by first | assumption | omega | (simp only [tpL_25, tcL_1, List.length_cons, List.length_nil]; omega))) (show 0 ≤ σ 0 8 ∧ σ 0 8 ≤ 24 from (by first | assumption | omega | (simp only [tpL_25, tcL_1, List.length_cons, List.length_nil]; omega))) (show 0 ≤ σ 0 9 ∧ σ 0 9 ≤ 23 from (by first | assumption | omega | (simp only [tpL_25, tcL_1, List.length_cons, List.length_nil]; omega)))) vX11_keepForUndo ⟨w_515, w_4⟩ w_513 (by decide) e_0 rfl ⟨Nat.le_of_ble_eq_true rfl, Nat.le_of_ble_eq_true rfl⟩ hl.1 rfl (Nat.le_of_ble_eq_true rfl) ⟨Nat.zero_le _, Nat.zero_le _⟩ dX11_rule_44 (fun H locs hW hS => ?_)
        refine lv_aload_n hx hb dX11_rule_47 rfl (lv_at hl 1 rfl) ?_
        refine wz_get hx hb hts hown hK hW 0 4 (by decide) e_0 rfl (by decide) inG11 w_309 rfl rfl dX11_rule_48 ?_
        refine lv_iload_n hx hb dX11_rule_51 rfl (lv_at hl 2 rfl) ?_
        refine wz_put (σ' := (up (kU σ) 18 3 z_)) (ty := .int) hx hb hts hown hK hW hS 18 5 tyX6 (lt_R isR_18) (e_R isR_18) rfl (by decide) inG6 tyX6_ok nmX6 w_261 ⟨rfl, rfl, Nat.le_of_ble_eq_true rfl⟩ (by decide +kernel) ⟨rfl, rfl⟩ (p_R_5 isR_18) dX11_rule_52 (fun H locs hW hS => ?_)
        refine lv_iload_n hx hb dX11_rule_55 rfl (lv_at hl 0 rfl) ?_
        exact hret _ _ _ _ _ _ dX11_rule_56 hW hS ⟨by rw [if_neg (by omega), if_neg (by omega), if_neg (by omega)], by rw [if_neg (by omega), if_neg (by omega), if_neg (by omega)]; unfold up; rw [kU_c σ (c := 18) (by omega) ha9]⟩
      · refine k_ldc hx hb hown hts (v := -1000002) (by decide) w_479 dX11_rule_32 ?_
        exact hret _ _ _ _ _ _ dX11_rule_34 hW hS ⟨by (try simp only [Int.toNat_natCast]); (repeat' split) <;> first | rfl | omega, by (try simp only [Int.toNat_natCast]); (repeat' split) <;> first | rfl | omega⟩
    · refine k_ldc hx hb hown hts (v := -1000001) (by decide) w_361 dX11_rule_19 ?_
      exact hret _ _ _ _ _ _ dX11_rule_21 hW hS ⟨by (try simp only [Int.toNat_natCast]); (repeat' split) <;> first | rfl | omega, by (try simp only [Int.toNat_natCast]); (repeat' split) <;> first | rfl | omega⟩
  · refine k_ldc hx hb hown hts (v := -1000002) (by decide) w_479 dX11_rule_7 ?_
    exact hret _ _ _ _ _ _ dX11_rule_9 hW hS ⟨by (try simp only [Int.toNat_natCast]); (repeat' split) <;> first | rfl | omega, by (try simp only [Int.toNat_natCast]); (repeat' split) <;> first | rfl | omega⟩

set_option maxRecDepth 100000 in
set_option maxHeartbeats 4000000 in
theorem c_X11_part (l : Launch) (D : va_G) (cy : Nat → ClassId) (B : Nat) (σ : Sg)  (hok : σ 18 4 = 0 ∨ okV (σ 18)) (ha8 : 0 ≤ σ 0 8 ∧ σ 0 8 ≤ 24) (ha9 : 0 ≤ σ 0 9 ∧ σ 0 9 ≤ 23) : CI l yX11_part cX11_part 2 (some .int) 5 111 D cy B [.ref (B + 0)] σ (if σ 18 4 = 0 ∨ σ 18 7 = 1 then -1000002 else ((fg (shr (σ 18) (σ 18 3)) (mn (σ 18)) : Nat) : Int)) (if σ 18 4 = 0 ∨ σ 18 7 = 1 then σ else us (us (kU (σ)) 10 (cpy (mn (σ 18)) (shr (σ 18) (σ 18 3)) (σ 10))) 18 (uf (cpo 32 (mn (σ 18)) (shr (σ 18) (σ 18 3)) (σ 18)) 7 1)) := by
  refine CI_of (ty := .int) (by decide) (rfl) (Nat.le_of_ble_eq_true rfl) ?_
  intro p e R s m args below meth c Q hx hb hml hown hts hK hRf hRl hW hret ls hl
  have hown : s.vm.findClass "LoveParts" = some m.cls := hown
  have hS : va_S (AB B) s.heap s.heap [] := va_S.rf
  have hl : lv_has ls 2 [(0, .ref (B + 0))] := hl
  have f4 : 0 ≤ σ 18 4 ∧ σ 18 4 ≤ 4 := by rcases hok with h | h; (· omega); (· exact ⟨by have := h.1; omega, h.1.2⟩)
  refine lv_aload_n hx hb dX11_part_0 rfl (lv_at hl 0 rfl) ?_
  refine k_vi (fr := 5) (lo := 111) (r := (if σ 18 4 = 0 then 1 else 0)) (As := []) (rest := []) hx hb hml hown hts hK hRf hRl hW hS (c_X11_noRealm l D cy B σ  (show 0 ≤ σ 18 4 ∧ σ 18 4 ≤ 4 from (by first | assumption | omega | (simp only [tpL_25, tcL_1, List.length_cons, List.length_nil]; omega)))) vX11_noRealm ⟨w_528, w_5⟩ w_526 (by decide) e_0 rfl ⟨Nat.le_of_ble_eq_true rfl, Nat.le_of_ble_eq_true rfl⟩ hl.1 rfl (Nat.le_of_ble_eq_true rfl) ⟨Nat.zero_le _, Nat.zero_le _⟩ dX11_part_1 (fun H locs hW hS => ?_)
  refine zi_bne (tgt := 17) hx hb dX11_part_4 (by decide) (fun c4 => ?_) (fun c4 => ?_)
  · refine k_ldc hx hb hown hts (v := -1000002) (by decide) w_479 dX11_part_17 ?_
    exact hret _ _ _ _ _ _ dX11_part_19 hW hS ⟨by (try simp only [Int.toNat_natCast]); (repeat' split) <;> first | rfl | omega, by (try simp only [Int.toNat_natCast]); (repeat' split) <;> first | rfl | omega⟩
  · have hok := hok.resolve_left (by omega)
    obtain ⟨o4, o0, o1, o2, o3, o5, o6, o7, oH⟩ := id hok
    refine lv_aload_n hx hb dX11_part_7 rfl (lv_at hl 0 rfl) ?_
    refine wz_get hx hb hts hown hK hW 0 4 (by decide) e_0 rfl (by decide) inG11 w_309 rfl rfl dX11_part_8 ?_
    refine wz_get hx hb hts hown hK hW 18 8 (lt_R isR_18) (e_R isR_18) rfl (by decide) inG6 w_267 rfl rfl dX11_part_11 ?_
    refine zi_eq (tgt := 20) hx hb dX11_part_14 (by decide) (by omega) (fun c14 => ?_) (fun c14 => ?_)
    · refine lv_aload_n hx hb dX11_part_20 rfl (lv_at hl 0 rfl) ?_
      refine k_vv (fr := 5) (lo := 111) (σ' := (kU σ)) (As := []) (rest := []) hx hb hml hown hts hK hRf hRl hW hS (c_X11_keepForUndo l D cy B σ  (show okV (σ 18) from (by first | assumption | omega | (simp only [tpL_25, tcL_1, List.length_cons, List.length_nil]; omega))) (show 0 ≤ σ 0 8 ∧ σ 0 8 ≤ 24 from (by first | assumption | omega | (simp only [tpL_25, tcL_1, List.length_cons, List.length_nil]; omega))) (show 0 ≤ σ 0 9 ∧ σ 0 9 ≤ 23 from (by first | assumption | omega | (simp only [tpL_25, tcL_1, List.length_cons, List.length_nil]; omega)))) vX11_keepForUndo ⟨w_515, w_4⟩ w_513 (by decide) e_0 rfl ⟨Nat.le_of_ble_eq_true rfl, Nat.le_of_ble_eq_true rfl⟩ hl.1 rfl (Nat.le_of_ble_eq_true rfl) ⟨Nat.zero_le _, Nat.zero_le _⟩ dX11_part_21 (fun H locs hW hS => ?_)
      refine lv_aload_n hx hb dX11_part_24 rfl (lv_at hl 0 rfl) ?_
      refine wz_get hx hb hts hown hK hW 0 4 (by decide) e_0 rfl (by decide) inG11 w_309 rfl rfl dX11_part_25 ?_
      refine lv_aload_n hx hb dX11_part_28 rfl (lv_at hl 0 rfl) ?_
      refine wz_get hx hb hts hown hK hW 0 4 (by decide) e_0 rfl (by decide) inG11 w_309 rfl rfl dX11_part_29 ?_
      refine wz_get hx hb hts hown hK hW 18 5 (lt_R isR_18) (e_R isR_18) rfl (by decide) inG6 w_261 rfl rfl dX11_part_32 ?_
      refine zi_top (y := σ 18 3) (by rw [kU_c σ (c := 18) (by omega) ha9]) ?_
      refine lv_aload_n hx hb dX11_part_35 rfl (lv_at hl 0 rfl) ?_
      refine wz_get hx hb hts hown hK hW 0 11 (by decide) e_0 rfl (by decide) inG11 w_316 rfl rfl dX11_part_36 ?_
      refine k_vv (fr := 5) (lo := 111) (σ' := (us (kU σ) 10 (cpy (mn ((kU σ) 18)) (shr ((kU σ) 18) (σ 18 3)) ((kU σ) 10)))) (As := [.int (iI (σ 18 3)), .ref (B + 10)]) (rest := []) hx hb hml hown hts hK hRf hRl hW hS (c_X6_divide l D cy B (kU σ) 18 (σ 18 3) (show isR 18 from isR_18) (show okV ((kU σ) 18) from (by rw [kU_c σ (c := 18) (by omega) ha9]; exact hok)) (show 0 ≤ (σ 18 3) ∧ (σ 18 3) ≤ 3 from (by first | assumption | omega | (simp only [tpL_25, tcL_1, List.length_cons, List.length_nil]; omega)))) vX6_divide ⟨w_531, w_532⟩ w_530 (lt_R isR_18) (e_R isR_18) rfl ⟨Nat.le_of_ble_eq_true rfl, Nat.le_of_ble_eq_true rfl⟩ hl.1 rfl (Nat.le_of_ble_eq_true rfl) ⟨Nat.zero_le _, Nat.zero_le _⟩ dX11_part_39 (fun H locs hW hS => ?_)
      rw [show (us (kU σ) 10 (cpy (mn ((kU σ) 18)) (shr ((kU σ) 18) (σ 18 3)) ((kU σ) 10))) = (us (kU (σ)) 10 (cpy (mn (σ 18)) (shr (σ 18) (σ 18 3)) (σ 10))) from (by rw [kU_c σ (c := 18) (by omega) ha9, kU_c σ (c := 10) (by omega) ha9])] at hW
      refine zi_con hx hb dX11_part_42 ?_
      refine lv_istore_n (lv' := [(1, .int (iI (0))), (0, .ref (B + 0))]) hx hb dX11_part_43 rfl hl (by decide) rfl (fun ls hl => ?_)
      have L44 : ∀ (n44 : Nat) (i_ : Nat) (H : Heap) (locs : List Loc) (ls : Array Slot), 4 - i_ < n44 → ((i_ : Int) ≤ σ 18 4) → wd D cy B (us (us (kU (σ)) 10 (cpy (mn (σ 18)) (shr (σ 18) (σ 18 3)) (σ 10))) 18 (cpo 32 i_ (shr (σ 18) (σ 18 3)) (σ 18))) H → va_S (AB B) s.heap H locs → lv_has ls 2 [(1, .int (iI (((i_ : Nat) : Int)))), (0, .ref (B + 0))] → W p l e R s m args below meth c H locs 0 0 Q (F0 m 44 ls []) := by
        intro n44
        induction n44 with
        | zero => intro i_ H locs ls hms; omega
        | succ n44 ih44 =>
          intro i_ H locs ls hms44 hi hW hS hl
          refine lv_iload_n hx hb dX11_part_44 rfl (lv_at hl 0 rfl) ?_
          refine lv_aload_n hx hb dX11_part_45 rfl (lv_at hl 1 rfl) ?_
          refine wz_get hx hb hts hown hK hW 0 4 (by decide) e_0 rfl (by decide) inG11 w_309 rfl rfl dX11_part_46 ?_
          refine wz_get hx hb hts hown hK hW 18 1 (lt_R isR_18) (e_R isR_18) rfl (by decide) inG6 w_249 rfl rfl dX11_part_49 ?_
          refine zi_top (y := σ 18 4) (by (rw [us_eq]; show cpo 32 i_ (shr (σ 18) (σ 18 3)) (σ 18) 4 = σ 18 4; unfold cpo; rw [if_neg (by omega)])) ?_
          refine zi_cge (tgt := 79) hx hb dX11_part_52 (by decide) (by omega) (by omega) (fun c52 => ?_) (fun c52 => ?_)
          · have hi2 : mn (σ 18) = i_ := by unfold mn; omega
            refine lv_aload_n hx hb dX11_part_79 rfl (lv_at hl 1 rfl) ?_
            refine wz_get hx hb hts hown hK hW 0 4 (by decide) e_0 rfl (by decide) inG11 w_309 rfl rfl dX11_part_80 ?_
            refine zi_con hx hb dX11_part_83 ?_
            refine wz_put (σ' := (up (us (us (kU (σ)) 10 (cpy (mn (σ 18)) (shr (σ 18) (σ 18 3)) (σ 10))) 18 (cpo 32 i_ (shr (σ 18) (σ 18 3)) (σ 18))) 18 7 1)) (ty := .boolean) hx hb hts hown hK hW hS 18 8 tyX6 (lt_R isR_18) (e_R isR_18) rfl (by decide) inG6 tyX6_ok nmX6 w_267 ⟨rfl, rfl, Nat.le_of_ble_eq_true rfl⟩ (by decide +kernel) ⟨rfl, rfl⟩ (p_R_8 isR_18) dX11_part_84 (fun H locs hW hS => ?_)
            refine lv_aload_n hx hb dX11_part_87 rfl (lv_at hl 1 rfl) ?_
            refine wz_get hx hb hts hown hK hW 0 11 (by decide) e_0 rfl (by decide) inG11 w_316 rfl rfl dX11_part_88 ?_
            refine lv_aload_n hx hb dX11_part_91 rfl (lv_at hl 1 rfl) ?_
            refine wz_get hx hb hts hown hK hW 0 4 (by decide) e_0 rfl (by decide) inG11 w_309 rfl rfl dX11_part_92 ?_
            refine wz_get hx hb hts hown hK hW 18 1 (lt_R isR_18) (e_R isR_18) rfl (by decide) inG6 w_249 rfl rfl dX11_part_95 ?_
            refine zi_top (y := ((i_ : Nat) : Int)) (by (unfold up; rw [us_eq]; rw [uf_ne _ _ (by decide), us_eq]; show cpo 32 i_ (shr (σ 18) (σ 18 3)) (σ 18) 4 = _; unfold cpo; rw [if_neg (by omega)]; omega)) ?_
            refine k_si (fr := 5) (lo := 111) (r := ((fg ((up (us (us (kU (σ)) 10 (cpy (mn (σ 18)) (shr (σ 18) (σ 18 3)) (σ 10))) 18 (cpo 32 i_ (shr (σ 18) (σ 18 3)) (σ 18))) 18 7 1) 10) i_ : Nat) : Int)) (As := [.ref (B + 10), .int (iI (((i_ : Nat) : Int)))]) (rest := []) hx hb hml hown hts hK hRf hRl hW hS (c_X11_firstGreatest l D cy B (up (us (us (kU (σ)) 10 (cpy (mn (σ 18)) (shr (σ 18) (σ 18 3)) (σ 10))) 18 (cpo 32 i_ (shr (σ 18) (σ 18 3)) (σ 18))) 18 7 1) 10 i_ (show 10 = 9 ∨ 10 = 10 from (by omega)) (show 1 ≤ i_ ∧ i_ ≤ 4 from (by omega)) (show ∀ k, k < i_ → -2147483648 ≤ (up (us (us (kU (σ)) 10 (cpy (mn (σ 18)) (shr (σ 18) (σ 18 3)) (σ 10))) 18 (cpo 32 i_ (shr (σ 18) (σ 18 3)) (σ 18))) 18 7 1) 10 k ∧ (up (us (us (kU (σ)) 10 (cpy (mn (σ 18)) (shr (σ 18) (σ 18 3)) (σ 10))) 18 (cpo 32 i_ (shr (σ 18) (σ 18 3)) (σ 18))) 18 7 1) 10 k < 2147483648 from (fun k hk => by have hs1 := shr_bd hok (σ 18 3) (h := k) (by omega); unfold up; rw [us_ne _ _ (by decide), us_ne _ _ (by decide), us_eq]; unfold cpy; rw [if_pos (by omega)]; omega))) vX11_firstGreatest w_551 w_553 ⟨Nat.le_of_ble_eq_true rfl, Nat.le_of_ble_eq_true rfl⟩ hl.1 rfl (Nat.le_of_ble_eq_true rfl) ⟨Nat.zero_le _, Nat.zero_le _⟩ dX11_part_98 (fun H locs hW hS => ?_)
            refine zi_top (y := ((fg (shr (σ 18) (σ 18 3)) i_ : Nat) : Int)) (by (unfold up; rw [us_ne _ _ (by decide), us_ne _ _ (by decide), us_eq, fg_congr (g := cpy (mn (σ 18)) (shr (σ 18) (σ 18 3)) (σ 10)) (g' := (shr (σ 18) (σ 18 3))) (fun k hk => if_pos (by omega))])) ?_
            exact hret _ _ _ _ _ _ dX11_part_101 hW hS ⟨by rw [if_neg (by omega), hi2], by rw [if_neg (by omega), hi2]; unfold up; rw [us_us, us_eq]⟩
          · have hs1 := shr_bd hok (σ 18 3) (h := i_) (by omega)
            refine lv_aload_n hx hb dX11_part_55 rfl (lv_at hl 1 rfl) ?_
            refine wz_get hx hb hts hown hK hW 0 4 (by decide) e_0 rfl (by decide) inG11 w_309 rfl rfl dX11_part_56 ?_
            refine wz_get hx hb hts hown hK hW 18 0 (lt_R isR_18) (e_R isR_18) rfl (by decide) inG6 w_246 rfl rfl dX11_part_59 ?_
            refine lv_iload_n hx hb dX11_part_62 rfl (lv_at hl 0 rfl) ?_
            refine wz_ara hx hb hK hW (18 + 1) i_ 2 (lt_Ra isR_18) (e_Ra isR_18) rfl (by omega) (by omega) (by decide) rfl dX11_part_63 ?_
            refine lv_aload_n hx hb dX11_part_64 rfl (lv_at hl 1 rfl) ?_
            refine wz_get hx hb hts hown hK hW 0 11 (by decide) e_0 rfl (by decide) inG11 w_316 rfl rfl dX11_part_65 ?_
            refine lv_iload_n hx hb dX11_part_68 rfl (lv_at hl 0 rfl) ?_
            refine wz_ald hx hb hK hW 10 i_ (by decide) e_10 (by omega) (by omega) (by decide) dX11_part_69 ?_
            refine zi_top (y := (shr (σ 18) (σ 18 3)) i_) (by (rw [us_ne _ _ (by decide), us_eq]; exact if_pos (by unfold mn; omega))) ?_
            refine wz_put (σ' := (up (us (us (kU (σ)) 10 (cpy (mn (σ 18)) (shr (σ 18) (σ 18 3)) (σ 10))) 18 (cpo 32 i_ (shr (σ 18) (σ 18 3)) (σ 18))) 18 (32 + i_) ((shr (σ 18) (σ 18 3)) i_))) (ty := .int) hx hb hts hown hK hW hS (18 + 2 + i_) 7 tyX0 (lt_H isR_18 (by omega)) (e_H isR_18 (by omega)) rfl (by decide) inG0 tyX0_ok nmX0 w_211 ⟨rfl, rfl, Nat.le_of_ble_eq_true rfl⟩ (by decide +kernel) ⟨rfl, rfl⟩ (p_H_7 isR_18 (by omega)) dX11_part_70 (fun H locs hW hS => ?_)
            refine lv_iinc (v := iI (((i_ : Nat) : Int) + 1)) (lv' := [(1, .int (iI (((i_ : Nat) : Int) + 1))), (0, .ref (B + 0))]) hx hb dX11_part_73 hl (k := 0) rfl (iI_add _ _) (by decide) rfl (fun ls hl => ?_)
            refine lv_goto (tgt := 44) hx hb dX11_part_76 (by decide) ?_
            exact ih44 (i_ + 1) _ _ _ (by omega) (by omega) (by rw [← up_cpo]; exact hW) hS (lv_sub hl [0, 1] rfl)
      exact L44 _ 0 _ _ _ (Nat.lt_succ_self _) (by omega) (by rw [show cpo 32 0 (shr (σ 18) (σ 18 3)) (σ 18) = (us (kU (σ)) 10 (cpy (mn (σ 18)) (shr (σ 18) (σ 18 3)) (σ 10))) 18 from by rw [us_ne _ _ (by decide), kU_c σ (c := 18) (by omega) ha9]; funext j; unfold cpo; rw [if_neg (by omega)], us_id]; exact hW) hS (lv_sub hl [0, 1] rfl)
    · refine k_ldc hx hb hown hts (v := -1000002) (by decide) w_479 dX11_part_17 ?_
      exact hret _ _ _ _ _ _ dX11_part_19 hW hS ⟨by (try simp only [Int.toNat_natCast]); (repeat' split) <;> first | rfl | omega, by (try simp only [Int.toNat_natCast]); (repeat' split) <;> first | rfl | omega⟩

set_option maxRecDepth 100000 in
set_option maxHeartbeats 4000000 in
theorem c_X11_months (l : Launch) (D : va_G) (cy : Nat → ClassId) (B : Nat) (σ : Sg) (z_ : Int) (r_z_ : -2147483648 ≤ z_ ∧ z_ < 2147483648) (hok : σ 18 4 = 0 ∨ okV (σ 18)) (ha8 : 0 ≤ σ 0 8 ∧ σ 0 8 ≤ 24) (ha9 : 0 ≤ σ 0 9 ∧ σ 0 9 ≤ 23) (hm : σ 18 5 ≤ 999) : CI l yX11_months cX11_months 3 (some .int) 3 63 D cy B [.ref (B + 0), .int (iI (z_))] σ (if σ 18 4 = 0 then -1000002 else if ¬ (1 ≤ z_ ∧ z_ ≤ 24) then -1000001 else if σ 18 7 = 0 then -1000002 else if 999 < σ 18 5 + z_ then -1000003 else itf mon z_.toNat (σ 18) 1) (if σ 18 4 = 0 then σ else if ¬ (1 ≤ z_ ∧ z_ ≤ 24) then σ else if σ 18 7 = 0 then σ else if 999 < σ 18 5 + z_ then σ else itr kM z_.toNat σ) := by
  refine CI_of (ty := .int) (by decide) (rfl) (Nat.le_of_ble_eq_true rfl) ?_
  intro p e R s m args below meth c Q hx hb hml hown hts hK hRf hRl hW hret ls hl
  have hown : s.vm.findClass "LoveParts" = some m.cls := hown
  have hS : va_S (AB B) s.heap s.heap [] := va_S.rf
  have hl : lv_has ls 3 [(0, .ref (B + 0)), (1, .int (iI (z_)))] := hl
  have f4 : 0 ≤ σ 18 4 ∧ σ 18 4 ≤ 4 := by rcases hok with h | h; (· omega); (· exact ⟨by have := h.1; omega, h.1.2⟩)
  refine lv_aload_n hx hb dX11_months_0 rfl (lv_at hl 0 rfl) ?_
  refine k_vi (fr := 3) (lo := 63) (r := (if σ 18 4 = 0 then 1 else 0)) (As := []) (rest := []) hx hb hml hown hts hK hRf hRl hW hS (c_X11_noRealm l D cy B σ  (show 0 ≤ σ 18 4 ∧ σ 18 4 ≤ 4 from (by first | assumption | omega | (simp only [tpL_25, tcL_1, List.length_cons, List.length_nil]; omega)))) vX11_noRealm ⟨w_528, w_5⟩ w_526 (by decide) e_0 rfl ⟨Nat.le_of_ble_eq_true rfl, Nat.le_of_ble_eq_true rfl⟩ hl.1 rfl (Nat.le_of_ble_eq_true rfl) ⟨Nat.zero_le _, Nat.zero_le _⟩ dX11_months_1 (fun H locs hW hS => ?_)
  refine zi_beq (tgt := 10) hx hb dX11_months_4 (by decide) (fun c4 => ?_) (fun c4 => ?_)
  · have hok := hok.resolve_left (by omega)
    obtain ⟨o4, o0, o1, o2, o3, o5, o6, o7, oH⟩ := id hok
    refine lv_iload_n hx hb dX11_months_10 rfl (lv_at hl 1 rfl) ?_
    refine zi_con hx hb dX11_months_11 ?_
    refine zi_bip hx hb dX11_months_12 (by decide) ?_
    refine k_si (fr := 3) (lo := 63) (r := (if 1 ≤ z_ ∧ z_ ≤ 24 then 1 else 0)) (As := [.int (iI (z_)), .int (iI (1)), .int (iI (24))]) (rest := []) hx hb hml hown hts hK hRf hRl hW hS (c_X11_within l D cy B σ z_ 1 24 (show -2147483648 ≤ z_ ∧ z_ < 2147483648 from (by first | assumption | omega | (simp only [tpL_25, tcL_1, List.length_cons, List.length_nil]; omega))) (show -2147483648 ≤ 1 ∧ 1 < 2147483648 from (by first | assumption | omega | (simp only [tpL_25, tcL_1, List.length_cons, List.length_nil]; omega))) (show -2147483648 ≤ 24 ∧ 24 < 2147483648 from (by first | assumption | omega | (simp only [tpL_25, tcL_1, List.length_cons, List.length_nil]; omega)))) vX11_within w_359 w_358 ⟨Nat.le_of_ble_eq_true rfl, Nat.le_of_ble_eq_true rfl⟩ hl.1 rfl (Nat.le_of_ble_eq_true rfl) ⟨Nat.zero_le _, Nat.zero_le _⟩ dX11_months_14 (fun H locs hW hS => ?_)
    refine zi_bne (tgt := 23) hx hb dX11_months_17 (by decide) (fun c17 => ?_) (fun c17 => ?_)
    · refine lv_aload_n hx hb dX11_months_23 rfl (lv_at hl 0 rfl) ?_
      refine wz_get hx hb hts hown hK hW 0 4 (by decide) e_0 rfl (by decide) inG11 w_309 rfl rfl dX11_months_24 ?_
      refine wz_get hx hb hts hown hK hW 18 8 (lt_R isR_18) (e_R isR_18) rfl (by decide) inG6 w_267 rfl rfl dX11_months_27 ?_
      refine zi_ne (tgt := 36) hx hb dX11_months_30 (by decide) (by omega) (fun c30 => ?_) (fun c30 => ?_)
      · refine lv_aload_n hx hb dX11_months_36 rfl (lv_at hl 0 rfl) ?_
        refine wz_get hx hb hts hown hK hW 0 4 (by decide) e_0 rfl (by decide) inG11 w_309 rfl rfl dX11_months_37 ?_
        refine wz_get hx hb hts hown hK hW 18 7 (lt_R isR_18) (e_R isR_18) rfl (by decide) inG6 w_265 rfl rfl dX11_months_40 ?_
        refine lv_iload_n hx hb dX11_months_43 rfl (lv_at hl 1 rfl) ?_
        refine zi_add hx hb dX11_months_44 ?_
        refine zi_sip hx hb dX11_months_45 (by decide) ?_
        refine zi_cle (tgt := 54) hx hb dX11_months_48 (by decide) (by omega) (by omega) (fun c48 => ?_) (fun c48 => ?_)
        · refine zi_con hx hb dX11_months_54 ?_
          refine lv_istore_n (lv' := [(2, .int (iI (0))), (0, .ref (B + 0)), (1, .int (iI (z_)))]) hx hb dX11_months_55 rfl hl (by decide) rfl (fun ls hl => ?_)
          have L56 : ∀ (n56 : Nat) (k_ : Nat) (H : Heap) (locs : List Loc) (ls : Array Slot), 24 - k_ < n56 → ((k_ : Int) ≤ z_) → wd D cy B (itr kM k_ σ) H → va_S (AB B) s.heap H locs → lv_has ls 3 [(2, .int (iI (((k_ : Nat) : Int)))), (0, .ref (B + 0)), (1, .int (iI (z_)))] → W p l e R s m args below meth c H locs 0 0 Q (F0 m 56 ls []) := by
            intro n56
            induction n56 with
            | zero => intro k_ H locs ls hms; omega
            | succ n56 ih56 =>
              intro k_ H locs ls hms56 hk hW hS hl
              have hmk := kM_ok ha8 ha9 (n := k_)
              have hit2 := okV_it hok (n := k_) (by omega)
              refine lv_iload_n hx hb dX11_months_56 rfl (lv_at hl 0 rfl) ?_
              refine lv_iload_n hx hb dX11_months_57 rfl (lv_at hl 2 rfl) ?_
              refine zi_cge (tgt := 78) hx hb dX11_months_58 (by decide) (by omega) (by omega) (fun c58 => ?_) (fun c58 => ?_)
              · have hkz : z_.toNat = k_ := by omega
                refine lv_aload_n hx hb dX11_months_78 rfl (lv_at hl 1 rfl) ?_
                refine wz_get hx hb hts hown hK hW 0 4 (by decide) e_0 rfl (by decide) inG11 w_309 rfl rfl dX11_months_79 ?_
                refine wz_get hx hb hts hown hK hW 18 3 (lt_R isR_18) (e_R isR_18) rfl (by decide) inG6 w_255 rfl rfl dX11_months_82 ?_
                refine zi_top (y := itf mon k_ (σ 18) 1) (by rw [hmk.1]) ?_
                exact hret _ _ _ _ _ _ dX11_months_85 hW hS ⟨by rw [if_neg (by omega), if_neg (by omega), if_neg (by omega), if_neg (by omega), hkz], by rw [if_neg (by omega), if_neg (by omega), if_neg (by omega), if_neg (by omega), hkz]⟩
              · refine lv_aload_n hx hb dX11_months_61 rfl (lv_at hl 1 rfl) ?_
                refine k_vv (fr := 3) (lo := 63) (σ' := (kU (itr kM k_ σ))) (As := []) (rest := []) hx hb hml hown hts hK hRf hRl hW hS (c_X11_keepForUndo l D cy B (itr kM k_ σ)  (show okV ((itr kM k_ σ) 18) from (by rw [hmk.1]; exact hit2.1)) (show 0 ≤ (itr kM k_ σ) 0 8 ∧ (itr kM k_ σ) 0 8 ≤ 24 from hmk.2.1) (show 0 ≤ (itr kM k_ σ) 0 9 ∧ (itr kM k_ σ) 0 9 ≤ 23 from hmk.2.2)) vX11_keepForUndo ⟨w_515, w_4⟩ w_513 (by decide) e_0 rfl ⟨Nat.le_of_ble_eq_true rfl, Nat.le_of_ble_eq_true rfl⟩ hl.1 rfl (Nat.le_of_ble_eq_true rfl) ⟨Nat.zero_le _, Nat.zero_le _⟩ dX11_months_62 (fun H locs hW hS => ?_)
                refine lv_aload_n hx hb dX11_months_65 rfl (lv_at hl 1 rfl) ?_
                refine wz_get hx hb hts hown hK hW 0 4 (by decide) e_0 rfl (by decide) inG11 w_309 rfl rfl dX11_months_66 ?_
                refine k_vv (fr := 3) (lo := 63) (σ' := (us (kU (itr kM k_ σ)) 18 (mon ((kU (itr kM k_ σ)) 18)))) (As := []) (rest := []) hx hb hml hown hts hK hRf hRl hW hS (c_X6_passMonth l D cy B (kU (itr kM k_ σ)) 18 (show isR 18 from isR_18) (show okV ((kU (itr kM k_ σ)) 18) from (by rw [kU_c _ (c := 18) (by omega) hmk.2.2, hmk.1]; exact hit2.1))) vX6_passMonth ⟨w_563, w_564⟩ w_562 (lt_R isR_18) (e_R isR_18) rfl ⟨Nat.le_of_ble_eq_true rfl, Nat.le_of_ble_eq_true rfl⟩ hl.1 rfl (Nat.le_of_ble_eq_true rfl) ⟨Nat.zero_le _, Nat.zero_le _⟩ dX11_months_69 (fun H locs hW hS => ?_)
                rw [show (us (kU (itr kM k_ σ)) 18 (mon ((kU (itr kM k_ σ)) 18))) = (itr kM (k_ + 1) σ) from (by rw [kU_c _ (c := 18) (by omega) hmk.2.2]; rfl)] at hW
                refine lv_iinc (v := iI (((k_ : Nat) : Int) + 1)) (lv' := [(2, .int (iI (((k_ : Nat) : Int) + 1))), (0, .ref (B + 0)), (1, .int (iI (z_)))]) hx hb dX11_months_72 hl (k := 0) rfl (iI_add _ _) (by decide) rfl (fun ls hl => ?_)
                refine lv_goto (tgt := 56) hx hb dX11_months_75 (by decide) ?_
                exact ih56 (k_ + 1) _ _ _ (by omega) (by omega) hW hS (lv_sub hl [0, 1, 2] rfl)
          exact L56 _ 0 _ _ _ (Nat.lt_succ_self _) (by omega) hW hS (lv_sub hl [0, 1, 2] rfl)
        · refine k_ldc hx hb hown hts (v := -1000003) (by decide) w_410 dX11_months_51 ?_
          exact hret _ _ _ _ _ _ dX11_months_53 hW hS ⟨by (try simp only [Int.toNat_natCast]); (repeat' split) <;> first | rfl | omega, by (try simp only [Int.toNat_natCast]); (repeat' split) <;> first | rfl | omega⟩
      · refine k_ldc hx hb hown hts (v := -1000002) (by decide) w_479 dX11_months_33 ?_
        exact hret _ _ _ _ _ _ dX11_months_35 hW hS ⟨by (try simp only [Int.toNat_natCast]); (repeat' split) <;> first | rfl | omega, by (try simp only [Int.toNat_natCast]); (repeat' split) <;> first | rfl | omega⟩
    · refine k_ldc hx hb hown hts (v := -1000001) (by decide) w_361 dX11_months_20 ?_
      exact hret _ _ _ _ _ _ dX11_months_22 hW hS ⟨by (try simp only [Int.toNat_natCast]); (repeat' split) <;> first | rfl | omega, by (try simp only [Int.toNat_natCast]); (repeat' split) <;> first | rfl | omega⟩
  · refine k_ldc hx hb hown hts (v := -1000002) (by decide) w_479 dX11_months_7 ?_
    exact hret _ _ _ _ _ _ dX11_months_9 hW hS ⟨by (try simp only [Int.toNat_natCast]); (repeat' split) <;> first | rfl | omega, by (try simp only [Int.toNat_natCast]); (repeat' split) <;> first | rfl | omega⟩

set_option maxRecDepth 100000 in
set_option maxHeartbeats 4000000 in
theorem c_X11_letter (l : Launch) (D : va_G) (cy : Nat → ClassId) (B : Nat) (σ : Sg) (f_ : Int) (t_ : Int) (r_f_ : -2147483648 ≤ f_ ∧ f_ < 2147483648) (r_t_ : -2147483648 ≤ t_ ∧ t_ < 2147483648) (hok : σ 18 4 = 0 ∨ okV (σ 18)) (ha8 : 0 ≤ σ 0 8 ∧ σ 0 8 ≤ 24) (ha9 : 0 ≤ σ 0 9 ∧ σ 0 9 ≤ 23) : CI l yX11_letter cX11_letter 4 (some .int) 3 63 D cy B [.ref (B + 0), .int (iI (f_)), .int (iI (t_))] σ (if ¬ (0 ≤ f_ ∧ f_ ≤ σ 18 4 - 1) ∨ ¬ (0 ≤ t_ ∧ t_ ≤ σ 18 4 - 1) ∨ f_ = t_ then -1000001 else alw (uf (σ 18) (44 + t_.toNat) (if σ 18 (44 + t_.toNat) = 0 ∨ alw (σ 18) f_.toNat + 1 < σ 18 (44 + t_.toNat) then alw (σ 18) f_.toNat + 1 else σ 18 (44 + t_.toNat))) t_.toNat) (if ¬ (0 ≤ f_ ∧ f_ ≤ σ 18 4 - 1) ∨ ¬ (0 ≤ t_ ∧ t_ ≤ σ 18 4 - 1) ∨ f_ = t_ then σ else us (kU (σ)) 18 (uf (σ 18) (44 + t_.toNat) (if σ 18 (44 + t_.toNat) = 0 ∨ alw (σ 18) f_.toNat + 1 < σ 18 (44 + t_.toNat) then alw (σ 18) f_.toNat + 1 else σ 18 (44 + t_.toNat)))) := by
  refine CI_of (ty := .int) (by decide) (rfl) (Nat.le_of_ble_eq_true rfl) ?_
  intro p e R s m args below meth c Q hx hb hml hown hts hK hRf hRl hW hret ls hl
  have hown : s.vm.findClass "LoveParts" = some m.cls := hown
  have hS : va_S (AB B) s.heap s.heap [] := va_S.rf
  have hl : lv_has ls 4 [(0, .ref (B + 0)), (1, .int (iI (f_))), (2, .int (iI (t_)))] := hl
  have f4 : 0 ≤ σ 18 4 ∧ σ 18 4 ≤ 4 := by rcases hok with h | h; (· omega); (· exact ⟨by have := h.1; omega, h.1.2⟩)
  refine lv_aload_n hx hb dX11_letter_0 rfl (lv_at hl 0 rfl) ?_
  refine lv_iload_n hx hb dX11_letter_1 rfl (lv_at hl 1 rfl) ?_
  refine k_vi (fr := 3) (lo := 63) (r := (if 0 ≤ f_ ∧ f_ ≤ σ 18 4 - 1 then 1 else 0)) (As := [.int (iI (f_))]) (rest := []) hx hb hml hown hts hK hRf hRl hW hS (c_X11_isHeir l D cy B σ f_ (show -2147483648 ≤ f_ ∧ f_ < 2147483648 from (by first | assumption | omega | (simp only [tpL_25, tcL_1, List.length_cons, List.length_nil]; omega))) (show 0 ≤ σ 18 4 ∧ σ 18 4 ≤ 4 from (by first | assumption | omega | (simp only [tpL_25, tcL_1, List.length_cons, List.length_nil]; omega)))) vX11_isHeir ⟨w_486, w_3⟩ w_484 (by decide) e_0 rfl ⟨Nat.le_of_ble_eq_true rfl, Nat.le_of_ble_eq_true rfl⟩ hl.1 rfl (Nat.le_of_ble_eq_true rfl) ⟨Nat.zero_le _, Nat.zero_le _⟩ dX11_letter_2 (fun H locs hW hS => ?_)
  refine zi_beq (tgt := 21) hx hb dX11_letter_5 (by decide) (fun c5 => ?_) (fun c5 => ?_)
  · refine k_ldc hx hb hown hts (v := -1000001) (by decide) w_361 dX11_letter_21 ?_
    exact hret _ _ _ _ _ _ dX11_letter_23 hW hS ⟨by (try simp only [Int.toNat_natCast]); (repeat' split) <;> first | rfl | omega, by (try simp only [Int.toNat_natCast]); (repeat' split) <;> first | rfl | omega⟩
  · obtain ⟨n_, rfl⟩ : ∃ h : Nat, f_ = (h : Int) := ⟨f_.toNat, by omega⟩
    refine lv_aload_n hx hb dX11_letter_8 rfl (lv_at hl 0 rfl) ?_
    refine lv_iload_n hx hb dX11_letter_9 rfl (lv_at hl 2 rfl) ?_
    refine k_vi (fr := 3) (lo := 63) (r := (if 0 ≤ t_ ∧ t_ ≤ σ 18 4 - 1 then 1 else 0)) (As := [.int (iI (t_))]) (rest := []) hx hb hml hown hts hK hRf hRl hW hS (c_X11_isHeir l D cy B σ t_ (show -2147483648 ≤ t_ ∧ t_ < 2147483648 from (by first | assumption | omega | (simp only [tpL_25, tcL_1, List.length_cons, List.length_nil]; omega))) (show 0 ≤ σ 18 4 ∧ σ 18 4 ≤ 4 from (by first | assumption | omega | (simp only [tpL_25, tcL_1, List.length_cons, List.length_nil]; omega)))) vX11_isHeir ⟨w_486, w_3⟩ w_484 (by decide) e_0 rfl ⟨Nat.le_of_ble_eq_true rfl, Nat.le_of_ble_eq_true rfl⟩ hl.1 rfl (Nat.le_of_ble_eq_true rfl) ⟨Nat.zero_le _, Nat.zero_le _⟩ dX11_letter_10 (fun H locs hW hS => ?_)
    refine zi_beq (tgt := 21) hx hb dX11_letter_13 (by decide) (fun c13 => ?_) (fun c13 => ?_)
    · refine k_ldc hx hb hown hts (v := -1000001) (by decide) w_361 dX11_letter_21 ?_
      exact hret _ _ _ _ _ _ dX11_letter_23 hW hS ⟨by (try simp only [Int.toNat_natCast]); (repeat' split) <;> first | rfl | omega, by (try simp only [Int.toNat_natCast]); (repeat' split) <;> first | rfl | omega⟩
    · obtain ⟨q_, rfl⟩ : ∃ h : Nat, t_ = (h : Int) := ⟨t_.toNat, by omega⟩
      have hok := hok.resolve_left (by omega)
      obtain ⟨o4, o0, o1, o2, o3, o5, o6, o7, oH⟩ := id hok
      have hal := alw_bd hok (h := n_) (by omega)
      have hq := oH q_ (by omega)
      obtain ⟨k8, k12, k16, k20, k24, k28, k32, k36, k40, k44⟩ := id hq
      obtain ⟨x_, hx2⟩ : ∃ x : Int, x = (if σ 18 (44 + q_) = 0 ∨ alw (σ 18) n_ + 1 < σ 18 (44 + q_) then alw (σ 18) n_ + 1 else σ 18 (44 + q_)) := ⟨_, rfl⟩
      have hxb : 0 ≤ x_ ∧ x_ ≤ 50 := by rw [hx2]; split <;> omega
      have hok3 := okV_let hok (h := q_) (by omega) hxb
      have htd : -2147483648 ≤ tdec (σ 18 (44 + q_)) ∧ tdec (σ 18 (44 + q_)) < 2147483648 := by unfold tdec; split <;> omega
      refine lv_iload_n hx hb dX11_letter_16 rfl (lv_at hl 1 rfl) ?_
      refine lv_iload_n hx hb dX11_letter_17 rfl (lv_at hl 2 rfl) ?_
      refine zi_cne (tgt := 24) hx hb dX11_letter_18 (by decide) (by omega) (by omega) (fun c18 => ?_) (fun c18 => ?_)
      · refine lv_aload_n hx hb dX11_letter_24 rfl (lv_at hl 0 rfl) ?_
        refine k_vv (fr := 3) (lo := 63) (σ' := (kU σ)) (As := []) (rest := []) hx hb hml hown hts hK hRf hRl hW hS (c_X11_keepForUndo l D cy B σ  (show okV (σ 18) from (by first | assumption | omega | (simp only [tpL_25, tcL_1, List.length_cons, List.length_nil]; omega))) (show 0 ≤ σ 0 8 ∧ σ 0 8 ≤ 24 from (by first | assumption | omega | (simp only [tpL_25, tcL_1, List.length_cons, List.length_nil]; omega))) (show 0 ≤ σ 0 9 ∧ σ 0 9 ≤ 23 from (by first | assumption | omega | (simp only [tpL_25, tcL_1, List.length_cons, List.length_nil]; omega)))) vX11_keepForUndo ⟨w_515, w_4⟩ w_513 (by decide) e_0 rfl ⟨Nat.le_of_ble_eq_true rfl, Nat.le_of_ble_eq_true rfl⟩ hl.1 rfl (Nat.le_of_ble_eq_true rfl) ⟨Nat.zero_le _, Nat.zero_le _⟩ dX11_letter_25 (fun H locs hW hS => ?_)
        refine lv_aload_n hx hb dX11_letter_28 rfl (lv_at hl 0 rfl) ?_
        refine wz_get hx hb hts hown hK hW 0 4 (by decide) e_0 rfl (by decide) inG11 w_309 rfl rfl dX11_letter_29 ?_
        refine wz_get hx hb hts hown hK hW 18 0 (lt_R isR_18) (e_R isR_18) rfl (by decide) inG6 w_246 rfl rfl dX11_letter_32 ?_
        refine lv_iload_n hx hb dX11_letter_35 rfl (lv_at hl 2 rfl) ?_
        refine wz_ara hx hb hK hW (18 + 1) q_ 2 (lt_Ra isR_18) (e_Ra isR_18) rfl (by omega) (by omega) (by decide) rfl dX11_letter_36 ?_
        refine lv_astore_n (lv' := [(3, .ref (B + (18 + 2 + q_))), (0, .ref (B + 0)), (1, .int (iI (((n_ : Nat) : Int)))), (2, .int (iI (((q_ : Nat) : Int))))]) hx hb dX11_letter_37 rfl hl (by decide) rfl (fun ls hl => ?_)
        refine lv_aload_n hx hb dX11_letter_38 rfl (lv_at hl 0 rfl) ?_
        refine lv_aload_n hx hb dX11_letter_39 rfl (lv_at hl 0 rfl) ?_
        refine wz_get hx hb hts hown hK hW (18 + 2 + q_) 8 (lt_H isR_18 (by omega)) (e_H isR_18 (by omega)) rfl (by decide) inG0 w_214 rfl rfl dX11_letter_40 ?_
        refine zi_top (y := tdec (σ 18 (44 + q_))) (by rw [kU_c σ (c := 18) (by omega) ha9]) ?_
        refine lv_aload_n hx hb dX11_letter_43 rfl (lv_at hl 1 rfl) ?_
        refine wz_get hx hb hts hown hK hW 0 4 (by decide) e_0 rfl (by decide) inG11 w_309 rfl rfl dX11_letter_44 ?_
        refine lv_iload_n hx hb dX11_letter_47 rfl (lv_at hl 2 rfl) ?_
        refine k_vi (fr := 3) (lo := 63) (r := alw ((kU σ) 18) n_) (As := [.int (iI (((n_ : Nat) : Int)))]) (rest := [.int (iI (tdec (σ 18 (44 + q_)))), .ref (B + (18 + 2 + q_))]) hx hb hml hown hts hK hRf hRl hW hS (c_X6_allowedBy l D cy B (kU σ) 18 n_ (show isR 18 from isR_18) (show okV ((kU σ) 18) from (by rw [kU_c σ (c := 18) (by omega) ha9]; exact hok)) (show (n_ : Int) < (kU σ) 18 4 from (by rw [kU_c σ (c := 18) (by omega) ha9]; omega))) vX6_allowedBy ⟨w_567, w_568⟩ w_577 (lt_R isR_18) (e_R isR_18) rfl ⟨Nat.le_of_ble_eq_true rfl, Nat.le_of_ble_eq_true rfl⟩ hl.1 rfl (Nat.le_of_ble_eq_true rfl) ⟨Nat.zero_le _, Nat.zero_le _⟩ dX11_letter_48 (fun H locs hW hS => ?_)
        refine zi_top (y := alw (σ 18) n_) (by rw [kU_c σ (c := 18) (by omega) ha9]) ?_
        refine k_min hx hb hml hown hts hl.1 w_517 ⟨w_511, w_67, w_512⟩ (by omega) (Nat.le_trans (Nat.le_of_ble_eq_true rfl) hRl) ⟨Nat.zero_le _, Nat.zero_le _⟩ (by omega) (by omega) dX11_letter_51 ?_
        refine zi_top (y := tdec x_) (by rw [hx2]; exact tdec_let k44 hal) ?_
        refine wz_put (σ' := (up (kU σ) 18 (44 + q_) x_)) (ty := .int) hx hb hts hown hK hW hS (18 + 2 + q_) 8 tyX0 (lt_H isR_18 (by omega)) (e_H isR_18 (by omega)) rfl (by decide) inG0 tyX0_ok nmX0 w_214 ⟨rfl, rfl, Nat.le_of_ble_eq_true rfl⟩ (by decide +kernel) ⟨rfl, rfl⟩ (p_H_8 isR_18 (by omega)) dX11_letter_54 (fun H locs hW hS => ?_)
        refine lv_aload_n hx hb dX11_letter_57 rfl (lv_at hl 1 rfl) ?_
        refine wz_get hx hb hts hown hK hW 0 4 (by decide) e_0 rfl (by decide) inG11 w_309 rfl rfl dX11_letter_58 ?_
        refine lv_iload_n hx hb dX11_letter_61 rfl (lv_at hl 3 rfl) ?_
        refine k_vi (fr := 3) (lo := 63) (r := alw ((up (kU σ) 18 (44 + q_) x_) 18) q_) (As := [.int (iI (((q_ : Nat) : Int)))]) (rest := []) hx hb hml hown hts hK hRf hRl hW hS (c_X6_allowedBy l D cy B (up (kU σ) 18 (44 + q_) x_) 18 q_ (show isR 18 from isR_18) (show okV ((up (kU σ) 18 (44 + q_) x_) 18) from (by unfold up; rw [us_eq, kU_c σ (c := 18) (by omega) ha9]; exact hok3)) (show (q_ : Int) < (up (kU σ) 18 (44 + q_) x_) 18 4 from (by unfold up; rw [us_eq, kU_c σ (c := 18) (by omega) ha9, uf_ne _ _ (by omega)]; omega))) vX6_allowedBy ⟨w_567, w_568⟩ w_577 (lt_R isR_18) (e_R isR_18) rfl ⟨Nat.le_of_ble_eq_true rfl, Nat.le_of_ble_eq_true rfl⟩ hl.1 rfl (Nat.le_of_ble_eq_true rfl) ⟨Nat.zero_le _, Nat.zero_le _⟩ dX11_letter_62 (fun H locs hW hS => ?_)
        refine zi_top (y := alw (uf (σ 18) (44 + q_) x_) q_) (by (unfold up; rw [us_eq, kU_c σ (c := 18) (by omega) ha9])) ?_
        exact hret _ _ _ _ _ _ dX11_letter_65 hW hS ⟨by rw [if_neg (by omega), Int.toNat_natCast, Int.toNat_natCast, ← hx2], by rw [if_neg (by omega), Int.toNat_natCast, Int.toNat_natCast, ← hx2]; unfold up; rw [kU_c σ (c := 18) (by omega) ha9]⟩
      · refine k_ldc hx hb hown hts (v := -1000001) (by decide) w_361 dX11_letter_21 ?_
        exact hret _ _ _ _ _ _ dX11_letter_23 hW hS ⟨by (try simp only [Int.toNat_natCast]); (repeat' split) <;> first | rfl | omega, by (try simp only [Int.toNat_natCast]); (repeat' split) <;> first | rfl | omega⟩

set_option maxRecDepth 100000 in
set_option maxHeartbeats 4000000 in
theorem c_X11_ahead (l : Launch) (D : va_G) (cy : Nat → ClassId) (B : Nat) (σ : Sg) (z_ : Int) (w_ : Int) (r_z_ : -2147483648 ≤ z_ ∧ z_ < 2147483648) (r_w_ : -2147483648 ≤ w_ ∧ w_ < 2147483648) (hok : σ 18 4 = 0 ∨ okV (σ 18)) (hm : σ 18 5 ≤ 999) : CIe l yX11_ahead cX11_ahead 4 (some .int) 3 58 D cy B [.ref (B + 0), .int (iI (z_)), .int (iI (w_))] σ (if σ 18 4 = 0 then -1000002 else if ¬ (0 ≤ z_ ∧ z_ ≤ 60) ∨ ¬ (0 ≤ w_ ∧ w_ ≤ 1) then -1000001 else if w_ = 0 then itf mon z_.toNat (σ 18) 1 else brk (itf mon z_.toNat (σ 18))) (fun u => ∃ (T_ : Nat → Int), u = us σ 24 T_) := by
  refine CIe_of (ty := .int) (by decide) (rfl) (Nat.le_of_ble_eq_true rfl) ?_
  intro p e R s m args below meth c Q hx hb hml hown hts hK hRf hRl hW hret ls hl
  have hown : s.vm.findClass "LoveParts" = some m.cls := hown
  have hS : va_S (AB B) s.heap s.heap [] := va_S.rf
  have hl : lv_has ls 4 [(0, .ref (B + 0)), (1, .int (iI (z_))), (2, .int (iI (w_)))] := hl
  have f4 : 0 ≤ σ 18 4 ∧ σ 18 4 ≤ 4 := by rcases hok with h | h; (· omega); (· exact ⟨by have := h.1; omega, h.1.2⟩)
  refine lv_aload_n hx hb dX11_ahead_0 rfl (lv_at hl 0 rfl) ?_
  refine k_vi (fr := 3) (lo := 58) (r := (if σ 18 4 = 0 then 1 else 0)) (As := []) (rest := []) hx hb hml hown hts hK hRf hRl hW hS (c_X11_noRealm l D cy B σ  (show 0 ≤ σ 18 4 ∧ σ 18 4 ≤ 4 from (by first | assumption | omega | (simp only [tpL_25, tcL_1, List.length_cons, List.length_nil]; omega)))) vX11_noRealm ⟨w_528, w_5⟩ w_526 (by decide) e_0 rfl ⟨Nat.le_of_ble_eq_true rfl, Nat.le_of_ble_eq_true rfl⟩ hl.1 rfl (Nat.le_of_ble_eq_true rfl) ⟨Nat.zero_le _, Nat.zero_le _⟩ dX11_ahead_1 (fun H locs hW hS => ?_)
  refine zi_beq (tgt := 10) hx hb dX11_ahead_4 (by decide) (fun c4 => ?_) (fun c4 => ?_)
  · have hok := hok.resolve_left (by omega)
    obtain ⟨o4, o0, o1, o2, o3, o5, o6, o7, oH⟩ := id hok
    have hq : eqR (tkN (σ 24) (σ 18) (mn (σ 18))) (σ 18) := eqR_tk _ o4
    have hkt := eqR_okV hq hok
    have e5 : tkN (σ 24) (σ 18) (mn (σ 18)) 5 = σ 18 5 := rfl
    have e4 : tkN (σ 24) (σ 18) (mn (σ 18)) 4 = σ 18 4 := rfl
    refine lv_iload_n hx hb dX11_ahead_10 rfl (lv_at hl 1 rfl) ?_
    refine zi_con hx hb dX11_ahead_11 ?_
    refine zi_bip hx hb dX11_ahead_12 (by decide) ?_
    refine k_si (fr := 3) (lo := 58) (r := (if 0 ≤ z_ ∧ z_ ≤ 60 then 1 else 0)) (As := [.int (iI (z_)), .int (iI (0)), .int (iI (60))]) (rest := []) hx hb hml hown hts hK hRf hRl hW hS (c_X11_within l D cy B σ z_ 0 60 (show -2147483648 ≤ z_ ∧ z_ < 2147483648 from (by first | assumption | omega | (simp only [tpL_25, tcL_1, List.length_cons, List.length_nil]; omega))) (show -2147483648 ≤ 0 ∧ 0 < 2147483648 from (by first | assumption | omega | (simp only [tpL_25, tcL_1, List.length_cons, List.length_nil]; omega))) (show -2147483648 ≤ 60 ∧ 60 < 2147483648 from (by first | assumption | omega | (simp only [tpL_25, tcL_1, List.length_cons, List.length_nil]; omega)))) vX11_within w_359 w_358 ⟨Nat.le_of_ble_eq_true rfl, Nat.le_of_ble_eq_true rfl⟩ hl.1 rfl (Nat.le_of_ble_eq_true rfl) ⟨Nat.zero_le _, Nat.zero_le _⟩ dX11_ahead_14 (fun H locs hW hS => ?_)
    refine zi_beq (tgt := 29) hx hb dX11_ahead_17 (by decide) (fun c17 => ?_) (fun c17 => ?_)
    · refine k_ldc hx hb hown hts (v := -1000001) (by decide) w_361 dX11_ahead_29 ?_
      exact hret _ _ _ _ _ _ dX11_ahead_31 hW hS ⟨by (try simp only [Int.toNat_natCast]); (repeat' split) <;> first | rfl | omega, _, (us_id _ 24).symm⟩
    · refine lv_iload_n hx hb dX11_ahead_20 rfl (lv_at hl 2 rfl) ?_
      refine zi_con hx hb dX11_ahead_21 ?_
      refine zi_con hx hb dX11_ahead_22 ?_
      refine k_si (fr := 3) (lo := 58) (r := (if 0 ≤ w_ ∧ w_ ≤ 1 then 1 else 0)) (As := [.int (iI (w_)), .int (iI (0)), .int (iI (1))]) (rest := []) hx hb hml hown hts hK hRf hRl hW hS (c_X11_within l D cy B σ w_ 0 1 (show -2147483648 ≤ w_ ∧ w_ < 2147483648 from (by first | assumption | omega | (simp only [tpL_25, tcL_1, List.length_cons, List.length_nil]; omega))) (show -2147483648 ≤ 0 ∧ 0 < 2147483648 from (by first | assumption | omega | (simp only [tpL_25, tcL_1, List.length_cons, List.length_nil]; omega))) (show -2147483648 ≤ 1 ∧ 1 < 2147483648 from (by first | assumption | omega | (simp only [tpL_25, tcL_1, List.length_cons, List.length_nil]; omega)))) vX11_within w_359 w_358 ⟨Nat.le_of_ble_eq_true rfl, Nat.le_of_ble_eq_true rfl⟩ hl.1 rfl (Nat.le_of_ble_eq_true rfl) ⟨Nat.zero_le _, Nat.zero_le _⟩ dX11_ahead_23 (fun H locs hW hS => ?_)
      refine zi_bne (tgt := 32) hx hb dX11_ahead_26 (by decide) (fun c26 => ?_) (fun c26 => ?_)
      · refine lv_aload_n hx hb dX11_ahead_32 rfl (lv_at hl 0 rfl) ?_
        refine wz_get hx hb hts hown hK hW 0 5 (by decide) e_0 rfl (by decide) inG11 w_310 rfl rfl dX11_ahead_33 ?_
        refine lv_aload_n hx hb dX11_ahead_36 rfl (lv_at hl 0 rfl) ?_
        refine wz_get hx hb hts hown hK hW 0 4 (by decide) e_0 rfl (by decide) inG11 w_309 rfl rfl dX11_ahead_37 ?_
        refine k_vv (fr := 3) (lo := 58) (σ' := (us σ 24 (tkN (σ 24) (σ 18) (mn (σ 18))))) (As := [.ref (B + 18)]) (rest := []) hx hb hml hown hts hK hRf hRl hW hS (c_X6_take l D cy B σ 24 18 (show isR 24 from isR_24) (show isR 18 from isR_18) (show 24 ≠ 18 from (by decide)) (show 0 ≤ σ 18 4 ∧ σ 18 4 ≤ 4 from (by omega)) (show σ 18 7 = 0 ∨ σ 18 7 = 1 from o7) (show ∀ h : Nat, (h : Int) < σ 18 4 → σ 18 (20 + h) = 0 ∨ σ 18 (20 + h) = 1 from (fun h hh => (oH h hh).2.2.2.1))) vX6_take ⟨w_460, w_461⟩ w_459 (lt_R isR_24) (e_R isR_24) rfl ⟨Nat.le_of_ble_eq_true rfl, Nat.le_of_ble_eq_true rfl⟩ hl.1 rfl (Nat.le_of_ble_eq_true rfl) ⟨Nat.zero_le _, Nat.zero_le _⟩ dX11_ahead_40 (fun H locs hW hS => ?_)
        refine zi_con hx hb dX11_ahead_43 ?_
        refine lv_istore_n (lv' := [(3, .int (iI (0))), (0, .ref (B + 0)), (1, .int (iI (z_))), (2, .int (iI (w_)))]) hx hb dX11_ahead_44 rfl hl (by decide) rfl (fun ls hl => ?_)
        have L45 : ∀ (n45 : Nat) (k_ : Nat) (H : Heap) (locs : List Loc) (ls : Array Slot), 60 - k_ < n45 → ((k_ : Int) ≤ z_) → wd D cy B (us σ 24 (itf mon k_ (tkN (σ 24) (σ 18) (mn (σ 18))))) H → va_S (AB B) s.heap H locs → lv_has ls 4 [(3, .int (iI (((k_ : Nat) : Int)))), (0, .ref (B + 0)), (1, .int (iI (z_))), (2, .int (iI (w_)))] → W p l e R s m args below meth c H locs 0 0 Q (F0 m 45 ls []) := by
          intro n45
          induction n45 with
          | zero => intro k_ H locs ls hms; omega
          | succ n45 ih45 =>
            intro k_ H locs ls hms45 hk hW hS hl
            have hit := okV_it hkt (n := k_) (by omega)
            have heq := eqR_it hq hok (n := k_) (by omega)
            have ho2 := hit.1.2.2.1
            have ho4 := hit.1.1
            refine lv_iload_n hx hb dX11_ahead_45 rfl (lv_at hl 0 rfl) ?_
            refine lv_iload_n hx hb dX11_ahead_46 rfl (lv_at hl 2 rfl) ?_
            refine zi_cge (tgt := 63) hx hb dX11_ahead_47 (by decide) (by omega) (by omega) (fun c47 => ?_) (fun c47 => ?_)
            · have hkz : z_.toNat = k_ := by omega
              refine lv_iload_n hx hb dX11_ahead_63 rfl (lv_at hl 3 rfl) ?_
              refine zi_ne (tgt := 77) hx hb dX11_ahead_64 (by decide) (by omega) (fun c64 => ?_) (fun c64 => ?_)
              · refine lv_aload_n hx hb dX11_ahead_77 rfl (lv_at hl 1 rfl) ?_
                refine wz_get hx hb hts hown hK hW 0 5 (by decide) e_0 rfl (by decide) inG11 w_310 rfl rfl dX11_ahead_78 ?_
                refine k_vi (fr := 3) (lo := 58) (r := brk ((us σ 24 (itf mon k_ (tkN (σ 24) (σ 18) (mn (σ 18))))) 24)) (As := []) (rest := []) hx hb hml hown hts hK hRf hRl hW hS (c_X6_brokenByAll l D cy B (us σ 24 (itf mon k_ (tkN (σ 24) (σ 18) (mn (σ 18))))) 24 (show isR 24 from isR_24) (show 0 ≤ (us σ 24 (itf mon k_ (tkN (σ 24) (σ 18) (mn (σ 18))))) 24 4 ∧ (us σ 24 (itf mon k_ (tkN (σ 24) (σ 18) (mn (σ 18))))) 24 4 ≤ 4 from (by rw [us_eq]; omega))) vX6_brokenByAll ⟨w_647, w_648⟩ w_646 (lt_R isR_24) (e_R isR_24) rfl ⟨Nat.le_of_ble_eq_true rfl, Nat.le_of_ble_eq_true rfl⟩ hl.1 rfl (Nat.le_of_ble_eq_true rfl) ⟨Nat.zero_le _, Nat.zero_le _⟩ dX11_ahead_81 (fun H locs hW hS => ?_)
                refine zi_top (y := brk (itf mon k_ (σ 18))) (by rw [us_eq]; exact eqR_brk heq (by omega)) ?_
                exact hret _ _ _ _ _ _ dX11_ahead_84 hW hS ⟨by (repeat' split) <;> first | (subst hkz; rfl) | omega, _, rfl⟩
              · refine lv_aload_n hx hb dX11_ahead_67 rfl (lv_at hl 1 rfl) ?_
                refine wz_get hx hb hts hown hK hW 0 5 (by decide) e_0 rfl (by decide) inG11 w_310 rfl rfl dX11_ahead_68 ?_
                refine wz_get hx hb hts hown hK hW 24 3 (lt_R isR_24) (e_R isR_24) rfl (by decide) inG6 w_255 rfl rfl dX11_ahead_71 ?_
                refine zi_top (y := itf mon k_ (σ 18) 1) (by rw [us_eq]; exact eqR_hd heq 1 (by omega)) ?_
                refine lv_goto (tgt := 84) hx hb dX11_ahead_74 (by decide) ?_
                exact hret _ _ _ _ _ _ dX11_ahead_84 hW hS ⟨by (repeat' split) <;> first | (subst hkz; rfl) | omega, _, rfl⟩
            · refine lv_aload_n hx hb dX11_ahead_50 rfl (lv_at hl 1 rfl) ?_
              refine wz_get hx hb hts hown hK hW 0 5 (by decide) e_0 rfl (by decide) inG11 w_310 rfl rfl dX11_ahead_51 ?_
              refine k_vv (fr := 3) (lo := 58) (σ' := (us (us σ 24 (itf mon k_ (tkN (σ 24) (σ 18) (mn (σ 18))))) 24 (mon ((us σ 24 (itf mon k_ (tkN (σ 24) (σ 18) (mn (σ 18))))) 24)))) (As := []) (rest := []) hx hb hml hown hts hK hRf hRl hW hS (c_X6_passMonth l D cy B (us σ 24 (itf mon k_ (tkN (σ 24) (σ 18) (mn (σ 18))))) 24 (show isR 24 from isR_24) (show okV ((us σ 24 (itf mon k_ (tkN (σ 24) (σ 18) (mn (σ 18))))) 24) from (by rw [us_eq]; exact hit.1))) vX6_passMonth ⟨w_563, w_564⟩ w_562 (lt_R isR_24) (e_R isR_24) rfl ⟨Nat.le_of_ble_eq_true rfl, Nat.le_of_ble_eq_true rfl⟩ hl.1 rfl (Nat.le_of_ble_eq_true rfl) ⟨Nat.zero_le _, Nat.zero_le _⟩ dX11_ahead_54 (fun H locs hW hS => ?_)
              rw [show (us (us σ 24 (itf mon k_ (tkN (σ 24) (σ 18) (mn (σ 18))))) 24 (mon ((us σ 24 (itf mon k_ (tkN (σ 24) (σ 18) (mn (σ 18))))) 24))) = us σ 24 (itf mon (k_ + 1) (tkN (σ 24) (σ 18) (mn (σ 18)))) from (by rw [us_us, us_eq]; rfl)] at hW
              refine lv_iinc (v := iI (((k_ : Nat) : Int) + 1)) (lv' := [(3, .int (iI (((k_ : Nat) : Int) + 1))), (0, .ref (B + 0)), (1, .int (iI (z_))), (2, .int (iI (w_)))]) hx hb dX11_ahead_57 hl (k := 0) rfl (iI_add _ _) (by decide) rfl (fun ls hl => ?_)
              refine lv_goto (tgt := 45) hx hb dX11_ahead_60 (by decide) ?_
              exact ih45 (k_ + 1) _ _ _ (by omega) (by omega) (by exact hW) hS (lv_sub hl [0, 1, 2, 3] rfl)
        exact L45 _ 0 _ _ _ (Nat.lt_succ_self _) (by omega) (by exact hW) hS (lv_sub hl [0, 1, 2, 3] rfl)
      · refine k_ldc hx hb hown hts (v := -1000001) (by decide) w_361 dX11_ahead_29 ?_
        exact hret _ _ _ _ _ _ dX11_ahead_31 hW hS ⟨by (try simp only [Int.toNat_natCast]); (repeat' split) <;> first | rfl | omega, _, (us_id _ 24).symm⟩
  · refine k_ldc hx hb hown hts (v := -1000002) (by decide) w_479 dX11_ahead_7 ?_
    exact hret _ _ _ _ _ _ dX11_ahead_9 hW hS ⟨by (try simp only [Int.toNat_natCast]); (repeat' split) <;> first | rfl | omega, _, (us_id _ 24).symm⟩

set_option maxRecDepth 100000 in
set_option maxHeartbeats 4000000 in
theorem c_X11_down (l : Launch) (D : va_G) (cy : Nat → ClassId) (B : Nat) (σ : Sg) (z_ : Int) (r_z_ : -2147483648 ≤ z_ ∧ z_ < 2147483648) (hok : σ 18 4 = 0 ∨ okV (σ 18)) (hm : σ 18 5 ≤ 999) : CIe l yX11_down cX11_down 3 (some .int) 3 58 D cy B [.ref (B + 0), .int (iI (z_))] σ (if σ 18 4 = 0 then -1000002 else if ¬ (1 ≤ z_ ∧ z_ ≤ 99) then -1000001 else dw (σ 18) z_ 61 0) (fun u => ∃ (T_ : Nat → Int), u = us σ 24 T_) := by
  refine CIe_of (ty := .int) (by decide) (rfl) (Nat.le_of_ble_eq_true rfl) ?_
  intro p e R s m args below meth c Q hx hb hml hown hts hK hRf hRl hW hret ls hl
  have hown : s.vm.findClass "LoveParts" = some m.cls := hown
  have hS : va_S (AB B) s.heap s.heap [] := va_S.rf
  have hl : lv_has ls 3 [(0, .ref (B + 0)), (1, .int (iI (z_)))] := hl
  have f4 : 0 ≤ σ 18 4 ∧ σ 18 4 ≤ 4 := by rcases hok with h | h; (· omega); (· exact ⟨by have := h.1; omega, h.1.2⟩)
  refine lv_aload_n hx hb dX11_down_0 rfl (lv_at hl 0 rfl) ?_
  refine k_vi (fr := 3) (lo := 58) (r := (if σ 18 4 = 0 then 1 else 0)) (As := []) (rest := []) hx hb hml hown hts hK hRf hRl hW hS (c_X11_noRealm l D cy B σ  (show 0 ≤ σ 18 4 ∧ σ 18 4 ≤ 4 from (by first | assumption | omega | (simp only [tpL_25, tcL_1, List.length_cons, List.length_nil]; omega)))) vX11_noRealm ⟨w_528, w_5⟩ w_526 (by decide) e_0 rfl ⟨Nat.le_of_ble_eq_true rfl, Nat.le_of_ble_eq_true rfl⟩ hl.1 rfl (Nat.le_of_ble_eq_true rfl) ⟨Nat.zero_le _, Nat.zero_le _⟩ dX11_down_1 (fun H locs hW hS => ?_)
  refine zi_beq (tgt := 10) hx hb dX11_down_4 (by decide) (fun c4 => ?_) (fun c4 => ?_)
  · have hok := hok.resolve_left (by omega)
    obtain ⟨o4, o0, o1, o2, o3, o5, o6, o7, oH⟩ := id hok
    have hq : eqR (tkN (σ 24) (σ 18) (mn (σ 18))) (σ 18) := eqR_tk _ o4
    have hkt := eqR_okV hq hok
    have e5 : tkN (σ 24) (σ 18) (mn (σ 18)) 5 = σ 18 5 := rfl
    have e4 : tkN (σ 24) (σ 18) (mn (σ 18)) 4 = σ 18 4 := rfl
    refine lv_iload_n hx hb dX11_down_10 rfl (lv_at hl 1 rfl) ?_
    refine zi_con hx hb dX11_down_11 ?_
    refine zi_bip hx hb dX11_down_12 (by decide) ?_
    refine k_si (fr := 3) (lo := 58) (r := (if 1 ≤ z_ ∧ z_ ≤ 99 then 1 else 0)) (As := [.int (iI (z_)), .int (iI (1)), .int (iI (99))]) (rest := []) hx hb hml hown hts hK hRf hRl hW hS (c_X11_within l D cy B σ z_ 1 99 (show -2147483648 ≤ z_ ∧ z_ < 2147483648 from (by first | assumption | omega | (simp only [tpL_25, tcL_1, List.length_cons, List.length_nil]; omega))) (show -2147483648 ≤ 1 ∧ 1 < 2147483648 from (by first | assumption | omega | (simp only [tpL_25, tcL_1, List.length_cons, List.length_nil]; omega))) (show -2147483648 ≤ 99 ∧ 99 < 2147483648 from (by first | assumption | omega | (simp only [tpL_25, tcL_1, List.length_cons, List.length_nil]; omega)))) vX11_within w_359 w_358 ⟨Nat.le_of_ble_eq_true rfl, Nat.le_of_ble_eq_true rfl⟩ hl.1 rfl (Nat.le_of_ble_eq_true rfl) ⟨Nat.zero_le _, Nat.zero_le _⟩ dX11_down_14 (fun H locs hW hS => ?_)
    refine zi_bne (tgt := 23) hx hb dX11_down_17 (by decide) (fun c17 => ?_) (fun c17 => ?_)
    · refine lv_aload_n hx hb dX11_down_23 rfl (lv_at hl 0 rfl) ?_
      refine wz_get hx hb hts hown hK hW 0 5 (by decide) e_0 rfl (by decide) inG11 w_310 rfl rfl dX11_down_24 ?_
      refine lv_aload_n hx hb dX11_down_27 rfl (lv_at hl 0 rfl) ?_
      refine wz_get hx hb hts hown hK hW 0 4 (by decide) e_0 rfl (by decide) inG11 w_309 rfl rfl dX11_down_28 ?_
      refine k_vv (fr := 3) (lo := 58) (σ' := (us σ 24 (tkN (σ 24) (σ 18) (mn (σ 18))))) (As := [.ref (B + 18)]) (rest := []) hx hb hml hown hts hK hRf hRl hW hS (c_X6_take l D cy B σ 24 18 (show isR 24 from isR_24) (show isR 18 from isR_18) (show 24 ≠ 18 from (by decide)) (show 0 ≤ σ 18 4 ∧ σ 18 4 ≤ 4 from (by omega)) (show σ 18 7 = 0 ∨ σ 18 7 = 1 from o7) (show ∀ h : Nat, (h : Int) < σ 18 4 → σ 18 (20 + h) = 0 ∨ σ 18 (20 + h) = 1 from (fun h hh => (oH h hh).2.2.2.1))) vX6_take ⟨w_460, w_461⟩ w_459 (lt_R isR_24) (e_R isR_24) rfl ⟨Nat.le_of_ble_eq_true rfl, Nat.le_of_ble_eq_true rfl⟩ hl.1 rfl (Nat.le_of_ble_eq_true rfl) ⟨Nat.zero_le _, Nat.zero_le _⟩ dX11_down_31 (fun H locs hW hS => ?_)
      refine zi_con hx hb dX11_down_34 ?_
      refine lv_istore_n (lv' := [(2, .int (iI (0))), (0, .ref (B + 0)), (1, .int (iI (z_)))]) hx hb dX11_down_35 rfl hl (by decide) rfl (fun ls hl => ?_)
      have L36 : ∀ (n36 : Nat) (k_ : Nat) (H : Heap) (locs : List Loc) (ls : Array Slot), 61 - k_ < n36 → (k_ ≤ 61) → (dw (σ 18) z_ 61 0 = dw (σ 18) z_ (61 - k_) k_) → wd D cy B (us σ 24 (itf mon k_ (tkN (σ 24) (σ 18) (mn (σ 18))))) H → va_S (AB B) s.heap H locs → lv_has ls 3 [(2, .int (iI (((k_ : Nat) : Int)))), (0, .ref (B + 0)), (1, .int (iI (z_)))] → W p l e R s m args below meth c H locs 0 0 Q (F0 m 36 ls []) := by
        intro n36
        induction n36 with
        | zero => intro k_ H locs ls hms; omega
        | succ n36 ih36 =>
          intro k_ H locs ls hms36 hk hd hW hS hl
          have hit := okV_it hkt (n := k_) (by omega)
          have heq := eqR_it hq hok (n := k_) (by omega)
          have ho2 := hit.1.2.2.1
          have ho1 := eqR_hd heq 1 (by omega)
          refine lv_iload_n hx hb dX11_down_36 rfl (lv_at hl 0 rfl) ?_
          refine zi_bip hx hb dX11_down_37 (by decide) ?_
          refine zi_cgt (tgt := 68) hx hb dX11_down_39 (by decide) (by omega) (by omega) (fun c39 => ?_) (fun c39 => ?_)
          · refine k_ldc_w hx hb hown hts (v := -1000000) (by decide) w_625 dX11_down_68 ?_
            exact hret _ _ _ _ _ _ dX11_down_71 hW hS ⟨by rw [if_neg (by omega), if_neg (by omega), hd, show 61 - k_ = 0 from by omega]; rfl, _, rfl⟩
          · refine lv_aload_n hx hb dX11_down_42 rfl (lv_at hl 1 rfl) ?_
            refine wz_get hx hb hts hown hK hW 0 5 (by decide) e_0 rfl (by decide) inG11 w_310 rfl rfl dX11_down_43 ?_
            refine wz_get hx hb hts hown hK hW 24 3 (lt_R isR_24) (e_R isR_24) rfl (by decide) inG6 w_255 rfl rfl dX11_down_46 ?_
            refine zi_top (y := itf mon k_ (σ 18) 1) (by rw [us_eq]; exact ho1) ?_
            refine lv_iload_n hx hb dX11_down_49 rfl (lv_at hl 2 rfl) ?_
            refine zi_cge (tgt := 55) hx hb dX11_down_50 (by decide) (by omega) (by omega) (fun c50 => ?_) (fun c50 => ?_)
            · refine lv_aload_n hx hb dX11_down_55 rfl (lv_at hl 1 rfl) ?_
              refine wz_get hx hb hts hown hK hW 0 5 (by decide) e_0 rfl (by decide) inG11 w_310 rfl rfl dX11_down_56 ?_
              refine k_vv (fr := 3) (lo := 58) (σ' := (us (us σ 24 (itf mon k_ (tkN (σ 24) (σ 18) (mn (σ 18))))) 24 (mon ((us σ 24 (itf mon k_ (tkN (σ 24) (σ 18) (mn (σ 18))))) 24)))) (As := []) (rest := []) hx hb hml hown hts hK hRf hRl hW hS (c_X6_passMonth l D cy B (us σ 24 (itf mon k_ (tkN (σ 24) (σ 18) (mn (σ 18))))) 24 (show isR 24 from isR_24) (show okV ((us σ 24 (itf mon k_ (tkN (σ 24) (σ 18) (mn (σ 18))))) 24) from (by rw [us_eq]; exact hit.1))) vX6_passMonth ⟨w_563, w_564⟩ w_562 (lt_R isR_24) (e_R isR_24) rfl ⟨Nat.le_of_ble_eq_true rfl, Nat.le_of_ble_eq_true rfl⟩ hl.1 rfl (Nat.le_of_ble_eq_true rfl) ⟨Nat.zero_le _, Nat.zero_le _⟩ dX11_down_59 (fun H locs hW hS => ?_)
              rw [show (us (us σ 24 (itf mon k_ (tkN (σ 24) (σ 18) (mn (σ 18))))) 24 (mon ((us σ 24 (itf mon k_ (tkN (σ 24) (σ 18) (mn (σ 18))))) 24))) = us σ 24 (itf mon (k_ + 1) (tkN (σ 24) (σ 18) (mn (σ 18)))) from (by rw [us_us, us_eq]; rfl)] at hW
              refine lv_iinc (v := iI (((k_ : Nat) : Int) + 1)) (lv' := [(2, .int (iI (((k_ : Nat) : Int) + 1))), (0, .ref (B + 0)), (1, .int (iI (z_)))]) hx hb dX11_down_62 hl (k := 0) rfl (iI_add _ _) (by decide) rfl (fun ls hl => ?_)
              refine lv_goto (tgt := 36) hx hb dX11_down_65 (by decide) ?_
              exact ih36 (k_ + 1) _ _ _ (by omega) (by omega) (by rw [hd, show 61 - k_ = (61 - (k_ + 1)) + 1 from by omega, dw_s, if_neg (by omega)]) (by exact hW) hS (lv_sub hl [0, 1, 2] rfl)
            · refine lv_iload_n hx hb dX11_down_53 rfl (lv_at hl 0 rfl) ?_
              exact hret _ _ _ _ _ _ dX11_down_54 hW hS ⟨by rw [if_neg (by omega), if_neg (by omega), hd, show 61 - k_ = (60 - k_) + 1 from by omega, dw_s, if_pos (by omega)], _, rfl⟩
      exact L36 _ 0 _ _ _ (Nat.lt_succ_self _) (by omega) rfl (by exact hW) hS (lv_sub hl [0, 1, 2] rfl)
    · refine k_ldc hx hb hown hts (v := -1000001) (by decide) w_361 dX11_down_20 ?_
      exact hret _ _ _ _ _ _ dX11_down_22 hW hS ⟨by (try simp only [Int.toNat_natCast]); (repeat' split) <;> first | rfl | omega, _, (us_id _ 24).symm⟩
  · refine k_ldc hx hb hown hts (v := -1000002) (by decide) w_479 dX11_down_7 ?_
    exact hret _ _ _ _ _ _ dX11_down_9 hW hS ⟨by (try simp only [Int.toNat_natCast]); (repeat' split) <;> first | rfl | omega, _, (us_id _ 24).symm⟩

set_option maxRecDepth 100000 in
set_option maxHeartbeats 4000000 in
theorem c_X11_drawn (l : Launch) (D : va_G) (cy : Nat → ClassId) (B : Nat) (σ : Sg) (z_ : Int) (s_ : Int) (w_ : Int) (r_z_ : -2147483648 ≤ z_ ∧ z_ < 2147483648) (r_s_ : -2147483648 ≤ s_ ∧ s_ < 2147483648) (r_w_ : -2147483648 ≤ w_ ∧ w_ < 2147483648) (hok : σ 18 4 = 0 ∨ okV (σ 18)) (hm : σ 18 5 ≤ 999) : CIe l yX11_drawn cX11_drawn 7 (some .int) 3 58 D cy B [.ref (B + 0), .int (iI (z_)), .int (iI (s_)), .int (iI (w_))] σ (if σ 18 4 = 0 then -1000002 else if ¬ (0 ≤ z_ ∧ z_ ≤ 60) ∨ ¬ (1 ≤ s_ ∧ s_ ≤ 999999) ∨ ¬ (0 ≤ w_ ∧ w_ ≤ 1) then -1000001 else if w_ = 0 then drf (σ 18) s_ z_.toNat 1 else brk (drf (σ 18) s_ z_.toNat)) (fun u => ∃ (T_ : Nat → Int), u = us σ 24 T_) := by
  refine CIe_of (ty := .int) (by decide) (rfl) (Nat.le_of_ble_eq_true rfl) ?_
  intro p e R s m args below meth c Q hx hb hml hown hts hK hRf hRl hW hret ls hl
  have hown : s.vm.findClass "LoveParts" = some m.cls := hown
  have hS : va_S (AB B) s.heap s.heap [] := va_S.rf
  have hl : lv_has ls 7 [(0, .ref (B + 0)), (1, .int (iI (z_))), (2, .int (iI (s_))), (3, .int (iI (w_)))] := hl
  have f4 : 0 ≤ σ 18 4 ∧ σ 18 4 ≤ 4 := by rcases hok with h | h; (· omega); (· exact ⟨by have := h.1; omega, h.1.2⟩)
  refine lv_aload_n hx hb dX11_drawn_0 rfl (lv_at hl 0 rfl) ?_
  refine k_vi (fr := 3) (lo := 58) (r := (if σ 18 4 = 0 then 1 else 0)) (As := []) (rest := []) hx hb hml hown hts hK hRf hRl hW hS (c_X11_noRealm l D cy B σ  (show 0 ≤ σ 18 4 ∧ σ 18 4 ≤ 4 from (by first | assumption | omega | (simp only [tpL_25, tcL_1, List.length_cons, List.length_nil]; omega)))) vX11_noRealm ⟨w_528, w_5⟩ w_526 (by decide) e_0 rfl ⟨Nat.le_of_ble_eq_true rfl, Nat.le_of_ble_eq_true rfl⟩ hl.1 rfl (Nat.le_of_ble_eq_true rfl) ⟨Nat.zero_le _, Nat.zero_le _⟩ dX11_drawn_1 (fun H locs hW hS => ?_)
  refine zi_beq (tgt := 10) hx hb dX11_drawn_4 (by decide) (fun c4 => ?_) (fun c4 => ?_)
  · have hok := hok.resolve_left (by omega)
    obtain ⟨o4, o0, o1, o2, o3, o5, o6, o7, oH⟩ := id hok
    have hq : eqR (tkN (σ 24) (σ 18) (mn (σ 18))) (σ 18) := eqR_tk _ o4
    have hkt := eqR_okV hq hok
    have e5 : tkN (σ 24) (σ 18) (mn (σ 18)) 5 = σ 18 5 := rfl
    have e4 : tkN (σ 24) (σ 18) (mn (σ 18)) 4 = σ 18 4 := rfl
    refine lv_iload_n hx hb dX11_drawn_10 rfl (lv_at hl 1 rfl) ?_
    refine zi_con hx hb dX11_drawn_11 ?_
    refine zi_bip hx hb dX11_drawn_12 (by decide) ?_
    refine k_si (fr := 3) (lo := 58) (r := (if 0 ≤ z_ ∧ z_ ≤ 60 then 1 else 0)) (As := [.int (iI (z_)), .int (iI (0)), .int (iI (60))]) (rest := []) hx hb hml hown hts hK hRf hRl hW hS (c_X11_within l D cy B σ z_ 0 60 (show -2147483648 ≤ z_ ∧ z_ < 2147483648 from (by first | assumption | omega | (simp only [tpL_25, tcL_1, List.length_cons, List.length_nil]; omega))) (show -2147483648 ≤ 0 ∧ 0 < 2147483648 from (by first | assumption | omega | (simp only [tpL_25, tcL_1, List.length_cons, List.length_nil]; omega))) (show -2147483648 ≤ 60 ∧ 60 < 2147483648 from (by first | assumption | omega | (simp only [tpL_25, tcL_1, List.length_cons, List.length_nil]; omega)))) vX11_within w_359 w_358 ⟨Nat.le_of_ble_eq_true rfl, Nat.le_of_ble_eq_true rfl⟩ hl.1 rfl (Nat.le_of_ble_eq_true rfl) ⟨Nat.zero_le _, Nat.zero_le _⟩ dX11_drawn_14 (fun H locs hW hS => ?_)
    refine zi_beq (tgt := 40) hx hb dX11_drawn_17 (by decide) (fun c17 => ?_) (fun c17 => ?_)
    · refine k_ldc hx hb hown hts (v := -1000001) (by decide) w_361 dX11_drawn_40 ?_
      exact hret _ _ _ _ _ _ dX11_drawn_42 hW hS ⟨by (try simp only [Int.toNat_natCast]); (repeat' split) <;> first | rfl | omega, _, (us_id _ 24).symm⟩
    · refine lv_iload_n hx hb dX11_drawn_20 rfl (lv_at hl 2 rfl) ?_
      refine zi_con hx hb dX11_drawn_21 ?_
      refine k_ldc_w hx hb hown hts (v := 999999) (by decide) w_698 dX11_drawn_22 ?_
      refine k_si (fr := 3) (lo := 58) (r := (if 1 ≤ s_ ∧ s_ ≤ 999999 then 1 else 0)) (As := [.int (iI (s_)), .int (iI (1)), .int (iI (999999))]) (rest := []) hx hb hml hown hts hK hRf hRl hW hS (c_X11_within l D cy B σ s_ 1 999999 (show -2147483648 ≤ s_ ∧ s_ < 2147483648 from (by first | assumption | omega | (simp only [tpL_25, tcL_1, List.length_cons, List.length_nil]; omega))) (show -2147483648 ≤ 1 ∧ 1 < 2147483648 from (by first | assumption | omega | (simp only [tpL_25, tcL_1, List.length_cons, List.length_nil]; omega))) (show -2147483648 ≤ 999999 ∧ 999999 < 2147483648 from (by first | assumption | omega | (simp only [tpL_25, tcL_1, List.length_cons, List.length_nil]; omega)))) vX11_within w_359 w_358 ⟨Nat.le_of_ble_eq_true rfl, Nat.le_of_ble_eq_true rfl⟩ hl.1 rfl (Nat.le_of_ble_eq_true rfl) ⟨Nat.zero_le _, Nat.zero_le _⟩ dX11_drawn_25 (fun H locs hW hS => ?_)
      refine zi_beq (tgt := 40) hx hb dX11_drawn_28 (by decide) (fun c28 => ?_) (fun c28 => ?_)
      · refine k_ldc hx hb hown hts (v := -1000001) (by decide) w_361 dX11_drawn_40 ?_
        exact hret _ _ _ _ _ _ dX11_drawn_42 hW hS ⟨by (try simp only [Int.toNat_natCast]); (repeat' split) <;> first | rfl | omega, _, (us_id _ 24).symm⟩
      · refine lv_iload_n hx hb dX11_drawn_31 rfl (lv_at hl 3 rfl) ?_
        refine zi_con hx hb dX11_drawn_32 ?_
        refine zi_con hx hb dX11_drawn_33 ?_
        refine k_si (fr := 3) (lo := 58) (r := (if 0 ≤ w_ ∧ w_ ≤ 1 then 1 else 0)) (As := [.int (iI (w_)), .int (iI (0)), .int (iI (1))]) (rest := []) hx hb hml hown hts hK hRf hRl hW hS (c_X11_within l D cy B σ w_ 0 1 (show -2147483648 ≤ w_ ∧ w_ < 2147483648 from (by first | assumption | omega | (simp only [tpL_25, tcL_1, List.length_cons, List.length_nil]; omega))) (show -2147483648 ≤ 0 ∧ 0 < 2147483648 from (by first | assumption | omega | (simp only [tpL_25, tcL_1, List.length_cons, List.length_nil]; omega))) (show -2147483648 ≤ 1 ∧ 1 < 2147483648 from (by first | assumption | omega | (simp only [tpL_25, tcL_1, List.length_cons, List.length_nil]; omega)))) vX11_within w_359 w_358 ⟨Nat.le_of_ble_eq_true rfl, Nat.le_of_ble_eq_true rfl⟩ hl.1 rfl (Nat.le_of_ble_eq_true rfl) ⟨Nat.zero_le _, Nat.zero_le _⟩ dX11_drawn_34 (fun H locs hW hS => ?_)
        refine zi_bne (tgt := 43) hx hb dX11_drawn_37 (by decide) (fun c37 => ?_) (fun c37 => ?_)
        · refine lv_iload_n hx hb dX11_drawn_43 rfl (lv_at hl 2 rfl) ?_
          refine zi_i2l hx hb dX11_drawn_44 (by omega) ?_
          refine lv_lstore (lv' := [(4, .long (lI (s_))), (0, .ref (B + 0)), (1, .int (iI (z_))), (2, .int (iI (s_))), (3, .int (iI (w_)))]) hx hb dX11_drawn_45 hl (by decide) rfl (fun ls hl => ?_)
          refine lv_aload_n hx hb dX11_drawn_47 rfl (lv_at hl 1 rfl) ?_
          refine wz_get hx hb hts hown hK hW 0 5 (by decide) e_0 rfl (by decide) inG11 w_310 rfl rfl dX11_drawn_48 ?_
          refine lv_aload_n hx hb dX11_drawn_51 rfl (lv_at hl 1 rfl) ?_
          refine wz_get hx hb hts hown hK hW 0 4 (by decide) e_0 rfl (by decide) inG11 w_309 rfl rfl dX11_drawn_52 ?_
          refine k_vv (fr := 3) (lo := 58) (σ' := (us σ 24 (tkN (σ 24) (σ 18) (mn (σ 18))))) (As := [.ref (B + 18)]) (rest := []) hx hb hml hown hts hK hRf hRl hW hS (c_X6_take l D cy B σ 24 18 (show isR 24 from isR_24) (show isR 18 from isR_18) (show 24 ≠ 18 from (by decide)) (show 0 ≤ σ 18 4 ∧ σ 18 4 ≤ 4 from (by omega)) (show σ 18 7 = 0 ∨ σ 18 7 = 1 from o7) (show ∀ h : Nat, (h : Int) < σ 18 4 → σ 18 (20 + h) = 0 ∨ σ 18 (20 + h) = 1 from (fun h hh => (oH h hh).2.2.2.1))) vX6_take ⟨w_460, w_461⟩ w_459 (lt_R isR_24) (e_R isR_24) rfl ⟨Nat.le_of_ble_eq_true rfl, Nat.le_of_ble_eq_true rfl⟩ hl.1 rfl (Nat.le_of_ble_eq_true rfl) ⟨Nat.zero_le _, Nat.zero_le _⟩ dX11_drawn_55 (fun H locs hW hS => ?_)
          refine zi_con hx hb dX11_drawn_58 ?_
          refine lv_istore (lv' := [(6, .int (iI (0))), (4, .long (lI (s_))), (0, .ref (B + 0)), (1, .int (iI (z_))), (2, .int (iI (s_))), (3, .int (iI (w_)))]) hx hb dX11_drawn_59 hl (by decide) rfl (fun ls hl => ?_)
          have L61 : ∀ (n61 : Nat) (k_ : Nat) (H : Heap) (locs : List Loc) (ls : Array Slot), 60 - k_ < n61 → ((k_ : Int) ≤ z_) → wd D cy B (us σ 24 (drf (tkN (σ 24) (σ 18) (mn (σ 18))) s_ k_)) H → va_S (AB B) s.heap H locs → lv_has ls 7 [(6, .int (iI (((k_ : Nat) : Int)))), (4, .long (lI (drx s_ k_))), (0, .ref (B + 0)), (1, .int (iI (z_))), (2, .int (iI (s_))), (3, .int (iI (w_)))] → W p l e R s m args below meth c H locs 0 0 Q (F0 m 61 ls []) := by
            intro n61
            induction n61 with
            | zero => intro k_ H locs ls hms; omega
            | succ n61 ih61 =>
              intro k_ H locs ls hms61 hk hW hS hl
              have hit := okV_drf hkt (seed := s_) (by omega) (n := k_) (by omega)
              have heq := eqR_drf hq hok (s := s_) (by omega) (n := k_) (by omega)
              have ho2 := hit.1.2.2.1
              have ho4 := hit.1.1
              have hdx := drx_bd (seed := s_) (by omega) k_
              have hdx1 := drx_bd (seed := s_) (by omega) (k_ + 1)
              have hdx2 : drx s_ (k_ + 1) = drx s_ k_ * 16807 % 2147483647 := rfl
              have hmd := Int.emod_nonneg (drx s_ k_ * 16807 % 2147483647) (b := σ 18 4) (by omega)
              have hml2 := Int.emod_lt_of_pos (drx s_ k_ * 16807 % 2147483647) (b := σ 18 4) (by omega)
              refine lv_iload hx hb dX11_drawn_61 (lv_at hl 0 rfl) ?_
              refine lv_iload_n hx hb dX11_drawn_63 rfl (lv_at hl 3 rfl) ?_
              refine zi_cge (tgt := 111) hx hb dX11_drawn_64 (by decide) (by omega) (by omega) (fun c64 => ?_) (fun c64 => ?_)
              · have hkz : z_.toNat = k_ := by omega
                refine lv_iload_n hx hb dX11_drawn_111 rfl (lv_at hl 5 rfl) ?_
                refine zi_ne (tgt := 125) hx hb dX11_drawn_112 (by decide) (by omega) (fun c112 => ?_) (fun c112 => ?_)
                · refine lv_aload_n hx hb dX11_drawn_125 rfl (lv_at hl 2 rfl) ?_
                  refine wz_get hx hb hts hown hK hW 0 5 (by decide) e_0 rfl (by decide) inG11 w_310 rfl rfl dX11_drawn_126 ?_
                  refine k_vi (fr := 3) (lo := 58) (r := brk ((us σ 24 (drf (tkN (σ 24) (σ 18) (mn (σ 18))) s_ k_)) 24)) (As := []) (rest := []) hx hb hml hown hts hK hRf hRl hW hS (c_X6_brokenByAll l D cy B (us σ 24 (drf (tkN (σ 24) (σ 18) (mn (σ 18))) s_ k_)) 24 (show isR 24 from isR_24) (show 0 ≤ (us σ 24 (drf (tkN (σ 24) (σ 18) (mn (σ 18))) s_ k_)) 24 4 ∧ (us σ 24 (drf (tkN (σ 24) (σ 18) (mn (σ 18))) s_ k_)) 24 4 ≤ 4 from (by rw [us_eq]; omega))) vX6_brokenByAll ⟨w_647, w_648⟩ w_646 (lt_R isR_24) (e_R isR_24) rfl ⟨Nat.le_of_ble_eq_true rfl, Nat.le_of_ble_eq_true rfl⟩ hl.1 rfl (Nat.le_of_ble_eq_true rfl) ⟨Nat.zero_le _, Nat.zero_le _⟩ dX11_drawn_129 (fun H locs hW hS => ?_)
                  refine zi_top (y := brk (drf (σ 18) s_ k_)) (by rw [us_eq]; exact eqR_brk heq (by omega)) ?_
                  exact hret _ _ _ _ _ _ dX11_drawn_132 hW hS ⟨by (repeat' split) <;> first | (subst hkz; rfl) | omega, _, rfl⟩
                · refine lv_aload_n hx hb dX11_drawn_115 rfl (lv_at hl 2 rfl) ?_
                  refine wz_get hx hb hts hown hK hW 0 5 (by decide) e_0 rfl (by decide) inG11 w_310 rfl rfl dX11_drawn_116 ?_
                  refine wz_get hx hb hts hown hK hW 24 3 (lt_R isR_24) (e_R isR_24) rfl (by decide) inG6 w_255 rfl rfl dX11_drawn_119 ?_
                  refine zi_top (y := drf (σ 18) s_ k_ 1) (by rw [us_eq]; exact eqR_hd heq 1 (by omega)) ?_
                  refine lv_goto (tgt := 132) hx hb dX11_drawn_122 (by decide) ?_
                  exact hret _ _ _ _ _ _ dX11_drawn_132 hW hS ⟨by (repeat' split) <;> first | (subst hkz; rfl) | omega, _, rfl⟩
              · refine lv_lload hx hb dX11_drawn_67 (lv_at hl 1 rfl) ?_
                refine k_ldc2 hx hb hown hts (v := 16807) (by decide) w_699 dX11_drawn_69 ?_
                refine zi_lmul hx hb dX11_drawn_72 ?_
                refine k_ldc2 hx hb hown hts (v := 2147483647) (by decide) w_700 dX11_drawn_73 ?_
                refine zi_lrem hx hb dX11_drawn_76 (by omega) (by omega) ?_
                refine lv_lstore (lv' := [(4, .long (lI (((drx s_ k_) * 16807) % 2147483647))), (6, .int (iI (((k_ : Nat) : Int)))), (0, .ref (B + 0)), (1, .int (iI (z_))), (2, .int (iI (s_))), (3, .int (iI (w_)))]) hx hb dX11_drawn_77 hl (by decide) rfl (fun ls hl => ?_)
                refine lv_aload_n hx hb dX11_drawn_79 rfl (lv_at hl 2 rfl) ?_
                refine wz_get hx hb hts hown hK hW 0 5 (by decide) e_0 rfl (by decide) inG11 w_310 rfl rfl dX11_drawn_80 ?_
                refine lv_lload hx hb dX11_drawn_83 (lv_at hl 0 rfl) ?_
                refine lv_aload_n hx hb dX11_drawn_85 rfl (lv_at hl 2 rfl) ?_
                refine wz_get hx hb hts hown hK hW 0 4 (by decide) e_0 rfl (by decide) inG11 w_309 rfl rfl dX11_drawn_86 ?_
                refine wz_get hx hb hts hown hK hW 18 1 (lt_R isR_18) (e_R isR_18) rfl (by decide) inG6 w_249 rfl rfl dX11_drawn_89 ?_
                refine zi_top (y := σ 18 4) (by (first | rfl | (simp [us, uf, nS] <;> omega))) ?_
                refine zi_i2l hx hb dX11_drawn_92 (by omega) ?_
                refine zi_lrem hx hb dX11_drawn_93 (by omega) (by omega) ?_
                refine zi_l2i hx hb dX11_drawn_94 (by omega) ?_
                refine wz_put (σ' := (up (us σ 24 (drf (tkN (σ 24) (σ 18) (mn (σ 18))) s_ k_)) 24 6 ((((drx s_ k_) * 16807) % 2147483647) % (σ 18 4)))) (ty := .int) hx hb hts hown hK hW hS 24 6 tyX6 (lt_R isR_24) (e_R isR_24) rfl (by decide) inG6 tyX6_ok nmX6 w_263 ⟨rfl, rfl, Nat.le_of_ble_eq_true rfl⟩ (by decide +kernel) ⟨rfl, rfl⟩ (p_R_6 isR_24) dX11_drawn_95 (fun H locs hW hS => ?_)
                refine lv_aload_n hx hb dX11_drawn_98 rfl (lv_at hl 2 rfl) ?_
                refine wz_get hx hb hts hown hK hW 0 5 (by decide) e_0 rfl (by decide) inG11 w_310 rfl rfl dX11_drawn_99 ?_
                refine k_vv (fr := 3) (lo := 58) (σ' := (us (up (us σ 24 (drf (tkN (σ 24) (σ 18) (mn (σ 18))) s_ k_)) 24 6 ((((drx s_ k_) * 16807) % 2147483647) % (σ 18 4))) 24 (mon ((up (us σ 24 (drf (tkN (σ 24) (σ 18) (mn (σ 18))) s_ k_)) 24 6 ((((drx s_ k_) * 16807) % 2147483647) % (σ 18 4))) 24)))) (As := []) (rest := []) hx hb hml hown hts hK hRf hRl hW hS (c_X6_passMonth l D cy B (up (us σ 24 (drf (tkN (σ 24) (σ 18) (mn (σ 18))) s_ k_)) 24 6 ((((drx s_ k_) * 16807) % 2147483647) % (σ 18 4))) 24 (show isR 24 from isR_24) (show okV ((up (us σ 24 (drf (tkN (σ 24) (σ 18) (mn (σ 18))) s_ k_)) 24 6 ((((drx s_ k_) * 16807) % 2147483647) % (σ 18 4))) 24) from (by unfold up; rw [us_eq, us_eq]; exact okV_host hit.1 (by rw [hit.2.2, e4]; exact ⟨hmd, hml2⟩)))) vX6_passMonth ⟨w_563, w_564⟩ w_562 (lt_R isR_24) (e_R isR_24) rfl ⟨Nat.le_of_ble_eq_true rfl, Nat.le_of_ble_eq_true rfl⟩ hl.1 rfl (Nat.le_of_ble_eq_true rfl) ⟨Nat.zero_le _, Nat.zero_le _⟩ dX11_drawn_102 (fun H locs hW hS => ?_)
                rw [show (us (up (us σ 24 (drf (tkN (σ 24) (σ 18) (mn (σ 18))) s_ k_)) 24 6 ((((drx s_ k_) * 16807) % 2147483647) % (σ 18 4))) 24 (mon ((up (us σ 24 (drf (tkN (σ 24) (σ 18) (mn (σ 18))) s_ k_)) 24 6 ((((drx s_ k_) * 16807) % 2147483647) % (σ 18 4))) 24))) = us σ 24 (drf (tkN (σ 24) (σ 18) (mn (σ 18))) s_ (k_ + 1)) from (by unfold up; simp only [us_us, us_eq]; rfl)] at hW
                refine lv_iinc (v := iI (((k_ : Nat) : Int) + 1)) (lv' := [(6, .int (iI (((k_ : Nat) : Int) + 1))), (4, .long (lI (((drx s_ k_) * 16807) % 2147483647))), (0, .ref (B + 0)), (1, .int (iI (z_))), (2, .int (iI (s_))), (3, .int (iI (w_)))]) hx hb dX11_drawn_105 hl (k := 1) rfl (iI_add _ _) (by decide) rfl (fun ls hl => ?_)
                refine lv_goto (tgt := 61) hx hb dX11_drawn_108 (by decide) ?_
                exact ih61 (k_ + 1) _ _ _ (by omega) (by omega) (by exact hW) hS (lv_sub hl [0, 1, 2, 3, 4, 5] rfl)
          exact L61 _ 0 _ _ _ (Nat.lt_succ_self _) (by omega) (by exact hW) hS (lv_sub hl [0, 1, 2, 3, 4, 5] rfl)
        · refine k_ldc hx hb hown hts (v := -1000001) (by decide) w_361 dX11_drawn_40 ?_
          exact hret _ _ _ _ _ _ dX11_drawn_42 hW hS ⟨by (try simp only [Int.toNat_natCast]); (repeat' split) <;> first | rfl | omega, _, (us_id _ 24).symm⟩
  · refine k_ldc hx hb hown hts (v := -1000002) (by decide) w_479 dX11_drawn_7 ?_
    exact hret _ _ _ _ _ _ dX11_drawn_9 hW hS ⟨by (try simp only [Int.toNat_natCast]); (repeat' split) <;> first | rfl | omega, _, (us_id _ 24).symm⟩
