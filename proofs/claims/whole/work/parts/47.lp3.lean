
set_option maxRecDepth 100000 in
set_option maxHeartbeats 4000000 in
theorem c_X4_number (l : Launch) (D : va_G) (cy : Nat → ClassId) (B : Nat) (σ : Sg)   : CI l yX4_number cX4_number 1 (some .int) 0 0 D cy B [.ref (B + 13)] σ (1) (σ) := by
  refine CI_of (ty := .int) (by decide) (rfl) (Nat.le_of_ble_eq_true rfl) ?_
  intro p e R s m args below meth c Q hx hb hml hown hts hK hRf hRl hW hret ls hl
  have hown : s.vm.findClass "LoveParts$Plain" = some m.cls := hown
  have hS : va_S (AB B) s.heap s.heap [] := va_S.rf
  have hl : lv_has ls 1 [(0, .ref (B + 13))] := hl
  refine zi_con hx hb dX4_number_0 ?_
  exact hret _ _ _ _ _ _ dX4_number_1 hW hS ⟨rfl, rfl⟩

set_option maxRecDepth 100000 in
set_option maxHeartbeats 4000000 in
theorem c_X4_own (l : Launch) (D : va_G) (cy : Nat → ClassId) (B : Nat) (σ : Sg) (o_ : Nat) (h_ : Nat) (n_ : Int) (hR : isR o_) (hh : h_ < 4) (hn : -1 ≤ n_ ∧ n_ ≤ 18) : CI l yX4_own cX4_own 3 (some .int) 0 0 D cy B [.ref (B + 13), .ref (B + (o_ + 2 + h_)), .int (iI (n_))] σ (σ o_ (12 + h_)) (σ) := by
  refine CI_of (ty := .int) (by decide) (rfl) (Nat.le_of_ble_eq_true rfl) ?_
  intro p e R s m args below meth c Q hx hb hml hown hts hK hRf hRl hW hret ls hl
  have hown : s.vm.findClass "LoveParts$Plain" = some m.cls := hown
  have hS : va_S (AB B) s.heap s.heap [] := va_S.rf
  have hl : lv_has ls 3 [(0, .ref (B + 13)), (1, .ref (B + (o_ + 2 + h_))), (2, .int (iI (n_)))] := hl
  refine lv_aload_n hx hb dX4_own_0 rfl (lv_at hl 1 rfl) ?_
  refine wz_get hx hb hts hown hK hW (o_ + 2 + h_) 2 (lt_H hR (by omega)) (e_H hR (by omega)) rfl (by decide) inG0 w_188 rfl rfl dX4_own_1 ?_
  exact hret _ _ _ _ _ _ dX4_own_4 hW hS ⟨rfl, rfl⟩

set_option maxRecDepth 100000 in
set_option maxHeartbeats 4000000 in
theorem c_X8_number (l : Launch) (D : va_G) (cy : Nat → ClassId) (B : Nat) (σ : Sg)   : CI l yX8_number cX8_number 1 (some .int) 0 0 D cy B [.ref (B + 14)] σ (2) (σ) := by
  refine CI_of (ty := .int) (by decide) (rfl) (Nat.le_of_ble_eq_true rfl) ?_
  intro p e R s m args below meth c Q hx hb hml hown hts hK hRf hRl hW hret ls hl
  have hown : s.vm.findClass "LoveParts$Schooled" = some m.cls := hown
  have hS : va_S (AB B) s.heap s.heap [] := va_S.rf
  have hl : lv_has ls 1 [(0, .ref (B + 14))] := hl
  refine zi_con hx hb dX8_number_0 ?_
  exact hret _ _ _ _ _ _ dX8_number_1 hW hS ⟨rfl, rfl⟩

set_option maxRecDepth 100000 in
set_option maxHeartbeats 4000000 in
theorem c_X8_own (l : Launch) (D : va_G) (cy : Nat → ClassId) (B : Nat) (σ : Sg) (o_ : Nat) (h_ : Nat) (n_ : Int) (hR : isR o_) (hh : h_ < 4) (hn : -1 ≤ n_ ∧ n_ ≤ 18) : CI l yX8_own cX8_own 3 (some .int) 0 0 D cy B [.ref (B + 14), .ref (B + (o_ + 2 + h_)), .int (iI (n_))] σ (σ o_ (12 + h_) + σ o_ (16 + h_)) (σ) := by
  refine CI_of (ty := .int) (by decide) (rfl) (Nat.le_of_ble_eq_true rfl) ?_
  intro p e R s m args below meth c Q hx hb hml hown hts hK hRf hRl hW hret ls hl
  have hown : s.vm.findClass "LoveParts$Schooled" = some m.cls := hown
  have hS : va_S (AB B) s.heap s.heap [] := va_S.rf
  have hl : lv_has ls 3 [(0, .ref (B + 14)), (1, .ref (B + (o_ + 2 + h_))), (2, .int (iI (n_)))] := hl
  refine lv_aload_n hx hb dX8_own_0 rfl (lv_at hl 1 rfl) ?_
  refine wz_get hx hb hts hown hK hW (o_ + 2 + h_) 2 (lt_H hR (by omega)) (e_H hR (by omega)) rfl (by decide) inG0 w_189 rfl rfl dX8_own_1 ?_
  refine lv_aload_n hx hb dX8_own_4 rfl (lv_at hl 1 rfl) ?_
  refine wz_get hx hb hts hown hK hW (o_ + 2 + h_) 3 (lt_H hR (by omega)) (e_H hR (by omega)) rfl (by decide) inG0 w_197 rfl rfl dX8_own_5 ?_
  refine zi_add hx hb dX8_own_8 ?_
  exact hret _ _ _ _ _ _ dX8_own_9 hW hS ⟨rfl, rfl⟩

set_option maxRecDepth 100000 in
set_option maxHeartbeats 4000000 in
theorem c_X2_number (l : Launch) (D : va_G) (cy : Nat → ClassId) (B : Nat) (σ : Sg)   : CI l yX2_number cX2_number 1 (some .int) 0 0 D cy B [.ref (B + 15)] σ (3) (σ) := by
  refine CI_of (ty := .int) (by decide) (rfl) (Nat.le_of_ble_eq_true rfl) ?_
  intro p e R s m args below meth c Q hx hb hml hown hts hK hRf hRl hW hret ls hl
  have hown : s.vm.findClass "LoveParts$Joint" = some m.cls := hown
  have hS : va_S (AB B) s.heap s.heap [] := va_S.rf
  have hl : lv_has ls 1 [(0, .ref (B + 15))] := hl
  refine zi_con hx hb dX2_number_0 ?_
  exact hret _ _ _ _ _ _ dX2_number_1 hW hS ⟨rfl, rfl⟩

set_option maxRecDepth 100000 in
set_option maxHeartbeats 4000000 in
theorem c_X2_own (l : Launch) (D : va_G) (cy : Nat → ClassId) (B : Nat) (σ : Sg) (o_ : Nat) (h_ : Nat) (n_ : Int) (hR : isR o_) (hh : h_ < 4) (hn : -1 ≤ n_ ∧ n_ ≤ 18) : CI l yX2_own cX2_own 3 (some .int) 0 0 D cy B [.ref (B + 15), .ref (B + (o_ + 2 + h_)), .int (iI (n_))] σ (if n_ = -1 then σ o_ (12 + h_) else n_ + 1) (σ) := by
  refine CI_of (ty := .int) (by decide) (rfl) (Nat.le_of_ble_eq_true rfl) ?_
  intro p e R s m args below meth c Q hx hb hml hown hts hK hRf hRl hW hret ls hl
  have hown : s.vm.findClass "LoveParts$Joint" = some m.cls := hown
  have hS : va_S (AB B) s.heap s.heap [] := va_S.rf
  have hl : lv_has ls 3 [(0, .ref (B + 15)), (1, .ref (B + (o_ + 2 + h_))), (2, .int (iI (n_)))] := hl
  refine lv_iload_n hx hb dX2_own_0 rfl (lv_at hl 2 rfl) ?_
  refine zi_con hx hb dX2_own_1 ?_
  refine zi_cne (tgt := 12) hx hb dX2_own_2 (by decide) (by omega) (by omega) (fun c2 => ?_) (fun c2 => ?_)
  · refine lv_iload_n hx hb dX2_own_12 rfl (lv_at hl 2 rfl) ?_
    refine zi_con hx hb dX2_own_13 ?_
    refine zi_add hx hb dX2_own_14 ?_
    exact hret _ _ _ _ _ _ dX2_own_15 hW hS ⟨by (try split) <;> first | rfl | omega, rfl⟩
  · refine lv_aload_n hx hb dX2_own_5 rfl (lv_at hl 1 rfl) ?_
    refine wz_get hx hb hts hown hK hW (o_ + 2 + h_) 2 (lt_H hR (by omega)) (e_H hR (by omega)) rfl (by decide) inG0 w_191 rfl rfl dX2_own_6 ?_
    refine lv_goto (tgt := 15) hx hb dX2_own_9 (by decide) ?_
    exact hret _ _ _ _ _ _ dX2_own_15 hW hS ⟨by (try split) <;> first | rfl | omega, rfl⟩

set_option maxRecDepth 100000 in
set_option maxHeartbeats 4000000 in
theorem c_X9_number (l : Launch) (D : va_G) (cy : Nat → ClassId) (B : Nat) (σ : Sg)   : CI l yX9_number cX9_number 1 (some .int) 0 0 D cy B [.ref (B + 16)] σ (4) (σ) := by
  refine CI_of (ty := .int) (by decide) (rfl) (Nat.le_of_ble_eq_true rfl) ?_
  intro p e R s m args below meth c Q hx hb hml hown hts hK hRf hRl hW hret ls hl
  have hown : s.vm.findClass "LoveParts$Silent" = some m.cls := hown
  have hS : va_S (AB B) s.heap s.heap [] := va_S.rf
  have hl : lv_has ls 1 [(0, .ref (B + 16))] := hl
  refine zi_con hx hb dX9_number_0 ?_
  exact hret _ _ _ _ _ _ dX9_number_1 hW hS ⟨rfl, rfl⟩

set_option maxRecDepth 100000 in
set_option maxHeartbeats 4000000 in
theorem c_X9_own (l : Launch) (D : va_G) (cy : Nat → ClassId) (B : Nat) (σ : Sg) (o_ : Nat) (h_ : Nat) (n_ : Int) (hR : isR o_) (hh : h_ < 4) (hn : -1 ≤ n_ ∧ n_ ≤ 18) : CI l yX9_own cX9_own 3 (some .int) 0 0 D cy B [.ref (B + 16), .ref (B + (o_ + 2 + h_)), .int (iI (n_))] σ (0) (σ) := by
  refine CI_of (ty := .int) (by decide) (rfl) (Nat.le_of_ble_eq_true rfl) ?_
  intro p e R s m args below meth c Q hx hb hml hown hts hK hRf hRl hW hret ls hl
  have hown : s.vm.findClass "LoveParts$Silent" = some m.cls := hown
  have hS : va_S (AB B) s.heap s.heap [] := va_S.rf
  have hl : lv_has ls 3 [(0, .ref (B + 16)), (1, .ref (B + (o_ + 2 + h_))), (2, .int (iI (n_)))] := hl
  refine zi_con hx hb dX9_own_0 ?_
  exact hret _ _ _ _ _ _ dX9_own_1 hW hS ⟨rfl, rfl⟩

set_option maxRecDepth 100000 in
set_option maxHeartbeats 4000000 in
theorem c_X1_number (l : Launch) (D : va_G) (cy : Nat → ClassId) (B : Nat) (σ : Sg)   : CI l yX1_number cX1_number 1 (some .int) 0 0 D cy B [.ref (B + 17)] σ (5) (σ) := by
  refine CI_of (ty := .int) (by decide) (rfl) (Nat.le_of_ble_eq_true rfl) ?_
  intro p e R s m args below meth c Q hx hb hml hown hts hK hRf hRl hW hret ls hl
  have hown : s.vm.findClass "LoveParts$Ironic" = some m.cls := hown
  have hS : va_S (AB B) s.heap s.heap [] := va_S.rf
  have hl : lv_has ls 1 [(0, .ref (B + 17))] := hl
  refine zi_con hx hb dX1_number_0 ?_
  exact hret _ _ _ _ _ _ dX1_number_1 hW hS ⟨rfl, rfl⟩

set_option maxRecDepth 100000 in
set_option maxHeartbeats 4000000 in
theorem c_X1_own (l : Launch) (D : va_G) (cy : Nat → ClassId) (B : Nat) (σ : Sg) (o_ : Nat) (h_ : Nat) (n_ : Int) (hR : isR o_) (hh : h_ < 4) (hn : -1 ≤ n_ ∧ n_ ≤ 18) : CI l yX1_own cX1_own 3 (some .int) 0 0 D cy B [.ref (B + 17), .ref (B + (o_ + 2 + h_)), .int (iI (n_))] σ (9 - σ o_ (12 + h_)) (σ) := by
  refine CI_of (ty := .int) (by decide) (rfl) (Nat.le_of_ble_eq_true rfl) ?_
  intro p e R s m args below meth c Q hx hb hml hown hts hK hRf hRl hW hret ls hl
  have hown : s.vm.findClass "LoveParts$Ironic" = some m.cls := hown
  have hS : va_S (AB B) s.heap s.heap [] := va_S.rf
  have hl : lv_has ls 3 [(0, .ref (B + 17)), (1, .ref (B + (o_ + 2 + h_))), (2, .int (iI (n_)))] := hl
  refine zi_bip hx hb dX1_own_0 (by decide) ?_
  refine lv_aload_n hx hb dX1_own_2 rfl (lv_at hl 1 rfl) ?_
  refine wz_get hx hb hts hown hK hW (o_ + 2 + h_) 2 (lt_H hR (by omega)) (e_H hR (by omega)) rfl (by decide) inG0 w_190 rfl rfl dX1_own_3 ?_
  refine zi_sub hx hb dX1_own_6 ?_
  exact hret _ _ _ _ _ _ dX1_own_7 hW hS ⟨rfl, rfl⟩
