theorem inG1 : ∀ w ∈ wsX10, w ∈ gw := fun w h => gw_in (inX1 w h) (List.all_eq_true.mp (by decide +kernel : wsX10.all goodWord = true) w h)
theorem inG2 : ∀ w ∈ wsX20, w ∈ gw := fun w h => gw_in (inX2 w h) (List.all_eq_true.mp (by decide +kernel : wsX20.all goodWord = true) w h)
theorem inG8 : ∀ w ∈ wsX80, w ∈ gw := fun w h => gw_in (inX8 w h) (List.all_eq_true.mp (by decide +kernel : wsX80.all goodWord = true) w h)
theorem inG9 : ∀ w ∈ wsX90, w ∈ gw := fun w h => gw_in (inX9 w h) (List.all_eq_true.mp (by decide +kernel : wsX90.all goodWord = true) w h)
set_option maxRecDepth 100000 in
set_option maxHeartbeats 4000000 in
theorem n_X3_init (l : Launch) (D : va_G) (cy : Nat → ClassId) (B : Nat) (b_ : Nat) (n_ : Nat) (G : Nat → va_E)  : CN l yX3_init cX3_init 1 1 12 0 0 D cy B [.ref (B + b_)] (n_) (G) (n_) (G) := by
  refine CN_of (by decide) (Nat.le_of_ble_eq_true rfl) ?_
  intro p e R s m args below meth c Q hx hb hml hown hni hts hK hX hRf hRl hRc hW hret ls hl
  have hown : s.vm.findClass "LoveParts$Nature" = some m.cls := hown
  have hni : meth.name = "<init>" := hni
  have hS : va_S (AB B) s.heap s.heap [] := va_S.rf
  have hl : lv_has ls 1 [(0, .ref (B + b_))] := hl
  refine lv_aload_n hx hb dX3_init_0 rfl (lv_at hl 0 rfl) ?_
  refine pz_obj hx hb hml hts hown w_138 ⟨w_74, w_75⟩ ⟨by omega, Nat.le_trans (Nat.le_of_ble_eq_true rfl) hRl⟩ hl.1 dX3_init_1 ?_
  refine W_cast (show 0 = 0 by omega) (show 0 = 0 by omega) ?_
  exact hret _ _ _ _ dX3_init_4 (hW) hS

set_option maxRecDepth 100000 in
set_option maxHeartbeats 4000000 in
theorem n_X4_init (l : Launch) (D : va_G) (cy : Nat → ClassId) (B : Nat) (b_ : Nat) (n_ : Nat) (G : Nat → va_E)  : CN l yX4_init cX4_init 1 2 32 0 0 D cy B [.ref (B + b_)] (n_) (G) (n_) (G) := by
  refine CN_of (by decide) (Nat.le_of_ble_eq_true rfl) ?_
  intro p e R s m args below meth c Q hx hb hml hown hni hts hK hX hRf hRl hRc hW hret ls hl
  have hown : s.vm.findClass "LoveParts$Plain" = some m.cls := hown
  have hni : meth.name = "<init>" := hni
  have hS : va_S (AB B) s.heap s.heap [] := va_S.rf
  have hl : lv_has ls 1 [(0, .ref (B + b_))] := hl
  refine lv_aload_n hx hb dX4_init_0 rfl (lv_at hl 0 rfl) ?_
  refine pz_initN (fr := 2) (lo := 32) (host := "LoveParts") (As := []) (rest := []) hx hb hml hown hts hK hX hRf hRl hW hS (n_X3_init l D cy B (b_) (n_) (G)) vX3_init w_136 rfl (by decide) ⟨Nat.le_of_ble_eq_true rfl, Nat.le_of_ble_eq_true rfl⟩ hl.1 rfl (Nat.le_of_ble_eq_true rfl) ⟨by omega, by omega⟩ dX4_init_1 (fun H locs hW hS => ?_)
  refine W_cast (show 0 = 0 by omega) (show 0 = 0 by omega) ?_
  exact hret _ _ _ _ dX4_init_4 (hW) hS

set_option maxRecDepth 100000 in
set_option maxHeartbeats 4000000 in
theorem n_X8_init (l : Launch) (D : va_G) (cy : Nat → ClassId) (B : Nat) (b_ : Nat) (n_ : Nat) (G : Nat → va_E)  : CN l yX8_init cX8_init 1 3 52 0 0 D cy B [.ref (B + b_)] (n_) (G) (n_) (G) := by
  refine CN_of (by decide) (Nat.le_of_ble_eq_true rfl) ?_
  intro p e R s m args below meth c Q hx hb hml hown hni hts hK hX hRf hRl hRc hW hret ls hl
  have hown : s.vm.findClass "LoveParts$Schooled" = some m.cls := hown
  have hni : meth.name = "<init>" := hni
  have hS : va_S (AB B) s.heap s.heap [] := va_S.rf
  have hl : lv_has ls 1 [(0, .ref (B + b_))] := hl
  refine lv_aload_n hx hb dX8_init_0 rfl (lv_at hl 0 rfl) ?_
  refine pz_initN (fr := 3) (lo := 52) (host := "LoveParts") (As := []) (rest := []) hx hb hml hown hts hK hX hRf hRl hW hS (n_X4_init l D cy B (b_) (n_) (G)) vX4_init w_133 rfl (by decide) ⟨Nat.le_of_ble_eq_true rfl, Nat.le_of_ble_eq_true rfl⟩ hl.1 rfl (Nat.le_of_ble_eq_true rfl) ⟨by omega, by omega⟩ dX8_init_1 (fun H locs hW hS => ?_)
  refine W_cast (show 0 = 0 by omega) (show 0 = 0 by omega) ?_
  exact hret _ _ _ _ dX8_init_4 (hW) hS

set_option maxRecDepth 100000 in
set_option maxHeartbeats 4000000 in
theorem n_X2_init (l : Launch) (D : va_G) (cy : Nat → ClassId) (B : Nat) (b_ : Nat) (n_ : Nat) (G : Nat → va_E)  : CN l yX2_init cX2_init 1 3 52 0 0 D cy B [.ref (B + b_)] (n_) (G) (n_) (G) := by
  refine CN_of (by decide) (Nat.le_of_ble_eq_true rfl) ?_
  intro p e R s m args below meth c Q hx hb hml hown hni hts hK hX hRf hRl hRc hW hret ls hl
  have hown : s.vm.findClass "LoveParts$Joint" = some m.cls := hown
  have hni : meth.name = "<init>" := hni
  have hS : va_S (AB B) s.heap s.heap [] := va_S.rf
  have hl : lv_has ls 1 [(0, .ref (B + b_))] := hl
  refine lv_aload_n hx hb dX2_init_0 rfl (lv_at hl 0 rfl) ?_
  refine pz_initN (fr := 3) (lo := 52) (host := "LoveParts") (As := []) (rest := []) hx hb hml hown hts hK hX hRf hRl hW hS (n_X4_init l D cy B (b_) (n_) (G)) vX4_init w_133 rfl (by decide) ⟨Nat.le_of_ble_eq_true rfl, Nat.le_of_ble_eq_true rfl⟩ hl.1 rfl (Nat.le_of_ble_eq_true rfl) ⟨by omega, by omega⟩ dX2_init_1 (fun H locs hW hS => ?_)
  refine W_cast (show 0 = 0 by omega) (show 0 = 0 by omega) ?_
  exact hret _ _ _ _ dX2_init_4 (hW) hS

set_option maxRecDepth 100000 in
set_option maxHeartbeats 4000000 in
theorem n_X9_init (l : Launch) (D : va_G) (cy : Nat → ClassId) (B : Nat) (b_ : Nat) (n_ : Nat) (G : Nat → va_E)  : CN l yX9_init cX9_init 1 2 32 0 0 D cy B [.ref (B + b_)] (n_) (G) (n_) (G) := by
  refine CN_of (by decide) (Nat.le_of_ble_eq_true rfl) ?_
  intro p e R s m args below meth c Q hx hb hml hown hni hts hK hX hRf hRl hRc hW hret ls hl
  have hown : s.vm.findClass "LoveParts$Silent" = some m.cls := hown
  have hni : meth.name = "<init>" := hni
  have hS : va_S (AB B) s.heap s.heap [] := va_S.rf
  have hl : lv_has ls 1 [(0, .ref (B + b_))] := hl
  refine lv_aload_n hx hb dX9_init_0 rfl (lv_at hl 0 rfl) ?_
  refine pz_initN (fr := 2) (lo := 32) (host := "LoveParts") (As := []) (rest := []) hx hb hml hown hts hK hX hRf hRl hW hS (n_X3_init l D cy B (b_) (n_) (G)) vX3_init w_136 rfl (by decide) ⟨Nat.le_of_ble_eq_true rfl, Nat.le_of_ble_eq_true rfl⟩ hl.1 rfl (Nat.le_of_ble_eq_true rfl) ⟨by omega, by omega⟩ dX9_init_1 (fun H locs hW hS => ?_)
  refine W_cast (show 0 = 0 by omega) (show 0 = 0 by omega) ?_
  exact hret _ _ _ _ dX9_init_4 (hW) hS

set_option maxRecDepth 100000 in
set_option maxHeartbeats 4000000 in
theorem n_X1_init (l : Launch) (D : va_G) (cy : Nat → ClassId) (B : Nat) (b_ : Nat) (n_ : Nat) (G : Nat → va_E)  : CN l yX1_init cX1_init 1 3 52 0 0 D cy B [.ref (B + b_)] (n_) (G) (n_) (G) := by
  refine CN_of (by decide) (Nat.le_of_ble_eq_true rfl) ?_
  intro p e R s m args below meth c Q hx hb hml hown hni hts hK hX hRf hRl hRc hW hret ls hl
  have hown : s.vm.findClass "LoveParts$Ironic" = some m.cls := hown
  have hni : meth.name = "<init>" := hni
  have hS : va_S (AB B) s.heap s.heap [] := va_S.rf
  have hl : lv_has ls 1 [(0, .ref (B + b_))] := hl
  refine lv_aload_n hx hb dX1_init_0 rfl (lv_at hl 0 rfl) ?_
  refine pz_initN (fr := 3) (lo := 52) (host := "LoveParts") (As := []) (rest := []) hx hb hml hown hts hK hX hRf hRl hW hS (n_X9_init l D cy B (b_) (n_) (G)) vX9_init w_157 rfl (by decide) ⟨Nat.le_of_ble_eq_true rfl, Nat.le_of_ble_eq_true rfl⟩ hl.1 rfl (Nat.le_of_ble_eq_true rfl) ⟨by omega, by omega⟩ dX1_init_1 (fun H locs hW hS => ?_)
  refine W_cast (show 0 = 0 by omega) (show 0 = 0 by omega) ?_
  exact hret _ _ _ _ dX1_init_4 (hW) hS

set_option maxRecDepth 100000 in
set_option maxHeartbeats 4000000 in
theorem n_X0_init (l : Launch) (D : va_G) (cy : Nat → ClassId) (B : Nat) (b_ : Nat) (h_ : Nat) (v_ : Nat) (n_ : Nat) (G : Nat → va_E) (hbl : b_ < n_) (he : G b_ = .inr (0, [.int (iI 0), .null, .int (iI 0), .int (iI 0), .int (iI 0), .int (iI 0), .int (iI 0), .int (iI 0), .int (iI 0), .int (iI 0), .int (iI 0)])) : CN l yX0_init cX0_init 3 1 12 0 0 D cy B [.ref (B + b_), .int (iI ((h_ : Nat) : Int)), .ref (B + v_)] (n_) (G) (n_) (ug G b_ (.inr (0, [.int (iI ((h_ : Nat) : Int)), .ref (B + v_), .int (iI 0), .int (iI 0), .int (iI 0), .int (iI 0), .int (iI 0), .int (iI 0), .int (iI 1000000), .int (iI 0), .int (iI 0)]))) := by
  refine CN_of (by decide) (Nat.le_of_ble_eq_true rfl) ?_
  intro p e R s m args below meth c Q hx hb hml hown hni hts hK hX hRf hRl hRc hW hret ls hl
  have hown : s.vm.findClass "LoveParts$Heir" = some m.cls := hown
  have hni : meth.name = "<init>" := hni
  have hS : va_S (AB B) s.heap s.heap [] := va_S.rf
  have hl : lv_has ls 3 [(0, .ref (B + b_)), (1, .int (iI ((h_ : Nat) : Int))), (2, .ref (B + v_))] := hl
  refine lv_aload_n hx hb dX0_init_0 rfl (lv_at hl 0 rfl) ?_
  refine pz_obj hx hb hml hts hown w_179 ⟨w_74, w_75⟩ ⟨by omega, Nat.le_trans (Nat.le_of_ble_eq_true rfl) hRl⟩ hl.1 dX0_init_1 ?_
  refine lv_aload_n hx hb dX0_init_4 rfl (lv_at hl 0 rfl) ?_
  refine zi_con hx hb dX0_init_5 ?_
  refine pz_put (ty := .int) hx hb hts hown hK hW hS (b_) 2 tyX0 (by omega) he rfl (by decide) inG0 tyX0_ok nmX0 w_187 ⟨rfl, rfl, Nat.le_of_ble_eq_true rfl⟩ (by decide +kernel) ⟨rfl, rfl⟩ dX0_init_6 (fun H locs hW hS => ?_)
  have hW : pw D B (n_) (ug (G) (b_) (.inr (0, [.int (iI 0), .null, .int (iI 0), .int (iI 0), .int (iI 0), .int (iI 0), .int (iI 0), .int (iI 0), .int (iI 0), .int (iI 0), .int (iI 0)]))) H := hW
  refine lv_aload_n hx hb dX0_init_9 rfl (lv_at hl 0 rfl) ?_
  refine zi_con hx hb dX0_init_10 ?_
  refine pz_put (ty := .int) hx hb hts hown hK hW hS (b_) 3 tyX0 (by omega) (ug_eq _ _ _) rfl (by decide) inG0 tyX0_ok nmX0 w_196 ⟨rfl, rfl, Nat.le_of_ble_eq_true rfl⟩ (by decide +kernel) ⟨rfl, rfl⟩ dX0_init_11 (fun H locs hW hS => ?_)
  have hW : pw D B (n_) (ug (G) (b_) (.inr (0, [.int (iI 0), .null, .int (iI 0), .int (iI 0), .int (iI 0), .int (iI 0), .int (iI 0), .int (iI 0), .int (iI 0), .int (iI 0), .int (iI 0)]))) H := by rw [ug_ug] at hW; exact hW
  refine lv_aload_n hx hb dX0_init_14 rfl (lv_at hl 0 rfl) ?_
  refine zi_con hx hb dX0_init_15 ?_
  refine pz_put (ty := .boolean) hx hb hts hown hK hW hS (b_) 4 tyX0 (by omega) (ug_eq _ _ _) rfl (by decide) inG0 tyX0_ok nmX0 w_201 ⟨rfl, rfl, Nat.le_of_ble_eq_true rfl⟩ (by decide +kernel) ⟨rfl, rfl⟩ dX0_init_16 (fun H locs hW hS => ?_)
  have hW : pw D B (n_) (ug (G) (b_) (.inr (0, [.int (iI 0), .null, .int (iI 0), .int (iI 0), .int (iI 0), .int (iI 0), .int (iI 0), .int (iI 0), .int (iI 0), .int (iI 0), .int (iI 0)]))) H := by rw [ug_ug] at hW; exact hW
  refine lv_aload_n hx hb dX0_init_19 rfl (lv_at hl 0 rfl) ?_
  refine zi_con hx hb dX0_init_20 ?_
  refine pz_put (ty := .int) hx hb hts hown hK hW hS (b_) 5 tyX0 (by omega) (ug_eq _ _ _) rfl (by decide) inG0 tyX0_ok nmX0 w_204 ⟨rfl, rfl, Nat.le_of_ble_eq_true rfl⟩ (by decide +kernel) ⟨rfl, rfl⟩ dX0_init_21 (fun H locs hW hS => ?_)
  have hW : pw D B (n_) (ug (G) (b_) (.inr (0, [.int (iI 0), .null, .int (iI 0), .int (iI 0), .int (iI 0), .int (iI 0), .int (iI 0), .int (iI 0), .int (iI 0), .int (iI 0), .int (iI 0)]))) H := by rw [ug_ug] at hW; exact hW
  refine lv_aload_n hx hb dX0_init_24 rfl (lv_at hl 0 rfl) ?_
  refine zi_con hx hb dX0_init_25 ?_
  refine pz_put (ty := .int) hx hb hts hown hK hW hS (b_) 6 tyX0 (by omega) (ug_eq _ _ _) rfl (by decide) inG0 tyX0_ok nmX0 w_207 ⟨rfl, rfl, Nat.le_of_ble_eq_true rfl⟩ (by decide +kernel) ⟨rfl, rfl⟩ dX0_init_26 (fun H locs hW hS => ?_)
  have hW : pw D B (n_) (ug (G) (b_) (.inr (0, [.int (iI 0), .null, .int (iI 0), .int (iI 0), .int (iI 0), .int (iI 0), .int (iI 0), .int (iI 0), .int (iI 0), .int (iI 0), .int (iI 0)]))) H := by rw [ug_ug] at hW; exact hW
  refine lv_aload_n hx hb dX0_init_29 rfl (lv_at hl 0 rfl) ?_
  refine zi_con hx hb dX0_init_30 ?_
  refine pz_put (ty := .int) hx hb hts hown hK hW hS (b_) 7 tyX0 (by omega) (ug_eq _ _ _) rfl (by decide) inG0 tyX0_ok nmX0 w_210 ⟨rfl, rfl, Nat.le_of_ble_eq_true rfl⟩ (by decide +kernel) ⟨rfl, rfl⟩ dX0_init_31 (fun H locs hW hS => ?_)
  have hW : pw D B (n_) (ug (G) (b_) (.inr (0, [.int (iI 0), .null, .int (iI 0), .int (iI 0), .int (iI 0), .int (iI 0), .int (iI 0), .int (iI 0), .int (iI 0), .int (iI 0), .int (iI 0)]))) H := by rw [ug_ug] at hW; exact hW
  refine lv_aload_n hx hb dX0_init_34 rfl (lv_at hl 0 rfl) ?_
  refine k_ldc hx hb hown hts (v := 1000000) (by decide) w_180 dX0_init_35 ?_
  refine pz_put (ty := .int) hx hb hts hown hK hW hS (b_) 8 tyX0 (by omega) (ug_eq _ _ _) rfl (by decide) inG0 tyX0_ok nmX0 w_212 ⟨rfl, rfl, Nat.le_of_ble_eq_true rfl⟩ (by decide +kernel) ⟨rfl, rfl⟩ dX0_init_37 (fun H locs hW hS => ?_)
  have hW : pw D B (n_) (ug (G) (b_) (.inr (0, [.int (iI 0), .null, .int (iI 0), .int (iI 0), .int (iI 0), .int (iI 0), .int (iI 0), .int (iI 0), .int (iI 1000000), .int (iI 0), .int (iI 0)]))) H := by rw [ug_ug] at hW; exact hW
  refine lv_aload_n hx hb dX0_init_40 rfl (lv_at hl 0 rfl) ?_
  refine zi_con hx hb dX0_init_41 ?_
  refine pz_put (ty := .int) hx hb hts hown hK hW hS (b_) 9 tyX0 (by omega) (ug_eq _ _ _) rfl (by decide) inG0 tyX0_ok nmX0 w_215 ⟨rfl, rfl, Nat.le_of_ble_eq_true rfl⟩ (by decide +kernel) ⟨rfl, rfl⟩ dX0_init_42 (fun H locs hW hS => ?_)
  have hW : pw D B (n_) (ug (G) (b_) (.inr (0, [.int (iI 0), .null, .int (iI 0), .int (iI 0), .int (iI 0), .int (iI 0), .int (iI 0), .int (iI 0), .int (iI 1000000), .int (iI 0), .int (iI 0)]))) H := by rw [ug_ug] at hW; exact hW
  refine lv_aload_n hx hb dX0_init_45 rfl (lv_at hl 0 rfl) ?_
  refine zi_con hx hb dX0_init_46 ?_
  refine pz_put (ty := .int) hx hb hts hown hK hW hS (b_) 10 tyX0 (by omega) (ug_eq _ _ _) rfl (by decide) inG0 tyX0_ok nmX0 w_218 ⟨rfl, rfl, Nat.le_of_ble_eq_true rfl⟩ (by decide +kernel) ⟨rfl, rfl⟩ dX0_init_47 (fun H locs hW hS => ?_)
  have hW : pw D B (n_) (ug (G) (b_) (.inr (0, [.int (iI 0), .null, .int (iI 0), .int (iI 0), .int (iI 0), .int (iI 0), .int (iI 0), .int (iI 0), .int (iI 1000000), .int (iI 0), .int (iI 0)]))) H := by rw [ug_ug] at hW; exact hW
  refine lv_aload_n hx hb dX0_init_50 rfl (lv_at hl 0 rfl) ?_
  refine lv_iload_n hx hb dX0_init_51 rfl (lv_at hl 1 rfl) ?_
  refine pz_putF (ty := .int) hx hb hts hown hni hK hW hS (b_) 0 tyX0 (by omega) (ug_eq _ _ _) rfl (by decide) inG0 tyX0_ok nmX0 w_181 ⟨rfl, rfl, Nat.le_of_ble_eq_true rfl, rfl⟩ (by decide +kernel) ⟨rfl, rfl⟩ dX0_init_52 (fun H locs hW hS => ?_)
  have hW : pw D B (n_) (ug (G) (b_) (.inr (0, [.int (iI ((h_ : Nat) : Int)), .null, .int (iI 0), .int (iI 0), .int (iI 0), .int (iI 0), .int (iI 0), .int (iI 0), .int (iI 1000000), .int (iI 0), .int (iI 0)]))) H := by rw [ug_ug] at hW; exact hW
  refine lv_aload_n hx hb dX0_init_55 rfl (lv_at hl 0 rfl) ?_
  refine lv_aload_n hx hb dX0_init_56 rfl (lv_at hl 2 rfl) ?_
  refine pz_put (ty := (.object "LoveParts$Nature")) hx hb hts hown hK hW hS (b_) 1 tyX0 (by omega) (ug_eq _ _ _) rfl (by decide) inG0 tyX0_ok nmX0 w_183 ⟨rfl, rfl, Nat.le_of_ble_eq_true rfl⟩ (by decide +kernel) ⟨rfl, rfl⟩ dX0_init_57 (fun H locs hW hS => ?_)
  have hW : pw D B (n_) (ug (G) (b_) (.inr (0, [.int (iI ((h_ : Nat) : Int)), .ref (B + v_), .int (iI 0), .int (iI 0), .int (iI 0), .int (iI 0), .int (iI 0), .int (iI 0), .int (iI 1000000), .int (iI 0), .int (iI 0)]))) H := by rw [ug_ug] at hW; exact hW
  refine W_cast (show 0 = 0 by omega) (show 0 = 0 by omega) ?_
  exact hret _ _ _ _ dX0_init_60 (hW) hS

set_option maxRecDepth 100000 in
set_option maxHeartbeats 4000000 in
theorem n_X10_init (l : Launch) (D : va_G) (cy : Nat → ClassId) (B : Nat) (b_ : Nat) (G : Nat → va_E) (he : G b_ = .inr (9, [.null, .int (iI 0)])) : CN l yX10_init cX10_init 1 1 12 1 16 D cy B [.ref (B + b_)] (b_ + 1) (G) (b_ + 1 + 1) (ug (ug G (b_ + 1) (ivA (cy 0) 16 (fun _ => 0))) b_ (.inr (9, [.ref (B + (b_ + 1)), .int (iI 0)]))) := by
  refine CN_of (by decide) (Nat.le_of_ble_eq_true rfl) ?_
  intro p e R s m args below meth c Q hx hb hml hown hni hts hK hX hRf hRl hRc hW hret ls hl
  have hown : s.vm.findClass "LoveParts$Trace" = some m.cls := hown
  have hni : meth.name = "<init>" := hni
  have hS : va_S (AB B) s.heap s.heap [] := va_S.rf
  have hl : lv_has ls 1 [(0, .ref (B + b_))] := hl
  refine lv_aload_n hx hb dX10_init_0 rfl (lv_at hl 0 rfl) ?_
  refine pz_obj hx hb hml hts hown w_118 ⟨w_74, w_75⟩ ⟨by omega, Nat.le_trans (Nat.le_of_ble_eq_true rfl) hRl⟩ hl.1 dX10_init_1 ?_
  refine lv_aload_n hx hb dX10_init_4 rfl (lv_at hl 0 rfl) ?_
  refine zi_bip hx hb dX10_init_5 (by decide) ?_
  refine pz_newi (N := 16) hx hb hts hK hW hS w_110 (by decide) (by decide) ⟨by omega, by omega⟩ dX10_init_7 (fun H hW hS => ?_)
  refine pz_putF (ty := (.array .int)) hx hb hts hown hni hK hW hS (b_) 0 tyX10 (by omega) (by rw [ug_ne _ _ (by omega)]; exact he) rfl (by decide) inG10 tyX10_ok nmX10 w_119 ⟨rfl, rfl, Nat.le_of_ble_eq_true rfl, rfl⟩ (by decide +kernel) ⟨rfl, rfl⟩ dX10_init_9 (fun H locs hW hS => ?_)
  have hW : pw D B (b_ + 1 + 1) (ug (ug (G) (b_ + 1) (ivA (cy 0) 16 (fun _ => 0))) (b_) (.inr (9, [.ref (B + (b_ + 1)), .int (iI 0)]))) H := hW
  refine lv_aload_n hx hb dX10_init_12 rfl (lv_at hl 0 rfl) ?_
  refine zi_con hx hb dX10_init_13 ?_
  refine pz_put (ty := .int) hx hb hts hown hK hW hS (b_) 1 tyX10 (by omega) (ug_eq _ _ _) rfl (by decide) inG10 tyX10_ok nmX10 w_121 ⟨rfl, rfl, Nat.le_of_ble_eq_true rfl⟩ (by decide +kernel) ⟨rfl, rfl⟩ dX10_init_14 (fun H locs hW hS => ?_)
  have hW : pw D B (b_ + 1 + 1) (ug (ug (G) (b_ + 1) (ivA (cy 0) 16 (fun _ => 0))) (b_) (.inr (9, [.ref (B + (b_ + 1)), .int (iI 0)]))) H := by rw [ug_ug] at hW; exact hW
  refine W_cast (show 1 = 1 by omega) (show 16 = 16 by omega) ?_
  exact hret _ _ _ _ dX10_init_17 (hW) hS

set_option maxRecDepth 100000 in
set_option maxHeartbeats 4000000 in
theorem n_X5_init (l : Launch) (D : va_G) (cy : Nat → ClassId) (B : Nat) (b_ : Nat) (G : Nat → va_E) (he : G b_ = .inr (4, [.null, .int (iI 0), .int (iI 0), .int (iI 0), .int (iI 0), .int (iI 0), .int (iI 0)])) : CN l yX5_init cX5_init 1 1 12 1 100 D cy B [.ref (B + b_)] (b_ + 1) (G) (b_ + 1 + 1) (ug (ug G (b_ + 1) (ivA (cy 0) 100 (fun _ => 0))) b_ (.inr (4, [.ref (B + (b_ + 1)), .int (iI 0), .int (iI 0), .int (iI 0), .int (iI 0), .int (iI 257), .int (iI 0)]))) := by
  refine CN_of (by decide) (Nat.le_of_ble_eq_true rfl) ?_
  intro p e R s m args below meth c Q hx hb hml hown hni hts hK hX hRf hRl hRc hW hret ls hl
  have hown : s.vm.findClass "LoveParts$Reader" = some m.cls := hown
  have hni : meth.name = "<init>" := hni
  have hS : va_S (AB B) s.heap s.heap [] := va_S.rf
  have hl : lv_has ls 1 [(0, .ref (B + b_))] := hl
  refine lv_aload_n hx hb dX5_init_0 rfl (lv_at hl 0 rfl) ?_
  refine pz_obj hx hb hml hts hown w_83 ⟨w_74, w_75⟩ ⟨by omega, Nat.le_trans (Nat.le_of_ble_eq_true rfl) hRl⟩ hl.1 dX5_init_1 ?_
  refine lv_aload_n hx hb dX5_init_4 rfl (lv_at hl 0 rfl) ?_
  refine zi_bip hx hb dX5_init_5 (by decide) ?_
  refine pz_newi (N := 100) hx hb hts hK hW hS w_110 (by decide) (by decide) ⟨by omega, by omega⟩ dX5_init_7 (fun H hW hS => ?_)
  refine pz_putF (ty := (.array .int)) hx hb hts hown hni hK hW hS (b_) 0 tyX5 (by omega) (by rw [ug_ne _ _ (by omega)]; exact he) rfl (by decide) inG5 tyX5_ok nmX5 w_84 ⟨rfl, rfl, Nat.le_of_ble_eq_true rfl, rfl⟩ (by decide +kernel) ⟨rfl, rfl⟩ dX5_init_9 (fun H locs hW hS => ?_)
  have hW : pw D B (b_ + 1 + 1) (ug (ug (G) (b_ + 1) (ivA (cy 0) 100 (fun _ => 0))) (b_) (.inr (4, [.ref (B + (b_ + 1)), .int (iI 0), .int (iI 0), .int (iI 0), .int (iI 0), .int (iI 0), .int (iI 0)]))) H := hW
  refine lv_aload_n hx hb dX5_init_12 rfl (lv_at hl 0 rfl) ?_
  refine zi_con hx hb dX5_init_13 ?_
  refine pz_put (ty := .int) hx hb hts hown hK hW hS (b_) 1 tyX5 (by omega) (ug_eq _ _ _) rfl (by decide) inG5 tyX5_ok nmX5 w_86 ⟨rfl, rfl, Nat.le_of_ble_eq_true rfl⟩ (by decide +kernel) ⟨rfl, rfl⟩ dX5_init_14 (fun H locs hW hS => ?_)
  have hW : pw D B (b_ + 1 + 1) (ug (ug (G) (b_ + 1) (ivA (cy 0) 100 (fun _ => 0))) (b_) (.inr (4, [.ref (B + (b_ + 1)), .int (iI 0), .int (iI 0), .int (iI 0), .int (iI 0), .int (iI 0), .int (iI 0)]))) H := by rw [ug_ug] at hW; exact hW
  refine lv_aload_n hx hb dX5_init_17 rfl (lv_at hl 0 rfl) ?_
  refine zi_con hx hb dX5_init_18 ?_
  refine pz_put (ty := .int) hx hb hts hown hK hW hS (b_) 2 tyX5 (by omega) (ug_eq _ _ _) rfl (by decide) inG5 tyX5_ok nmX5 w_88 ⟨rfl, rfl, Nat.le_of_ble_eq_true rfl⟩ (by decide +kernel) ⟨rfl, rfl⟩ dX5_init_19 (fun H locs hW hS => ?_)
  have hW : pw D B (b_ + 1 + 1) (ug (ug (G) (b_ + 1) (ivA (cy 0) 100 (fun _ => 0))) (b_) (.inr (4, [.ref (B + (b_ + 1)), .int (iI 0), .int (iI 0), .int (iI 0), .int (iI 0), .int (iI 0), .int (iI 0)]))) H := by rw [ug_ug] at hW; exact hW
  refine lv_aload_n hx hb dX5_init_22 rfl (lv_at hl 0 rfl) ?_
  refine zi_con hx hb dX5_init_23 ?_
  refine pz_put (ty := .int) hx hb hts hown hK hW hS (b_) 3 tyX5 (by omega) (ug_eq _ _ _) rfl (by decide) inG5 tyX5_ok nmX5 w_90 ⟨rfl, rfl, Nat.le_of_ble_eq_true rfl⟩ (by decide +kernel) ⟨rfl, rfl⟩ dX5_init_24 (fun H locs hW hS => ?_)
  have hW : pw D B (b_ + 1 + 1) (ug (ug (G) (b_ + 1) (ivA (cy 0) 100 (fun _ => 0))) (b_) (.inr (4, [.ref (B + (b_ + 1)), .int (iI 0), .int (iI 0), .int (iI 0), .int (iI 0), .int (iI 0), .int (iI 0)]))) H := by rw [ug_ug] at hW; exact hW
  refine lv_aload_n hx hb dX5_init_27 rfl (lv_at hl 0 rfl) ?_
  refine zi_con hx hb dX5_init_28 ?_
  refine pz_put (ty := .int) hx hb hts hown hK hW hS (b_) 4 tyX5 (by omega) (ug_eq _ _ _) rfl (by decide) inG5 tyX5_ok nmX5 w_92 ⟨rfl, rfl, Nat.le_of_ble_eq_true rfl⟩ (by decide +kernel) ⟨rfl, rfl⟩ dX5_init_29 (fun H locs hW hS => ?_)
  have hW : pw D B (b_ + 1 + 1) (ug (ug (G) (b_ + 1) (ivA (cy 0) 100 (fun _ => 0))) (b_) (.inr (4, [.ref (B + (b_ + 1)), .int (iI 0), .int (iI 0), .int (iI 0), .int (iI 0), .int (iI 0), .int (iI 0)]))) H := by rw [ug_ug] at hW; exact hW
  refine lv_aload_n hx hb dX5_init_32 rfl (lv_at hl 0 rfl) ?_
  refine zi_sip hx hb dX5_init_33 (by decide) ?_
  refine pz_put (ty := .int) hx hb hts hown hK hW hS (b_) 5 tyX5 (by omega) (ug_eq _ _ _) rfl (by decide) inG5 tyX5_ok nmX5 w_93 ⟨rfl, rfl, Nat.le_of_ble_eq_true rfl⟩ (by decide +kernel) ⟨rfl, rfl⟩ dX5_init_36 (fun H locs hW hS => ?_)
  have hW : pw D B (b_ + 1 + 1) (ug (ug (G) (b_ + 1) (ivA (cy 0) 100 (fun _ => 0))) (b_) (.inr (4, [.ref (B + (b_ + 1)), .int (iI 0), .int (iI 0), .int (iI 0), .int (iI 0), .int (iI (257)), .int (iI 0)]))) H := by rw [ug_ug] at hW; exact hW
  refine lv_aload_n hx hb dX5_init_39 rfl (lv_at hl 0 rfl) ?_
  refine zi_con hx hb dX5_init_40 ?_
  refine pz_put (ty := .int) hx hb hts hown hK hW hS (b_) 6 tyX5 (by omega) (ug_eq _ _ _) rfl (by decide) inG5 tyX5_ok nmX5 w_94 ⟨rfl, rfl, Nat.le_of_ble_eq_true rfl⟩ (by decide +kernel) ⟨rfl, rfl⟩ dX5_init_41 (fun H locs hW hS => ?_)
  have hW : pw D B (b_ + 1 + 1) (ug (ug (G) (b_ + 1) (ivA (cy 0) 100 (fun _ => 0))) (b_) (.inr (4, [.ref (B + (b_ + 1)), .int (iI 0), .int (iI 0), .int (iI 0), .int (iI 0), .int (iI (257)), .int (iI 0)]))) H := by rw [ug_ug] at hW; exact hW
  refine W_cast (show 1 = 1 by omega) (show 100 = 100 by omega) ?_
  exact hret _ _ _ _ dX5_init_44 (hW) hS

set_option maxRecDepth 100000 in
set_option maxHeartbeats 4000000 in
theorem n_X7_init (l : Launch) (D : va_G) (cy : Nat → ClassId) (B : Nat) (b_ : Nat) (G : Nat → va_E) (he : G b_ = .inr (6, [.null, .int (iI 0), .int (iI 0)])) : CN l yX7_init cX7_init 1 1 12 1 40 D cy B [.ref (B + b_)] (b_ + 1) (G) (b_ + 1 + 1) (ug (ug G (b_ + 1) (ivA (cy 0) 40 (fun _ => 0))) b_ (.inr (6, [.ref (B + (b_ + 1)), .int (iI (-1)), .int (iI 0)]))) := by
  refine CN_of (by decide) (Nat.le_of_ble_eq_true rfl) ?_
  intro p e R s m args below meth c Q hx hb hml hown hni hts hK hX hRf hRl hRc hW hret ls hl
  have hown : s.vm.findClass "LoveParts$Row" = some m.cls := hown
  have hni : meth.name = "<init>" := hni
  have hS : va_S (AB B) s.heap s.heap [] := va_S.rf
  have hl : lv_has ls 1 [(0, .ref (B + b_))] := hl
  refine lv_aload_n hx hb dX7_init_0 rfl (lv_at hl 0 rfl) ?_
  refine pz_obj hx hb hml hts hown w_291 ⟨w_74, w_75⟩ ⟨by omega, Nat.le_trans (Nat.le_of_ble_eq_true rfl) hRl⟩ hl.1 dX7_init_1 ?_
  refine lv_aload_n hx hb dX7_init_4 rfl (lv_at hl 0 rfl) ?_
  refine zi_bip hx hb dX7_init_5 (by decide) ?_
  refine pz_newi (N := 40) hx hb hts hK hW hS w_110 (by decide) (by decide) ⟨by omega, by omega⟩ dX7_init_7 (fun H hW hS => ?_)
  refine pz_putF (ty := (.array .int)) hx hb hts hown hni hK hW hS (b_) 0 tyX7 (by omega) (by rw [ug_ne _ _ (by omega)]; exact he) rfl (by decide) inG7 tyX7_ok nmX7 w_292 ⟨rfl, rfl, Nat.le_of_ble_eq_true rfl, rfl⟩ (by decide +kernel) ⟨rfl, rfl⟩ dX7_init_9 (fun H locs hW hS => ?_)
  have hW : pw D B (b_ + 1 + 1) (ug (ug (G) (b_ + 1) (ivA (cy 0) 40 (fun _ => 0))) (b_) (.inr (6, [.ref (B + (b_ + 1)), .int (iI 0), .int (iI 0)]))) H := hW
  refine lv_aload_n hx hb dX7_init_12 rfl (lv_at hl 0 rfl) ?_
  refine zi_con hx hb dX7_init_13 ?_
  refine pz_put (ty := .int) hx hb hts hown hK hW hS (b_) 1 tyX7 (by omega) (ug_eq _ _ _) rfl (by decide) inG7 tyX7_ok nmX7 w_294 ⟨rfl, rfl, Nat.le_of_ble_eq_true rfl⟩ (by decide +kernel) ⟨rfl, rfl⟩ dX7_init_14 (fun H locs hW hS => ?_)
  have hW : pw D B (b_ + 1 + 1) (ug (ug (G) (b_ + 1) (ivA (cy 0) 40 (fun _ => 0))) (b_) (.inr (6, [.ref (B + (b_ + 1)), .int (iI (-1)), .int (iI 0)]))) H := by rw [ug_ug] at hW; exact hW
  refine lv_aload_n hx hb dX7_init_17 rfl (lv_at hl 0 rfl) ?_
  refine zi_con hx hb dX7_init_18 ?_
  refine pz_put (ty := .int) hx hb hts hown hK hW hS (b_) 2 tyX7 (by omega) (ug_eq _ _ _) rfl (by decide) inG7 tyX7_ok nmX7 w_296 ⟨rfl, rfl, Nat.le_of_ble_eq_true rfl⟩ (by decide +kernel) ⟨rfl, rfl⟩ dX7_init_19 (fun H locs hW hS => ?_)
  have hW : pw D B (b_ + 1 + 1) (ug (ug (G) (b_ + 1) (ivA (cy 0) 40 (fun _ => 0))) (b_) (.inr (6, [.ref (B + (b_ + 1)), .int (iI (-1)), .int (iI 0)]))) H := by rw [ug_ug] at hW; exact hW
  refine W_cast (show 1 = 1 by omega) (show 40 = 40 by omega) ?_
  exact hret _ _ _ _ dX7_init_22 (hW) hS

set_option maxRecDepth 100000 in
set_option maxHeartbeats 4000000 in
theorem n_X6_init (l : Launch) (D : va_G) (cy : Nat → ClassId) (B : Nat) (b_ : Nat) (G : Nat → va_E) (he : G b_ = .inr (5, [.null, .int (iI 0), .int (iI 0), .int (iI 0), .int (iI 0), .int (iI 0), .int (iI 0), .int (iI 0), .int (iI 0)])) : CN l yX6_init cX6_init 3 2 34 5 48 D cy B [.ref (B + b_), .ref (B + 13)] (b_ + 1) (G) (b_ + 6) (rgf cy B b_ G) := by
  refine CN_of (by decide) (Nat.le_of_ble_eq_true rfl) ?_
  intro p e R s m args below meth c Q hx hb hml hown hni hts hK hX hRf hRl hRc hW hret ls hl
  have hown : s.vm.findClass "LoveParts$Realm" = some m.cls := hown
  have hni : meth.name = "<init>" := hni
  have hS : va_S (AB B) s.heap s.heap [] := va_S.rf
  have hl : lv_has ls 3 [(0, .ref (B + b_)), (1, .ref (B + 13))] := hl
  refine lv_aload_n hx hb dX6_init_0 rfl (lv_at hl 0 rfl) ?_
  refine pz_obj hx hb hml hts hown w_172 ⟨w_74, w_75⟩ ⟨by omega, Nat.le_trans (Nat.le_of_ble_eq_true rfl) hRl⟩ hl.1 dX6_init_1 ?_
  refine lv_aload_n hx hb dX6_init_4 rfl (lv_at hl 0 rfl) ?_
  refine zi_con hx hb dX6_init_5 ?_
  refine pz_newq (N := 4) (C := "LoveParts$Heir") hx hb hts hown hK hW hS 2 (by decide) rfl w_173 (by decide) (by decide) ⟨by omega, by omega⟩ dX6_init_6 (fun H hW hS => ?_)
  refine pz_putF (ty := (.array (.object "LoveParts$Heir"))) hx hb hts hown hni hK hW hS (b_) 0 tyX6 (by omega) (by rw [ug_ne _ _ (by omega)]; exact he) rfl (by decide) inG6 tyX6_ok nmX6 w_244 ⟨rfl, rfl, Nat.le_of_ble_eq_true rfl, rfl⟩ (by decide +kernel) ⟨rfl, rfl⟩ dX6_init_9 (fun H locs hW hS => ?_)
  have hW : pw D B (b_ + 1 + 1) (ug (ug (G) (b_ + 1) (rfA (cy 2) 4 (fun _ => none))) (b_) (.inr (5, [.ref (B + (b_ + 1)), .int (iI 0), .int (iI 0), .int (iI 0), .int (iI 0), .int (iI 0), .int (iI 0), .int (iI 0), .int (iI 0)]))) H := hW
  refine lv_aload_n hx hb dX6_init_12 rfl (lv_at hl 0 rfl) ?_
  refine zi_con hx hb dX6_init_13 ?_
  refine pz_put (ty := .int) hx hb hts hown hK hW hS (b_) 1 tyX6 (by omega) (ug_eq _ _ _) rfl (by decide) inG6 tyX6_ok nmX6 w_247 ⟨rfl, rfl, Nat.le_of_ble_eq_true rfl⟩ (by decide +kernel) ⟨rfl, rfl⟩ dX6_init_14 (fun H locs hW hS => ?_)
  have hW : pw D B (b_ + 1 + 1) (ug (ug (G) (b_ + 1) (rfA (cy 2) 4 (fun _ => none))) (b_) (.inr (5, [.ref (B + (b_ + 1)), .int (iI 0), .int (iI 0), .int (iI 0), .int (iI 0), .int (iI 0), .int (iI 0), .int (iI 0), .int (iI 0)]))) H := by rw [ug_ug] at hW; exact hW
  refine lv_aload_n hx hb dX6_init_17 rfl (lv_at hl 0 rfl) ?_
  refine zi_con hx hb dX6_init_18 ?_
  refine pz_put (ty := .int) hx hb hts hown hK hW hS (b_) 2 tyX6 (by omega) (ug_eq _ _ _) rfl (by decide) inG6 tyX6_ok nmX6 w_250 ⟨rfl, rfl, Nat.le_of_ble_eq_true rfl⟩ (by decide +kernel) ⟨rfl, rfl⟩ dX6_init_19 (fun H locs hW hS => ?_)
  have hW : pw D B (b_ + 1 + 1) (ug (ug (G) (b_ + 1) (rfA (cy 2) 4 (fun _ => none))) (b_) (.inr (5, [.ref (B + (b_ + 1)), .int (iI 0), .int (iI 0), .int (iI 0), .int (iI 0), .int (iI 0), .int (iI 0), .int (iI 0), .int (iI 0)]))) H := by rw [ug_ug] at hW; exact hW
  refine lv_aload_n hx hb dX6_init_22 rfl (lv_at hl 0 rfl) ?_
  refine zi_con hx hb dX6_init_23 ?_
  refine pz_put (ty := .int) hx hb hts hown hK hW hS (b_) 3 tyX6 (by omega) (ug_eq _ _ _) rfl (by decide) inG6 tyX6_ok nmX6 w_253 ⟨rfl, rfl, Nat.le_of_ble_eq_true rfl⟩ (by decide +kernel) ⟨rfl, rfl⟩ dX6_init_24 (fun H locs hW hS => ?_)
  have hW : pw D B (b_ + 1 + 1) (ug (ug (G) (b_ + 1) (rfA (cy 2) 4 (fun _ => none))) (b_) (.inr (5, [.ref (B + (b_ + 1)), .int (iI 0), .int (iI 0), .int (iI 0), .int (iI 0), .int (iI 0), .int (iI 0), .int (iI 0), .int (iI 0)]))) H := by rw [ug_ug] at hW; exact hW
  refine lv_aload_n hx hb dX6_init_27 rfl (lv_at hl 0 rfl) ?_
  refine zi_con hx hb dX6_init_28 ?_
  refine pz_put (ty := .int) hx hb hts hown hK hW hS (b_) 4 tyX6 (by omega) (ug_eq _ _ _) rfl (by decide) inG6 tyX6_ok nmX6 w_256 ⟨rfl, rfl, Nat.le_of_ble_eq_true rfl⟩ (by decide +kernel) ⟨rfl, rfl⟩ dX6_init_29 (fun H locs hW hS => ?_)
  have hW : pw D B (b_ + 1 + 1) (ug (ug (G) (b_ + 1) (rfA (cy 2) 4 (fun _ => none))) (b_) (.inr (5, [.ref (B + (b_ + 1)), .int (iI 0), .int (iI 0), .int (iI 0), .int (iI 0), .int (iI 0), .int (iI 0), .int (iI 0), .int (iI 0)]))) H := by rw [ug_ug] at hW; exact hW
  refine lv_aload_n hx hb dX6_init_32 rfl (lv_at hl 0 rfl) ?_
  refine zi_con hx hb dX6_init_33 ?_
  refine pz_put (ty := .int) hx hb hts hown hK hW hS (b_) 5 tyX6 (by omega) (ug_eq _ _ _) rfl (by decide) inG6 tyX6_ok nmX6 w_259 ⟨rfl, rfl, Nat.le_of_ble_eq_true rfl⟩ (by decide +kernel) ⟨rfl, rfl⟩ dX6_init_34 (fun H locs hW hS => ?_)
  have hW : pw D B (b_ + 1 + 1) (ug (ug (G) (b_ + 1) (rfA (cy 2) 4 (fun _ => none))) (b_) (.inr (5, [.ref (B + (b_ + 1)), .int (iI 0), .int (iI 0), .int (iI 0), .int (iI 0), .int (iI 0), .int (iI 0), .int (iI 0), .int (iI 0)]))) H := by rw [ug_ug] at hW; exact hW
  refine lv_aload_n hx hb dX6_init_37 rfl (lv_at hl 0 rfl) ?_
  refine zi_con hx hb dX6_init_38 ?_
  refine pz_put (ty := .int) hx hb hts hown hK hW hS (b_) 6 tyX6 (by omega) (ug_eq _ _ _) rfl (by decide) inG6 tyX6_ok nmX6 w_262 ⟨rfl, rfl, Nat.le_of_ble_eq_true rfl⟩ (by decide +kernel) ⟨rfl, rfl⟩ dX6_init_39 (fun H locs hW hS => ?_)
  have hW : pw D B (b_ + 1 + 1) (ug (ug (G) (b_ + 1) (rfA (cy 2) 4 (fun _ => none))) (b_) (.inr (5, [.ref (B + (b_ + 1)), .int (iI 0), .int (iI 0), .int (iI 0), .int (iI 0), .int (iI 0), .int (iI 0), .int (iI 0), .int (iI 0)]))) H := by rw [ug_ug] at hW; exact hW
  refine lv_aload_n hx hb dX6_init_42 rfl (lv_at hl 0 rfl) ?_
  refine zi_con hx hb dX6_init_43 ?_
  refine pz_put (ty := .int) hx hb hts hown hK hW hS (b_) 7 tyX6 (by omega) (ug_eq _ _ _) rfl (by decide) inG6 tyX6_ok nmX6 w_264 ⟨rfl, rfl, Nat.le_of_ble_eq_true rfl⟩ (by decide +kernel) ⟨rfl, rfl⟩ dX6_init_44 (fun H locs hW hS => ?_)
  have hW : pw D B (b_ + 1 + 1) (ug (ug (G) (b_ + 1) (rfA (cy 2) 4 (fun _ => none))) (b_) (.inr (5, [.ref (B + (b_ + 1)), .int (iI 0), .int (iI 0), .int (iI 0), .int (iI 0), .int (iI 0), .int (iI 0), .int (iI 0), .int (iI 0)]))) H := by rw [ug_ug] at hW; exact hW
  refine lv_aload_n hx hb dX6_init_47 rfl (lv_at hl 0 rfl) ?_
  refine zi_con hx hb dX6_init_48 ?_
  refine pz_put (ty := .boolean) hx hb hts hown hK hW hS (b_) 8 tyX6 (by omega) (ug_eq _ _ _) rfl (by decide) inG6 tyX6_ok nmX6 w_266 ⟨rfl, rfl, Nat.le_of_ble_eq_true rfl⟩ (by decide +kernel) ⟨rfl, rfl⟩ dX6_init_49 (fun H locs hW hS => ?_)
  have hW : pw D B (b_ + 1 + 1) (ug (ug (G) (b_ + 1) (rfA (cy 2) 4 (fun _ => none))) (b_) (.inr (5, [.ref (B + (b_ + 1)), .int (iI 0), .int (iI 0), .int (iI 0), .int (iI 0), .int (iI 0), .int (iI 0), .int (iI 0), .int (iI 0)]))) H := by rw [ug_ug] at hW; exact hW
  refine zi_con hx hb dX6_init_52 ?_
  refine lv_istore_n (lv' := [(2, .int (iI 0)), (0, .ref (B + b_)), (1, .ref (B + 13))]) hx hb dX6_init_53 rfl hl (by decide) rfl (fun ls hl => ?_)
  have L54 : ∀ (n54 i_ : Nat) (H : Heap) (locs : List Loc) (ls : Array Slot), 4 - i_ < n54 → i_ ≤ 4 → pw D B (b_ + 2 + i_) (rgl cy B b_ i_ G) H → va_S (AB B) s.heap H locs → lv_has ls 3 [(2, .int (iI (((i_ : Nat) : Int)))), (0, .ref (B + b_)), (1, .ref (B + 13))] → W p l e R s m args below meth c H locs (1 + i_) (4 + 11 * i_) Q (F0 m 54 ls []) := by
    intro n54
    induction n54 with
    | zero => intro i_ H locs ls hms; omega
    | succ n54 ih54 =>
      intro i_ H locs ls hms54 hi hW hS hl
      refine lv_iload_n hx hb dX6_init_54 rfl (lv_at hl 0 rfl) ?_
      refine zi_con hx hb dX6_init_55 ?_
      refine zi_cge (tgt := 80) hx hb dX6_init_56 (by decide) (by omega) (by omega) (fun c56 => ?_) (fun c56 => ?_)
      · have hi4 : i_ = 4 := by omega
        subst hi4
        refine W_cast (show 1 + 4 = 5 by omega) (show 4 + 11 * 4 = 48 by omega) ?_
        exact hret _ _ _ _ dX6_init_80 (rgl_4 hW) hS
      · refine lv_aload_n hx hb dX6_init_59 rfl (lv_at hl 1 rfl) ?_
        refine pz_get hx hb hts hown hK hW (b_) 0 (by omega) rgl_b rfl (by decide) inG6 w_244 rfl rfl dX6_init_60 ?_
        refine lv_iload_n hx hb dX6_init_63 rfl (lv_at hl 0 rfl) ?_
        refine pz_new (ci := 0) (fs := [.int (iI 0), .null, .int (iI 0), .int (iI 0), .int (iI 0), .int (iI 0), .int (iI 0), .int (iI 0), .int (iI 0), .int (iI 0), .int (iI 0)]) hx hb hts hown hK hW hS tyX0 rfl inG0 tyX0_ok w_173 ⟨w_175, w_63⟩ (fun j hj => by rcases (show j = 0 ∨ j = 1 ∨ j = 2 ∨ j = 3 ∨ j = 4 ∨ j = 5 ∨ j = 6 ∨ j = 7 ∨ j = 8 ∨ j = 9 ∨ j = 10 by omega) with rfl | rfl | rfl | rfl | rfl | rfl | rfl | rfl | rfl | rfl | rfl <;> rfl) ⟨by omega, by omega⟩ dX6_init_64 (fun H hW hS => ?_)
        refine lv_dup hx hb dX6_init_67 rfl ?_
        refine lv_iload_n hx hb dX6_init_68 rfl (lv_at hl 0 rfl) ?_
        refine lv_aload_n hx hb dX6_init_69 rfl (lv_at hl 2 rfl) ?_
        refine pz_init (fr := 2) (lo := 34) (As := [.int (iI (((i_ : Nat) : Int))), .ref (B + 13)]) (rest := [.ref (B + (b_ + 2 + i_)), .int (iI (((i_ : Nat) : Int))), .ref (B + (b_ + 1))]) hx hb hml hown hts hK hX hRf hRl hW hS (n_X0_init l D cy B (b_ + 2 + i_) i_ 13 (b_ + 2 + i_ + 1) (ug (rgl cy B b_ i_ G) (b_ + 2 + i_) (.inr (0, [.int (iI 0), .null, .int (iI 0), .int (iI 0), .int (iI 0), .int (iI 0), .int (iI 0), .int (iI 0), .int (iI 0), .int (iI 0), .int (iI 0)]))) (by omega) (ug_eq _ _ _)) vX0_init w_177 rfl w_176 ⟨Nat.le_of_ble_eq_true rfl, Nat.le_of_ble_eq_true rfl⟩ hl.1 rfl (Nat.le_of_ble_eq_true rfl) ⟨by omega, by omega⟩ dX6_init_70 (fun H locs hW hS => ?_)
        have hW : pw D B (b_ + 2 + i_ + 1) (ug (rgl cy B b_ i_ G) (b_ + 2 + i_) (.inr (0, heirF B i_ f0))) H := rgl_s (by omega) hW
        refine pz_aast hx hb hK hX hW hS (b_ + 1) i_ (b_ + 2 + i_) 2 0 (by omega) (by omega) (by rw [ug_ne _ _ (by omega)]; exact rgl_a) rfl (ug_eq _ _ _) rfl (Or.inl rfl) (by rfl) (by omega) (by decide) dX6_init_73 (fun H locs hW hS => ?_)
        have hW : pw D B (b_ + 2 + (i_ + 1)) (rgl cy B b_ (i_ + 1) G) H := rgl_t (by omega) hW
        refine lv_iinc (v := iI (((i_ : Nat) : Int) + 1)) (lv' := [(2, .int (iI (((i_ : Nat) : Int) + 1))), (0, .ref (B + b_)), (1, .ref (B + 13))]) hx hb dX6_init_74 hl (k := 0) rfl (iI_add _ _) (by decide) rfl (fun ls hl => ?_)
        refine lv_goto (tgt := 54) hx hb dX6_init_77 (by decide) ?_
        refine W_cast (show 1 + i_ + 1 + 0 = 1 + (i_ + 1) by omega) (show 4 + 11 * i_ + 11 + 0 = 4 + 11 * (i_ + 1) by omega) ?_
        exact ih54 (i_ + 1) _ _ _ (by omega) (by omega) (hW) hS (lv_sub hl [0, 1, 2] rfl)
  refine W_cast (show 1 = 1 + 0 by omega) (show 4 = 4 + 11 * 0 by omega) ?_
  exact L54 _ 0 _ _ _ (Nat.lt_succ_self _) (by omega) (rgl_0 hW) hS (lv_sub hl [0, 1, 2] rfl)
