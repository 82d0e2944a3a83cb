/-! more cases -/
set_option maxHeartbeats 1000000 in
theorem lc_letter {p : Program} {l : Launch} {e : Env} {s : State} {m : MethodId} {below : List Frame} {meth : Method} {c : Code} {b L : Nat} {xs : Nat → Int32} {D : va_G} {cy : Nat → ClassId} {B cells slots ii : Nat} {Q : State → Prop} {σ : Sg} {H : Heap} {locs : List Loc} {ls : Array Slot} (hE : LE p s m c b L xs D cy B cells slots) (hi : ii + 6 ≤ L) (hR : Rel σ) (hW : wd D cy B σ H) (hS : va_S (AB B) s.heap H locs) (hl : lv_has ls 4 (lvL b B ii)) (nx : LN p l e s m below meth c b D cy B cells slots ii Q) : W p l e room_1 s m #[Value.ref b] below meth c H locs cells slots Q (F0 m 524 ls []) := by
  obtain ⟨hx, hb, hml, hown, hts, hK, hX, hbl, hbA, hL, hcs⟩ := hE
  have hRf : 10 ≤ room_1.frames := Nat.le_of_ble_eq_true rfl
  have hRl : 350 ≤ room_1.locals := Nat.le_of_ble_eq_true rfl
  have hl : lv_has ls 4 [(3, .int (iI ((ii : Nat) : Int))), (2, .ref (B + 202)), (1, .ref (B + 0)), (0, .ref b)] := hl
  obtain ⟨f_, hv0⟩ : ∃ v : Int, v = (xs (ii + 1)).toInt := ⟨_, rfl⟩
  have rv0 : -2147483648 ≤ f_ ∧ f_ < 2147483648 := by rw [hv0]; exact iI_bd _
  obtain ⟨t_, hv1⟩ : ∃ v : Int, v = (xs (ii + 2)).toInt := ⟨_, rfl⟩
  have rv1 : -2147483648 ≤ t_ ∧ t_ < 2147483648 := by rw [hv1]; exact iI_bd _
  refine lv_aload_n hx hb dL_law_524 rfl (lv_at hl 2 rfl) ?_
  refine lv_aload_n hx hb dL_law_525 rfl (lv_at hl 3 rfl) ?_
  refine lv_iload_n hx hb dL_law_526 rfl (lv_at hl 0 rfl) ?_
  refine zi_con hx hb dL_law_527 ?_
  refine zi_add hx hb dL_law_528 ?_
  refine lx_ld hx hb hX hbl hbA hS hv0 (by omega) (by omega) hL dL_law_529 ?_
  refine lv_aload_n hx hb dL_law_530 rfl (lv_at hl 3 rfl) ?_
  refine lv_iload_n hx hb dL_law_531 rfl (lv_at hl 0 rfl) ?_
  refine zi_con hx hb dL_law_532 ?_
  refine zi_add hx hb dL_law_533 ?_
  refine lx_ld hx hb hX hbl hbA hS hv1 (by omega) (by omega) hL dL_law_534 ?_
  refine k_vi (fr := 10) (lo := 350) (r := (if ¬ (0 ≤ f_ ∧ f_ ≤ σ 18 4 - 1) ∨ ¬ (0 ≤ t_ ∧ t_ ≤ σ 18 4 - 1) ∨ f_ = t_ then -1000001 else alw (uf (σ 18) (44 + t_.toNat) (if σ 18 (44 + t_.toNat) = 0 ∨ alw (σ 18) f_.toNat + 1 < σ 18 (44 + t_.toNat) then alw (σ 18) f_.toNat + 1 else σ 18 (44 + t_.toNat))) t_.toNat)) (σ' := (if ¬ (0 ≤ f_ ∧ f_ ≤ σ 18 4 - 1) ∨ ¬ (0 ≤ t_ ∧ t_ ≤ σ 18 4 - 1) ∨ f_ = t_ then σ else us (kU (σ)) 18 (uf (σ 18) (44 + t_.toNat) (if σ 18 (44 + t_.toNat) = 0 ∨ alw (σ 18) f_.toNat + 1 < σ 18 (44 + t_.toNat) then alw (σ 18) f_.toNat + 1 else σ 18 (44 + t_.toNat))))) (As := [.int (iI f_), .int (iI t_)]) (rest := []) hx hb hml hown hts hK hRf hRl hW hS (c_X11_letter l D cy B σ f_ t_ rv0 rv1 hR.o18 hR.a8 hR.2.1.1.2.2) vX11_letter ⟨w_574, w_575⟩ w_573 (by decide) e_0 rfl ⟨Nat.le_of_ble_eq_true rfl, Nat.le_of_ble_eq_true rfl⟩ hl.1 rfl (Nat.le_of_ble_eq_true rfl) hcs dL_law_535 (fun H locs hW hS => ?_)
  obtain ⟨σ1, h1, hW⟩ : ∃ σ1 : Sg, σ1 = (if ¬ (0 ≤ f_ ∧ f_ ≤ σ 18 4 - 1) ∨ ¬ (0 ≤ t_ ∧ t_ ≤ σ 18 4 - 1) ∨ f_ = t_ then σ else us (kU (σ)) 18 (uf (σ 18) (44 + t_.toNat) (if σ 18 (44 + t_.toNat) = 0 ∨ alw (σ 18) f_.toNat + 1 < σ 18 (44 + t_.toNat) then alw (σ 18) f_.toNat + 1 else σ 18 (44 + t_.toNat)))) ∧ wd D cy B σ1 H := ⟨_, rfl, hW⟩
  obtain ⟨pm0, pm1, heq, hR2⟩ := q_letter hR f_ t_ h1
  refine lv_aload_n hx hb dL_law_538 rfl (lv_at hl 1 rfl) ?_
  refine lv_aload_n hx hb dL_law_539 rfl (lv_at hl 3 rfl) ?_
  refine lv_iload_n hx hb dL_law_540 rfl (lv_at hl 0 rfl) ?_
  refine zi_con hx hb dL_law_541 ?_
  refine zi_add hx hb dL_law_542 ?_
  refine lx_ld hx hb hX hbl hbA hS hv0 (by omega) (by omega) hL dL_law_543 ?_
  refine lv_aload_n hx hb dL_law_544 rfl (lv_at hl 3 rfl) ?_
  refine lv_iload_n hx hb dL_law_545 rfl (lv_at hl 0 rfl) ?_
  refine zi_con hx hb dL_law_546 ?_
  refine zi_add hx hb dL_law_547 ?_
  refine lx_ld hx hb hX hbl hbA hS hv1 (by omega) (by omega) hL dL_law_548 ?_
  refine k_vi (fr := 10) (lo := 350) (r := (if ¬ (0 ≤ f_ ∧ f_ ≤ σ1 206 4 - 1) ∨ ¬ (0 ≤ t_ ∧ t_ ≤ σ1 206 4 - 1) ∨ f_ = t_ then -1000001 else alw (uf (σ1 206) (44 + t_.toNat) (if σ1 206 (44 + t_.toNat) = 0 ∨ alw (σ1 206) f_.toNat + 1 < σ1 206 (44 + t_.toNat) then alw (σ1 206) f_.toNat + 1 else σ1 206 (44 + t_.toNat))) t_.toNat)) (σ' := (if ¬ (0 ≤ f_ ∧ f_ ≤ σ1 206 4 - 1) ∨ ¬ (0 ≤ t_ ∧ t_ ≤ σ1 206 4 - 1) ∨ f_ = t_ then σ1 else up (nS σ1) 206 (44 + t_.toNat) (if σ1 206 (44 + t_.toNat) = 0 ∨ alw (σ1 206) f_.toNat + 1 < σ1 206 (44 + t_.toNat) then alw (σ1 206) f_.toNat + 1 else σ1 206 (44 + t_.toNat)))) (As := [.int (iI f_), .int (iI t_)]) (rest := [.int (iI (if ¬ (0 ≤ f_ ∧ f_ ≤ σ 18 4 - 1) ∨ ¬ (0 ≤ t_ ∧ t_ ≤ σ 18 4 - 1) ∨ f_ = t_ then -1000001 else alw (uf (σ 18) (44 + t_.toNat) (if σ 18 (44 + t_.toNat) = 0 ∨ alw (σ 18) f_.toNat + 1 < σ 18 (44 + t_.toNat) then alw (σ 18) f_.toNat + 1 else σ 18 (44 + t_.toNat))) t_.toNat))]) hx hb hml hown hts hK hRf hRl hW hS (c_X12_letter l D cy B σ1 f_ t_ rv0 rv1 pm0 pm1) vX12_letter ⟨w_1041, w_1042⟩ w_1040 (by decide) e_202 rfl ⟨Nat.le_of_ble_eq_true rfl, Nat.le_of_ble_eq_true rfl⟩ hl.1 rfl (Nat.le_of_ble_eq_true rfl) hcs dL_law_549 (fun H locs hW hS => ?_)
  refine lv_icmp_eq (tgt := 1214) hx hb dL_law_552 (by decide) (fun _ => ?_) (fun hne => absurd (congrArg iI heq) hne)
  exact nx _ _ _ _ hR2 hW hS hl
set_option maxHeartbeats 1000000 in
theorem lc_heir {p : Program} {l : Launch} {e : Env} {s : State} {m : MethodId} {below : List Frame} {meth : Method} {c : Code} {b L : Nat} {xs : Nat → Int32} {D : va_G} {cy : Nat → ClassId} {B cells slots ii : Nat} {Q : State → Prop} {σ : Sg} {H : Heap} {locs : List Loc} {ls : Array Slot} (hE : LE p s m c b L xs D cy B cells slots) (hi : ii + 6 ≤ L) (hR : Rel σ) (hW : wd D cy B σ H) (hS : va_S (AB B) s.heap H locs) (hl : lv_has ls 4 (lvL b B ii)) (nx : LN p l e s m below meth c b D cy B cells slots ii Q) : W p l e room_1 s m #[Value.ref b] below meth c H locs cells slots Q (F0 m 557 ls []) := by
  obtain ⟨hx, hb, hml, hown, hts, hK, hX, hbl, hbA, hL, hcs⟩ := hE
  have hRf : 10 ≤ room_1.frames := Nat.le_of_ble_eq_true rfl
  have hRl : 350 ≤ room_1.locals := Nat.le_of_ble_eq_true rfl
  have hl : lv_has ls 4 [(3, .int (iI ((ii : Nat) : Int))), (2, .ref (B + 202)), (1, .ref (B + 0)), (0, .ref b)] := hl
  obtain ⟨h_, hv0⟩ : ∃ v : Int, v = (xs (ii + 1)).toInt := ⟨_, rfl⟩
  have rv0 : -2147483648 ≤ h_ ∧ h_ < 2147483648 := by rw [hv0]; exact iI_bd _
  obtain ⟨z_, hv1⟩ : ∃ v : Int, v = (xs (ii + 2)).toInt := ⟨_, rfl⟩
  have rv1 : -2147483648 ≤ z_ ∧ z_ < 2147483648 := by rw [hv1]; exact iI_bd _
  refine lv_aload_n hx hb dL_law_557 rfl (lv_at hl 2 rfl) ?_
  refine lv_aload_n hx hb dL_law_558 rfl (lv_at hl 3 rfl) ?_
  refine lv_iload_n hx hb dL_law_559 rfl (lv_at hl 0 rfl) ?_
  refine zi_con hx hb dL_law_560 ?_
  refine zi_add hx hb dL_law_561 ?_
  refine lx_ld hx hb hX hbl hbA hS hv0 (by omega) (by omega) hL dL_law_562 ?_
  refine lv_aload_n hx hb dL_law_563 rfl (lv_at hl 3 rfl) ?_
  refine lv_iload_n hx hb dL_law_564 rfl (lv_at hl 0 rfl) ?_
  refine zi_con hx hb dL_law_565 ?_
  refine zi_add hx hb dL_law_566 ?_
  refine lx_ld hx hb hX hbl hbA hS hv1 (by omega) (by omega) hL dL_law_567 ?_
  refine k_vi (fr := 10) (lo := 350) (r := (if ¬ (0 ≤ h_ ∧ h_ ≤ σ 18 4 - 1) then -1000001 else if z_ = 0 then σ 18 (12 + h_.toNat) else if z_ = 1 then σ 18 (16 + h_.toNat) else if z_ = 2 then σ 18 (20 + h_.toNat) else if z_ = 3 then says (σ 18) h_.toNat else if z_ = 4 then σ 18 (28 + h_.toNat) else if z_ = 5 then σ 18 (32 + h_.toNat) else if z_ = 6 then alw (σ 18) h_.toNat else if z_ = 7 then σ 18 (36 + h_.toNat) else if z_ = 8 then σ 18 (40 + h_.toNat) else -1000001)) (σ' := (σ)) (As := [.int (iI h_), .int (iI z_)]) (rest := []) hx hb hml hown hts hK hRf hRl hW hS (c_X11_heir l D cy B σ h_ z_ rv0 rv1 hR.o18) vX11_heir ⟨w_579, w_580⟩ w_578 (by decide) e_0 rfl ⟨Nat.le_of_ble_eq_true rfl, Nat.le_of_ble_eq_true rfl⟩ hl.1 rfl (Nat.le_of_ble_eq_true rfl) hcs dL_law_568 (fun H locs hW hS => ?_)
  obtain ⟨σ1, h1, hW⟩ : ∃ σ1 : Sg, σ1 = (σ) ∧ wd D cy B σ1 H := ⟨_, rfl, hW⟩
  obtain ⟨pm0, heq, hR2⟩ := q_heir hR h_ z_ h1
  refine lv_aload_n hx hb dL_law_571 rfl (lv_at hl 1 rfl) ?_
  refine lv_aload_n hx hb dL_law_572 rfl (lv_at hl 3 rfl) ?_
  refine lv_iload_n hx hb dL_law_573 rfl (lv_at hl 0 rfl) ?_
  refine zi_con hx hb dL_law_574 ?_
  refine zi_add hx hb dL_law_575 ?_
  refine lx_ld hx hb hX hbl hbA hS hv0 (by omega) (by omega) hL dL_law_576 ?_
  refine lv_aload_n hx hb dL_law_577 rfl (lv_at hl 3 rfl) ?_
  refine lv_iload_n hx hb dL_law_578 rfl (lv_at hl 0 rfl) ?_
  refine zi_con hx hb dL_law_579 ?_
  refine zi_add hx hb dL_law_580 ?_
  refine lx_ld hx hb hX hbl hbA hS hv1 (by omega) (by omega) hL dL_law_581 ?_
  refine k_vi (fr := 10) (lo := 350) (r := (if ¬ (0 ≤ h_ ∧ h_ ≤ σ1 206 4 - 1) then -1000001 else if z_ = 0 then σ1 206 (12 + h_.toNat) else if z_ = 1 then σ1 206 (16 + h_.toNat) else if z_ = 2 then σ1 206 (20 + h_.toNat) else if z_ = 3 then says (σ1 206) h_.toNat else if z_ = 4 then σ1 206 (28 + h_.toNat) else if z_ = 5 then σ1 206 (32 + h_.toNat) else if z_ = 6 then alw (σ1 206) h_.toNat else if z_ = 7 then σ1 206 (36 + h_.toNat) else if z_ = 8 then σ1 206 (40 + h_.toNat) else -1000001)) (σ' := (σ1)) (As := [.int (iI h_), .int (iI z_)]) (rest := [.int (iI (if ¬ (0 ≤ h_ ∧ h_ ≤ σ 18 4 - 1) then -1000001 else if z_ = 0 then σ 18 (12 + h_.toNat) else if z_ = 1 then σ 18 (16 + h_.toNat) else if z_ = 2 then σ 18 (20 + h_.toNat) else if z_ = 3 then says (σ 18) h_.toNat else if z_ = 4 then σ 18 (28 + h_.toNat) else if z_ = 5 then σ 18 (32 + h_.toNat) else if z_ = 6 then alw (σ 18) h_.toNat else if z_ = 7 then σ 18 (36 + h_.toNat) else if z_ = 8 then σ 18 (40 + h_.toNat) else -1000001))]) hx hb hml hown hts hK hRf hRl hW hS (c_X12_heir l D cy B σ1 h_ z_ rv0 rv1 pm0) vX12_heir ⟨w_1045, w_1046⟩ w_1044 (by decide) e_202 rfl ⟨Nat.le_of_ble_eq_true rfl, Nat.le_of_ble_eq_true rfl⟩ hl.1 rfl (Nat.le_of_ble_eq_true rfl) hcs dL_law_582 (fun H locs hW hS => ?_)
  refine lv_icmp_eq (tgt := 1214) hx hb dL_law_585 (by decide) (fun _ => ?_) (fun hne => absurd (congrArg iI heq) hne)
  exact nx _ _ _ _ hR2 hW hS hl
set_option maxHeartbeats 1000000 in
theorem lc_king {p : Program} {l : Launch} {e : Env} {s : State} {m : MethodId} {below : List Frame} {meth : Method} {c : Code} {b L : Nat} {xs : Nat → Int32} {D : va_G} {cy : Nat → ClassId} {B cells slots ii : Nat} {Q : State → Prop} {σ : Sg} {H : Heap} {locs : List Loc} {ls : Array Slot} (hE : LE p s m c b L xs D cy B cells slots) (hi : ii + 6 ≤ L) (hR : Rel σ) (hW : wd D cy B σ H) (hS : va_S (AB B) s.heap H locs) (hl : lv_has ls 4 (lvL b B ii)) (nx : LN p l e s m below meth c b D cy B cells slots ii Q) : W p l e room_1 s m #[Value.ref b] below meth c H locs cells slots Q (F0 m 590 ls []) := by
  obtain ⟨hx, hb, hml, hown, hts, hK, hX, hbl, hbA, hL, hcs⟩ := hE
  have hRf : 10 ≤ room_1.frames := Nat.le_of_ble_eq_true rfl
  have hRl : 350 ≤ room_1.locals := Nat.le_of_ble_eq_true rfl
  have hl : lv_has ls 4 [(3, .int (iI ((ii : Nat) : Int))), (2, .ref (B + 202)), (1, .ref (B + 0)), (0, .ref b)] := hl
  obtain ⟨z_, hv0⟩ : ∃ v : Int, v = (xs (ii + 1)).toInt := ⟨_, rfl⟩
  have rv0 : -2147483648 ≤ z_ ∧ z_ < 2147483648 := by rw [hv0]; exact iI_bd _
  refine lv_aload_n hx hb dL_law_590 rfl (lv_at hl 2 rfl) ?_
  refine lv_aload_n hx hb dL_law_591 rfl (lv_at hl 3 rfl) ?_
  refine lv_iload_n hx hb dL_law_592 rfl (lv_at hl 0 rfl) ?_
  refine zi_con hx hb dL_law_593 ?_
  refine zi_add hx hb dL_law_594 ?_
  refine lx_ld hx hb hX hbl hbA hS hv0 (by omega) (by omega) hL dL_law_595 ?_
  refine k_vi (fr := 10) (lo := 350) (r := (if σ 18 4 = 0 then -1000002 else if z_ = 0 then σ 18 1 else if z_ = 1 then σ 18 6 else if z_ = 2 then σ 18 7 else -1000001)) (σ' := (σ)) (As := [.int (iI z_)]) (rest := []) hx hb hml hown hts hK hRf hRl hW hS (c_X11_king l D cy B σ z_ rv0 hR.o18) vX11_king ⟨w_584, w_585⟩ w_583 (by decide) e_0 rfl ⟨Nat.le_of_ble_eq_true rfl, Nat.le_of_ble_eq_true rfl⟩ hl.1 rfl (Nat.le_of_ble_eq_true rfl) hcs dL_law_596 (fun H locs hW hS => ?_)
  obtain ⟨σ1, h1, hW⟩ : ∃ σ1 : Sg, σ1 = (σ) ∧ wd D cy B σ1 H := ⟨_, rfl, hW⟩
  obtain ⟨pm0, pm1, heq, hR2⟩ := q_king hR z_ h1
  refine lv_aload_n hx hb dL_law_599 rfl (lv_at hl 1 rfl) ?_
  refine lv_aload_n hx hb dL_law_600 rfl (lv_at hl 3 rfl) ?_
  refine lv_iload_n hx hb dL_law_601 rfl (lv_at hl 0 rfl) ?_
  refine zi_con hx hb dL_law_602 ?_
  refine zi_add hx hb dL_law_603 ?_
  refine lx_ld hx hb hX hbl hbA hS hv0 (by omega) (by omega) hL dL_law_604 ?_
  refine k_vi (fr := 10) (lo := 350) (r := (if σ1 206 4 = 0 then -1000002 else if z_ = 0 then σ1 206 1 else if z_ = 1 then σ1 206 6 else if z_ = 2 then σ1 206 7 else -1000001)) (σ' := (σ1)) (As := [.int (iI z_)]) (rest := [.int (iI (if σ 18 4 = 0 then -1000002 else if z_ = 0 then σ 18 1 else if z_ = 1 then σ 18 6 else if z_ = 2 then σ 18 7 else -1000001))]) hx hb hml hown hts hK hRf hRl hW hS (c_X12_king l D cy B σ1 z_ rv0 pm0 pm1) vX12_king ⟨w_1049, w_1050⟩ w_1048 (by decide) e_202 rfl ⟨Nat.le_of_ble_eq_true rfl, Nat.le_of_ble_eq_true rfl⟩ hl.1 rfl (Nat.le_of_ble_eq_true rfl) hcs dL_law_605 (fun H locs hW hS => ?_)
  refine lv_icmp_eq (tgt := 1214) hx hb dL_law_608 (by decide) (fun _ => ?_) (fun hne => absurd (congrArg iI heq) hne)
  exact nx _ _ _ _ hR2 hW hS hl
set_option maxHeartbeats 1000000 in
theorem lc_share {p : Program} {l : Launch} {e : Env} {s : State} {m : MethodId} {below : List Frame} {meth : Method} {c : Code} {b L : Nat} {xs : Nat → Int32} {D : va_G} {cy : Nat → ClassId} {B cells slots ii : Nat} {Q : State → Prop} {σ : Sg} {H : Heap} {locs : List Loc} {ls : Array Slot} (hE : LE p s m c b L xs D cy B cells slots) (hi : ii + 6 ≤ L) (hR : Rel σ) (hW : wd D cy B σ H) (hS : va_S (AB B) s.heap H locs) (hl : lv_has ls 4 (lvL b B ii)) (nx : LN p l e s m below meth c b D cy B cells slots ii Q) : W p l e room_1 s m #[Value.ref b] below meth c H locs cells slots Q (F0 m 613 ls []) := by
  obtain ⟨hx, hb, hml, hown, hts, hK, hX, hbl, hbA, hL, hcs⟩ := hE
  have hRf : 10 ≤ room_1.frames := Nat.le_of_ble_eq_true rfl
  have hRl : 350 ≤ room_1.locals := Nat.le_of_ble_eq_true rfl
  have hl : lv_has ls 4 [(3, .int (iI ((ii : Nat) : Int))), (2, .ref (B + 202)), (1, .ref (B + 0)), (0, .ref b)] := hl
  obtain ⟨h_, hv0⟩ : ∃ v : Int, v = (xs (ii + 1)).toInt := ⟨_, rfl⟩
  have rv0 : -2147483648 ≤ h_ ∧ h_ < 2147483648 := by rw [hv0]; exact iI_bd _
  obtain ⟨z_, hv1⟩ : ∃ v : Int, v = (xs (ii + 2)).toInt := ⟨_, rfl⟩
  have rv1 : -2147483648 ≤ z_ ∧ z_ < 2147483648 := by rw [hv1]; exact iI_bd _
  refine lv_aload_n hx hb dL_law_613 rfl (lv_at hl 2 rfl) ?_
  refine lv_aload_n hx hb dL_law_614 rfl (lv_at hl 3 rfl) ?_
  refine lv_iload_n hx hb dL_law_615 rfl (lv_at hl 0 rfl) ?_
  refine zi_con hx hb dL_law_616 ?_
  refine zi_add hx hb dL_law_617 ?_
  refine lx_ld hx hb hX hbl hbA hS hv0 (by omega) (by omega) hL dL_law_618 ?_
  refine lv_aload_n hx hb dL_law_619 rfl (lv_at hl 3 rfl) ?_
  refine lv_iload_n hx hb dL_law_620 rfl (lv_at hl 0 rfl) ?_
  refine zi_con hx hb dL_law_621 ?_
  refine zi_add hx hb dL_law_622 ?_
  refine lx_ld hx hb hX hbl hbA hS hv1 (by omega) (by omega) hL dL_law_623 ?_
  refine k_vi (fr := 10) (lo := 350) (r := (if ¬ (0 ≤ h_ ∧ h_ ≤ σ 18 4 - 1) ∨ ¬ (0 ≤ z_ ∧ z_ ≤ 3) then -1000001 else shr (σ 18) z_ h_.toNat)) (σ' := (if ¬ (0 ≤ h_ ∧ h_ ≤ σ 18 4 - 1) ∨ ¬ (0 ≤ z_ ∧ z_ ≤ 3) then σ else us σ 10 (cpy (mn (σ 18)) (shr (σ 18) z_) (σ 10)))) (As := [.int (iI h_), .int (iI z_)]) (rest := []) hx hb hml hown hts hK hRf hRl hW hS (c_X11_share l D cy B σ h_ z_ rv0 rv1 hR.o18) vX11_share ⟨w_588, w_589⟩ w_587 (by decide) e_0 rfl ⟨Nat.le_of_ble_eq_true rfl, Nat.le_of_ble_eq_true rfl⟩ hl.1 rfl (Nat.le_of_ble_eq_true rfl) hcs dL_law_624 (fun H locs hW hS => ?_)
  obtain ⟨σ1, h1, hW⟩ : ∃ σ1 : Sg, σ1 = (if ¬ (0 ≤ h_ ∧ h_ ≤ σ 18 4 - 1) ∨ ¬ (0 ≤ z_ ∧ z_ ≤ 3) then σ else us σ 10 (cpy (mn (σ 18)) (shr (σ 18) z_) (σ 10))) ∧ wd D cy B σ1 H := ⟨_, rfl, hW⟩
  obtain ⟨pm0, heq, hR2⟩ := q_share hR h_ z_ h1
  refine lv_aload_n hx hb dL_law_627 rfl (lv_at hl 1 rfl) ?_
  refine lv_aload_n hx hb dL_law_628 rfl (lv_at hl 3 rfl) ?_
  refine lv_iload_n hx hb dL_law_629 rfl (lv_at hl 0 rfl) ?_
  refine zi_con hx hb dL_law_630 ?_
  refine zi_add hx hb dL_law_631 ?_
  refine lx_ld hx hb hX hbl hbA hS hv0 (by omega) (by omega) hL dL_law_632 ?_
  refine lv_aload_n hx hb dL_law_633 rfl (lv_at hl 3 rfl) ?_
  refine lv_iload_n hx hb dL_law_634 rfl (lv_at hl 0 rfl) ?_
  refine zi_con hx hb dL_law_635 ?_
  refine zi_add hx hb dL_law_636 ?_
  refine lx_ld hx hb hX hbl hbA hS hv1 (by omega) (by omega) hL dL_law_637 ?_
  refine k_vi (fr := 10) (lo := 350) (r := (if ¬ (0 ≤ h_ ∧ h_ ≤ σ1 206 4 - 1) ∨ ¬ (0 ≤ z_ ∧ z_ ≤ 3) then -1000001 else shr (σ1 206) z_ h_.toNat)) (σ' := (if ¬ (0 ≤ h_ ∧ h_ ≤ σ1 206 4 - 1) ∨ ¬ (0 ≤ z_ ∧ z_ ≤ 3) then σ1 else us σ1 210 (cpy (mn (σ1 206)) (shr (σ1 206) z_) (σ1 210)))) (As := [.int (iI h_), .int (iI z_)]) (rest := [.int (iI (if ¬ (0 ≤ h_ ∧ h_ ≤ σ 18 4 - 1) ∨ ¬ (0 ≤ z_ ∧ z_ ≤ 3) then -1000001 else shr (σ 18) z_ h_.toNat))]) hx hb hml hown hts hK hRf hRl hW hS (c_X12_share l D cy B σ1 h_ z_ rv0 rv1 pm0) vX12_share ⟨w_1053, w_1054⟩ w_1052 (by decide) e_202 rfl ⟨Nat.le_of_ble_eq_true rfl, Nat.le_of_ble_eq_true rfl⟩ hl.1 rfl (Nat.le_of_ble_eq_true rfl) hcs dL_law_638 (fun H locs hW hS => ?_)
  refine lv_icmp_eq (tgt := 1214) hx hb dL_law_641 (by decide) (fun _ => ?_) (fun hne => absurd (congrArg iI heq) hne)
  exact nx _ _ _ _ hR2 hW hS hl
set_option maxHeartbeats 1000000 in
theorem lc_best {p : Program} {l : Launch} {e : Env} {s : State} {m : MethodId} {below : List Frame} {meth : Method} {c : Code} {b L : Nat} {xs : Nat → Int32} {D : va_G} {cy : Nat → ClassId} {B cells slots ii : Nat} {Q : State → Prop} {σ : Sg} {H : Heap} {locs : List Loc} {ls : Array Slot} (hE : LE p s m c b L xs D cy B cells slots) (hi : ii + 6 ≤ L) (hR : Rel σ) (hW : wd D cy B σ H) (hS : va_S (AB B) s.heap H locs) (hl : lv_has ls 4 (lvL b B ii)) (nx : LN p l e s m below meth c b D cy B cells slots ii Q) : W p l e room_1 s m #[Value.ref b] below meth c H locs cells slots Q (F0 m 646 ls []) := by
  obtain ⟨hx, hb, hml, hown, hts, hK, hX, hbl, hbA, hL, hcs⟩ := hE
  have hRf : 10 ≤ room_1.frames := Nat.le_of_ble_eq_true rfl
  have hRl : 350 ≤ room_1.locals := Nat.le_of_ble_eq_true rfl
  have hl : lv_has ls 4 [(3, .int (iI ((ii : Nat) : Int))), (2, .ref (B + 202)), (1, .ref (B + 0)), (0, .ref b)] := hl
  obtain ⟨h_, hv0⟩ : ∃ v : Int, v = (xs (ii + 1)).toInt := ⟨_, rfl⟩
  have rv0 : -2147483648 ≤ h_ ∧ h_ < 2147483648 := by rw [hv0]; exact iI_bd _
  obtain ⟨w_, hv1⟩ : ∃ v : Int, v = (xs (ii + 2)).toInt := ⟨_, rfl⟩
  have rv1 : -2147483648 ≤ w_ ∧ w_ < 2147483648 := by rw [hv1]; exact iI_bd _
  refine lv_aload_n hx hb dL_law_646 rfl (lv_at hl 2 rfl) ?_
  refine lv_aload_n hx hb dL_law_647 rfl (lv_at hl 3 rfl) ?_
  refine lv_iload_n hx hb dL_law_648 rfl (lv_at hl 0 rfl) ?_
  refine zi_con hx hb dL_law_649 ?_
  refine zi_add hx hb dL_law_650 ?_
  refine lx_ld hx hb hX hbl hbA hS hv0 (by omega) (by omega) hL dL_law_651 ?_
  refine lv_aload_n hx hb dL_law_652 rfl (lv_at hl 3 rfl) ?_
  refine lv_iload_n hx hb dL_law_653 rfl (lv_at hl 0 rfl) ?_
  refine zi_con hx hb dL_law_654 ?_
  refine zi_add hx hb dL_law_655 ?_
  refine lx_ld hx hb hX hbl hbA hS hv1 (by omega) (by omega) hL dL_law_656 ?_
  refine k_vie (fr := 10) (lo := 350) (r := (if ¬ (0 ≤ h_ ∧ h_ ≤ σ 18 4 - 1) ∨ ¬ (0 ≤ w_ ∧ w_ ≤ 1) then -1000001 else if w_ = 0 then bm (σ 18) h_.toNat 779 else bsp (σ 18) h_.toNat 0 779)) (As := [.int (iI h_), .int (iI w_)]) (rest := []) hx hb hml hown hts hK hRf hRl hW hS (c_X11_best l D cy B σ h_ w_ rv0 rv1 hR.o18) vX11_best ⟨w_592, w_593⟩ w_591 (by decide) e_0 rfl ⟨Nat.le_of_ble_eq_true rfl, Nat.le_of_ble_eq_true rfl⟩ hl.1 rfl (Nat.le_of_ble_eq_true rfl) hcs dL_law_657 (fun τ H locs hτ hW hS => ?_)
  obtain ⟨T_, A_, S_, h1⟩ := hτ
  obtain ⟨σ1, hs1⟩ : ∃ σ1 : Sg, σ1 = τ := ⟨_, rfl⟩
  rw [← hs1] at hW h1
  obtain ⟨pm0, heq, hR2⟩ := q_best hR h_ w_ T_ A_ S_ h1
  refine lv_aload_n hx hb dL_law_660 rfl (lv_at hl 1 rfl) ?_
  refine lv_aload_n hx hb dL_law_661 rfl (lv_at hl 3 rfl) ?_
  refine lv_iload_n hx hb dL_law_662 rfl (lv_at hl 0 rfl) ?_
  refine zi_con hx hb dL_law_663 ?_
  refine zi_add hx hb dL_law_664 ?_
  refine lx_ld hx hb hX hbl hbA hS hv0 (by omega) (by omega) hL dL_law_665 ?_
  refine lv_aload_n hx hb dL_law_666 rfl (lv_at hl 3 rfl) ?_
  refine lv_iload_n hx hb dL_law_667 rfl (lv_at hl 0 rfl) ?_
  refine zi_con hx hb dL_law_668 ?_
  refine zi_add hx hb dL_law_669 ?_
  refine lx_ld hx hb hX hbl hbA hS hv1 (by omega) (by omega) hL dL_law_670 ?_
  refine k_vie (fr := 10) (lo := 350) (r := (if ¬ (0 ≤ h_ ∧ h_ ≤ σ1 206 4 - 1) ∨ ¬ (0 ≤ w_ ∧ w_ ≤ 1) then -1000001 else if w_ = 0 then bm (σ1 206) h_.toNat 779 else bsp (σ1 206) h_.toNat (σ1 202 20) 779)) (As := [.int (iI h_), .int (iI w_)]) (rest := [.int (iI (if ¬ (0 ≤ h_ ∧ h_ ≤ σ 18 4 - 1) ∨ ¬ (0 ≤ w_ ∧ w_ ≤ 1) then -1000001 else if w_ = 0 then bm (σ 18) h_.toNat 779 else bsp (σ 18) h_.toNat 0 779))]) hx hb hml hown hts hK hRf hRl hW hS (c_X12_best l D cy B σ1 h_ w_ rv0 rv1 pm0) vX12_best ⟨w_1057, w_1058⟩ w_1056 (by decide) e_202 rfl ⟨Nat.le_of_ble_eq_true rfl, Nat.le_of_ble_eq_true rfl⟩ hl.1 rfl (Nat.le_of_ble_eq_true rfl) hcs dL_law_671 (fun τ H locs hτ hW hS => ?_)
  obtain ⟨g9, h2⟩ := hτ
  have hR3 : Rel τ := by rw [h2]; exact hR2 g9
  refine lv_icmp_eq (tgt := 1214) hx hb dL_law_674 (by decide) (fun _ => ?_) (fun hne => absurd (congrArg iI heq) hne)
  exact nx _ _ _ _ hR3 hW hS hl
set_option maxHeartbeats 1000000 in
theorem lc_rather {p : Program} {l : Launch} {e : Env} {s : State} {m : MethodId} {below : List Frame} {meth : Method} {c : Code} {b L : Nat} {xs : Nat → Int32} {D : va_G} {cy : Nat → ClassId} {B cells slots ii : Nat} {Q : State → Prop} {σ : Sg} {H : Heap} {locs : List Loc} {ls : Array Slot} (hE : LE p s m c b L xs D cy B cells slots) (hi : ii + 6 ≤ L) (hR : Rel σ) (hW : wd D cy B σ H) (hS : va_S (AB B) s.heap H locs) (hl : lv_has ls 4 (lvL b B ii)) (nx : LN p l e s m below meth c b D cy B cells slots ii Q) : W p l e room_1 s m #[Value.ref b] below meth c H locs cells slots Q (F0 m 679 ls []) := by
  obtain ⟨hx, hb, hml, hown, hts, hK, hX, hbl, hbA, hL, hcs⟩ := hE
  have hRf : 10 ≤ room_1.frames := Nat.le_of_ble_eq_true rfl
  have hRl : 350 ≤ room_1.locals := Nat.le_of_ble_eq_true rfl
  have hl : lv_has ls 4 [(3, .int (iI ((ii : Nat) : Int))), (2, .ref (B + 202)), (1, .ref (B + 0)), (0, .ref b)] := hl
  refine lv_aload_n hx hb dL_law_679 rfl (lv_at hl 2 rfl) ?_
  refine k_vie (fr := 10) (lo := 350) (r := (if σ 18 4 = 0 then -1000002 else bt (raP (σ 18)) (mn (σ 18)))) (As := []) (rest := []) hx hb hml hown hts hK hRf hRl hW hS (c_X11_rather l D cy B σ  hR.o18) vX11_rather ⟨w_606, w_607⟩ w_605 (by decide) e_0 rfl ⟨Nat.le_of_ble_eq_true rfl, Nat.le_of_ble_eq_true rfl⟩ hl.1 rfl (Nat.le_of_ble_eq_true rfl) hcs dL_law_680 (fun τ H locs hτ hW hS => ?_)
  obtain ⟨T_, A_, S_, h1⟩ := hτ
  obtain ⟨σ1, hs1⟩ : ∃ σ1 : Sg, σ1 = τ := ⟨_, rfl⟩
  rw [← hs1] at hW h1
  obtain ⟨pm0, pm1, heq, hR2⟩ := q_rather hR T_ A_ S_ h1
  refine lv_aload_n hx hb dL_law_683 rfl (lv_at hl 1 rfl) ?_
  refine k_vie (fr := 10) (lo := 350) (r := (if σ1 206 4 = 0 then -1000002 else bt (raP (σ1 206)) (mn (σ1 206)))) (As := []) (rest := [.int (iI (if σ 18 4 = 0 then -1000002 else bt (raP (σ 18)) (mn (σ 18))))]) hx hb hml hown hts hK hRf hRl hW hS (c_X12_rather l D cy B σ1  pm0 pm1) vX12_rather ⟨w_1073, w_1074⟩ w_1072 (by decide) e_202 rfl ⟨Nat.le_of_ble_eq_true rfl, Nat.le_of_ble_eq_true rfl⟩ hl.1 rfl (Nat.le_of_ble_eq_true rfl) hcs dL_law_684 (fun τ H locs hτ hW hS => ?_)
  obtain ⟨a9, b9, z9, h2⟩ := hτ
  have hR3 : Rel τ := by rw [h2]; exact hR2 a9 b9 z9
  refine lv_icmp_eq (tgt := 1214) hx hb dL_law_687 (by decide) (fun _ => ?_) (fun hne => absurd (congrArg iI heq) hne)
  exact nx _ _ _ _ hR3 hW hS hl
set_option maxHeartbeats 1000000 in
theorem lc_trueRule {p : Program} {l : Launch} {e : Env} {s : State} {m : MethodId} {below : List Frame} {meth : Method} {c : Code} {b L : Nat} {xs : Nat → Int32} {D : va_G} {cy : Nat → ClassId} {B cells slots ii : Nat} {Q : State → Prop} {σ : Sg} {H : Heap} {locs : List Loc} {ls : Array Slot} (hE : LE p s m c b L xs D cy B cells slots) (hi : ii + 6 ≤ L) (hR : Rel σ) (hW : wd D cy B σ H) (hS : va_S (AB B) s.heap H locs) (hl : lv_has ls 4 (lvL b B ii)) (nx : LN p l e s m below meth c b D cy B cells slots ii Q) : W p l e room_1 s m #[Value.ref b] below meth c H locs cells slots Q (F0 m 692 ls []) := by
  obtain ⟨hx, hb, hml, hown, hts, hK, hX, hbl, hbA, hL, hcs⟩ := hE
  have hRf : 10 ≤ room_1.frames := Nat.le_of_ble_eq_true rfl
  have hRl : 350 ≤ room_1.locals := Nat.le_of_ble_eq_true rfl
  have hl : lv_has ls 4 [(3, .int (iI ((ii : Nat) : Int))), (2, .ref (B + 202)), (1, .ref (B + 0)), (0, .ref b)] := hl
  refine lv_aload_n hx hb dL_law_692 rfl (lv_at hl 2 rfl) ?_
  refine k_vie (fr := 10) (lo := 350) (r := (if σ 18 4 = 0 then -1000002 else mfd (trP (σ 18)) 4)) (As := []) (rest := []) hx hb hml hown hts hK hRf hRl hW hS (c_X11_trueRule l D cy B σ  hR.o18) vX11_trueRule ⟨w_614, w_615⟩ w_613 (by decide) e_0 rfl ⟨Nat.le_of_ble_eq_true rfl, Nat.le_of_ble_eq_true rfl⟩ hl.1 rfl (Nat.le_of_ble_eq_true rfl) hcs dL_law_693 (fun τ H locs hτ hW hS => ?_)
  obtain ⟨T_, S_, h1⟩ := hτ
  obtain ⟨σ1, hs1⟩ : ∃ σ1 : Sg, σ1 = τ := ⟨_, rfl⟩
  rw [← hs1] at hW h1
  obtain ⟨pm0, pm1, heq, hR2⟩ := q_trueRule hR T_ S_ h1
  refine lv_aload_n hx hb dL_law_696 rfl (lv_at hl 1 rfl) ?_
  refine k_vie (fr := 10) (lo := 350) (r := (if σ1 206 4 = 0 then -1000002 else mfd (trP (σ1 206)) 4)) (As := []) (rest := [.int (iI (if σ 18 4 = 0 then -1000002 else mfd (trP (σ 18)) 4))]) hx hb hml hown hts hK hRf hRl hW hS (c_X12_trueRule l D cy B σ1  pm0 pm1) vX12_trueRule ⟨w_1077, w_1078⟩ w_1076 (by decide) e_202 rfl ⟨Nat.le_of_ble_eq_true rfl, Nat.le_of_ble_eq_true rfl⟩ hl.1 rfl (Nat.le_of_ble_eq_true rfl) hcs dL_law_697 (fun τ H locs hτ hW hS => ?_)
  obtain ⟨g9, h2⟩ := hτ
  have hR3 : Rel τ := by rw [h2]; exact hR2 g9
  refine lv_icmp_eq (tgt := 1214) hx hb dL_law_700 (by decide) (fun _ => ?_) (fun hne => absurd (congrArg iI heq) hne)
  exact nx _ _ _ _ hR3 hW hS hl
set_option maxHeartbeats 1000000 in
theorem lc_order {p : Program} {l : Launch} {e : Env} {s : State} {m : MethodId} {below : List Frame} {meth : Method} {c : Code} {b L : Nat} {xs : Nat → Int32} {D : va_G} {cy : Nat → ClassId} {B cells slots ii : Nat} {Q : State → Prop} {σ : Sg} {H : Heap} {locs : List Loc} {ls : Array Slot} (hE : LE p s m c b L xs D cy B cells slots) (hi : ii + 6 ≤ L) (hR : Rel σ) (hW : wd D cy B σ H) (hS : va_S (AB B) s.heap H locs) (hl : lv_has ls 4 (lvL b B ii)) (nx : LN p l e s m below meth c b D cy B cells slots ii Q) : W p l e room_1 s m #[Value.ref b] below meth c H locs cells slots Q (F0 m 705 ls []) := by
  obtain ⟨hx, hb, hml, hown, hts, hK, hX, hbl, hbA, hL, hcs⟩ := hE
  have hRf : 10 ≤ room_1.frames := Nat.le_of_ble_eq_true rfl
  have hRl : 350 ≤ room_1.locals := Nat.le_of_ble_eq_true rfl
  have hl : lv_has ls 4 [(3, .int (iI ((ii : Nat) : Int))), (2, .ref (B + 202)), (1, .ref (B + 0)), (0, .ref b)] := hl
  obtain ⟨z_, hv0⟩ : ∃ v : Int, v = (xs (ii + 1)).toInt := ⟨_, rfl⟩
  have rv0 : -2147483648 ≤ z_ ∧ z_ < 2147483648 := by rw [hv0]; exact iI_bd _
  obtain ⟨k_, hv1⟩ : ∃ v : Int, v = (xs (ii + 2)).toInt := ⟨_, rfl⟩
  have rv1 : -2147483648 ≤ k_ ∧ k_ < 2147483648 := by rw [hv1]; exact iI_bd _
  refine lv_aload_n hx hb dL_law_705 rfl (lv_at hl 2 rfl) ?_
  refine lv_aload_n hx hb dL_law_706 rfl (lv_at hl 3 rfl) ?_
  refine lv_iload_n hx hb dL_law_707 rfl (lv_at hl 0 rfl) ?_
  refine zi_con hx hb dL_law_708 ?_
  refine zi_add hx hb dL_law_709 ?_
  refine lx_ld hx hb hX hbl hbA hS hv0 (by omega) (by omega) hL dL_law_710 ?_
  refine lv_aload_n hx hb dL_law_711 rfl (lv_at hl 3 rfl) ?_
  refine lv_iload_n hx hb dL_law_712 rfl (lv_at hl 0 rfl) ?_
  refine zi_con hx hb dL_law_713 ?_
  refine zi_add hx hb dL_law_714 ?_
  refine lx_ld hx hb hX hbl hbA hS hv1 (by omega) (by omega) hL dL_law_715 ?_
  refine k_vie (fr := 10) (lo := 350) (r := (if σ 18 4 = 0 then -1000002 else if ¬ (1 ≤ z_ ∧ z_ ≤ 24) ∨ ¬ (-1 ≤ k_ ∧ k_ ≤ 3) then -1000001 else if k_ < 0 then om (σ 18) z_.toNat 256 else if k_ < σ 18 4 then rs ((ob (σ 18) z_.toNat 256 : Nat) : Int) (mn (σ 18) - 1 - k_.toNat) % 4 else -1000000)) (As := [.int (iI z_), .int (iI k_)]) (rest := []) hx hb hml hown hts hK hRf hRl hW hS (c_X11_order l D cy B σ z_ k_ rv0 rv1 hR.o18 hR.m18) vX11_order ⟨w_627, w_628⟩ w_626 (by decide) e_0 rfl ⟨Nat.le_of_ble_eq_true rfl, Nat.le_of_ble_eq_true rfl⟩ hl.1 rfl (Nat.le_of_ble_eq_true rfl) hcs dL_law_716 (fun τ H locs hτ hW hS => ?_)
  obtain ⟨T_, H_, B_, h1⟩ := hτ
  obtain ⟨σ1, hs1⟩ : ∃ σ1 : Sg, σ1 = τ := ⟨_, rfl⟩
  rw [← hs1] at hW h1
  obtain ⟨pm0, pm1, pm2, heq, hR2⟩ := q_order hR z_ k_ T_ H_ B_ h1
  refine lv_aload_n hx hb dL_law_719 rfl (lv_at hl 1 rfl) ?_
  refine lv_aload_n hx hb dL_law_720 rfl (lv_at hl 3 rfl) ?_
  refine lv_iload_n hx hb dL_law_721 rfl (lv_at hl 0 rfl) ?_
  refine zi_con hx hb dL_law_722 ?_
  refine zi_add hx hb dL_law_723 ?_
  refine lx_ld hx hb hX hbl hbA hS hv0 (by omega) (by omega) hL dL_law_724 ?_
  refine lv_aload_n hx hb dL_law_725 rfl (lv_at hl 3 rfl) ?_
  refine lv_iload_n hx hb dL_law_726 rfl (lv_at hl 0 rfl) ?_
  refine zi_con hx hb dL_law_727 ?_
  refine zi_add hx hb dL_law_728 ?_
  refine lx_ld hx hb hX hbl hbA hS hv1 (by omega) (by omega) hL dL_law_729 ?_
  refine k_vie (fr := 10) (lo := 350) (r := (if σ1 206 4 = 0 then -1000002 else if ¬ (1 ≤ z_ ∧ z_ ≤ 24) ∨ ¬ (-1 ≤ k_ ∧ k_ ≤ 3) then -1000001 else if k_ < 0 then om (σ1 206) z_.toNat 256 else if k_ < σ1 206 4 then rs ((ob (σ1 206) z_.toNat 256 : Nat) : Int) (mn (σ1 206) - 1 - k_.toNat) % 4 else -1000000)) (As := [.int (iI z_), .int (iI k_)]) (rest := [.int (iI (if σ 18 4 = 0 then -1000002 else if ¬ (1 ≤ z_ ∧ z_ ≤ 24) ∨ ¬ (-1 ≤ k_ ∧ k_ ≤ 3) then -1000001 else if k_ < 0 then om (σ 18) z_.toNat 256 else if k_ < σ 18 4 then rs ((ob (σ 18) z_.toNat 256 : Nat) : Int) (mn (σ 18) - 1 - k_.toNat) % 4 else -1000000))]) hx hb hml hown hts hK hRf hRl hW hS (c_X12_order l D cy B σ1 z_ k_ rv0 rv1 pm0 pm1 pm2) vX12_order ⟨w_1086, w_1087⟩ w_1085 (by decide) e_202 rfl ⟨Nat.le_of_ble_eq_true rfl, Nat.le_of_ble_eq_true rfl⟩ hl.1 rfl (Nat.le_of_ble_eq_true rfl) hcs dL_law_730 (fun τ H locs hτ hW hS => ?_)
  obtain ⟨g9, h2⟩ := hτ
  have hR3 : Rel τ := by rw [h2]; exact hR2 g9
  refine lv_icmp_eq (tgt := 1214) hx hb dL_law_733 (by decide) (fun _ => ?_) (fun hne => absurd (congrArg iI heq) hne)
  exact nx _ _ _ _ hR3 hW hS hl
set_option maxHeartbeats 1000000 in
theorem lc_ahead {p : Program} {l : Launch} {e : Env} {s : State} {m : MethodId} {below : List Frame} {meth : Method} {c : Code} {b L : Nat} {xs : Nat → Int32} {D : va_G} {cy : Nat → ClassId} {B cells slots ii : Nat} {Q : State → Prop} {σ : Sg} {H : Heap} {locs : List Loc} {ls : Array Slot} (hE : LE p s m c b L xs D cy B cells slots) (hi : ii + 6 ≤ L) (hR : Rel σ) (hW : wd D cy B σ H) (hS : va_S (AB B) s.heap H locs) (hl : lv_has ls 4 (lvL b B ii)) (nx : LN p l e s m below meth c b D cy B cells slots ii Q) : W p l e room_1 s m #[Value.ref b] below meth c H locs cells slots Q (F0 m 738 ls []) := by
  obtain ⟨hx, hb, hml, hown, hts, hK, hX, hbl, hbA, hL, hcs⟩ := hE
  have hRf : 10 ≤ room_1.frames := Nat.le_of_ble_eq_true rfl
  have hRl : 350 ≤ room_1.locals := Nat.le_of_ble_eq_true rfl
  have hl : lv_has ls 4 [(3, .int (iI ((ii : Nat) : Int))), (2, .ref (B + 202)), (1, .ref (B + 0)), (0, .ref b)] := hl
  obtain ⟨z_, hv0⟩ : ∃ v : Int, v = (xs (ii + 1)).toInt := ⟨_, rfl⟩
  have rv0 : -2147483648 ≤ z_ ∧ z_ < 2147483648 := by rw [hv0]; exact iI_bd _
  obtain ⟨w_, hv1⟩ : ∃ v : Int, v = (xs (ii + 2)).toInt := ⟨_, rfl⟩
  have rv1 : -2147483648 ≤ w_ ∧ w_ < 2147483648 := by rw [hv1]; exact iI_bd _
  refine lv_aload_n hx hb dL_law_738 rfl (lv_at hl 2 rfl) ?_
  refine lv_aload_n hx hb dL_law_739 rfl (lv_at hl 3 rfl) ?_
  refine lv_iload_n hx hb dL_law_740 rfl (lv_at hl 0 rfl) ?_
  refine zi_con hx hb dL_law_741 ?_
  refine zi_add hx hb dL_law_742 ?_
  refine lx_ld hx hb hX hbl hbA hS hv0 (by omega) (by omega) hL dL_law_743 ?_
  refine lv_aload_n hx hb dL_law_744 rfl (lv_at hl 3 rfl) ?_
  refine lv_iload_n hx hb dL_law_745 rfl (lv_at hl 0 rfl) ?_
  refine zi_con hx hb dL_law_746 ?_
  refine zi_add hx hb dL_law_747 ?_
  refine lx_ld hx hb hX hbl hbA hS hv1 (by omega) (by omega) hL dL_law_748 ?_
  refine k_vie (fr := 10) (lo := 350) (r := (if σ 18 4 = 0 then -1000002 else if ¬ (0 ≤ z_ ∧ z_ ≤ 60) ∨ ¬ (0 ≤ w_ ∧ w_ ≤ 1) then -1000001 else if w_ = 0 then itf mon z_.toNat (σ 18) 1 else brk (itf mon z_.toNat (σ 18)))) (As := [.int (iI z_), .int (iI w_)]) (rest := []) hx hb hml hown hts hK hRf hRl hW hS (c_X11_ahead l D cy B σ z_ w_ rv0 rv1 hR.o18 hR.m18) vX11_ahead ⟨w_643, w_644⟩ w_642 (by decide) e_0 rfl ⟨Nat.le_of_ble_eq_true rfl, Nat.le_of_ble_eq_true rfl⟩ hl.1 rfl (Nat.le_of_ble_eq_true rfl) hcs dL_law_749 (fun τ H locs hτ hW hS => ?_)
  obtain ⟨T_, h1⟩ := hτ
  obtain ⟨σ1, hs1⟩ : ∃ σ1 : Sg, σ1 = τ := ⟨_, rfl⟩
  rw [← hs1] at hW h1
  obtain ⟨pm0, pm1, pm2, heq, hR2⟩ := q_ahead hR z_ w_ T_ h1
  refine lv_aload_n hx hb dL_law_752 rfl (lv_at hl 1 rfl) ?_
  refine lv_aload_n hx hb dL_law_753 rfl (lv_at hl 3 rfl) ?_
  refine lv_iload_n hx hb dL_law_754 rfl (lv_at hl 0 rfl) ?_
  refine zi_con hx hb dL_law_755 ?_
  refine zi_add hx hb dL_law_756 ?_
  refine lx_ld hx hb hX hbl hbA hS hv0 (by omega) (by omega) hL dL_law_757 ?_
  refine lv_aload_n hx hb dL_law_758 rfl (lv_at hl 3 rfl) ?_
  refine lv_iload_n hx hb dL_law_759 rfl (lv_at hl 0 rfl) ?_
  refine zi_con hx hb dL_law_760 ?_
  refine zi_add hx hb dL_law_761 ?_
  refine lx_ld hx hb hX hbl hbA hS hv1 (by omega) (by omega) hL dL_law_762 ?_
  refine k_vi (fr := 10) (lo := 350) (r := (if σ1 206 4 = 0 then -1000002 else if ¬ (0 ≤ z_ ∧ z_ ≤ 60) ∨ ¬ (0 ≤ w_ ∧ w_ ≤ 1) then -1000001 else if w_ = 0 then itf mon z_.toNat (σ1 206) 1 else brk (itf mon z_.toNat (σ1 206)))) (σ' := (if σ1 206 4 = 0 then σ1 else if ¬ (0 ≤ z_ ∧ z_ ≤ 60) ∨ ¬ (0 ≤ w_ ∧ w_ ≤ 1) then σ1 else us σ1 212 (σ1 206))) (As := [.int (iI z_), .int (iI w_)]) (rest := [.int (iI (if σ 18 4 = 0 then -1000002 else if ¬ (0 ≤ z_ ∧ z_ ≤ 60) ∨ ¬ (0 ≤ w_ ∧ w_ ≤ 1) then -1000001 else if w_ = 0 then itf mon z_.toNat (σ 18) 1 else brk (itf mon z_.toNat (σ 18))))]) hx hb hml hown hts hK hRf hRl hW hS (c_X12_ahead l D cy B σ1 z_ w_ rv0 rv1 pm0 pm1 pm2) vX12_ahead ⟨w_1095, w_1096⟩ w_1094 (by decide) e_202 rfl ⟨Nat.le_of_ble_eq_true rfl, Nat.le_of_ble_eq_true rfl⟩ hl.1 rfl (Nat.le_of_ble_eq_true rfl) hcs dL_law_763 (fun H locs hW hS => ?_)
  refine lv_icmp_eq (tgt := 1214) hx hb dL_law_766 (by decide) (fun _ => ?_) (fun hne => absurd (congrArg iI heq) hne)
  exact nx _ _ _ _ hR2 hW hS hl
set_option maxHeartbeats 1000000 in
theorem lc_down {p : Program} {l : Launch} {e : Env} {s : State} {m : MethodId} {below : List Frame} {meth : Method} {c : Code} {b L : Nat} {xs : Nat → Int32} {D : va_G} {cy : Nat → ClassId} {B cells slots ii : Nat} {Q : State → Prop} {σ : Sg} {H : Heap} {locs : List Loc} {ls : Array Slot} (hE : LE p s m c b L xs D cy B cells slots) (hi : ii + 6 ≤ L) (hR : Rel σ) (hW : wd D cy B σ H) (hS : va_S (AB B) s.heap H locs) (hl : lv_has ls 4 (lvL b B ii)) (nx : LN p l e s m below meth c b D cy B cells slots ii Q) : W p l e room_1 s m #[Value.ref b] below meth c H locs cells slots Q (F0 m 771 ls []) := by
  obtain ⟨hx, hb, hml, hown, hts, hK, hX, hbl, hbA, hL, hcs⟩ := hE
  have hRf : 10 ≤ room_1.frames := Nat.le_of_ble_eq_true rfl
  have hRl : 350 ≤ room_1.locals := Nat.le_of_ble_eq_true rfl
  have hl : lv_has ls 4 [(3, .int (iI ((ii : Nat) : Int))), (2, .ref (B + 202)), (1, .ref (B + 0)), (0, .ref b)] := hl
  obtain ⟨z_, hv0⟩ : ∃ v : Int, v = (xs (ii + 1)).toInt := ⟨_, rfl⟩
  have rv0 : -2147483648 ≤ z_ ∧ z_ < 2147483648 := by rw [hv0]; exact iI_bd _
  refine lv_aload_n hx hb dL_law_771 rfl (lv_at hl 2 rfl) ?_
  refine lv_aload_n hx hb dL_law_772 rfl (lv_at hl 3 rfl) ?_
  refine lv_iload_n hx hb dL_law_773 rfl (lv_at hl 0 rfl) ?_
  refine zi_con hx hb dL_law_774 ?_
  refine zi_add hx hb dL_law_775 ?_
  refine lx_ld hx hb hX hbl hbA hS hv0 (by omega) (by omega) hL dL_law_776 ?_
  refine k_vie (fr := 10) (lo := 350) (r := (if σ 18 4 = 0 then -1000002 else if ¬ (1 ≤ z_ ∧ z_ ≤ 99) then -1000001 else dw (σ 18) z_ 61 0)) (As := [.int (iI z_)]) (rest := []) hx hb hml hown hts hK hRf hRl hW hS (c_X11_down l D cy B σ z_ rv0 hR.o18 hR.m18) vX11_down ⟨w_651, w_652⟩ w_650 (by decide) e_0 rfl ⟨Nat.le_of_ble_eq_true rfl, Nat.le_of_ble_eq_true rfl⟩ hl.1 rfl (Nat.le_of_ble_eq_true rfl) hcs dL_law_777 (fun τ H locs hτ hW hS => ?_)
  obtain ⟨T_, h1⟩ := hτ
  obtain ⟨σ1, hs1⟩ : ∃ σ1 : Sg, σ1 = τ := ⟨_, rfl⟩
  rw [← hs1] at hW h1
  obtain ⟨pm0, pm1, pm2, heq, hR2⟩ := q_down hR z_ T_ h1
  refine lv_aload_n hx hb dL_law_780 rfl (lv_at hl 1 rfl) ?_
  refine lv_aload_n hx hb dL_law_781 rfl (lv_at hl 3 rfl) ?_
  refine lv_iload_n hx hb dL_law_782 rfl (lv_at hl 0 rfl) ?_
  refine zi_con hx hb dL_law_783 ?_
  refine zi_add hx hb dL_law_784 ?_
  refine lx_ld hx hb hX hbl hbA hS hv0 (by omega) (by omega) hL dL_law_785 ?_
  refine k_vi (fr := 10) (lo := 350) (r := (if σ1 206 4 = 0 then -1000002 else if ¬ (1 ≤ z_ ∧ z_ ≤ 99) then -1000001 else dw (σ1 206) z_ 61 0)) (σ' := (if σ1 206 4 = 0 then σ1 else if ¬ (1 ≤ z_ ∧ z_ ≤ 99) then σ1 else us σ1 212 (σ1 206))) (As := [.int (iI z_)]) (rest := [.int (iI (if σ 18 4 = 0 then -1000002 else if ¬ (1 ≤ z_ ∧ z_ ≤ 99) then -1000001 else dw (σ 18) z_ 61 0))]) hx hb hml hown hts hK hRf hRl hW hS (c_X12_down l D cy B σ1 z_ rv0 pm0 pm1 pm2) vX12_down ⟨w_1104, w_1105⟩ w_1103 (by decide) e_202 rfl ⟨Nat.le_of_ble_eq_true rfl, Nat.le_of_ble_eq_true rfl⟩ hl.1 rfl (Nat.le_of_ble_eq_true rfl) hcs dL_law_786 (fun H locs hW hS => ?_)
  refine lv_icmp_eq (tgt := 1214) hx hb dL_law_789 (by decide) (fun _ => ?_) (fun hne => absurd (congrArg iI heq) hne)
  exact nx _ _ _ _ hR2 hW hS hl
set_option maxHeartbeats 1000000 in
theorem lc_loves {p : Program} {l : Launch} {e : Env} {s : State} {m : MethodId} {below : List Frame} {meth : Method} {c : Code} {b L : Nat} {xs : Nat → Int32} {D : va_G} {cy : Nat → ClassId} {B cells slots ii : Nat} {Q : State → Prop} {σ : Sg} {H : Heap} {locs : List Loc} {ls : Array Slot} (hE : LE p s m c b L xs D cy B cells slots) (hi : ii + 6 ≤ L) (hR : Rel σ) (hW : wd D cy B σ H) (hS : va_S (AB B) s.heap H locs) (hl : lv_has ls 4 (lvL b B ii)) (nx : LN p l e s m below meth c b D cy B cells slots ii Q) : W p l e room_1 s m #[Value.ref b] below meth c H locs cells slots Q (F0 m 794 ls []) := by
  obtain ⟨hx, hb, hml, hown, hts, hK, hX, hbl, hbA, hL, hcs⟩ := hE
  have hRf : 10 ≤ room_1.frames := Nat.le_of_ble_eq_true rfl
  have hRl : 350 ≤ room_1.locals := Nat.le_of_ble_eq_true rfl
  have hl : lv_has ls 4 [(3, .int (iI ((ii : Nat) : Int))), (2, .ref (B + 202)), (1, .ref (B + 0)), (0, .ref b)] := hl
  obtain ⟨h_, hv0⟩ : ∃ v : Int, v = (xs (ii + 1)).toInt := ⟨_, rfl⟩
  have rv0 : -2147483648 ≤ h_ ∧ h_ < 2147483648 := by rw [hv0]; exact iI_bd _
  obtain ⟨t_, hv1⟩ : ∃ v : Int, v = (xs (ii + 2)).toInt := ⟨_, rfl⟩
  have rv1 : -2147483648 ≤ t_ ∧ t_ < 2147483648 := by rw [hv1]; exact iI_bd _
  obtain ⟨i_, hv2⟩ : ∃ v : Int, v = (xs (ii + 3)).toInt := ⟨_, rfl⟩
  have rv2 : -2147483648 ≤ i_ ∧ i_ < 2147483648 := by rw [hv2]; exact iI_bd _
  obtain ⟨m_, hv3⟩ : ∃ v : Int, v = (xs (ii + 4)).toInt := ⟨_, rfl⟩
  have rv3 : -2147483648 ≤ m_ ∧ m_ < 2147483648 := by rw [hv3]; exact iI_bd _
  obtain ⟨w_, hv4⟩ : ∃ v : Int, v = (xs (ii + 5)).toInt := ⟨_, rfl⟩
  have rv4 : -2147483648 ≤ w_ ∧ w_ < 2147483648 := by rw [hv4]; exact iI_bd _
  refine lv_aload_n hx hb dL_law_794 rfl (lv_at hl 2 rfl) ?_
  refine lv_aload_n hx hb dL_law_795 rfl (lv_at hl 3 rfl) ?_
  refine lv_iload_n hx hb dL_law_796 rfl (lv_at hl 0 rfl) ?_
  refine zi_con hx hb dL_law_797 ?_
  refine zi_add hx hb dL_law_798 ?_
  refine lx_ld hx hb hX hbl hbA hS hv0 (by omega) (by omega) hL dL_law_799 ?_
  refine lv_aload_n hx hb dL_law_800 rfl (lv_at hl 3 rfl) ?_
  refine lv_iload_n hx hb dL_law_801 rfl (lv_at hl 0 rfl) ?_
  refine zi_con hx hb dL_law_802 ?_
  refine zi_add hx hb dL_law_803 ?_
  refine lx_ld hx hb hX hbl hbA hS hv1 (by omega) (by omega) hL dL_law_804 ?_
  refine lv_aload_n hx hb dL_law_805 rfl (lv_at hl 3 rfl) ?_
  refine lv_iload_n hx hb dL_law_806 rfl (lv_at hl 0 rfl) ?_
  refine zi_con hx hb dL_law_807 ?_
  refine zi_add hx hb dL_law_808 ?_
  refine lx_ld hx hb hX hbl hbA hS hv2 (by omega) (by omega) hL dL_law_809 ?_
  refine lv_aload_n hx hb dL_law_810 rfl (lv_at hl 3 rfl) ?_
  refine lv_iload_n hx hb dL_law_811 rfl (lv_at hl 0 rfl) ?_
  refine zi_con hx hb dL_law_812 ?_
  refine zi_add hx hb dL_law_813 ?_
  refine lx_ld hx hb hX hbl hbA hS hv3 (by omega) (by omega) hL dL_law_814 ?_
  refine lv_aload_n hx hb dL_law_815 rfl (lv_at hl 3 rfl) ?_
  refine lv_iload_n hx hb dL_law_816 rfl (lv_at hl 0 rfl) ?_
  refine zi_con hx hb dL_law_817 ?_
  refine zi_add hx hb dL_law_818 ?_
  refine lx_ld hx hb hX hbl hbA hS hv4 (by omega) (by omega) hL dL_law_819 ?_
  refine k_vie (fr := 10) (lo := 350) (r := (if ¬ (0 ≤ h_ ∧ h_ ≤ σ 18 4 - 1) ∨ ¬ (0 ≤ t_ ∧ t_ ≤ 7) ∨ ¬ (1 ≤ m_ ∧ m_ ≤ 12) ∨ ¬ (0 ≤ w_ ∧ w_ ≤ 1) then -1000001 else if σ (30 + 2 * t_.toNat) 1 = -1 then -1000011 else if 0 ≤ i_ ∧ i_ ≤ σ (30 + 2 * t_.toNat) 2 - m_ then (if w_ = 0 then mcd (lvP (σ 18) h_.toNat (fun h => σ (30 + 2 * t_.toNat + 1) (i_.toNat + h)) m_.toNat) 10 else mld (lvP (σ 18) h_.toNat (fun h => σ (30 + 2 * t_.toNat + 1) (i_.toNat + h)) m_.toNat) 10) else -1000012)) (As := [.int (iI h_), .int (iI t_), .int (iI i_), .int (iI m_), .int (iI w_)]) (rest := []) hx hb hml hown hts hK hRf hRl hW hS (c_X11_loves l D cy B σ h_ t_ i_ m_ w_ rv0 rv1 rv2 rv3 rv4 hR.o18 hR.ln hR.sz hR.bi hR.m18) vX11_loves ⟨w_655, w_656⟩ w_654 (by decide) e_0 rfl ⟨Nat.le_of_ble_eq_true rfl, Nat.le_of_ble_eq_true rfl⟩ hl.1 rfl (Nat.le_of_ble_eq_true rfl) hcs dL_law_820 (fun τ H locs hτ hW hS => ?_)
  obtain ⟨T_, h1⟩ := hτ
  obtain ⟨σ1, hs1⟩ : ∃ σ1 : Sg, σ1 = τ := ⟨_, rfl⟩
  rw [← hs1] at hW h1
  obtain ⟨pm0, pm1, pm2, pm3, heq, hR2⟩ := q_loves hR h_ t_ i_ m_ w_ T_ h1
  refine lv_aload_n hx hb dL_law_823 rfl (lv_at hl 1 rfl) ?_
  refine lv_aload_n hx hb dL_law_824 rfl (lv_at hl 3 rfl) ?_
  refine lv_iload_n hx hb dL_law_825 rfl (lv_at hl 0 rfl) ?_
  refine zi_con hx hb dL_law_826 ?_
  refine zi_add hx hb dL_law_827 ?_
  refine lx_ld hx hb hX hbl hbA hS hv0 (by omega) (by omega) hL dL_law_828 ?_
  refine lv_aload_n hx hb dL_law_829 rfl (lv_at hl 3 rfl) ?_
  refine lv_iload_n hx hb dL_law_830 rfl (lv_at hl 0 rfl) ?_
  refine zi_con hx hb dL_law_831 ?_
  refine zi_add hx hb dL_law_832 ?_
  refine lx_ld hx hb hX hbl hbA hS hv1 (by omega) (by omega) hL dL_law_833 ?_
  refine lv_aload_n hx hb dL_law_834 rfl (lv_at hl 3 rfl) ?_
  refine lv_iload_n hx hb dL_law_835 rfl (lv_at hl 0 rfl) ?_
  refine zi_con hx hb dL_law_836 ?_
  refine zi_add hx hb dL_law_837 ?_
  refine lx_ld hx hb hX hbl hbA hS hv2 (by omega) (by omega) hL dL_law_838 ?_
  refine lv_aload_n hx hb dL_law_839 rfl (lv_at hl 3 rfl) ?_
  refine lv_iload_n hx hb dL_law_840 rfl (lv_at hl 0 rfl) ?_
  refine zi_con hx hb dL_law_841 ?_
  refine zi_add hx hb dL_law_842 ?_
  refine lx_ld hx hb hX hbl hbA hS hv3 (by omega) (by omega) hL dL_law_843 ?_
  refine lv_aload_n hx hb dL_law_844 rfl (lv_at hl 3 rfl) ?_
  refine lv_iload_n hx hb dL_law_845 rfl (lv_at hl 0 rfl) ?_
  refine zi_con hx hb dL_law_846 ?_
  refine zi_add hx hb dL_law_847 ?_
  refine lx_ld hx hb hX hbl hbA hS hv4 (by omega) (by omega) hL dL_law_848 ?_
  refine k_vi (fr := 10) (lo := 350) (r := (if ¬ (0 ≤ h_ ∧ h_ ≤ σ1 206 4 - 1) ∨ ¬ (0 ≤ t_ ∧ t_ ≤ 7) ∨ ¬ (1 ≤ m_ ∧ m_ ≤ 12) ∨ ¬ (0 ≤ w_ ∧ w_ ≤ 1) then -1000001 else if σ1 204 t_.toNat < 0 then -1000011 else if 0 ≤ i_ ∧ i_ ≤ σ1 204 t_.toNat - m_ then (if w_ = 0 then mcd (lvP (σ1 206) h_.toNat (fun h => σ1 205 (40 * t_.toNat + i_.toNat + h)) m_.toNat) 10 else mld (lvP (σ1 206) h_.toNat (fun h => σ1 205 (40 * t_.toNat + i_.toNat + h)) m_.toNat) 10) else -1000012)) (σ' := (if ¬ (0 ≤ h_ ∧ h_ ≤ σ1 206 4 - 1) ∨ ¬ (0 ≤ t_ ∧ t_ ≤ 7) ∨ ¬ (1 ≤ m_ ∧ m_ ≤ 12) ∨ ¬ (0 ≤ w_ ∧ w_ ≤ 1) then σ1 else if σ1 204 t_.toNat < 0 then up σ1 202 3 1 else if 0 ≤ i_ ∧ i_ ≤ σ1 204 t_.toNat - m_ then up (us σ1 212 (σ1 206)) 202 3 0 else up σ1 202 3 2)) (As := [.int (iI h_), .int (iI t_), .int (iI i_), .int (iI m_), .int (iI w_)]) (rest := [.int (iI (if ¬ (0 ≤ h_ ∧ h_ ≤ σ 18 4 - 1) ∨ ¬ (0 ≤ t_ ∧ t_ ≤ 7) ∨ ¬ (1 ≤ m_ ∧ m_ ≤ 12) ∨ ¬ (0 ≤ w_ ∧ w_ ≤ 1) then -1000001 else if σ (30 + 2 * t_.toNat) 1 = -1 then -1000011 else if 0 ≤ i_ ∧ i_ ≤ σ (30 + 2 * t_.toNat) 2 - m_ then (if w_ = 0 then mcd (lvP (σ 18) h_.toNat (fun h => σ (30 + 2 * t_.toNat + 1) (i_.toNat + h)) m_.toNat) 10 else mld (lvP (σ 18) h_.toNat (fun h => σ (30 + 2 * t_.toNat + 1) (i_.toNat + h)) m_.toNat) 10) else -1000012))]) hx hb hml hown hts hK hRf hRl hW hS (c_X12_loves l D cy B σ1 h_ t_ i_ m_ w_ rv0 rv1 rv2 rv3 rv4 pm0 pm1 pm2 pm3) vX12_loves ⟨w_1109, w_1110⟩ w_1108 (by decide) e_202 rfl ⟨Nat.le_of_ble_eq_true rfl, Nat.le_of_ble_eq_true rfl⟩ hl.1 rfl (Nat.le_of_ble_eq_true rfl) hcs dL_law_849 (fun H locs hW hS => ?_)
  refine lv_icmp_eq (tgt := 1214) hx hb dL_law_852 (by decide) (fun _ => ?_) (fun hne => absurd (congrArg iI heq) hne)
  exact nx _ _ _ _ hR2 hW hS hl
set_option maxHeartbeats 1000000 in
theorem lc_map {p : Program} {l : Launch} {e : Env} {s : State} {m : MethodId} {below : List Frame} {meth : Method} {c : Code} {b L : Nat} {xs : Nat → Int32} {D : va_G} {cy : Nat → ClassId} {B cells slots ii : Nat} {Q : State → Prop} {σ : Sg} {H : Heap} {locs : List Loc} {ls : Array Slot} (hE : LE p s m c b L xs D cy B cells slots) (hi : ii + 6 ≤ L) (hR : Rel σ) (hW : wd D cy B σ H) (hS : va_S (AB B) s.heap H locs) (hl : lv_has ls 4 (lvL b B ii)) (nx : LN p l e s m below meth c b D cy B cells slots ii Q) : W p l e room_1 s m #[Value.ref b] below meth c H locs cells slots Q (F0 m 857 ls []) := by
  obtain ⟨hx, hb, hml, hown, hts, hK, hX, hbl, hbA, hL, hcs⟩ := hE
  have hRf : 10 ≤ room_1.frames := Nat.le_of_ble_eq_true rfl
  have hRl : 350 ≤ room_1.locals := Nat.le_of_ble_eq_true rfl
  have hl : lv_has ls 4 [(3, .int (iI ((ii : Nat) : Int))), (2, .ref (B + 202)), (1, .ref (B + 0)), (0, .ref b)] := hl
  obtain ⟨t_, hv0⟩ : ∃ v : Int, v = (xs (ii + 1)).toInt := ⟨_, rfl⟩
  have rv0 : -2147483648 ≤ t_ ∧ t_ < 2147483648 := by rw [hv0]; exact iI_bd _
  obtain ⟨i_, hv1⟩ : ∃ v : Int, v = (xs (ii + 2)).toInt := ⟨_, rfl⟩
  have rv1 : -2147483648 ≤ i_ ∧ i_ < 2147483648 := by rw [hv1]; exact iI_bd _
  refine lv_aload_n hx hb dL_law_857 rfl (lv_at hl 2 rfl) ?_
  refine lv_aload_n hx hb dL_law_858 rfl (lv_at hl 3 rfl) ?_
  refine lv_iload_n hx hb dL_law_859 rfl (lv_at hl 0 rfl) ?_
  refine zi_con hx hb dL_law_860 ?_
  refine zi_add hx hb dL_law_861 ?_
  refine lx_ld hx hb hX hbl hbA hS hv0 (by omega) (by omega) hL dL_law_862 ?_
  refine lv_aload_n hx hb dL_law_863 rfl (lv_at hl 3 rfl) ?_
  refine lv_iload_n hx hb dL_law_864 rfl (lv_at hl 0 rfl) ?_
  refine zi_con hx hb dL_law_865 ?_
  refine zi_add hx hb dL_law_866 ?_
  refine lx_ld hx hb hX hbl hbA hS hv1 (by omega) (by omega) hL dL_law_867 ?_
  refine k_vie (fr := 10) (lo := 350) (r := (if σ 18 4 = 0 then -1000002 else if ¬ (0 ≤ t_ ∧ t_ ≤ 7) then -1000001 else if σ (30 + 2 * t_.toNat) 1 = -1 then -1000011 else if 0 ≤ i_ ∧ i_ ≤ σ (30 + 2 * t_.toNat) 2 - σ 18 4 then bt (mpP (σ 18) (fun h => σ (30 + 2 * t_.toNat + 1) (i_.toNat + h))) 4 else -1000012)) (As := [.int (iI t_), .int (iI i_)]) (rest := []) hx hb hml hown hts hK hRf hRl hW hS (c_X11_map l D cy B σ t_ i_ rv0 rv1 hR.o18 hR.ln hR.sz hR.bi) vX11_map ⟨w_663, w_664⟩ w_662 (by decide) e_0 rfl ⟨Nat.le_of_ble_eq_true rfl, Nat.le_of_ble_eq_true rfl⟩ hl.1 rfl (Nat.le_of_ble_eq_true rfl) hcs dL_law_868 (fun τ H locs hτ hW hS => ?_)
  obtain ⟨S_, h1⟩ := hτ
  obtain ⟨σ1, hs1⟩ : ∃ σ1 : Sg, σ1 = τ := ⟨_, rfl⟩
  rw [← hs1] at hW h1
  obtain ⟨pm0, pm1, pm2, pm3, heq, hR2⟩ := q_map hR t_ i_ S_ h1
  refine lv_aload_n hx hb dL_law_871 rfl (lv_at hl 1 rfl) ?_
  refine lv_aload_n hx hb dL_law_872 rfl (lv_at hl 3 rfl) ?_
  refine lv_iload_n hx hb dL_law_873 rfl (lv_at hl 0 rfl) ?_
  refine zi_con hx hb dL_law_874 ?_
  refine zi_add hx hb dL_law_875 ?_
  refine lx_ld hx hb hX hbl hbA hS hv0 (by omega) (by omega) hL dL_law_876 ?_
  refine lv_aload_n hx hb dL_law_877 rfl (lv_at hl 3 rfl) ?_
  refine lv_iload_n hx hb dL_law_878 rfl (lv_at hl 0 rfl) ?_
  refine zi_con hx hb dL_law_879 ?_
  refine zi_add hx hb dL_law_880 ?_
  refine lx_ld hx hb hX hbl hbA hS hv1 (by omega) (by omega) hL dL_law_881 ?_
  refine k_vie (fr := 10) (lo := 350) (r := (if σ1 206 4 = 0 then -1000002 else if ¬ (0 ≤ t_ ∧ t_ ≤ 7) then -1000001 else if σ1 204 t_.toNat < 0 then -1000011 else if 0 ≤ i_ ∧ i_ ≤ σ1 204 t_.toNat - σ1 206 4 then bt (mpP (σ1 206) (fun h => σ1 205 (40 * t_.toNat + i_.toNat + h))) 4 else -1000012)) (As := [.int (iI t_), .int (iI i_)]) (rest := [.int (iI (if σ 18 4 = 0 then -1000002 else if ¬ (0 ≤ t_ ∧ t_ ≤ 7) then -1000001 else if σ (30 + 2 * t_.toNat) 1 = -1 then -1000011 else if 0 ≤ i_ ∧ i_ ≤ σ (30 + 2 * t_.toNat) 2 - σ 18 4 then bt (mpP (σ 18) (fun h => σ (30 + 2 * t_.toNat + 1) (i_.toNat + h))) 4 else -1000012))]) hx hb hml hown hts hK hRf hRl hW hS (c_X12_map l D cy B σ1 t_ i_ rv0 rv1 pm0 pm1 pm2 pm3) vX12_map ⟨w_1118, w_1119⟩ w_1117 (by decide) e_202 rfl ⟨Nat.le_of_ble_eq_true rfl, Nat.le_of_ble_eq_true rfl⟩ hl.1 rfl (Nat.le_of_ble_eq_true rfl) hcs dL_law_882 (fun τ H locs hτ hW hS => ?_)
  obtain ⟨g9, h2⟩ := hτ
  have hR3 : Rel τ := by rw [h2]; exact hR2 g9
  refine lv_icmp_eq (tgt := 1214) hx hb dL_law_885 (by decide) (fun _ => ?_) (fun hne => absurd (congrArg iI heq) hne)
  exact nx _ _ _ _ hR3 hW hS hl
