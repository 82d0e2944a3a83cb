
set_option maxRecDepth 100000 in
set_option maxHeartbeats 4000000 in
theorem c_X6_weigh (l : Launch) (D : va_G) (cy : Nat → ClassId) (B : Nat) (σ : Sg) (o_ : Nat) (b_ : Int) (a_ : Nat) (hR : isR o_) (hok : okV (σ o_)) (ha : a_ = 9 ∨ a_ = 10) (hb2 : 0 ≤ b_ ∧ b_ ≤ 3) : CV l yX6_weigh cX6_weigh 4 3 66 D cy B [.ref (B + o_), .int (iI (b_)), .ref (B + a_)] σ (us σ a_ (cpy (mn (σ o_)) (wt (σ o_) b_) (σ a_))) := by
  refine CV_of (by decide) (Nat.le_of_ble_eq_true rfl) ?_
  intro p e R s m args below meth c Q hx hb hml hown hts hK hRf hRl hW hret ls hl
  have hown : s.vm.findClass "LoveParts$Realm" = some m.cls := hown
  have hS : va_S (AB B) s.heap s.heap [] := va_S.rf
  have hl : lv_has ls 4 [(0, .ref (B + o_)), (1, .int (iI (b_))), (2, .ref (B + a_))] := hl
  obtain ⟨o4, o0, o1, o2, o3, o5, o6, o7, oH⟩ := id hok
  have hne : o_ ≠ a_ := by rcases hR with (h | h) | ⟨i, _, h⟩ <;> omega
  refine zi_con hx hb dX6_weigh_0 ?_
  refine lv_istore_n (lv' := [(3, .int (iI (0))), (0, .ref (B + o_)), (1, .int (iI (b_))), (2, .ref (B + a_))]) hx hb dX6_weigh_1 rfl hl (by decide) rfl (fun ls hl => ?_)
  have L2 : ∀ (n2 : Nat) (k_ : Nat) (H : Heap) (locs : List Loc) (ls : Array Slot), 4 - k_ < n2 → ((k_ : Int) ≤ σ o_ 4) → wd D cy B (us σ a_ (cpy k_ (wt (σ o_) b_) (σ a_))) H → va_S (AB B) s.heap H locs → lv_has ls 4 [(3, .int (iI (((k_ : Nat) : Int)))), (0, .ref (B + o_)), (1, .int (iI (b_))), (2, .ref (B + a_))] → W p l e R s m args below meth c H locs 0 0 Q (F0 m 2 ls []) := by
    intro n2
    induction n2 with
    | zero => intro k_ H locs ls hms; omega
    | succ n2 ih2 =>
      intro k_ H locs ls hms2 hk hW hS hl
      refine lv_iload_n hx hb dX6_weigh_2 rfl (lv_at hl 0 rfl) ?_
      refine lv_aload_n hx hb dX6_weigh_3 rfl (lv_at hl 1 rfl) ?_
      refine wz_get hx hb hts hown hK hW o_ 1 (lt_R hR) (e_R hR) rfl (by decide) inG6 w_247 rfl rfl dX6_weigh_4 ?_
      refine zi_top (y := σ o_ 4) (by rw [us_ne _ _ hne]) ?_
      refine zi_cge (tgt := 37) hx hb dX6_weigh_7 (by decide) (by omega) (by omega) (fun c7 => ?_) (fun c7 => ?_)
      · exact hret _ _ _ _ _ dX6_weigh_37 hW hS (by rw [show mn (σ o_) = k_ from by unfold mn; omega])
      · have hki := says_bd hok (h := k_) (by omega)
        have hkk := oH k_ (by omega)
        unfold okH at hkk
        refine lv_aload_n hx hb dX6_weigh_10 rfl (lv_at hl 3 rfl) ?_
        refine lv_iload_n hx hb dX6_weigh_11 rfl (lv_at hl 0 rfl) ?_
        refine lv_aload_n hx hb dX6_weigh_12 rfl (lv_at hl 1 rfl) ?_
        refine lv_iload_n hx hb dX6_weigh_13 rfl (lv_at hl 0 rfl) ?_
        refine k_vi (fr := 3) (lo := 66) (r := says ((us σ a_ (cpy k_ (wt (σ o_) b_) (σ a_))) o_) k_) (As := [.int (iI (((k_ : Nat) : Int)))]) (rest := [.int (iI (((k_ : Nat) : Int))), .ref (B + a_)]) hx hb hml hown hts hK hRf hRl hW hS (c_X6_says l D cy B (us σ a_ (cpy k_ (wt (σ o_) b_) (σ a_))) o_ k_ (show isR o_ from (by first | assumption | omega | (simp only [tpL_25, List.length_cons, List.length_nil]; omega))) (show okV ((us σ a_ (cpy k_ (wt (σ o_) b_) (σ a_))) o_) from (by rw [us_ne _ _ hne]; exact hok)) (show (k_ : Int) < (us σ a_ (cpy k_ (wt (σ o_) b_) (σ a_))) o_ 4 from (by rw [us_ne _ _ hne]; omega))) vX6_says ⟨w_539, w_540⟩ w_538 (lt_R hR) (e_R hR) rfl ⟨Nat.le_of_ble_eq_true rfl, Nat.le_of_ble_eq_true rfl⟩ hl.1 rfl (Nat.le_of_ble_eq_true rfl) ⟨Nat.zero_le _, Nat.zero_le _⟩ dX6_weigh_14 (fun H locs hW hS => ?_)
        refine zi_top (y := says (σ o_) k_) (by rw [us_ne _ _ hne]) ?_
        refine lv_aload_n hx hb dX6_weigh_17 rfl (lv_at hl 1 rfl) ?_
        refine wz_get hx hb hts hown hK hW o_ 0 (lt_R hR) (e_R hR) rfl (by decide) inG6 w_244 rfl rfl dX6_weigh_18 ?_
        refine lv_iload_n hx hb dX6_weigh_21 rfl (lv_at hl 0 rfl) ?_
        refine wz_ara hx hb hK hW (o_ + 1) k_ 2 (lt_Ra hR) (e_Ra hR) rfl (by omega) (by omega) (by decide) rfl dX6_weigh_22 ?_
        refine wz_get hx hb hts hown hK hW (o_ + 2 + k_) 6 (lt_H hR (by omega)) (e_H hR (by omega)) rfl (by decide) inG0 w_208 rfl rfl dX6_weigh_23 ?_
        refine zi_top (y := σ o_ (28 + k_)) (by rw [us_ne _ _ hne]) ?_
        refine lv_iload_n hx hb dX6_weigh_26 rfl (lv_at hl 2 rfl) ?_
        refine k_si (fr := 3) (lo := 66) (r := if b_ = 1 then (says (σ o_) k_) + (σ o_ (28 + k_)) + 1 else if b_ = 2 then 1 else if b_ = 3 then 18 - (says (σ o_) k_) + 1 else (says (σ o_) k_) + 1) (As := [.int (iI (says (σ o_) k_)), .int (iI (σ o_ (28 + k_))), .int (iI (b_))]) (rest := [.int (iI (((k_ : Nat) : Int))), .ref (B + a_)]) hx hb hml hown hts hK hRf hRl hW hS (c_X6_weight l D cy B (us σ a_ (cpy k_ (wt (σ o_) b_) (σ a_))) (says (σ o_) k_) (σ o_ (28 + k_)) b_ (show 0 ≤ b_ ∧ b_ ≤ 3 from (by first | assumption | omega | (simp only [tpL_25, List.length_cons, List.length_nil]; omega)))) vX6_weight w_544 w_543 ⟨Nat.le_of_ble_eq_true rfl, Nat.le_of_ble_eq_true rfl⟩ hl.1 rfl (Nat.le_of_ble_eq_true rfl) ⟨Nat.zero_le _, Nat.zero_le _⟩ dX6_weigh_27 (fun H locs hW hS => ?_)
        refine zi_top (y := wt (σ o_) b_ k_) (by unfold wt; (repeat' split) <;> omega) ?_
        refine wz_ast (σ' := (up (us σ a_ (cpy k_ (wt (σ o_) b_) (σ a_))) a_ k_ (wt (σ o_) b_ k_))) hx hb hK hW hS a_ k_ (by omega) (e_4a ha) (by omega) (by omega) (by decide) (p_4a ha) dX6_weigh_30 (fun H locs hW hS => ?_)
        refine lv_iinc (v := iI (((k_ : Nat) : Int) + 1)) (lv' := [(3, .int (iI (((k_ : Nat) : Int) + 1))), (0, .ref (B + o_)), (1, .int (iI (b_))), (2, .ref (B + a_))]) hx hb dX6_weigh_31 hl (k := 0) rfl (iI_add _ _) (by decide) rfl (fun ls hl => ?_)
        refine lv_goto (tgt := 2) hx hb dX6_weigh_34 (by decide) ?_
        exact ih2 (k_ + 1) _ _ _ (by omega) (by omega) (by rw [← up_cpy]; exact hW) hS (lv_sub hl [0, 1, 2, 3] rfl)
  exact L2 _ 0 _ _ _ (Nat.lt_succ_self _) (by omega) (by rw [us_cpy0]; exact hW) hS (lv_sub hl [0, 1, 2, 3] rfl)
