
set_option maxRecDepth 100000 in
set_option maxHeartbeats 4000000 in
theorem c_X6_ownWords (l : Launch) (D : va_G) (cy : Nat → ClassId) (B : Nat) (σ : Sg) (o_ : Nat) (h_ : Nat) (hR : isR o_) (hok : okV (σ o_)) (hh : (h_ : Int) < σ o_ 4) : CI l yX6_ownWords cX6_ownWords 4 (some .int) 1 22 D cy B [.ref (B + o_), .int (iI (((h_ : Nat) : Int)))] σ (own (σ o_) h_) (σ) := by
  refine CI_of (ty := .int) (by decide) (rfl) (Nat.le_of_ble_eq_true rfl) ?_
  intro p e R s m args below meth c Q hx hb hml hown hts hK hRf hRl hW hret ls hl
  have hown : s.vm.findClass "LoveParts$Realm" = some m.cls := hown
  have hS : va_S (AB B) s.heap s.heap [] := va_S.rf
  have hl : lv_has ls 4 [(0, .ref (B + o_)), (1, .int (iI (((h_ : Nat) : Int))))] := hl
  obtain ⟨o4, o0, o1, o2, o3, o5, o6, o7, oH⟩ := id hok
  obtain ⟨k8, k12, k16, k20, k24, k28, k32, k36, k40, k44⟩ := oH h_ hh
  refine zi_con hx hb dX6_ownWords_0 ?_
  refine lv_istore_n (lv' := [(2, .int (iI ((-1)))), (0, .ref (B + o_)), (1, .int (iI (((h_ : Nat) : Int))))]) hx hb dX6_ownWords_1 rfl hl (by decide) rfl (fun ls hl => ?_)
  refine zi_con hx hb dX6_ownWords_2 ?_
  refine lv_istore_n (lv' := [(3, .int (iI (0))), (2, .int (iI ((-1)))), (0, .ref (B + o_)), (1, .int (iI (((h_ : Nat) : Int))))]) hx hb dX6_ownWords_3 rfl hl (by decide) rfl (fun ls hl => ?_)
  have L4 : ∀ (n4 : Nat) (i_ : Nat) (H : Heap) (locs : List Loc) (ls : Array Slot), 4 - i_ < n4 → (i_ ≤ h_) → wd D cy B σ H → va_S (AB B) s.heap H locs → lv_has ls 4 [(3, .int (iI (((i_ : Nat) : Int)))), (2, .int (iI (near (σ o_) i_))), (0, .ref (B + o_)), (1, .int (iI (((h_ : Nat) : Int))))] → W p l e R s m args below meth c H locs 0 0 Q (F0 m 4 ls []) := by
    intro n4
    induction n4 with
    | zero => intro i_ H locs ls hms; omega
    | succ n4 ih4 =>
      intro i_ H locs ls hms4 hi hW hS hl
      refine lv_iload_n hx hb dX6_ownWords_4 rfl (lv_at hl 0 rfl) ?_
      refine lv_iload_n hx hb dX6_ownWords_5 rfl (lv_at hl 3 rfl) ?_
      refine zi_cge (tgt := 37) hx hb dX6_ownWords_6 (by decide) (by omega) (by omega) (fun c6 => ?_) (fun c6 => ?_)
      · have hin : i_ = h_ := by omega
        have hnr := okH_near hok (h := i_) (by omega)
        refine lv_aload_n hx hb dX6_ownWords_37 rfl (lv_at hl 2 rfl) ?_
        refine wz_get hx hb hts hown hK hW o_ 0 (lt_R hR) (e_R hR) rfl (by decide) inG6 w_244 rfl rfl dX6_ownWords_38 ?_
        refine lv_iload_n hx hb dX6_ownWords_41 rfl (lv_at hl 3 rfl) ?_
        refine wz_ara hx hb hK hW (o_ + 1) h_ 2 (lt_Ra hR) (e_Ra hR) rfl (by omega) (by omega) (by decide) rfl dX6_ownWords_42 ?_
        refine lv_astore_n (lv' := [(3, .ref (B + (o_ + 2 + h_))), (2, .int (iI (near (σ o_) i_))), (0, .ref (B + o_)), (1, .int (iI (((h_ : Nat) : Int))))]) hx hb dX6_ownWords_43 rfl hl (by decide) rfl (fun ls hl => ?_)
        refine lv_aload_n hx hb dX6_ownWords_44 rfl (lv_at hl 0 rfl) ?_
        refine wz_get hx hb hts hown hK hW (o_ + 2 + h_) 1 (lt_H hR (by omega)) (e_H hR (by omega)) rfl (by decide) inG0 w_184 rfl rfl dX6_ownWords_45 ?_
        refine lv_aload_n hx hb dX6_ownWords_48 rfl (lv_at hl 0 rfl) ?_
        refine lv_iload_n hx hb dX6_ownWords_49 rfl (lv_at hl 1 rfl) ?_
        refine k_own (fr := 1) (lo := 22) (o := o_) (h := h_) (n := near (σ o_) i_) hx hb hml hown hts hK hRf hRl hW hS hR (by omega) (by omega) (by omega) ⟨Nat.le_of_ble_eq_true rfl, Nat.le_of_ble_eq_true rfl⟩ hl.1 ⟨Nat.zero_le _, Nat.zero_le _⟩ dX6_ownWords_50 (fun H locs hW hS => ?_)
        have hoN : -20 ≤ ownN (σ o_ (8 + h_)) (σ o_ (12 + h_)) (σ o_ (16 + h_)) (near (σ o_) i_) ∧ ownN (σ o_ (8 + h_)) (σ o_ (12 + h_)) (σ o_ (16 + h_)) (near (σ o_) i_) ≤ 20 := by unfold ownN; (repeat' split) <;> omega
        refine zi_bip hx hb dX6_ownWords_53 (by decide) ?_
        refine k_min hx hb hml hown hts hl.1 w_510 ⟨w_511, w_67, w_512⟩ (by omega) (Nat.le_trans (Nat.le_of_ble_eq_true rfl) hRl) ⟨Nat.zero_le _, Nat.zero_le _⟩ (by omega) (by omega) dX6_ownWords_55 ?_
        exact hret _ _ _ _ _ _ dX6_ownWords_58 hW hS ⟨by unfold own ownN; rw [hin] at *; (repeat' split) <;> omega, rfl⟩
      · have hki := oH i_ (by omega)
        unfold okH at hki
        refine lv_aload_n hx hb dX6_ownWords_9 rfl (lv_at hl 2 rfl) ?_
        refine wz_get hx hb hts hown hK hW o_ 0 (lt_R hR) (e_R hR) rfl (by decide) inG6 w_244 rfl rfl dX6_ownWords_10 ?_
        refine lv_iload_n hx hb dX6_ownWords_13 rfl (lv_at hl 0 rfl) ?_
        refine wz_ara hx hb hK hW (o_ + 1) i_ 2 (lt_Ra hR) (e_Ra hR) rfl (by omega) (by omega) (by decide) rfl dX6_ownWords_14 ?_
        refine wz_get hx hb hts hown hK hW (o_ + 2 + i_) 4 (lt_H hR (by omega)) (e_H hR (by omega)) rfl (by decide) inG0 w_202 rfl rfl dX6_ownWords_15 ?_
        refine zi_eq (tgt := 31) hx hb dX6_ownWords_18 (by decide) (by omega) (fun c18 => ?_) (fun c18 => ?_)
        · refine lv_iinc (v := iI (((i_ : Nat) : Int) + 1)) (lv' := [(3, .int (iI (((i_ : Nat) : Int) + 1))), (2, .int (iI (near (σ o_) i_))), (0, .ref (B + o_)), (1, .int (iI (((h_ : Nat) : Int))))]) hx hb dX6_ownWords_31 hl (k := 0) rfl (iI_add _ _) (by decide) rfl (fun ls hl => ?_)
          refine lv_goto (tgt := 4) hx hb dX6_ownWords_34 (by decide) ?_
          have e3 : near (σ o_) (i_ + 1) = (if σ o_ (20 + i_) = 1 then σ o_ (24 + i_) else near (σ o_) i_) := rfl
          first | (rw [if_pos (by omega)] at e3) | (rw [if_neg (by omega)] at e3)
          exact ih4 (i_ + 1) _ _ _ (by omega) (by omega) hW hS (lv_sub hl [0, 1, 2, 3] (by rw [e3]; rfl))
        · refine lv_aload_n hx hb dX6_ownWords_21 rfl (lv_at hl 2 rfl) ?_
          refine wz_get hx hb hts hown hK hW o_ 0 (lt_R hR) (e_R hR) rfl (by decide) inG6 w_244 rfl rfl dX6_ownWords_22 ?_
          refine lv_iload_n hx hb dX6_ownWords_25 rfl (lv_at hl 0 rfl) ?_
          refine wz_ara hx hb hK hW (o_ + 1) i_ 2 (lt_Ra hR) (e_Ra hR) rfl (by omega) (by omega) (by decide) rfl dX6_ownWords_26 ?_
          refine wz_get hx hb hts hown hK hW (o_ + 2 + i_) 5 (lt_H hR (by omega)) (e_H hR (by omega)) rfl (by decide) inG0 w_205 rfl rfl dX6_ownWords_27 ?_
          refine lv_istore_n (lv' := [(2, .int (iI (σ o_ (24 + i_)))), (3, .int (iI (((i_ : Nat) : Int)))), (0, .ref (B + o_)), (1, .int (iI (((h_ : Nat) : Int))))]) hx hb dX6_ownWords_30 rfl hl (by decide) rfl (fun ls hl => ?_)
          refine lv_iinc (v := iI (((i_ : Nat) : Int) + 1)) (lv' := [(3, .int (iI (((i_ : Nat) : Int) + 1))), (2, .int (iI (σ o_ (24 + i_)))), (0, .ref (B + o_)), (1, .int (iI (((h_ : Nat) : Int))))]) hx hb dX6_ownWords_31 hl (k := 1) rfl (iI_add _ _) (by decide) rfl (fun ls hl => ?_)
          refine lv_goto (tgt := 4) hx hb dX6_ownWords_34 (by decide) ?_
          have e3 : near (σ o_) (i_ + 1) = (if σ o_ (20 + i_) = 1 then σ o_ (24 + i_) else near (σ o_) i_) := rfl
          first | (rw [if_pos (by omega)] at e3) | (rw [if_neg (by omega)] at e3)
          exact ih4 (i_ + 1) _ _ _ (by omega) (by omega) hW hS (lv_sub hl [0, 1, 2, 3] (by rw [e3]; rfl))
  exact L4 _ 0 _ _ _ (Nat.lt_succ_self _) (by omega) hW hS (lv_sub hl [0, 1, 2, 3] rfl)

set_option maxRecDepth 100000 in
set_option maxHeartbeats 4000000 in
theorem c_X6_says (l : Launch) (D : va_G) (cy : Nat → ClassId) (B : Nat) (σ : Sg) (o_ : Nat) (h_ : Nat) (hR : isR o_) (hok : okV (σ o_)) (hh : (h_ : Int) < σ o_ 4) : CI l yX6_says cX6_says 2 (some .int) 2 45 D cy B [.ref (B + o_), .int (iI (((h_ : Nat) : Int)))] σ (says (σ o_) h_) (σ) := by
  refine CI_of (ty := .int) (by decide) (rfl) (Nat.le_of_ble_eq_true rfl) ?_
  intro p e R s m args below meth c Q hx hb hml hown hts hK hRf hRl hW hret ls hl
  have hown : s.vm.findClass "LoveParts$Realm" = some m.cls := hown
  have hS : va_S (AB B) s.heap s.heap [] := va_S.rf
  have hl : lv_has ls 2 [(0, .ref (B + o_)), (1, .int (iI (((h_ : Nat) : Int))))] := hl
  obtain ⟨o4, o0, o1, o2, o3, o5, o6, o7, oH⟩ := id hok
  obtain ⟨k8, k12, k16, k20, k24, k28, k32, k36, k40, k44⟩ := oH h_ hh
  refine lv_aload_n hx hb dX6_says_0 rfl (lv_at hl 0 rfl) ?_
  refine wz_get hx hb hts hown hK hW o_ 0 (lt_R hR) (e_R hR) rfl (by decide) inG6 w_244 rfl rfl dX6_says_1 ?_
  refine lv_iload_n hx hb dX6_says_4 rfl (lv_at hl 1 rfl) ?_
  refine wz_ara hx hb hK hW (o_ + 1) h_ 2 (lt_Ra hR) (e_Ra hR) rfl (by omega) (by omega) (by decide) rfl dX6_says_5 ?_
  refine wz_get hx hb hts hown hK hW (o_ + 2 + h_) 4 (lt_H hR (by omega)) (e_H hR (by omega)) rfl (by decide) inG0 w_202 rfl rfl dX6_says_6 ?_
  refine zi_eq (tgt := 24) hx hb dX6_says_9 (by decide) (by omega) (fun c9 => ?_) (fun c9 => ?_)
  · refine lv_aload_n hx hb dX6_says_24 rfl (lv_at hl 0 rfl) ?_
    refine lv_iload_n hx hb dX6_says_25 rfl (lv_at hl 1 rfl) ?_
    refine k_vi (fr := 2) (lo := 45) (r := own (σ o_) h_) (As := [.int (iI (((h_ : Nat) : Int)))]) (rest := []) hx hb hml hown hts hK hRf hRl hW hS (c_X6_ownWords l D cy B σ o_ h_ (show isR o_ from (by first | assumption | omega | (simp only [tpL_25, List.length_cons, List.length_nil]; omega))) (show okV (σ o_) from (by first | assumption | omega | (simp only [tpL_25, List.length_cons, List.length_nil]; omega))) (show (h_ : Int) < σ o_ 4 from (by first | assumption | omega | (simp only [tpL_25, List.length_cons, List.length_nil]; omega)))) vX6_ownWords ⟨w_489, w_490⟩ w_542 (lt_R hR) (e_R hR) rfl ⟨Nat.le_of_ble_eq_true rfl, Nat.le_of_ble_eq_true rfl⟩ hl.1 rfl (Nat.le_of_ble_eq_true rfl) ⟨Nat.zero_le _, Nat.zero_le _⟩ dX6_says_26 (fun H locs hW hS => ?_)
    exact hret _ _ _ _ _ _ dX6_says_29 hW hS ⟨by unfold says; first | (rw [if_pos (by omega)]) | (rw [if_neg (by omega)]), rfl⟩
  · refine lv_aload_n hx hb dX6_says_12 rfl (lv_at hl 0 rfl) ?_
    refine wz_get hx hb hts hown hK hW o_ 0 (lt_R hR) (e_R hR) rfl (by decide) inG6 w_244 rfl rfl dX6_says_13 ?_
    refine lv_iload_n hx hb dX6_says_16 rfl (lv_at hl 1 rfl) ?_
    refine wz_ara hx hb hK hW (o_ + 1) h_ 2 (lt_Ra hR) (e_Ra hR) rfl (by omega) (by omega) (by decide) rfl dX6_says_17 ?_
    refine wz_get hx hb hts hown hK hW (o_ + 2 + h_) 5 (lt_H hR (by omega)) (e_H hR (by omega)) rfl (by decide) inG0 w_205 rfl rfl dX6_says_18 ?_
    refine lv_goto (tgt := 29) hx hb dX6_says_21 (by decide) ?_
    exact hret _ _ _ _ _ _ dX6_says_29 hW hS ⟨by unfold says; first | (rw [if_pos (by omega)]) | (rw [if_neg (by omega)]), rfl⟩
