
set_option maxRecDepth 100000 in
set_option maxHeartbeats 4000000 in
theorem c_X11_firstGreatest (l : Launch) (D : va_G) (cy : Nat → ClassId) (B : Nat) (σ : Sg) (a_ : Nat) (n_ : Nat) (ha : a_ = 9 ∨ a_ = 10) (hn : 1 ≤ n_ ∧ n_ ≤ 4) (hbb : ∀ k, k < n_ → -2147483648 ≤ σ a_ k ∧ σ a_ k < 2147483648) : CI l yX11_firstGreatest cX11_firstGreatest 4 (some .int) 0 0 D cy B [.ref (B + a_), .int (iI (((n_ : Nat) : Int)))] σ (((fg (σ a_) n_ : Nat) : Int)) (σ) := by
  refine CI_of (ty := .int) (by decide) (rfl) (Nat.le_of_ble_eq_true rfl) ?_
  intro p e R s m args below meth c Q hx hb hml hown hts hK hRf hRl hW hret ls hl
  have hown : s.vm.findClass "LoveParts" = some m.cls := hown
  have hS : va_S (AB B) s.heap s.heap [] := va_S.rf
  have hl : lv_has ls 4 [(0, .ref (B + a_)), (1, .int (iI (((n_ : Nat) : Int))))] := hl
  refine zi_con hx hb dX11_firstGreatest_0 ?_
  refine lv_istore_n (lv' := [(2, .int (iI (0))), (0, .ref (B + a_)), (1, .int (iI (((n_ : Nat) : Int))))]) hx hb dX11_firstGreatest_1 rfl hl (by decide) rfl (fun ls hl => ?_)
  refine zi_con hx hb dX11_firstGreatest_2 ?_
  refine lv_istore_n (lv' := [(3, .int (iI (1))), (2, .int (iI (0))), (0, .ref (B + a_)), (1, .int (iI (((n_ : Nat) : Int))))]) hx hb dX11_firstGreatest_3 rfl hl (by decide) rfl (fun ls hl => ?_)
  have L4 : ∀ (n4 : Nat) (i_ : Nat) (H : Heap) (locs : List Loc) (ls : Array Slot), 4 - i_ < n4 → (1 ≤ i_ ∧ i_ ≤ n_) → wd D cy B σ H → va_S (AB B) s.heap H locs → lv_has ls 4 [(3, .int (iI (((i_ : Nat) : Int)))), (2, .int (iI (((fg (σ a_) i_ : Nat) : Int)))), (0, .ref (B + a_)), (1, .int (iI (((n_ : Nat) : Int))))] → W p l e R s m args below meth c H locs 0 0 Q (F0 m 4 ls []) := by
    intro n4
    induction n4 with
    | zero => intro i_ H locs ls hms; omega
    | succ n4 ih4 =>
      intro i_ H locs ls hms4 hi hW hS hl
      have hfg := fg_lt (σ a_) (n := i_) (by omega)
      refine lv_iload_n hx hb dX11_firstGreatest_4 rfl (lv_at hl 0 rfl) ?_
      refine lv_iload_n hx hb dX11_firstGreatest_5 rfl (lv_at hl 3 rfl) ?_
      refine zi_cge (tgt := 26) hx hb dX11_firstGreatest_6 (by decide) (by omega) (by omega) (fun c6 => ?_) (fun c6 => ?_)
      · have hin : i_ = n_ := by omega
        refine lv_iload_n hx hb dX11_firstGreatest_26 rfl (lv_at hl 1 rfl) ?_
        exact hret _ _ _ _ _ _ dX11_firstGreatest_27 hW hS ⟨by rw [hin], rfl⟩
      · have hb1 := hbb i_ (by omega)
        have hb2 := hbb (fg (σ a_) i_) (by omega)
        refine lv_aload_n hx hb dX11_firstGreatest_9 rfl (lv_at hl 2 rfl) ?_
        refine lv_iload_n hx hb dX11_firstGreatest_10 rfl (lv_at hl 0 rfl) ?_
        refine wz_ald hx hb hK hW a_ i_ (by omega) (e_4a ha) (by omega) (by omega) (by decide) dX11_firstGreatest_11 ?_
        refine lv_aload_n hx hb dX11_firstGreatest_12 rfl (lv_at hl 2 rfl) ?_
        refine lv_iload_n hx hb dX11_firstGreatest_13 rfl (lv_at hl 1 rfl) ?_
        refine wz_ald hx hb hK hW a_ (fg (σ a_) i_) (by omega) (e_4a ha) (by omega) (by omega) (by decide) dX11_firstGreatest_14 ?_
        refine zi_cle (tgt := 20) hx hb dX11_firstGreatest_15 (by decide) (by omega) (by omega) (fun c15 => ?_) (fun c15 => ?_)
        · refine lv_iinc (v := iI (((i_ : Nat) : Int) + 1)) (lv' := [(3, .int (iI (((i_ : Nat) : Int) + 1))), (2, .int (iI (((fg (σ a_) i_ : Nat) : Int)))), (0, .ref (B + a_)), (1, .int (iI (((n_ : Nat) : Int))))]) hx hb dX11_firstGreatest_20 hl (k := 0) rfl (iI_add _ _) (by decide) rfl (fun ls hl => ?_)
          refine lv_goto (tgt := 4) hx hb dX11_firstGreatest_23 (by decide) ?_
          have e3 : fg (σ a_) (i_ + 1) = (if σ a_ (fg (σ a_) i_) < σ a_ i_ then i_ else fg (σ a_) i_) := rfl
          first | (rw [if_pos (by omega)] at e3) | (rw [if_neg (by omega)] at e3)
          exact ih4 (i_ + 1) _ _ _ (by omega) (by omega) hW hS (lv_sub hl [0, 1, 2, 3] (by rw [e3]; rfl))
        · refine lv_iload_n hx hb dX11_firstGreatest_18 rfl (lv_at hl 0 rfl) ?_
          refine lv_istore_n (lv' := [(2, .int (iI (((i_ : Nat) : Int)))), (3, .int (iI (((i_ : Nat) : Int)))), (0, .ref (B + a_)), (1, .int (iI (((n_ : Nat) : Int))))]) hx hb dX11_firstGreatest_19 rfl hl (by decide) rfl (fun ls hl => ?_)
          refine lv_iinc (v := iI (((i_ : Nat) : Int) + 1)) (lv' := [(3, .int (iI (((i_ : Nat) : Int) + 1))), (2, .int (iI (((i_ : Nat) : Int)))), (0, .ref (B + a_)), (1, .int (iI (((n_ : Nat) : Int))))]) hx hb dX11_firstGreatest_20 hl (k := 1) rfl (iI_add _ _) (by decide) rfl (fun ls hl => ?_)
          refine lv_goto (tgt := 4) hx hb dX11_firstGreatest_23 (by decide) ?_
          have e3 : fg (σ a_) (i_ + 1) = (if σ a_ (fg (σ a_) i_) < σ a_ i_ then i_ else fg (σ a_) i_) := rfl
          first | (rw [if_pos (by omega)] at e3) | (rw [if_neg (by omega)] at e3)
          exact ih4 (i_ + 1) _ _ _ (by omega) (by omega) hW hS (lv_sub hl [0, 1, 2, 3] (by rw [e3]; rfl))
  exact L4 _ 1 _ _ _ (Nat.lt_succ_self _) (by omega) hW hS (lv_sub hl [0, 1, 2, 3] (by rw [fg1]; rfl))

set_option maxRecDepth 100000 in
set_option maxHeartbeats 4000000 in
theorem c_X6_weight (l : Launch) (D : va_G) (cy : Nat → ClassId) (B : Nat) (σ : Sg) (s_ : Int) (p_ : Int) (b_ : Int) (hb2 : 0 ≤ b_ ∧ b_ ≤ 3) : CI l yX6_weight cX6_weight 3 (some .int) 0 0 D cy B [.int (iI (s_)), .int (iI (p_)), .int (iI (b_))] σ (if b_ = 1 then s_ + p_ + 1 else if b_ = 2 then 1 else if b_ = 3 then 18 - s_ + 1 else s_ + 1) (σ) := by
  refine CI_of (ty := .int) (by decide) (rfl) (Nat.le_of_ble_eq_true rfl) ?_
  intro p e R s m args below meth c Q hx hb hml hown hts hK hRf hRl hW hret ls hl
  have hown : s.vm.findClass "LoveParts$Realm" = some m.cls := hown
  have hS : va_S (AB B) s.heap s.heap [] := va_S.rf
  have hl : lv_has ls 3 [(0, .int (iI (s_))), (1, .int (iI (p_))), (2, .int (iI (b_)))] := hl
  refine lv_iload_n hx hb dX6_weight_0 rfl (lv_at hl 2 rfl) ?_
  by_cases hsw1 : b_ < 1 ∨ 3 < b_
  · refine lv_tableOut (tgt := 43) hx hb dX6_weight_1 (by rw [iI_toInt (by omega)]; exact hsw1) (by decide) ?_
    refine lv_iload_n hx hb dX6_weight_43 rfl (lv_at hl 0 rfl) ?_
    refine zi_con hx hb dX6_weight_44 ?_
    refine zi_add hx hb dX6_weight_45 ?_
    exact hret _ _ _ _ _ _ dX6_weight_46 hW hS ⟨by (repeat' split) <;> first | rfl | omega, rfl⟩
  · have hsx1 : b_ = 1 ∨ b_ = 2 ∨ b_ = 3 := by omega
    rcases hsx1 with hs1 | hs1 | hs1
    · refine lv_tableIn (off := 27) (tgt := 28) hx hb dX6_weight_1 (by rw [iI_toInt (by omega)]; omega) (by rw [iI_toInt (by omega)]; omega) (by rw [iI_toInt (by omega), hs1]; rfl) (by decide) ?_
      refine lv_iload_n hx hb dX6_weight_28 rfl (lv_at hl 0 rfl) ?_
      refine lv_iload_n hx hb dX6_weight_29 rfl (lv_at hl 1 rfl) ?_
      refine zi_add hx hb dX6_weight_30 ?_
      refine zi_con hx hb dX6_weight_31 ?_
      refine zi_add hx hb dX6_weight_32 ?_
      exact hret _ _ _ _ _ _ dX6_weight_33 hW hS ⟨by (repeat' split) <;> first | rfl | omega, rfl⟩
    · refine lv_tableIn (off := 33) (tgt := 34) hx hb dX6_weight_1 (by rw [iI_toInt (by omega)]; omega) (by rw [iI_toInt (by omega)]; omega) (by rw [iI_toInt (by omega), hs1]; rfl) (by decide) ?_
      refine zi_con hx hb dX6_weight_34 ?_
      exact hret _ _ _ _ _ _ dX6_weight_35 hW hS ⟨by (repeat' split) <;> first | rfl | omega, rfl⟩
    · refine lv_tableIn (off := 35) (tgt := 36) hx hb dX6_weight_1 (by rw [iI_toInt (by omega)]; omega) (by rw [iI_toInt (by omega)]; omega) (by rw [iI_toInt (by omega), hs1]; rfl) (by decide) ?_
      refine zi_bip hx hb dX6_weight_36 (by decide) ?_
      refine lv_iload_n hx hb dX6_weight_38 rfl (lv_at hl 0 rfl) ?_
      refine zi_sub hx hb dX6_weight_39 ?_
      refine zi_con hx hb dX6_weight_40 ?_
      refine zi_add hx hb dX6_weight_41 ?_
      exact hret _ _ _ _ _ _ dX6_weight_42 hW hS ⟨by (repeat' split) <;> first | rfl | omega, rfl⟩

set_option maxRecDepth 100000 in
set_option maxHeartbeats 4000000 in
theorem c_X6_allowedBy (l : Launch) (D : va_G) (cy : Nat → ClassId) (B : Nat) (σ : Sg) (o_ : Nat) (h_ : Nat) (hR : isR o_) (hok : okV (σ o_)) (hh : (h_ : Int) < σ o_ 4) : CI l yX6_allowedBy cX6_allowedBy 4 (some .int) 1 13 D cy B [.ref (B + o_), .int (iI (((h_ : Nat) : Int)))] σ (alw (σ o_) h_) (σ) := by
  refine CI_of (ty := .int) (by decide) (rfl) (Nat.le_of_ble_eq_true rfl) ?_
  intro p e R s m args below meth c Q hx hb hml hown hts hK hRf hRl hW hret ls hl
  have hown : s.vm.findClass "LoveParts$Realm" = some m.cls := hown
  have hS : va_S (AB B) s.heap s.heap [] := va_S.rf
  have hl : lv_has ls 4 [(0, .ref (B + o_)), (1, .int (iI (((h_ : Nat) : Int))))] := hl
  obtain ⟨o4, o0, o1, o2, o3, o5, o6, o7, oH⟩ := id hok
  obtain ⟨k8, k12, k16, k20, k24, k28, k32, k36, k40, k44⟩ := oH h_ hh
  have hmu := mulb (a := σ o_ 2) (b := σ o_ (36 + h_)) o2 (by omega)
  have htd : 0 ≤ tdec (σ o_ (44 + h_)) ∧ tdec (σ o_ (44 + h_)) ≤ 1000000 := by unfold tdec; split <;> omega
  refine lv_aload_n hx hb dX6_allowedBy_0 rfl (lv_at hl 0 rfl) ?_
  refine wz_get hx hb hts hown hK hW o_ 0 (lt_R hR) (e_R hR) rfl (by decide) inG6 w_244 rfl rfl dX6_allowedBy_1 ?_
  refine lv_iload_n hx hb dX6_allowedBy_4 rfl (lv_at hl 1 rfl) ?_
  refine wz_ara hx hb hK hW (o_ + 1) h_ 2 (lt_Ra hR) (e_Ra hR) rfl (by omega) (by omega) (by decide) rfl dX6_allowedBy_5 ?_
  refine lv_astore_n (lv' := [(2, .ref (B + (o_ + 2 + h_))), (0, .ref (B + o_)), (1, .int (iI (((h_ : Nat) : Int))))]) hx hb dX6_allowedBy_6 rfl hl (by decide) rfl (fun ls hl => ?_)
  refine lv_aload_n hx hb dX6_allowedBy_7 rfl (lv_at hl 0 rfl) ?_
  refine wz_get hx hb hts hown hK hW (o_ + 2 + h_) 6 (lt_H hR (by omega)) (e_H hR (by omega)) rfl (by decide) inG0 w_208 rfl rfl dX6_allowedBy_8 ?_
  refine lv_aload_n hx hb dX6_allowedBy_11 rfl (lv_at hl 1 rfl) ?_
  refine wz_get hx hb hts hown hK hW o_ 4 (lt_R hR) (e_R hR) rfl (by decide) inG6 w_256 rfl rfl dX6_allowedBy_12 ?_
  refine lv_aload_n hx hb dX6_allowedBy_15 rfl (lv_at hl 0 rfl) ?_
  refine wz_get hx hb hts hown hK hW (o_ + 2 + h_) 9 (lt_H hR (by omega)) (e_H hR (by omega)) rfl (by decide) inG0 w_216 rfl rfl dX6_allowedBy_16 ?_
  refine zi_mul hx hb dX6_allowedBy_19 ?_
  refine zi_sub hx hb dX6_allowedBy_20 ?_
  refine zi_con hx hb dX6_allowedBy_21 ?_
  refine k_max hx hb hml hown hts hl.1 w_570 ⟨w_571, w_67, w_572⟩ (by omega) (Nat.le_trans (Nat.le_of_ble_eq_true rfl) hRl) ⟨Nat.zero_le _, Nat.zero_le _⟩ (by omega) (by omega) dX6_allowedBy_22 ?_
  refine lv_aload_n hx hb dX6_allowedBy_25 rfl (lv_at hl 0 rfl) ?_
  refine wz_get hx hb hts hown hK hW (o_ + 2 + h_) 2 (lt_H hR (by omega)) (e_H hR (by omega)) rfl (by decide) inG0 w_194 rfl rfl dX6_allowedBy_26 ?_
  refine zi_add hx hb dX6_allowedBy_29 ?_
  refine lv_istore_n (lv' := [(3, .int (iI ((if ((σ o_ (28 + h_)) - ((σ o_ 2) * (σ o_ (36 + h_)))) < 0 then 0 else ((σ o_ (28 + h_)) - ((σ o_ 2) * (σ o_ (36 + h_))))) + (σ o_ (12 + h_))))), (2, .ref (B + (o_ + 2 + h_))), (0, .ref (B + o_)), (1, .int (iI (((h_ : Nat) : Int))))]) hx hb dX6_allowedBy_30 rfl hl (by decide) rfl (fun ls hl => ?_)
  refine lv_iload_n hx hb dX6_allowedBy_31 rfl (lv_at hl 0 rfl) ?_
  refine lv_aload_n hx hb dX6_allowedBy_32 rfl (lv_at hl 1 rfl) ?_
  refine wz_get hx hb hts hown hK hW (o_ + 2 + h_) 8 (lt_H hR (by omega)) (e_H hR (by omega)) rfl (by decide) inG0 w_213 rfl rfl dX6_allowedBy_33 ?_
  refine k_min hx hb hml hown hts hl.1 w_510 ⟨w_511, w_67, w_512⟩ (by omega) (Nat.le_trans (Nat.le_of_ble_eq_true rfl) hRl) ⟨Nat.zero_le _, Nat.zero_le _⟩ (by ((try split) <;> omega)) (by omega) dX6_allowedBy_36 ?_
  exact hret _ _ _ _ _ _ dX6_allowedBy_39 hW hS ⟨by unfold alw; unfold tdec; generalize σ o_ 2 * σ o_ (36 + h_) = q at *; (repeat' split) <;> omega, rfl⟩

set_option maxRecDepth 100000 in
set_option maxHeartbeats 4000000 in
theorem c_X6_brokenByAll (l : Launch) (D : va_G) (cy : Nat → ClassId) (B : Nat) (σ : Sg) (o_ : Nat) (hR : isR o_) (h4 : 0 ≤ σ o_ 4 ∧ σ o_ 4 ≤ 4) : CI l yX6_brokenByAll cX6_brokenByAll 3 (some .int) 0 0 D cy B [.ref (B + o_)] σ (brk (σ o_)) (σ) := by
  refine CI_of (ty := .int) (by decide) (rfl) (Nat.le_of_ble_eq_true rfl) ?_
  intro p e R s m args below meth c Q hx hb hml hown hts hK hRf hRl hW hret ls hl
  have hown : s.vm.findClass "LoveParts$Realm" = some m.cls := hown
  have hS : va_S (AB B) s.heap s.heap [] := va_S.rf
  have hl : lv_has ls 3 [(0, .ref (B + o_))] := hl
  refine zi_con hx hb dX6_brokenByAll_0 ?_
  refine lv_istore_n (lv' := [(1, .int (iI (0))), (0, .ref (B + o_))]) hx hb dX6_brokenByAll_1 rfl hl (by decide) rfl (fun ls hl => ?_)
  refine zi_con hx hb dX6_brokenByAll_2 ?_
  refine lv_istore_n (lv' := [(2, .int (iI (0))), (1, .int (iI (0))), (0, .ref (B + o_))]) hx hb dX6_brokenByAll_3 rfl hl (by decide) rfl (fun ls hl => ?_)
  have L4 : ∀ (n4 : Nat) (k_ : Nat) (H : Heap) (locs : List Loc) (ls : Array Slot), 4 - k_ < n4 → ((k_ : Int) ≤ σ o_ 4) → wd D cy B σ H → va_S (AB B) s.heap H locs → lv_has ls 3 [(2, .int (iI (((k_ : Nat) : Int)))), (1, .int (iI (sm (fun k => σ o_ (40 + k)) k_))), (0, .ref (B + o_))] → W p l e R s m args below meth c H locs 0 0 Q (F0 m 4 ls []) := by
    intro n4
    induction n4 with
    | zero => intro k_ H locs ls hms; omega
    | succ n4 ih4 =>
      intro k_ H locs ls hms4 hk hW hS hl
      refine lv_iload_n hx hb dX6_brokenByAll_4 rfl (lv_at hl 0 rfl) ?_
      refine lv_aload_n hx hb dX6_brokenByAll_5 rfl (lv_at hl 2 rfl) ?_
      refine wz_get hx hb hts hown hK hW o_ 1 (lt_R hR) (e_R hR) rfl (by decide) inG6 w_247 rfl rfl dX6_brokenByAll_6 ?_
      refine zi_cge (tgt := 30) hx hb dX6_brokenByAll_9 (by decide) (by omega) (by omega) (fun c9 => ?_) (fun c9 => ?_)
      · refine lv_iload_n hx hb dX6_brokenByAll_30 rfl (lv_at hl 1 rfl) ?_
        exact hret _ _ _ _ _ _ dX6_brokenByAll_31 hW hS ⟨by unfold brk; rw [show mn (σ o_) = k_ from by unfold mn; omega], rfl⟩
      · refine lv_iload_n hx hb dX6_brokenByAll_12 rfl (lv_at hl 1 rfl) ?_
        refine lv_aload_n hx hb dX6_brokenByAll_13 rfl (lv_at hl 2 rfl) ?_
        refine wz_get hx hb hts hown hK hW o_ 0 (lt_R hR) (e_R hR) rfl (by decide) inG6 w_244 rfl rfl dX6_brokenByAll_14 ?_
        refine lv_iload_n hx hb dX6_brokenByAll_17 rfl (lv_at hl 0 rfl) ?_
        refine wz_ara hx hb hK hW (o_ + 1) k_ 2 (lt_Ra hR) (e_Ra hR) rfl (by omega) (by omega) (by decide) rfl dX6_brokenByAll_18 ?_
        refine wz_get hx hb hts hown hK hW (o_ + 2 + k_) 10 (lt_H hR (by omega)) (e_H hR (by omega)) rfl (by decide) inG0 w_219 rfl rfl dX6_brokenByAll_19 ?_
        refine zi_add hx hb dX6_brokenByAll_22 ?_
        refine lv_istore_n (lv' := [(1, .int (iI ((sm (fun k => σ o_ (40 + k)) k_) + (σ o_ (40 + k_))))), (2, .int (iI (((k_ : Nat) : Int)))), (0, .ref (B + o_))]) hx hb dX6_brokenByAll_23 rfl hl (by decide) rfl (fun ls hl => ?_)
        refine lv_iinc (v := iI (((k_ : Nat) : Int) + 1)) (lv' := [(2, .int (iI (((k_ : Nat) : Int) + 1))), (1, .int (iI ((sm (fun k => σ o_ (40 + k)) k_) + (σ o_ (40 + k_))))), (0, .ref (B + o_))]) hx hb dX6_brokenByAll_24 hl (k := 1) rfl (iI_add _ _) (by decide) rfl (fun ls hl => ?_)
        refine lv_goto (tgt := 4) hx hb dX6_brokenByAll_27 (by decide) ?_
        exact ih4 (k_ + 1) _ _ _ (by omega) (by omega) hW hS (lv_sub hl [0, 1, 2] rfl)
  exact L4 _ 0 _ _ _ (Nat.lt_succ_self _) (by omega) hW hS (lv_sub hl [0, 1, 2] rfl)

set_option maxRecDepth 100000 in
set_option maxHeartbeats 4000000 in
theorem c_X6_passMonth (l : Launch) (D : va_G) (cy : Nat → ClassId) (B : Nat) (σ : Sg) (o_ : Nat) (hR : isR o_) (hok : okV (σ o_)) : CV l yX6_passMonth cX6_passMonth 3 2 36 D cy B [.ref (B + o_)] σ (us σ o_ (mon (σ o_))) := by
  refine CV_of (by decide) (Nat.le_of_ble_eq_true rfl) ?_
  intro p e R s m args below meth c Q hx hb hml hown hts hK hRf hRl hW hret ls hl
  have hown : s.vm.findClass "LoveParts$Realm" = some m.cls := hown
  have hS : va_S (AB B) s.heap s.heap [] := va_S.rf
  have hl : lv_has ls 3 [(0, .ref (B + o_))] := hl
  obtain ⟨o4, o0, o1, o2, o3, o5, o6, o7, oH⟩ := id hok
  obtain ⟨h_, hh6⟩ : ∃ h : Nat, σ o_ 6 = (h : Int) := ⟨(σ o_ 6).toNat, by omega⟩
  have hh : (h_ : Int) < σ o_ 4 := by omega
  obtain ⟨k8, k12, k16, k20, k24, k28, k32, k36, k40, k44⟩ := oH h_ hh
  have hal := alw_bd hok hh
  have hmon : mon (σ o_) = mth (σ o_) h_ := by unfold mon; rw [hh6, Int.toNat_natCast]
  have hmw := mod_wrap (h := (h_ : Int)) (n := σ o_ 4) (by omega)
  refine lv_aload_n hx hb dX6_passMonth_0 rfl (lv_at hl 0 rfl) ?_
  refine wz_get hx hb hts hown hK hW o_ 0 (lt_R hR) (e_R hR) rfl (by decide) inG6 w_244 rfl rfl dX6_passMonth_1 ?_
  refine lv_aload_n hx hb dX6_passMonth_4 rfl (lv_at hl 0 rfl) ?_
  refine wz_get hx hb hts hown hK hW o_ 6 (lt_R hR) (e_R hR) rfl (by decide) inG6 w_262 rfl rfl dX6_passMonth_5 ?_
  refine zi_top (y := ((h_ : Nat) : Int)) (by exact hh6) ?_
  refine wz_ara hx hb hK hW (o_ + 1) h_ 2 (lt_Ra hR) (e_Ra hR) rfl (by omega) (by omega) (by decide) rfl dX6_passMonth_8 ?_
  refine lv_astore_n (lv' := [(1, .ref (B + (o_ + 2 + h_))), (0, .ref (B + o_))]) hx hb dX6_passMonth_9 rfl hl (by decide) rfl (fun ls hl => ?_)
  refine lv_aload_n hx hb dX6_passMonth_10 rfl (lv_at hl 1 rfl) ?_
  refine lv_aload_n hx hb dX6_passMonth_11 rfl (lv_at hl 1 rfl) ?_
  refine wz_get hx hb hts hown hK hW o_ 6 (lt_R hR) (e_R hR) rfl (by decide) inG6 w_262 rfl rfl dX6_passMonth_12 ?_
  refine zi_top (y := ((h_ : Nat) : Int)) (by exact hh6) ?_
  refine k_vi (fr := 2) (lo := 36) (r := alw (σ o_) h_) (As := [.int (iI (((h_ : Nat) : Int)))]) (rest := []) hx hb hml hown hts hK hRf hRl hW hS (c_X6_allowedBy l D cy B σ o_ h_ (show isR o_ from (by first | assumption | omega | (simp only [tpL_25, List.length_cons, List.length_nil]; omega))) (show okV (σ o_) from (by first | assumption | omega | (simp only [tpL_25, List.length_cons, List.length_nil]; omega))) (show (h_ : Int) < σ o_ 4 from (by first | assumption | omega | (simp only [tpL_25, List.length_cons, List.length_nil]; omega)))) vX6_allowedBy ⟨w_567, w_568⟩ w_566 (lt_R hR) (e_R hR) rfl ⟨Nat.le_of_ble_eq_true rfl, Nat.le_of_ble_eq_true rfl⟩ hl.1 rfl (Nat.le_of_ble_eq_true rfl) ⟨Nat.zero_le _, Nat.zero_le _⟩ dX6_passMonth_15 (fun H locs hW hS => ?_)
  refine lv_istore_n (lv' := [(2, .int (iI (alw (σ o_) h_))), (1, .ref (B + (o_ + 2 + h_))), (0, .ref (B + o_))]) hx hb dX6_passMonth_18 rfl hl (by decide) rfl (fun ls hl => ?_)
  refine lv_aload_n hx hb dX6_passMonth_19 rfl (lv_at hl 2 rfl) ?_
  refine lv_aload_n hx hb dX6_passMonth_20 rfl (lv_at hl 2 rfl) ?_
  refine wz_get hx hb hts hown hK hW o_ 3 (lt_R hR) (e_R hR) rfl (by decide) inG6 w_253 rfl rfl dX6_passMonth_21 ?_
  refine lv_iload_n hx hb dX6_passMonth_24 rfl (lv_at hl 0 rfl) ?_
  refine k_min hx hb hml hown hts hl.1 w_510 ⟨w_511, w_67, w_512⟩ (by omega) (Nat.le_trans (Nat.le_of_ble_eq_true rfl) hRl) ⟨Nat.zero_le _, Nat.zero_le _⟩ (by omega) (by omega) dX6_passMonth_25 ?_
  refine wz_put (σ' := (up σ o_ 1 (if (alw (σ o_) h_) < (σ o_ 1) then (alw (σ o_) h_) else (σ o_ 1)))) (ty := .int) hx hb hts hown hK hW hS o_ 3 tyX6 (lt_R hR) (e_R hR) rfl (by decide) inG6 tyX6_ok nmX6 w_253 ⟨rfl, rfl, Nat.le_of_ble_eq_true rfl⟩ (by decide +kernel) ⟨rfl, rfl⟩ (p_R_3 hR) dX6_passMonth_28 (fun H locs hW hS => ?_)
  refine lv_iload_n hx hb dX6_passMonth_31 rfl (lv_at hl 0 rfl) ?_
  refine lv_aload_n hx hb dX6_passMonth_32 rfl (lv_at hl 1 rfl) ?_
  refine wz_get hx hb hts hown hK hW (o_ + 2 + h_) 6 (lt_H hR (by omega)) (e_H hR (by omega)) rfl (by decide) inG0 w_208 rfl rfl dX6_passMonth_33 ?_
  refine zi_top (y := σ o_ (28 + h_)) (by (simp [us, uf] <;> omega)) ?_
  refine zi_cge (tgt := 49) hx hb dX6_passMonth_36 (by decide) (by omega) (by omega) (fun c36 => ?_) (fun c36 => ?_)
  · refine lv_aload_n hx hb dX6_passMonth_49 rfl (lv_at hl 1 rfl) ?_
    refine lv_dup hx hb dX6_passMonth_50 rfl ?_
    refine wz_get hx hb hts hown hK hW (o_ + 2 + h_) 9 (lt_H hR (by omega)) (e_H hR (by omega)) rfl (by decide) inG0 w_216 rfl rfl dX6_passMonth_51 ?_
    refine zi_top (y := σ o_ (36 + h_)) (by (simp [us, uf] <;> omega)) ?_
    refine zi_con hx hb dX6_passMonth_54 ?_
    refine zi_add hx hb dX6_passMonth_55 ?_
    refine wz_put (σ' := (up (up σ o_ 1 (if (alw (σ o_) h_) < (σ o_ 1) then (alw (σ o_) h_) else (σ o_ 1))) o_ (36 + h_) ((σ o_ (36 + h_)) + 1))) (ty := .int) hx hb hts hown hK hW hS (o_ + 2 + h_) 9 tyX0 (lt_H hR (by omega)) (e_H hR (by omega)) rfl (by decide) inG0 tyX0_ok nmX0 w_216 ⟨rfl, rfl, Nat.le_of_ble_eq_true rfl⟩ (by decide +kernel) ⟨rfl, rfl⟩ (p_H_9 hR (by omega)) dX6_passMonth_56 (fun H locs hW hS => ?_)
    refine lv_aload_n hx hb dX6_passMonth_59 rfl (lv_at hl 2 rfl) ?_
    refine lv_dup hx hb dX6_passMonth_60 rfl ?_
    refine wz_get hx hb hts hown hK hW o_ 7 (lt_R hR) (e_R hR) rfl (by decide) inG6 w_264 rfl rfl dX6_passMonth_61 ?_
    refine zi_top (y := σ o_ 5) (by (simp [us, uf] <;> omega)) ?_
    refine zi_con hx hb dX6_passMonth_64 ?_
    refine zi_add hx hb dX6_passMonth_65 ?_
    refine wz_put (σ' := (up (up (up σ o_ 1 (if (alw (σ o_) h_) < (σ o_ 1) then (alw (σ o_) h_) else (σ o_ 1))) o_ (36 + h_) ((σ o_ (36 + h_)) + 1)) o_ 5 ((σ o_ 5) + 1))) (ty := .int) hx hb hts hown hK hW hS o_ 7 tyX6 (lt_R hR) (e_R hR) rfl (by decide) inG6 tyX6_ok nmX6 w_264 ⟨rfl, rfl, Nat.le_of_ble_eq_true rfl⟩ (by decide +kernel) ⟨rfl, rfl⟩ (p_R_7 hR) dX6_passMonth_66 (fun H locs hW hS => ?_)
    refine lv_aload_n hx hb dX6_passMonth_69 rfl (lv_at hl 2 rfl) ?_
    refine lv_aload_n hx hb dX6_passMonth_70 rfl (lv_at hl 2 rfl) ?_
    refine wz_get hx hb hts hown hK hW o_ 6 (lt_R hR) (e_R hR) rfl (by decide) inG6 w_262 rfl rfl dX6_passMonth_71 ?_
    refine zi_top (y := σ o_ 6) (by (simp [us, uf] <;> omega)) ?_
    refine zi_con hx hb dX6_passMonth_74 ?_
    refine zi_add hx hb dX6_passMonth_75 ?_
    refine lv_aload_n hx hb dX6_passMonth_76 rfl (lv_at hl 2 rfl) ?_
    refine wz_get hx hb hts hown hK hW o_ 1 (lt_R hR) (e_R hR) rfl (by decide) inG6 w_247 rfl rfl dX6_passMonth_77 ?_
    refine zi_top (y := σ o_ 4) (by (simp [us, uf] <;> omega)) ?_
    refine zi_cge (tgt := 92) hx hb dX6_passMonth_80 (by decide) (by omega) (by omega) (fun c80 => ?_) (fun c80 => ?_)
    · refine zi_con hx hb dX6_passMonth_92 ?_
      refine wz_put (σ' := (up (up (up (up σ o_ 1 (if (alw (σ o_) h_) < (σ o_ 1) then (alw (σ o_) h_) else (σ o_ 1))) o_ (36 + h_) ((σ o_ (36 + h_)) + 1)) o_ 5 ((σ o_ 5) + 1)) o_ 6 0)) (ty := .int) hx hb hts hown hK hW hS o_ 6 tyX6 (lt_R hR) (e_R hR) rfl (by decide) inG6 tyX6_ok nmX6 w_262 ⟨rfl, rfl, Nat.le_of_ble_eq_true rfl⟩ (by decide +kernel) ⟨rfl, rfl⟩ (p_R_6 hR) dX6_passMonth_93 (fun H locs hW hS => ?_)
      exact hret _ _ _ _ _ dX6_passMonth_96 hW hS (by rw [hmon]; unfold up; simp only [us_us, us_eq]; congr 1; funext j; rw [mth_at, hmw]; unfold uf; (repeat' split) <;> first | rfl | omega | (subst_vars; omega))
    · refine lv_aload_n hx hb dX6_passMonth_83 rfl (lv_at hl 2 rfl) ?_
      refine wz_get hx hb hts hown hK hW o_ 6 (lt_R hR) (e_R hR) rfl (by decide) inG6 w_262 rfl rfl dX6_passMonth_84 ?_
      refine zi_top (y := σ o_ 6) (by (simp [us, uf] <;> omega)) ?_
      refine zi_con hx hb dX6_passMonth_87 ?_
      refine zi_add hx hb dX6_passMonth_88 ?_
      refine lv_goto (tgt := 93) hx hb dX6_passMonth_89 (by decide) ?_
      refine wz_put (σ' := (up (up (up (up σ o_ 1 (if (alw (σ o_) h_) < (σ o_ 1) then (alw (σ o_) h_) else (σ o_ 1))) o_ (36 + h_) ((σ o_ (36 + h_)) + 1)) o_ 5 ((σ o_ 5) + 1)) o_ 6 ((σ o_ 6) + 1))) (ty := .int) hx hb hts hown hK hW hS o_ 6 tyX6 (lt_R hR) (e_R hR) rfl (by decide) inG6 tyX6_ok nmX6 w_262 ⟨rfl, rfl, Nat.le_of_ble_eq_true rfl⟩ (by decide +kernel) ⟨rfl, rfl⟩ (p_R_6 hR) dX6_passMonth_93 (fun H locs hW hS => ?_)
      exact hret _ _ _ _ _ dX6_passMonth_96 hW hS (by rw [hmon]; unfold up; simp only [us_us, us_eq]; congr 1; funext j; rw [mth_at, hmw]; unfold uf; (repeat' split) <;> first | rfl | omega | (subst_vars; omega))
  · refine lv_aload_n hx hb dX6_passMonth_39 rfl (lv_at hl 1 rfl) ?_
    refine lv_dup hx hb dX6_passMonth_40 rfl ?_
    refine wz_get hx hb hts hown hK hW (o_ + 2 + h_) 10 (lt_H hR (by omega)) (e_H hR (by omega)) rfl (by decide) inG0 w_219 rfl rfl dX6_passMonth_41 ?_
    refine zi_top (y := σ o_ (40 + h_)) (by (simp [us, uf] <;> omega)) ?_
    refine zi_con hx hb dX6_passMonth_44 ?_
    refine zi_add hx hb dX6_passMonth_45 ?_
    refine wz_put (σ' := (up (up σ o_ 1 (if (alw (σ o_) h_) < (σ o_ 1) then (alw (σ o_) h_) else (σ o_ 1))) o_ (40 + h_) ((σ o_ (40 + h_)) + 1))) (ty := .int) hx hb hts hown hK hW hS (o_ + 2 + h_) 10 tyX0 (lt_H hR (by omega)) (e_H hR (by omega)) rfl (by decide) inG0 tyX0_ok nmX0 w_219 ⟨rfl, rfl, Nat.le_of_ble_eq_true rfl⟩ (by decide +kernel) ⟨rfl, rfl⟩ (p_H_10 hR (by omega)) dX6_passMonth_46 (fun H locs hW hS => ?_)
    refine lv_aload_n hx hb dX6_passMonth_49 rfl (lv_at hl 1 rfl) ?_
    refine lv_dup hx hb dX6_passMonth_50 rfl ?_
    refine wz_get hx hb hts hown hK hW (o_ + 2 + h_) 9 (lt_H hR (by omega)) (e_H hR (by omega)) rfl (by decide) inG0 w_216 rfl rfl dX6_passMonth_51 ?_
    refine zi_top (y := σ o_ (36 + h_)) (by (simp [us, uf] <;> omega)) ?_
    refine zi_con hx hb dX6_passMonth_54 ?_
    refine zi_add hx hb dX6_passMonth_55 ?_
    refine wz_put (σ' := (up (up (up σ o_ 1 (if (alw (σ o_) h_) < (σ o_ 1) then (alw (σ o_) h_) else (σ o_ 1))) o_ (40 + h_) ((σ o_ (40 + h_)) + 1)) o_ (36 + h_) ((σ o_ (36 + h_)) + 1))) (ty := .int) hx hb hts hown hK hW hS (o_ + 2 + h_) 9 tyX0 (lt_H hR (by omega)) (e_H hR (by omega)) rfl (by decide) inG0 tyX0_ok nmX0 w_216 ⟨rfl, rfl, Nat.le_of_ble_eq_true rfl⟩ (by decide +kernel) ⟨rfl, rfl⟩ (p_H_9 hR (by omega)) dX6_passMonth_56 (fun H locs hW hS => ?_)
    refine lv_aload_n hx hb dX6_passMonth_59 rfl (lv_at hl 2 rfl) ?_
    refine lv_dup hx hb dX6_passMonth_60 rfl ?_
    refine wz_get hx hb hts hown hK hW o_ 7 (lt_R hR) (e_R hR) rfl (by decide) inG6 w_264 rfl rfl dX6_passMonth_61 ?_
    refine zi_top (y := σ o_ 5) (by (simp [us, uf] <;> omega)) ?_
    refine zi_con hx hb dX6_passMonth_64 ?_
    refine zi_add hx hb dX6_passMonth_65 ?_
    refine wz_put (σ' := (up (up (up (up σ o_ 1 (if (alw (σ o_) h_) < (σ o_ 1) then (alw (σ o_) h_) else (σ o_ 1))) o_ (40 + h_) ((σ o_ (40 + h_)) + 1)) o_ (36 + h_) ((σ o_ (36 + h_)) + 1)) o_ 5 ((σ o_ 5) + 1))) (ty := .int) hx hb hts hown hK hW hS o_ 7 tyX6 (lt_R hR) (e_R hR) rfl (by decide) inG6 tyX6_ok nmX6 w_264 ⟨rfl, rfl, Nat.le_of_ble_eq_true rfl⟩ (by decide +kernel) ⟨rfl, rfl⟩ (p_R_7 hR) dX6_passMonth_66 (fun H locs hW hS => ?_)
    refine lv_aload_n hx hb dX6_passMonth_69 rfl (lv_at hl 2 rfl) ?_
    refine lv_aload_n hx hb dX6_passMonth_70 rfl (lv_at hl 2 rfl) ?_
    refine wz_get hx hb hts hown hK hW o_ 6 (lt_R hR) (e_R hR) rfl (by decide) inG6 w_262 rfl rfl dX6_passMonth_71 ?_
    refine zi_top (y := σ o_ 6) (by (simp [us, uf] <;> omega)) ?_
    refine zi_con hx hb dX6_passMonth_74 ?_
    refine zi_add hx hb dX6_passMonth_75 ?_
    refine lv_aload_n hx hb dX6_passMonth_76 rfl (lv_at hl 2 rfl) ?_
    refine wz_get hx hb hts hown hK hW o_ 1 (lt_R hR) (e_R hR) rfl (by decide) inG6 w_247 rfl rfl dX6_passMonth_77 ?_
    refine zi_top (y := σ o_ 4) (by (simp [us, uf] <;> omega)) ?_
    refine zi_cge (tgt := 92) hx hb dX6_passMonth_80 (by decide) (by omega) (by omega) (fun c80 => ?_) (fun c80 => ?_)
    · refine zi_con hx hb dX6_passMonth_92 ?_
      refine wz_put (σ' := (up (up (up (up (up σ o_ 1 (if (alw (σ o_) h_) < (σ o_ 1) then (alw (σ o_) h_) else (σ o_ 1))) o_ (40 + h_) ((σ o_ (40 + h_)) + 1)) o_ (36 + h_) ((σ o_ (36 + h_)) + 1)) o_ 5 ((σ o_ 5) + 1)) o_ 6 0)) (ty := .int) hx hb hts hown hK hW hS o_ 6 tyX6 (lt_R hR) (e_R hR) rfl (by decide) inG6 tyX6_ok nmX6 w_262 ⟨rfl, rfl, Nat.le_of_ble_eq_true rfl⟩ (by decide +kernel) ⟨rfl, rfl⟩ (p_R_6 hR) dX6_passMonth_93 (fun H locs hW hS => ?_)
      exact hret _ _ _ _ _ dX6_passMonth_96 hW hS (by rw [hmon]; unfold up; simp only [us_us, us_eq]; congr 1; funext j; rw [mth_at, hmw]; unfold uf; (repeat' split) <;> first | rfl | omega | (subst_vars; omega))
    · refine lv_aload_n hx hb dX6_passMonth_83 rfl (lv_at hl 2 rfl) ?_
      refine wz_get hx hb hts hown hK hW o_ 6 (lt_R hR) (e_R hR) rfl (by decide) inG6 w_262 rfl rfl dX6_passMonth_84 ?_
      refine zi_top (y := σ o_ 6) (by (simp [us, uf] <;> omega)) ?_
      refine zi_con hx hb dX6_passMonth_87 ?_
      refine zi_add hx hb dX6_passMonth_88 ?_
      refine lv_goto (tgt := 93) hx hb dX6_passMonth_89 (by decide) ?_
      refine wz_put (σ' := (up (up (up (up (up σ o_ 1 (if (alw (σ o_) h_) < (σ o_ 1) then (alw (σ o_) h_) else (σ o_ 1))) o_ (40 + h_) ((σ o_ (40 + h_)) + 1)) o_ (36 + h_) ((σ o_ (36 + h_)) + 1)) o_ 5 ((σ o_ 5) + 1)) o_ 6 ((σ o_ 6) + 1))) (ty := .int) hx hb hts hown hK hW hS o_ 6 tyX6 (lt_R hR) (e_R hR) rfl (by decide) inG6 tyX6_ok nmX6 w_262 ⟨rfl, rfl, Nat.le_of_ble_eq_true rfl⟩ (by decide +kernel) ⟨rfl, rfl⟩ (p_R_6 hR) dX6_passMonth_93 (fun H locs hW hS => ?_)
      exact hret _ _ _ _ _ dX6_passMonth_96 hW hS (by rw [hmon]; unfold up; simp only [us_us, us_eq]; congr 1; funext j; rw [mth_at, hmw]; unfold uf; (repeat' split) <;> first | rfl | omega | (subst_vars; omega))
