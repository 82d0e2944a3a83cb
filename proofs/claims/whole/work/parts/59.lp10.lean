
set_option maxRecDepth 100000 in
set_option maxHeartbeats 4000000 in
theorem c_X11_truestHeir (l : Launch) (D : va_G) (cy : Nat → ClassId) (B : Nat) (σ : Sg)  (hok : okV (σ 18)) : CI l yX11_truestHeir cX11_truestHeir 3 (some .int) 0 0 D cy B [.ref (B + 0)] σ (((tst (σ 18) : Nat) : Int)) (σ) := by
  refine CI_of (ty := .int) (by decide) (rfl) (Nat.le_of_ble_eq_true rfl) ?_
  intro p e R s m args below meth c Q hx hb hml hown hts hK hRf hRl hW hret ls hl
  have hown : s.vm.findClass "LoveParts" = some m.cls := hown
  have hS : va_S (AB B) s.heap s.heap [] := va_S.rf
  have hl : lv_has ls 3 [(0, .ref (B + 0))] := hl
  obtain ⟨o4, o0, o1, o2, o3, o5, o6, o7, oH⟩ := id hok
  refine zi_con hx hb dX11_truestHeir_0 ?_
  refine lv_istore_n (lv' := [(1, .int (iI (0))), (0, .ref (B + 0))]) hx hb dX11_truestHeir_1 rfl hl (by decide) rfl (fun ls hl => ?_)
  refine zi_con hx hb dX11_truestHeir_2 ?_
  refine lv_istore_n (lv' := [(2, .int (iI (1))), (1, .int (iI (0))), (0, .ref (B + 0))]) hx hb dX11_truestHeir_3 rfl hl (by decide) rfl (fun ls hl => ?_)
  have L4 : ∀ (n4 : Nat) (i_ : Nat) (H : Heap) (locs : List Loc) (ls : Array Slot), 4 - i_ < n4 → (1 ≤ i_ ∧ (i_ : Int) ≤ σ 18 4) → wd D cy B σ H → va_S (AB B) s.heap H locs → lv_has ls 3 [(2, .int (iI (((i_ : Nat) : Int)))), (1, .int (iI (((fg (fun h => σ 18 (12 + h)) i_ : Nat) : Int)))), (0, .ref (B + 0))] → W p l e R s m args below meth c H locs 0 0 Q (F0 m 4 ls []) := by
    intro n4
    induction n4 with
    | zero => intro i_ H locs ls hms; omega
    | succ n4 ih4 =>
      intro i_ H locs ls hms4 hi hW hS hl
      have hfg := fg_lt (fun h => σ 18 (12 + h)) (n := i_) (by omega)
      refine lv_iload_n hx hb dX11_truestHeir_4 rfl (lv_at hl 0 rfl) ?_
      refine lv_aload_n hx hb dX11_truestHeir_5 rfl (lv_at hl 2 rfl) ?_
      refine wz_get hx hb hts hown hK hW 0 4 (by decide) e_0 rfl (by decide) inG11 w_309 rfl rfl dX11_truestHeir_6 ?_
      refine wz_get hx hb hts hown hK hW 18 1 (lt_R isR_18) (e_R isR_18) rfl (by decide) inG6 w_249 rfl rfl dX11_truestHeir_9 ?_
      refine zi_cge (tgt := 50) hx hb dX11_truestHeir_12 (by decide) (by omega) (by omega) (fun c12 => ?_) (fun c12 => ?_)
      · have hin : i_ = mn (σ 18) := by unfold mn; omega
        refine lv_iload_n hx hb dX11_truestHeir_50 rfl (lv_at hl 1 rfl) ?_
        exact hret _ _ _ _ _ _ dX11_truestHeir_51 hW hS ⟨by unfold tst; rw [hin], rfl⟩
      · have hb1 := oH i_ (by omega)
        have hb2 := oH (fg (fun h => σ 18 (12 + h)) i_) (by omega)
        unfold okH at hb1 hb2
        refine lv_aload_n hx hb dX11_truestHeir_15 rfl (lv_at hl 2 rfl) ?_
        refine wz_get hx hb hts hown hK hW 0 4 (by decide) e_0 rfl (by decide) inG11 w_309 rfl rfl dX11_truestHeir_16 ?_
        refine wz_get hx hb hts hown hK hW 18 0 (lt_R isR_18) (e_R isR_18) rfl (by decide) inG6 w_246 rfl rfl dX11_truestHeir_19 ?_
        refine lv_iload_n hx hb dX11_truestHeir_22 rfl (lv_at hl 0 rfl) ?_
        refine wz_ara hx hb hK hW (18 + 1) i_ 2 (lt_Ra isR_18) (e_Ra isR_18) rfl (by omega) (by omega) (by decide) rfl dX11_truestHeir_23 ?_
        refine wz_get hx hb hts hown hK hW (18 + 2 + i_) 2 (lt_H isR_18 (by omega)) (e_H isR_18 (by omega)) rfl (by decide) inG0 w_195 rfl rfl dX11_truestHeir_24 ?_
        refine lv_aload_n hx hb dX11_truestHeir_27 rfl (lv_at hl 2 rfl) ?_
        refine wz_get hx hb hts hown hK hW 0 4 (by decide) e_0 rfl (by decide) inG11 w_309 rfl rfl dX11_truestHeir_28 ?_
        refine wz_get hx hb hts hown hK hW 18 0 (lt_R isR_18) (e_R isR_18) rfl (by decide) inG6 w_246 rfl rfl dX11_truestHeir_31 ?_
        refine lv_iload_n hx hb dX11_truestHeir_34 rfl (lv_at hl 1 rfl) ?_
        refine wz_ara hx hb hK hW (18 + 1) (fg (fun h => σ 18 (12 + h)) i_) 2 (lt_Ra isR_18) (e_Ra isR_18) rfl (by omega) (by omega) (by decide) rfl dX11_truestHeir_35 ?_
        refine wz_get hx hb hts hown hK hW (18 + 2 + (fg (fun h => σ 18 (12 + h)) i_)) 2 (lt_H isR_18 (by omega)) (e_H isR_18 (by omega)) rfl (by decide) inG0 w_195 rfl rfl dX11_truestHeir_36 ?_
        refine zi_cle (tgt := 44) hx hb dX11_truestHeir_39 (by decide) (by omega) (by omega) (fun c39 => ?_) (fun c39 => ?_)
        · refine lv_iinc (v := iI (((i_ : Nat) : Int) + 1)) (lv' := [(2, .int (iI (((i_ : Nat) : Int) + 1))), (1, .int (iI (((fg (fun h => σ 18 (12 + h)) i_ : Nat) : Int)))), (0, .ref (B + 0))]) hx hb dX11_truestHeir_44 hl (k := 0) rfl (iI_add _ _) (by decide) rfl (fun ls hl => ?_)
          refine lv_goto (tgt := 4) hx hb dX11_truestHeir_47 (by decide) ?_
          have e3 : fg (fun h => σ 18 (12 + h)) (i_ + 1) = (if σ 18 (12 + fg (fun h => σ 18 (12 + h)) i_) < σ 18 (12 + i_) then i_ else fg (fun h => σ 18 (12 + h)) i_) := rfl
          first | (rw [if_pos (by omega)] at e3) | (rw [if_neg (by omega)] at e3)
          exact ih4 (i_ + 1) _ _ _ (by omega) (by omega) hW hS (lv_sub hl [0, 1, 2] (by rw [e3]; rfl))
        · refine lv_iload_n hx hb dX11_truestHeir_42 rfl (lv_at hl 0 rfl) ?_
          refine lv_istore_n (lv' := [(1, .int (iI (((i_ : Nat) : Int)))), (2, .int (iI (((i_ : Nat) : Int)))), (0, .ref (B + 0))]) hx hb dX11_truestHeir_43 rfl hl (by decide) rfl (fun ls hl => ?_)
          refine lv_iinc (v := iI (((i_ : Nat) : Int) + 1)) (lv' := [(2, .int (iI (((i_ : Nat) : Int) + 1))), (1, .int (iI (((i_ : Nat) : Int)))), (0, .ref (B + 0))]) hx hb dX11_truestHeir_44 hl (k := 1) rfl (iI_add _ _) (by decide) rfl (fun ls hl => ?_)
          refine lv_goto (tgt := 4) hx hb dX11_truestHeir_47 (by decide) ?_
          have e3 : fg (fun h => σ 18 (12 + h)) (i_ + 1) = (if σ 18 (12 + fg (fun h => σ 18 (12 + h)) i_) < σ 18 (12 + i_) then i_ else fg (fun h => σ 18 (12 + h)) i_) := rfl
          first | (rw [if_pos (by omega)] at e3) | (rw [if_neg (by omega)] at e3)
          exact ih4 (i_ + 1) _ _ _ (by omega) (by omega) hW hS (lv_sub hl [0, 1, 2] (by rw [e3]; rfl))
  exact L4 _ 1 _ _ _ (Nat.lt_succ_self _) (by omega) hW hS (lv_sub hl [0, 1, 2] (by rw [fg1]; rfl))

set_option maxRecDepth 100000 in
set_option maxHeartbeats 4000000 in
theorem c_X7_tells (l : Launch) (D : va_G) (cy : Nat → ClassId) (B : Nat) (σ : Sg) (i_ : Nat) (q_ : Nat) (n_ : Nat) (hi : i_ < 8) (hq : q_ + n_ ≤ 40 ∧ n_ ≤ 4) (hbi : ∀ k, k < 40 → -2147483648 ≤ σ (30 + 2 * i_ + 1) k ∧ σ (30 + 2 * i_ + 1) k < 2147483648) (hbs : ∀ k, k < n_ → -2147483648 ≤ σ 10 k ∧ σ 10 k < 2147483648) : CI l yX7_tells cX7_tells 5 (some .boolean) 0 0 D cy B [.ref (B + (30 + 2 * i_)), .int (iI (((q_ : Nat) : Int))), .ref (B + 10), .int (iI (((n_ : Nat) : Int)))] σ ((if al (fun h => σ (30 + 2 * i_ + 1) (q_ + h)) (σ 10) n_ = true then 1 else 0)) (σ) := by
  refine CI_of (ty := .boolean) (by decide) (nb_ite) (Nat.le_of_ble_eq_true rfl) ?_
  intro p e R s m args below meth c Q hx hb hml hown hts hK hRf hRl hW hret ls hl
  have hown : s.vm.findClass "LoveParts$Row" = some m.cls := hown
  have hS : va_S (AB B) s.heap s.heap [] := va_S.rf
  have hl : lv_has ls 5 [(0, .ref (B + (30 + 2 * i_))), (1, .int (iI (((q_ : Nat) : Int)))), (2, .ref (B + 10)), (3, .int (iI (((n_ : Nat) : Int))))] := hl
  refine zi_con hx hb dX7_tells_0 ?_
  refine lv_istore (lv' := [(4, .int (iI (0))), (0, .ref (B + (30 + 2 * i_))), (1, .int (iI (((q_ : Nat) : Int)))), (2, .ref (B + 10)), (3, .int (iI (((n_ : Nat) : Int))))]) hx hb dX7_tells_1 hl (by decide) rfl (fun ls hl => ?_)
  have L3 : ∀ (n3 : Nat) (k_ : Nat) (H : Heap) (locs : List Loc) (ls : Array Slot), 40 - k_ < n3 → (k_ ≤ n_) → (∀ m, m ≤ k_ → al (fun h => σ (30 + 2 * i_ + 1) (q_ + h)) (σ 10) m = true) → wd D cy B σ H → va_S (AB B) s.heap H locs → lv_has ls 5 [(4, .int (iI (((k_ : Nat) : Int)))), (0, .ref (B + (30 + 2 * i_))), (1, .int (iI (((q_ : Nat) : Int)))), (2, .ref (B + 10)), (3, .int (iI (((n_ : Nat) : Int))))] → W p l e R s m args below meth c H locs 0 0 Q (F0 m 3 ls []) := by
    intro n3
    induction n3 with
    | zero => intro k_ H locs ls hms; omega
    | succ n3 ih3 =>
      intro k_ H locs ls hms3 hk hal hW hS hl
      refine lv_iload hx hb dX7_tells_3 (lv_at hl 0 rfl) ?_
      refine lv_iload_n hx hb dX7_tells_5 rfl (lv_at hl 4 rfl) ?_
      refine zi_cge (tgt := 33) hx hb dX7_tells_6 (by decide) (by omega) (by omega) (fun c6 => ?_) (fun c6 => ?_)
      · refine zi_con hx hb dX7_tells_33 ?_
        exact hret _ _ _ _ _ _ dX7_tells_34 hW hS ⟨by rw [if_pos (hal n_ (by omega))], rfl⟩
      · have hb1 := hbi (q_ + k_) (by omega)
        have hb2 := hbs k_ (by omega)
        refine lv_aload_n hx hb dX7_tells_9 rfl (lv_at hl 1 rfl) ?_
        refine wz_get hx hb hts hown hK hW (30 + 2 * i_) 0 (by omega) (e_row (by omega)) rfl (by decide) inG7 w_292 rfl rfl dX7_tells_10 ?_
        refine lv_iload_n hx hb dX7_tells_13 rfl (lv_at hl 2 rfl) ?_
        refine lv_iload hx hb dX7_tells_14 (lv_at hl 0 rfl) ?_
        refine zi_add hx hb dX7_tells_16 ?_
        refine wz_ald hx hb hK hW (30 + 2 * i_ + 1) (q_ + k_) (by omega) (e_it (by omega)) (by omega) (by omega) (by decide) dX7_tells_17 ?_
        refine lv_aload_n hx hb dX7_tells_18 rfl (lv_at hl 3 rfl) ?_
        refine lv_iload hx hb dX7_tells_19 (lv_at hl 0 rfl) ?_
        refine wz_ald hx hb hK hW 10 k_ (by decide) e_10 (by omega) (by omega) (by decide) dX7_tells_21 ?_
        refine zi_ceq (tgt := 27) hx hb dX7_tells_22 (by decide) (by omega) (by omega) (fun c22 => ?_) (fun c22 => ?_)
        · refine lv_iinc (v := iI (((k_ : Nat) : Int) + 1)) (lv' := [(4, .int (iI (((k_ : Nat) : Int) + 1))), (0, .ref (B + (30 + 2 * i_))), (1, .int (iI (((q_ : Nat) : Int)))), (2, .ref (B + 10)), (3, .int (iI (((n_ : Nat) : Int))))]) hx hb dX7_tells_27 hl (k := 0) rfl (iI_add _ _) (by decide) rfl (fun ls hl => ?_)
          refine lv_goto (tgt := 3) hx hb dX7_tells_30 (by decide) ?_
          exact ih3 (k_ + 1) _ _ _ (by omega) (by omega) (fun m hm => by by_cases e : m ≤ k_; exact hal m e; rw [show m = k_ + 1 from by omega]; exact al_t (hal k_ (Nat.le_refl _)) (by first | exact c22 | omega)) hW hS (lv_sub hl [0, 1, 2, 3, 4] rfl)
        · refine zi_con hx hb dX7_tells_25 ?_
          exact hret _ _ _ _ _ _ dX7_tells_26 hW hS ⟨by rw [if_neg (fun hc => c22 (al_all hc k_ (by omega)))], rfl⟩
  exact L3 _ 0 _ _ _ (Nat.lt_succ_self _) (by omega) (fun m hm => by rw [show m = 0 from by omega]; rfl) hW hS (lv_sub hl [0, 1, 2, 3, 4] rfl)
