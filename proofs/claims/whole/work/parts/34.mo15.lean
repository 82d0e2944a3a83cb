
set_option maxRecDepth 100000 in
set_option maxHeartbeats 4000000 in
theorem c_X12_has (l : Launch) (D : va_G) (cy : Nat → ClassId) (B : Nat) (σ : Sg) (s_ : Nat) (k_ : Nat) (h1 : s_ < 16) (h2 : k_ < 4) : CI l yX12_has cX12_has 2 (some .boolean) 0 0 D cy B [.int (iI (((s_ : Nat) : Int))), .int (iI (((k_ : Nat) : Int)))] σ ((if hs ((s_ : Nat) : Int) k_ = true then 1 else 0)) (σ) := by
  refine CI_of (ty := .boolean) (by decide) (nb_ite) (Nat.le_of_ble_eq_true rfl) ?_
  intro p e R s m args below meth c Q hx hb hml hown hts hK hRf hRl hW hret ls hl
  have hown : s.vm.findClass "LovePartsModel" = some m.cls := hown
  have hS : va_S (AB B) s.heap s.heap [] := va_S.rf
  have hl : lv_has ls 2 [(0, .int (iI (((s_ : Nat) : Int)))), (1, .int (iI (((k_ : Nat) : Int))))] := hl
  refine lv_iload_n hx hb dX12_has_0 rfl (lv_at hl 0 rfl) ?_
  refine lv_iload_n hx hb dX12_has_1 rfl (lv_at hl 1 rfl) ?_
  refine lv_ishr hx hb dX12_has_2 ?_
  refine zi_con hx hb dX12_has_3 ?_
  refine lv_iand hx hb dX12_has_4 ?_
  refine zi_toi (hs_row h1 h2) ?_
  refine zi_con hx hb dX12_has_5 ?_
  refine zi_cne (tgt := 13) hx hb dX12_has_6 (by decide) (by omega) (by omega) (fun c6 => ?_) (fun c6 => ?_)
  · refine zi_con hx hb dX12_has_13 ?_
    exact hret _ _ _ _ _ _ dX12_has_14 hW hS ⟨by unfold hs; first | rw [if_pos (decide_eq_true (by omega))] | rw [if_neg (fun h9 => absurd (of_decide_eq_true h9) (by omega))], rfl⟩
  · refine zi_con hx hb dX12_has_9 ?_
    refine lv_goto (tgt := 14) hx hb dX12_has_10 (by decide) ?_
    exact hret _ _ _ _ _ _ dX12_has_14 hW hS ⟨by unfold hs; first | rw [if_pos (decide_eq_true (by omega))] | rw [if_neg (fun h9 => absurd (of_decide_eq_true h9) (by omega))], rfl⟩

set_option maxRecDepth 100000 in
set_option maxHeartbeats 4000000 in
theorem c_X12_odds (l : Launch) (D : va_G) (cy : Nat → ClassId) (B : Nat) (σ : Sg) (h_ : Int) (p_ : Int) (w_ : Int) (r_h_ : -2147483648 ≤ h_ ∧ h_ < 2147483648) (r_p_ : -2147483648 ≤ p_ ∧ p_ < 2147483648) (r_w_ : -2147483648 ≤ w_ ∧ w_ < 2147483648) (hok : σ 206 4 = 0 ∨ okV (σ 206)) : CLe l yX12_odds cX12_odds 14 4 93 D cy B [.ref (B + 202), .int (iI (h_)), .int (iI (p_)), .int (iI (w_))] σ (if ¬ (0 ≤ h_ ∧ h_ ≤ σ 206 4 - 1) ∨ ¬ (0 ≤ p_ ∧ p_ ≤ 10) ∨ ¬ (0 ≤ w_ ∧ w_ ≤ 1) then -1000001 else oddsR (σ 206) p_ h_.toNat w_) (fun u => ∃ (g : Nat → Int), u = if ¬ (0 ≤ h_ ∧ h_ ≤ σ 206 4 - 1) ∨ ¬ (0 ≤ p_ ∧ p_ ≤ 10) ∨ ¬ (0 ≤ w_ ∧ w_ ≤ 1) then σ else us (us σ 212 (σ 206)) 210 g) := by
  refine CLe_of (by decide) (Nat.le_of_ble_eq_true rfl) ?_
  intro p e R s m args below meth c Q hx hb hml hown hts hK hRf hRl hW hret ls hl
  have hown : s.vm.findClass "LovePartsModel" = some m.cls := hown
  have hS : va_S (AB B) s.heap s.heap [] := va_S.rf
  have hl : lv_has ls 14 [(0, .ref (B + 202)), (1, .int (iI (h_))), (2, .int (iI (p_))), (3, .int (iI (w_)))] := hl
  have f4 : 0 ≤ σ 206 4 ∧ σ 206 4 ≤ 4 := by rcases hok with h | h; (· omega); (· exact ⟨by have := h.1; omega, h.1.2⟩)
  refine lv_aload_n hx hb dX12_odds_0 rfl (lv_at hl 0 rfl) ?_
  refine lv_iload_n hx hb dX12_odds_1 rfl (lv_at hl 1 rfl) ?_
  refine k_vi (fr := 4) (lo := 93) (r := (if 0 ≤ h_ ∧ h_ ≤ σ 206 4 - 1 then 1 else 0)) (As := [.int (iI (h_))]) (rest := []) hx hb hml hown hts hK hRf hRl hW hS (c_X12_isHeir l D cy B σ h_ (show -2147483648 ≤ h_ ∧ h_ < 2147483648 from (by first | assumption | omega | (simp only [tpL_25, List.length_cons, List.length_nil]; omega))) (show 0 ≤ σ 206 4 ∧ σ 206 4 ≤ 4 from (by first | assumption | omega | (simp only [tpL_25, List.length_cons, List.length_nil]; omega)))) vX12_isHeir ⟨w_990, w_27⟩ w_988 (by decide) e_202 rfl ⟨Nat.le_of_ble_eq_true rfl, Nat.le_of_ble_eq_true rfl⟩ hl.1 rfl (Nat.le_of_ble_eq_true rfl) ⟨Nat.zero_le _, Nat.zero_le _⟩ dX12_odds_2 (fun H locs hW hS => ?_)
  refine zi_beq (tgt := 30) hx hb dX12_odds_5 (by decide) (fun c5 => ?_) (fun c5 => ?_)
  · refine k_ldc2 hx hb hown hts (v := -1000001) (by decide) w_1134 dX12_odds_30 ?_
    exact hret _ _ _ _ _ _ dX12_odds_33 hW hS ⟨by (repeat' split) <;> first | rfl | omega, ⟨σ 210, by (repeat' split) <;> first | rfl | omega⟩⟩
  · obtain ⟨n_, rfl⟩ : ∃ h : Nat, h_ = (h : Int) := ⟨h_.toNat, by omega⟩
    have hok := hok.resolve_left (by omega)
    obtain ⟨o4, o0, o1, o2, o3, o5, o6, o7, oH⟩ := id hok
    have hmn : ((mn (σ 206) : Nat) : Int) = σ 206 4 := by unfold mn; omega
    have hp2 := p2_bd (k := mn (σ 206)) (by omega)
    have hp16 := p2_16 (k := mn (σ 206)) (by omega)
    refine lv_iload_n hx hb dX12_odds_8 rfl (lv_at hl 2 rfl) ?_
    refine zi_i2l hx hb dX12_odds_9 (by omega) ?_
    refine zi_lcon (z := 0) hx hb dX12_odds_10 (by decide) ?_
    refine k_ldc2 hx hb hown hts (v := 10) (by decide) w_1133 dX12_odds_11 ?_
    refine k_si (fr := 4) (lo := 93) (r := (if 0 ≤ p_ ∧ p_ ≤ 10 then 1 else 0)) (As := [.long (lI (p_)), .long (lI (0)), .long (lI (10))]) (rest := []) hx hb hml hown hts hK hRf hRl hW hS (c_X12_in l D cy B σ p_ 0 10 (show -9223372036854775808 ≤ p_ ∧ p_ < 9223372036854775808 from (by first | assumption | omega | (simp only [tpL_25, List.length_cons, List.length_nil]; omega))) (show -9223372036854775808 ≤ 0 ∧ 0 < 9223372036854775808 from (by first | assumption | omega | (simp only [tpL_25, List.length_cons, List.length_nil]; omega))) (show -9223372036854775808 ≤ 10 ∧ 10 < 9223372036854775808 from (by first | assumption | omega | (simp only [tpL_25, List.length_cons, List.length_nil]; omega)))) vX12_in w_904 w_903 ⟨Nat.le_of_ble_eq_true rfl, Nat.le_of_ble_eq_true rfl⟩ hl.1 rfl (Nat.le_of_ble_eq_true rfl) ⟨Nat.zero_le _, Nat.zero_le _⟩ dX12_odds_14 (fun H locs hW hS => ?_)
    refine zi_beq (tgt := 30) hx hb dX12_odds_17 (by decide) (fun c17 => ?_) (fun c17 => ?_)
    · refine k_ldc2 hx hb hown hts (v := -1000001) (by decide) w_1134 dX12_odds_30 ?_
      exact hret _ _ _ _ _ _ dX12_odds_33 hW hS ⟨by (repeat' split) <;> first | rfl | omega, ⟨σ 210, by (repeat' split) <;> first | rfl | omega⟩⟩
    · refine lv_iload_n hx hb dX12_odds_20 rfl (lv_at hl 3 rfl) ?_
      refine zi_i2l hx hb dX12_odds_21 (by omega) ?_
      refine zi_lcon (z := 0) hx hb dX12_odds_22 (by decide) ?_
      refine zi_lcon (z := 1) hx hb dX12_odds_23 (by decide) ?_
      refine k_si (fr := 4) (lo := 93) (r := (if 0 ≤ w_ ∧ w_ ≤ 1 then 1 else 0)) (As := [.long (lI (w_)), .long (lI (0)), .long (lI (1))]) (rest := []) hx hb hml hown hts hK hRf hRl hW hS (c_X12_in l D cy B σ w_ 0 1 (show -9223372036854775808 ≤ w_ ∧ w_ < 9223372036854775808 from (by first | assumption | omega | (simp only [tpL_25, List.length_cons, List.length_nil]; omega))) (show -9223372036854775808 ≤ 0 ∧ 0 < 9223372036854775808 from (by first | assumption | omega | (simp only [tpL_25, List.length_cons, List.length_nil]; omega))) (show -9223372036854775808 ≤ 1 ∧ 1 < 9223372036854775808 from (by first | assumption | omega | (simp only [tpL_25, List.length_cons, List.length_nil]; omega)))) vX12_in w_904 w_903 ⟨Nat.le_of_ble_eq_true rfl, Nat.le_of_ble_eq_true rfl⟩ hl.1 rfl (Nat.le_of_ble_eq_true rfl) ⟨Nat.zero_le _, Nat.zero_le _⟩ dX12_odds_24 (fun H locs hW hS => ?_)
      refine zi_bne (tgt := 34) hx hb dX12_odds_27 (by decide) (fun c27 => ?_) (fun c27 => ?_)
      · refine lv_aload_n hx hb dX12_odds_34 rfl (lv_at hl 0 rfl) ?_
        refine k_vv (fr := 4) (lo := 93) (σ' := (us σ 212 (σ 206))) (As := []) (rest := []) hx hb hml hown hts hK hRf hRl hW hS (c_X12_putAside l D cy B σ  ) vX12_putAside ⟨w_1066, w_37⟩ w_1064 (by decide) e_202 rfl ⟨Nat.le_of_ble_eq_true rfl, Nat.le_of_ble_eq_true rfl⟩ hl.1 rfl (Nat.le_of_ble_eq_true rfl) ⟨Nat.zero_le _, Nat.zero_le _⟩ dX12_odds_35 (fun H locs hW hS => ?_)
        refine zi_lcon (z := 0) hx hb dX12_odds_38 (by decide) ?_
        refine lv_lstore (lv' := [(4, .long (lI (0))), (0, .ref (B + 202)), (1, .int (iI (((n_ : Nat) : Int)))), (2, .int (iI (p_))), (3, .int (iI (w_)))]) hx hb dX12_odds_39 hl (by decide) rfl (fun ls hl => ?_)
        refine zi_lcon (z := 1) hx hb dX12_odds_41 (by decide) ?_
        refine lv_lstore (lv' := [(6, .long (lI (1))), (4, .long (lI (0))), (0, .ref (B + 202)), (1, .int (iI (((n_ : Nat) : Int)))), (2, .int (iI (p_))), (3, .int (iI (w_)))]) hx hb dX12_odds_42 hl (by decide) rfl (fun ls hl => ?_)
        refine zi_con hx hb dX12_odds_44 ?_
        refine lv_istore (lv' := [(8, .int (iI (0))), (6, .long (lI (1))), (4, .long (lI (0))), (0, .ref (B + 202)), (1, .int (iI (((n_ : Nat) : Int)))), (2, .int (iI (p_))), (3, .int (iI (w_)))]) hx hb dX12_odds_45 hl (by decide) rfl (fun ls hl => ?_)
        have L47 : ∀ (n47 : Nat) (h_ : Nat) (H : Heap) (locs : List Loc) (ls : Array Slot), 4 - h_ < n47 → ((h_ : Int) ≤ σ 206 4) → wd D cy B (us σ 212 (σ 206)) H → va_S (AB B) s.heap H locs → lv_has ls 14 [(8, .int (iI (((h_ : Nat) : Int)))), (6, .long (lI (blw (σ 206) h_))), (4, .long (lI (0))), (0, .ref (B + 202)), (1, .int (iI (((n_ : Nat) : Int)))), (2, .int (iI (p_))), (3, .int (iI (w_)))] → W p l e R s m args below meth c H locs 0 0 Q (F0 m 47 ls []) := by
          intro n47
          induction n47 with
          | zero => intro h_ H locs ls hms; omega
          | succ n47 ih47 =>
            intro h_ H locs ls hms47 hh hW hS hl
            refine lv_iload hx hb dX12_odds_47 (lv_at hl 0 rfl) ?_
            refine lv_aload_n hx hb dX12_odds_49 rfl (lv_at hl 3 rfl) ?_
            refine wz_get hx hb hts hown hK hW 202 5 (by decide) e_202 rfl (by decide) inG12 w_820 rfl rfl dX12_odds_50 ?_
            refine zi_con hx hb dX12_odds_53 ?_
            refine wz_ald hx hb hK hW 206 4 (by decide) e_206 (by omega) (by omega) (by decide) dX12_odds_54 ?_
            refine zi_top (y := σ 206 4) (by (first | rfl | (simp [us, uf, nS] <;> omega))) ?_
            refine zi_cge (tgt := 90) hx hb dX12_odds_55 (by decide) (by omega) (by omega) (fun c55 => ?_) (fun c55 => ?_)
            · have hh7 : h_ = mn (σ 206) := by omega
              refine zi_con hx hb dX12_odds_90 ?_
              refine lv_istore (lv' := [(8, .int (iI (0))), (6, .long (lI (blw (σ 206) h_))), (4, .long (lI (0))), (0, .ref (B + 202)), (1, .int (iI (((n_ : Nat) : Int)))), (2, .int (iI (p_))), (3, .int (iI (w_)))]) hx hb dX12_odds_91 hl (by decide) rfl (fun ls hl => ?_)
              have L93 : ∀ (n93 : Nat) (s_ : Nat) (g_ : Nat → Int) (H : Heap) (locs : List Loc) (ls : Array Slot), 16 - s_ < n93 → ((s_ : Int) ≤ p2 (mn (σ 206))) → wd D cy B (us (us σ 212 (σ 206)) 210 g_) H → va_S (AB B) s.heap H locs → lv_has ls 14 [(8, .int (iI (((s_ : Nat) : Int)))), (6, .long (lI (blw (σ 206) h_))), (4, .long (lI ((abv (σ 206) p_ n_ s_)))), (0, .ref (B + 202)), (1, .int (iI (((n_ : Nat) : Int)))), (2, .int (iI (p_))), (3, .int (iI (w_)))] → W p l e R s m args below meth c H locs 0 0 Q (F0 m 93 ls []) := by
                intro n93
                induction n93 with
                | zero => intro s_ g_ H locs ls hms; omega
                | succ n93 ih93 =>
                  intro s_ g_ H locs ls hms93 hs1 hW hS hl
                  refine lv_iload hx hb dX12_odds_93 (lv_at hl 0 rfl) ?_
                  refine zi_con hx hb dX12_odds_95 ?_
                  refine lv_aload_n hx hb dX12_odds_96 rfl (lv_at hl 3 rfl) ?_
                  refine wz_get hx hb hts hown hK hW 202 5 (by decide) e_202 rfl (by decide) inG12 w_820 rfl rfl dX12_odds_97 ?_
                  refine zi_con hx hb dX12_odds_100 ?_
                  refine wz_ald hx hb hK hW 206 4 (by decide) e_206 (by omega) (by omega) (by decide) dX12_odds_101 ?_
                  refine zi_top (y := σ 206 4) (by (first | rfl | (simp [us, uf, nS] <;> omega))) ?_
                  refine zi_shl (k := mn (σ 206)) hx hb (by omega) (by omega) dX12_odds_102 ?_
                  refine zi_cge (tgt := 313) hx hb dX12_odds_103 (by decide) (by omega) (by omega) (fun c103 => ?_) (fun c103 => ?_)
                  · have hs7 : 2 ^ mn (σ 206) = s_ := by have := p2_pow (mn (σ 206)); omega
                    have hab : 0 ≤ (abv (σ 206) p_ n_ s_) ∧ (abv (σ 206) p_ n_ s_) ≤ 1000000 := by have := abv_bd (f := σ 206) (p := p_) (by omega) n_ (by omega) s_; omega
                    have hbl : 0 ≤ blw (σ 206) h_ ∧ blw (σ 206) h_ ≤ 1000000 := by have := blw_bd (f := σ 206) (n := h_); have := ten_pow (n := h_) (by omega); omega
                    have hbl2 := (blw_bd (f := σ 206) (n := h_)).1
                    refine lv_lload hx hb dX12_odds_313 (lv_at hl 2 rfl) ?_
                    refine lv_lstore (lv' := [(8, .long (lI ((abv (σ 206) p_ n_ s_)))), (6, .long (lI (blw (σ 206) h_))), (4, .long (lI ((abv (σ 206) p_ n_ s_)))), (0, .ref (B + 202)), (1, .int (iI (((n_ : Nat) : Int)))), (2, .int (iI (p_))), (3, .int (iI (w_)))]) hx hb dX12_odds_315 hl (by decide) rfl (fun ls hl => ?_)
                    refine lv_lload hx hb dX12_odds_317 (lv_at hl 1 rfl) ?_
                    refine lv_lstore (lv' := [(10, .long (lI (blw (σ 206) h_))), (8, .long (lI ((abv (σ 206) p_ n_ s_)))), (6, .long (lI (blw (σ 206) h_))), (4, .long (lI ((abv (σ 206) p_ n_ s_)))), (0, .ref (B + 202)), (1, .int (iI (((n_ : Nat) : Int)))), (2, .int (iI (p_))), (3, .int (iI (w_)))]) hx hb dX12_odds_319 hl (by decide) rfl (fun ls hl => ?_)
                    have L321 : ∀ (n321 : Nat) (x_ : Int) (y_ : Int) (H : Heap) (locs : List Loc) (ls : Array Slot), y_.toNat < n321 → ((0 ≤ x_ ∧ x_ ≤ 1000000) ∧ (0 ≤ y_ ∧ y_ ≤ 1000000) ∧ (0 < x_ ∨ 0 < y_)) → (Nat.gcd x_.toNat y_.toNat = Nat.gcd (abv (σ 206) p_ n_ s_).toNat (blw (σ 206) h_).toNat) → wd D cy B (us (us σ 212 (σ 206)) 210 g_) H → va_S (AB B) s.heap H locs → lv_has ls 14 [(10, .long (lI (y_))), (8, .long (lI (x_))), (6, .long (lI (blw (σ 206) h_))), (4, .long (lI ((abv (σ 206) p_ n_ s_)))), (0, .ref (B + 202)), (1, .int (iI (((n_ : Nat) : Int)))), (2, .int (iI (p_))), (3, .int (iI (w_)))] → W p l e R s m args below meth c H locs 0 0 Q (F0 m 321 ls []) := by
                      intro n321
                      induction n321 with
                      | zero => intro x_ y_ H locs ls hms; omega
                      | succ n321 ih321 =>
                        intro x_ y_ H locs ls hms321 hxy hgc hW hS hl
                        refine lv_lload hx hb dX12_odds_321 (lv_at hl 0 rfl) ?_
                        refine zi_lcon (z := 0) hx hb dX12_odds_323 (by decide) ?_
                        refine zi_lcmp hx hb dX12_odds_324 (by omega) (by omega) ?_
                        refine zi_eq (tgt := 346) hx hb dX12_odds_325 (by decide) (sg_bd _ _) (fun c325 => ?_) (fun c325 => ?_)
                        · have hy0 : y_ = 0 := (sg_eq _ _).mp c325
                          have hxg : x_ = ((Nat.gcd (abv (σ 206) p_ n_ s_).toNat (blw (σ 206) h_).toNat : Nat) : Int) := by rw [← hgc, hy0]; simp; omega
                          refine lv_iload_n hx hb dX12_odds_346 rfl (lv_at hl 7 rfl) ?_
                          refine zi_ne (tgt := 358) hx hb dX12_odds_347 (by decide) (by omega) (fun c347 => ?_) (fun c347 => ?_)
                          · refine lv_lload hx hb dX12_odds_358 (lv_at hl 2 rfl) ?_
                            refine lv_lload hx hb dX12_odds_360 (lv_at hl 1 rfl) ?_
                            refine zi_ldiv hx hb dX12_odds_362 (by omega) (by omega) ?_
                            exact hret _ _ _ _ _ _ dX12_odds_363 hW hS ⟨by rw [if_neg (by omega), Int.toNat_natCast]; unfold oddsR; rw [hs7, ← hh7, ← hxg]; first | rw [if_pos (by omega)] | rw [if_neg (by omega)], ⟨g_, by rw [if_neg (by omega)]⟩⟩
                          · refine lv_lload hx hb dX12_odds_350 (lv_at hl 3 rfl) ?_
                            refine lv_lload hx hb dX12_odds_352 (lv_at hl 1 rfl) ?_
                            refine zi_ldiv hx hb dX12_odds_354 (by omega) (by omega) ?_
                            refine lv_goto (tgt := 363) hx hb dX12_odds_355 (by decide) ?_
                            exact hret _ _ _ _ _ _ dX12_odds_363 hW hS ⟨by rw [if_neg (by omega), Int.toNat_natCast]; unfold oddsR; rw [hs7, ← hh7, ← hxg]; first | rw [if_pos (by omega)] | rw [if_neg (by omega)], ⟨g_, by rw [if_neg (by omega)]⟩⟩
                        · have hy0 : ¬ y_ = 0 := fun e9 => c325 ((sg_eq _ _).mpr e9)
                          refine lv_lload hx hb dX12_odds_328 (lv_at hl 1 rfl) ?_
                          refine lv_lload hx hb dX12_odds_330 (lv_at hl 0 rfl) ?_
                          refine zi_lrem hx hb dX12_odds_332 (by omega) (by omega) ?_
                          refine lv_lstore (lv' := [(12, .long (lI (x_ % y_))), (10, .long (lI (y_))), (8, .long (lI (x_))), (6, .long (lI (blw (σ 206) h_))), (4, .long (lI ((abv (σ 206) p_ n_ s_)))), (0, .ref (B + 202)), (1, .int (iI (((n_ : Nat) : Int)))), (2, .int (iI (p_))), (3, .int (iI (w_)))]) hx hb dX12_odds_333 hl (by decide) rfl (fun ls hl => ?_)
                          refine lv_lload hx hb dX12_odds_335 (lv_at hl 1 rfl) ?_
                          refine lv_lstore (lv' := [(8, .long (lI (y_))), (12, .long (lI (x_ % y_))), (10, .long (lI (y_))), (6, .long (lI (blw (σ 206) h_))), (4, .long (lI ((abv (σ 206) p_ n_ s_)))), (0, .ref (B + 202)), (1, .int (iI (((n_ : Nat) : Int)))), (2, .int (iI (p_))), (3, .int (iI (w_)))]) hx hb dX12_odds_337 hl (by decide) rfl (fun ls hl => ?_)
                          refine lv_lload hx hb dX12_odds_339 (lv_at hl 1 rfl) ?_
                          refine lv_lstore (lv' := [(10, .long (lI (x_ % y_))), (8, .long (lI (y_))), (12, .long (lI (x_ % y_))), (6, .long (lI (blw (σ 206) h_))), (4, .long (lI ((abv (σ 206) p_ n_ s_)))), (0, .ref (B + 202)), (1, .int (iI (((n_ : Nat) : Int)))), (2, .int (iI (p_))), (3, .int (iI (w_)))]) hx hb dX12_odds_341 hl (by decide) rfl (fun ls hl => ?_)
                          refine lv_goto (tgt := 321) hx hb dX12_odds_343 (by decide) ?_
                          exact ih321 y_ (x_ % y_) _ _ _ (by have := Int.emod_lt_of_pos x_ (show 0 < y_ by omega); have := Int.emod_nonneg x_ (show ¬ y_ = 0 by omega); omega) ⟨by omega, ⟨Int.emod_nonneg _ (by omega), by have := Int.emod_lt_of_pos x_ (show 0 < y_ by omega); omega⟩, Or.inl (by omega)⟩ ((gcd_step (by omega) (by omega)).trans hgc) hW hS (lv_sub hl [0, 1, 3, 4, 5, 6, 7, 8] rfl)
                    exact L321 _ (abv (σ 206) p_ n_ s_) (blw (σ 206) h_) _ _ _ (Nat.lt_succ_self _) ⟨hab, hbl, Or.inr (by omega)⟩ rfl hW hS (lv_sub hl [0, 1, 2, 3, 4, 5, 6, 7] rfl)
                  · have hs16 : s_ < 16 := by omega
                    refine zi_lcon (z := 1) hx hb dX12_odds_106 (by decide) ?_
                    refine lv_lstore (lv' := [(9, .long (lI (1))), (8, .int (iI (((s_ : Nat) : Int)))), (6, .long (lI (blw (σ 206) h_))), (4, .long (lI ((abv (σ 206) p_ n_ s_)))), (0, .ref (B + 202)), (1, .int (iI (((n_ : Nat) : Int)))), (2, .int (iI (p_))), (3, .int (iI (w_)))]) hx hb dX12_odds_107 hl (by decide) rfl (fun ls hl => ?_)
                    refine zi_con hx hb dX12_odds_109 ?_
                    refine lv_istore (lv' := [(11, .int (iI (0))), (9, .long (lI (1))), (8, .int (iI (((s_ : Nat) : Int)))), (6, .long (lI (blw (σ 206) h_))), (4, .long (lI ((abv (σ 206) p_ n_ s_)))), (0, .ref (B + 202)), (1, .int (iI (((n_ : Nat) : Int)))), (2, .int (iI (p_))), (3, .int (iI (w_)))]) hx hb dX12_odds_110 hl (by decide) rfl (fun ls hl => ?_)
                    have L112 : ∀ (n112 : Nat) (k_ : Nat) (H : Heap) (locs : List Loc) (ls : Array Slot), 4 - k_ < n112 → ((k_ : Int) ≤ σ 206 4) → wd D cy B (us (us (us σ 212 (σ 206)) 210 g_) 206 (lie (σ 206) ((s_ : Nat) : Int) k_)) H → va_S (AB B) s.heap H locs → lv_has ls 14 [(11, .int (iI (((k_ : Nat) : Int)))), (9, .long (lI (prq (σ 206) p_ ((s_ : Nat) : Int) k_))), (8, .int (iI (((s_ : Nat) : Int)))), (6, .long (lI (blw (σ 206) h_))), (4, .long (lI ((abv (σ 206) p_ n_ s_)))), (0, .ref (B + 202)), (1, .int (iI (((n_ : Nat) : Int)))), (2, .int (iI (p_))), (3, .int (iI (w_)))] → W p l e R s m args below meth c H locs 0 0 Q (F0 m 112 ls []) := by
                      intro n112
                      induction n112 with
                      | zero => intro k_ H locs ls hms; omega
                      | succ n112 ih112 =>
                        intro k_ H locs ls hms112 hk hW hS hl
                        have hli := okV_lie hok ((s_ : Nat) : Int) (n := k_) hk
                        refine lv_iload hx hb dX12_odds_112 (lv_at hl 0 rfl) ?_
                        refine lv_aload_n hx hb dX12_odds_114 rfl (lv_at hl 5 rfl) ?_
                        refine wz_get hx hb hts hown hK hW 202 5 (by decide) e_202 rfl (by decide) inG12 w_820 rfl rfl dX12_odds_115 ?_
                        refine zi_con hx hb dX12_odds_118 ?_
                        refine wz_ald hx hb hK hW 206 4 (by decide) e_206 (by omega) (by omega) (by decide) dX12_odds_119 ?_
                        refine zi_top (y := σ 206 4) (by exact hli.2) ?_
                        refine zi_cge (tgt := 227) hx hb dX12_odds_120 (by decide) (by omega) (by omega) (fun c120 => ?_) (fun c120 => ?_)
                        · have hk7 : k_ = mn (σ 206) := by omega
                          have hmq : mn (lie (σ 206) ((s_ : Nat) : Int) k_) = mn (σ 206) := by show ((lie (σ 206) ((s_ : Nat) : Int) k_) 4).toNat = (σ 206 4).toNat; rw [hli.2]
                          refine lv_aload_n hx hb dX12_odds_227 rfl (lv_at hl 5 rfl) ?_
                          refine lv_aload_n hx hb dX12_odds_228 rfl (lv_at hl 5 rfl) ?_
                          refine wz_get hx hb hts hown hK hW 202 5 (by decide) e_202 rfl (by decide) inG12 w_820 rfl rfl dX12_odds_229 ?_
                          refine zi_con hx hb dX12_odds_232 ?_
                          refine wz_ald hx hb hK hW 206 3 (by decide) e_206 (by omega) (by omega) (by decide) dX12_odds_233 ?_
                          refine zi_top (y := σ 206 3) (by (show (lie (σ 206) ((s_ : Nat) : Int) k_) 3 = _; rw [lie_at, if_neg (by omega)])) ?_
                          refine k_vv (fr := 4) (lo := 93) (σ' := (us (us (us (us σ 212 (σ 206)) 210 g_) 206 (lie (σ 206) ((s_ : Nat) : Int) k_)) 210 (cpy (mn ((us (us (us σ 212 (σ 206)) 210 g_) 206 (lie (σ 206) ((s_ : Nat) : Int) k_)) 206)) (shr ((us (us (us σ 212 (σ 206)) 210 g_) 206 (lie (σ 206) ((s_ : Nat) : Int) k_)) 206) (σ 206 3)) ((us (us (us σ 212 (σ 206)) 210 g_) 206 (lie (σ 206) ((s_ : Nat) : Int) k_)) 210)))) (As := [.int (iI (σ 206 3))]) (rest := []) hx hb hml hown hts hK hRf hRl hW hS (c_X12_findShares l D cy B (us (us (us σ 212 (σ 206)) 210 g_) 206 (lie (σ 206) ((s_ : Nat) : Int) k_)) (σ 206 3) (show okV ((us (us (us σ 212 (σ 206)) 210 g_) 206 (lie (σ 206) ((s_ : Nat) : Int) k_)) 206) from (by show okV (lie (σ 206) ((s_ : Nat) : Int) k_); exact hli.1)) (show 0 ≤ (σ 206 3) ∧ (σ 206 3) ≤ 3 from (by first | assumption | omega | (simp only [tpL_25, List.length_cons, List.length_nil]; omega)))) vX12_findShares ⟨w_1012, w_31⟩ w_1010 (by decide) e_202 rfl ⟨Nat.le_of_ble_eq_true rfl, Nat.le_of_ble_eq_true rfl⟩ hl.1 rfl (Nat.le_of_ble_eq_true rfl) ⟨Nat.zero_le _, Nat.zero_le _⟩ dX12_odds_234 (fun H locs hW hS => ?_)
                          refine zi_con hx hb dX12_odds_237 ?_
                          refine lv_istore (lv' := [(11, .int (iI (0))), (9, .long (lI (prq (σ 206) p_ ((s_ : Nat) : Int) k_))), (8, .int (iI (((s_ : Nat) : Int)))), (6, .long (lI (blw (σ 206) h_))), (4, .long (lI ((abv (σ 206) p_ n_ s_)))), (0, .ref (B + 202)), (1, .int (iI (((n_ : Nat) : Int)))), (2, .int (iI (p_))), (3, .int (iI (w_)))]) hx hb dX12_odds_238 hl (by decide) rfl (fun ls hl => ?_)
                          refine zi_con hx hb dX12_odds_240 ?_
                          refine lv_istore (lv' := [(12, .int (iI (1))), (11, .int (iI (0))), (9, .long (lI (prq (σ 206) p_ ((s_ : Nat) : Int) k_))), (8, .int (iI (((s_ : Nat) : Int)))), (6, .long (lI (blw (σ 206) h_))), (4, .long (lI ((abv (σ 206) p_ n_ s_)))), (0, .ref (B + 202)), (1, .int (iI (((n_ : Nat) : Int)))), (2, .int (iI (p_))), (3, .int (iI (w_)))]) hx hb dX12_odds_241 hl (by decide) rfl (fun ls hl => ?_)
                          have L243 : ∀ (n243 : Nat) (q_ : Nat) (H : Heap) (locs : List Loc) (ls : Array Slot), 4 - q_ < n243 → (1 ≤ q_ ∧ (q_ : Int) ≤ σ 206 4) → wd D cy B (us (us (us (us σ 212 (σ 206)) 210 g_) 206 (lie (σ 206) ((s_ : Nat) : Int) k_)) 210 (cpy (mn ((us (us (us σ 212 (σ 206)) 210 g_) 206 (lie (σ 206) ((s_ : Nat) : Int) k_)) 206)) (shr ((us (us (us σ 212 (σ 206)) 210 g_) 206 (lie (σ 206) ((s_ : Nat) : Int) k_)) 206) (σ 206 3)) ((us (us (us σ 212 (σ 206)) 210 g_) 206 (lie (σ 206) ((s_ : Nat) : Int) k_)) 210))) H → va_S (AB B) s.heap H locs → lv_has ls 14 [(12, .int (iI (((q_ : Nat) : Int)))), (11, .int (iI (((fg (shr (lie (σ 206) ((s_ : Nat) : Int) k_) (σ 206 3)) q_ : Nat) : Int)))), (9, .long (lI (prq (σ 206) p_ ((s_ : Nat) : Int) k_))), (8, .int (iI (((s_ : Nat) : Int)))), (6, .long (lI (blw (σ 206) h_))), (4, .long (lI ((abv (σ 206) p_ n_ s_)))), (0, .ref (B + 202)), (1, .int (iI (((n_ : Nat) : Int)))), (2, .int (iI (p_))), (3, .int (iI (w_)))] → W p l e R s m args below meth c H locs 0 0 Q (F0 m 243 ls []) := by
                            intro n243
                            induction n243 with
                            | zero => intro q_ H locs ls hms; omega
                            | succ n243 ih243 =>
                              intro q_ H locs ls hms243 hq hW hS hl
                              have hfg := fg_lt (shr (lie (σ 206) ((s_ : Nat) : Int) k_) (σ 206 3)) (n := q_) (by omega)
                              refine lv_iload hx hb dX12_odds_243 (lv_at hl 0 rfl) ?_
                              refine lv_aload_n hx hb dX12_odds_245 rfl (lv_at hl 6 rfl) ?_
                              refine wz_get hx hb hts hown hK hW 202 5 (by decide) e_202 rfl (by decide) inG12 w_820 rfl rfl dX12_odds_246 ?_
                              refine zi_con hx hb dX12_odds_249 ?_
                              refine wz_ald hx hb hK hW 206 4 (by decide) e_206 (by omega) (by omega) (by decide) dX12_odds_250 ?_
                              refine zi_top (y := σ 206 4) (by exact hli.2) ?_
                              refine zi_cge (tgt := 286) hx hb dX12_odds_251 (by decide) (by omega) (by omega) (fun c251 => ?_) (fun c251 => ?_)
                              · have hgs : fg (shr (lie (σ 206) ((s_ : Nat) : Int) k_) (σ 206 3)) q_ = gst (σ 206) ((s_ : Nat) : Int) := by unfold gst; rw [← hk7, show q_ = k_ from by omega]
                                refine lv_lload hx hb dX12_odds_286 (lv_at hl 5 rfl) ?_
                                refine lv_iload hx hb dX12_odds_288 (lv_at hl 1 rfl) ?_
                                refine lv_iload_n hx hb dX12_odds_290 rfl (lv_at hl 7 rfl) ?_
                                refine zi_cne (tgt := 299) hx hb dX12_odds_291 (by decide) (by omega) (by omega) (fun c291 => ?_) (fun c291 => ?_)
                                · refine zi_lcon (z := 0) hx hb dX12_odds_299 (by decide) ?_
                                  refine zi_ladd hx hb dX12_odds_300 ?_
                                  refine lv_lstore (lv' := [(4, .long (lI ((abv (σ 206) p_ n_ s_) + 0))), (12, .int (iI (((q_ : Nat) : Int)))), (11, .int (iI (((fg (shr (lie (σ 206) ((s_ : Nat) : Int) k_) (σ 206 3)) q_ : Nat) : Int)))), (9, .long (lI (prq (σ 206) p_ ((s_ : Nat) : Int) k_))), (8, .int (iI (((s_ : Nat) : Int)))), (6, .long (lI (blw (σ 206) h_))), (0, .ref (B + 202)), (1, .int (iI (((n_ : Nat) : Int)))), (2, .int (iI (p_))), (3, .int (iI (w_)))]) hx hb dX12_odds_301 hl (by decide) rfl (fun ls hl => ?_)
                                  refine lv_aload_n hx hb dX12_odds_303 rfl (lv_at hl 6 rfl) ?_
                                  refine k_vv (fr := 4) (lo := 93) (σ' := (us (us (us (us (us σ 212 (σ 206)) 210 g_) 206 (lie (σ 206) ((s_ : Nat) : Int) k_)) 210 (cpy (mn ((us (us (us σ 212 (σ 206)) 210 g_) 206 (lie (σ 206) ((s_ : Nat) : Int) k_)) 206)) (shr ((us (us (us σ 212 (σ 206)) 210 g_) 206 (lie (σ 206) ((s_ : Nat) : Int) k_)) 206) (σ 206 3)) ((us (us (us σ 212 (σ 206)) 210 g_) 206 (lie (σ 206) ((s_ : Nat) : Int) k_)) 210))) 206 ((us (us (us (us σ 212 (σ 206)) 210 g_) 206 (lie (σ 206) ((s_ : Nat) : Int) k_)) 210 (cpy (mn ((us (us (us σ 212 (σ 206)) 210 g_) 206 (lie (σ 206) ((s_ : Nat) : Int) k_)) 206)) (shr ((us (us (us σ 212 (σ 206)) 210 g_) 206 (lie (σ 206) ((s_ : Nat) : Int) k_)) 206) (σ 206 3)) ((us (us (us σ 212 (σ 206)) 210 g_) 206 (lie (σ 206) ((s_ : Nat) : Int) k_)) 210))) 212))) (As := []) (rest := []) hx hb hml hown hts hK hRf hRl hW hS (c_X12_takeBack l D cy B (us (us (us (us σ 212 (σ 206)) 210 g_) 206 (lie (σ 206) ((s_ : Nat) : Int) k_)) 210 (cpy (mn ((us (us (us σ 212 (σ 206)) 210 g_) 206 (lie (σ 206) ((s_ : Nat) : Int) k_)) 206)) (shr ((us (us (us σ 212 (σ 206)) 210 g_) 206 (lie (σ 206) ((s_ : Nat) : Int) k_)) 206) (σ 206 3)) ((us (us (us σ 212 (σ 206)) 210 g_) 206 (lie (σ 206) ((s_ : Nat) : Int) k_)) 210)))  ) vX12_takeBack ⟨w_1070, w_38⟩ w_1068 (by decide) e_202 rfl ⟨Nat.le_of_ble_eq_true rfl, Nat.le_of_ble_eq_true rfl⟩ hl.1 rfl (Nat.le_of_ble_eq_true rfl) ⟨Nat.zero_le _, Nat.zero_le _⟩ dX12_odds_304 (fun H locs hW hS => ?_)
                                  refine lv_iinc (v := iI (((s_ : Nat) : Int) + 1)) (lv' := [(8, .int (iI (((s_ : Nat) : Int) + 1))), (4, .long (lI ((abv (σ 206) p_ n_ s_) + 0))), (12, .int (iI (((q_ : Nat) : Int)))), (11, .int (iI (((fg (shr (lie (σ 206) ((s_ : Nat) : Int) k_) (σ 206 3)) q_ : Nat) : Int)))), (9, .long (lI (prq (σ 206) p_ ((s_ : Nat) : Int) k_))), (6, .long (lI (blw (σ 206) h_))), (0, .ref (B + 202)), (1, .int (iI (((n_ : Nat) : Int)))), (2, .int (iI (p_))), (3, .int (iI (w_)))]) hx hb dX12_odds_307 hl (k := 4) rfl (iI_add _ _) (by decide) rfl (fun ls hl => ?_)
                                  refine lv_goto (tgt := 93) hx hb dX12_odds_310 (by decide) ?_
                                  have hsb9 : us (us σ 212 (σ 206)) 210 (cpy (mn (lie (σ 206) ((s_ : Nat) : Int) k_)) (shr (lie (σ 206) ((s_ : Nat) : Int) k_) (σ 206 3)) g_) = us (us (us (us (us σ 212 (σ 206)) 210 g_) 206 (lie (σ 206) ((s_ : Nat) : Int) k_)) 210 (cpy (mn (lie (σ 206) ((s_ : Nat) : Int) k_)) (shr (lie (σ 206) ((s_ : Nat) : Int) k_) (σ 206 3)) g_)) 206 (σ 206) := by funext c9; by_cases a1 : c9 = 210; (· subst a1; rfl); by_cases a2 : c9 = 206; (· subst a2; rfl); simp [us, a1, a2]
                                  have e3 : abv (σ 206) p_ n_ (s_ + 1) = (abv (σ 206) p_ n_ s_) + (if gst (σ 206) ((s_ : Nat) : Int) = n_ then prq (σ 206) p_ ((s_ : Nat) : Int) (mn (σ 206)) else 0) := rfl
                                  first | (rw [if_pos (by rw [← hgs]; omega), ← hk7] at e3) | (rw [if_neg (by rw [← hgs]; omega)] at e3)
                                  exact ih93 (s_ + 1) (cpy (mn (lie (σ 206) ((s_ : Nat) : Int) k_)) (shr (lie (σ 206) ((s_ : Nat) : Int) k_) (σ 206 3)) g_) _ _ _ (by omega) (by omega) (by rw [hsb9]; exact hW) hS (lv_sub hl [0, 5, 1, 6, 7, 8, 9] (by rw [e3]; rfl))
                                · refine lv_lload hx hb dX12_odds_294 (lv_at hl 2 rfl) ?_
                                  refine lv_goto (tgt := 300) hx hb dX12_odds_296 (by decide) ?_
                                  refine zi_ladd hx hb dX12_odds_300 ?_
                                  refine lv_lstore (lv' := [(4, .long (lI ((abv (σ 206) p_ n_ s_) + (prq (σ 206) p_ ((s_ : Nat) : Int) k_)))), (12, .int (iI (((q_ : Nat) : Int)))), (11, .int (iI (((fg (shr (lie (σ 206) ((s_ : Nat) : Int) k_) (σ 206 3)) q_ : Nat) : Int)))), (9, .long (lI (prq (σ 206) p_ ((s_ : Nat) : Int) k_))), (8, .int (iI (((s_ : Nat) : Int)))), (6, .long (lI (blw (σ 206) h_))), (0, .ref (B + 202)), (1, .int (iI (((n_ : Nat) : Int)))), (2, .int (iI (p_))), (3, .int (iI (w_)))]) hx hb dX12_odds_301 hl (by decide) rfl (fun ls hl => ?_)
                                  refine lv_aload_n hx hb dX12_odds_303 rfl (lv_at hl 6 rfl) ?_
                                  refine k_vv (fr := 4) (lo := 93) (σ' := (us (us (us (us (us σ 212 (σ 206)) 210 g_) 206 (lie (σ 206) ((s_ : Nat) : Int) k_)) 210 (cpy (mn ((us (us (us σ 212 (σ 206)) 210 g_) 206 (lie (σ 206) ((s_ : Nat) : Int) k_)) 206)) (shr ((us (us (us σ 212 (σ 206)) 210 g_) 206 (lie (σ 206) ((s_ : Nat) : Int) k_)) 206) (σ 206 3)) ((us (us (us σ 212 (σ 206)) 210 g_) 206 (lie (σ 206) ((s_ : Nat) : Int) k_)) 210))) 206 ((us (us (us (us σ 212 (σ 206)) 210 g_) 206 (lie (σ 206) ((s_ : Nat) : Int) k_)) 210 (cpy (mn ((us (us (us σ 212 (σ 206)) 210 g_) 206 (lie (σ 206) ((s_ : Nat) : Int) k_)) 206)) (shr ((us (us (us σ 212 (σ 206)) 210 g_) 206 (lie (σ 206) ((s_ : Nat) : Int) k_)) 206) (σ 206 3)) ((us (us (us σ 212 (σ 206)) 210 g_) 206 (lie (σ 206) ((s_ : Nat) : Int) k_)) 210))) 212))) (As := []) (rest := []) hx hb hml hown hts hK hRf hRl hW hS (c_X12_takeBack l D cy B (us (us (us (us σ 212 (σ 206)) 210 g_) 206 (lie (σ 206) ((s_ : Nat) : Int) k_)) 210 (cpy (mn ((us (us (us σ 212 (σ 206)) 210 g_) 206 (lie (σ 206) ((s_ : Nat) : Int) k_)) 206)) (shr ((us (us (us σ 212 (σ 206)) 210 g_) 206 (lie (σ 206) ((s_ : Nat) : Int) k_)) 206) (σ 206 3)) ((us (us (us σ 212 (σ 206)) 210 g_) 206 (lie (σ 206) ((s_ : Nat) : Int) k_)) 210)))  ) vX12_takeBack ⟨w_1070, w_38⟩ w_1068 (by decide) e_202 rfl ⟨Nat.le_of_ble_eq_true rfl, Nat.le_of_ble_eq_true rfl⟩ hl.1 rfl (Nat.le_of_ble_eq_true rfl) ⟨Nat.zero_le _, Nat.zero_le _⟩ dX12_odds_304 (fun H locs hW hS => ?_)
                                  refine lv_iinc (v := iI (((s_ : Nat) : Int) + 1)) (lv' := [(8, .int (iI (((s_ : Nat) : Int) + 1))), (4, .long (lI ((abv (σ 206) p_ n_ s_) + (prq (σ 206) p_ ((s_ : Nat) : Int) k_)))), (12, .int (iI (((q_ : Nat) : Int)))), (11, .int (iI (((fg (shr (lie (σ 206) ((s_ : Nat) : Int) k_) (σ 206 3)) q_ : Nat) : Int)))), (9, .long (lI (prq (σ 206) p_ ((s_ : Nat) : Int) k_))), (6, .long (lI (blw (σ 206) h_))), (0, .ref (B + 202)), (1, .int (iI (((n_ : Nat) : Int)))), (2, .int (iI (p_))), (3, .int (iI (w_)))]) hx hb dX12_odds_307 hl (k := 4) rfl (iI_add _ _) (by decide) rfl (fun ls hl => ?_)
                                  refine lv_goto (tgt := 93) hx hb dX12_odds_310 (by decide) ?_
                                  have hsb9 : us (us σ 212 (σ 206)) 210 (cpy (mn (lie (σ 206) ((s_ : Nat) : Int) k_)) (shr (lie (σ 206) ((s_ : Nat) : Int) k_) (σ 206 3)) g_) = us (us (us (us (us σ 212 (σ 206)) 210 g_) 206 (lie (σ 206) ((s_ : Nat) : Int) k_)) 210 (cpy (mn (lie (σ 206) ((s_ : Nat) : Int) k_)) (shr (lie (σ 206) ((s_ : Nat) : Int) k_) (σ 206 3)) g_)) 206 (σ 206) := by funext c9; by_cases a1 : c9 = 210; (· subst a1; rfl); by_cases a2 : c9 = 206; (· subst a2; rfl); simp [us, a1, a2]
                                  have e3 : abv (σ 206) p_ n_ (s_ + 1) = (abv (σ 206) p_ n_ s_) + (if gst (σ 206) ((s_ : Nat) : Int) = n_ then prq (σ 206) p_ ((s_ : Nat) : Int) (mn (σ 206)) else 0) := rfl
                                  first | (rw [if_pos (by rw [← hgs]; omega), ← hk7] at e3) | (rw [if_neg (by rw [← hgs]; omega)] at e3)
                                  exact ih93 (s_ + 1) (cpy (mn (lie (σ 206) ((s_ : Nat) : Int) k_)) (shr (lie (σ 206) ((s_ : Nat) : Int) k_) (σ 206 3)) g_) _ _ _ (by omega) (by omega) (by rw [hsb9]; exact hW) hS (lv_sub hl [0, 5, 1, 6, 7, 8, 9] (by rw [e3]; rfl))
                              · have hv1 := shr_bd hli.1 (σ 206 3) (h := q_) (by rw [hli.2]; omega)
                                have hv2 := shr_bd hli.1 (σ 206 3) (h := fg (shr (lie (σ 206) ((s_ : Nat) : Int) k_) (σ 206 3)) q_) (by rw [hli.2]; omega)
                                refine lv_aload_n hx hb dX12_odds_254 rfl (lv_at hl 6 rfl) ?_
                                refine wz_get hx hb hts hown hK hW 202 16 (by decide) e_202 rfl (by decide) inG12 w_831 rfl rfl dX12_odds_255 ?_
                                refine lv_iload hx hb dX12_odds_258 (lv_at hl 0 rfl) ?_
                                refine wz_ald hx hb hK hW 210 q_ (by decide) e_210 (by omega) (by omega) (by decide) dX12_odds_260 ?_
                                refine zi_top (y := shr (lie (σ 206) ((s_ : Nat) : Int) k_) (σ 206 3) q_) (by (show (cpy (mn (lie (σ 206) ((s_ : Nat) : Int) k_)) (shr (lie (σ 206) ((s_ : Nat) : Int) k_) (σ 206 3)) g_) q_ = _; unfold cpy; rw [if_pos (by rw [hmq]; omega)])) ?_
                                refine lv_aload_n hx hb dX12_odds_261 rfl (lv_at hl 6 rfl) ?_
                                refine wz_get hx hb hts hown hK hW 202 16 (by decide) e_202 rfl (by decide) inG12 w_831 rfl rfl dX12_odds_262 ?_
                                refine lv_iload hx hb dX12_odds_265 (lv_at hl 1 rfl) ?_
                                refine wz_ald hx hb hK hW 210 (fg (shr (lie (σ 206) ((s_ : Nat) : Int) k_) (σ 206 3)) q_) (by decide) e_210 (by omega) (by omega) (by decide) dX12_odds_267 ?_
                                refine zi_top (y := shr (lie (σ 206) ((s_ : Nat) : Int) k_) (σ 206 3) (fg (shr (lie (σ 206) ((s_ : Nat) : Int) k_) (σ 206 3)) q_)) (by (show (cpy (mn (lie (σ 206) ((s_ : Nat) : Int) k_)) (shr (lie (σ 206) ((s_ : Nat) : Int) k_) (σ 206 3)) g_) (fg (shr (lie (σ 206) ((s_ : Nat) : Int) k_) (σ 206 3)) q_) = _; unfold cpy; rw [if_pos (by rw [hmq]; omega)])) ?_
                                refine zi_cle (tgt := 276) hx hb dX12_odds_268 (by decide) (by omega) (by omega) (fun c268 => ?_) (fun c268 => ?_)
                                · refine lv_iload hx hb dX12_odds_276 (lv_at hl 1 rfl) ?_
                                  refine lv_istore (lv' := [(11, .int (iI (((fg (shr (lie (σ 206) ((s_ : Nat) : Int) k_) (σ 206 3)) q_ : Nat) : Int)))), (12, .int (iI (((q_ : Nat) : Int)))), (9, .long (lI (prq (σ 206) p_ ((s_ : Nat) : Int) k_))), (8, .int (iI (((s_ : Nat) : Int)))), (6, .long (lI (blw (σ 206) h_))), (4, .long (lI ((abv (σ 206) p_ n_ s_)))), (0, .ref (B + 202)), (1, .int (iI (((n_ : Nat) : Int)))), (2, .int (iI (p_))), (3, .int (iI (w_)))]) hx hb dX12_odds_278 hl (by decide) rfl (fun ls hl => ?_)
                                  refine lv_iinc (v := iI (((q_ : Nat) : Int) + 1)) (lv' := [(12, .int (iI (((q_ : Nat) : Int) + 1))), (11, .int (iI (((fg (shr (lie (σ 206) ((s_ : Nat) : Int) k_) (σ 206 3)) q_ : Nat) : Int)))), (9, .long (lI (prq (σ 206) p_ ((s_ : Nat) : Int) k_))), (8, .int (iI (((s_ : Nat) : Int)))), (6, .long (lI (blw (σ 206) h_))), (4, .long (lI ((abv (σ 206) p_ n_ s_)))), (0, .ref (B + 202)), (1, .int (iI (((n_ : Nat) : Int)))), (2, .int (iI (p_))), (3, .int (iI (w_)))]) hx hb dX12_odds_280 hl (k := 1) rfl (iI_add _ _) (by decide) rfl (fun ls hl => ?_)
                                  refine lv_goto (tgt := 243) hx hb dX12_odds_283 (by decide) ?_
                                  have e4 : fg (shr (lie (σ 206) ((s_ : Nat) : Int) k_) (σ 206 3)) (q_ + 1) = (if (shr (lie (σ 206) ((s_ : Nat) : Int) k_) (σ 206 3)) (fg (shr (lie (σ 206) ((s_ : Nat) : Int) k_) (σ 206 3)) q_) < (shr (lie (σ 206) ((s_ : Nat) : Int) k_) (σ 206 3)) q_ then q_ else fg (shr (lie (σ 206) ((s_ : Nat) : Int) k_) (σ 206 3)) q_) := rfl
                                  first | (rw [if_pos (by omega)] at e4) | (rw [if_neg (by omega)] at e4)
                                  exact ih243 (q_ + 1) _ _ _ (by omega) (by omega) hW hS (lv_sub hl [0, 1, 2, 3, 4, 5, 6, 7, 8, 9] (by rw [e4]; rfl))
                                · refine lv_iload hx hb dX12_odds_271 (lv_at hl 0 rfl) ?_
                                  refine lv_goto (tgt := 278) hx hb dX12_odds_273 (by decide) ?_
                                  refine lv_istore (lv' := [(11, .int (iI (((q_ : Nat) : Int)))), (12, .int (iI (((q_ : Nat) : Int)))), (9, .long (lI (prq (σ 206) p_ ((s_ : Nat) : Int) k_))), (8, .int (iI (((s_ : Nat) : Int)))), (6, .long (lI (blw (σ 206) h_))), (4, .long (lI ((abv (σ 206) p_ n_ s_)))), (0, .ref (B + 202)), (1, .int (iI (((n_ : Nat) : Int)))), (2, .int (iI (p_))), (3, .int (iI (w_)))]) hx hb dX12_odds_278 hl (by decide) rfl (fun ls hl => ?_)
                                  refine lv_iinc (v := iI (((q_ : Nat) : Int) + 1)) (lv' := [(12, .int (iI (((q_ : Nat) : Int) + 1))), (11, .int (iI (((q_ : Nat) : Int)))), (9, .long (lI (prq (σ 206) p_ ((s_ : Nat) : Int) k_))), (8, .int (iI (((s_ : Nat) : Int)))), (6, .long (lI (blw (σ 206) h_))), (4, .long (lI ((abv (σ 206) p_ n_ s_)))), (0, .ref (B + 202)), (1, .int (iI (((n_ : Nat) : Int)))), (2, .int (iI (p_))), (3, .int (iI (w_)))]) hx hb dX12_odds_280 hl (k := 1) rfl (iI_add _ _) (by decide) rfl (fun ls hl => ?_)
                                  refine lv_goto (tgt := 243) hx hb dX12_odds_283 (by decide) ?_
                                  have e4 : fg (shr (lie (σ 206) ((s_ : Nat) : Int) k_) (σ 206 3)) (q_ + 1) = (if (shr (lie (σ 206) ((s_ : Nat) : Int) k_) (σ 206 3)) (fg (shr (lie (σ 206) ((s_ : Nat) : Int) k_) (σ 206 3)) q_) < (shr (lie (σ 206) ((s_ : Nat) : Int) k_) (σ 206 3)) q_ then q_ else fg (shr (lie (σ 206) ((s_ : Nat) : Int) k_) (σ 206 3)) q_) := rfl
                                  first | (rw [if_pos (by omega)] at e4) | (rw [if_neg (by omega)] at e4)
                                  exact ih243 (q_ + 1) _ _ _ (by omega) (by omega) hW hS (lv_sub hl [0, 1, 2, 3, 4, 5, 6, 7, 8, 9] (by rw [e4]; rfl))
                          exact L243 _ 1 _ _ _ (Nat.lt_succ_self _) (by omega) hW hS (lv_sub hl [0, 1, 2, 3, 4, 5, 6, 7, 8, 9] (by rw [fg1]; rfl))
                        · have hk20 := (oH k_ (by omega)).2.2.2.1
                          have hk24 := (oH k_ (by omega)).2.2.2.2.1
                          refine lv_aload_n hx hb dX12_odds_123 rfl (lv_at hl 5 rfl) ?_
                          refine wz_get hx hb hts hown hK hW 202 5 (by decide) e_202 rfl (by decide) inG12 w_820 rfl rfl dX12_odds_124 ?_
                          refine zi_bip hx hb dX12_odds_127 (by decide) ?_
                          refine lv_iload hx hb dX12_odds_129 (lv_at hl 0 rfl) ?_
                          refine zi_add hx hb dX12_odds_131 ?_
                          refine wz_ald hx hb hK hW 206 (20 + k_) (by decide) e_206 (by omega) (by omega) (by decide) dX12_odds_132 ?_
                          refine zi_top (y := σ 206 (20 + k_)) (by (show (lie (σ 206) ((s_ : Nat) : Int) k_) (20 + k_) = _; rw [lie_at, if_neg (by omega)])) ?_
                          refine zi_con hx hb dX12_odds_133 ?_
                          have J142 : ∀ (x_ : Int) (H : Heap) (locs : List Loc) (ls : Array Slot), ((x_ = 1 ∧ σ 206 (20 + k_) = 1) ∨ (x_ = 0 ∧ ¬ σ 206 (20 + k_) = 1)) → wd D cy B (us (us (us σ 212 (σ 206)) 210 g_) 206 (lie (σ 206) ((s_ : Nat) : Int) k_)) H → va_S (AB B) s.heap H locs → lv_has ls 14 [(11, .int (iI (((k_ : Nat) : Int)))), (9, .long (lI (prq (σ 206) p_ ((s_ : Nat) : Int) k_))), (8, .int (iI (((s_ : Nat) : Int)))), (6, .long (lI (blw (σ 206) h_))), (4, .long (lI ((abv (σ 206) p_ n_ s_)))), (0, .ref (B + 202)), (1, .int (iI (((n_ : Nat) : Int)))), (2, .int (iI (p_))), (3, .int (iI (w_)))] → W p l e R s m args below meth c H locs 0 0 Q (F0 m 142 ls [.int (iI (x_))]) := by
                            intro x_ H locs ls hx3 hW hS hl
                            refine lv_istore (lv' := [(12, .int (iI (x_))), (11, .int (iI (((k_ : Nat) : Int)))), (9, .long (lI (prq (σ 206) p_ ((s_ : Nat) : Int) k_))), (8, .int (iI (((s_ : Nat) : Int)))), (6, .long (lI (blw (σ 206) h_))), (4, .long (lI ((abv (σ 206) p_ n_ s_)))), (0, .ref (B + 202)), (1, .int (iI (((n_ : Nat) : Int)))), (2, .int (iI (p_))), (3, .int (iI (w_)))]) hx hb dX12_odds_142 hl (by decide) rfl (fun ls hl => ?_)
                            refine lv_lload hx hb dX12_odds_144 (lv_at hl 2 rfl) ?_
                            refine lv_iload hx hb dX12_odds_146 (lv_at hl 3 rfl) ?_
                            refine lv_iload hx hb dX12_odds_148 (lv_at hl 1 rfl) ?_
                            refine k_si (fr := 4) (lo := 93) (r := (if hs ((s_ : Nat) : Int) k_ = true then 1 else 0)) (As := [.int (iI (((s_ : Nat) : Int))), .int (iI (((k_ : Nat) : Int)))]) (rest := [.long (lI (prq (σ 206) p_ ((s_ : Nat) : Int) k_))]) hx hb hml hown hts hK hRf hRl hW hS (c_X12_has l D cy B (us (us (us σ 212 (σ 206)) 210 g_) 206 (lie (σ 206) ((s_ : Nat) : Int) k_)) s_ k_ (show s_ < 16 from (by first | assumption | omega | (simp only [tpL_25, List.length_cons, List.length_nil]; omega))) (show k_ < 4 from (by first | assumption | omega | (simp only [tpL_25, List.length_cons, List.length_nil]; omega)))) vX12_has w_1136 w_1135 ⟨Nat.le_of_ble_eq_true rfl, Nat.le_of_ble_eq_true rfl⟩ hl.1 rfl (Nat.le_of_ble_eq_true rfl) ⟨Nat.zero_le _, Nat.zero_le _⟩ dX12_odds_150 (fun H locs hW hS => ?_)
                            have J184 : ∀ (y_ : Int) (H : Heap) (locs : List Loc) (ls : Array Slot), (y_ = pq (σ 206) p_ ((s_ : Nat) : Int) k_) → wd D cy B (us (us (us σ 212 (σ 206)) 210 g_) 206 (lie (σ 206) ((s_ : Nat) : Int) k_)) H → va_S (AB B) s.heap H locs → lv_has ls 14 [(12, .int (iI (x_))), (11, .int (iI (((k_ : Nat) : Int)))), (9, .long (lI (prq (σ 206) p_ ((s_ : Nat) : Int) k_))), (8, .int (iI (((s_ : Nat) : Int)))), (6, .long (lI (blw (σ 206) h_))), (4, .long (lI ((abv (σ 206) p_ n_ s_)))), (0, .ref (B + 202)), (1, .int (iI (((n_ : Nat) : Int)))), (2, .int (iI (p_))), (3, .int (iI (w_)))] → W p l e R s m args below meth c H locs 0 0 Q (F0 m 184 ls [.long (lI (y_)), .long (lI (prq (σ 206) p_ ((s_ : Nat) : Int) k_))]) := by
                              intro y_ H locs ls hy2 hW hS hl
                              refine zi_lmul hx hb dX12_odds_184 ?_
                              refine lv_lstore (lv' := [(9, .long (lI ((prq (σ 206) p_ ((s_ : Nat) : Int) k_) * y_))), (12, .int (iI (x_))), (11, .int (iI (((k_ : Nat) : Int)))), (8, .int (iI (((s_ : Nat) : Int)))), (6, .long (lI (blw (σ 206) h_))), (4, .long (lI ((abv (σ 206) p_ n_ s_)))), (0, .ref (B + 202)), (1, .int (iI (((n_ : Nat) : Int)))), (2, .int (iI (p_))), (3, .int (iI (w_)))]) hx hb dX12_odds_185 hl (by decide) rfl (fun ls hl => ?_)
                              refine lv_aload_n hx hb dX12_odds_187 rfl (lv_at hl 6 rfl) ?_
                              refine wz_get hx hb hts hown hK hW 202 5 (by decide) e_202 rfl (by decide) inG12 w_820 rfl rfl dX12_odds_188 ?_
                              refine zi_bip hx hb dX12_odds_191 (by decide) ?_
                              refine lv_iload hx hb dX12_odds_193 (lv_at hl 2 rfl) ?_
                              refine zi_add hx hb dX12_odds_195 ?_
                              refine lv_iload hx hb dX12_odds_196 (lv_at hl 3 rfl) ?_
                              refine lv_iload hx hb dX12_odds_198 (lv_at hl 2 rfl) ?_
                              refine k_si (fr := 4) (lo := 93) (r := (if hs ((s_ : Nat) : Int) k_ = true then 1 else 0)) (As := [.int (iI (((s_ : Nat) : Int))), .int (iI (((k_ : Nat) : Int)))]) (rest := [.int (iI (24 + ((k_ : Nat) : Int))), .ref (B + 206)]) hx hb hml hown hts hK hRf hRl hW hS (c_X12_has l D cy B (us (us (us σ 212 (σ 206)) 210 g_) 206 (lie (σ 206) ((s_ : Nat) : Int) k_)) s_ k_ (show s_ < 16 from (by first | assumption | omega | (simp only [tpL_25, List.length_cons, List.length_nil]; omega))) (show k_ < 4 from (by first | assumption | omega | (simp only [tpL_25, List.length_cons, List.length_nil]; omega)))) vX12_has w_1136 w_1135 ⟨Nat.le_of_ble_eq_true rfl, Nat.le_of_ble_eq_true rfl⟩ hl.1 rfl (Nat.le_of_ble_eq_true rfl) ⟨Nat.zero_le _, Nat.zero_le _⟩ dX12_odds_200 (fun H locs hW hS => ?_)
                              have J220 : ∀ (v_ : Int) (H : Heap) (locs : List Loc) (ls : Array Slot), (v_ = (if hs ((s_ : Nat) : Int) k_ = true then 0 else σ 206 (24 + k_))) → wd D cy B (us (us (us σ 212 (σ 206)) 210 g_) 206 (lie (σ 206) ((s_ : Nat) : Int) k_)) H → va_S (AB B) s.heap H locs → lv_has ls 14 [(9, .long (lI ((prq (σ 206) p_ ((s_ : Nat) : Int) k_) * y_))), (12, .int (iI (x_))), (11, .int (iI (((k_ : Nat) : Int)))), (8, .int (iI (((s_ : Nat) : Int)))), (6, .long (lI (blw (σ 206) h_))), (4, .long (lI ((abv (σ 206) p_ n_ s_)))), (0, .ref (B + 202)), (1, .int (iI (((n_ : Nat) : Int)))), (2, .int (iI (p_))), (3, .int (iI (w_)))] → W p l e R s m args below meth c H locs 0 0 Q (F0 m 220 ls [.int (iI (v_)), .int (iI (24 + ((k_ : Nat) : Int))), .ref (B + 206)]) := by
                                intro v_ H locs ls hw2 hW hS hl
                                refine wz_ast (σ' := (up (us (us (us σ 212 (σ 206)) 210 g_) 206 (lie (σ 206) ((s_ : Nat) : Int) k_)) 206 (24 + k_) v_)) hx hb hK hW hS 206 (24 + k_) (by decide) e_206 (by omega) (by omega) (by decide) p_206 dX12_odds_220 (fun H locs hW hS => ?_)
                                refine lv_iinc (v := iI (((k_ : Nat) : Int) + 1)) (lv' := [(11, .int (iI (((k_ : Nat) : Int) + 1))), (9, .long (lI ((prq (σ 206) p_ ((s_ : Nat) : Int) k_) * y_))), (12, .int (iI (x_))), (8, .int (iI (((s_ : Nat) : Int)))), (6, .long (lI (blw (σ 206) h_))), (4, .long (lI ((abv (σ 206) p_ n_ s_)))), (0, .ref (B + 202)), (1, .int (iI (((n_ : Nat) : Int)))), (2, .int (iI (p_))), (3, .int (iI (w_)))]) hx hb dX12_odds_221 hl (k := 2) rfl (iI_add _ _) (by decide) rfl (fun ls hl => ?_)
                                refine lv_goto (tgt := 112) hx hb dX12_odds_224 (by decide) ?_
                                exact ih112 (k_ + 1) _ _ _ (by omega) (by omega) (by have h2 := hW; unfold up at h2; rw [us_us, us_eq, hw2] at h2; exact h2) hS (lv_sub hl [0, 1, 3, 4, 5, 6, 7, 8, 9] (by rw [show prq (σ 206) p_ ((s_ : Nat) : Int) (k_ + 1) = prq (σ 206) p_ ((s_ : Nat) : Int) k_ * y_ from by rw [hy2]; rfl]; rfl))
                              refine zi_beq (tgt := 210) hx hb dX12_odds_203 (by decide) (fun c203 => ?_) (fun c203 => ?_)
                              · refine lv_aload_n hx hb dX12_odds_210 rfl (lv_at hl 6 rfl) ?_
                                refine wz_get hx hb hts hown hK hW 202 5 (by decide) e_202 rfl (by decide) inG12 w_820 rfl rfl dX12_odds_211 ?_
                                refine zi_bip hx hb dX12_odds_214 (by decide) ?_
                                refine lv_iload hx hb dX12_odds_216 (lv_at hl 2 rfl) ?_
                                refine zi_add hx hb dX12_odds_218 ?_
                                refine wz_ald hx hb hK hW 206 (24 + k_) (by decide) e_206 (by omega) (by omega) (by decide) dX12_odds_219 ?_
                                refine zi_top (y := σ 206 (24 + k_)) (by (show (lie (σ 206) ((s_ : Nat) : Int) k_) (24 + k_) = _; rw [lie_at, if_neg (by omega)])) ?_
                                exact J220 (σ 206 (24 + k_)) _ _ _ (by split <;> first | rfl | contradiction) hW hS (lv_sub hl [0, 1, 2, 3, 4, 5, 6, 7, 8, 9] rfl)
                              · refine zi_con hx hb dX12_odds_206 ?_
                                refine lv_goto (tgt := 220) hx hb dX12_odds_207 (by decide) ?_
                                exact J220 0 _ _ _ (by split <;> first | rfl | contradiction) hW hS (lv_sub hl [0, 1, 2, 3, 4, 5, 6, 7, 8, 9] rfl)
                            refine zi_beq (tgt := 173) hx hb dX12_odds_153 (by decide) (fun c153 => ?_) (fun c153 => ?_)
                            · refine lv_iload hx hb dX12_odds_173 (lv_at hl 0 rfl) ?_
                              refine zi_eq (tgt := 183) hx hb dX12_odds_175 (by decide) (by omega) (fun c175 => ?_) (fun c175 => ?_)
                              · refine zi_lcon (z := 1) hx hb dX12_odds_183 (by decide) ?_
                                exact J184 1 _ _ _ (by unfold pq; (repeat' split) <;> first | rfl | omega | contradiction) hW hS (lv_sub hl [0, 1, 2, 3, 4, 5, 6, 7, 8, 9] rfl)
                              · refine lv_iload_n hx hb dX12_odds_178 rfl (lv_at hl 8 rfl) ?_
                                refine zi_i2l hx hb dX12_odds_179 (by omega) ?_
                                refine lv_goto (tgt := 184) hx hb dX12_odds_180 (by decide) ?_
                                exact J184 p_ _ _ _ (by unfold pq; (repeat' split) <;> first | rfl | omega | contradiction) hW hS (lv_sub hl [0, 1, 2, 3, 4, 5, 6, 7, 8, 9] rfl)
                            · refine lv_iload hx hb dX12_odds_156 (lv_at hl 0 rfl) ?_
                              refine zi_eq (tgt := 169) hx hb dX12_odds_158 (by decide) (by omega) (fun c158 => ?_) (fun c158 => ?_)
                              · refine zi_lcon (z := 0) hx hb dX12_odds_169 (by decide) ?_
                                refine lv_goto (tgt := 184) hx hb dX12_odds_170 (by decide) ?_
                                exact J184 0 _ _ _ (by unfold pq; (repeat' split) <;> first | rfl | omega | contradiction) hW hS (lv_sub hl [0, 1, 2, 3, 4, 5, 6, 7, 8, 9] rfl)
                              · refine zi_bip hx hb dX12_odds_161 (by decide) ?_
                                refine lv_iload_n hx hb dX12_odds_163 rfl (lv_at hl 8 rfl) ?_
                                refine zi_sub hx hb dX12_odds_164 ?_
                                refine zi_i2l hx hb dX12_odds_165 (by omega) ?_
                                refine lv_goto (tgt := 184) hx hb dX12_odds_166 (by decide) ?_
                                exact J184 (10 - p_) _ _ _ (by unfold pq; (repeat' split) <;> first | rfl | omega | contradiction) hW hS (lv_sub hl [0, 1, 2, 3, 4, 5, 6, 7, 8, 9] rfl)
                          refine zi_cne (tgt := 141) hx hb dX12_odds_134 (by decide) (by omega) (by omega) (fun c134 => ?_) (fun c134 => ?_)
                          · refine zi_con hx hb dX12_odds_141 ?_
                            exact J142 0 _ _ _ (by omega) hW hS (lv_sub hl [0, 1, 2, 3, 4, 5, 6, 7, 8] rfl)
                          · refine zi_con hx hb dX12_odds_137 ?_
                            refine lv_goto (tgt := 142) hx hb dX12_odds_138 (by decide) ?_
                            exact J142 1 _ _ _ (by omega) hW hS (lv_sub hl [0, 1, 2, 3, 4, 5, 6, 7, 8] rfl)
                    exact L112 _ 0 _ _ _ (Nat.lt_succ_self _) (by omega) (by show wd D cy B (us (us (us σ 212 (σ 206)) 210 g_) 206 ((us (us σ 212 (σ 206)) 210 g_) 206)) _; rw [us_id]; exact hW) hS (lv_sub hl [0, 1, 2, 3, 4, 5, 6, 7, 8] rfl)
              exact L93 _ 0 (σ 210) _ _ _ (Nat.lt_succ_self _) (by omega) (by show wd D cy B (us (us σ 212 (σ 206)) 210 ((us σ 212 (σ 206)) 210)) _; rw [us_id]; exact hW) hS (lv_sub hl [0, 1, 2, 3, 4, 5, 6] rfl)
            · have hk20 := (oH h_ (by omega)).2.2.2.1
              refine lv_lload hx hb dX12_odds_58 (lv_at hl 1 rfl) ?_
              refine lv_aload_n hx hb dX12_odds_60 rfl (lv_at hl 3 rfl) ?_
              refine wz_get hx hb hts hown hK hW 202 5 (by decide) e_202 rfl (by decide) inG12 w_820 rfl rfl dX12_odds_61 ?_
              refine zi_bip hx hb dX12_odds_64 (by decide) ?_
              refine lv_iload hx hb dX12_odds_66 (lv_at hl 0 rfl) ?_
              refine zi_add hx hb dX12_odds_68 ?_
              refine wz_ald hx hb hK hW 206 (20 + h_) (by decide) e_206 (by omega) (by omega) (by decide) dX12_odds_69 ?_
              refine zi_top (y := σ 206 (20 + h_)) (by (first | rfl | (simp [us, uf, nS] <;> omega))) ?_
              refine zi_con hx hb dX12_odds_70 ?_
              refine zi_cne (tgt := 80) hx hb dX12_odds_71 (by decide) (by omega) (by omega) (fun c71 => ?_) (fun c71 => ?_)
              · refine zi_lcon (z := 1) hx hb dX12_odds_80 (by decide) ?_
                refine zi_lmul hx hb dX12_odds_81 ?_
                refine lv_lstore (lv' := [(6, .long (lI ((blw (σ 206) h_) * 1))), (8, .int (iI (((h_ : Nat) : Int)))), (4, .long (lI (0))), (0, .ref (B + 202)), (1, .int (iI (((n_ : Nat) : Int)))), (2, .int (iI (p_))), (3, .int (iI (w_)))]) hx hb dX12_odds_82 hl (by decide) rfl (fun ls hl => ?_)
                refine lv_iinc (v := iI (((h_ : Nat) : Int) + 1)) (lv' := [(8, .int (iI (((h_ : Nat) : Int) + 1))), (6, .long (lI ((blw (σ 206) h_) * 1))), (4, .long (lI (0))), (0, .ref (B + 202)), (1, .int (iI (((n_ : Nat) : Int)))), (2, .int (iI (p_))), (3, .int (iI (w_)))]) hx hb dX12_odds_84 hl (k := 1) rfl (iI_add _ _) (by decide) rfl (fun ls hl => ?_)
                refine lv_goto (tgt := 47) hx hb dX12_odds_87 (by decide) ?_
                have e3 : blw (σ 206) (h_ + 1) = blw (σ 206) h_ * (if σ 206 (20 + h_) = 1 then 10 else 1) := rfl
                first | (rw [if_pos (by omega)] at e3) | (rw [if_neg (by omega)] at e3)
                exact ih47 (h_ + 1) _ _ _ (by omega) (by omega) hW hS (lv_sub hl [0, 1, 2, 3, 4, 5, 6] (by rw [e3]; rfl))
              · refine k_ldc2 hx hb hown hts (v := 10) (by decide) w_1133 dX12_odds_74 ?_
                refine lv_goto (tgt := 81) hx hb dX12_odds_77 (by decide) ?_
                refine zi_lmul hx hb dX12_odds_81 ?_
                refine lv_lstore (lv' := [(6, .long (lI ((blw (σ 206) h_) * 10))), (8, .int (iI (((h_ : Nat) : Int)))), (4, .long (lI (0))), (0, .ref (B + 202)), (1, .int (iI (((n_ : Nat) : Int)))), (2, .int (iI (p_))), (3, .int (iI (w_)))]) hx hb dX12_odds_82 hl (by decide) rfl (fun ls hl => ?_)
                refine lv_iinc (v := iI (((h_ : Nat) : Int) + 1)) (lv' := [(8, .int (iI (((h_ : Nat) : Int) + 1))), (6, .long (lI ((blw (σ 206) h_) * 10))), (4, .long (lI (0))), (0, .ref (B + 202)), (1, .int (iI (((n_ : Nat) : Int)))), (2, .int (iI (p_))), (3, .int (iI (w_)))]) hx hb dX12_odds_84 hl (k := 1) rfl (iI_add _ _) (by decide) rfl (fun ls hl => ?_)
                refine lv_goto (tgt := 47) hx hb dX12_odds_87 (by decide) ?_
                have e3 : blw (σ 206) (h_ + 1) = blw (σ 206) h_ * (if σ 206 (20 + h_) = 1 then 10 else 1) := rfl
                first | (rw [if_pos (by omega)] at e3) | (rw [if_neg (by omega)] at e3)
                exact ih47 (h_ + 1) _ _ _ (by omega) (by omega) hW hS (lv_sub hl [0, 1, 2, 3, 4, 5, 6] (by rw [e3]; rfl))
        exact L47 _ 0 _ _ _ (Nat.lt_succ_self _) (by omega) hW hS (lv_sub hl [0, 1, 2, 3, 4, 5, 6] rfl)
      · refine k_ldc2 hx hb hown hts (v := -1000001) (by decide) w_1134 dX12_odds_30 ?_
        exact hret _ _ _ _ _ _ dX12_odds_33 hW hS ⟨by (repeat' split) <;> first | rfl | omega, ⟨σ 210, by (repeat' split) <;> first | rfl | omega⟩⟩
