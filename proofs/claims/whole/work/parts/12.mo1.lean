
set_option maxRecDepth 100000 in
set_option maxHeartbeats 4000000 in
theorem c_X12_ownOf (l : Launch) (D : va_G) (cy : Nat → ClassId) (B : Nat) (σ : Sg) (h_ : Nat) (hok : okV (σ 206)) (hh : (h_ : Int) < σ 206 4) : CI l yX12_ownOf cX12_ownOf 5 (some .int) 0 0 D cy B [.ref (B + 202), .int (iI (((h_ : Nat) : Int)))] σ (own (σ 206) h_) (σ) := by
  refine CI_of (ty := .int) (by decide) (rfl) (Nat.le_of_ble_eq_true rfl) ?_
  intro p e R s m args below meth c Q hx hb hml hown hts hK hRf hRl hW hret ls hl
  have hown : s.vm.findClass "LovePartsModel" = some m.cls := hown
  have hS : va_S (AB B) s.heap s.heap [] := va_S.rf
  have hl : lv_has ls 5 [(0, .ref (B + 202)), (1, .int (iI (((h_ : Nat) : Int))))] := hl
  obtain ⟨o4, o0, o1, o2, o3, o5, o6, o7, oH⟩ := id hok
  obtain ⟨k8, k12, k16, k20, k24, k28, k32, k36, k40, k44⟩ := oH h_ hh
  refine lv_aload_n hx hb dX12_ownOf_0 rfl (lv_at hl 0 rfl) ?_
  refine wz_get hx hb hts hown hK hW 202 5 (by decide) e_202 rfl (by decide) inG12 w_820 rfl rfl dX12_ownOf_1 ?_
  refine zi_bip hx hb dX12_ownOf_4 (by decide) ?_
  refine lv_iload_n hx hb dX12_ownOf_6 rfl (lv_at hl 1 rfl) ?_
  refine zi_add hx hb dX12_ownOf_7 ?_
  refine wz_ald hx hb hK hW 206 (8 + h_) (by decide) e_206 (by omega) (by omega) (by decide) dX12_ownOf_8 ?_
  refine lv_istore_n (lv' := [(2, .int (iI (σ 206 (8 + h_)))), (0, .ref (B + 202)), (1, .int (iI (((h_ : Nat) : Int))))]) hx hb dX12_ownOf_9 rfl hl (by decide) rfl (fun ls hl => ?_)
  refine lv_aload_n hx hb dX12_ownOf_10 rfl (lv_at hl 1 rfl) ?_
  refine wz_get hx hb hts hown hK hW 202 5 (by decide) e_202 rfl (by decide) inG12 w_820 rfl rfl dX12_ownOf_11 ?_
  refine zi_bip hx hb dX12_ownOf_14 (by decide) ?_
  refine lv_iload_n hx hb dX12_ownOf_16 rfl (lv_at hl 2 rfl) ?_
  refine zi_add hx hb dX12_ownOf_17 ?_
  refine wz_ald hx hb hK hW 206 (12 + h_) (by decide) e_206 (by omega) (by omega) (by decide) dX12_ownOf_18 ?_
  refine lv_istore_n (lv' := [(3, .int (iI (σ 206 (12 + h_)))), (2, .int (iI (σ 206 (8 + h_)))), (0, .ref (B + 202)), (1, .int (iI (((h_ : Nat) : Int))))]) hx hb dX12_ownOf_19 rfl hl (by decide) rfl (fun ls hl => ?_)
  refine lv_iload_n hx hb dX12_ownOf_20 rfl (lv_at hl 1 rfl) ?_
  refine zi_con hx hb dX12_ownOf_21 ?_
  refine zi_cne (tgt := 27) hx hb dX12_ownOf_22 (by decide) (by omega) (by omega) (fun c22 => ?_) (fun c22 => ?_)
  · refine lv_iload_n hx hb dX12_ownOf_27 rfl (lv_at hl 1 rfl) ?_
    refine zi_con hx hb dX12_ownOf_28 ?_
    refine zi_cne (tgt := 37) hx hb dX12_ownOf_29 (by decide) (by omega) (by omega) (fun c29 => ?_) (fun c29 => ?_)
    · refine lv_iload_n hx hb dX12_ownOf_37 rfl (lv_at hl 1 rfl) ?_
      refine zi_con hx hb dX12_ownOf_38 ?_
      refine zi_cne (tgt := 54) hx hb dX12_ownOf_39 (by decide) (by omega) (by omega) (fun c39 => ?_) (fun c39 => ?_)
      · refine lv_iload_n hx hb dX12_ownOf_54 rfl (lv_at hl 3 rfl) ?_
        refine zi_con hx hb dX12_ownOf_55 ?_
        refine zi_sub hx hb dX12_ownOf_56 ?_
        refine lv_istore (lv' := [(4, .int (iI (((h_ : Nat) : Int) - 1))), (3, .int (iI (σ 206 (12 + h_)))), (2, .int (iI (σ 206 (8 + h_)))), (0, .ref (B + 202)), (1, .int (iI (((h_ : Nat) : Int))))]) hx hb dX12_ownOf_57 hl (by decide) rfl (fun ls hl => ?_)
        have L59 : ∀ (n59 : Nat) (j_ : Nat) (H : Heap) (locs : List Loc) (ls : Array Slot), j_ < n59 → (j_ ≤ h_) → (near (σ 206) h_ = near (σ 206) j_) → wd D cy B σ H → va_S (AB B) s.heap H locs → lv_has ls 5 [(4, .int (iI (((j_ : Nat) : Int) - 1))), (3, .int (iI (σ 206 (12 + h_)))), (2, .int (iI (σ 206 (8 + h_)))), (0, .ref (B + 202)), (1, .int (iI (((h_ : Nat) : Int))))] → W p l e R s m args below meth c H locs 0 0 Q (F0 m 59 ls []) := by
          intro n59
          induction n59 with
          | zero => intro j_ H locs ls hms; omega
          | succ n59 ih59 =>
            intro j_ H locs ls hms59 hj hn hW hS hl
            have hc := near_cases (σ 206) j_
            have hs := (oH (j_ - 1) (by omega)).2.2.2.1
            have hq := (oH (j_ - 1) (by omega)).2.2.2.2.1
            refine lv_iload_n hx hb dX12_ownOf_59 rfl (lv_at hl 2 rfl) ?_
            refine zi_con hx hb dX12_ownOf_60 ?_
            refine zi_cne (tgt := 88) hx hb dX12_ownOf_61 (by decide) (by omega) (by omega) (fun c61 => ?_) (fun c61 => ?_)
            · refine lv_iload_n hx hb dX12_ownOf_88 rfl (lv_at hl 2 rfl) ?_
              refine zi_con hx hb dX12_ownOf_89 ?_
              refine zi_ceq (tgt := 98) hx hb dX12_ownOf_90 (by decide) (by omega) (by omega) (fun c90 => ?_) (fun c90 => ?_)
              · refine lv_iload_n hx hb dX12_ownOf_98 rfl (lv_at hl 1 rfl) ?_
                exact hret _ _ _ _ _ _ dX12_ownOf_99 hW hS ⟨by unfold own; (repeat' split) <;> omega, rfl⟩
              · refine lv_iload hx hb dX12_ownOf_93 (lv_at hl 0 rfl) ?_
                refine zi_ge (tgt := 100) hx hb dX12_ownOf_95 (by decide) (by omega) (fun c95 => ?_) (fun c95 => ?_)
                · refine lv_aload_n hx hb dX12_ownOf_100 rfl (lv_at hl 3 rfl) ?_
                  refine wz_get hx hb hts hown hK hW 202 5 (by decide) e_202 rfl (by decide) inG12 w_820 rfl rfl dX12_ownOf_101 ?_
                  refine zi_bip hx hb dX12_ownOf_104 (by decide) ?_
                  refine lv_iload hx hb dX12_ownOf_106 (lv_at hl 0 rfl) ?_
                  refine zi_add hx hb dX12_ownOf_108 ?_
                  refine wz_ald hx hb hK hW 206 (24 + (j_ - 1)) (by decide) e_206 (by omega) (by omega) (by decide) dX12_ownOf_109 ?_
                  refine zi_bip hx hb dX12_ownOf_110 (by decide) ?_
                  refine zi_cge (tgt := 130) hx hb dX12_ownOf_112 (by decide) (by omega) (by omega) (fun c112 => ?_) (fun c112 => ?_)
                  · refine zi_bip hx hb dX12_ownOf_130 (by decide) ?_
                    exact hret _ _ _ _ _ _ dX12_ownOf_132 hW hS ⟨by unfold own; (repeat' split) <;> omega, rfl⟩
                  · refine lv_aload_n hx hb dX12_ownOf_115 rfl (lv_at hl 3 rfl) ?_
                    refine wz_get hx hb hts hown hK hW 202 5 (by decide) e_202 rfl (by decide) inG12 w_820 rfl rfl dX12_ownOf_116 ?_
                    refine zi_bip hx hb dX12_ownOf_119 (by decide) ?_
                    refine lv_iload hx hb dX12_ownOf_121 (lv_at hl 0 rfl) ?_
                    refine zi_add hx hb dX12_ownOf_123 ?_
                    refine wz_ald hx hb hK hW 206 (24 + (j_ - 1)) (by decide) e_206 (by omega) (by omega) (by decide) dX12_ownOf_124 ?_
                    refine zi_con hx hb dX12_ownOf_125 ?_
                    refine zi_add hx hb dX12_ownOf_126 ?_
                    refine lv_goto (tgt := 132) hx hb dX12_ownOf_127 (by decide) ?_
                    exact hret _ _ _ _ _ _ dX12_ownOf_132 hW hS ⟨by unfold own; (repeat' split) <;> omega, rfl⟩
                · refine lv_iload_n hx hb dX12_ownOf_98 rfl (lv_at hl 1 rfl) ?_
                  exact hret _ _ _ _ _ _ dX12_ownOf_99 hW hS ⟨by unfold own; (repeat' split) <;> omega, rfl⟩
            · refine lv_iload hx hb dX12_ownOf_64 (lv_at hl 0 rfl) ?_
              refine zi_lt (tgt := 88) hx hb dX12_ownOf_66 (by decide) (by omega) (fun c66 => ?_) (fun c66 => ?_)
              · refine lv_iload_n hx hb dX12_ownOf_88 rfl (lv_at hl 2 rfl) ?_
                refine zi_con hx hb dX12_ownOf_89 ?_
                refine zi_ceq (tgt := 98) hx hb dX12_ownOf_90 (by decide) (by omega) (by omega) (fun c90 => ?_) (fun c90 => ?_)
                · refine lv_iload_n hx hb dX12_ownOf_98 rfl (lv_at hl 1 rfl) ?_
                  exact hret _ _ _ _ _ _ dX12_ownOf_99 hW hS ⟨by unfold own; (repeat' split) <;> omega, rfl⟩
                · refine lv_iload hx hb dX12_ownOf_93 (lv_at hl 0 rfl) ?_
                  refine zi_ge (tgt := 100) hx hb dX12_ownOf_95 (by decide) (by omega) (fun c95 => ?_) (fun c95 => ?_)
                  · refine lv_aload_n hx hb dX12_ownOf_100 rfl (lv_at hl 3 rfl) ?_
                    refine wz_get hx hb hts hown hK hW 202 5 (by decide) e_202 rfl (by decide) inG12 w_820 rfl rfl dX12_ownOf_101 ?_
                    refine zi_bip hx hb dX12_ownOf_104 (by decide) ?_
                    refine lv_iload hx hb dX12_ownOf_106 (lv_at hl 0 rfl) ?_
                    refine zi_add hx hb dX12_ownOf_108 ?_
                    refine wz_ald hx hb hK hW 206 (24 + (j_ - 1)) (by decide) e_206 (by omega) (by omega) (by decide) dX12_ownOf_109 ?_
                    refine zi_bip hx hb dX12_ownOf_110 (by decide) ?_
                    refine zi_cge (tgt := 130) hx hb dX12_ownOf_112 (by decide) (by omega) (by omega) (fun c112 => ?_) (fun c112 => ?_)
                    · refine zi_bip hx hb dX12_ownOf_130 (by decide) ?_
                      exact hret _ _ _ _ _ _ dX12_ownOf_132 hW hS ⟨by unfold own; (repeat' split) <;> omega, rfl⟩
                    · refine lv_aload_n hx hb dX12_ownOf_115 rfl (lv_at hl 3 rfl) ?_
                      refine wz_get hx hb hts hown hK hW 202 5 (by decide) e_202 rfl (by decide) inG12 w_820 rfl rfl dX12_ownOf_116 ?_
                      refine zi_bip hx hb dX12_ownOf_119 (by decide) ?_
                      refine lv_iload hx hb dX12_ownOf_121 (lv_at hl 0 rfl) ?_
                      refine zi_add hx hb dX12_ownOf_123 ?_
                      refine wz_ald hx hb hK hW 206 (24 + (j_ - 1)) (by decide) e_206 (by omega) (by omega) (by decide) dX12_ownOf_124 ?_
                      refine zi_con hx hb dX12_ownOf_125 ?_
                      refine zi_add hx hb dX12_ownOf_126 ?_
                      refine lv_goto (tgt := 132) hx hb dX12_ownOf_127 (by decide) ?_
                      exact hret _ _ _ _ _ _ dX12_ownOf_132 hW hS ⟨by unfold own; (repeat' split) <;> omega, rfl⟩
                  · refine lv_iload_n hx hb dX12_ownOf_98 rfl (lv_at hl 1 rfl) ?_
                    exact hret _ _ _ _ _ _ dX12_ownOf_99 hW hS ⟨by unfold own; (repeat' split) <;> omega, rfl⟩
              · refine lv_aload_n hx hb dX12_ownOf_69 rfl (lv_at hl 3 rfl) ?_
                refine wz_get hx hb hts hown hK hW 202 5 (by decide) e_202 rfl (by decide) inG12 w_820 rfl rfl dX12_ownOf_70 ?_
                refine zi_bip hx hb dX12_ownOf_73 (by decide) ?_
                refine lv_iload hx hb dX12_ownOf_75 (lv_at hl 0 rfl) ?_
                refine zi_add hx hb dX12_ownOf_77 ?_
                refine wz_ald hx hb hK hW 206 (20 + (j_ - 1)) (by decide) e_206 (by omega) (by omega) (by decide) dX12_ownOf_78 ?_
                refine zi_ne (tgt := 88) hx hb dX12_ownOf_79 (by decide) (by omega) (fun c79 => ?_) (fun c79 => ?_)
                · refine lv_iload_n hx hb dX12_ownOf_88 rfl (lv_at hl 2 rfl) ?_
                  refine zi_con hx hb dX12_ownOf_89 ?_
                  refine zi_ceq (tgt := 98) hx hb dX12_ownOf_90 (by decide) (by omega) (by omega) (fun c90 => ?_) (fun c90 => ?_)
                  · refine lv_iload_n hx hb dX12_ownOf_98 rfl (lv_at hl 1 rfl) ?_
                    exact hret _ _ _ _ _ _ dX12_ownOf_99 hW hS ⟨by unfold own; (repeat' split) <;> omega, rfl⟩
                  · refine lv_iload hx hb dX12_ownOf_93 (lv_at hl 0 rfl) ?_
                    refine zi_ge (tgt := 100) hx hb dX12_ownOf_95 (by decide) (by omega) (fun c95 => ?_) (fun c95 => ?_)
                    · refine lv_aload_n hx hb dX12_ownOf_100 rfl (lv_at hl 3 rfl) ?_
                      refine wz_get hx hb hts hown hK hW 202 5 (by decide) e_202 rfl (by decide) inG12 w_820 rfl rfl dX12_ownOf_101 ?_
                      refine zi_bip hx hb dX12_ownOf_104 (by decide) ?_
                      refine lv_iload hx hb dX12_ownOf_106 (lv_at hl 0 rfl) ?_
                      refine zi_add hx hb dX12_ownOf_108 ?_
                      refine wz_ald hx hb hK hW 206 (24 + (j_ - 1)) (by decide) e_206 (by omega) (by omega) (by decide) dX12_ownOf_109 ?_
                      refine zi_bip hx hb dX12_ownOf_110 (by decide) ?_
                      refine zi_cge (tgt := 130) hx hb dX12_ownOf_112 (by decide) (by omega) (by omega) (fun c112 => ?_) (fun c112 => ?_)
                      · refine zi_bip hx hb dX12_ownOf_130 (by decide) ?_
                        exact hret _ _ _ _ _ _ dX12_ownOf_132 hW hS ⟨by unfold own; (repeat' split) <;> omega, rfl⟩
                      · refine lv_aload_n hx hb dX12_ownOf_115 rfl (lv_at hl 3 rfl) ?_
                        refine wz_get hx hb hts hown hK hW 202 5 (by decide) e_202 rfl (by decide) inG12 w_820 rfl rfl dX12_ownOf_116 ?_
                        refine zi_bip hx hb dX12_ownOf_119 (by decide) ?_
                        refine lv_iload hx hb dX12_ownOf_121 (lv_at hl 0 rfl) ?_
                        refine zi_add hx hb dX12_ownOf_123 ?_
                        refine wz_ald hx hb hK hW 206 (24 + (j_ - 1)) (by decide) e_206 (by omega) (by omega) (by decide) dX12_ownOf_124 ?_
                        refine zi_con hx hb dX12_ownOf_125 ?_
                        refine zi_add hx hb dX12_ownOf_126 ?_
                        refine lv_goto (tgt := 132) hx hb dX12_ownOf_127 (by decide) ?_
                        exact hret _ _ _ _ _ _ dX12_ownOf_132 hW hS ⟨by unfold own; (repeat' split) <;> omega, rfl⟩
                    · refine lv_iload_n hx hb dX12_ownOf_98 rfl (lv_at hl 1 rfl) ?_
                      exact hret _ _ _ _ _ _ dX12_ownOf_99 hW hS ⟨by unfold own; (repeat' split) <;> omega, rfl⟩
                · refine lv_iinc (v := iI ((((j_ : Nat) : Int) - 1) + (-1))) (lv' := [(4, .int (iI ((((j_ : Nat) : Int) - 1) + (-1)))), (3, .int (iI (σ 206 (12 + h_)))), (2, .int (iI (σ 206 (8 + h_)))), (0, .ref (B + 202)), (1, .int (iI (((h_ : Nat) : Int))))]) hx hb dX12_ownOf_82 hl (k := 0) rfl (iI_add _ _) (by decide) rfl (fun ls hl => ?_)
                  refine lv_goto (tgt := 59) hx hb dX12_ownOf_85 (by decide) ?_
                  rw [show ((j_ : Int) - 1 + (-1)) = (((j_ - 1 : Nat) : Int) - 1) from by omega] at hl
                  exact ih59 (j_ - 1) _ _ _ (by omega) (by omega) (by omega) hW hS (lv_sub hl [0, 1, 2, 3, 4] rfl)
        exact L59 _ h_ _ _ _ (Nat.lt_succ_self _) (Nat.le_refl _) rfl hW hS (lv_sub hl [0, 1, 2, 3, 4] rfl)
      · refine lv_iload_n hx hb dX12_ownOf_42 rfl (lv_at hl 0 rfl) ?_
        refine lv_aload_n hx hb dX12_ownOf_43 rfl (lv_at hl 2 rfl) ?_
        refine wz_get hx hb hts hown hK hW 202 5 (by decide) e_202 rfl (by decide) inG12 w_820 rfl rfl dX12_ownOf_44 ?_
        refine zi_bip hx hb dX12_ownOf_47 (by decide) ?_
        refine lv_iload_n hx hb dX12_ownOf_49 rfl (lv_at hl 3 rfl) ?_
        refine zi_add hx hb dX12_ownOf_50 ?_
        refine wz_ald hx hb hK hW 206 (16 + h_) (by decide) e_206 (by omega) (by omega) (by decide) dX12_ownOf_51 ?_
        refine zi_add hx hb dX12_ownOf_52 ?_
        exact hret _ _ _ _ _ _ dX12_ownOf_53 hW hS ⟨by unfold own; (repeat' split) <;> omega, rfl⟩
    · refine zi_bip hx hb dX12_ownOf_32 (by decide) ?_
      refine lv_iload_n hx hb dX12_ownOf_34 rfl (lv_at hl 0 rfl) ?_
      refine zi_sub hx hb dX12_ownOf_35 ?_
      exact hret _ _ _ _ _ _ dX12_ownOf_36 hW hS ⟨by unfold own; (repeat' split) <;> omega, rfl⟩
  · refine zi_con hx hb dX12_ownOf_25 ?_
    exact hret _ _ _ _ _ _ dX12_ownOf_26 hW hS ⟨by unfold own; (repeat' split) <;> omega, rfl⟩

set_option maxRecDepth 100000 in
set_option maxHeartbeats 4000000 in
theorem c_X12_says (l : Launch) (D : va_G) (cy : Nat → ClassId) (B : Nat) (σ : Sg) (h_ : Nat) (hok : okV (σ 206)) (hh : (h_ : Int) < σ 206 4) : CI l yX12_says cX12_says 2 (some .int) 1 24 D cy B [.ref (B + 202), .int (iI (((h_ : Nat) : Int)))] σ (says (σ 206) h_) (σ) := by
  refine CI_of (ty := .int) (by decide) (rfl) (Nat.le_of_ble_eq_true rfl) ?_
  intro p e R s m args below meth c Q hx hb hml hown hts hK hRf hRl hW hret ls hl
  have hown : s.vm.findClass "LovePartsModel" = some m.cls := hown
  have hS : va_S (AB B) s.heap s.heap [] := va_S.rf
  have hl : lv_has ls 2 [(0, .ref (B + 202)), (1, .int (iI (((h_ : Nat) : Int))))] := hl
  obtain ⟨o4, o0, o1, o2, o3, o5, o6, o7, oH⟩ := id hok
  obtain ⟨k8, k12, k16, k20, k24, k28, k32, k36, k40, k44⟩ := oH h_ hh
  refine lv_aload_n hx hb dX12_says_0 rfl (lv_at hl 0 rfl) ?_
  refine wz_get hx hb hts hown hK hW 202 5 (by decide) e_202 rfl (by decide) inG12 w_820 rfl rfl dX12_says_1 ?_
  refine zi_bip hx hb dX12_says_4 (by decide) ?_
  refine lv_iload_n hx hb dX12_says_6 rfl (lv_at hl 1 rfl) ?_
  refine zi_add hx hb dX12_says_7 ?_
  refine wz_ald hx hb hK hW 206 (20 + h_) (by decide) e_206 (by omega) (by omega) (by decide) dX12_says_8 ?_
  refine zi_con hx hb dX12_says_9 ?_
  refine zi_cne (tgt := 25) hx hb dX12_says_10 (by decide) (by omega) (by omega) (fun c10 => ?_) (fun c10 => ?_)
  · refine lv_aload_n hx hb dX12_says_25 rfl (lv_at hl 0 rfl) ?_
    refine lv_iload_n hx hb dX12_says_26 rfl (lv_at hl 1 rfl) ?_
    refine k_vi (fr := 1) (lo := 24) (r := own (σ 206) h_) (As := [.int (iI (((h_ : Nat) : Int)))]) (rest := []) hx hb hml hown hts hK hRf hRl hW hS (c_X12_ownOf l D cy B σ h_ (show okV (σ 206) from (by first | assumption | omega)) (show (h_ : Int) < σ 206 4 from (by first | assumption | omega))) vX12_ownOf ⟨w_1004, w_30⟩ w_1002 (by decide) e_202 rfl ⟨Nat.le_of_ble_eq_true rfl, Nat.le_of_ble_eq_true rfl⟩ hl.1 rfl (Nat.le_of_ble_eq_true rfl) ⟨Nat.zero_le _, Nat.zero_le _⟩ dX12_says_27 (fun H locs hW hS => ?_)
    exact hret _ _ _ _ _ _ dX12_says_30 hW hS ⟨by unfold says; split <;> omega, rfl⟩
  · refine lv_aload_n hx hb dX12_says_13 rfl (lv_at hl 0 rfl) ?_
    refine wz_get hx hb hts hown hK hW 202 5 (by decide) e_202 rfl (by decide) inG12 w_820 rfl rfl dX12_says_14 ?_
    refine zi_bip hx hb dX12_says_17 (by decide) ?_
    refine lv_iload_n hx hb dX12_says_19 rfl (lv_at hl 1 rfl) ?_
    refine zi_add hx hb dX12_says_20 ?_
    refine wz_ald hx hb hK hW 206 (24 + h_) (by decide) e_206 (by omega) (by omega) (by decide) dX12_says_21 ?_
    refine lv_goto (tgt := 30) hx hb dX12_says_22 (by decide) ?_
    exact hret _ _ _ _ _ _ dX12_says_30 hW hS ⟨by unfold says; split <;> omega, rfl⟩

set_option maxRecDepth 100000 in
set_option maxHeartbeats 4000000 in
theorem c_X12_weightOf (l : Launch) (D : va_G) (cy : Nat → ClassId) (B : Nat) (σ : Sg) (h_ : Nat) (b_ : Int) (hok : okV (σ 206)) (hh : (h_ : Int) < σ 206 4) (hb2 : 0 ≤ b_ ∧ b_ ≤ 3) : CI l yX12_weightOf cX12_weightOf 4 (some .int) 2 45 D cy B [.ref (B + 202), .int (iI (((h_ : Nat) : Int))), .int (iI (b_))] σ (wt (σ 206) b_ h_) (σ) := by
  refine CI_of (ty := .int) (by decide) (rfl) (Nat.le_of_ble_eq_true rfl) ?_
  intro p e R s m args below meth c Q hx hb hml hown hts hK hRf hRl hW hret ls hl
  have hown : s.vm.findClass "LovePartsModel" = some m.cls := hown
  have hS : va_S (AB B) s.heap s.heap [] := va_S.rf
  have hl : lv_has ls 4 [(0, .ref (B + 202)), (1, .int (iI (((h_ : Nat) : Int)))), (2, .int (iI (b_)))] := hl
  obtain ⟨o4, o0, o1, o2, o3, o5, o6, o7, oH⟩ := id hok
  obtain ⟨k8, k12, k16, k20, k24, k28, k32, k36, k40, k44⟩ := oH h_ hh
  have hsb := says_bd hok hh
  refine lv_aload_n hx hb dX12_weightOf_0 rfl (lv_at hl 0 rfl) ?_
  refine lv_iload_n hx hb dX12_weightOf_1 rfl (lv_at hl 1 rfl) ?_
  refine k_vi (fr := 2) (lo := 45) (r := says (σ 206) h_) (As := [.int (iI (((h_ : Nat) : Int)))]) (rest := []) hx hb hml hown hts hK hRf hRl hW hS (c_X12_says l D cy B σ h_ (show okV (σ 206) from (by first | assumption | omega)) (show (h_ : Int) < σ 206 4 from (by first | assumption | omega))) vX12_says ⟨w_1020, w_33⟩ w_1018 (by decide) e_202 rfl ⟨Nat.le_of_ble_eq_true rfl, Nat.le_of_ble_eq_true rfl⟩ hl.1 rfl (Nat.le_of_ble_eq_true rfl) ⟨Nat.zero_le _, Nat.zero_le _⟩ dX12_weightOf_2 (fun H locs hW hS => ?_)
  refine lv_istore_n (lv' := [(3, .int (iI (says (σ 206) h_))), (0, .ref (B + 202)), (1, .int (iI (((h_ : Nat) : Int)))), (2, .int (iI (b_)))]) hx hb dX12_weightOf_5 rfl hl (by decide) rfl (fun ls hl => ?_)
  refine lv_iload_n hx hb dX12_weightOf_6 rfl (lv_at hl 3 rfl) ?_
  refine zi_ne (tgt := 16) hx hb dX12_weightOf_7 (by decide) (by omega) (fun c7 => ?_) (fun c7 => ?_)
  · refine lv_iload_n hx hb dX12_weightOf_16 rfl (lv_at hl 3 rfl) ?_
    refine zi_con hx hb dX12_weightOf_17 ?_
    refine zi_cne (tgt := 37) hx hb dX12_weightOf_18 (by decide) (by omega) (by omega) (fun c18 => ?_) (fun c18 => ?_)
    · refine lv_iload_n hx hb dX12_weightOf_37 rfl (lv_at hl 3 rfl) ?_
      refine zi_con hx hb dX12_weightOf_38 ?_
      refine zi_cne (tgt := 46) hx hb dX12_weightOf_39 (by decide) (by omega) (by omega) (fun c39 => ?_) (fun c39 => ?_)
      · refine zi_bip hx hb dX12_weightOf_46 (by decide) ?_
        refine lv_iload_n hx hb dX12_weightOf_48 rfl (lv_at hl 0 rfl) ?_
        refine zi_sub hx hb dX12_weightOf_49 ?_
        exact hret _ _ _ _ _ _ dX12_weightOf_50 hW hS ⟨by unfold wt; (repeat' split) <;> omega, rfl⟩
      · refine zi_con hx hb dX12_weightOf_42 ?_
        refine lv_goto (tgt := 50) hx hb dX12_weightOf_43 (by decide) ?_
        exact hret _ _ _ _ _ _ dX12_weightOf_50 hW hS ⟨by unfold wt; (repeat' split) <;> omega, rfl⟩
    · refine lv_iload_n hx hb dX12_weightOf_21 rfl (lv_at hl 0 rfl) ?_
      refine lv_aload_n hx hb dX12_weightOf_22 rfl (lv_at hl 1 rfl) ?_
      refine wz_get hx hb hts hown hK hW 202 5 (by decide) e_202 rfl (by decide) inG12 w_820 rfl rfl dX12_weightOf_23 ?_
      refine zi_bip hx hb dX12_weightOf_26 (by decide) ?_
      refine lv_iload_n hx hb dX12_weightOf_28 rfl (lv_at hl 2 rfl) ?_
      refine zi_add hx hb dX12_weightOf_29 ?_
      refine wz_ald hx hb hK hW 206 (28 + h_) (by decide) e_206 (by omega) (by omega) (by decide) dX12_weightOf_30 ?_
      refine zi_add hx hb dX12_weightOf_31 ?_
      refine zi_con hx hb dX12_weightOf_32 ?_
      refine zi_add hx hb dX12_weightOf_33 ?_
      refine lv_goto (tgt := 50) hx hb dX12_weightOf_34 (by decide) ?_
      exact hret _ _ _ _ _ _ dX12_weightOf_50 hW hS ⟨by unfold wt; (repeat' split) <;> omega, rfl⟩
  · refine lv_iload_n hx hb dX12_weightOf_10 rfl (lv_at hl 0 rfl) ?_
    refine zi_con hx hb dX12_weightOf_11 ?_
    refine zi_add hx hb dX12_weightOf_12 ?_
    refine lv_goto (tgt := 50) hx hb dX12_weightOf_13 (by decide) ?_
    exact hret _ _ _ _ _ _ dX12_weightOf_50 hW hS ⟨by unfold wt; (repeat' split) <;> omega, rfl⟩

set_option maxRecDepth 100000 in
set_option maxHeartbeats 4000000 in
theorem c_X12_allowed (l : Launch) (D : va_G) (cy : Nat → ClassId) (B : Nat) (σ : Sg) (h_ : Nat) (hok : okV (σ 206)) (hh : (h_ : Int) < σ 206 4) : CI l yX12_allowed cX12_allowed 4 (some .int) 0 0 D cy B [.ref (B + 202), .int (iI (((h_ : Nat) : Int)))] σ (alw (σ 206) h_) (σ) := by
  refine CI_of (ty := .int) (by decide) (rfl) (Nat.le_of_ble_eq_true rfl) ?_
  intro p e R s m args below meth c Q hx hb hml hown hts hK hRf hRl hW hret ls hl
  have hown : s.vm.findClass "LovePartsModel" = some m.cls := hown
  have hS : va_S (AB B) s.heap s.heap [] := va_S.rf
  have hl : lv_has ls 4 [(0, .ref (B + 202)), (1, .int (iI (((h_ : Nat) : Int))))] := hl
  obtain ⟨o4, o0, o1, o2, o3, o5, o6, o7, oH⟩ := id hok
  obtain ⟨k8, k12, k16, k20, k24, k28, k32, k36, k40, k44⟩ := oH h_ hh
  have hmu := mulb (a := σ 206 2) (b := σ 206 (36 + h_)) o2 (by omega)
  refine lv_aload_n hx hb dX12_allowed_0 rfl (lv_at hl 0 rfl) ?_
  refine wz_get hx hb hts hown hK hW 202 5 (by decide) e_202 rfl (by decide) inG12 w_820 rfl rfl dX12_allowed_1 ?_
  refine zi_bip hx hb dX12_allowed_4 (by decide) ?_
  refine lv_iload_n hx hb dX12_allowed_6 rfl (lv_at hl 1 rfl) ?_
  refine zi_add hx hb dX12_allowed_7 ?_
  refine wz_ald hx hb hK hW 206 (28 + h_) (by decide) e_206 (by omega) (by omega) (by decide) dX12_allowed_8 ?_
  refine lv_aload_n hx hb dX12_allowed_9 rfl (lv_at hl 0 rfl) ?_
  refine wz_get hx hb hts hown hK hW 202 5 (by decide) e_202 rfl (by decide) inG12 w_820 rfl rfl dX12_allowed_10 ?_
  refine zi_con hx hb dX12_allowed_13 ?_
  refine wz_ald hx hb hK hW 206 2 (by decide) e_206 (by omega) (by omega) (by decide) dX12_allowed_14 ?_
  refine lv_aload_n hx hb dX12_allowed_15 rfl (lv_at hl 0 rfl) ?_
  refine wz_get hx hb hts hown hK hW 202 5 (by decide) e_202 rfl (by decide) inG12 w_820 rfl rfl dX12_allowed_16 ?_
  refine zi_bip hx hb dX12_allowed_19 (by decide) ?_
  refine lv_iload_n hx hb dX12_allowed_21 rfl (lv_at hl 1 rfl) ?_
  refine zi_add hx hb dX12_allowed_22 ?_
  refine wz_ald hx hb hK hW 206 (36 + h_) (by decide) e_206 (by omega) (by omega) (by decide) dX12_allowed_23 ?_
  refine zi_mul hx hb dX12_allowed_24 ?_
  refine zi_sub hx hb dX12_allowed_25 ?_
  refine lv_istore_n (lv' := [(2, .int (iI ((σ 206 (28 + h_)) - ((σ 206 2) * (σ 206 (36 + h_)))))), (0, .ref (B + 202)), (1, .int (iI (((h_ : Nat) : Int))))]) hx hb dX12_allowed_26 rfl hl (by decide) rfl (fun ls hl => ?_)
  refine lv_iload_n hx hb dX12_allowed_27 rfl (lv_at hl 0 rfl) ?_
  refine zi_ge (tgt := 35) hx hb dX12_allowed_28 (by decide) (by omega) (fun c28 => ?_) (fun c28 => ?_)
  · refine lv_iload_n hx hb dX12_allowed_35 rfl (lv_at hl 0 rfl) ?_
    refine lv_aload_n hx hb dX12_allowed_36 rfl (lv_at hl 1 rfl) ?_
    refine wz_get hx hb hts hown hK hW 202 5 (by decide) e_202 rfl (by decide) inG12 w_820 rfl rfl dX12_allowed_37 ?_
    refine zi_bip hx hb dX12_allowed_40 (by decide) ?_
    refine lv_iload_n hx hb dX12_allowed_42 rfl (lv_at hl 2 rfl) ?_
    refine zi_add hx hb dX12_allowed_43 ?_
    refine wz_ald hx hb hK hW 206 (12 + h_) (by decide) e_206 (by omega) (by omega) (by decide) dX12_allowed_44 ?_
    refine zi_add hx hb dX12_allowed_45 ?_
    refine lv_istore_n (lv' := [(2, .int (iI (((σ 206 (28 + h_)) - ((σ 206 2) * (σ 206 (36 + h_)))) + (σ 206 (12 + h_))))), (0, .ref (B + 202)), (1, .int (iI (((h_ : Nat) : Int))))]) hx hb dX12_allowed_46 rfl hl (by decide) rfl (fun ls hl => ?_)
    refine lv_aload_n hx hb dX12_allowed_47 rfl (lv_at hl 1 rfl) ?_
    refine wz_get hx hb hts hown hK hW 202 5 (by decide) e_202 rfl (by decide) inG12 w_820 rfl rfl dX12_allowed_48 ?_
    refine zi_bip hx hb dX12_allowed_51 (by decide) ?_
    refine lv_iload_n hx hb dX12_allowed_53 rfl (lv_at hl 2 rfl) ?_
    refine zi_add hx hb dX12_allowed_54 ?_
    refine wz_ald hx hb hK hW 206 (44 + h_) (by decide) e_206 (by omega) (by omega) (by decide) dX12_allowed_55 ?_
    refine zi_con hx hb dX12_allowed_56 ?_
    refine zi_sub hx hb dX12_allowed_57 ?_
    refine lv_istore_n (lv' := [(3, .int (iI ((σ 206 (44 + h_)) - 1))), (2, .int (iI (((σ 206 (28 + h_)) - ((σ 206 2) * (σ 206 (36 + h_)))) + (σ 206 (12 + h_))))), (0, .ref (B + 202)), (1, .int (iI (((h_ : Nat) : Int))))]) hx hb dX12_allowed_58 rfl hl (by decide) rfl (fun ls hl => ?_)
    refine lv_iload_n hx hb dX12_allowed_59 rfl (lv_at hl 0 rfl) ?_
    refine zi_lt (tgt := 72) hx hb dX12_allowed_60 (by decide) (by omega) (fun c60 => ?_) (fun c60 => ?_)
    · refine lv_iload_n hx hb dX12_allowed_72 rfl (lv_at hl 1 rfl) ?_
      exact hret _ _ _ _ _ _ dX12_allowed_73 hW hS ⟨by unfold alw; generalize σ 206 2 * σ 206 (36 + h_) = q at *; (repeat' split) <;> omega, rfl⟩
    · refine lv_iload_n hx hb dX12_allowed_63 rfl (lv_at hl 0 rfl) ?_
      refine lv_iload_n hx hb dX12_allowed_64 rfl (lv_at hl 1 rfl) ?_
      refine zi_cge (tgt := 72) hx hb dX12_allowed_65 (by decide) (by omega) (by omega) (fun c65 => ?_) (fun c65 => ?_)
      · refine lv_iload_n hx hb dX12_allowed_72 rfl (lv_at hl 1 rfl) ?_
        exact hret _ _ _ _ _ _ dX12_allowed_73 hW hS ⟨by unfold alw; generalize σ 206 2 * σ 206 (36 + h_) = q at *; (repeat' split) <;> omega, rfl⟩
      · refine lv_iload_n hx hb dX12_allowed_68 rfl (lv_at hl 0 rfl) ?_
        refine lv_goto (tgt := 73) hx hb dX12_allowed_69 (by decide) ?_
        exact hret _ _ _ _ _ _ dX12_allowed_73 hW hS ⟨by unfold alw; generalize σ 206 2 * σ 206 (36 + h_) = q at *; (repeat' split) <;> omega, rfl⟩
  · refine zi_con hx hb dX12_allowed_31 ?_
    refine lv_goto (tgt := 36) hx hb dX12_allowed_32 (by decide) ?_
    refine lv_aload_n hx hb dX12_allowed_36 rfl (lv_at hl 1 rfl) ?_
    refine wz_get hx hb hts hown hK hW 202 5 (by decide) e_202 rfl (by decide) inG12 w_820 rfl rfl dX12_allowed_37 ?_
    refine zi_bip hx hb dX12_allowed_40 (by decide) ?_
    refine lv_iload_n hx hb dX12_allowed_42 rfl (lv_at hl 2 rfl) ?_
    refine zi_add hx hb dX12_allowed_43 ?_
    refine wz_ald hx hb hK hW 206 (12 + h_) (by decide) e_206 (by omega) (by omega) (by decide) dX12_allowed_44 ?_
    refine zi_add hx hb dX12_allowed_45 ?_
    refine lv_istore_n (lv' := [(2, .int (iI (0 + (σ 206 (12 + h_))))), (0, .ref (B + 202)), (1, .int (iI (((h_ : Nat) : Int))))]) hx hb dX12_allowed_46 rfl hl (by decide) rfl (fun ls hl => ?_)
    refine lv_aload_n hx hb dX12_allowed_47 rfl (lv_at hl 1 rfl) ?_
    refine wz_get hx hb hts hown hK hW 202 5 (by decide) e_202 rfl (by decide) inG12 w_820 rfl rfl dX12_allowed_48 ?_
    refine zi_bip hx hb dX12_allowed_51 (by decide) ?_
    refine lv_iload_n hx hb dX12_allowed_53 rfl (lv_at hl 2 rfl) ?_
    refine zi_add hx hb dX12_allowed_54 ?_
    refine wz_ald hx hb hK hW 206 (44 + h_) (by decide) e_206 (by omega) (by omega) (by decide) dX12_allowed_55 ?_
    refine zi_con hx hb dX12_allowed_56 ?_
    refine zi_sub hx hb dX12_allowed_57 ?_
    refine lv_istore_n (lv' := [(3, .int (iI ((σ 206 (44 + h_)) - 1))), (2, .int (iI (0 + (σ 206 (12 + h_))))), (0, .ref (B + 202)), (1, .int (iI (((h_ : Nat) : Int))))]) hx hb dX12_allowed_58 rfl hl (by decide) rfl (fun ls hl => ?_)
    refine lv_iload_n hx hb dX12_allowed_59 rfl (lv_at hl 0 rfl) ?_
    refine zi_lt (tgt := 72) hx hb dX12_allowed_60 (by decide) (by omega) (fun c60 => ?_) (fun c60 => ?_)
    · refine lv_iload_n hx hb dX12_allowed_72 rfl (lv_at hl 1 rfl) ?_
      exact hret _ _ _ _ _ _ dX12_allowed_73 hW hS ⟨by unfold alw; generalize σ 206 2 * σ 206 (36 + h_) = q at *; (repeat' split) <;> omega, rfl⟩
    · refine lv_iload_n hx hb dX12_allowed_63 rfl (lv_at hl 0 rfl) ?_
      refine lv_iload_n hx hb dX12_allowed_64 rfl (lv_at hl 1 rfl) ?_
      refine zi_cge (tgt := 72) hx hb dX12_allowed_65 (by decide) (by omega) (by omega) (fun c65 => ?_) (fun c65 => ?_)
      · refine lv_iload_n hx hb dX12_allowed_72 rfl (lv_at hl 1 rfl) ?_
        exact hret _ _ _ _ _ _ dX12_allowed_73 hW hS ⟨by unfold alw; generalize σ 206 2 * σ 206 (36 + h_) = q at *; (repeat' split) <;> omega, rfl⟩
      · refine lv_iload_n hx hb dX12_allowed_68 rfl (lv_at hl 0 rfl) ?_
        refine lv_goto (tgt := 73) hx hb dX12_allowed_69 (by decide) ?_
        exact hret _ _ _ _ _ _ dX12_allowed_73 hW hS ⟨by unfold alw; generalize σ 206 2 * σ 206 (36 + h_) = q at *; (repeat' split) <;> omega, rfl⟩
