
set_option maxRecDepth 100000 in
set_option maxHeartbeats 4000000 in
theorem c_X12_realm (l : Launch) (D : va_G) (cy : Nat → ClassId) (B : Nat) (σ : Sg)  (hL : 0 ≤ σ 202 8 ∧ σ 202 8 ≤ 100) (htp : ∀ k, k < 100 → 0 ≤ σ 208 k ∧ σ 208 k ≤ 255) : CI l yX12_realm cX12_realm 3 (some .int) 6 134 D cy B [.ref (B + 202)] σ (if rdB (σ) = true then rdS (σ) 209 4 else -1000100 - rdS (σ) 202 13) (if rdB (σ) = true then up (up (us (up (rdS (σ)) 202 8 0) 206 (rdS (σ) 209)) 202 4 1) 202 18 0 else up (up (rdS (σ)) 202 8 0) 202 9 (rdS (σ) 202 14)) := by
  refine CI_of (ty := .int) (by decide) (rfl) (Nat.le_of_ble_eq_true rfl) ?_
  intro p e R s m args below meth c Q hx hb hml hown hts hK hRf hRl hW hret ls hl
  have hown : s.vm.findClass "LovePartsModel" = some m.cls := hown
  have hS : va_S (AB B) s.heap s.heap [] := va_S.rf
  have hl : lv_has ls 3 [(0, .ref (B + 202))] := hl
  refine lv_aload_n hx hb dX12_realm_0 rfl (lv_at hl 0 rfl) ?_
  refine k_vi (fr := 6) (lo := 134) (r := (if rdB (σ) = true then 1 else 0)) (σ' := (rdS (σ))) (As := []) (rest := []) hx hb hml hown hts hK hRf hRl hW hS (c_X12_readRealm l D cy B σ  (show 0 ≤ σ 202 8 ∧ σ 202 8 ≤ 100 from (by first | assumption | omega | (simp only [tpL_25, List.length_cons, List.length_nil]; omega))) (show ∀ k, k < 100 → 0 ≤ σ 208 k ∧ σ 208 k ≤ 255 from (by first | assumption | omega | (simp only [tpL_25, List.length_cons, List.length_nil]; omega)))) vX12_readRealm ⟨w_944, w_20⟩ w_942 (by decide) e_202 rfl ⟨Nat.le_of_ble_eq_true rfl, Nat.le_of_ble_eq_true rfl⟩ hl.1 rfl (Nat.le_of_ble_eq_true rfl) ⟨Nat.zero_le _, Nat.zero_le _⟩ dX12_realm_1 (fun H locs hW hS => ?_)
  refine lv_istore_n (lv' := [(1, .int (iI (if rdB (σ) = true then 1 else 0))), (0, .ref (B + 202))]) hx hb dX12_realm_4 rfl hl (by decide) rfl (fun ls hl => ?_)
  refine lv_aload_n hx hb dX12_realm_5 rfl (lv_at hl 1 rfl) ?_
  refine zi_con hx hb dX12_realm_6 ?_
  refine wz_put (σ' := (up (rdS (σ)) 202 8 0)) (ty := .int) hx hb hts hown hK hW hS 202 8 tyX12 (by decide) e_202 rfl (by decide) inG12 tyX12_ok nmX12 w_823 ⟨rfl, rfl, Nat.le_of_ble_eq_true rfl⟩ (by decide +kernel) ⟨rfl, rfl⟩ p_202_8 dX12_realm_7 (fun H locs hW hS => ?_)
  refine lv_iload_n hx hb dX12_realm_10 rfl (lv_at hl 0 rfl) ?_
  refine zi_bne (tgt := 30) hx hb dX12_realm_11 (by decide) (fun c11 => ?_) (fun c11 => ?_)
  · refine zi_con hx hb dX12_realm_30 ?_
    refine lv_istore_n (lv' := [(2, .int (iI (0))), (1, .int (iI (if rdB (σ) = true then 1 else 0))), (0, .ref (B + 202))]) hx hb dX12_realm_31 rfl hl (by decide) rfl (fun ls hl => ?_)
    have L32 : ∀ (n32 : Nat) (k_ : Nat) (H : Heap) (locs : List Loc) (ls : Array Slot), 48 - k_ < n32 → (k_ ≤ 48) → wd D cy B (us (up (rdS (σ)) 202 8 0) 206 (cpy k_ ((up (rdS (σ)) 202 8 0) 209) ((up (rdS (σ)) 202 8 0) 206))) H → va_S (AB B) s.heap H locs → lv_has ls 3 [(2, .int (iI (((k_ : Nat) : Int)))), (1, .int (iI (if rdB (σ) = true then 1 else 0))), (0, .ref (B + 202))] → W p l e R s m args below meth c H locs 0 0 Q (F0 m 32 ls []) := by
      intro n32
      induction n32 with
      | zero => intro k_ H locs ls hms; omega
      | succ n32 ih32 =>
        intro k_ H locs ls hms32 hk hW hS hl
        refine lv_iload_n hx hb dX12_realm_32 rfl (lv_at hl 0 rfl) ?_
        refine zi_bip hx hb dX12_realm_33 (by decide) ?_
        refine zi_cge (tgt := 56) hx hb dX12_realm_35 (by decide) (by omega) (by omega) (fun c35 => ?_) (fun c35 => ?_)
        · have hW := wd_arr (c := 206) (n := 48) (g := rdS σ 209) (by omega) (fun _ => rfl) (fun j hj => by unfold cpy; rw [if_pos (by omega)]; rfl) hW
          refine lv_aload_n hx hb dX12_realm_56 rfl (lv_at hl 2 rfl) ?_
          refine zi_con hx hb dX12_realm_57 ?_
          refine wz_put (σ' := (up (us (up (rdS σ) 202 8 0) 206 (rdS σ 209)) 202 4 1)) (ty := .boolean) hx hb hts hown hK hW hS 202 4 tyX12 (by decide) e_202 rfl (by decide) inG12 tyX12_ok nmX12 w_819 ⟨rfl, rfl, Nat.le_of_ble_eq_true rfl⟩ (by decide +kernel) ⟨rfl, rfl⟩ p_202_4 dX12_realm_58 (fun H locs hW hS => ?_)
          refine lv_aload_n hx hb dX12_realm_61 rfl (lv_at hl 2 rfl) ?_
          refine zi_con hx hb dX12_realm_62 ?_
          refine wz_put (σ' := (up (up (us (up (rdS σ) 202 8 0) 206 (rdS σ 209)) 202 4 1) 202 18 0)) (ty := .int) hx hb hts hown hK hW hS 202 18 tyX12 (by decide) e_202 rfl (by decide) inG12 tyX12_ok nmX12 w_833 ⟨rfl, rfl, Nat.le_of_ble_eq_true rfl⟩ (by decide +kernel) ⟨rfl, rfl⟩ p_202_18 dX12_realm_63 (fun H locs hW hS => ?_)
          refine lv_aload_n hx hb dX12_realm_66 rfl (lv_at hl 2 rfl) ?_
          refine wz_get hx hb hts hown hK hW 202 5 (by decide) e_202 rfl (by decide) inG12 w_820 rfl rfl dX12_realm_67 ?_
          refine zi_con hx hb dX12_realm_70 ?_
          refine wz_ald hx hb hK hW 206 4 (by decide) e_206 (by omega) (by omega) (by decide) dX12_realm_71 ?_
          exact hret _ _ _ _ _ _ dX12_realm_72 hW hS ⟨by rw [if_pos c11]; rfl, by rw [if_pos c11]⟩
        · refine lv_aload_n hx hb dX12_realm_38 rfl (lv_at hl 2 rfl) ?_
          refine wz_get hx hb hts hown hK hW 202 5 (by decide) e_202 rfl (by decide) inG12 w_820 rfl rfl dX12_realm_39 ?_
          refine lv_iload_n hx hb dX12_realm_42 rfl (lv_at hl 0 rfl) ?_
          refine lv_aload_n hx hb dX12_realm_43 rfl (lv_at hl 2 rfl) ?_
          refine wz_get hx hb hts hown hK hW 202 15 (by decide) e_202 rfl (by decide) inG12 w_830 rfl rfl dX12_realm_44 ?_
          refine lv_iload_n hx hb dX12_realm_47 rfl (lv_at hl 0 rfl) ?_
          refine wz_ald hx hb hK hW 209 k_ (by decide) e_209 (by omega) (by omega) (by decide) dX12_realm_48 ?_
          refine wz_ast (σ' := (up (us (up (rdS (σ)) 202 8 0) 206 (cpy k_ ((up (rdS (σ)) 202 8 0) 209) ((up (rdS (σ)) 202 8 0) 206))) 206 k_ ((us (up (rdS (σ)) 202 8 0) 206 (cpy k_ ((up (rdS (σ)) 202 8 0) 209) ((up (rdS (σ)) 202 8 0) 206))) 209 k_))) hx hb hK hW hS 206 k_ (by decide) e_206 (by omega) (by omega) (by decide) p_206 dX12_realm_49 (fun H locs hW hS => ?_)
          refine lv_iinc (v := iI (((k_ : Nat) : Int) + 1)) (lv' := [(2, .int (iI (((k_ : Nat) : Int) + 1))), (1, .int (iI (if rdB (σ) = true then 1 else 0))), (0, .ref (B + 202))]) hx hb dX12_realm_50 hl (k := 0) rfl (iI_add _ _) (by decide) rfl (fun ls hl => ?_)
          refine lv_goto (tgt := 32) hx hb dX12_realm_53 (by decide) ?_
          exact ih32 (k_ + 1) _ _ _ (by omega) (by omega) (by rw [← up_cpy]; exact hW) hS (lv_sub hl [0, 1, 2] rfl)
    exact L32 _ 0 _ _ _ (Nat.lt_succ_self _) (by omega) (by rw [us_cpy0]; exact hW) hS (lv_sub hl [0, 1, 2] rfl)
  · refine lv_aload_n hx hb dX12_realm_14 rfl (lv_at hl 1 rfl) ?_
    refine lv_aload_n hx hb dX12_realm_15 rfl (lv_at hl 1 rfl) ?_
    refine wz_get hx hb hts hown hK hW 202 14 (by decide) e_202 rfl (by decide) inG12 w_829 rfl rfl dX12_realm_16 ?_
    refine wz_put (σ' := (up (up (rdS (σ)) 202 8 0) 202 9 ((up (rdS (σ)) 202 8 0) 202 14))) (ty := .int) hx hb hts hown hK hW hS 202 9 tyX12 (by decide) e_202 rfl (by decide) inG12 tyX12_ok nmX12 w_824 ⟨rfl, rfl, Nat.le_of_ble_eq_true rfl⟩ (by decide +kernel) ⟨rfl, rfl⟩ p_202_9 dX12_realm_19 (fun H locs hW hS => ?_)
    refine k_ldc hx hb hown hts (v := -1000100) (by decide) w_974 dX12_realm_22 ?_
    refine lv_aload_n hx hb dX12_realm_24 rfl (lv_at hl 1 rfl) ?_
    refine wz_get hx hb hts hown hK hW 202 13 (by decide) e_202 rfl (by decide) inG12 w_828 rfl rfl dX12_realm_25 ?_
    refine zi_sub hx hb dX12_realm_28 ?_
    exact hret _ _ _ _ _ _ dX12_realm_29 hW hS ⟨by first | (rw [if_pos (by assumption)]; rfl) | (rw [if_neg (by assumption)]; rfl), by first | (rw [if_pos (by assumption)]; rfl) | (rw [if_neg (by assumption)]; rfl)⟩
