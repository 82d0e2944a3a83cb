
set_option maxRecDepth 100000 in
set_option maxHeartbeats 4000000 in
theorem c_X12_readHeir (l : Launch) (D : va_G) (cy : Nat → ClassId) (B : Nat) (σ : Sg) (b_ : Nat) (k_ : Int) (r_k_ : -2147483648 ≤ k_ ∧ k_ < 2147483648) (hps : PS (σ) b_) (hr4 : 0 ≤ σ 209 4 ∧ σ 209 4 ≤ 4) : CI l yX12_readHeir cX12_readHeir 3 (some .boolean) 4 90 D cy B [.ref (B + 202), .int (iI (k_))] σ ((if rhB (σ) k_ then 1 else 0)) (rhS (σ) k_) := by
  refine CI_of (ty := .boolean) (by decide) (nb_ite) (Nat.le_of_ble_eq_true rfl) ?_
  intro p e R s m args below meth c Q hx hb hml hown hts hK hRf hRl hW hret ls hl
  have hown : s.vm.findClass "LovePartsModel" = some m.cls := hown
  have hS : va_S (AB B) s.heap s.heap [] := va_S.rf
  have hl : lv_has ls 3 [(0, .ref (B + 202)), (1, .int (iI (k_)))] := hl
  have hpb := PS_bd hps
  have htp := hps.2.2
  obtain ⟨h_, hh⟩ : ∃ h : Nat, σ 209 4 = (h : Int) := ⟨(σ 209 4).toNat, by omega⟩
  have hhn : (σ 209 4).toNat = h_ := by omega
  have hp1 := PS_rh1 (k := k_) hps
  refine lv_aload_n hx hb dX12_readHeir_0 rfl (lv_at hl 0 rfl) ?_
  refine wz_get hx hb hts hown hK hW 202 15 (by decide) e_202 rfl (by decide) inG12 w_830 rfl rfl dX12_readHeir_1 ?_
  refine zi_con hx hb dX12_readHeir_4 ?_
  refine wz_ald hx hb hK hW 209 4 (by decide) e_209 (by omega) (by omega) (by decide) dX12_readHeir_5 ?_
  refine zi_top (y := ((h_ : Nat) : Int)) (by exact hh) ?_
  refine lv_istore_n (lv' := [(2, .int (iI (((h_ : Nat) : Int)))), (0, .ref (B + 202)), (1, .int (iI (k_)))]) hx hb dX12_readHeir_6 rfl hl (by decide) rfl (fun ls hl => ?_)
  refine lv_iload_n hx hb dX12_readHeir_7 rfl (lv_at hl 0 rfl) ?_
  refine zi_con hx hb dX12_readHeir_8 ?_
  refine zi_cne (tgt := 18) hx hb dX12_readHeir_9 (by decide) (by omega) (by omega) (fun c9 => ?_) (fun c9 => ?_)
  · refine lv_aload_n hx hb dX12_readHeir_18 rfl (lv_at hl 1 rfl) ?_
    refine k_vv (fr := 4) (lo := 90) (σ' := (ntk σ)) (As := []) (rest := []) hx hb hml hown hts hK hRf hRl hW hS (c_X12_nextToken l D cy B σ  (show (0 ≤ σ 202 10 ∧ σ 202 10 ≤ σ 202 8) ∧ σ 202 8 ≤ 100 from (by first | assumption | omega | (simp only [tpL_25, List.length_cons, List.length_nil]; omega))) (show ∀ k, k < 100 → 0 ≤ σ 208 k ∧ σ 208 k ≤ 255 from (by first | assumption | omega | (simp only [tpL_25, List.length_cons, List.length_nil]; omega)))) vX12_nextToken ⟨w_948, w_21⟩ w_946 (by decide) e_202 rfl ⟨Nat.le_of_ble_eq_true rfl, Nat.le_of_ble_eq_true rfl⟩ hl.1 rfl (Nat.le_of_ble_eq_true rfl) ⟨Nat.zero_le _, Nat.zero_le _⟩ dX12_readHeir_19 (fun H locs hW hS => ?_)
    refine lv_aload_n hx hb dX12_readHeir_22 rfl (lv_at hl 1 rfl) ?_
    refine wz_get hx hb hts hown hK hW 202 15 (by decide) e_202 rfl (by decide) inG12 w_830 rfl rfl dX12_readHeir_23 ?_
    refine zi_bip hx hb dX12_readHeir_26 (by decide) ?_
    refine lv_iload_n hx hb dX12_readHeir_28 rfl (lv_at hl 0 rfl) ?_
    refine zi_add hx hb dX12_readHeir_29 ?_
    refine lv_iload_n hx hb dX12_readHeir_30 rfl (lv_at hl 2 rfl) ?_
    refine wz_ast (σ' := (up (ntk σ) 209 (8 + h_) k_)) hx hb hK hW hS 209 (8 + h_) (by decide) e_209 (by omega) (by omega) (by decide) p_209 dX12_readHeir_31 (fun H locs hW hS => ?_)
    refine lv_aload_n hx hb dX12_readHeir_32 rfl (lv_at hl 1 rfl) ?_
    refine wz_get hx hb hts hown hK hW 202 15 (by decide) e_202 rfl (by decide) inG12 w_830 rfl rfl dX12_readHeir_33 ?_
    refine zi_con hx hb dX12_readHeir_36 ?_
    refine lv_dup2_11 hx hb dX12_readHeir_37 rfl rfl ?_
    refine wz_ald hx hb hK hW 209 4 (by decide) e_209 (by omega) (by omega) (by decide) dX12_readHeir_38 ?_
    refine zi_top (y := σ 209 4) (by (show uf (σ 209) (8 + h_) k_ 4 = σ 209 4; exact uf_ne _ _ (by omega))) ?_
    refine zi_con hx hb dX12_readHeir_39 ?_
    refine zi_add hx hb dX12_readHeir_40 ?_
    refine wz_ast (σ' := (up (up (ntk σ) 209 (8 + h_) k_) 209 4 ((σ 209 4) + 1))) hx hb hK hW hS 209 4 (by decide) e_209 (by omega) (by omega) (by decide) p_209 dX12_readHeir_41 (fun H locs hW hS => ?_)
    have hW : wd D cy B (rh1 σ k_) H := by unfold rh1; rw [hhn]; exact hW
    refine lv_aload_n hx hb dX12_readHeir_42 rfl (lv_at hl 1 rfl) ?_
    refine zi_con hx hb dX12_readHeir_43 ?_
    refine zi_bip hx hb dX12_readHeir_44 (by decide) ?_
    refine zi_bip hx hb dX12_readHeir_46 (by decide) ?_
    refine lv_iload_n hx hb dX12_readHeir_48 rfl (lv_at hl 0 rfl) ?_
    refine zi_add hx hb dX12_readHeir_49 ?_
    refine zi_top (y := ((12 + h_ : Nat) : Int)) (by omega) ?_
    refine zi_bip hx hb dX12_readHeir_50 (by decide) ?_
    refine k_vi (fr := 4) (lo := 90) (r := (if ((rh1 σ k_) 202 11 = 2 ∧ 0 ≤ (rh1 σ k_) 202 12 ∧ (rh1 σ k_) 202 12 ≤ 9) ∧ (ntk (up (rh1 σ k_) 209 (12 + h_) ((rh1 σ k_) 202 12)) 202 11 = 1 ∧ ntk (up (rh1 σ k_) 209 (12 + h_) ((rh1 σ k_) 202 12)) 202 12 = 44) then 1 else 0)) (σ' := (tnS ((rh1 σ k_)) 0 9 (12 + h_) 44)) (As := [.int (iI (0)), .int (iI (9)), .int (iI (((12 + h_ : Nat) : Int))), .int (iI (44))]) (rest := []) hx hb hml hown hts hK hRf hRl hW hS (c_X12_takesNumber l D cy B (rh1 σ k_) (tpl (σ 208) (σ 202 8).toNat b_) 0 9 (12 + h_) 44 (show -2147483648 ≤ 0 ∧ 0 < 2147483648 from (by first | assumption | omega | (simp only [tpL_25, List.length_cons, List.length_nil]; omega))) (show -2147483648 ≤ 9 ∧ 9 < 2147483648 from (by first | assumption | omega | (simp only [tpL_25, List.length_cons, List.length_nil]; omega))) (show -2147483648 ≤ 44 ∧ 44 < 2147483648 from (by first | assumption | omega | (simp only [tpL_25, List.length_cons, List.length_nil]; omega))) (show PS ((rh1 σ k_)) (tpl (σ 208) (σ 202 8).toNat b_) from hp1) (show (12 + h_) < 48 from (by first | assumption | omega | (simp only [tpL_25, List.length_cons, List.length_nil]; omega)))) vX12_takesNumber ⟨w_968, w_25⟩ w_966 (by decide) e_202 rfl ⟨Nat.le_of_ble_eq_true rfl, Nat.le_of_ble_eq_true rfl⟩ hl.1 rfl (Nat.le_of_ble_eq_true rfl) ⟨Nat.zero_le _, Nat.zero_le _⟩ dX12_readHeir_52 (fun H locs hW hS => ?_)
    refine zi_beq (tgt := 78) hx hb dX12_readHeir_55 (by decide) (fun c55 => ?_) (fun c55 => ?_)
    · refine zi_con hx hb dX12_readHeir_78 ?_
      exact hret _ _ _ _ _ _ dX12_readHeir_79 hW hS ⟨by first | rw [if_pos (by exact (show rhB σ k_ from ⟨by omega, by rw [hhn]; exact c55, by rw [hhn]; exact c71⟩))] | rw [if_neg (by exact (fun h9 : rhB σ k_ => by have h8 := h9.2.2; rw [hhn] at h8; exact c71 h8))] | rw [if_neg (by exact (fun h9 : rhB σ k_ => by have h8 := h9.2.1; rw [hhn] at h8; exact c55 h8))], by unfold rhS; rw [if_neg (by omega), hhn]; first | rw [if_pos (by exact c55)] | rw [if_neg (by exact c55)]⟩
    · refine lv_aload_n hx hb dX12_readHeir_58 rfl (lv_at hl 1 rfl) ?_
      refine zi_con hx hb dX12_readHeir_59 ?_
      refine zi_bip hx hb dX12_readHeir_60 (by decide) ?_
      refine zi_bip hx hb dX12_readHeir_62 (by decide) ?_
      refine lv_iload_n hx hb dX12_readHeir_64 rfl (lv_at hl 0 rfl) ?_
      refine zi_add hx hb dX12_readHeir_65 ?_
      refine zi_top (y := ((16 + h_ : Nat) : Int)) (by omega) ?_
      refine zi_bip hx hb dX12_readHeir_66 (by decide) ?_
      refine k_vi (fr := 4) (lo := 90) (r := (if ((tnS ((rh1 σ k_)) 0 9 (12 + h_) 44) 202 11 = 2 ∧ 0 ≤ (tnS ((rh1 σ k_)) 0 9 (12 + h_) 44) 202 12 ∧ (tnS ((rh1 σ k_)) 0 9 (12 + h_) 44) 202 12 ≤ 9) ∧ (ntk (up (tnS ((rh1 σ k_)) 0 9 (12 + h_) 44) 209 (16 + h_) ((tnS ((rh1 σ k_)) 0 9 (12 + h_) 44) 202 12)) 202 11 = 1 ∧ ntk (up (tnS ((rh1 σ k_)) 0 9 (12 + h_) 44) 209 (16 + h_) ((tnS ((rh1 σ k_)) 0 9 (12 + h_) 44) 202 12)) 202 12 = 59) then 1 else 0)) (σ' := (tnS ((tnS ((rh1 σ k_)) 0 9 (12 + h_) 44)) 0 9 (16 + h_) 59)) (As := [.int (iI (0)), .int (iI (9)), .int (iI (((16 + h_ : Nat) : Int))), .int (iI (59))]) (rest := []) hx hb hml hown hts hK hRf hRl hW hS (c_X12_takesNumber l D cy B (tnS ((rh1 σ k_)) 0 9 (12 + h_) 44) (tpl (σ 208) (σ 202 8).toNat (tpl (σ 208) (σ 202 8).toNat (tpl (σ 208) (σ 202 8).toNat b_))) 0 9 (16 + h_) 59 (show -2147483648 ≤ 0 ∧ 0 < 2147483648 from (by first | assumption | omega | (simp only [tpL_25, List.length_cons, List.length_nil]; omega))) (show -2147483648 ≤ 9 ∧ 9 < 2147483648 from (by first | assumption | omega | (simp only [tpL_25, List.length_cons, List.length_nil]; omega))) (show -2147483648 ≤ 59 ∧ 59 < 2147483648 from (by first | assumption | omega | (simp only [tpL_25, List.length_cons, List.length_nil]; omega))) (show PS ((tnS ((rh1 σ k_)) 0 9 (12 + h_) 44)) (tpl (σ 208) (σ 202 8).toNat (tpl (σ 208) (σ 202 8).toNat (tpl (σ 208) (σ 202 8).toNat b_))) from (PS_tn hp1 c55)) (show (16 + h_) < 48 from (by first | assumption | omega | (simp only [tpL_25, List.length_cons, List.length_nil]; omega)))) vX12_takesNumber ⟨w_968, w_25⟩ w_966 (by decide) e_202 rfl ⟨Nat.le_of_ble_eq_true rfl, Nat.le_of_ble_eq_true rfl⟩ hl.1 rfl (Nat.le_of_ble_eq_true rfl) ⟨Nat.zero_le _, Nat.zero_le _⟩ dX12_readHeir_68 (fun H locs hW hS => ?_)
      refine zi_beq (tgt := 78) hx hb dX12_readHeir_71 (by decide) (fun c71 => ?_) (fun c71 => ?_)
      · refine zi_con hx hb dX12_readHeir_78 ?_
        exact hret _ _ _ _ _ _ dX12_readHeir_79 hW hS ⟨by first | rw [if_pos (by exact (show rhB σ k_ from ⟨by omega, by rw [hhn]; exact c55, by rw [hhn]; exact c71⟩))] | rw [if_neg (by exact (fun h9 : rhB σ k_ => by have h8 := h9.2.2; rw [hhn] at h8; exact c71 h8))] | rw [if_neg (by exact (fun h9 : rhB σ k_ => by have h8 := h9.2.1; rw [hhn] at h8; exact c55 h8))], by unfold rhS; rw [if_neg (by omega), hhn]; first | rw [if_pos (by exact c55)] | rw [if_neg (by exact c55)]⟩
      · refine zi_con hx hb dX12_readHeir_74 ?_
        refine lv_goto (tgt := 79) hx hb dX12_readHeir_75 (by decide) ?_
        exact hret _ _ _ _ _ _ dX12_readHeir_79 hW hS ⟨by first | rw [if_pos (by exact (show rhB σ k_ from ⟨by omega, by rw [hhn]; exact c55, by rw [hhn]; exact c71⟩))] | rw [if_neg (by exact (fun h9 : rhB σ k_ => by have h8 := h9.2.2; rw [hhn] at h8; exact c71 h8))] | rw [if_neg (by exact (fun h9 : rhB σ k_ => by have h8 := h9.2.1; rw [hhn] at h8; exact c55 h8))], by unfold rhS; rw [if_neg (by omega), hhn]; first | rw [if_pos (by exact c55)] | rw [if_neg (by exact c55)]⟩
  · refine lv_aload_n hx hb dX12_readHeir_12 rfl (lv_at hl 1 rfl) ?_
    refine zi_con hx hb dX12_readHeir_13 ?_
    refine k_vi (fr := 4) (lo := 90) (r := (if False then 1 else 0)) (σ' := (up σ 202 14 3)) (As := [.int (iI (3))]) (rest := []) hx hb hml hown hts hK hRf hRl hW hS (c_X12_faults l D cy B σ 3 ) vX12_faults ⟨w_964, w_24⟩ w_962 (by decide) e_202 rfl ⟨Nat.le_of_ble_eq_true rfl, Nat.le_of_ble_eq_true rfl⟩ hl.1 rfl (Nat.le_of_ble_eq_true rfl) ⟨Nat.zero_le _, Nat.zero_le _⟩ dX12_readHeir_14 (fun H locs hW hS => ?_)
    exact hret _ _ _ _ _ _ dX12_readHeir_17 hW hS ⟨by rw [if_neg (fun h9 : rhB σ k_ => h9.1 (by omega))]; simp, by unfold rhS; rw [if_pos (by omega)]⟩
