
set_option maxRecDepth 100000 in
set_option maxHeartbeats 4000000 in
theorem c_X12_who (l : Launch) (D : va_G) (cy : Nat → ClassId) (B : Nat) (σ : Sg) (h_ : Int) (t_ : Int) (i_ : Int) (r_h_ : -2147483648 ≤ h_ ∧ h_ < 2147483648) (r_t_ : -2147483648 ≤ t_ ∧ t_ < 2147483648) (r_i_ : -2147483648 ≤ i_ ∧ i_ < 2147483648) (hok : σ 206 4 = 0 ∨ okV (σ 206)) (hsz : ∀ k, k < 8 → -1 ≤ σ 204 k ∧ σ 204 k ≤ 40) (hit5 : ∀ k, k < 320 → -2147483648 ≤ σ 205 k ∧ σ 205 k < 2147483648) : CIe l yX12_who cX12_who 8 (some .int) 5 117 D cy B [.ref (B + 202), .int (iI (h_)), .int (iI (t_)), .int (iI (i_))] σ (if ¬ (0 ≤ h_ ∧ h_ ≤ σ 206 4 - 1) ∨ ¬ (0 ≤ t_ ∧ t_ ≤ 7) then -1000001 else if σ 204 t_.toNat < 0 then -1000011 else if 0 ≤ i_ ∧ i_ ≤ σ 204 t_.toNat - σ 206 4 then bt (whP (σ 206) h_.toNat (fun h => σ 205 (40 * t_.toNat + i_.toNat + h))) 6 else -1000012) (fun u => ∃ (g : Nat → Int), u = if ¬ (0 ≤ h_ ∧ h_ ≤ σ 206 4 - 1) ∨ ¬ (0 ≤ t_ ∧ t_ ≤ 7) then σ else if σ 204 t_.toNat < 0 then up σ 202 3 1 else if 0 ≤ i_ ∧ i_ ≤ σ 204 t_.toNat - σ 206 4 then up (us σ 210 g) 202 3 0 else up σ 202 3 2) := by
  refine CIe_of (ty := .int) (by decide) (rfl) (Nat.le_of_ble_eq_true rfl) ?_
  intro p e R s m args below meth c Q hx hb hml hown hts hK hRf hRl hW hret ls hl
  have hown : s.vm.findClass "LovePartsModel" = some m.cls := hown
  have hS : va_S (AB B) s.heap s.heap [] := va_S.rf
  have hl : lv_has ls 8 [(0, .ref (B + 202)), (1, .int (iI (h_))), (2, .int (iI (t_))), (3, .int (iI (i_)))] := hl
  have f4 : 0 ≤ σ 206 4 ∧ σ 206 4 ≤ 4 := by rcases hok with h | h; (· omega); (· exact ⟨by have := h.1; omega, h.1.2⟩)
  refine lv_aload_n hx hb dX12_who_0 rfl (lv_at hl 0 rfl) ?_
  refine lv_iload_n hx hb dX12_who_1 rfl (lv_at hl 1 rfl) ?_
  refine k_vi (fr := 5) (lo := 117) (r := (if 0 ≤ h_ ∧ h_ ≤ σ 206 4 - 1 then 1 else 0)) (As := [.int (iI (h_))]) (rest := []) hx hb hml hown hts hK hRf hRl hW hS (c_X12_isHeir l D cy B σ h_ (show -2147483648 ≤ h_ ∧ h_ < 2147483648 from (by first | assumption | omega | (simp only [tpL_25, List.length_cons, List.length_nil]; omega))) (show 0 ≤ σ 206 4 ∧ σ 206 4 ≤ 4 from (by first | assumption | omega | (simp only [tpL_25, List.length_cons, List.length_nil]; omega)))) vX12_isHeir ⟨w_990, w_27⟩ w_988 (by decide) e_202 rfl ⟨Nat.le_of_ble_eq_true rfl, Nat.le_of_ble_eq_true rfl⟩ hl.1 rfl (Nat.le_of_ble_eq_true rfl) ⟨Nat.zero_le _, Nat.zero_le _⟩ dX12_who_2 (fun H locs hW hS => ?_)
  refine zi_beq (tgt := 15) hx hb dX12_who_5 (by decide) (fun c5 => ?_) (fun c5 => ?_)
  · refine k_ldc hx hb hown hts (v := -1000001) (by decide) w_907 dX12_who_15 ?_
    exact hret _ _ _ _ _ _ dX12_who_17 hW hS ⟨by (try simp only [Int.toNat_natCast]); (repeat' split) <;> first | rfl | omega, ⟨σ 210, by (try simp only [Int.toNat_natCast]); (repeat' split) <;> first | rfl | omega⟩⟩
  · obtain ⟨n_, rfl⟩ : ∃ h : Nat, h_ = (h : Int) := ⟨h_.toNat, by omega⟩
    have hok := hok.resolve_left (by omega)
    obtain ⟨o4, o0, o1, o2, o3, o5, o6, o7, oH⟩ := id hok
    refine lv_iload_n hx hb dX12_who_8 rfl (lv_at hl 2 rfl) ?_
    refine k_si (fr := 5) (lo := 117) (r := (if 0 ≤ t_ ∧ t_ ≤ 7 then 1 else 0)) (As := [.int (iI (t_))]) (rest := []) hx hb hml hown hts hK hRf hRl hW hS (c_X12_isRow l D cy B σ t_ (show -2147483648 ≤ t_ ∧ t_ < 2147483648 from (by first | assumption | omega | (simp only [tpL_25, List.length_cons, List.length_nil]; omega)))) vX12_isRow w_900 w_899 ⟨Nat.le_of_ble_eq_true rfl, Nat.le_of_ble_eq_true rfl⟩ hl.1 rfl (Nat.le_of_ble_eq_true rfl) ⟨Nat.zero_le _, Nat.zero_le _⟩ dX12_who_9 (fun H locs hW hS => ?_)
    refine zi_bne (tgt := 18) hx hb dX12_who_12 (by decide) (fun c12 => ?_) (fun c12 => ?_)
    · obtain ⟨r_, rfl⟩ : ∃ h : Nat, t_ = (h : Int) := ⟨t_.toNat, by omega⟩
      have hz := hsz r_ (by omega)
      have hq8 := oH n_ (by omega)
      obtain ⟨k8, k12, k16, k20, k24, k28, k32, k36, k40, k44⟩ := id hq8
      refine lv_aload_n hx hb dX12_who_18 rfl (lv_at hl 0 rfl) ?_
      refine lv_iload_n hx hb dX12_who_19 rfl (lv_at hl 2 rfl) ?_
      refine lv_iload_n hx hb dX12_who_20 rfl (lv_at hl 3 rfl) ?_
      refine lv_aload_n hx hb dX12_who_21 rfl (lv_at hl 0 rfl) ?_
      refine wz_get hx hb hts hown hK hW 202 5 (by decide) e_202 rfl (by decide) inG12 w_820 rfl rfl dX12_who_22 ?_
      refine zi_con hx hb dX12_who_25 ?_
      refine wz_ald hx hb hK hW 206 4 (by decide) e_206 (by omega) (by omega) (by decide) dX12_who_26 ?_
      refine k_vi (fr := 5) (lo := 117) (r := if σ 204 r_ < 0 then -1000011 else if 0 ≤ i_ ∧ i_ ≤ σ 204 r_ - (σ 206 4) then 0 else -1000012) (σ' := (if σ 204 r_ < 0 then up σ 202 3 1 else if 0 ≤ i_ ∧ i_ ≤ σ 204 r_ - (σ 206 4) then σ else up σ 202 3 2)) (As := [.int (iI (((r_ : Nat) : Int))), .int (iI (i_)), .int (iI (σ 206 4))]) (rest := []) hx hb hml hown hts hK hRf hRl hW hS (c_X12_lacks l D cy B σ r_ i_ (σ 206 4) (show -2147483648 ≤ i_ ∧ i_ < 2147483648 from (by first | assumption | omega | (simp only [tpL_25, List.length_cons, List.length_nil]; omega))) (show r_ < 8 from (by first | assumption | omega | (simp only [tpL_25, List.length_cons, List.length_nil]; omega))) (show 0 ≤ (σ 206 4) ∧ (σ 206 4) ≤ 12 from (by first | assumption | omega | (simp only [tpL_25, List.length_cons, List.length_nil]; omega))) (show ∀ k, k < 8 → -1 ≤ σ 204 k ∧ σ 204 k ≤ 40 from (by first | assumption | omega | (simp only [tpL_25, List.length_cons, List.length_nil]; omega)))) vX12_lacks ⟨w_1115, w_42⟩ w_1113 (by decide) e_202 rfl ⟨Nat.le_of_ble_eq_true rfl, Nat.le_of_ble_eq_true rfl⟩ hl.1 rfl (Nat.le_of_ble_eq_true rfl) ⟨Nat.zero_le _, Nat.zero_le _⟩ dX12_who_27 (fun H locs hW hS => ?_)
      refine lv_istore (lv' := [(4, .int (iI (if σ 204 r_ < 0 then -1000011 else if 0 ≤ i_ ∧ i_ ≤ σ 204 r_ - (σ 206 4) then 0 else -1000012))), (0, .ref (B + 202)), (1, .int (iI (((n_ : Nat) : Int)))), (2, .int (iI (((r_ : Nat) : Int)))), (3, .int (iI (i_)))]) hx hb dX12_who_30 hl (by decide) rfl (fun ls hl => ?_)
      refine lv_iload hx hb dX12_who_32 (lv_at hl 0 rfl) ?_
      refine zi_ge (tgt := 40) hx hb dX12_who_34 (by decide) (by ((repeat' split) <;> omega)) (fun c34 => ?_) (fun c34 => ?_)
      · have hlk : ¬ σ 204 r_ < 0 ∧ (0 ≤ i_ ∧ i_ ≤ σ 204 r_ - σ 206 4) := by revert c34; (repeat' split) <;> intro hh1 <;> omega
        rw [if_neg hlk.1, if_pos hlk.2] at hW
        obtain ⟨q_, rfl⟩ : ∃ h : Nat, i_ = (h : Int) := ⟨i_.toNat, by omega⟩
        refine lv_aload_n hx hb dX12_who_40 rfl (lv_at hl 1 rfl) ?_
        refine wz_get hx hb hts hown hK hW 202 5 (by decide) e_202 rfl (by decide) inG12 w_820 rfl rfl dX12_who_41 ?_
        refine zi_bip hx hb dX12_who_44 (by decide) ?_
        refine lv_iload_n hx hb dX12_who_46 rfl (lv_at hl 2 rfl) ?_
        refine zi_add hx hb dX12_who_47 ?_
        refine wz_ald hx hb hK hW 206 (8 + n_) (by decide) e_206 (by omega) (by omega) (by decide) dX12_who_48 ?_
        refine lv_istore (lv' := [(5, .int (iI (σ 206 (8 + n_)))), (4, .int (iI (if σ 204 r_ < 0 then -1000011 else if 0 ≤ ((q_ : Nat) : Int) ∧ ((q_ : Nat) : Int) ≤ σ 204 r_ - (σ 206 4) then 0 else -1000012))), (0, .ref (B + 202)), (1, .int (iI (((n_ : Nat) : Int)))), (2, .int (iI (((r_ : Nat) : Int)))), (3, .int (iI (((q_ : Nat) : Int))))]) hx hb dX12_who_49 hl (by decide) rfl (fun ls hl => ?_)
        refine zi_con hx hb dX12_who_51 ?_
        refine lv_istore (lv' := [(6, .int (iI (0))), (5, .int (iI (σ 206 (8 + n_)))), (4, .int (iI (if σ 204 r_ < 0 then -1000011 else if 0 ≤ ((q_ : Nat) : Int) ∧ ((q_ : Nat) : Int) ≤ σ 204 r_ - (σ 206 4) then 0 else -1000012))), (0, .ref (B + 202)), (1, .int (iI (((n_ : Nat) : Int)))), (2, .int (iI (((r_ : Nat) : Int)))), (3, .int (iI (((q_ : Nat) : Int))))]) hx hb dX12_who_52 hl (by decide) rfl (fun ls hl => ?_)
        refine zi_con hx hb dX12_who_54 ?_
        refine lv_istore (lv' := [(7, .int (iI (1))), (6, .int (iI (0))), (5, .int (iI (σ 206 (8 + n_)))), (4, .int (iI (if σ 204 r_ < 0 then -1000011 else if 0 ≤ ((q_ : Nat) : Int) ∧ ((q_ : Nat) : Int) ≤ σ 204 r_ - (σ 206 4) then 0 else -1000012))), (0, .ref (B + 202)), (1, .int (iI (((n_ : Nat) : Int)))), (2, .int (iI (((r_ : Nat) : Int)))), (3, .int (iI (((q_ : Nat) : Int))))]) hx hb dX12_who_55 hl (by decide) rfl (fun ls hl => ?_)
        have L57 : ∀ (n57 : Nat) (k_ : Nat) (x_ : Int) (g_ : Nat → Int) (H : Heap) (locs : List Loc) (ls : Array Slot), 6 - k_ < n57 → (1 ≤ k_ ∧ k_ ≤ 6) → wd D cy B (us (us σ 206 (uf (σ 206) (8 + n_) x_)) 210 g_) H → va_S (AB B) s.heap H locs → lv_has ls 8 [(7, .int (iI (((k_ : Nat) : Int)))), (6, .int (iI (bt (whP (σ 206) n_ (fun h => σ 205 (40 * r_ + q_ + h))) k_))), (5, .int (iI (σ 206 (8 + n_)))), (0, .ref (B + 202)), (1, .int (iI (((n_ : Nat) : Int)))), (2, .int (iI (((r_ : Nat) : Int)))), (3, .int (iI (((q_ : Nat) : Int))))] → W p l e R s m args below meth c H locs 0 0 Q (F0 m 57 ls []) := by
          intro n57
          induction n57 with
          | zero => intro k_ x_ g_ H locs ls hms; omega
          | succ n57 ih57 =>
            intro k_ x_ g_ H locs ls hms57 hk1 hW hS hl
            refine lv_iload hx hb dX12_who_57 (lv_at hl 0 rfl) ?_
            refine zi_con hx hb dX12_who_59 ?_
            refine zi_cgt (tgt := 112) hx hb dX12_who_60 (by decide) (by omega) (by omega) (fun c60 => ?_) (fun c60 => ?_)
            · refine lv_aload_n hx hb dX12_who_112 rfl (lv_at hl 3 rfl) ?_
              refine wz_get hx hb hts hown hK hW 202 5 (by decide) e_202 rfl (by decide) inG12 w_820 rfl rfl dX12_who_113 ?_
              refine zi_bip hx hb dX12_who_116 (by decide) ?_
              refine lv_iload_n hx hb dX12_who_118 rfl (lv_at hl 4 rfl) ?_
              refine zi_add hx hb dX12_who_119 ?_
              refine lv_iload hx hb dX12_who_120 (lv_at hl 2 rfl) ?_
              refine wz_ast (σ' := (up (us (us σ 206 (uf (σ 206) (8 + n_) x_)) 210 g_) 206 (8 + n_) (σ 206 (8 + n_)))) hx hb hK hW hS 206 (8 + n_) (by decide) e_206 (by omega) (by omega) (by decide) p_206 dX12_who_122 (fun H locs hW hS => ?_)
              rw [up_us2 _ _ _ _ _ (by omega), uf_uf, uf_id, us_id] at hW
              refine lv_aload_n hx hb dX12_who_123 rfl (lv_at hl 3 rfl) ?_
              refine lv_iload hx hb dX12_who_124 (lv_at hl 1 rfl) ?_
              refine k_vi (fr := 5) (lo := 117) (r := (bt (whP (σ 206) n_ (fun h => σ 205 (40 * r_ + q_ + h))) k_)) (σ' := (up (us σ 210 g_) 202 3 0)) (As := [.int (iI (bt (whP (σ 206) n_ (fun h => σ 205 (40 * r_ + q_ + h))) k_))]) (rest := []) hx hb hml hown hts hK hRf hRl hW hS (c_X12_well l D cy B (us σ 210 g_) (bt (whP (σ 206) n_ (fun h => σ 205 (40 * r_ + q_ + h))) k_) ) vX12_well ⟨w_915, w_19⟩ w_913 (by decide) e_202 rfl ⟨Nat.le_of_ble_eq_true rfl, Nat.le_of_ble_eq_true rfl⟩ hl.1 rfl (Nat.le_of_ble_eq_true rfl) ⟨Nat.zero_le _, Nat.zero_le _⟩ dX12_who_126 (fun H locs hW hS => ?_)
              have hb5 : k_ = 6 := by omega
              subst hb5
              exact hret _ _ _ _ _ _ dX12_who_129 hW hS ⟨by simp only [Int.toNat_natCast]; rw [if_neg (by omega), if_neg (by omega), if_pos (by omega)], ⟨g_, by simp only [Int.toNat_natCast]; rw [if_neg (by omega), if_neg (by omega), if_pos (by omega)]⟩⟩
            · refine lv_aload_n hx hb dX12_who_63 rfl (lv_at hl 3 rfl) ?_
              refine wz_get hx hb hts hown hK hW 202 5 (by decide) e_202 rfl (by decide) inG12 w_820 rfl rfl dX12_who_64 ?_
              refine zi_bip hx hb dX12_who_67 (by decide) ?_
              refine lv_iload_n hx hb dX12_who_69 rfl (lv_at hl 4 rfl) ?_
              refine zi_add hx hb dX12_who_70 ?_
              refine lv_iload hx hb dX12_who_71 (lv_at hl 0 rfl) ?_
              refine wz_ast (σ' := (up (us (us σ 206 (uf (σ 206) (8 + n_) x_)) 210 g_) 206 (8 + n_) ((k_ : Nat) : Int))) hx hb hK hW hS 206 (8 + n_) (by decide) e_206 (by omega) (by omega) (by decide) p_206 dX12_who_73 (fun H locs hW hS => ?_)
              rw [up_us2 _ _ _ _ _ (by omega), uf_uf] at hW
              refine lv_iload hx hb dX12_who_74 (lv_at hl 1 rfl) ?_
              refine lv_aload_n hx hb dX12_who_76 rfl (lv_at hl 3 rfl) ?_
              refine zi_bip hx hb dX12_who_77 (by decide) ?_
              refine lv_iload_n hx hb dX12_who_79 rfl (lv_at hl 5 rfl) ?_
              refine zi_mul hx hb dX12_who_80 ?_
              refine lv_iload_n hx hb dX12_who_81 rfl (lv_at hl 6 rfl) ?_
              refine zi_add hx hb dX12_who_82 ?_
              refine zi_top (y := ((40 * r_ + q_ : Nat) : Int)) (by omega) ?_
              refine lv_aload_n hx hb dX12_who_83 rfl (lv_at hl 3 rfl) ?_
              refine wz_get hx hb hts hown hK hW 202 5 (by decide) e_202 rfl (by decide) inG12 w_820 rfl rfl dX12_who_84 ?_
              refine zi_con hx hb dX12_who_87 ?_
              refine wz_ald hx hb hK hW 206 3 (by decide) e_206 (by omega) (by omega) (by decide) dX12_who_88 ?_
              refine zi_top (y := σ 206 3) (by (show (uf (σ 206) (8 + n_) ((k_ : Nat) : Int)) 3 = σ 206 3; exact uf_ne _ _ (by omega))) ?_
              refine k_vi (fr := 5) (lo := 117) (r := (if al (fun h => σ 205 ((40 * r_ + q_) + h)) (shr ((us (us σ 206 (uf (σ 206) (8 + n_) ((k_ : Nat) : Int))) 210 g_) 206) (σ 206 3)) (mn ((us (us σ 206 (uf (σ 206) (8 + n_) ((k_ : Nat) : Int))) 210 g_) 206)) = true then 1 else 0)) (σ' := (us (us (us σ 206 (uf (σ 206) (8 + n_) ((k_ : Nat) : Int))) 210 g_) 210 (cpy (mn ((us (us σ 206 (uf (σ 206) (8 + n_) ((k_ : Nat) : Int))) 210 g_) 206)) (shr ((us (us σ 206 (uf (σ 206) (8 + n_) ((k_ : Nat) : Int))) 210 g_) 206) (σ 206 3)) ((us (us σ 206 (uf (σ 206) (8 + n_) ((k_ : Nat) : Int))) 210 g_) 210)))) (As := [.int (iI (((40 * r_ + q_ : Nat) : Int))), .int (iI (σ 206 3))]) (rest := [.int (iI (bt (whP (σ 206) n_ (fun h => σ 205 (40 * r_ + q_ + h))) k_))]) hx hb hml hown hts hK hRf hRl hW hS (c_X12_isSo l D cy B (us (us σ 206 (uf (σ 206) (8 + n_) ((k_ : Nat) : Int))) 210 g_) (40 * r_ + q_) (σ 206 3) (show okV ((us (us σ 206 (uf (σ 206) (8 + n_) ((k_ : Nat) : Int))) 210 g_) 206) from (by show okV (uf (σ 206) (8 + n_) ((k_ : Nat) : Int)); exact okV_kind hok (by omega) (by omega))) (show 0 ≤ (σ 206 3) ∧ (σ 206 3) ≤ 3 from (by first | assumption | omega | (simp only [tpL_25, List.length_cons, List.length_nil]; omega))) (show ((40 * r_ + q_) : Int) + (us (us σ 206 (uf (σ 206) (8 + n_) ((k_ : Nat) : Int))) 210 g_) 206 4 ≤ 320 from (by show ((40 * r_ + q_ : Nat) : Int) + (uf (σ 206) (8 + n_) ((k_ : Nat) : Int)) 4 ≤ 320; rw [uf_ne _ _ (by omega)]; omega)) (show ∀ k, k < 320 → -2147483648 ≤ σ 205 k ∧ σ 205 k < 2147483648 from (by first | assumption | omega | (simp only [tpL_25, List.length_cons, List.length_nil]; omega)))) vX12_isSo ⟨w_1123, w_43⟩ w_1121 (by decide) e_202 rfl ⟨Nat.le_of_ble_eq_true rfl, Nat.le_of_ble_eq_true rfl⟩ hl.1 rfl (Nat.le_of_ble_eq_true rfl) ⟨Nat.zero_le _, Nat.zero_le _⟩ dX12_who_89 (fun H locs hW hS => ?_)
              refine zi_beq (tgt := 102) hx hb dX12_who_92 (by decide) (fun c92 => ?_) (fun c92 => ?_)
              · refine zi_con hx hb dX12_who_102 ?_
                refine zi_or hx hb dX12_who_103 ?_
                refine lv_istore (lv' := [(6, .int (iI (orI (bt (whP (σ 206) n_ (fun h => σ 205 (40 * r_ + q_ + h))) k_) 0))), (7, .int (iI (((k_ : Nat) : Int)))), (5, .int (iI (σ 206 (8 + n_)))), (0, .ref (B + 202)), (1, .int (iI (((n_ : Nat) : Int)))), (2, .int (iI (((r_ : Nat) : Int)))), (3, .int (iI (((q_ : Nat) : Int))))]) hx hb dX12_who_104 hl (by decide) rfl (fun ls hl => ?_)
                refine lv_iinc (v := iI (((k_ : Nat) : Int) + 1)) (lv' := [(7, .int (iI (((k_ : Nat) : Int) + 1))), (6, .int (iI (orI (bt (whP (σ 206) n_ (fun h => σ 205 (40 * r_ + q_ + h))) k_) 0))), (5, .int (iI (σ 206 (8 + n_)))), (0, .ref (B + 202)), (1, .int (iI (((n_ : Nat) : Int)))), (2, .int (iI (((r_ : Nat) : Int)))), (3, .int (iI (((q_ : Nat) : Int))))]) hx hb dX12_who_106 hl (k := 1) rfl (iI_add _ _) (by decide) rfl (fun ls hl => ?_)
                refine lv_goto (tgt := 57) hx hb dX12_who_109 (by decide) ?_
                have hwp : whP (σ 206) n_ (fun h => σ 205 (40 * r_ + q_ + h)) k_ = al (fun h => σ 205 (40 * r_ + q_ + h)) (shr (uf (σ 206) (8 + n_) ((k_ : Nat) : Int)) (σ 206 3)) (mn (uf (σ 206) (8 + n_) ((k_ : Nat) : Int))) := by unfold whP; rw [mn_uf _ _ _ (by omega), decide_eq_true (by omega), Bool.true_and]
                have e3 : bt (whP (σ 206) n_ (fun h => σ 205 (40 * r_ + q_ + h))) (k_ + 1) = orI (bt (whP (σ 206) n_ (fun h => σ 205 (40 * r_ + q_ + h))) k_) (if whP (σ 206) n_ (fun h => σ 205 (40 * r_ + q_ + h)) k_ = true then p2 k_ else 0) := rfl
                first | rw [if_pos (hwp.trans c92)] at e3 | rw [if_neg (by rw [hwp]; exact c92)] at e3
                exact ih57 (k_ + 1) ((k_ : Nat) : Int) (cpy (mn (uf (σ 206) (8 + n_) ((k_ : Nat) : Int))) (shr (uf (σ 206) (8 + n_) ((k_ : Nat) : Int)) (σ 206 3)) g_) _ _ _ (by omega) (by omega) (by have h2 := hW; rw [us_us] at h2; exact h2) hS (lv_sub hl [0, 1, 2, 3, 4, 5, 6] (by rw [e3]; rfl))
              · refine zi_con hx hb dX12_who_95 ?_
                refine lv_iload hx hb dX12_who_96 (lv_at hl 0 rfl) ?_
                refine zi_shl (k := k_) hx hb (by omega) (by omega) dX12_who_98 ?_
                refine lv_goto (tgt := 103) hx hb dX12_who_99 (by decide) ?_
                refine zi_or hx hb dX12_who_103 ?_
                refine lv_istore (lv' := [(6, .int (iI (orI (bt (whP (σ 206) n_ (fun h => σ 205 (40 * r_ + q_ + h))) k_) (p2 k_)))), (7, .int (iI (((k_ : Nat) : Int)))), (5, .int (iI (σ 206 (8 + n_)))), (0, .ref (B + 202)), (1, .int (iI (((n_ : Nat) : Int)))), (2, .int (iI (((r_ : Nat) : Int)))), (3, .int (iI (((q_ : Nat) : Int))))]) hx hb dX12_who_104 hl (by decide) rfl (fun ls hl => ?_)
                refine lv_iinc (v := iI (((k_ : Nat) : Int) + 1)) (lv' := [(7, .int (iI (((k_ : Nat) : Int) + 1))), (6, .int (iI (orI (bt (whP (σ 206) n_ (fun h => σ 205 (40 * r_ + q_ + h))) k_) (p2 k_)))), (5, .int (iI (σ 206 (8 + n_)))), (0, .ref (B + 202)), (1, .int (iI (((n_ : Nat) : Int)))), (2, .int (iI (((r_ : Nat) : Int)))), (3, .int (iI (((q_ : Nat) : Int))))]) hx hb dX12_who_106 hl (k := 1) rfl (iI_add _ _) (by decide) rfl (fun ls hl => ?_)
                refine lv_goto (tgt := 57) hx hb dX12_who_109 (by decide) ?_
                have hwp : whP (σ 206) n_ (fun h => σ 205 (40 * r_ + q_ + h)) k_ = al (fun h => σ 205 (40 * r_ + q_ + h)) (shr (uf (σ 206) (8 + n_) ((k_ : Nat) : Int)) (σ 206 3)) (mn (uf (σ 206) (8 + n_) ((k_ : Nat) : Int))) := by unfold whP; rw [mn_uf _ _ _ (by omega), decide_eq_true (by omega), Bool.true_and]
                have e3 : bt (whP (σ 206) n_ (fun h => σ 205 (40 * r_ + q_ + h))) (k_ + 1) = orI (bt (whP (σ 206) n_ (fun h => σ 205 (40 * r_ + q_ + h))) k_) (if whP (σ 206) n_ (fun h => σ 205 (40 * r_ + q_ + h)) k_ = true then p2 k_ else 0) := rfl
                first | rw [if_pos (hwp.trans c92)] at e3 | rw [if_neg (by rw [hwp]; exact c92)] at e3
                exact ih57 (k_ + 1) ((k_ : Nat) : Int) (cpy (mn (uf (σ 206) (8 + n_) ((k_ : Nat) : Int))) (shr (uf (σ 206) (8 + n_) ((k_ : Nat) : Int)) (σ 206 3)) g_) _ _ _ (by omega) (by omega) (by have h2 := hW; rw [us_us] at h2; exact h2) hS (lv_sub hl [0, 1, 2, 3, 4, 5, 6] (by rw [e3]; rfl))
        exact L57 _ 1 (σ 206 (8 + n_)) (σ 210) _ _ _ (Nat.lt_succ_self _) (by omega) (by rw [uf_id, us_id, us_id]; exact hW) hS (lv_sub hl [0, 1, 2, 4, 5, 6, 7] (by rw [bt1]; rfl))
      · have hlk : σ 204 r_ < 0 ∨ ¬ (0 ≤ i_ ∧ i_ ≤ σ 204 r_ - σ 206 4) := by revert c34; (repeat' split) <;> intro hh1 <;> omega
        refine lv_iload hx hb dX12_who_37 (lv_at hl 0 rfl) ?_
        exact hret _ _ _ _ _ _ dX12_who_39 hW hS ⟨by (try simp only [Int.toNat_natCast]); (repeat' split) <;> first | rfl | omega, ⟨σ 210, by (try simp only [Int.toNat_natCast]); (repeat' split) <;> first | rfl | omega⟩⟩
    · refine k_ldc hx hb hown hts (v := -1000001) (by decide) w_907 dX12_who_15 ?_
      exact hret _ _ _ _ _ _ dX12_who_17 hW hS ⟨by (try simp only [Int.toNat_natCast]); (repeat' split) <;> first | rfl | omega, ⟨σ 210, by (try simp only [Int.toNat_natCast]); (repeat' split) <;> first | rfl | omega⟩⟩

set_option maxRecDepth 100000 in
set_option maxHeartbeats 4000000 in
theorem c_X12_loves (l : Launch) (D : va_G) (cy : Nat → ClassId) (B : Nat) (σ : Sg) (h_ : Int) (t_ : Int) (i_ : Int) (m_ : Int) (w_ : Int) (r_h_ : -2147483648 ≤ h_ ∧ h_ < 2147483648) (r_t_ : -2147483648 ≤ t_ ∧ t_ < 2147483648) (r_i_ : -2147483648 ≤ i_ ∧ i_ < 2147483648) (r_m_ : -2147483648 ≤ m_ ∧ m_ < 2147483648) (r_w_ : -2147483648 ≤ w_ ∧ w_ < 2147483648) (hok : σ 206 4 = 0 ∨ okV (σ 206)) (hsz : ∀ k, k < 8 → -1 ≤ σ 204 k ∧ σ 204 k ≤ 40) (hit5 : ∀ k, k < 320 → -2147483648 ≤ σ 205 k ∧ σ 205 k < 2147483648) (hm : σ 206 5 ≤ 999) : CI l yX12_loves cX12_loves 12 (some .int) 2 48 D cy B [.ref (B + 202), .int (iI (h_)), .int (iI (t_)), .int (iI (i_)), .int (iI (m_)), .int (iI (w_))] σ (if ¬ (0 ≤ h_ ∧ h_ ≤ σ 206 4 - 1) ∨ ¬ (0 ≤ t_ ∧ t_ ≤ 7) ∨ ¬ (1 ≤ m_ ∧ m_ ≤ 12) ∨ ¬ (0 ≤ w_ ∧ w_ ≤ 1) then -1000001 else if σ 204 t_.toNat < 0 then -1000011 else if 0 ≤ i_ ∧ i_ ≤ σ 204 t_.toNat - m_ then (if w_ = 0 then mcd (lvP (σ 206) h_.toNat (fun h => σ 205 (40 * t_.toNat + i_.toNat + h)) m_.toNat) 10 else mld (lvP (σ 206) h_.toNat (fun h => σ 205 (40 * t_.toNat + i_.toNat + h)) m_.toNat) 10) else -1000012) (if ¬ (0 ≤ h_ ∧ h_ ≤ σ 206 4 - 1) ∨ ¬ (0 ≤ t_ ∧ t_ ≤ 7) ∨ ¬ (1 ≤ m_ ∧ m_ ≤ 12) ∨ ¬ (0 ≤ w_ ∧ w_ ≤ 1) then σ else if σ 204 t_.toNat < 0 then up σ 202 3 1 else if 0 ≤ i_ ∧ i_ ≤ σ 204 t_.toNat - m_ then up (us σ 212 (σ 206)) 202 3 0 else up σ 202 3 2) := by
  refine CI_of (ty := .int) (by decide) (rfl) (Nat.le_of_ble_eq_true rfl) ?_
  intro p e R s m args below meth c Q hx hb hml hown hts hK hRf hRl hW hret ls hl
  have hown : s.vm.findClass "LovePartsModel" = some m.cls := hown
  have hS : va_S (AB B) s.heap s.heap [] := va_S.rf
  have hl : lv_has ls 12 [(0, .ref (B + 202)), (1, .int (iI (h_))), (2, .int (iI (t_))), (3, .int (iI (i_))), (4, .int (iI (m_))), (5, .int (iI (w_)))] := hl
  have f4 : 0 ≤ σ 206 4 ∧ σ 206 4 ≤ 4 := by rcases hok with h | h; (· omega); (· exact ⟨by have := h.1; omega, h.1.2⟩)
  refine lv_aload_n hx hb dX12_loves_0 rfl (lv_at hl 0 rfl) ?_
  refine lv_iload_n hx hb dX12_loves_1 rfl (lv_at hl 1 rfl) ?_
  refine k_vi (fr := 2) (lo := 48) (r := (if 0 ≤ h_ ∧ h_ ≤ σ 206 4 - 1 then 1 else 0)) (As := [.int (iI (h_))]) (rest := []) hx hb hml hown hts hK hRf hRl hW hS (c_X12_isHeir l D cy B σ h_ (show -2147483648 ≤ h_ ∧ h_ < 2147483648 from (by first | assumption | omega | (simp only [tpL_25, List.length_cons, List.length_nil]; omega))) (show 0 ≤ σ 206 4 ∧ σ 206 4 ≤ 4 from (by first | assumption | omega | (simp only [tpL_25, List.length_cons, List.length_nil]; omega)))) vX12_isHeir ⟨w_990, w_27⟩ w_988 (by decide) e_202 rfl ⟨Nat.le_of_ble_eq_true rfl, Nat.le_of_ble_eq_true rfl⟩ hl.1 rfl (Nat.le_of_ble_eq_true rfl) ⟨Nat.zero_le _, Nat.zero_le _⟩ dX12_loves_2 (fun H locs hW hS => ?_)
  refine zi_beq (tgt := 39) hx hb dX12_loves_5 (by decide) (fun c5 => ?_) (fun c5 => ?_)
  · refine k_ldc hx hb hown hts (v := -1000001) (by decide) w_907 dX12_loves_39 ?_
    exact hret _ _ _ _ _ _ dX12_loves_41 hW hS ⟨by (try simp only [Int.toNat_natCast]); (repeat' split) <;> first | rfl | omega, by (try simp only [Int.toNat_natCast]); (repeat' split) <;> first | rfl | omega⟩
  · obtain ⟨n_, rfl⟩ : ∃ h : Nat, h_ = (h : Int) := ⟨h_.toNat, by omega⟩
    have hok := hok.resolve_left (by omega)
    obtain ⟨o4, o0, o1, o2, o3, o5, o6, o7, oH⟩ := id hok
    refine lv_iload_n hx hb dX12_loves_8 rfl (lv_at hl 2 rfl) ?_
    refine k_si (fr := 2) (lo := 48) (r := (if 0 ≤ t_ ∧ t_ ≤ 7 then 1 else 0)) (As := [.int (iI (t_))]) (rest := []) hx hb hml hown hts hK hRf hRl hW hS (c_X12_isRow l D cy B σ t_ (show -2147483648 ≤ t_ ∧ t_ < 2147483648 from (by first | assumption | omega | (simp only [tpL_25, List.length_cons, List.length_nil]; omega)))) vX12_isRow w_900 w_899 ⟨Nat.le_of_ble_eq_true rfl, Nat.le_of_ble_eq_true rfl⟩ hl.1 rfl (Nat.le_of_ble_eq_true rfl) ⟨Nat.zero_le _, Nat.zero_le _⟩ dX12_loves_9 (fun H locs hW hS => ?_)
    refine zi_beq (tgt := 39) hx hb dX12_loves_12 (by decide) (fun c12 => ?_) (fun c12 => ?_)
    · refine k_ldc hx hb hown hts (v := -1000001) (by decide) w_907 dX12_loves_39 ?_
      exact hret _ _ _ _ _ _ dX12_loves_41 hW hS ⟨by (try simp only [Int.toNat_natCast]); (repeat' split) <;> first | rfl | omega, by (try simp only [Int.toNat_natCast]); (repeat' split) <;> first | rfl | omega⟩
    · obtain ⟨r_, rfl⟩ : ∃ h : Nat, t_ = (h : Int) := ⟨t_.toNat, by omega⟩
      have hz := hsz r_ (by omega)
      refine lv_iload hx hb dX12_loves_15 (lv_at hl 4 rfl) ?_
      refine zi_i2l hx hb dX12_loves_17 (by omega) ?_
      refine zi_lcon (z := 1) hx hb dX12_loves_18 (by decide) ?_
      refine k_ldc2 hx hb hown hts (v := 12) (by decide) w_1112 dX12_loves_19 ?_
      refine k_si (fr := 2) (lo := 48) (r := (if 1 ≤ m_ ∧ m_ ≤ 12 then 1 else 0)) (As := [.long (lI (m_)), .long (lI (1)), .long (lI (12))]) (rest := []) hx hb hml hown hts hK hRf hRl hW hS (c_X12_in l D cy B σ m_ 1 12 (show -9223372036854775808 ≤ m_ ∧ m_ < 9223372036854775808 from (by first | assumption | omega | (simp only [tpL_25, List.length_cons, List.length_nil]; omega))) (show -9223372036854775808 ≤ 1 ∧ 1 < 9223372036854775808 from (by first | assumption | omega | (simp only [tpL_25, List.length_cons, List.length_nil]; omega))) (show -9223372036854775808 ≤ 12 ∧ 12 < 9223372036854775808 from (by first | assumption | omega | (simp only [tpL_25, List.length_cons, List.length_nil]; omega)))) vX12_in w_904 w_903 ⟨Nat.le_of_ble_eq_true rfl, Nat.le_of_ble_eq_true rfl⟩ hl.1 rfl (Nat.le_of_ble_eq_true rfl) ⟨Nat.zero_le _, Nat.zero_le _⟩ dX12_loves_22 (fun H locs hW hS => ?_)
      refine zi_beq (tgt := 39) hx hb dX12_loves_25 (by decide) (fun c25 => ?_) (fun c25 => ?_)
      · refine k_ldc hx hb hown hts (v := -1000001) (by decide) w_907 dX12_loves_39 ?_
        exact hret _ _ _ _ _ _ dX12_loves_41 hW hS ⟨by (try simp only [Int.toNat_natCast]); (repeat' split) <;> first | rfl | omega, by (try simp only [Int.toNat_natCast]); (repeat' split) <;> first | rfl | omega⟩
      · refine lv_iload hx hb dX12_loves_28 (lv_at hl 5 rfl) ?_
        refine zi_i2l hx hb dX12_loves_30 (by omega) ?_
        refine zi_lcon (z := 0) hx hb dX12_loves_31 (by decide) ?_
        refine zi_lcon (z := 1) hx hb dX12_loves_32 (by decide) ?_
        refine k_si (fr := 2) (lo := 48) (r := (if 0 ≤ w_ ∧ w_ ≤ 1 then 1 else 0)) (As := [.long (lI (w_)), .long (lI (0)), .long (lI (1))]) (rest := []) hx hb hml hown hts hK hRf hRl hW hS (c_X12_in l D cy B σ w_ 0 1 (show -9223372036854775808 ≤ w_ ∧ w_ < 9223372036854775808 from (by first | assumption | omega | (simp only [tpL_25, List.length_cons, List.length_nil]; omega))) (show -9223372036854775808 ≤ 0 ∧ 0 < 9223372036854775808 from (by first | assumption | omega | (simp only [tpL_25, List.length_cons, List.length_nil]; omega))) (show -9223372036854775808 ≤ 1 ∧ 1 < 9223372036854775808 from (by first | assumption | omega | (simp only [tpL_25, List.length_cons, List.length_nil]; omega)))) vX12_in w_904 w_903 ⟨Nat.le_of_ble_eq_true rfl, Nat.le_of_ble_eq_true rfl⟩ hl.1 rfl (Nat.le_of_ble_eq_true rfl) ⟨Nat.zero_le _, Nat.zero_le _⟩ dX12_loves_33 (fun H locs hW hS => ?_)
        refine zi_bne (tgt := 42) hx hb dX12_loves_36 (by decide) (fun c36 => ?_) (fun c36 => ?_)
        · refine lv_aload_n hx hb dX12_loves_42 rfl (lv_at hl 0 rfl) ?_
          refine lv_iload_n hx hb dX12_loves_43 rfl (lv_at hl 2 rfl) ?_
          refine lv_iload_n hx hb dX12_loves_44 rfl (lv_at hl 3 rfl) ?_
          refine lv_iload hx hb dX12_loves_45 (lv_at hl 4 rfl) ?_
          refine k_vi (fr := 2) (lo := 48) (r := if σ 204 r_ < 0 then -1000011 else if 0 ≤ i_ ∧ i_ ≤ σ 204 r_ - m_ then 0 else -1000012) (σ' := (if σ 204 r_ < 0 then up σ 202 3 1 else if 0 ≤ i_ ∧ i_ ≤ σ 204 r_ - m_ then σ else up σ 202 3 2)) (As := [.int (iI (((r_ : Nat) : Int))), .int (iI (i_)), .int (iI (m_))]) (rest := []) hx hb hml hown hts hK hRf hRl hW hS (c_X12_lacks l D cy B σ r_ i_ m_ (show -2147483648 ≤ i_ ∧ i_ < 2147483648 from (by first | assumption | omega | (simp only [tpL_25, List.length_cons, List.length_nil]; omega))) (show r_ < 8 from (by first | assumption | omega | (simp only [tpL_25, List.length_cons, List.length_nil]; omega))) (show 0 ≤ m_ ∧ m_ ≤ 12 from (by first | assumption | omega | (simp only [tpL_25, List.length_cons, List.length_nil]; omega))) (show ∀ k, k < 8 → -1 ≤ σ 204 k ∧ σ 204 k ≤ 40 from (by first | assumption | omega | (simp only [tpL_25, List.length_cons, List.length_nil]; omega)))) vX12_lacks ⟨w_1115, w_42⟩ w_1113 (by decide) e_202 rfl ⟨Nat.le_of_ble_eq_true rfl, Nat.le_of_ble_eq_true rfl⟩ hl.1 rfl (Nat.le_of_ble_eq_true rfl) ⟨Nat.zero_le _, Nat.zero_le _⟩ dX12_loves_47 (fun H locs hW hS => ?_)
          refine lv_istore (lv' := [(6, .int (iI (if σ 204 r_ < 0 then -1000011 else if 0 ≤ i_ ∧ i_ ≤ σ 204 r_ - m_ then 0 else -1000012))), (0, .ref (B + 202)), (1, .int (iI (((n_ : Nat) : Int)))), (2, .int (iI (((r_ : Nat) : Int)))), (3, .int (iI (i_))), (4, .int (iI (m_))), (5, .int (iI (w_)))]) hx hb dX12_loves_50 hl (by decide) rfl (fun ls hl => ?_)
          refine lv_iload hx hb dX12_loves_52 (lv_at hl 0 rfl) ?_
          refine zi_ge (tgt := 60) hx hb dX12_loves_54 (by decide) (by ((repeat' split) <;> omega)) (fun c54 => ?_) (fun c54 => ?_)
          · have hlk : ¬ σ 204 r_ < 0 ∧ (0 ≤ i_ ∧ i_ ≤ σ 204 r_ - m_) := by revert c54; (repeat' split) <;> intro hh1 <;> omega
            rw [if_neg hlk.1, if_pos hlk.2] at hW
            obtain ⟨q_, rfl⟩ : ∃ h : Nat, i_ = (h : Int) := ⟨i_.toNat, by omega⟩
            obtain ⟨y_, rfl⟩ : ∃ h : Nat, m_ = (h : Int) := ⟨m_.toNat, by omega⟩
            refine lv_aload_n hx hb dX12_loves_60 rfl (lv_at hl 1 rfl) ?_
            refine k_vv (fr := 2) (lo := 48) (σ' := (us σ 212 (σ 206))) (As := []) (rest := []) hx hb hml hown hts hK hRf hRl hW hS (c_X12_putAside l D cy B σ  ) vX12_putAside ⟨w_1066, w_37⟩ w_1064 (by decide) e_202 rfl ⟨Nat.le_of_ble_eq_true rfl, Nat.le_of_ble_eq_true rfl⟩ hl.1 rfl (Nat.le_of_ble_eq_true rfl) ⟨Nat.zero_le _, Nat.zero_le _⟩ dX12_loves_61 (fun H locs hW hS => ?_)
            refine zi_con hx hb dX12_loves_64 ?_
            refine lv_istore (lv' := [(7, .int (iI (0))), (6, .int (iI (if σ 204 r_ < 0 then -1000011 else if 0 ≤ ((q_ : Nat) : Int) ∧ ((q_ : Nat) : Int) ≤ σ 204 r_ - ((y_ : Nat) : Int) then 0 else -1000012))), (0, .ref (B + 202)), (1, .int (iI (((n_ : Nat) : Int)))), (2, .int (iI (((r_ : Nat) : Int)))), (3, .int (iI (((q_ : Nat) : Int)))), (4, .int (iI (((y_ : Nat) : Int)))), (5, .int (iI (w_)))]) hx hb dX12_loves_65 hl (by decide) rfl (fun ls hl => ?_)
            refine k_ldc hx hb hown hts (v := -1000000) (by decide) w_1080 dX12_loves_67 ?_
            refine lv_istore (lv' := [(8, .int (iI ((-1000000)))), (7, .int (iI (0))), (6, .int (iI (if σ 204 r_ < 0 then -1000011 else if 0 ≤ ((q_ : Nat) : Int) ∧ ((q_ : Nat) : Int) ≤ σ 204 r_ - ((y_ : Nat) : Int) then 0 else -1000012))), (0, .ref (B + 202)), (1, .int (iI (((n_ : Nat) : Int)))), (2, .int (iI (((r_ : Nat) : Int)))), (3, .int (iI (((q_ : Nat) : Int)))), (4, .int (iI (((y_ : Nat) : Int)))), (5, .int (iI (w_)))]) hx hb dX12_loves_69 hl (by decide) rfl (fun ls hl => ?_)
            refine zi_bip hx hb dX12_loves_71 (by decide) ?_
            refine lv_istore (lv' := [(9, .int (iI (9))), (8, .int (iI ((-1000000)))), (7, .int (iI (0))), (6, .int (iI (if σ 204 r_ < 0 then -1000011 else if 0 ≤ ((q_ : Nat) : Int) ∧ ((q_ : Nat) : Int) ≤ σ 204 r_ - ((y_ : Nat) : Int) then 0 else -1000012))), (0, .ref (B + 202)), (1, .int (iI (((n_ : Nat) : Int)))), (2, .int (iI (((r_ : Nat) : Int)))), (3, .int (iI (((q_ : Nat) : Int)))), (4, .int (iI (((y_ : Nat) : Int)))), (5, .int (iI (w_)))]) hx hb dX12_loves_73 hl (by decide) rfl (fun ls hl => ?_)
            have L75 : ∀ (n75 : Nat) (d_ : Nat) (H : Heap) (locs : List Loc) (ls : Array Slot), 10 - d_ < n75 → (d_ ≤ 10) → wd D cy B (us σ 212 (σ 206)) H → va_S (AB B) s.heap H locs → lv_has ls 12 [(9, .int (iI (9 - ((d_ : Nat) : Int)))), (8, .int (iI (mld (lvP (σ 206) n_ (fun h => σ 205 (40 * r_ + q_ + h)) y_) d_))), (7, .int (iI (mcd (lvP (σ 206) n_ (fun h => σ 205 (40 * r_ + q_ + h)) y_) d_))), (0, .ref (B + 202)), (1, .int (iI (((n_ : Nat) : Int)))), (2, .int (iI (((r_ : Nat) : Int)))), (3, .int (iI (((q_ : Nat) : Int)))), (4, .int (iI (((y_ : Nat) : Int)))), (5, .int (iI (w_)))] → W p l e R s m args below meth c H locs 0 0 Q (F0 m 75 ls []) := by
              intro n75
              induction n75 with
              | zero => intro d_ H locs ls hms; omega
              | succ n75 ih75 =>
                intro d_ H locs ls hms75 hd hW hS hl
                have hmb := mcd_bd (lvP (σ 206) n_ (fun h => σ 205 (40 * r_ + q_ + h)) y_) d_
                have hlb := mld_bd (lvP (σ 206) n_ (fun h => σ 205 (40 * r_ + q_ + h)) y_) d_
                refine lv_iload hx hb dX12_loves_75 (lv_at hl 0 rfl) ?_
                refine zi_lt (tgt := 188) hx hb dX12_loves_77 (by decide) (by omega) (fun c77 => ?_) (fun c77 => ?_)
                · refine lv_aload_n hx hb dX12_loves_188 rfl (lv_at hl 3 rfl) ?_
                  refine lv_iload hx hb dX12_loves_189 (lv_at hl 8 rfl) ?_
                  refine zi_ne (tgt := 199) hx hb dX12_loves_191 (by decide) (by omega) (fun c191 => ?_) (fun c191 => ?_)
                  · refine lv_iload hx hb dX12_loves_199 (lv_at hl 1 rfl) ?_
                    refine k_vi (fr := 2) (lo := 48) (r := (mld (lvP (σ 206) n_ (fun h => σ 205 (40 * r_ + q_ + h)) y_) d_)) (σ' := (up (us σ 212 (σ 206)) 202 3 0)) (As := [.int (iI (mld (lvP (σ 206) n_ (fun h => σ 205 (40 * r_ + q_ + h)) y_) d_))]) (rest := []) hx hb hml hown hts hK hRf hRl hW hS (c_X12_well l D cy B (us σ 212 (σ 206)) (mld (lvP (σ 206) n_ (fun h => σ 205 (40 * r_ + q_ + h)) y_) d_) ) vX12_well ⟨w_915, w_19⟩ w_913 (by decide) e_202 rfl ⟨Nat.le_of_ble_eq_true rfl, Nat.le_of_ble_eq_true rfl⟩ hl.1 rfl (Nat.le_of_ble_eq_true rfl) ⟨Nat.zero_le _, Nat.zero_le _⟩ dX12_loves_201 (fun H locs hW hS => ?_)
                    have hd5 : d_ = 10 := by omega
                    subst hd5
                    exact hret _ _ _ _ _ _ dX12_loves_204 hW hS ⟨by simp only [Int.toNat_natCast]; rw [if_neg (by omega), if_neg (by omega), if_pos (by omega)]; split <;> first | rfl | omega, by simp only [Int.toNat_natCast]; rw [if_neg (by omega), if_neg (by omega), if_pos (by omega)]⟩
                  · refine lv_iload hx hb dX12_loves_194 (lv_at hl 2 rfl) ?_
                    refine lv_goto (tgt := 201) hx hb dX12_loves_196 (by decide) ?_
                    refine k_vi (fr := 2) (lo := 48) (r := (mcd (lvP (σ 206) n_ (fun h => σ 205 (40 * r_ + q_ + h)) y_) d_)) (σ' := (up (us σ 212 (σ 206)) 202 3 0)) (As := [.int (iI (mcd (lvP (σ 206) n_ (fun h => σ 205 (40 * r_ + q_ + h)) y_) d_))]) (rest := []) hx hb hml hown hts hK hRf hRl hW hS (c_X12_well l D cy B (us σ 212 (σ 206)) (mcd (lvP (σ 206) n_ (fun h => σ 205 (40 * r_ + q_ + h)) y_) d_) ) vX12_well ⟨w_915, w_19⟩ w_913 (by decide) e_202 rfl ⟨Nat.le_of_ble_eq_true rfl, Nat.le_of_ble_eq_true rfl⟩ hl.1 rfl (Nat.le_of_ble_eq_true rfl) ⟨Nat.zero_le _, Nat.zero_le _⟩ dX12_loves_201 (fun H locs hW hS => ?_)
                    have hd5 : d_ = 10 := by omega
                    subst hd5
                    exact hret _ _ _ _ _ _ dX12_loves_204 hW hS ⟨by simp only [Int.toNat_natCast]; rw [if_neg (by omega), if_neg (by omega), if_pos (by omega)]; split <;> first | rfl | omega, by simp only [Int.toNat_natCast]; rw [if_neg (by omega), if_neg (by omega), if_pos (by omega)]⟩
                · refine lv_aload_n hx hb dX12_loves_80 rfl (lv_at hl 3 rfl) ?_
                  refine wz_get hx hb hts hown hK hW 202 5 (by decide) e_202 rfl (by decide) inG12 w_820 rfl rfl dX12_loves_81 ?_
                  refine zi_bip hx hb dX12_loves_84 (by decide) ?_
                  refine lv_iload_n hx hb dX12_loves_86 rfl (lv_at hl 4 rfl) ?_
                  refine zi_add hx hb dX12_loves_87 ?_
                  refine lv_iload hx hb dX12_loves_88 (lv_at hl 0 rfl) ?_
                  refine zi_top (y := ((9 - d_ : Nat) : Int)) (by omega) ?_
                  refine wz_ast (σ' := (up (us σ 212 (σ 206)) 206 (12 + n_) ((9 - d_ : Nat) : Int))) hx hb hK hW hS 206 (12 + n_) (by decide) e_206 (by omega) (by omega) (by decide) p_206 dX12_loves_90 (fun H locs hW hS => ?_)
                  have hW : wd D cy B (us (us σ 212 (σ 206)) 206 (uf (σ 206) (12 + n_) ((9 - d_ : Nat) : Int))) _ := hW
                  have hokU : okV (uf (σ 206) (12 + n_) ((9 - d_ : Nat) : Int)) := okV_love hok (by omega) (by omega)
                  have hU5 : (uf (σ 206) (12 + n_) ((9 - d_ : Nat) : Int)) 5 = σ 206 5 := uf_ne _ _ (by omega)
                  refine zi_con hx hb dX12_loves_91 ?_
                  refine lv_istore (lv' := [(10, .int (iI (1))), (9, .int (iI (9 - ((d_ : Nat) : Int)))), (8, .int (iI (mld (lvP (σ 206) n_ (fun h => σ 205 (40 * r_ + q_ + h)) y_) d_))), (7, .int (iI (mcd (lvP (σ 206) n_ (fun h => σ 205 (40 * r_ + q_ + h)) y_) d_))), (0, .ref (B + 202)), (1, .int (iI (((n_ : Nat) : Int)))), (2, .int (iI (((r_ : Nat) : Int)))), (3, .int (iI (((q_ : Nat) : Int)))), (4, .int (iI (((y_ : Nat) : Int)))), (5, .int (iI (w_)))]) hx hb dX12_loves_92 hl (by decide) rfl (fun ls hl => ?_)
                  refine zi_con hx hb dX12_loves_94 ?_
                  refine lv_istore (lv' := [(11, .int (iI (0))), (10, .int (iI (1))), (9, .int (iI (9 - ((d_ : Nat) : Int)))), (8, .int (iI (mld (lvP (σ 206) n_ (fun h => σ 205 (40 * r_ + q_ + h)) y_) d_))), (7, .int (iI (mcd (lvP (σ 206) n_ (fun h => σ 205 (40 * r_ + q_ + h)) y_) d_))), (0, .ref (B + 202)), (1, .int (iI (((n_ : Nat) : Int)))), (2, .int (iI (((r_ : Nat) : Int)))), (3, .int (iI (((q_ : Nat) : Int)))), (4, .int (iI (((y_ : Nat) : Int)))), (5, .int (iI (w_)))]) hx hb dX12_loves_95 hl (by decide) rfl (fun ls hl => ?_)
                  have L97 : ∀ (n97 : Nat) (k_ : Nat) (H : Heap) (locs : List Loc) (ls : Array Slot), 12 - k_ < n97 → (k_ ≤ y_) → wd D cy B (us (us σ 212 (σ 206)) 206 (itf mon k_ (uf (σ 206) (12 + n_) ((9 - d_ : Nat) : Int)))) H → va_S (AB B) s.heap H locs → lv_has ls 12 [(11, .int (iI (((k_ : Nat) : Int)))), (10, .int (iI (if al (fun h => σ 205 (40 * r_ + q_ + h)) (fun k => itf mon (k + 1) (uf (σ 206) (12 + n_) ((9 - d_ : Nat) : Int)) 1) k_ = true then 1 else 0))), (9, .int (iI (9 - ((d_ : Nat) : Int)))), (8, .int (iI (mld (lvP (σ 206) n_ (fun h => σ 205 (40 * r_ + q_ + h)) y_) d_))), (7, .int (iI (mcd (lvP (σ 206) n_ (fun h => σ 205 (40 * r_ + q_ + h)) y_) d_))), (0, .ref (B + 202)), (1, .int (iI (((n_ : Nat) : Int)))), (2, .int (iI (((r_ : Nat) : Int)))), (3, .int (iI (((q_ : Nat) : Int)))), (4, .int (iI (((y_ : Nat) : Int)))), (5, .int (iI (w_)))] → W p l e R s m args below meth c H locs 0 0 Q (F0 m 97 ls []) := by
                    intro n97
                    induction n97 with
                    | zero => intro k_ H locs ls hms; omega
                    | succ n97 ih97 =>
                      intro k_ H locs ls hms97 hk hW hS hl
                      have hit2 := okV_it hokU (n := k_) (by omega)
                      have hit3 := fun (hh : k_ < y_) => okV_it hokU (n := k_ + 1) (by omega)
                      refine lv_iload hx hb dX12_loves_97 (lv_at hl 0 rfl) ?_
                      refine lv_iload hx hb dX12_loves_99 (lv_at hl 9 rfl) ?_
                      refine zi_cge (tgt := 149) hx hb dX12_loves_101 (by decide) (by omega) (by omega) (fun c101 => ?_) (fun c101 => ?_)
                      · have hky : k_ = y_ := by omega
                        refine lv_iload hx hb dX12_loves_149 (lv_at hl 4 rfl) ?_
                        refine lv_iload hx hb dX12_loves_151 (lv_at hl 1 rfl) ?_
                        refine zi_beq (tgt := 160) hx hb dX12_loves_153 (by decide) (fun c153 => ?_) (fun c153 => ?_)
                        · refine zi_con hx hb dX12_loves_160 ?_
                          refine zi_add hx hb dX12_loves_161 ?_
                          refine lv_istore (lv' := [(7, .int (iI ((mcd (lvP (σ 206) n_ (fun h => σ 205 (40 * r_ + q_ + h)) y_) d_) + 0))), (11, .int (iI (((k_ : Nat) : Int)))), (10, .int (iI (if al (fun h => σ 205 (40 * r_ + q_ + h)) (fun k => itf mon (k + 1) (uf (σ 206) (12 + n_) ((9 - d_ : Nat) : Int)) 1) k_ = true then 1 else 0))), (9, .int (iI (9 - ((d_ : Nat) : Int)))), (8, .int (iI (mld (lvP (σ 206) n_ (fun h => σ 205 (40 * r_ + q_ + h)) y_) d_))), (0, .ref (B + 202)), (1, .int (iI (((n_ : Nat) : Int)))), (2, .int (iI (((r_ : Nat) : Int)))), (3, .int (iI (((q_ : Nat) : Int)))), (4, .int (iI (((y_ : Nat) : Int)))), (5, .int (iI (w_)))]) hx hb dX12_loves_162 hl (by decide) rfl (fun ls hl => ?_)
                          refine lv_iload hx hb dX12_loves_164 (lv_at hl 2 rfl) ?_
                          refine zi_beq (tgt := 174) hx hb dX12_loves_166 (by decide) (fun c166 => ?_) (fun c166 => ?_)
                          · refine lv_iload hx hb dX12_loves_174 (lv_at hl 4 rfl) ?_
                            refine lv_istore (lv' := [(8, .int (iI (mld (lvP (σ 206) n_ (fun h => σ 205 (40 * r_ + q_ + h)) y_) d_))), (7, .int (iI ((mcd (lvP (σ 206) n_ (fun h => σ 205 (40 * r_ + q_ + h)) y_) d_) + 0))), (11, .int (iI (((k_ : Nat) : Int)))), (10, .int (iI (if al (fun h => σ 205 (40 * r_ + q_ + h)) (fun k => itf mon (k + 1) (uf (σ 206) (12 + n_) ((9 - d_ : Nat) : Int)) 1) k_ = true then 1 else 0))), (9, .int (iI (9 - ((d_ : Nat) : Int)))), (0, .ref (B + 202)), (1, .int (iI (((n_ : Nat) : Int)))), (2, .int (iI (((r_ : Nat) : Int)))), (3, .int (iI (((q_ : Nat) : Int)))), (4, .int (iI (((y_ : Nat) : Int)))), (5, .int (iI (w_)))]) hx hb dX12_loves_176 hl (by decide) rfl (fun ls hl => ?_)
                            refine lv_aload_n hx hb dX12_loves_178 rfl (lv_at hl 5 rfl) ?_
                            refine k_vv (fr := 2) (lo := 48) (σ' := (us (us (us σ 212 (σ 206)) 206 (itf mon k_ (uf (σ 206) (12 + n_) ((9 - d_ : Nat) : Int)))) 206 ((us (us σ 212 (σ 206)) 206 (itf mon k_ (uf (σ 206) (12 + n_) ((9 - d_ : Nat) : Int)))) 212))) (As := []) (rest := []) hx hb hml hown hts hK hRf hRl hW hS (c_X12_takeBack l D cy B (us (us σ 212 (σ 206)) 206 (itf mon k_ (uf (σ 206) (12 + n_) ((9 - d_ : Nat) : Int))))  ) vX12_takeBack ⟨w_1070, w_38⟩ w_1068 (by decide) e_202 rfl ⟨Nat.le_of_ble_eq_true rfl, Nat.le_of_ble_eq_true rfl⟩ hl.1 rfl (Nat.le_of_ble_eq_true rfl) ⟨Nat.zero_le _, Nat.zero_le _⟩ dX12_loves_179 (fun H locs hW hS => ?_)
                            refine lv_iinc (v := iI ((9 - ((d_ : Nat) : Int)) + (-1))) (lv' := [(9, .int (iI ((9 - ((d_ : Nat) : Int)) + (-1)))), (8, .int (iI (mld (lvP (σ 206) n_ (fun h => σ 205 (40 * r_ + q_ + h)) y_) d_))), (7, .int (iI ((mcd (lvP (σ 206) n_ (fun h => σ 205 (40 * r_ + q_ + h)) y_) d_) + 0))), (11, .int (iI (((k_ : Nat) : Int)))), (10, .int (iI (if al (fun h => σ 205 (40 * r_ + q_ + h)) (fun k => itf mon (k + 1) (uf (σ 206) (12 + n_) ((9 - d_ : Nat) : Int)) 1) k_ = true then 1 else 0))), (0, .ref (B + 202)), (1, .int (iI (((n_ : Nat) : Int)))), (2, .int (iI (((r_ : Nat) : Int)))), (3, .int (iI (((q_ : Nat) : Int)))), (4, .int (iI (((y_ : Nat) : Int)))), (5, .int (iI (w_)))]) hx hb dX12_loves_182 hl (k := 4) rfl (iI_add _ _) (by decide) rfl (fun ls hl => ?_)
                            refine lv_goto (tgt := 75) hx hb dX12_loves_185 (by decide) ?_
                            rw [show (9 - (d_ : Int) + (-1)) = 9 - ((d_ + 1 : Nat) : Int) from by omega] at hl
                            exact ih75 (d_ + 1) _ _ _ (by omega) (by omega) (by have h2 := hW; rw [us_us] at h2; have h3 : wd D cy B (us (us σ 212 (σ 206)) 206 ((us σ 212 (σ 206)) 206)) _ := h2; rwa [us_id] at h3) hS (lv_sub hl [0, 1, 2, 5, 6, 7, 8, 9, 10] (by first | (rw [mcd_t (P := lvP (σ 206) n_ (fun h => σ 205 (40 * r_ + q_ + h)) y_) (d := d_) (by rw [← hky]; exact c153), mld_t (P := lvP (σ 206) n_ (fun h => σ 205 (40 * r_ + q_ + h)) y_) (d := d_) (by omega) (by rw [← hky]; exact c153)]; rfl) | (rw [mcd_f (P := lvP (σ 206) n_ (fun h => σ 205 (40 * r_ + q_ + h)) y_) (d := d_) (by rw [← hky]; exact c153), mld_f (P := lvP (σ 206) n_ (fun h => σ 205 (40 * r_ + q_ + h)) y_) (d := d_) (by rw [← hky]; exact c153)]; rfl) | exact absurd c153 c166 | exact absurd c166 c153))
                          · refine lv_iload hx hb dX12_loves_169 (lv_at hl 3 rfl) ?_
                            refine lv_goto (tgt := 176) hx hb dX12_loves_171 (by decide) ?_
                            refine lv_istore (lv' := [(8, .int (iI (9 - ((d_ : Nat) : Int)))), (7, .int (iI ((mcd (lvP (σ 206) n_ (fun h => σ 205 (40 * r_ + q_ + h)) y_) d_) + 0))), (11, .int (iI (((k_ : Nat) : Int)))), (10, .int (iI (if al (fun h => σ 205 (40 * r_ + q_ + h)) (fun k => itf mon (k + 1) (uf (σ 206) (12 + n_) ((9 - d_ : Nat) : Int)) 1) k_ = true then 1 else 0))), (9, .int (iI (9 - ((d_ : Nat) : Int)))), (0, .ref (B + 202)), (1, .int (iI (((n_ : Nat) : Int)))), (2, .int (iI (((r_ : Nat) : Int)))), (3, .int (iI (((q_ : Nat) : Int)))), (4, .int (iI (((y_ : Nat) : Int)))), (5, .int (iI (w_)))]) hx hb dX12_loves_176 hl (by decide) rfl (fun ls hl => ?_)
                            refine lv_aload_n hx hb dX12_loves_178 rfl (lv_at hl 5 rfl) ?_
                            refine k_vv (fr := 2) (lo := 48) (σ' := (us (us (us σ 212 (σ 206)) 206 (itf mon k_ (uf (σ 206) (12 + n_) ((9 - d_ : Nat) : Int)))) 206 ((us (us σ 212 (σ 206)) 206 (itf mon k_ (uf (σ 206) (12 + n_) ((9 - d_ : Nat) : Int)))) 212))) (As := []) (rest := []) hx hb hml hown hts hK hRf hRl hW hS (c_X12_takeBack l D cy B (us (us σ 212 (σ 206)) 206 (itf mon k_ (uf (σ 206) (12 + n_) ((9 - d_ : Nat) : Int))))  ) vX12_takeBack ⟨w_1070, w_38⟩ w_1068 (by decide) e_202 rfl ⟨Nat.le_of_ble_eq_true rfl, Nat.le_of_ble_eq_true rfl⟩ hl.1 rfl (Nat.le_of_ble_eq_true rfl) ⟨Nat.zero_le _, Nat.zero_le _⟩ dX12_loves_179 (fun H locs hW hS => ?_)
                            refine lv_iinc (v := iI ((9 - ((d_ : Nat) : Int)) + (-1))) (lv' := [(9, .int (iI ((9 - ((d_ : Nat) : Int)) + (-1)))), (8, .int (iI (9 - ((d_ : Nat) : Int)))), (7, .int (iI ((mcd (lvP (σ 206) n_ (fun h => σ 205 (40 * r_ + q_ + h)) y_) d_) + 0))), (11, .int (iI (((k_ : Nat) : Int)))), (10, .int (iI (if al (fun h => σ 205 (40 * r_ + q_ + h)) (fun k => itf mon (k + 1) (uf (σ 206) (12 + n_) ((9 - d_ : Nat) : Int)) 1) k_ = true then 1 else 0))), (0, .ref (B + 202)), (1, .int (iI (((n_ : Nat) : Int)))), (2, .int (iI (((r_ : Nat) : Int)))), (3, .int (iI (((q_ : Nat) : Int)))), (4, .int (iI (((y_ : Nat) : Int)))), (5, .int (iI (w_)))]) hx hb dX12_loves_182 hl (k := 4) rfl (iI_add _ _) (by decide) rfl (fun ls hl => ?_)
                            refine lv_goto (tgt := 75) hx hb dX12_loves_185 (by decide) ?_
                            rw [show (9 - (d_ : Int) + (-1)) = 9 - ((d_ + 1 : Nat) : Int) from by omega] at hl
                            exact ih75 (d_ + 1) _ _ _ (by omega) (by omega) (by have h2 := hW; rw [us_us] at h2; have h3 : wd D cy B (us (us σ 212 (σ 206)) 206 ((us σ 212 (σ 206)) 206)) _ := h2; rwa [us_id] at h3) hS (lv_sub hl [0, 1, 2, 5, 6, 7, 8, 9, 10] (by first | (rw [mcd_t (P := lvP (σ 206) n_ (fun h => σ 205 (40 * r_ + q_ + h)) y_) (d := d_) (by rw [← hky]; exact c153), mld_t (P := lvP (σ 206) n_ (fun h => σ 205 (40 * r_ + q_ + h)) y_) (d := d_) (by omega) (by rw [← hky]; exact c153)]; rfl) | (rw [mcd_f (P := lvP (σ 206) n_ (fun h => σ 205 (40 * r_ + q_ + h)) y_) (d := d_) (by rw [← hky]; exact c153), mld_f (P := lvP (σ 206) n_ (fun h => σ 205 (40 * r_ + q_ + h)) y_) (d := d_) (by rw [← hky]; exact c153)]; rfl) | exact absurd c153 c166 | exact absurd c166 c153))
                        · refine zi_con hx hb dX12_loves_156 ?_
                          refine lv_goto (tgt := 161) hx hb dX12_loves_157 (by decide) ?_
                          refine zi_add hx hb dX12_loves_161 ?_
                          refine lv_istore (lv' := [(7, .int (iI ((mcd (lvP (σ 206) n_ (fun h => σ 205 (40 * r_ + q_ + h)) y_) d_) + 1))), (11, .int (iI (((k_ : Nat) : Int)))), (10, .int (iI (if al (fun h => σ 205 (40 * r_ + q_ + h)) (fun k => itf mon (k + 1) (uf (σ 206) (12 + n_) ((9 - d_ : Nat) : Int)) 1) k_ = true then 1 else 0))), (9, .int (iI (9 - ((d_ : Nat) : Int)))), (8, .int (iI (mld (lvP (σ 206) n_ (fun h => σ 205 (40 * r_ + q_ + h)) y_) d_))), (0, .ref (B + 202)), (1, .int (iI (((n_ : Nat) : Int)))), (2, .int (iI (((r_ : Nat) : Int)))), (3, .int (iI (((q_ : Nat) : Int)))), (4, .int (iI (((y_ : Nat) : Int)))), (5, .int (iI (w_)))]) hx hb dX12_loves_162 hl (by decide) rfl (fun ls hl => ?_)
                          refine lv_iload hx hb dX12_loves_164 (lv_at hl 2 rfl) ?_
                          refine zi_beq (tgt := 174) hx hb dX12_loves_166 (by decide) (fun c166 => ?_) (fun c166 => ?_)
                          · refine lv_iload hx hb dX12_loves_174 (lv_at hl 4 rfl) ?_
                            refine lv_istore (lv' := [(8, .int (iI (mld (lvP (σ 206) n_ (fun h => σ 205 (40 * r_ + q_ + h)) y_) d_))), (7, .int (iI ((mcd (lvP (σ 206) n_ (fun h => σ 205 (40 * r_ + q_ + h)) y_) d_) + 1))), (11, .int (iI (((k_ : Nat) : Int)))), (10, .int (iI (if al (fun h => σ 205 (40 * r_ + q_ + h)) (fun k => itf mon (k + 1) (uf (σ 206) (12 + n_) ((9 - d_ : Nat) : Int)) 1) k_ = true then 1 else 0))), (9, .int (iI (9 - ((d_ : Nat) : Int)))), (0, .ref (B + 202)), (1, .int (iI (((n_ : Nat) : Int)))), (2, .int (iI (((r_ : Nat) : Int)))), (3, .int (iI (((q_ : Nat) : Int)))), (4, .int (iI (((y_ : Nat) : Int)))), (5, .int (iI (w_)))]) hx hb dX12_loves_176 hl (by decide) rfl (fun ls hl => ?_)
                            refine lv_aload_n hx hb dX12_loves_178 rfl (lv_at hl 5 rfl) ?_
                            refine k_vv (fr := 2) (lo := 48) (σ' := (us (us (us σ 212 (σ 206)) 206 (itf mon k_ (uf (σ 206) (12 + n_) ((9 - d_ : Nat) : Int)))) 206 ((us (us σ 212 (σ 206)) 206 (itf mon k_ (uf (σ 206) (12 + n_) ((9 - d_ : Nat) : Int)))) 212))) (As := []) (rest := []) hx hb hml hown hts hK hRf hRl hW hS (c_X12_takeBack l D cy B (us (us σ 212 (σ 206)) 206 (itf mon k_ (uf (σ 206) (12 + n_) ((9 - d_ : Nat) : Int))))  ) vX12_takeBack ⟨w_1070, w_38⟩ w_1068 (by decide) e_202 rfl ⟨Nat.le_of_ble_eq_true rfl, Nat.le_of_ble_eq_true rfl⟩ hl.1 rfl (Nat.le_of_ble_eq_true rfl) ⟨Nat.zero_le _, Nat.zero_le _⟩ dX12_loves_179 (fun H locs hW hS => ?_)
                            refine lv_iinc (v := iI ((9 - ((d_ : Nat) : Int)) + (-1))) (lv' := [(9, .int (iI ((9 - ((d_ : Nat) : Int)) + (-1)))), (8, .int (iI (mld (lvP (σ 206) n_ (fun h => σ 205 (40 * r_ + q_ + h)) y_) d_))), (7, .int (iI ((mcd (lvP (σ 206) n_ (fun h => σ 205 (40 * r_ + q_ + h)) y_) d_) + 1))), (11, .int (iI (((k_ : Nat) : Int)))), (10, .int (iI (if al (fun h => σ 205 (40 * r_ + q_ + h)) (fun k => itf mon (k + 1) (uf (σ 206) (12 + n_) ((9 - d_ : Nat) : Int)) 1) k_ = true then 1 else 0))), (0, .ref (B + 202)), (1, .int (iI (((n_ : Nat) : Int)))), (2, .int (iI (((r_ : Nat) : Int)))), (3, .int (iI (((q_ : Nat) : Int)))), (4, .int (iI (((y_ : Nat) : Int)))), (5, .int (iI (w_)))]) hx hb dX12_loves_182 hl (k := 4) rfl (iI_add _ _) (by decide) rfl (fun ls hl => ?_)
                            refine lv_goto (tgt := 75) hx hb dX12_loves_185 (by decide) ?_
                            rw [show (9 - (d_ : Int) + (-1)) = 9 - ((d_ + 1 : Nat) : Int) from by omega] at hl
                            exact ih75 (d_ + 1) _ _ _ (by omega) (by omega) (by have h2 := hW; rw [us_us] at h2; have h3 : wd D cy B (us (us σ 212 (σ 206)) 206 ((us σ 212 (σ 206)) 206)) _ := h2; rwa [us_id] at h3) hS (lv_sub hl [0, 1, 2, 5, 6, 7, 8, 9, 10] (by first | (rw [mcd_t (P := lvP (σ 206) n_ (fun h => σ 205 (40 * r_ + q_ + h)) y_) (d := d_) (by rw [← hky]; exact c153), mld_t (P := lvP (σ 206) n_ (fun h => σ 205 (40 * r_ + q_ + h)) y_) (d := d_) (by omega) (by rw [← hky]; exact c153)]; rfl) | (rw [mcd_f (P := lvP (σ 206) n_ (fun h => σ 205 (40 * r_ + q_ + h)) y_) (d := d_) (by rw [← hky]; exact c153), mld_f (P := lvP (σ 206) n_ (fun h => σ 205 (40 * r_ + q_ + h)) y_) (d := d_) (by rw [← hky]; exact c153)]; rfl) | exact absurd c153 c166 | exact absurd c166 c153))
                          · refine lv_iload hx hb dX12_loves_169 (lv_at hl 3 rfl) ?_
                            refine lv_goto (tgt := 176) hx hb dX12_loves_171 (by decide) ?_
                            refine lv_istore (lv' := [(8, .int (iI (9 - ((d_ : Nat) : Int)))), (7, .int (iI ((mcd (lvP (σ 206) n_ (fun h => σ 205 (40 * r_ + q_ + h)) y_) d_) + 1))), (11, .int (iI (((k_ : Nat) : Int)))), (10, .int (iI (if al (fun h => σ 205 (40 * r_ + q_ + h)) (fun k => itf mon (k + 1) (uf (σ 206) (12 + n_) ((9 - d_ : Nat) : Int)) 1) k_ = true then 1 else 0))), (9, .int (iI (9 - ((d_ : Nat) : Int)))), (0, .ref (B + 202)), (1, .int (iI (((n_ : Nat) : Int)))), (2, .int (iI (((r_ : Nat) : Int)))), (3, .int (iI (((q_ : Nat) : Int)))), (4, .int (iI (((y_ : Nat) : Int)))), (5, .int (iI (w_)))]) hx hb dX12_loves_176 hl (by decide) rfl (fun ls hl => ?_)
                            refine lv_aload_n hx hb dX12_loves_178 rfl (lv_at hl 5 rfl) ?_
                            refine k_vv (fr := 2) (lo := 48) (σ' := (us (us (us σ 212 (σ 206)) 206 (itf mon k_ (uf (σ 206) (12 + n_) ((9 - d_ : Nat) : Int)))) 206 ((us (us σ 212 (σ 206)) 206 (itf mon k_ (uf (σ 206) (12 + n_) ((9 - d_ : Nat) : Int)))) 212))) (As := []) (rest := []) hx hb hml hown hts hK hRf hRl hW hS (c_X12_takeBack l D cy B (us (us σ 212 (σ 206)) 206 (itf mon k_ (uf (σ 206) (12 + n_) ((9 - d_ : Nat) : Int))))  ) vX12_takeBack ⟨w_1070, w_38⟩ w_1068 (by decide) e_202 rfl ⟨Nat.le_of_ble_eq_true rfl, Nat.le_of_ble_eq_true rfl⟩ hl.1 rfl (Nat.le_of_ble_eq_true rfl) ⟨Nat.zero_le _, Nat.zero_le _⟩ dX12_loves_179 (fun H locs hW hS => ?_)
                            refine lv_iinc (v := iI ((9 - ((d_ : Nat) : Int)) + (-1))) (lv' := [(9, .int (iI ((9 - ((d_ : Nat) : Int)) + (-1)))), (8, .int (iI (9 - ((d_ : Nat) : Int)))), (7, .int (iI ((mcd (lvP (σ 206) n_ (fun h => σ 205 (40 * r_ + q_ + h)) y_) d_) + 1))), (11, .int (iI (((k_ : Nat) : Int)))), (10, .int (iI (if al (fun h => σ 205 (40 * r_ + q_ + h)) (fun k => itf mon (k + 1) (uf (σ 206) (12 + n_) ((9 - d_ : Nat) : Int)) 1) k_ = true then 1 else 0))), (0, .ref (B + 202)), (1, .int (iI (((n_ : Nat) : Int)))), (2, .int (iI (((r_ : Nat) : Int)))), (3, .int (iI (((q_ : Nat) : Int)))), (4, .int (iI (((y_ : Nat) : Int)))), (5, .int (iI (w_)))]) hx hb dX12_loves_182 hl (k := 4) rfl (iI_add _ _) (by decide) rfl (fun ls hl => ?_)
                            refine lv_goto (tgt := 75) hx hb dX12_loves_185 (by decide) ?_
                            rw [show (9 - (d_ : Int) + (-1)) = 9 - ((d_ + 1 : Nat) : Int) from by omega] at hl
                            exact ih75 (d_ + 1) _ _ _ (by omega) (by omega) (by have h2 := hW; rw [us_us] at h2; have h3 : wd D cy B (us (us σ 212 (σ 206)) 206 ((us σ 212 (σ 206)) 206)) _ := h2; rwa [us_id] at h3) hS (lv_sub hl [0, 1, 2, 5, 6, 7, 8, 9, 10] (by first | (rw [mcd_t (P := lvP (σ 206) n_ (fun h => σ 205 (40 * r_ + q_ + h)) y_) (d := d_) (by rw [← hky]; exact c153), mld_t (P := lvP (σ 206) n_ (fun h => σ 205 (40 * r_ + q_ + h)) y_) (d := d_) (by omega) (by rw [← hky]; exact c153)]; rfl) | (rw [mcd_f (P := lvP (σ 206) n_ (fun h => σ 205 (40 * r_ + q_ + h)) y_) (d := d_) (by rw [← hky]; exact c153), mld_f (P := lvP (σ 206) n_ (fun h => σ 205 (40 * r_ + q_ + h)) y_) (d := d_) (by rw [← hky]; exact c153)]; rfl) | exact absurd c153 c166 | exact absurd c166 c153))
                      · have ho2 := (hit3 (by omega)).1.2.2.1
                        have hi5 := hit5 (40 * r_ + q_ + k_) (by omega)
                        refine lv_aload_n hx hb dX12_loves_104 rfl (lv_at hl 5 rfl) ?_
                        refine k_vv (fr := 2) (lo := 48) (σ' := (us (us (us σ 212 (σ 206)) 206 (itf mon k_ (uf (σ 206) (12 + n_) ((9 - d_ : Nat) : Int)))) 206 (mon ((us (us σ 212 (σ 206)) 206 (itf mon k_ (uf (σ 206) (12 + n_) ((9 - d_ : Nat) : Int)))) 206)))) (As := []) (rest := []) hx hb hml hown hts hK hRf hRl hW hS (c_X12_oneMonth l D cy B (us (us σ 212 (σ 206)) 206 (itf mon k_ (uf (σ 206) (12 + n_) ((9 - d_ : Nat) : Int))))  (show okV ((us (us σ 212 (σ 206)) 206 (itf mon k_ (uf (σ 206) (12 + n_) ((9 - d_ : Nat) : Int)))) 206) from (by show okV (itf mon k_ (uf (σ 206) (12 + n_) ((9 - d_ : Nat) : Int))); exact hit2.1))) vX12_oneMonth ⟨w_1034, w_34⟩ w_1032 (by decide) e_202 rfl ⟨Nat.le_of_ble_eq_true rfl, Nat.le_of_ble_eq_true rfl⟩ hl.1 rfl (Nat.le_of_ble_eq_true rfl) ⟨Nat.zero_le _, Nat.zero_le _⟩ dX12_loves_105 (fun H locs hW hS => ?_)
                        refine lv_iload hx hb dX12_loves_108 (lv_at hl 1 rfl) ?_
                        refine zi_beq (tgt := 140) hx hb dX12_loves_110 (by decide) (fun c110 => ?_) (fun c110 => ?_)
                        · refine zi_con hx hb dX12_loves_140 ?_
                          refine lv_istore (lv' := [(10, .int (iI (0))), (11, .int (iI (((k_ : Nat) : Int)))), (9, .int (iI (9 - ((d_ : Nat) : Int)))), (8, .int (iI (mld (lvP (σ 206) n_ (fun h => σ 205 (40 * r_ + q_ + h)) y_) d_))), (7, .int (iI (mcd (lvP (σ 206) n_ (fun h => σ 205 (40 * r_ + q_ + h)) y_) d_))), (0, .ref (B + 202)), (1, .int (iI (((n_ : Nat) : Int)))), (2, .int (iI (((r_ : Nat) : Int)))), (3, .int (iI (((q_ : Nat) : Int)))), (4, .int (iI (((y_ : Nat) : Int)))), (5, .int (iI (w_)))]) hx hb dX12_loves_141 hl (by decide) rfl (fun ls hl => ?_)
                          refine lv_iinc (v := iI (((k_ : Nat) : Int) + 1)) (lv' := [(11, .int (iI (((k_ : Nat) : Int) + 1))), (10, .int (iI (0))), (9, .int (iI (9 - ((d_ : Nat) : Int)))), (8, .int (iI (mld (lvP (σ 206) n_ (fun h => σ 205 (40 * r_ + q_ + h)) y_) d_))), (7, .int (iI (mcd (lvP (σ 206) n_ (fun h => σ 205 (40 * r_ + q_ + h)) y_) d_))), (0, .ref (B + 202)), (1, .int (iI (((n_ : Nat) : Int)))), (2, .int (iI (((r_ : Nat) : Int)))), (3, .int (iI (((q_ : Nat) : Int)))), (4, .int (iI (((y_ : Nat) : Int)))), (5, .int (iI (w_)))]) hx hb dX12_loves_143 hl (k := 1) rfl (iI_add _ _) (by decide) rfl (fun ls hl => ?_)
                          refine lv_goto (tgt := 97) hx hb dX12_loves_146 (by decide) ?_
                          exact ih97 (k_ + 1) _ _ _ (by omega) (by omega) (by have h2 := hW; rw [us_us] at h2; exact h2) hS (lv_sub hl [0, 1, 2, 3, 4, 5, 6, 7, 8, 9, 10] (by first | (rw [if_pos (al_t (g := (fun h => σ 205 (40 * r_ + q_ + h))) (g' := (fun k => itf mon (k + 1) (uf (σ 206) (12 + n_) ((9 - d_ : Nat) : Int)) 1)) (n := k_) (by assumption) (by omega))]; rfl) | (rw [if_neg (al_f1 (g := (fun h => σ 205 (40 * r_ + q_ + h))) (g' := (fun k => itf mon (k + 1) (uf (σ 206) (12 + n_) ((9 - d_ : Nat) : Int)) 1)) (n := k_) (by assumption))]; rfl) | (rw [if_neg (al_f2 (g := (fun h => σ 205 (40 * r_ + q_ + h))) (g' := (fun k => itf mon (k + 1) (uf (σ 206) (12 + n_) ((9 - d_ : Nat) : Int)) 1)) (n := k_) (by omega))]; rfl)))
                        · refine lv_aload_n hx hb dX12_loves_113 rfl (lv_at hl 5 rfl) ?_
                          refine wz_get hx hb hts hown hK hW 202 2 (by decide) e_202 rfl (by decide) inG12 w_817 rfl rfl dX12_loves_114 ?_
                          refine zi_bip hx hb dX12_loves_117 (by decide) ?_
                          refine lv_iload_n hx hb dX12_loves_119 rfl (lv_at hl 7 rfl) ?_
                          refine zi_mul hx hb dX12_loves_120 ?_
                          refine lv_iload_n hx hb dX12_loves_121 rfl (lv_at hl 8 rfl) ?_
                          refine zi_add hx hb dX12_loves_122 ?_
                          refine lv_iload hx hb dX12_loves_123 (lv_at hl 0 rfl) ?_
                          refine zi_add hx hb dX12_loves_125 ?_
                          refine wz_ald hx hb hK hW 205 (40 * r_ + q_ + k_) (by decide) e_205 (by omega) (by omega) (by decide) dX12_loves_126 ?_
                          refine zi_top (y := σ 205 (40 * r_ + q_ + k_)) (by (first | rfl | (simp [us, uf, nS] <;> omega))) ?_
                          refine lv_aload_n hx hb dX12_loves_127 rfl (lv_at hl 5 rfl) ?_
                          refine wz_get hx hb hts hown hK hW 202 5 (by decide) e_202 rfl (by decide) inG12 w_820 rfl rfl dX12_loves_128 ?_
                          refine zi_con hx hb dX12_loves_131 ?_
                          refine wz_ald hx hb hK hW 206 1 (by decide) e_206 (by omega) (by omega) (by decide) dX12_loves_132 ?_
                          refine zi_top (y := itf mon (k_ + 1) (uf (σ 206) (12 + n_) ((9 - d_ : Nat) : Int)) 1) (by rfl) ?_
                          refine zi_cne (tgt := 140) hx hb dX12_loves_133 (by decide) (by omega) (by omega) (fun c133 => ?_) (fun c133 => ?_)
                          · refine zi_con hx hb dX12_loves_140 ?_
                            refine lv_istore (lv' := [(10, .int (iI (0))), (11, .int (iI (((k_ : Nat) : Int)))), (9, .int (iI (9 - ((d_ : Nat) : Int)))), (8, .int (iI (mld (lvP (σ 206) n_ (fun h => σ 205 (40 * r_ + q_ + h)) y_) d_))), (7, .int (iI (mcd (lvP (σ 206) n_ (fun h => σ 205 (40 * r_ + q_ + h)) y_) d_))), (0, .ref (B + 202)), (1, .int (iI (((n_ : Nat) : Int)))), (2, .int (iI (((r_ : Nat) : Int)))), (3, .int (iI (((q_ : Nat) : Int)))), (4, .int (iI (((y_ : Nat) : Int)))), (5, .int (iI (w_)))]) hx hb dX12_loves_141 hl (by decide) rfl (fun ls hl => ?_)
                            refine lv_iinc (v := iI (((k_ : Nat) : Int) + 1)) (lv' := [(11, .int (iI (((k_ : Nat) : Int) + 1))), (10, .int (iI (0))), (9, .int (iI (9 - ((d_ : Nat) : Int)))), (8, .int (iI (mld (lvP (σ 206) n_ (fun h => σ 205 (40 * r_ + q_ + h)) y_) d_))), (7, .int (iI (mcd (lvP (σ 206) n_ (fun h => σ 205 (40 * r_ + q_ + h)) y_) d_))), (0, .ref (B + 202)), (1, .int (iI (((n_ : Nat) : Int)))), (2, .int (iI (((r_ : Nat) : Int)))), (3, .int (iI (((q_ : Nat) : Int)))), (4, .int (iI (((y_ : Nat) : Int)))), (5, .int (iI (w_)))]) hx hb dX12_loves_143 hl (k := 1) rfl (iI_add _ _) (by decide) rfl (fun ls hl => ?_)
                            refine lv_goto (tgt := 97) hx hb dX12_loves_146 (by decide) ?_
                            exact ih97 (k_ + 1) _ _ _ (by omega) (by omega) (by have h2 := hW; rw [us_us] at h2; exact h2) hS (lv_sub hl [0, 1, 2, 3, 4, 5, 6, 7, 8, 9, 10] (by first | (rw [if_pos (al_t (g := (fun h => σ 205 (40 * r_ + q_ + h))) (g' := (fun k => itf mon (k + 1) (uf (σ 206) (12 + n_) ((9 - d_ : Nat) : Int)) 1)) (n := k_) (by assumption) (by omega))]; rfl) | (rw [if_neg (al_f1 (g := (fun h => σ 205 (40 * r_ + q_ + h))) (g' := (fun k => itf mon (k + 1) (uf (σ 206) (12 + n_) ((9 - d_ : Nat) : Int)) 1)) (n := k_) (by assumption))]; rfl) | (rw [if_neg (al_f2 (g := (fun h => σ 205 (40 * r_ + q_ + h))) (g' := (fun k => itf mon (k + 1) (uf (σ 206) (12 + n_) ((9 - d_ : Nat) : Int)) 1)) (n := k_) (by omega))]; rfl)))
                          · refine zi_con hx hb dX12_loves_136 ?_
                            refine lv_goto (tgt := 141) hx hb dX12_loves_137 (by decide) ?_
                            refine lv_istore (lv' := [(10, .int (iI (1))), (11, .int (iI (((k_ : Nat) : Int)))), (9, .int (iI (9 - ((d_ : Nat) : Int)))), (8, .int (iI (mld (lvP (σ 206) n_ (fun h => σ 205 (40 * r_ + q_ + h)) y_) d_))), (7, .int (iI (mcd (lvP (σ 206) n_ (fun h => σ 205 (40 * r_ + q_ + h)) y_) d_))), (0, .ref (B + 202)), (1, .int (iI (((n_ : Nat) : Int)))), (2, .int (iI (((r_ : Nat) : Int)))), (3, .int (iI (((q_ : Nat) : Int)))), (4, .int (iI (((y_ : Nat) : Int)))), (5, .int (iI (w_)))]) hx hb dX12_loves_141 hl (by decide) rfl (fun ls hl => ?_)
                            refine lv_iinc (v := iI (((k_ : Nat) : Int) + 1)) (lv' := [(11, .int (iI (((k_ : Nat) : Int) + 1))), (10, .int (iI (1))), (9, .int (iI (9 - ((d_ : Nat) : Int)))), (8, .int (iI (mld (lvP (σ 206) n_ (fun h => σ 205 (40 * r_ + q_ + h)) y_) d_))), (7, .int (iI (mcd (lvP (σ 206) n_ (fun h => σ 205 (40 * r_ + q_ + h)) y_) d_))), (0, .ref (B + 202)), (1, .int (iI (((n_ : Nat) : Int)))), (2, .int (iI (((r_ : Nat) : Int)))), (3, .int (iI (((q_ : Nat) : Int)))), (4, .int (iI (((y_ : Nat) : Int)))), (5, .int (iI (w_)))]) hx hb dX12_loves_143 hl (k := 1) rfl (iI_add _ _) (by decide) rfl (fun ls hl => ?_)
                            refine lv_goto (tgt := 97) hx hb dX12_loves_146 (by decide) ?_
                            exact ih97 (k_ + 1) _ _ _ (by omega) (by omega) (by have h2 := hW; rw [us_us] at h2; exact h2) hS (lv_sub hl [0, 1, 2, 3, 4, 5, 6, 7, 8, 9, 10] (by first | (rw [if_pos (al_t (g := (fun h => σ 205 (40 * r_ + q_ + h))) (g' := (fun k => itf mon (k + 1) (uf (σ 206) (12 + n_) ((9 - d_ : Nat) : Int)) 1)) (n := k_) (by assumption) (by omega))]; rfl) | (rw [if_neg (al_f1 (g := (fun h => σ 205 (40 * r_ + q_ + h))) (g' := (fun k => itf mon (k + 1) (uf (σ 206) (12 + n_) ((9 - d_ : Nat) : Int)) 1)) (n := k_) (by assumption))]; rfl) | (rw [if_neg (al_f2 (g := (fun h => σ 205 (40 * r_ + q_ + h))) (g' := (fun k => itf mon (k + 1) (uf (σ 206) (12 + n_) ((9 - d_ : Nat) : Int)) 1)) (n := k_) (by omega))]; rfl)))
                  exact L97 _ 0 _ _ _ (Nat.lt_succ_self _) (by omega) hW hS (lv_sub hl [0, 1, 2, 3, 4, 5, 6, 7, 8, 9, 10] rfl)
            exact L75 _ 0 _ _ _ (Nat.lt_succ_self _) (by omega) hW hS (lv_sub hl [0, 1, 2, 4, 5, 6, 7, 8, 9] rfl)
          · have hlk : σ 204 r_ < 0 ∨ ¬ (0 ≤ i_ ∧ i_ ≤ σ 204 r_ - m_) := by revert c54; (repeat' split) <;> intro hh1 <;> omega
            refine lv_iload hx hb dX12_loves_57 (lv_at hl 0 rfl) ?_
            exact hret _ _ _ _ _ _ dX12_loves_59 hW hS ⟨by (try simp only [Int.toNat_natCast]); (repeat' split) <;> first | rfl | omega, by (try simp only [Int.toNat_natCast]); (repeat' split) <;> first | rfl | omega⟩
        · refine k_ldc hx hb hown hts (v := -1000001) (by decide) w_907 dX12_loves_39 ?_
          exact hret _ _ _ _ _ _ dX12_loves_41 hW hS ⟨by (try simp only [Int.toNat_natCast]); (repeat' split) <;> first | rfl | omega, by (try simp only [Int.toNat_natCast]); (repeat' split) <;> first | rfl | omega⟩
