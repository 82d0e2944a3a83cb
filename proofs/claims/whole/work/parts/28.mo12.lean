
set_option maxRecDepth 100000 in
set_option maxHeartbeats 4000000 in
theorem c_X12_bestOf (l : Launch) (D : va_G) (cy : Nat → ClassId) (B : Nat) (σ : Sg) (h_ : Nat) (hok : okV (σ 206)) (hh : (h_ : Int) < σ 206 4) : CIe l yX12_bestOf cX12_bestOf 5 (some .int) 4 93 D cy B [.ref (B + 202), .int (iI (((h_ : Nat) : Int)))] σ (bm (σ 206) h_ 779) (fun u => ∃ (g : Nat → Int), u = us (us (us σ 212 (σ 206)) 210 g) 202 (uf (σ 202) 20 (bsp (σ 206) h_ (σ 202 20) 779))) := by
  refine CIe_of (ty := .int) (by decide) (rfl) (Nat.le_of_ble_eq_true rfl) ?_
  intro p e R s m args below meth c Q hx hb hml hown hts hK hRf hRl hW hret ls hl
  have hown : s.vm.findClass "LovePartsModel" = some m.cls := hown
  have hS : va_S (AB B) s.heap s.heap [] := va_S.rf
  have hl : lv_has ls 5 [(0, .ref (B + 202)), (1, .int (iI (((h_ : Nat) : Int))))] := hl
  obtain ⟨o4, o0, o1, o2, o3, o5, o6, o7, oH⟩ := id hok
  refine lv_aload_n hx hb dX12_bestOf_0 rfl (lv_at hl 0 rfl) ?_
  refine k_vv (fr := 4) (lo := 93) (σ' := (us σ 212 (σ 206))) (As := []) (rest := []) hx hb hml hown hts hK hRf hRl hW hS (c_X12_putAside l D cy B σ  ) vX12_putAside ⟨w_1066, w_37⟩ w_1064 (by decide) e_202 rfl ⟨Nat.le_of_ble_eq_true rfl, Nat.le_of_ble_eq_true rfl⟩ hl.1 rfl (Nat.le_of_ble_eq_true rfl) ⟨Nat.zero_le _, Nat.zero_le _⟩ dX12_bestOf_1 (fun H locs hW hS => ?_)
  refine zi_con hx hb dX12_bestOf_4 ?_
  refine lv_istore_n (lv' := [(2, .int (iI ((-1)))), (0, .ref (B + 202)), (1, .int (iI (((h_ : Nat) : Int))))]) hx hb dX12_bestOf_5 rfl hl (by decide) rfl (fun ls hl => ?_)
  refine zi_con hx hb dX12_bestOf_6 ?_
  refine lv_istore_n (lv' := [(3, .int (iI (0))), (2, .int (iI ((-1)))), (0, .ref (B + 202)), (1, .int (iI (((h_ : Nat) : Int))))]) hx hb dX12_bestOf_7 rfl hl (by decide) rfl (fun ls hl => ?_)
  have L8 : ∀ (n8 : Nat) (k_ : Nat) (F_ : Nat → Int) (g_ : Nat → Int) (H : Heap) (locs : List Loc) (ls : Array Slot), 779 - k_ < n8 → (k_ ≤ 779) → (∀ w n, uf (uf (uf F_ (20 + h_) 1) (24 + h_) w) (28 + h_) n = spk (σ 206) h_ w n) → wd D cy B (us (us (us (us σ 212 (σ 206)) 206 F_) 210 g_) 202 (uf (σ 202) 20 (bsp (σ 206) h_ (σ 202 20) k_))) H → va_S (AB B) s.heap H locs → lv_has ls 5 [(3, .int (iI (((k_ : Nat) : Int)))), (2, .int (iI (bm (σ 206) h_ k_))), (0, .ref (B + 202)), (1, .int (iI (((h_ : Nat) : Int))))] → W p l e R s m args below meth c H locs 0 0 Q (F0 m 8 ls []) := by
    intro n8
    induction n8 with
    | zero => intro k_ F_ g_ H locs ls hms; omega
    | succ n8 ih8 =>
      intro k_ F_ g_ H locs ls hms8 hk hF hW hS hl
      have hbm := bm_bd hok hh hk
      refine lv_iload_n hx hb dX12_bestOf_8 rfl (lv_at hl 0 rfl) ?_
      refine zi_sip hx hb dX12_bestOf_9 (by decide) ?_
      refine zi_cge (tgt := 110) hx hb dX12_bestOf_12 (by decide) (by omega) (by omega) (fun c12 => ?_) (fun c12 => ?_)
      · have hk7 : k_ = 779 := by omega
        refine lv_aload_n hx hb dX12_bestOf_110 rfl (lv_at hl 2 rfl) ?_
        refine k_vv (fr := 4) (lo := 93) (σ' := (us (us (us (us (us σ 212 (σ 206)) 206 F_) 210 g_) 202 (uf (σ 202) 20 (bsp (σ 206) h_ (σ 202 20) k_))) 206 ((us (us (us (us σ 212 (σ 206)) 206 F_) 210 g_) 202 (uf (σ 202) 20 (bsp (σ 206) h_ (σ 202 20) k_))) 212))) (As := []) (rest := []) hx hb hml hown hts hK hRf hRl hW hS (c_X12_takeBack l D cy B (us (us (us (us σ 212 (σ 206)) 206 F_) 210 g_) 202 (uf (σ 202) 20 (bsp (σ 206) h_ (σ 202 20) k_)))  ) vX12_takeBack ⟨w_1070, w_38⟩ w_1068 (by decide) e_202 rfl ⟨Nat.le_of_ble_eq_true rfl, Nat.le_of_ble_eq_true rfl⟩ hl.1 rfl (Nat.le_of_ble_eq_true rfl) ⟨Nat.zero_le _, Nat.zero_le _⟩ dX12_bestOf_111 (fun H locs hW hS => ?_)
        refine lv_iload_n hx hb dX12_bestOf_114 rfl (lv_at hl 1 rfl) ?_
        exact hret _ _ _ _ _ _ dX12_bestOf_115 hW hS ⟨by rw [hk7], ⟨g_, by subst hk7; rw [n3_1 _ _ _ _ _ (by decide)]; show us (us (us (us σ 212 (σ 206)) 206 ((us σ 212 (σ 206)) 206)) 210 g_) 202 _ = _; rw [us_id]⟩⟩
      · have hgk : -10 ≤ gk (σ 206) h_ k_ ∧ gk (σ 206) h_ k_ ≤ 198 := gn_bd hok hh (by omega) (by omega)
        have hsp : okV (spk (σ 206) h_ (((k_ : Nat) : Int) / 41) (((k_ : Nat) : Int) % 41)) := okV_say hok hh (by omega) (by omega)
        refine lv_aload_n hx hb dX12_bestOf_15 rfl (lv_at hl 2 rfl) ?_
        refine lv_iload_n hx hb dX12_bestOf_16 rfl (lv_at hl 3 rfl) ?_
        refine lv_iload_n hx hb dX12_bestOf_17 rfl (lv_at hl 0 rfl) ?_
        refine zi_bip hx hb dX12_bestOf_18 (by decide) ?_
        refine zi_div hx hb dX12_bestOf_20 (by omega) (by omega) ?_
        refine k_vv (fr := 4) (lo := 93) (σ' := (us (us (us (us (us σ 212 (σ 206)) 206 F_) 210 g_) 202 (uf (σ 202) 20 (bsp (σ 206) h_ (σ 202 20) k_))) 206 (uf (uf ((us (us (us (us σ 212 (σ 206)) 206 F_) 210 g_) 202 (uf (σ 202) 20 (bsp (σ 206) h_ (σ 202 20) k_))) 206) (20 + h_) 1) (24 + h_) (((k_ : Nat) : Int) / 41)))) (As := [.int (iI (((h_ : Nat) : Int))), .int (iI (((k_ : Nat) : Int) / 41))]) (rest := []) hx hb hml hown hts hK hRf hRl hW hS (c_X12_say l D cy B (us (us (us (us σ 212 (σ 206)) 206 F_) 210 g_) 202 (uf (σ 202) 20 (bsp (σ 206) h_ (σ 202 20) k_))) h_ (((k_ : Nat) : Int) / 41) (show h_ < 4 from (by first | assumption | omega | (simp only [tpL_25, List.length_cons, List.length_nil]; omega)))) vX12_say ⟨w_1000, w_29⟩ w_998 (by decide) e_202 rfl ⟨Nat.le_of_ble_eq_true rfl, Nat.le_of_ble_eq_true rfl⟩ hl.1 rfl (Nat.le_of_ble_eq_true rfl) ⟨Nat.zero_le _, Nat.zero_le _⟩ dX12_bestOf_21 (fun H locs hW hS => ?_)
        have hW : wd D cy B (us (us (us (us σ 212 (σ 206)) 206 (uf (uf F_ (20 + h_) 1) (24 + h_) (((k_ : Nat) : Int) / 41))) 210 g_) 202 (uf (σ 202) 20 (bsp (σ 206) h_ (σ 202 20) k_))) H := by rw [n3_1 _ _ _ _ _ (by decide)] at hW; exact hW
        refine lv_aload_n hx hb dX12_bestOf_24 rfl (lv_at hl 2 rfl) ?_
        refine wz_get hx hb hts hown hK hW 202 5 (by decide) e_202 rfl (by decide) inG12 w_820 rfl rfl dX12_bestOf_25 ?_
        refine zi_bip hx hb dX12_bestOf_28 (by decide) ?_
        refine lv_iload_n hx hb dX12_bestOf_30 rfl (lv_at hl 3 rfl) ?_
        refine zi_add hx hb dX12_bestOf_31 ?_
        refine lv_iload_n hx hb dX12_bestOf_32 rfl (lv_at hl 0 rfl) ?_
        refine zi_bip hx hb dX12_bestOf_33 (by decide) ?_
        refine zi_rem hx hb dX12_bestOf_35 (by omega) (by omega) ?_
        refine wz_ast (σ' := (up (us (us (us (us σ 212 (σ 206)) 206 (uf (uf F_ (20 + h_) 1) (24 + h_) (((k_ : Nat) : Int) / 41))) 210 g_) 202 (uf (σ 202) 20 (bsp (σ 206) h_ (σ 202 20) k_))) 206 (28 + h_) (((k_ : Nat) : Int) % 41))) hx hb hK hW hS 206 (28 + h_) (by decide) e_206 (by omega) (by omega) (by decide) p_206 dX12_bestOf_36 (fun H locs hW hS => ?_)
        have hW : wd D cy B (us (us (us (us σ 212 (σ 206)) 206 (spk (σ 206) h_ (((k_ : Nat) : Int) / 41) (((k_ : Nat) : Int) % 41))) 210 g_) 202 (uf (σ 202) 20 (bsp (σ 206) h_ (σ 202 20) k_))) H := by unfold up at hW; rw [n3_1 _ _ _ _ _ (by decide)] at hW; rw [← hF]; exact hW
        refine lv_aload_n hx hb dX12_bestOf_37 rfl (lv_at hl 2 rfl) ?_
        refine lv_aload_n hx hb dX12_bestOf_38 rfl (lv_at hl 2 rfl) ?_
        refine wz_get hx hb hts hown hK hW 202 5 (by decide) e_202 rfl (by decide) inG12 w_820 rfl rfl dX12_bestOf_39 ?_
        refine zi_con hx hb dX12_bestOf_42 ?_
        refine wz_ald hx hb hK hW 206 3 (by decide) e_206 (by omega) (by omega) (by decide) dX12_bestOf_43 ?_
        refine zi_top (y := σ 206 3) (by (show (spk (σ 206) h_ (((k_ : Nat) : Int) / 41) (((k_ : Nat) : Int) % 41)) 3 = σ 206 3; exact spk_o _ _ _ _ (by omega))) ?_
        refine k_vv (fr := 4) (lo := 93) (σ' := (us (us (us (us (us σ 212 (σ 206)) 206 (spk (σ 206) h_ (((k_ : Nat) : Int) / 41) (((k_ : Nat) : Int) % 41))) 210 g_) 202 (uf (σ 202) 20 (bsp (σ 206) h_ (σ 202 20) k_))) 210 (cpy (mn ((us (us (us (us σ 212 (σ 206)) 206 (spk (σ 206) h_ (((k_ : Nat) : Int) / 41) (((k_ : Nat) : Int) % 41))) 210 g_) 202 (uf (σ 202) 20 (bsp (σ 206) h_ (σ 202 20) k_))) 206)) (shr ((us (us (us (us σ 212 (σ 206)) 206 (spk (σ 206) h_ (((k_ : Nat) : Int) / 41) (((k_ : Nat) : Int) % 41))) 210 g_) 202 (uf (σ 202) 20 (bsp (σ 206) h_ (σ 202 20) k_))) 206) (σ 206 3)) ((us (us (us (us σ 212 (σ 206)) 206 (spk (σ 206) h_ (((k_ : Nat) : Int) / 41) (((k_ : Nat) : Int) % 41))) 210 g_) 202 (uf (σ 202) 20 (bsp (σ 206) h_ (σ 202 20) k_))) 210)))) (As := [.int (iI (σ 206 3))]) (rest := []) hx hb hml hown hts hK hRf hRl hW hS (c_X12_findShares l D cy B (us (us (us (us σ 212 (σ 206)) 206 (spk (σ 206) h_ (((k_ : Nat) : Int) / 41) (((k_ : Nat) : Int) % 41))) 210 g_) 202 (uf (σ 202) 20 (bsp (σ 206) h_ (σ 202 20) k_))) (σ 206 3) (show okV ((us (us (us (us σ 212 (σ 206)) 206 (spk (σ 206) h_ (((k_ : Nat) : Int) / 41) (((k_ : Nat) : Int) % 41))) 210 g_) 202 (uf (σ 202) 20 (bsp (σ 206) h_ (σ 202 20) k_))) 206) from hsp) (show 0 ≤ (σ 206 3) ∧ (σ 206 3) ≤ 3 from (by first | assumption | omega | (simp only [tpL_25, List.length_cons, List.length_nil]; omega)))) vX12_findShares ⟨w_1012, w_31⟩ w_1010 (by decide) e_202 rfl ⟨Nat.le_of_ble_eq_true rfl, Nat.le_of_ble_eq_true rfl⟩ hl.1 rfl (Nat.le_of_ble_eq_true rfl) ⟨Nat.zero_le _, Nat.zero_le _⟩ dX12_bestOf_44 (fun H locs hW hS => ?_)
        have hW : wd D cy B (us (us (us (us σ 212 (σ 206)) 206 (spk (σ 206) h_ (((k_ : Nat) : Int) / 41) (((k_ : Nat) : Int) % 41))) 210 (cpy (mn (spk (σ 206) h_ (((k_ : Nat) : Int) / 41) (((k_ : Nat) : Int) % 41))) (shr (spk (σ 206) h_ (((k_ : Nat) : Int) / 41) (((k_ : Nat) : Int) % 41)) (σ 206 3)) g_)) 202 (uf (σ 202) 20 (bsp (σ 206) h_ (σ 202 20) k_))) H := by rw [n3_2 _ _ _ _ _ (by decide)] at hW; exact hW
        refine lv_aload_n hx hb dX12_bestOf_47 rfl (lv_at hl 2 rfl) ?_
        refine wz_get hx hb hts hown hK hW 202 16 (by decide) e_202 rfl (by decide) inG12 w_831 rfl rfl dX12_bestOf_48 ?_
        refine lv_iload_n hx hb dX12_bestOf_51 rfl (lv_at hl 3 rfl) ?_
        refine wz_ald hx hb hK hW 210 h_ (by decide) e_210 (by omega) (by omega) (by decide) dX12_bestOf_52 ?_
        refine zi_top (y := shr (spk (σ 206) h_ (((k_ : Nat) : Int) / 41) (((k_ : Nat) : Int) % 41)) (σ 206 3) h_) (by (show (cpy (mn (spk (σ 206) h_ (((k_ : Nat) : Int) / 41) (((k_ : Nat) : Int) % 41))) (shr (spk (σ 206) h_ (((k_ : Nat) : Int) / 41) (((k_ : Nat) : Int) % 41)) (σ 206 3)) g_) h_ = _; unfold cpy; rw [if_pos (by unfold mn; rw [spk_o _ _ _ _ (by omega)]; omega)])) ?_
        refine lv_iload_n hx hb dX12_bestOf_53 rfl (lv_at hl 0 rfl) ?_
        refine zi_bip hx hb dX12_bestOf_54 (by decide) ?_
        refine zi_rem hx hb dX12_bestOf_56 (by omega) (by omega) ?_
        refine zi_con hx hb dX12_bestOf_57 ?_
        refine zi_div hx hb dX12_bestOf_58 (by omega) (by omega) ?_
        refine zi_sub hx hb dX12_bestOf_59 ?_
        refine zi_top (y := gk (σ 206) h_ k_) (by rfl) ?_
        refine lv_istore (lv' := [(4, .int (iI (gk (σ 206) h_ k_))), (3, .int (iI (((k_ : Nat) : Int)))), (2, .int (iI (bm (σ 206) h_ k_))), (0, .ref (B + 202)), (1, .int (iI (((h_ : Nat) : Int))))]) hx hb dX12_bestOf_60 hl (by decide) rfl (fun ls hl => ?_)
        refine lv_aload_n hx hb dX12_bestOf_62 rfl (lv_at hl 3 rfl) ?_
        refine lv_iload hx hb dX12_bestOf_63 (lv_at hl 0 rfl) ?_
        refine lv_iload_n hx hb dX12_bestOf_65 rfl (lv_at hl 2 rfl) ?_
        have J88 : ∀ (x_ : Int) (H : Heap) (locs : List Loc) (ls : Array Slot), (x_ = (bsp (σ 206) h_ (σ 202 20) (k_ + 1))) → wd D cy B (us (us (us (us σ 212 (σ 206)) 206 (spk (σ 206) h_ (((k_ : Nat) : Int) / 41) (((k_ : Nat) : Int) % 41))) 210 (cpy (mn (spk (σ 206) h_ (((k_ : Nat) : Int) / 41) (((k_ : Nat) : Int) % 41))) (shr (spk (σ 206) h_ (((k_ : Nat) : Int) / 41) (((k_ : Nat) : Int) % 41)) (σ 206 3)) g_)) 202 (uf (σ 202) 20 (bsp (σ 206) h_ (σ 202 20) k_))) H → va_S (AB B) s.heap H locs → lv_has ls 5 [(4, .int (iI (gk (σ 206) h_ k_))), (3, .int (iI (((k_ : Nat) : Int)))), (2, .int (iI (bm (σ 206) h_ k_))), (0, .ref (B + 202)), (1, .int (iI (((h_ : Nat) : Int))))] → W p l e R s m args below meth c H locs 0 0 Q (F0 m 88 ls [.int (iI (x_)), .ref (B + 202)]) := by
          intro x_ H locs ls hx2 hW hS hl
          refine wz_put (σ' := (up (us (us (us (us σ 212 (σ 206)) 206 (spk (σ 206) h_ (((k_ : Nat) : Int) / 41) (((k_ : Nat) : Int) % 41))) 210 (cpy (mn (spk (σ 206) h_ (((k_ : Nat) : Int) / 41) (((k_ : Nat) : Int) % 41))) (shr (spk (σ 206) h_ (((k_ : Nat) : Int) / 41) (((k_ : Nat) : Int) % 41)) (σ 206 3)) g_)) 202 (uf (σ 202) 20 (bsp (σ 206) h_ (σ 202 20) k_))) 202 20 x_)) (ty := .int) hx hb hts hown hK hW hS 202 20 tyX12 (by decide) e_202 rfl (by decide) inG12 tyX12_ok nmX12 w_835 ⟨rfl, rfl, Nat.le_of_ble_eq_true rfl⟩ (by decide +kernel) ⟨rfl, rfl⟩ p_202_20 dX12_bestOf_88 (fun H locs hW hS => ?_)
          have hW : wd D cy B (us (us (us (us σ 212 (σ 206)) 206 (spk (σ 206) h_ (((k_ : Nat) : Int) / 41) (((k_ : Nat) : Int) % 41))) 210 (cpy (mn (spk (σ 206) h_ (((k_ : Nat) : Int) / 41) (((k_ : Nat) : Int) % 41))) (shr (spk (σ 206) h_ (((k_ : Nat) : Int) / 41) (((k_ : Nat) : Int) % 41)) (σ 206 3)) g_)) 202 (uf (σ 202) 20 (bsp (σ 206) h_ (σ 202 20) (k_ + 1)))) H := by unfold up at hW; rw [us_us] at hW; rw [← hx2]; simp only [us_eq, uf_uf] at hW; exact hW
          refine lv_iload hx hb dX12_bestOf_91 (lv_at hl 0 rfl) ?_
          refine lv_iload_n hx hb dX12_bestOf_93 rfl (lv_at hl 2 rfl) ?_
          refine zi_cle (tgt := 102) hx hb dX12_bestOf_94 (by decide) (by omega) (by omega) (fun c94 => ?_) (fun c94 => ?_)
          · refine lv_iload_n hx hb dX12_bestOf_102 rfl (lv_at hl 2 rfl) ?_
            refine lv_istore_n (lv' := [(2, .int (iI (bm (σ 206) h_ k_))), (4, .int (iI (gk (σ 206) h_ k_))), (3, .int (iI (((k_ : Nat) : Int)))), (0, .ref (B + 202)), (1, .int (iI (((h_ : Nat) : Int))))]) hx hb dX12_bestOf_103 rfl hl (by decide) rfl (fun ls hl => ?_)
            refine lv_iinc (v := iI (((k_ : Nat) : Int) + 1)) (lv' := [(3, .int (iI (((k_ : Nat) : Int) + 1))), (2, .int (iI (bm (σ 206) h_ k_))), (4, .int (iI (gk (σ 206) h_ k_))), (0, .ref (B + 202)), (1, .int (iI (((h_ : Nat) : Int))))]) hx hb dX12_bestOf_104 hl (k := 2) rfl (iI_add _ _) (by decide) rfl (fun ls hl => ?_)
            refine lv_goto (tgt := 8) hx hb dX12_bestOf_107 (by decide) ?_
            have e3 : bm (σ 206) h_ (k_ + 1) = (if bm (σ 206) h_ k_ < gk (σ 206) h_ k_ then gk (σ 206) h_ k_ else bm (σ 206) h_ k_) := rfl
            first | (rw [if_pos (by omega)] at e3) | (rw [if_neg (by omega)] at e3)
            exact ih8 (k_ + 1) (spk (σ 206) h_ (((k_ : Nat) : Int) / 41) (((k_ : Nat) : Int) % 41)) (cpy (mn (spk (σ 206) h_ (((k_ : Nat) : Int) / 41) (((k_ : Nat) : Int) % 41))) (shr (spk (σ 206) h_ (((k_ : Nat) : Int) / 41) (((k_ : Nat) : Int) % 41)) (σ 206 3)) g_) _ _ _ (by omega) (by omega) (fun _ _ => spk_spk _ _ _ _ _ _) hW hS (lv_sub hl [0, 1, 3, 4] (by rw [e3]; rfl))
          · refine lv_iload hx hb dX12_bestOf_97 (lv_at hl 0 rfl) ?_
            refine lv_goto (tgt := 103) hx hb dX12_bestOf_99 (by decide) ?_
            refine lv_istore_n (lv' := [(2, .int (iI (gk (σ 206) h_ k_))), (4, .int (iI (gk (σ 206) h_ k_))), (3, .int (iI (((k_ : Nat) : Int)))), (0, .ref (B + 202)), (1, .int (iI (((h_ : Nat) : Int))))]) hx hb dX12_bestOf_103 rfl hl (by decide) rfl (fun ls hl => ?_)
            refine lv_iinc (v := iI (((k_ : Nat) : Int) + 1)) (lv' := [(3, .int (iI (((k_ : Nat) : Int) + 1))), (2, .int (iI (gk (σ 206) h_ k_))), (4, .int (iI (gk (σ 206) h_ k_))), (0, .ref (B + 202)), (1, .int (iI (((h_ : Nat) : Int))))]) hx hb dX12_bestOf_104 hl (k := 2) rfl (iI_add _ _) (by decide) rfl (fun ls hl => ?_)
            refine lv_goto (tgt := 8) hx hb dX12_bestOf_107 (by decide) ?_
            have e3 : bm (σ 206) h_ (k_ + 1) = (if bm (σ 206) h_ k_ < gk (σ 206) h_ k_ then gk (σ 206) h_ k_ else bm (σ 206) h_ k_) := rfl
            first | (rw [if_pos (by omega)] at e3) | (rw [if_neg (by omega)] at e3)
            exact ih8 (k_ + 1) (spk (σ 206) h_ (((k_ : Nat) : Int) / 41) (((k_ : Nat) : Int) % 41)) (cpy (mn (spk (σ 206) h_ (((k_ : Nat) : Int) / 41) (((k_ : Nat) : Int) % 41))) (shr (spk (σ 206) h_ (((k_ : Nat) : Int) / 41) (((k_ : Nat) : Int) % 41)) (σ 206 3)) g_) _ _ _ (by omega) (by omega) (fun _ _ => spk_spk _ _ _ _ _ _) hW hS (lv_sub hl [0, 1, 3, 4] (by rw [e3]; rfl))
        refine zi_cle (tgt := 84) hx hb dX12_bestOf_66 (by decide) (by omega) (by omega) (fun c66 => ?_) (fun c66 => ?_)
        · refine lv_aload_n hx hb dX12_bestOf_84 rfl (lv_at hl 3 rfl) ?_
          refine wz_get hx hb hts hown hK hW 202 20 (by decide) e_202 rfl (by decide) inG12 w_835 rfl rfl dX12_bestOf_85 ?_
          refine zi_top (y := (bsp (σ 206) h_ (σ 202 20) k_)) (by (first | rfl | (simp [us, uf, nS] <;> omega))) ?_
          exact J88 (bsp (σ 206) h_ (σ 202 20) k_) _ _ _ (by simp only [bsp]; first | rw [if_pos (by omega)] | rw [if_neg (by omega)]) hW hS (lv_sub hl [0, 1, 2, 3, 4] rfl)
        · refine zi_bip hx hb dX12_bestOf_69 (by decide) ?_
          refine lv_iload_n hx hb dX12_bestOf_71 rfl (lv_at hl 1 rfl) ?_
          refine zi_bip hx hb dX12_bestOf_72 (by decide) ?_
          refine zi_div hx hb dX12_bestOf_74 (by omega) (by omega) ?_
          refine zi_mul hx hb dX12_bestOf_75 ?_
          refine lv_iload_n hx hb dX12_bestOf_76 rfl (lv_at hl 1 rfl) ?_
          refine zi_bip hx hb dX12_bestOf_77 (by decide) ?_
          refine zi_rem hx hb dX12_bestOf_79 (by omega) (by omega) ?_
          refine zi_add hx hb dX12_bestOf_80 ?_
          refine lv_goto (tgt := 88) hx hb dX12_bestOf_81 (by decide) ?_
          exact J88 ((100 * (((k_ : Nat) : Int) / 41)) + (((k_ : Nat) : Int) % 41)) _ _ _ (by simp only [bsp]; first | rw [if_pos (by omega)] | rw [if_neg (by omega)]) hW hS (lv_sub hl [0, 1, 2, 3, 4] rfl)
  exact L8 _ 0 (σ 206) (σ 210) _ _ _ (Nat.lt_succ_self _) (by omega) (fun _ _ => rfl) (by rw [show bsp (σ 206) h_ (σ 202 20) 0 = σ 202 20 from rfl, uf_id]; show wd D cy B (us (us (us (us σ 212 (σ 206)) 206 ((us σ 212 (σ 206)) 206)) 210 ((us σ 212 (σ 206)) 210)) 202 ((us σ 212 (σ 206)) 202)) _; rw [us_id, us_id, us_id]; exact hW) hS (lv_sub hl [0, 1, 2, 3] rfl)

set_option maxRecDepth 100000 in
set_option maxHeartbeats 4000000 in
theorem c_X12_best (l : Launch) (D : va_G) (cy : Nat → ClassId) (B : Nat) (σ : Sg) (h_ : Int) (w_ : Int) (r_h_ : -2147483648 ≤ h_ ∧ h_ < 2147483648) (r_w_ : -2147483648 ≤ w_ ∧ w_ < 2147483648) (hok : σ 206 4 = 0 ∨ okV (σ 206)) : CIe l yX12_best cX12_best 4 (some .int) 5 117 D cy B [.ref (B + 202), .int (iI (h_)), .int (iI (w_))] σ (if ¬ (0 ≤ h_ ∧ h_ ≤ σ 206 4 - 1) ∨ ¬ (0 ≤ w_ ∧ w_ ≤ 1) then -1000001 else if w_ = 0 then bm (σ 206) h_.toNat 779 else bsp (σ 206) h_.toNat (σ 202 20) 779) (fun u => ∃ (g : Nat → Int), u = if ¬ (0 ≤ h_ ∧ h_ ≤ σ 206 4 - 1) ∨ ¬ (0 ≤ w_ ∧ w_ ≤ 1) then σ else us (us (us σ 212 (σ 206)) 210 g) 202 (uf (σ 202) 20 (bsp (σ 206) h_.toNat (σ 202 20) 779))) := by
  refine CIe_of (ty := .int) (by decide) (rfl) (Nat.le_of_ble_eq_true rfl) ?_
  intro p e R s m args below meth c Q hx hb hml hown hts hK hRf hRl hW hret ls hl
  have hown : s.vm.findClass "LovePartsModel" = some m.cls := hown
  have hS : va_S (AB B) s.heap s.heap [] := va_S.rf
  have hl : lv_has ls 4 [(0, .ref (B + 202)), (1, .int (iI (h_))), (2, .int (iI (w_)))] := hl
  have f4 : 0 ≤ σ 206 4 ∧ σ 206 4 ≤ 4 := by rcases hok with h | h; (· omega); (· exact ⟨by have := h.1; omega, h.1.2⟩)
  refine lv_aload_n hx hb dX12_best_0 rfl (lv_at hl 0 rfl) ?_
  refine lv_iload_n hx hb dX12_best_1 rfl (lv_at hl 1 rfl) ?_
  refine k_vi (fr := 5) (lo := 117) (r := (if 0 ≤ h_ ∧ h_ ≤ σ 206 4 - 1 then 1 else 0)) (As := [.int (iI (h_))]) (rest := []) hx hb hml hown hts hK hRf hRl hW hS (c_X12_isHeir l D cy B σ h_ (show -2147483648 ≤ h_ ∧ h_ < 2147483648 from (by first | assumption | omega | (simp only [tpL_25, List.length_cons, List.length_nil]; omega))) (show 0 ≤ σ 206 4 ∧ σ 206 4 ≤ 4 from (by first | assumption | omega | (simp only [tpL_25, List.length_cons, List.length_nil]; omega)))) vX12_isHeir ⟨w_990, w_27⟩ w_988 (by decide) e_202 rfl ⟨Nat.le_of_ble_eq_true rfl, Nat.le_of_ble_eq_true rfl⟩ hl.1 rfl (Nat.le_of_ble_eq_true rfl) ⟨Nat.zero_le _, Nat.zero_le _⟩ dX12_best_2 (fun H locs hW hS => ?_)
  refine zi_beq (tgt := 18) hx hb dX12_best_5 (by decide) (fun c5 => ?_) (fun c5 => ?_)
  · refine k_ldc hx hb hown hts (v := -1000001) (by decide) w_907 dX12_best_18 ?_
    exact hret _ _ _ _ _ _ dX12_best_20 hW hS ⟨by (repeat' split) <;> first | rfl | omega, ⟨σ 210, by (repeat' split) <;> first | rfl | omega⟩⟩
  · obtain ⟨n_, rfl⟩ : ∃ h : Nat, h_ = (h : Int) := ⟨h_.toNat, by omega⟩
    have hok := hok.resolve_left (by omega)
    obtain ⟨o4, o0, o1, o2, o3, o5, o6, o7, oH⟩ := id hok
    refine lv_iload_n hx hb dX12_best_8 rfl (lv_at hl 2 rfl) ?_
    refine zi_i2l hx hb dX12_best_9 (by omega) ?_
    refine zi_lcon (z := 0) hx hb dX12_best_10 (by decide) ?_
    refine zi_lcon (z := 1) hx hb dX12_best_11 (by decide) ?_
    refine k_si (fr := 5) (lo := 117) (r := (if 0 ≤ w_ ∧ w_ ≤ 1 then 1 else 0)) (As := [.long (lI (w_)), .long (lI (0)), .long (lI (1))]) (rest := []) hx hb hml hown hts hK hRf hRl hW hS (c_X12_in l D cy B σ w_ 0 1 (show -9223372036854775808 ≤ w_ ∧ w_ < 9223372036854775808 from (by first | assumption | omega | (simp only [tpL_25, List.length_cons, List.length_nil]; omega))) (show -9223372036854775808 ≤ 0 ∧ 0 < 9223372036854775808 from (by first | assumption | omega | (simp only [tpL_25, List.length_cons, List.length_nil]; omega))) (show -9223372036854775808 ≤ 1 ∧ 1 < 9223372036854775808 from (by first | assumption | omega | (simp only [tpL_25, List.length_cons, List.length_nil]; omega)))) vX12_in w_904 w_903 ⟨Nat.le_of_ble_eq_true rfl, Nat.le_of_ble_eq_true rfl⟩ hl.1 rfl (Nat.le_of_ble_eq_true rfl) ⟨Nat.zero_le _, Nat.zero_le _⟩ dX12_best_12 (fun H locs hW hS => ?_)
    refine zi_bne (tgt := 21) hx hb dX12_best_15 (by decide) (fun c15 => ?_) (fun c15 => ?_)
    · refine lv_aload_n hx hb dX12_best_21 rfl (lv_at hl 0 rfl) ?_
      refine lv_iload_n hx hb dX12_best_22 rfl (lv_at hl 1 rfl) ?_
      refine k_vie (fr := 5) (lo := 117) (r := bm (σ 206) n_ 779) (As := [.int (iI (((n_ : Nat) : Int)))]) (rest := []) hx hb hml hown hts hK hRf hRl hW hS (c_X12_bestOf l D cy B σ n_ (show okV (σ 206) from (by first | assumption | omega | (simp only [tpL_25, List.length_cons, List.length_nil]; omega))) (show (n_ : Int) < σ 206 4 from (by first | assumption | omega | (simp only [tpL_25, List.length_cons, List.length_nil]; omega)))) vX12_bestOf ⟨w_1062, w_36⟩ w_1060 (by decide) e_202 rfl ⟨Nat.le_of_ble_eq_true rfl, Nat.le_of_ble_eq_true rfl⟩ hl.1 rfl (Nat.le_of_ble_eq_true rfl) ⟨Nat.zero_le _, Nat.zero_le _⟩ dX12_best_23 (fun τ H locs hτ hW hS => ?_)
      obtain ⟨g_23, rfl⟩ := hτ
      refine lv_istore_n (lv' := [(3, .int (iI (bm (σ 206) n_ 779))), (0, .ref (B + 202)), (1, .int (iI (((n_ : Nat) : Int)))), (2, .int (iI (w_)))]) hx hb dX12_best_26 rfl hl (by decide) rfl (fun ls hl => ?_)
      refine lv_iload_n hx hb dX12_best_27 rfl (lv_at hl 3 rfl) ?_
      refine zi_ne (tgt := 35) hx hb dX12_best_28 (by decide) (by omega) (fun c28 => ?_) (fun c28 => ?_)
      · refine lv_aload_n hx hb dX12_best_35 rfl (lv_at hl 1 rfl) ?_
        refine wz_get hx hb hts hown hK hW 202 20 (by decide) e_202 rfl (by decide) inG12 w_835 rfl rfl dX12_best_36 ?_
        exact hret _ _ _ _ _ _ dX12_best_39 hW hS ⟨by simp only [Int.toNat_natCast]; (repeat' split) <;> first | rfl | omega, ⟨g_23, by simp only [Int.toNat_natCast]; rw [if_neg (by omega)]⟩⟩
      · refine lv_iload_n hx hb dX12_best_31 rfl (lv_at hl 0 rfl) ?_
        refine lv_goto (tgt := 39) hx hb dX12_best_32 (by decide) ?_
        exact hret _ _ _ _ _ _ dX12_best_39 hW hS ⟨by simp only [Int.toNat_natCast]; (repeat' split) <;> first | rfl | omega, ⟨g_23, by simp only [Int.toNat_natCast]; rw [if_neg (by omega)]⟩⟩
    · refine k_ldc hx hb hown hts (v := -1000001) (by decide) w_907 dX12_best_18 ?_
      exact hret _ _ _ _ _ _ dX12_best_20 hW hS ⟨by (repeat' split) <;> first | rfl | omega, ⟨σ 210, by (repeat' split) <;> first | rfl | omega⟩⟩

set_option maxRecDepth 100000 in
set_option maxHeartbeats 4000000 in
theorem c_X12_rather (l : Launch) (D : va_G) (cy : Nat → ClassId) (B : Nat) (σ : Sg)  (hok : σ 206 4 = 0 ∨ okV (σ 206)) (hith : σ 202 4 = if σ 206 4 = 0 then 0 else 1) : CIe l yX12_rather cX12_rather 4 (some .int) 5 117 D cy B [.ref (B + 202)] σ (if σ 206 4 = 0 then -1000002 else bt (raP (σ 206)) (mn (σ 206))) (fun u => ∃ (a : Nat → Int) (b : Nat → Int) (z : Int), u = if σ 206 4 = 0 then σ else us (us (us σ 212 a) 210 b) 202 (uf (σ 202) 20 z)) := by
  refine CIe_of (ty := .int) (by decide) (rfl) (Nat.le_of_ble_eq_true rfl) ?_
  intro p e R s m args below meth c Q hx hb hml hown hts hK hRf hRl hW hret ls hl
  have hown : s.vm.findClass "LovePartsModel" = some m.cls := hown
  have hS : va_S (AB B) s.heap s.heap [] := va_S.rf
  have hl : lv_has ls 4 [(0, .ref (B + 202))] := hl
  have hbi : -2147483648 ≤ σ 202 4 ∧ σ 202 4 < 2147483648 := by rw [hith]; split <;> omega
  have hit : (σ 202 4 = 0 ∧ σ 206 4 = 0) ∨ (σ 202 4 = 1 ∧ ¬ σ 206 4 = 0) := by rw [hith]; split <;> simp_all
  refine lv_aload_n hx hb dX12_rather_0 rfl (lv_at hl 0 rfl) ?_
  refine wz_get hx hb hts hown hK hW 202 4 (by decide) e_202 rfl (by decide) inG12 w_819 rfl rfl dX12_rather_1 ?_
  refine zi_ne (tgt := 10) hx hb dX12_rather_4 (by decide) (by omega) (fun c4 => ?_) (fun c4 => ?_)
  · have hok := hok.resolve_left (by omega)
    obtain ⟨o4, o0, o1, o2, o3, o5, o6, o7, oH⟩ := id hok
    refine zi_con hx hb dX12_rather_10 ?_
    refine lv_istore_n (lv' := [(1, .int (iI (0))), (0, .ref (B + 202))]) hx hb dX12_rather_11 rfl hl (by decide) rfl (fun ls hl => ?_)
    refine zi_con hx hb dX12_rather_12 ?_
    refine lv_istore_n (lv' := [(2, .int (iI (0))), (1, .int (iI (0))), (0, .ref (B + 202))]) hx hb dX12_rather_13 rfl hl (by decide) rfl (fun ls hl => ?_)
    have L14 : ∀ (n14 : Nat) (h_ : Nat) (a_ : Nat → Int) (b_ : Nat → Int) (z_ : Int) (H : Heap) (locs : List Loc) (ls : Array Slot), 4 - h_ < n14 → ((h_ : Int) ≤ σ 206 4) → wd D cy B (us (us (us σ 212 a_) 210 b_) 202 (uf (σ 202) 20 z_)) H → va_S (AB B) s.heap H locs → lv_has ls 4 [(2, .int (iI (((h_ : Nat) : Int)))), (1, .int (iI (bt (raP (σ 206)) h_))), (0, .ref (B + 202))] → W p l e R s m args below meth c H locs 0 0 Q (F0 m 14 ls []) := by
      intro n14
      induction n14 with
      | zero => intro h_ a_ b_ z_ H locs ls hms; omega
      | succ n14 ih14 =>
        intro h_ a_ b_ z_ H locs ls hms14 hh4 hW hS hl
        refine lv_iload_n hx hb dX12_rather_14 rfl (lv_at hl 0 rfl) ?_
        refine lv_aload_n hx hb dX12_rather_15 rfl (lv_at hl 2 rfl) ?_
        refine wz_get hx hb hts hown hK hW 202 5 (by decide) e_202 rfl (by decide) inG12 w_820 rfl rfl dX12_rather_16 ?_
        refine zi_con hx hb dX12_rather_19 ?_
        refine wz_ald hx hb hK hW 206 4 (by decide) e_206 (by omega) (by omega) (by decide) dX12_rather_20 ?_
        refine zi_top (y := σ 206 4) (by (first | rfl | (simp [us, uf, nS] <;> omega))) ?_
        refine zi_cge (tgt := 78) hx hb dX12_rather_21 (by decide) (by omega) (by omega) (fun c21 => ?_) (fun c21 => ?_)
        · have hmn : mn (σ 206) = h_ := by unfold mn; omega
          refine lv_iload_n hx hb dX12_rather_78 rfl (lv_at hl 1 rfl) ?_
          exact hret _ _ _ _ _ _ dX12_rather_79 hW hS ⟨by rw [if_neg (by omega), hmn], ⟨a_, b_, z_, by rw [if_neg (by omega)]⟩⟩
        · have hh : (h_ : Int) < σ 206 4 := by omega
          obtain ⟨k8, k12, k16, k20, k24, k28, k32, k36, k40, k44⟩ := oH h_ hh
          have hbm := bm_bd hok hh (k := 779) (by omega)
          have hsb := shr_bd hok (σ 206 3) hh
          refine lv_aload_n hx hb dX12_rather_24 rfl (lv_at hl 2 rfl) ?_
          refine lv_aload_n hx hb dX12_rather_25 rfl (lv_at hl 2 rfl) ?_
          refine wz_get hx hb hts hown hK hW 202 5 (by decide) e_202 rfl (by decide) inG12 w_820 rfl rfl dX12_rather_26 ?_
          refine zi_con hx hb dX12_rather_29 ?_
          refine wz_ald hx hb hK hW 206 3 (by decide) e_206 (by omega) (by omega) (by decide) dX12_rather_30 ?_
          refine zi_top (y := σ 206 3) (by (first | rfl | (simp [us, uf, nS] <;> omega))) ?_
          refine k_vv (fr := 5) (lo := 117) (σ' := (us (us (us (us σ 212 a_) 210 b_) 202 (uf (σ 202) 20 z_)) 210 (cpy (mn (σ 206)) (shr (σ 206) (σ 206 3)) ((us (us (us σ 212 a_) 210 b_) 202 (uf (σ 202) 20 z_)) 210)))) (As := [.int (iI (σ 206 3))]) (rest := []) hx hb hml hown hts hK hRf hRl hW hS (c_X12_findShares l D cy B (us (us (us σ 212 a_) 210 b_) 202 (uf (σ 202) 20 z_)) (σ 206 3) (show okV (σ 206) from (by first | assumption | omega | (simp only [tpL_25, List.length_cons, List.length_nil]; omega))) (show 0 ≤ (σ 206 3) ∧ (σ 206 3) ≤ 3 from (by first | assumption | omega | (simp only [tpL_25, List.length_cons, List.length_nil]; omega)))) vX12_findShares ⟨w_1012, w_31⟩ w_1010 (by decide) e_202 rfl ⟨Nat.le_of_ble_eq_true rfl, Nat.le_of_ble_eq_true rfl⟩ hl.1 rfl (Nat.le_of_ble_eq_true rfl) ⟨Nat.zero_le _, Nat.zero_le _⟩ dX12_rather_31 (fun H locs hW hS => ?_)
          have hW : wd D cy B (us (us (us σ 212 a_) 210 (cpy (mn (σ 206)) (shr (σ 206) (σ 206 3)) b_)) 202 (uf (σ 202) 20 z_)) H := by rw [n3_2 _ _ _ _ _ (by decide)] at hW; exact hW
          refine lv_aload_n hx hb dX12_rather_34 rfl (lv_at hl 2 rfl) ?_
          refine wz_get hx hb hts hown hK hW 202 16 (by decide) e_202 rfl (by decide) inG12 w_831 rfl rfl dX12_rather_35 ?_
          refine lv_iload_n hx hb dX12_rather_38 rfl (lv_at hl 0 rfl) ?_
          refine wz_ald hx hb hK hW 210 h_ (by decide) e_210 (by omega) (by omega) (by decide) dX12_rather_39 ?_
          refine zi_top (y := shr (σ 206) (σ 206 3) h_) (by (show cpy (mn (σ 206)) (shr (σ 206) (σ 206 3)) b_ h_ = _; unfold cpy; rw [if_pos (by unfold mn; omega)])) ?_
          refine lv_aload_n hx hb dX12_rather_40 rfl (lv_at hl 2 rfl) ?_
          refine wz_get hx hb hts hown hK hW 202 5 (by decide) e_202 rfl (by decide) inG12 w_820 rfl rfl dX12_rather_41 ?_
          refine zi_bip hx hb dX12_rather_44 (by decide) ?_
          refine lv_iload_n hx hb dX12_rather_46 rfl (lv_at hl 0 rfl) ?_
          refine zi_add hx hb dX12_rather_47 ?_
          refine wz_ald hx hb hK hW 206 (28 + h_) (by decide) e_206 (by omega) (by omega) (by decide) dX12_rather_48 ?_
          refine zi_top (y := σ 206 (28 + h_)) (by (first | rfl | (simp [us, uf, nS] <;> omega))) ?_
          refine zi_con hx hb dX12_rather_49 ?_
          refine zi_div hx hb dX12_rather_50 (by omega) (by omega) ?_
          refine zi_sub hx hb dX12_rather_51 ?_
          have hnb : -10 ≤ nowg (σ 206) h_ ∧ nowg (σ 206) h_ ≤ 198 := by unfold nowg; omega
          refine zi_top (y := nowg (σ 206) h_) (by rfl) ?_
          refine lv_istore_n (lv' := [(3, .int (iI (nowg (σ 206) h_))), (2, .int (iI (((h_ : Nat) : Int)))), (1, .int (iI (bt (raP (σ 206)) h_))), (0, .ref (B + 202))]) hx hb dX12_rather_52 rfl hl (by decide) rfl (fun ls hl => ?_)
          refine lv_iload_n hx hb dX12_rather_53 rfl (lv_at hl 2 rfl) ?_
          refine lv_aload_n hx hb dX12_rather_54 rfl (lv_at hl 3 rfl) ?_
          refine lv_iload_n hx hb dX12_rather_55 rfl (lv_at hl 1 rfl) ?_
          refine k_vie (fr := 5) (lo := 117) (r := bm (σ 206) h_ 779) (As := [.int (iI (((h_ : Nat) : Int)))]) (rest := [.int (iI (bt (raP (σ 206)) h_))]) hx hb hml hown hts hK hRf hRl hW hS (c_X12_bestOf l D cy B (us (us (us σ 212 a_) 210 (cpy (mn (σ 206)) (shr (σ 206) (σ 206 3)) b_)) 202 (uf (σ 202) 20 z_)) h_ (show okV (σ 206) from (by first | assumption | omega | (simp only [tpL_25, List.length_cons, List.length_nil]; omega))) (show (h_ : Int) < σ 206 4 from (by first | assumption | omega | (simp only [tpL_25, List.length_cons, List.length_nil]; omega)))) vX12_bestOf ⟨w_1062, w_36⟩ w_1060 (by decide) e_202 rfl ⟨Nat.le_of_ble_eq_true rfl, Nat.le_of_ble_eq_true rfl⟩ hl.1 rfl (Nat.le_of_ble_eq_true rfl) ⟨Nat.zero_le _, Nat.zero_le _⟩ dX12_rather_56 (fun τ H locs hτ hW hS => ?_)
          obtain ⟨g_56, rfl⟩ := hτ
          have hW : wd D cy B (us (us (us σ 212 (σ 206)) 210 g_56) 202 (uf (σ 202) 20 (bsp (σ 206) h_ z_ 779))) H := by refine (congrArg (fun τ => wd D cy B τ H) ?_).mp hW; funext c9; by_cases a1 : c9 = 212; (· subst a1; rfl); by_cases a2 : c9 = 210; (· subst a2; rfl); by_cases a3 : c9 = 202; (· subst a3; exact uf_uf _ _ _ _); simp [us, a1, a2, a3]
          refine lv_iload_n hx hb dX12_rather_59 rfl (lv_at hl 0 rfl) ?_
          refine zi_cle (tgt := 69) hx hb dX12_rather_60 (by decide) (by omega) (by omega) (fun c60 => ?_) (fun c60 => ?_)
          · refine zi_con hx hb dX12_rather_69 ?_
            refine zi_or hx hb dX12_rather_70 ?_
            refine lv_istore_n (lv' := [(1, .int (iI (orI (bt (raP (σ 206)) h_) 0))), (3, .int (iI (nowg (σ 206) h_))), (2, .int (iI (((h_ : Nat) : Int)))), (0, .ref (B + 202))]) hx hb dX12_rather_71 rfl hl (by decide) rfl (fun ls hl => ?_)
            refine lv_iinc (v := iI (((h_ : Nat) : Int) + 1)) (lv' := [(2, .int (iI (((h_ : Nat) : Int) + 1))), (1, .int (iI (orI (bt (raP (σ 206)) h_) 0))), (3, .int (iI (nowg (σ 206) h_))), (0, .ref (B + 202))]) hx hb dX12_rather_72 hl (k := 2) rfl (iI_add _ _) (by decide) rfl (fun ls hl => ?_)
            refine lv_goto (tgt := 14) hx hb dX12_rather_75 (by decide) ?_
            have e3 : bt (raP (σ 206)) (h_ + 1) = orI (bt (raP (σ 206)) h_) (if raP (σ 206) h_ = true then p2 h_ else 0) := rfl
            first | rw [if_pos (show raP (σ 206) h_ = true from decide_eq_true (by omega))] at e3 | rw [if_neg (show ¬ raP (σ 206) h_ = true from fun hh9 => absurd (of_decide_eq_true hh9) (by omega))] at e3
            exact ih14 (h_ + 1) (σ 206) g_56 (bsp (σ 206) h_ z_ 779) _ _ _ (by omega) (by omega) hW hS (lv_sub hl [0, 1, 3] (by rw [e3]; rfl))
          · refine zi_con hx hb dX12_rather_63 ?_
            refine lv_iload_n hx hb dX12_rather_64 rfl (lv_at hl 1 rfl) ?_
            refine zi_shl (k := h_) hx hb (by omega) (by omega) dX12_rather_65 ?_
            refine lv_goto (tgt := 70) hx hb dX12_rather_66 (by decide) ?_
            refine zi_or hx hb dX12_rather_70 ?_
            refine lv_istore_n (lv' := [(1, .int (iI (orI (bt (raP (σ 206)) h_) (p2 h_)))), (3, .int (iI (nowg (σ 206) h_))), (2, .int (iI (((h_ : Nat) : Int)))), (0, .ref (B + 202))]) hx hb dX12_rather_71 rfl hl (by decide) rfl (fun ls hl => ?_)
            refine lv_iinc (v := iI (((h_ : Nat) : Int) + 1)) (lv' := [(2, .int (iI (((h_ : Nat) : Int) + 1))), (1, .int (iI (orI (bt (raP (σ 206)) h_) (p2 h_)))), (3, .int (iI (nowg (σ 206) h_))), (0, .ref (B + 202))]) hx hb dX12_rather_72 hl (k := 2) rfl (iI_add _ _) (by decide) rfl (fun ls hl => ?_)
            refine lv_goto (tgt := 14) hx hb dX12_rather_75 (by decide) ?_
            have e3 : bt (raP (σ 206)) (h_ + 1) = orI (bt (raP (σ 206)) h_) (if raP (σ 206) h_ = true then p2 h_ else 0) := rfl
            first | rw [if_pos (show raP (σ 206) h_ = true from decide_eq_true (by omega))] at e3 | rw [if_neg (show ¬ raP (σ 206) h_ = true from fun hh9 => absurd (of_decide_eq_true hh9) (by omega))] at e3
            exact ih14 (h_ + 1) (σ 206) g_56 (bsp (σ 206) h_ z_ 779) _ _ _ (by omega) (by omega) hW hS (lv_sub hl [0, 1, 3] (by rw [e3]; rfl))
    exact L14 _ 0 (σ 212) (σ 210) (σ 202 20) _ _ _ (Nat.lt_succ_self _) (by omega) (by rw [uf_id, us_id, us_id, us_id]; exact hW) hS (lv_sub hl [0, 1, 2] rfl)
  · refine k_ldc hx hb hown hts (v := -1000002) (by decide) w_983 dX12_rather_7 ?_
    exact hret _ _ _ _ _ _ dX12_rather_9 hW hS ⟨by (repeat' split) <;> first | rfl | omega, ⟨σ 212, σ 210, 0, by (repeat' split) <;> first | rfl | omega⟩⟩
