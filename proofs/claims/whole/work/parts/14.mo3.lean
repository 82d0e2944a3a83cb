
set_option maxRecDepth 100000 in
set_option maxHeartbeats 4000000 in
theorem c_X12_oneMonth (l : Launch) (D : va_G) (cy : Nat → ClassId) (B : Nat) (σ : Sg)  (hok : okV (σ 206)) : CV l yX12_oneMonth cX12_oneMonth 3 1 23 D cy B [.ref (B + 202)] σ (us σ 206 (mon (σ 206))) := by
  refine CV_of (by decide) (Nat.le_of_ble_eq_true rfl) ?_
  intro p e R s m args below meth c Q hx hb hml hown hts hK hRf hRl hW hret ls hl
  have hown : s.vm.findClass "LovePartsModel" = some m.cls := hown
  have hS : va_S (AB B) s.heap s.heap [] := va_S.rf
  have hl : lv_has ls 3 [(0, .ref (B + 202))] := hl
  obtain ⟨o4, o0, o1, o2, o3, o5, o6, o7, oH⟩ := id hok
  obtain ⟨h_, hh6⟩ : ∃ h : Nat, σ 206 6 = (h : Int) := ⟨(σ 206 6).toNat, by omega⟩
  have hh : (h_ : Int) < σ 206 4 := by omega
  obtain ⟨k8, k12, k16, k20, k24, k28, k32, k36, k40, k44⟩ := oH h_ hh
  have hal := alw_bd hok hh
  have hmon : mon (σ 206) = mth (σ 206) h_ := by unfold mon; rw [hh6, Int.toNat_natCast]
  refine lv_aload_n hx hb dX12_oneMonth_0 rfl (lv_at hl 0 rfl) ?_
  refine wz_get hx hb hts hown hK hW 202 5 (by decide) e_202 rfl (by decide) inG12 w_820 rfl rfl dX12_oneMonth_1 ?_
  refine zi_bip hx hb dX12_oneMonth_4 (by decide) ?_
  refine wz_ald hx hb hK hW 206 6 (by decide) e_206 (by omega) (by omega) (by decide) dX12_oneMonth_6 ?_
  refine zi_top (y := ((h_ : Nat) : Int)) (by exact hh6) ?_
  refine lv_istore_n (lv' := [(1, .int (iI (((h_ : Nat) : Int)))), (0, .ref (B + 202))]) hx hb dX12_oneMonth_7 rfl hl (by decide) rfl (fun ls hl => ?_)
  refine lv_aload_n hx hb dX12_oneMonth_8 rfl (lv_at hl 1 rfl) ?_
  refine lv_iload_n hx hb dX12_oneMonth_9 rfl (lv_at hl 0 rfl) ?_
  refine k_vi (fr := 1) (lo := 23) (r := alw (σ 206) h_) (As := [.int (iI (((h_ : Nat) : Int)))]) (rest := []) hx hb hml hown hts hK hRf hRl hW hS (c_X12_allowed l D cy B σ h_ (show okV (σ 206) from (by first | assumption | omega)) (show (h_ : Int) < σ 206 4 from (by first | assumption | omega))) vX12_allowed ⟨w_1038, w_35⟩ w_1036 (by decide) e_202 rfl ⟨Nat.le_of_ble_eq_true rfl, Nat.le_of_ble_eq_true rfl⟩ hl.1 rfl (Nat.le_of_ble_eq_true rfl) ⟨Nat.zero_le _, Nat.zero_le _⟩ dX12_oneMonth_10 (fun H locs hW hS => ?_)
  refine lv_istore_n (lv' := [(2, .int (iI (alw (σ 206) h_))), (1, .int (iI (((h_ : Nat) : Int)))), (0, .ref (B + 202))]) hx hb dX12_oneMonth_13 rfl hl (by decide) rfl (fun ls hl => ?_)
  refine lv_aload_n hx hb dX12_oneMonth_14 rfl (lv_at hl 2 rfl) ?_
  refine wz_get hx hb hts hown hK hW 202 5 (by decide) e_202 rfl (by decide) inG12 w_820 rfl rfl dX12_oneMonth_15 ?_
  refine zi_con hx hb dX12_oneMonth_18 ?_
  refine lv_aload_n hx hb dX12_oneMonth_19 rfl (lv_at hl 2 rfl) ?_
  refine wz_get hx hb hts hown hK hW 202 5 (by decide) e_202 rfl (by decide) inG12 w_820 rfl rfl dX12_oneMonth_20 ?_
  refine zi_con hx hb dX12_oneMonth_23 ?_
  refine wz_ald hx hb hK hW 206 1 (by decide) e_206 (by omega) (by omega) (by decide) dX12_oneMonth_24 ?_
  refine lv_iload_n hx hb dX12_oneMonth_25 rfl (lv_at hl 0 rfl) ?_
  refine zi_cle (tgt := 33) hx hb dX12_oneMonth_26 (by decide) (by omega) (by omega) (fun c26 => ?_) (fun c26 => ?_)
  · refine lv_aload_n hx hb dX12_oneMonth_33 rfl (lv_at hl 2 rfl) ?_
    refine wz_get hx hb hts hown hK hW 202 5 (by decide) e_202 rfl (by decide) inG12 w_820 rfl rfl dX12_oneMonth_34 ?_
    refine zi_con hx hb dX12_oneMonth_37 ?_
    refine wz_ald hx hb hK hW 206 1 (by decide) e_206 (by omega) (by omega) (by decide) dX12_oneMonth_38 ?_
    refine wz_ast (σ' := (up σ 206 1 (σ 206 1))) hx hb hK hW hS 206 1 (by decide) e_206 (by omega) (by omega) (by decide) p_206 dX12_oneMonth_39 (fun H locs hW hS => ?_)
    refine lv_aload_n hx hb dX12_oneMonth_40 rfl (lv_at hl 2 rfl) ?_
    refine wz_get hx hb hts hown hK hW 202 5 (by decide) e_202 rfl (by decide) inG12 w_820 rfl rfl dX12_oneMonth_41 ?_
    refine zi_bip hx hb dX12_oneMonth_44 (by decide) ?_
    refine lv_iload_n hx hb dX12_oneMonth_46 rfl (lv_at hl 1 rfl) ?_
    refine zi_add hx hb dX12_oneMonth_47 ?_
    refine lv_dup2_11 hx hb dX12_oneMonth_48 rfl rfl ?_
    refine wz_ald hx hb hK hW 206 (40 + h_) (by decide) e_206 (by omega) (by omega) (by decide) dX12_oneMonth_49 ?_
    refine zi_top (y := σ 206 (40 + h_)) (by (first | rfl | (simp [us, uf, nS] <;> omega))) ?_
    refine lv_iload_n hx hb dX12_oneMonth_50 rfl (lv_at hl 0 rfl) ?_
    refine lv_aload_n hx hb dX12_oneMonth_51 rfl (lv_at hl 2 rfl) ?_
    refine wz_get hx hb hts hown hK hW 202 5 (by decide) e_202 rfl (by decide) inG12 w_820 rfl rfl dX12_oneMonth_52 ?_
    refine zi_bip hx hb dX12_oneMonth_55 (by decide) ?_
    refine lv_iload_n hx hb dX12_oneMonth_57 rfl (lv_at hl 1 rfl) ?_
    refine zi_add hx hb dX12_oneMonth_58 ?_
    refine wz_ald hx hb hK hW 206 (28 + h_) (by decide) e_206 (by omega) (by omega) (by decide) dX12_oneMonth_59 ?_
    refine zi_top (y := σ 206 (28 + h_)) (by (first | rfl | (simp [us, uf, nS] <;> omega))) ?_
    refine zi_cge (tgt := 67) hx hb dX12_oneMonth_60 (by decide) (by omega) (by omega) (fun c60 => ?_) (fun c60 => ?_)
    · refine zi_con hx hb dX12_oneMonth_67 ?_
      refine zi_add hx hb dX12_oneMonth_68 ?_
      refine wz_ast (σ' := (up (up σ 206 1 (σ 206 1)) 206 (40 + h_) ((σ 206 (40 + h_)) + 0))) hx hb hK hW hS 206 (40 + h_) (by decide) e_206 (by omega) (by omega) (by decide) p_206 dX12_oneMonth_69 (fun H locs hW hS => ?_)
      refine lv_aload_n hx hb dX12_oneMonth_70 rfl (lv_at hl 2 rfl) ?_
      refine wz_get hx hb hts hown hK hW 202 5 (by decide) e_202 rfl (by decide) inG12 w_820 rfl rfl dX12_oneMonth_71 ?_
      refine zi_bip hx hb dX12_oneMonth_74 (by decide) ?_
      refine lv_iload_n hx hb dX12_oneMonth_76 rfl (lv_at hl 1 rfl) ?_
      refine zi_add hx hb dX12_oneMonth_77 ?_
      refine lv_dup2_11 hx hb dX12_oneMonth_78 rfl rfl ?_
      refine wz_ald hx hb hK hW 206 (36 + h_) (by decide) e_206 (by omega) (by omega) (by decide) dX12_oneMonth_79 ?_
      refine zi_top (y := σ 206 (36 + h_)) (by (first | rfl | (simp [us, uf, nS] <;> omega))) ?_
      refine zi_con hx hb dX12_oneMonth_80 ?_
      refine zi_add hx hb dX12_oneMonth_81 ?_
      refine wz_ast (σ' := (up (up (up σ 206 1 (σ 206 1)) 206 (40 + h_) ((σ 206 (40 + h_)) + 0)) 206 (36 + h_) ((σ 206 (36 + h_)) + 1))) hx hb hK hW hS 206 (36 + h_) (by decide) e_206 (by omega) (by omega) (by decide) p_206 dX12_oneMonth_82 (fun H locs hW hS => ?_)
      refine lv_aload_n hx hb dX12_oneMonth_83 rfl (lv_at hl 2 rfl) ?_
      refine wz_get hx hb hts hown hK hW 202 5 (by decide) e_202 rfl (by decide) inG12 w_820 rfl rfl dX12_oneMonth_84 ?_
      refine zi_bip hx hb dX12_oneMonth_87 (by decide) ?_
      refine lv_iload_n hx hb dX12_oneMonth_89 rfl (lv_at hl 1 rfl) ?_
      refine zi_con hx hb dX12_oneMonth_90 ?_
      refine zi_add hx hb dX12_oneMonth_91 ?_
      refine lv_aload_n hx hb dX12_oneMonth_92 rfl (lv_at hl 2 rfl) ?_
      refine wz_get hx hb hts hown hK hW 202 5 (by decide) e_202 rfl (by decide) inG12 w_820 rfl rfl dX12_oneMonth_93 ?_
      refine zi_con hx hb dX12_oneMonth_96 ?_
      refine wz_ald hx hb hK hW 206 4 (by decide) e_206 (by omega) (by omega) (by decide) dX12_oneMonth_97 ?_
      refine zi_top (y := σ 206 4) (by (first | rfl | (simp [us, uf, nS] <;> omega))) ?_
      refine zi_rem hx hb dX12_oneMonth_98 (by omega) (by omega) ?_
      refine wz_ast (σ' := (up (up (up (up σ 206 1 (σ 206 1)) 206 (40 + h_) ((σ 206 (40 + h_)) + 0)) 206 (36 + h_) ((σ 206 (36 + h_)) + 1)) 206 6 ((((h_ : Nat) : Int) + 1) % (σ 206 4)))) hx hb hK hW hS 206 6 (by decide) e_206 (by omega) (by omega) (by decide) p_206 dX12_oneMonth_99 (fun H locs hW hS => ?_)
      refine lv_aload_n hx hb dX12_oneMonth_100 rfl (lv_at hl 2 rfl) ?_
      refine wz_get hx hb hts hown hK hW 202 5 (by decide) e_202 rfl (by decide) inG12 w_820 rfl rfl dX12_oneMonth_101 ?_
      refine zi_con hx hb dX12_oneMonth_104 ?_
      refine lv_dup2_11 hx hb dX12_oneMonth_105 rfl rfl ?_
      refine wz_ald hx hb hK hW 206 5 (by decide) e_206 (by omega) (by omega) (by decide) dX12_oneMonth_106 ?_
      refine zi_top (y := σ 206 5) (by (first | rfl | (simp [us, uf, nS] <;> omega))) ?_
      refine zi_con hx hb dX12_oneMonth_107 ?_
      refine zi_add hx hb dX12_oneMonth_108 ?_
      refine wz_ast (σ' := (up (up (up (up (up σ 206 1 (σ 206 1)) 206 (40 + h_) ((σ 206 (40 + h_)) + 0)) 206 (36 + h_) ((σ 206 (36 + h_)) + 1)) 206 6 ((((h_ : Nat) : Int) + 1) % (σ 206 4))) 206 5 ((σ 206 5) + 1))) hx hb hK hW hS 206 5 (by decide) e_206 (by omega) (by omega) (by decide) p_206 dX12_oneMonth_109 (fun H locs hW hS => ?_)
      exact hret _ _ _ _ _ dX12_oneMonth_110 hW hS (by rw [hmon]; unfold mth up; simp only [us_us, us_eq]; (first | rw [if_pos (by omega : alw (σ 206) h_ < σ 206 1)] | rw [if_neg (by omega : ¬ alw (σ 206) h_ < σ 206 1)]); (first | rw [if_pos (by omega : alw (σ 206) h_ < σ 206 (28 + h_))] | rw [if_neg (by omega : ¬ alw (σ 206) h_ < σ 206 (28 + h_))]))
    · refine zi_con hx hb dX12_oneMonth_63 ?_
      refine lv_goto (tgt := 68) hx hb dX12_oneMonth_64 (by decide) ?_
      refine zi_add hx hb dX12_oneMonth_68 ?_
      refine wz_ast (σ' := (up (up σ 206 1 (σ 206 1)) 206 (40 + h_) ((σ 206 (40 + h_)) + 1))) hx hb hK hW hS 206 (40 + h_) (by decide) e_206 (by omega) (by omega) (by decide) p_206 dX12_oneMonth_69 (fun H locs hW hS => ?_)
      refine lv_aload_n hx hb dX12_oneMonth_70 rfl (lv_at hl 2 rfl) ?_
      refine wz_get hx hb hts hown hK hW 202 5 (by decide) e_202 rfl (by decide) inG12 w_820 rfl rfl dX12_oneMonth_71 ?_
      refine zi_bip hx hb dX12_oneMonth_74 (by decide) ?_
      refine lv_iload_n hx hb dX12_oneMonth_76 rfl (lv_at hl 1 rfl) ?_
      refine zi_add hx hb dX12_oneMonth_77 ?_
      refine lv_dup2_11 hx hb dX12_oneMonth_78 rfl rfl ?_
      refine wz_ald hx hb hK hW 206 (36 + h_) (by decide) e_206 (by omega) (by omega) (by decide) dX12_oneMonth_79 ?_
      refine zi_top (y := σ 206 (36 + h_)) (by (first | rfl | (simp [us, uf, nS] <;> omega))) ?_
      refine zi_con hx hb dX12_oneMonth_80 ?_
      refine zi_add hx hb dX12_oneMonth_81 ?_
      refine wz_ast (σ' := (up (up (up σ 206 1 (σ 206 1)) 206 (40 + h_) ((σ 206 (40 + h_)) + 1)) 206 (36 + h_) ((σ 206 (36 + h_)) + 1))) hx hb hK hW hS 206 (36 + h_) (by decide) e_206 (by omega) (by omega) (by decide) p_206 dX12_oneMonth_82 (fun H locs hW hS => ?_)
      refine lv_aload_n hx hb dX12_oneMonth_83 rfl (lv_at hl 2 rfl) ?_
      refine wz_get hx hb hts hown hK hW 202 5 (by decide) e_202 rfl (by decide) inG12 w_820 rfl rfl dX12_oneMonth_84 ?_
      refine zi_bip hx hb dX12_oneMonth_87 (by decide) ?_
      refine lv_iload_n hx hb dX12_oneMonth_89 rfl (lv_at hl 1 rfl) ?_
      refine zi_con hx hb dX12_oneMonth_90 ?_
      refine zi_add hx hb dX12_oneMonth_91 ?_
      refine lv_aload_n hx hb dX12_oneMonth_92 rfl (lv_at hl 2 rfl) ?_
      refine wz_get hx hb hts hown hK hW 202 5 (by decide) e_202 rfl (by decide) inG12 w_820 rfl rfl dX12_oneMonth_93 ?_
      refine zi_con hx hb dX12_oneMonth_96 ?_
      refine wz_ald hx hb hK hW 206 4 (by decide) e_206 (by omega) (by omega) (by decide) dX12_oneMonth_97 ?_
      refine zi_top (y := σ 206 4) (by (first | rfl | (simp [us, uf, nS] <;> omega))) ?_
      refine zi_rem hx hb dX12_oneMonth_98 (by omega) (by omega) ?_
      refine wz_ast (σ' := (up (up (up (up σ 206 1 (σ 206 1)) 206 (40 + h_) ((σ 206 (40 + h_)) + 1)) 206 (36 + h_) ((σ 206 (36 + h_)) + 1)) 206 6 ((((h_ : Nat) : Int) + 1) % (σ 206 4)))) hx hb hK hW hS 206 6 (by decide) e_206 (by omega) (by omega) (by decide) p_206 dX12_oneMonth_99 (fun H locs hW hS => ?_)
      refine lv_aload_n hx hb dX12_oneMonth_100 rfl (lv_at hl 2 rfl) ?_
      refine wz_get hx hb hts hown hK hW 202 5 (by decide) e_202 rfl (by decide) inG12 w_820 rfl rfl dX12_oneMonth_101 ?_
      refine zi_con hx hb dX12_oneMonth_104 ?_
      refine lv_dup2_11 hx hb dX12_oneMonth_105 rfl rfl ?_
      refine wz_ald hx hb hK hW 206 5 (by decide) e_206 (by omega) (by omega) (by decide) dX12_oneMonth_106 ?_
      refine zi_top (y := σ 206 5) (by (first | rfl | (simp [us, uf, nS] <;> omega))) ?_
      refine zi_con hx hb dX12_oneMonth_107 ?_
      refine zi_add hx hb dX12_oneMonth_108 ?_
      refine wz_ast (σ' := (up (up (up (up (up σ 206 1 (σ 206 1)) 206 (40 + h_) ((σ 206 (40 + h_)) + 1)) 206 (36 + h_) ((σ 206 (36 + h_)) + 1)) 206 6 ((((h_ : Nat) : Int) + 1) % (σ 206 4))) 206 5 ((σ 206 5) + 1))) hx hb hK hW hS 206 5 (by decide) e_206 (by omega) (by omega) (by decide) p_206 dX12_oneMonth_109 (fun H locs hW hS => ?_)
      exact hret _ _ _ _ _ dX12_oneMonth_110 hW hS (by rw [hmon]; unfold mth up; simp only [us_us, us_eq]; (first | rw [if_pos (by omega : alw (σ 206) h_ < σ 206 1)] | rw [if_neg (by omega : ¬ alw (σ 206) h_ < σ 206 1)]); (first | rw [if_pos (by omega : alw (σ 206) h_ < σ 206 (28 + h_))] | rw [if_neg (by omega : ¬ alw (σ 206) h_ < σ 206 (28 + h_))]))
  · refine lv_iload_n hx hb dX12_oneMonth_29 rfl (lv_at hl 0 rfl) ?_
    refine lv_goto (tgt := 39) hx hb dX12_oneMonth_30 (by decide) ?_
    refine wz_ast (σ' := (up σ 206 1 (alw (σ 206) h_))) hx hb hK hW hS 206 1 (by decide) e_206 (by omega) (by omega) (by decide) p_206 dX12_oneMonth_39 (fun H locs hW hS => ?_)
    refine lv_aload_n hx hb dX12_oneMonth_40 rfl (lv_at hl 2 rfl) ?_
    refine wz_get hx hb hts hown hK hW 202 5 (by decide) e_202 rfl (by decide) inG12 w_820 rfl rfl dX12_oneMonth_41 ?_
    refine zi_bip hx hb dX12_oneMonth_44 (by decide) ?_
    refine lv_iload_n hx hb dX12_oneMonth_46 rfl (lv_at hl 1 rfl) ?_
    refine zi_add hx hb dX12_oneMonth_47 ?_
    refine lv_dup2_11 hx hb dX12_oneMonth_48 rfl rfl ?_
    refine wz_ald hx hb hK hW 206 (40 + h_) (by decide) e_206 (by omega) (by omega) (by decide) dX12_oneMonth_49 ?_
    refine zi_top (y := σ 206 (40 + h_)) (by (first | rfl | (simp [us, uf, nS] <;> omega))) ?_
    refine lv_iload_n hx hb dX12_oneMonth_50 rfl (lv_at hl 0 rfl) ?_
    refine lv_aload_n hx hb dX12_oneMonth_51 rfl (lv_at hl 2 rfl) ?_
    refine wz_get hx hb hts hown hK hW 202 5 (by decide) e_202 rfl (by decide) inG12 w_820 rfl rfl dX12_oneMonth_52 ?_
    refine zi_bip hx hb dX12_oneMonth_55 (by decide) ?_
    refine lv_iload_n hx hb dX12_oneMonth_57 rfl (lv_at hl 1 rfl) ?_
    refine zi_add hx hb dX12_oneMonth_58 ?_
    refine wz_ald hx hb hK hW 206 (28 + h_) (by decide) e_206 (by omega) (by omega) (by decide) dX12_oneMonth_59 ?_
    refine zi_top (y := σ 206 (28 + h_)) (by (first | rfl | (simp [us, uf, nS] <;> omega))) ?_
    refine zi_cge (tgt := 67) hx hb dX12_oneMonth_60 (by decide) (by omega) (by omega) (fun c60 => ?_) (fun c60 => ?_)
    · refine zi_con hx hb dX12_oneMonth_67 ?_
      refine zi_add hx hb dX12_oneMonth_68 ?_
      refine wz_ast (σ' := (up (up σ 206 1 (alw (σ 206) h_)) 206 (40 + h_) ((σ 206 (40 + h_)) + 0))) hx hb hK hW hS 206 (40 + h_) (by decide) e_206 (by omega) (by omega) (by decide) p_206 dX12_oneMonth_69 (fun H locs hW hS => ?_)
      refine lv_aload_n hx hb dX12_oneMonth_70 rfl (lv_at hl 2 rfl) ?_
      refine wz_get hx hb hts hown hK hW 202 5 (by decide) e_202 rfl (by decide) inG12 w_820 rfl rfl dX12_oneMonth_71 ?_
      refine zi_bip hx hb dX12_oneMonth_74 (by decide) ?_
      refine lv_iload_n hx hb dX12_oneMonth_76 rfl (lv_at hl 1 rfl) ?_
      refine zi_add hx hb dX12_oneMonth_77 ?_
      refine lv_dup2_11 hx hb dX12_oneMonth_78 rfl rfl ?_
      refine wz_ald hx hb hK hW 206 (36 + h_) (by decide) e_206 (by omega) (by omega) (by decide) dX12_oneMonth_79 ?_
      refine zi_top (y := σ 206 (36 + h_)) (by (first | rfl | (simp [us, uf, nS] <;> omega))) ?_
      refine zi_con hx hb dX12_oneMonth_80 ?_
      refine zi_add hx hb dX12_oneMonth_81 ?_
      refine wz_ast (σ' := (up (up (up σ 206 1 (alw (σ 206) h_)) 206 (40 + h_) ((σ 206 (40 + h_)) + 0)) 206 (36 + h_) ((σ 206 (36 + h_)) + 1))) hx hb hK hW hS 206 (36 + h_) (by decide) e_206 (by omega) (by omega) (by decide) p_206 dX12_oneMonth_82 (fun H locs hW hS => ?_)
      refine lv_aload_n hx hb dX12_oneMonth_83 rfl (lv_at hl 2 rfl) ?_
      refine wz_get hx hb hts hown hK hW 202 5 (by decide) e_202 rfl (by decide) inG12 w_820 rfl rfl dX12_oneMonth_84 ?_
      refine zi_bip hx hb dX12_oneMonth_87 (by decide) ?_
      refine lv_iload_n hx hb dX12_oneMonth_89 rfl (lv_at hl 1 rfl) ?_
      refine zi_con hx hb dX12_oneMonth_90 ?_
      refine zi_add hx hb dX12_oneMonth_91 ?_
      refine lv_aload_n hx hb dX12_oneMonth_92 rfl (lv_at hl 2 rfl) ?_
      refine wz_get hx hb hts hown hK hW 202 5 (by decide) e_202 rfl (by decide) inG12 w_820 rfl rfl dX12_oneMonth_93 ?_
      refine zi_con hx hb dX12_oneMonth_96 ?_
      refine wz_ald hx hb hK hW 206 4 (by decide) e_206 (by omega) (by omega) (by decide) dX12_oneMonth_97 ?_
      refine zi_top (y := σ 206 4) (by (first | rfl | (simp [us, uf, nS] <;> omega))) ?_
      refine zi_rem hx hb dX12_oneMonth_98 (by omega) (by omega) ?_
      refine wz_ast (σ' := (up (up (up (up σ 206 1 (alw (σ 206) h_)) 206 (40 + h_) ((σ 206 (40 + h_)) + 0)) 206 (36 + h_) ((σ 206 (36 + h_)) + 1)) 206 6 ((((h_ : Nat) : Int) + 1) % (σ 206 4)))) hx hb hK hW hS 206 6 (by decide) e_206 (by omega) (by omega) (by decide) p_206 dX12_oneMonth_99 (fun H locs hW hS => ?_)
      refine lv_aload_n hx hb dX12_oneMonth_100 rfl (lv_at hl 2 rfl) ?_
      refine wz_get hx hb hts hown hK hW 202 5 (by decide) e_202 rfl (by decide) inG12 w_820 rfl rfl dX12_oneMonth_101 ?_
      refine zi_con hx hb dX12_oneMonth_104 ?_
      refine lv_dup2_11 hx hb dX12_oneMonth_105 rfl rfl ?_
      refine wz_ald hx hb hK hW 206 5 (by decide) e_206 (by omega) (by omega) (by decide) dX12_oneMonth_106 ?_
      refine zi_top (y := σ 206 5) (by (first | rfl | (simp [us, uf, nS] <;> omega))) ?_
      refine zi_con hx hb dX12_oneMonth_107 ?_
      refine zi_add hx hb dX12_oneMonth_108 ?_
      refine wz_ast (σ' := (up (up (up (up (up σ 206 1 (alw (σ 206) h_)) 206 (40 + h_) ((σ 206 (40 + h_)) + 0)) 206 (36 + h_) ((σ 206 (36 + h_)) + 1)) 206 6 ((((h_ : Nat) : Int) + 1) % (σ 206 4))) 206 5 ((σ 206 5) + 1))) hx hb hK hW hS 206 5 (by decide) e_206 (by omega) (by omega) (by decide) p_206 dX12_oneMonth_109 (fun H locs hW hS => ?_)
      exact hret _ _ _ _ _ dX12_oneMonth_110 hW hS (by rw [hmon]; unfold mth up; simp only [us_us, us_eq]; (first | rw [if_pos (by omega : alw (σ 206) h_ < σ 206 1)] | rw [if_neg (by omega : ¬ alw (σ 206) h_ < σ 206 1)]); (first | rw [if_pos (by omega : alw (σ 206) h_ < σ 206 (28 + h_))] | rw [if_neg (by omega : ¬ alw (σ 206) h_ < σ 206 (28 + h_))]))
    · refine zi_con hx hb dX12_oneMonth_63 ?_
      refine lv_goto (tgt := 68) hx hb dX12_oneMonth_64 (by decide) ?_
      refine zi_add hx hb dX12_oneMonth_68 ?_
      refine wz_ast (σ' := (up (up σ 206 1 (alw (σ 206) h_)) 206 (40 + h_) ((σ 206 (40 + h_)) + 1))) hx hb hK hW hS 206 (40 + h_) (by decide) e_206 (by omega) (by omega) (by decide) p_206 dX12_oneMonth_69 (fun H locs hW hS => ?_)
      refine lv_aload_n hx hb dX12_oneMonth_70 rfl (lv_at hl 2 rfl) ?_
      refine wz_get hx hb hts hown hK hW 202 5 (by decide) e_202 rfl (by decide) inG12 w_820 rfl rfl dX12_oneMonth_71 ?_
      refine zi_bip hx hb dX12_oneMonth_74 (by decide) ?_
      refine lv_iload_n hx hb dX12_oneMonth_76 rfl (lv_at hl 1 rfl) ?_
      refine zi_add hx hb dX12_oneMonth_77 ?_
      refine lv_dup2_11 hx hb dX12_oneMonth_78 rfl rfl ?_
      refine wz_ald hx hb hK hW 206 (36 + h_) (by decide) e_206 (by omega) (by omega) (by decide) dX12_oneMonth_79 ?_
      refine zi_top (y := σ 206 (36 + h_)) (by (first | rfl | (simp [us, uf, nS] <;> omega))) ?_
      refine zi_con hx hb dX12_oneMonth_80 ?_
      refine zi_add hx hb dX12_oneMonth_81 ?_
      refine wz_ast (σ' := (up (up (up σ 206 1 (alw (σ 206) h_)) 206 (40 + h_) ((σ 206 (40 + h_)) + 1)) 206 (36 + h_) ((σ 206 (36 + h_)) + 1))) hx hb hK hW hS 206 (36 + h_) (by decide) e_206 (by omega) (by omega) (by decide) p_206 dX12_oneMonth_82 (fun H locs hW hS => ?_)
      refine lv_aload_n hx hb dX12_oneMonth_83 rfl (lv_at hl 2 rfl) ?_
      refine wz_get hx hb hts hown hK hW 202 5 (by decide) e_202 rfl (by decide) inG12 w_820 rfl rfl dX12_oneMonth_84 ?_
      refine zi_bip hx hb dX12_oneMonth_87 (by decide) ?_
      refine lv_iload_n hx hb dX12_oneMonth_89 rfl (lv_at hl 1 rfl) ?_
      refine zi_con hx hb dX12_oneMonth_90 ?_
      refine zi_add hx hb dX12_oneMonth_91 ?_
      refine lv_aload_n hx hb dX12_oneMonth_92 rfl (lv_at hl 2 rfl) ?_
      refine wz_get hx hb hts hown hK hW 202 5 (by decide) e_202 rfl (by decide) inG12 w_820 rfl rfl dX12_oneMonth_93 ?_
      refine zi_con hx hb dX12_oneMonth_96 ?_
      refine wz_ald hx hb hK hW 206 4 (by decide) e_206 (by omega) (by omega) (by decide) dX12_oneMonth_97 ?_
      refine zi_top (y := σ 206 4) (by (first | rfl | (simp [us, uf, nS] <;> omega))) ?_
      refine zi_rem hx hb dX12_oneMonth_98 (by omega) (by omega) ?_
      refine wz_ast (σ' := (up (up (up (up σ 206 1 (alw (σ 206) h_)) 206 (40 + h_) ((σ 206 (40 + h_)) + 1)) 206 (36 + h_) ((σ 206 (36 + h_)) + 1)) 206 6 ((((h_ : Nat) : Int) + 1) % (σ 206 4)))) hx hb hK hW hS 206 6 (by decide) e_206 (by omega) (by omega) (by decide) p_206 dX12_oneMonth_99 (fun H locs hW hS => ?_)
      refine lv_aload_n hx hb dX12_oneMonth_100 rfl (lv_at hl 2 rfl) ?_
      refine wz_get hx hb hts hown hK hW 202 5 (by decide) e_202 rfl (by decide) inG12 w_820 rfl rfl dX12_oneMonth_101 ?_
      refine zi_con hx hb dX12_oneMonth_104 ?_
      refine lv_dup2_11 hx hb dX12_oneMonth_105 rfl rfl ?_
      refine wz_ald hx hb hK hW 206 5 (by decide) e_206 (by omega) (by omega) (by decide) dX12_oneMonth_106 ?_
      refine zi_top (y := σ 206 5) (by (first | rfl | (simp [us, uf, nS] <;> omega))) ?_
      refine zi_con hx hb dX12_oneMonth_107 ?_
      refine zi_add hx hb dX12_oneMonth_108 ?_
      refine wz_ast (σ' := (up (up (up (up (up σ 206 1 (alw (σ 206) h_)) 206 (40 + h_) ((σ 206 (40 + h_)) + 1)) 206 (36 + h_) ((σ 206 (36 + h_)) + 1)) 206 6 ((((h_ : Nat) : Int) + 1) % (σ 206 4))) 206 5 ((σ 206 5) + 1))) hx hb hK hW hS 206 5 (by decide) e_206 (by omega) (by omega) (by decide) p_206 dX12_oneMonth_109 (fun H locs hW hS => ?_)
      exact hret _ _ _ _ _ dX12_oneMonth_110 hW hS (by rw [hmon]; unfold mth up; simp only [us_us, us_eq]; (first | rw [if_pos (by omega : alw (σ 206) h_ < σ 206 1)] | rw [if_neg (by omega : ¬ alw (σ 206) h_ < σ 206 1)]); (first | rw [if_pos (by omega : alw (σ 206) h_ < σ 206 (28 + h_))] | rw [if_neg (by omega : ¬ alw (σ 206) h_ < σ 206 (28 + h_))]))

set_option maxRecDepth 100000 in
set_option maxHeartbeats 4000000 in
theorem c_X12_say (l : Launch) (D : va_G) (cy : Nat → ClassId) (B : Nat) (σ : Sg) (h_ : Nat) (w_ : Int) (hh : h_ < 4) : CV l yX12_say cX12_say 3 0 0 D cy B [.ref (B + 202), .int (iI (((h_ : Nat) : Int))), .int (iI (w_))] σ (us σ 206 (uf (uf (σ 206) (20 + h_) 1) (24 + h_) w_)) := by
  refine CV_of (by decide) (Nat.le_of_ble_eq_true rfl) ?_
  intro p e R s m args below meth c Q hx hb hml hown hts hK hRf hRl hW hret ls hl
  have hown : s.vm.findClass "LovePartsModel" = some m.cls := hown
  have hS : va_S (AB B) s.heap s.heap [] := va_S.rf
  have hl : lv_has ls 3 [(0, .ref (B + 202)), (1, .int (iI (((h_ : Nat) : Int)))), (2, .int (iI (w_)))] := hl
  refine lv_aload_n hx hb dX12_say_0 rfl (lv_at hl 0 rfl) ?_
  refine wz_get hx hb hts hown hK hW 202 5 (by decide) e_202 rfl (by decide) inG12 w_820 rfl rfl dX12_say_1 ?_
  refine zi_bip hx hb dX12_say_4 (by decide) ?_
  refine lv_iload_n hx hb dX12_say_6 rfl (lv_at hl 1 rfl) ?_
  refine zi_add hx hb dX12_say_7 ?_
  refine zi_con hx hb dX12_say_8 ?_
  refine wz_ast (σ' := (up σ 206 (20 + h_) 1)) hx hb hK hW hS 206 (20 + h_) (by decide) e_206 (by omega) (by omega) (by decide) p_206 dX12_say_9 (fun H locs hW hS => ?_)
  refine lv_aload_n hx hb dX12_say_10 rfl (lv_at hl 0 rfl) ?_
  refine wz_get hx hb hts hown hK hW 202 5 (by decide) e_202 rfl (by decide) inG12 w_820 rfl rfl dX12_say_11 ?_
  refine zi_bip hx hb dX12_say_14 (by decide) ?_
  refine lv_iload_n hx hb dX12_say_16 rfl (lv_at hl 1 rfl) ?_
  refine zi_add hx hb dX12_say_17 ?_
  refine lv_iload_n hx hb dX12_say_18 rfl (lv_at hl 2 rfl) ?_
  refine wz_ast (σ' := (up (up σ 206 (20 + h_) 1) 206 (24 + h_) w_)) hx hb hK hW hS 206 (24 + h_) (by decide) e_206 (by omega) (by omega) (by decide) p_206 dX12_say_19 (fun H locs hW hS => ?_)
  exact hret _ _ _ _ _ dX12_say_20 hW hS (by unfold up; rw [us_us, us_eq])

set_option maxRecDepth 100000 in
set_option maxHeartbeats 4000000 in
theorem c_X12_putAside (l : Launch) (D : va_G) (cy : Nat → ClassId) (B : Nat) (σ : Sg)   : CV l yX12_putAside cX12_putAside 2 0 0 D cy B [.ref (B + 202)] σ (us σ 212 (σ 206)) := by
  refine CV_of (by decide) (Nat.le_of_ble_eq_true rfl) ?_
  intro p e R s m args below meth c Q hx hb hml hown hts hK hRf hRl hW hret ls hl
  have hown : s.vm.findClass "LovePartsModel" = some m.cls := hown
  have hS : va_S (AB B) s.heap s.heap [] := va_S.rf
  have hl : lv_has ls 2 [(0, .ref (B + 202))] := hl
  refine zi_con hx hb dX12_putAside_0 ?_
  refine lv_istore_n (lv' := [(1, .int (iI (0))), (0, .ref (B + 202))]) hx hb dX12_putAside_1 rfl hl (by decide) rfl (fun ls hl => ?_)
  have L2 : ∀ (n2 : Nat) (k_ : Nat) (H : Heap) (locs : List Loc) (ls : Array Slot), 48 - k_ < n2 → (k_ ≤ 48) → wd D cy B (us σ 212 (cpy k_ (σ 206) (σ 212))) H → va_S (AB B) s.heap H locs → lv_has ls 2 [(1, .int (iI (((k_ : Nat) : Int)))), (0, .ref (B + 202))] → W p l e R s m args below meth c H locs 0 0 Q (F0 m 2 ls []) := by
    intro n2
    induction n2 with
    | zero => intro k_ H locs ls hms; omega
    | succ n2 ih2 =>
      intro k_ H locs ls hms2 hk hW hS hl
      refine lv_iload_n hx hb dX12_putAside_2 rfl (lv_at hl 0 rfl) ?_
      refine zi_bip hx hb dX12_putAside_3 (by decide) ?_
      refine zi_cge (tgt := 26) hx hb dX12_putAside_5 (by decide) (by omega) (by omega) (fun c5 => ?_) (fun c5 => ?_)
      · have hW := wd_arr (c := 212) (n := 48) (g := σ 206) (by omega) (fun _ => rfl) (fun j hj => by unfold cpy; rw [if_pos (by omega)]) hW
        exact hret _ _ _ _ _ dX12_putAside_26 hW hS rfl
      · refine lv_aload_n hx hb dX12_putAside_8 rfl (lv_at hl 1 rfl) ?_
        refine wz_get hx hb hts hown hK hW 202 19 (by decide) e_202 rfl (by decide) inG12 w_834 rfl rfl dX12_putAside_9 ?_
        refine lv_iload_n hx hb dX12_putAside_12 rfl (lv_at hl 0 rfl) ?_
        refine lv_aload_n hx hb dX12_putAside_13 rfl (lv_at hl 1 rfl) ?_
        refine wz_get hx hb hts hown hK hW 202 5 (by decide) e_202 rfl (by decide) inG12 w_820 rfl rfl dX12_putAside_14 ?_
        refine lv_iload_n hx hb dX12_putAside_17 rfl (lv_at hl 0 rfl) ?_
        refine wz_ald hx hb hK hW 206 k_ (by decide) e_206 (by omega) (by omega) (by decide) dX12_putAside_18 ?_
        refine zi_top (y := σ 206 k_) (by (first | rfl | (simp [us, uf, nS] <;> omega))) ?_
        refine wz_ast (σ' := (up (us σ 212 (cpy k_ (σ 206) (σ 212))) 212 k_ (σ 206 k_))) hx hb hK hW hS 212 k_ (by decide) e_212 (by omega) (by omega) (by decide) p_212 dX12_putAside_19 (fun H locs hW hS => ?_)
        refine lv_iinc (v := iI (((k_ : Nat) : Int) + 1)) (lv' := [(1, .int (iI (((k_ : Nat) : Int) + 1))), (0, .ref (B + 202))]) hx hb dX12_putAside_20 hl (k := 0) rfl (iI_add _ _) (by decide) rfl (fun ls hl => ?_)
        refine lv_goto (tgt := 2) hx hb dX12_putAside_23 (by decide) ?_
        exact ih2 (k_ + 1) _ _ _ (by omega) (by omega) (by rw [← up_cpy]; exact hW) hS (lv_sub hl [0, 1] rfl)
  exact L2 _ 0 _ _ _ (Nat.lt_succ_self _) (by omega) (by rw [us_cpy0]; exact hW) hS (lv_sub hl [0, 1] rfl)

set_option maxRecDepth 100000 in
set_option maxHeartbeats 4000000 in
theorem c_X12_takeBack (l : Launch) (D : va_G) (cy : Nat → ClassId) (B : Nat) (σ : Sg)   : CV l yX12_takeBack cX12_takeBack 2 0 0 D cy B [.ref (B + 202)] σ (us σ 206 (σ 212)) := by
  refine CV_of (by decide) (Nat.le_of_ble_eq_true rfl) ?_
  intro p e R s m args below meth c Q hx hb hml hown hts hK hRf hRl hW hret ls hl
  have hown : s.vm.findClass "LovePartsModel" = some m.cls := hown
  have hS : va_S (AB B) s.heap s.heap [] := va_S.rf
  have hl : lv_has ls 2 [(0, .ref (B + 202))] := hl
  refine zi_con hx hb dX12_takeBack_0 ?_
  refine lv_istore_n (lv' := [(1, .int (iI (0))), (0, .ref (B + 202))]) hx hb dX12_takeBack_1 rfl hl (by decide) rfl (fun ls hl => ?_)
  have L2 : ∀ (n2 : Nat) (k_ : Nat) (H : Heap) (locs : List Loc) (ls : Array Slot), 48 - k_ < n2 → (k_ ≤ 48) → wd D cy B (us σ 206 (cpy k_ (σ 212) (σ 206))) H → va_S (AB B) s.heap H locs → lv_has ls 2 [(1, .int (iI (((k_ : Nat) : Int)))), (0, .ref (B + 202))] → W p l e R s m args below meth c H locs 0 0 Q (F0 m 2 ls []) := by
    intro n2
    induction n2 with
    | zero => intro k_ H locs ls hms; omega
    | succ n2 ih2 =>
      intro k_ H locs ls hms2 hk hW hS hl
      refine lv_iload_n hx hb dX12_takeBack_2 rfl (lv_at hl 0 rfl) ?_
      refine zi_bip hx hb dX12_takeBack_3 (by decide) ?_
      refine zi_cge (tgt := 26) hx hb dX12_takeBack_5 (by decide) (by omega) (by omega) (fun c5 => ?_) (fun c5 => ?_)
      · have hW := wd_arr (c := 206) (n := 48) (g := σ 212) (by omega) (fun _ => rfl) (fun j hj => by unfold cpy; rw [if_pos (by omega)]) hW
        exact hret _ _ _ _ _ dX12_takeBack_26 hW hS rfl
      · refine lv_aload_n hx hb dX12_takeBack_8 rfl (lv_at hl 1 rfl) ?_
        refine wz_get hx hb hts hown hK hW 202 5 (by decide) e_202 rfl (by decide) inG12 w_820 rfl rfl dX12_takeBack_9 ?_
        refine lv_iload_n hx hb dX12_takeBack_12 rfl (lv_at hl 0 rfl) ?_
        refine lv_aload_n hx hb dX12_takeBack_13 rfl (lv_at hl 1 rfl) ?_
        refine wz_get hx hb hts hown hK hW 202 19 (by decide) e_202 rfl (by decide) inG12 w_834 rfl rfl dX12_takeBack_14 ?_
        refine lv_iload_n hx hb dX12_takeBack_17 rfl (lv_at hl 0 rfl) ?_
        refine wz_ald hx hb hK hW 212 k_ (by decide) e_212 (by omega) (by omega) (by decide) dX12_takeBack_18 ?_
        refine zi_top (y := σ 212 k_) (by (first | rfl | (simp [us, uf, nS] <;> omega))) ?_
        refine wz_ast (σ' := (up (us σ 206 (cpy k_ (σ 212) (σ 206))) 206 k_ (σ 212 k_))) hx hb hK hW hS 206 k_ (by decide) e_206 (by omega) (by omega) (by decide) p_206 dX12_takeBack_19 (fun H locs hW hS => ?_)
        refine lv_iinc (v := iI (((k_ : Nat) : Int) + 1)) (lv' := [(1, .int (iI (((k_ : Nat) : Int) + 1))), (0, .ref (B + 202))]) hx hb dX12_takeBack_20 hl (k := 0) rfl (iI_add _ _) (by decide) rfl (fun ls hl => ?_)
        refine lv_goto (tgt := 2) hx hb dX12_takeBack_23 (by decide) ?_
        exact ih2 (k_ + 1) _ _ _ (by omega) (by omega) (by rw [← up_cpy]; exact hW) hS (lv_sub hl [0, 1] rfl)
  exact L2 _ 0 _ _ _ (Nat.lt_succ_self _) (by omega) (by rw [us_cpy0]; exact hW) hS (lv_sub hl [0, 1] rfl)

set_option maxRecDepth 100000 in
set_option maxHeartbeats 4000000 in
theorem c_X12_brokenAll (l : Launch) (D : va_G) (cy : Nat → ClassId) (B : Nat) (σ : Sg)  (hok : σ 206 4 = 0 ∨ okV (σ 206)) : CI l yX12_brokenAll cX12_brokenAll 3 (some .int) 0 0 D cy B [.ref (B + 202)] σ (brk (σ 206)) (σ) := by
  refine CI_of (ty := .int) (by decide) (rfl) (Nat.le_of_ble_eq_true rfl) ?_
  intro p e R s m args below meth c Q hx hb hml hown hts hK hRf hRl hW hret ls hl
  have hown : s.vm.findClass "LovePartsModel" = some m.cls := hown
  have hS : va_S (AB B) s.heap s.heap [] := va_S.rf
  have hl : lv_has ls 3 [(0, .ref (B + 202))] := hl
  have o4 : 0 ≤ σ 206 4 ∧ σ 206 4 ≤ 4 := by rcases hok with h | h; (· omega); (· exact ⟨by have := h.1; omega, h.1.2⟩)
  refine zi_con hx hb dX12_brokenAll_0 ?_
  refine lv_istore_n (lv' := [(1, .int (iI (0))), (0, .ref (B + 202))]) hx hb dX12_brokenAll_1 rfl hl (by decide) rfl (fun ls hl => ?_)
  refine zi_con hx hb dX12_brokenAll_2 ?_
  refine lv_istore_n (lv' := [(2, .int (iI (0))), (1, .int (iI (0))), (0, .ref (B + 202))]) hx hb dX12_brokenAll_3 rfl hl (by decide) rfl (fun ls hl => ?_)
  have L4 : ∀ (n4 : Nat) (k_ : Nat) (H : Heap) (locs : List Loc) (ls : Array Slot), 4 - k_ < n4 → ((k_ : Int) ≤ σ 206 4) → wd D cy B σ H → va_S (AB B) s.heap H locs → lv_has ls 3 [(2, .int (iI (((k_ : Nat) : Int)))), (1, .int (iI (sm (fun k => σ 206 (40 + k)) k_))), (0, .ref (B + 202))] → W p l e R s m args below meth c H locs 0 0 Q (F0 m 4 ls []) := by
    intro n4
    induction n4 with
    | zero => intro k_ H locs ls hms; omega
    | succ n4 ih4 =>
      intro k_ H locs ls hms4 hk hW hS hl
      refine lv_iload_n hx hb dX12_brokenAll_4 rfl (lv_at hl 0 rfl) ?_
      refine lv_aload_n hx hb dX12_brokenAll_5 rfl (lv_at hl 2 rfl) ?_
      refine wz_get hx hb hts hown hK hW 202 5 (by decide) e_202 rfl (by decide) inG12 w_820 rfl rfl dX12_brokenAll_6 ?_
      refine zi_con hx hb dX12_brokenAll_9 ?_
      refine wz_ald hx hb hK hW 206 4 (by decide) e_206 (by omega) (by omega) (by decide) dX12_brokenAll_10 ?_
      refine zi_cge (tgt := 32) hx hb dX12_brokenAll_11 (by decide) (by omega) (by omega) (fun c11 => ?_) (fun c11 => ?_)
      · refine lv_iload_n hx hb dX12_brokenAll_32 rfl (lv_at hl 1 rfl) ?_
        exact hret _ _ _ _ _ _ dX12_brokenAll_33 hW hS ⟨by unfold brk; rw [show mn (σ 206) = k_ from by unfold mn; omega], rfl⟩
      · refine lv_iload_n hx hb dX12_brokenAll_14 rfl (lv_at hl 1 rfl) ?_
        refine lv_aload_n hx hb dX12_brokenAll_15 rfl (lv_at hl 2 rfl) ?_
        refine wz_get hx hb hts hown hK hW 202 5 (by decide) e_202 rfl (by decide) inG12 w_820 rfl rfl dX12_brokenAll_16 ?_
        refine zi_bip hx hb dX12_brokenAll_19 (by decide) ?_
        refine lv_iload_n hx hb dX12_brokenAll_21 rfl (lv_at hl 0 rfl) ?_
        refine zi_add hx hb dX12_brokenAll_22 ?_
        refine wz_ald hx hb hK hW 206 (40 + k_) (by decide) e_206 (by omega) (by omega) (by decide) dX12_brokenAll_23 ?_
        refine zi_add hx hb dX12_brokenAll_24 ?_
        refine lv_istore_n (lv' := [(1, .int (iI ((sm (fun k => σ 206 (40 + k)) k_) + (σ 206 (40 + k_))))), (2, .int (iI (((k_ : Nat) : Int)))), (0, .ref (B + 202))]) hx hb dX12_brokenAll_25 rfl hl (by decide) rfl (fun ls hl => ?_)
        refine lv_iinc (v := iI (((k_ : Nat) : Int) + 1)) (lv' := [(2, .int (iI (((k_ : Nat) : Int) + 1))), (1, .int (iI ((sm (fun k => σ 206 (40 + k)) k_) + (σ 206 (40 + k_))))), (0, .ref (B + 202))]) hx hb dX12_brokenAll_26 hl (k := 1) rfl (iI_add _ _) (by decide) rfl (fun ls hl => ?_)
        refine lv_goto (tgt := 4) hx hb dX12_brokenAll_29 (by decide) ?_
        exact ih4 (k_ + 1) _ _ _ (by omega) (by omega) hW hS (lv_sub hl [0, 1, 2] rfl)
  exact L4 _ 0 _ _ _ (Nat.lt_succ_self _) (by omega) hW hS (lv_sub hl [0, 1, 2] rfl)

set_option maxRecDepth 100000 in
set_option maxHeartbeats 4000000 in
theorem c_X12_note (l : Launch) (D : va_G) (cy : Nat → ClassId) (B : Nat) (σ : Sg)  (ha1 : 0 ≤ σ 202 18 ∧ σ 202 18 ≤ 24) : CV l yX12_note cX12_note 2 0 0 D cy B [.ref (B + 202)] σ (nS σ) := by
  refine CV_of (by decide) (Nat.le_of_ble_eq_true rfl) ?_
  intro p e R s m args below meth c Q hx hb hml hown hts hK hRf hRl hW hret ls hl
  have hown : s.vm.findClass "LovePartsModel" = some m.cls := hown
  have hS : va_S (AB B) s.heap s.heap [] := va_S.rf
  have hl : lv_has ls 2 [(0, .ref (B + 202))] := hl
  obtain ⟨a_, ha⟩ : ∃ a : Nat, σ 202 18 = (a : Int) := ⟨(σ 202 18).toNat, by omega⟩
  refine lv_aload_n hx hb dX12_note_0 rfl (lv_at hl 0 rfl) ?_
  refine wz_get hx hb hts hown hK hW 202 18 (by decide) e_202 rfl (by decide) inG12 w_833 rfl rfl dX12_note_1 ?_
  refine zi_bip hx hb dX12_note_4 (by decide) ?_
  have J49 : ∀ (m_ : Nat) (A_ : Nat → Int) (H : Heap) (locs : List Loc) (ls : Array Slot), ((a_ = 24 ∧ A_ = cpy 1104 (fun j => σ 211 (j + 48)) (σ 211) ∧ m_ = 23) ∨ (¬ a_ = 24 ∧ A_ = σ 211 ∧ m_ = a_)) → wd D cy B (us (us σ 211 A_) 202 (uf (σ 202) 18 (m_ : Int))) H → va_S (AB B) s.heap H locs → lv_has ls 2 [(0, .ref (B + 202))] → W p l e R s m args below meth c H locs 0 0 Q (F0 m 49 ls []) := by
    intro m_ A_ H locs ls hA hW hS hl
    have hm : m_ ≤ 23 := by omega
    refine zi_con hx hb dX12_note_49 ?_
    refine lv_istore_n (lv' := [(1, .int (iI (0))), (0, .ref (B + 202))]) hx hb dX12_note_50 rfl hl (by decide) rfl (fun ls hl => ?_)
    have L51 : ∀ (n51 : Nat) (q_ : Nat) (H : Heap) (locs : List Loc) (ls : Array Slot), 48 - q_ < n51 → (q_ ≤ 48) → wd D cy B (us (us (us σ 211 A_) 202 (uf (σ 202) 18 (m_ : Int))) 211 (cpo (48 * m_) q_ (σ 206) ((us (us σ 211 A_) 202 (uf (σ 202) 18 (m_ : Int))) 211))) H → va_S (AB B) s.heap H locs → lv_has ls 2 [(1, .int (iI (((q_ : Nat) : Int)))), (0, .ref (B + 202))] → W p l e R s m args below meth c H locs 0 0 Q (F0 m 51 ls []) := by
      intro n51
      induction n51 with
      | zero => intro q_ H locs ls hms; omega
      | succ n51 ih51 =>
        intro q_ H locs ls hms51 hq hW hS hl
        refine lv_iload_n hx hb dX12_note_51 rfl (lv_at hl 0 rfl) ?_
        refine zi_bip hx hb dX12_note_52 (by decide) ?_
        refine zi_cge (tgt := 83) hx hb dX12_note_54 (by decide) (by omega) (by omega) (fun c54 => ?_) (fun c54 => ?_)
        · have hq8 : q_ = 48 := by omega
          refine lv_aload_n hx hb dX12_note_83 rfl (lv_at hl 1 rfl) ?_
          refine lv_dup hx hb dX12_note_84 rfl ?_
          refine wz_get hx hb hts hown hK hW 202 18 (by decide) e_202 rfl (by decide) inG12 w_833 rfl rfl dX12_note_85 ?_
          refine zi_top (y := ((m_ : Nat) : Int)) (by (first | rfl | (simp [us, uf, nS] <;> omega))) ?_
          refine zi_con hx hb dX12_note_88 ?_
          refine zi_add hx hb dX12_note_89 ?_
          refine wz_put (σ' := (up (us (us (us σ 211 A_) 202 (uf (σ 202) 18 (m_ : Int))) 211 (cpo (48 * m_) q_ (σ 206) ((us (us σ 211 A_) 202 (uf (σ 202) 18 (m_ : Int))) 211))) 202 18 (((m_ : Nat) : Int) + 1))) (ty := .int) hx hb hts hown hK hW hS 202 18 tyX12 (by decide) e_202 rfl (by decide) inG12 tyX12_ok nmX12 w_833 ⟨rfl, rfl, Nat.le_of_ble_eq_true rfl⟩ (by decide +kernel) ⟨rfl, rfl⟩ p_202_18 dX12_note_90 (fun H locs hW hS => ?_)
          exact hret _ _ _ _ _ dX12_note_93 hW hS (by
        have e1 : (σ 202 18).toNat = a_ := by omega
        unfold nS
        rw [e1]
        subst hq8
        rcases hA with ⟨h1, h2, h3⟩ | ⟨h1, h2, h3⟩
        · subst h2; subst h3; subst h1
          funext c
          by_cases c1 : c = 202
          · subst c1
            show uf (uf (σ 202) 18 _) 18 _ = uf (σ 202) 18 _
            rw [uf_uf, if_pos (by omega)]
            rfl
          · by_cases c2 : c = 211
            · subst c2
              rfl
            · simp [us, c1, c2]
        · subst h2; subst h3
          funext c
          by_cases c1 : c = 202
          · subst c1
            show uf (uf (σ 202) 18 _) 18 _ = uf (σ 202) 18 _
            rw [uf_uf, if_neg (by omega), ha]
          · by_cases c2 : c = 211
            · subst c2
              show cpo (48 * m_) 48 (σ 206) (σ 211) = nta m_ (σ 206) (σ 211)
              unfold nta
              rw [if_neg h1, if_neg h1]
            · simp [us, c1, c2])
        · refine lv_aload_n hx hb dX12_note_57 rfl (lv_at hl 1 rfl) ?_
          refine wz_get hx hb hts hown hK hW 202 17 (by decide) e_202 rfl (by decide) inG12 w_832 rfl rfl dX12_note_58 ?_
          refine zi_bip hx hb dX12_note_61 (by decide) ?_
          refine lv_aload_n hx hb dX12_note_63 rfl (lv_at hl 1 rfl) ?_
          refine wz_get hx hb hts hown hK hW 202 18 (by decide) e_202 rfl (by decide) inG12 w_833 rfl rfl dX12_note_64 ?_
          refine zi_top (y := ((m_ : Nat) : Int)) (by (first | rfl | (simp [us, uf, nS] <;> omega))) ?_
          refine zi_mul hx hb dX12_note_67 ?_
          refine lv_iload_n hx hb dX12_note_68 rfl (lv_at hl 0 rfl) ?_
          refine zi_add hx hb dX12_note_69 ?_
          refine lv_aload_n hx hb dX12_note_70 rfl (lv_at hl 1 rfl) ?_
          refine wz_get hx hb hts hown hK hW 202 5 (by decide) e_202 rfl (by decide) inG12 w_820 rfl rfl dX12_note_71 ?_
          refine lv_iload_n hx hb dX12_note_74 rfl (lv_at hl 0 rfl) ?_
          refine wz_ald hx hb hK hW 206 q_ (by decide) e_206 (by omega) (by omega) (by decide) dX12_note_75 ?_
          refine zi_top (y := σ 206 q_) (by (first | rfl | (simp [us, uf, nS] <;> omega))) ?_
          refine wz_ast (σ' := (up (us (us (us σ 211 A_) 202 (uf (σ 202) 18 (m_ : Int))) 211 (cpo (48 * m_) q_ (σ 206) ((us (us σ 211 A_) 202 (uf (σ 202) 18 (m_ : Int))) 211))) 211 ((48 * m_) + q_) (σ 206 q_))) hx hb hK hW hS 211 ((48 * m_) + q_) (by decide) e_211 (by omega) (by omega) (by decide) p_211 dX12_note_76 (fun H locs hW hS => ?_)
          refine lv_iinc (v := iI (((q_ : Nat) : Int) + 1)) (lv' := [(1, .int (iI (((q_ : Nat) : Int) + 1))), (0, .ref (B + 202))]) hx hb dX12_note_77 hl (k := 0) rfl (iI_add _ _) (by decide) rfl (fun ls hl => ?_)
          refine lv_goto (tgt := 51) hx hb dX12_note_80 (by decide) ?_
          exact ih51 (q_ + 1) _ _ _ (by omega) (by omega) (by rw [← up_cpo]; exact hW) hS (lv_sub hl [0, 1] rfl)
    exact L51 _ 0 _ _ _ (Nat.lt_succ_self _) (by omega) (by rw [us_cpo0]; exact hW) hS (lv_sub hl [0, 1] rfl)
  refine zi_cne (tgt := 49) hx hb dX12_note_6 (by decide) (by omega) (by omega) (fun c6 => ?_) (fun c6 => ?_)
  · exact J49 a_ (σ 211) _ _ _ (by first | exact Or.inl ⟨by omega, by rw [hk8], rfl⟩ | exact Or.inr ⟨by omega, rfl, rfl⟩) (by first | (rw [us_id, ← ha, uf_id, us_id]; exact hW) | (rw [ha, show (a_ : Int) - 1 = ((23 : Nat) : Int) from by omega] at hW; exact hW)) hS (lv_sub hl [0] rfl)
  · refine zi_con hx hb dX12_note_9 ?_
    refine lv_istore_n (lv' := [(1, .int (iI (0))), (0, .ref (B + 202))]) hx hb dX12_note_10 rfl hl (by decide) rfl (fun ls hl => ?_)
    have L11 : ∀ (n11 : Nat) (k_ : Nat) (H : Heap) (locs : List Loc) (ls : Array Slot), 1104 - k_ < n11 → (k_ ≤ 1104) → wd D cy B (us σ 211 (cpy k_ (fun j => σ 211 (j + 48)) (σ 211))) H → va_S (AB B) s.heap H locs → lv_has ls 2 [(1, .int (iI (((k_ : Nat) : Int)))), (0, .ref (B + 202))] → W p l e R s m args below meth c H locs 0 0 Q (F0 m 11 ls []) := by
      intro n11
      induction n11 with
      | zero => intro k_ H locs ls hms; omega
      | succ n11 ih11 =>
        intro k_ H locs ls hms11 hk hW hS hl
        refine lv_iload_n hx hb dX12_note_11 rfl (lv_at hl 0 rfl) ?_
        refine zi_sip hx hb dX12_note_12 (by decide) ?_
        refine zi_cge (tgt := 39) hx hb dX12_note_15 (by decide) (by omega) (by omega) (fun c15 => ?_) (fun c15 => ?_)
        · have hk8 : k_ = 1104 := by omega
          refine lv_aload_n hx hb dX12_note_39 rfl (lv_at hl 1 rfl) ?_
          refine lv_dup hx hb dX12_note_40 rfl ?_
          refine wz_get hx hb hts hown hK hW 202 18 (by decide) e_202 rfl (by decide) inG12 w_833 rfl rfl dX12_note_41 ?_
          refine zi_top (y := σ 202 18) (by (first | rfl | (simp [us, uf, nS] <;> omega))) ?_
          refine zi_con hx hb dX12_note_44 ?_
          refine zi_sub hx hb dX12_note_45 ?_
          refine wz_put (σ' := (up (us σ 211 (cpy k_ (fun j => σ 211 (j + 48)) (σ 211))) 202 18 ((σ 202 18) - 1))) (ty := .int) hx hb hts hown hK hW hS 202 18 tyX12 (by decide) e_202 rfl (by decide) inG12 tyX12_ok nmX12 w_833 ⟨rfl, rfl, Nat.le_of_ble_eq_true rfl⟩ (by decide +kernel) ⟨rfl, rfl⟩ p_202_18 dX12_note_46 (fun H locs hW hS => ?_)
          exact J49 23 (cpy k_ (fun j => σ 211 (j + 48)) (σ 211)) _ _ _ (by first | exact Or.inl ⟨by omega, by rw [hk8], rfl⟩ | exact Or.inr ⟨by omega, rfl, rfl⟩) (by first | (rw [us_id, ← ha, uf_id, us_id]; exact hW) | (rw [ha, show (a_ : Int) - 1 = ((23 : Nat) : Int) from by omega] at hW; exact hW)) hS (lv_sub hl [1] rfl)
        · refine lv_aload_n hx hb dX12_note_18 rfl (lv_at hl 1 rfl) ?_
          refine wz_get hx hb hts hown hK hW 202 17 (by decide) e_202 rfl (by decide) inG12 w_832 rfl rfl dX12_note_19 ?_
          refine lv_iload_n hx hb dX12_note_22 rfl (lv_at hl 0 rfl) ?_
          refine lv_aload_n hx hb dX12_note_23 rfl (lv_at hl 1 rfl) ?_
          refine wz_get hx hb hts hown hK hW 202 17 (by decide) e_202 rfl (by decide) inG12 w_832 rfl rfl dX12_note_24 ?_
          refine lv_iload_n hx hb dX12_note_27 rfl (lv_at hl 0 rfl) ?_
          refine zi_bip hx hb dX12_note_28 (by decide) ?_
          refine zi_add hx hb dX12_note_30 ?_
          refine wz_ald hx hb hK hW 211 (k_ + 48) (by decide) e_211 (by omega) (by omega) (by decide) dX12_note_31 ?_
          refine zi_top (y := σ 211 (k_ + 48)) (by (simp [us, cpy]; omega)) ?_
          refine wz_ast (σ' := (up (us σ 211 (cpy k_ (fun j => σ 211 (j + 48)) (σ 211))) 211 k_ (σ 211 (k_ + 48)))) hx hb hK hW hS 211 k_ (by decide) e_211 (by omega) (by omega) (by decide) p_211 dX12_note_32 (fun H locs hW hS => ?_)
          refine lv_iinc (v := iI (((k_ : Nat) : Int) + 1)) (lv' := [(1, .int (iI (((k_ : Nat) : Int) + 1))), (0, .ref (B + 202))]) hx hb dX12_note_33 hl (k := 0) rfl (iI_add _ _) (by decide) rfl (fun ls hl => ?_)
          refine lv_goto (tgt := 11) hx hb dX12_note_36 (by decide) ?_
          exact ih11 (k_ + 1) _ _ _ (by omega) (by omega) (by rw [← up_cpy]; exact hW) hS (lv_sub hl [0, 1] rfl)
    exact L11 _ 0 _ _ _ (Nat.lt_succ_self _) (by omega) (by rw [us_cpy0]; exact hW) hS (lv_sub hl [0, 1] rfl)
