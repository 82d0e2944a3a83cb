
set_option maxRecDepth 100000 in
set_option maxHeartbeats 4000000 in
theorem c_X12_findShares (l : Launch) (D : va_G) (cy : Nat → ClassId) (B : Nat) (σ : Sg) (b_ : Int) (hok : okV (σ 206)) (hb2 : 0 ≤ b_ ∧ b_ ≤ 3) : CV l yX12_findShares cX12_findShares 6 3 68 D cy B [.ref (B + 202), .int (iI (b_))] σ (us σ 210 (cpy (mn (σ 206)) (shr (σ 206) b_) (σ 210))) := by
  refine CV_of (by decide) (Nat.le_of_ble_eq_true rfl) ?_
  intro p e R s m args below meth c Q hx hb hml hown hts hK hRf hRl hW hret ls hl
  have hown : s.vm.findClass "LovePartsModel" = some m.cls := hown
  have hS : va_S (AB B) s.heap s.heap [] := va_S.rf
  have hl : lv_has ls 6 [(0, .ref (B + 202)), (1, .int (iI (b_)))] := hl
  obtain ⟨o4, o0, o1, o2, o3, o5, o6, o7, oH⟩ := id hok
  refine zi_con hx hb dX12_findShares_0 ?_
  refine lv_istore_n (lv' := [(2, .int (iI (0))), (0, .ref (B + 202)), (1, .int (iI (b_)))]) hx hb dX12_findShares_1 rfl hl (by decide) rfl (fun ls hl => ?_)
  refine zi_con hx hb dX12_findShares_2 ?_
  refine lv_istore_n (lv' := [(3, .int (iI (0))), (2, .int (iI (0))), (0, .ref (B + 202)), (1, .int (iI (b_)))]) hx hb dX12_findShares_3 rfl hl (by decide) rfl (fun ls hl => ?_)
  refine zi_con hx hb dX12_findShares_4 ?_
  refine lv_istore (lv' := [(4, .int (iI (0))), (3, .int (iI (0))), (2, .int (iI (0))), (0, .ref (B + 202)), (1, .int (iI (b_)))]) hx hb dX12_findShares_5 hl (by decide) rfl (fun ls hl => ?_)
  have L7 : ∀ (n7 : Nat) (i_ : Nat) (H : Heap) (locs : List Loc) (ls : Array Slot), 4 - i_ < n7 → ((i_ : Int) ≤ σ 206 4) → wd D cy B σ H → va_S (AB B) s.heap H locs → lv_has ls 6 [(4, .int (iI (((i_ : Nat) : Int)))), (3, .int (iI (((fg (wt (σ 206) b_) i_ : Nat) : Int)))), (2, .int (iI (sm (wt (σ 206) b_) i_))), (0, .ref (B + 202)), (1, .int (iI (b_)))] → W p l e R s m args below meth c H locs 0 0 Q (F0 m 7 ls []) := by
    intro n7
    induction n7 with
    | zero => intro i_ H locs ls hms; omega
    | succ n7 ih7 =>
      intro i_ H locs ls hms7 hi hW hS hl
      have hfg := fg_lt' (wt (σ 206) b_) i_
      have hsb := smwt_bd hok b_ hi
      refine lv_iload hx hb dX12_findShares_7 (lv_at hl 0 rfl) ?_
      refine lv_aload_n hx hb dX12_findShares_9 rfl (lv_at hl 3 rfl) ?_
      refine wz_get hx hb hts hown hK hW 202 5 (by decide) e_202 rfl (by decide) inG12 w_820 rfl rfl dX12_findShares_10 ?_
      refine zi_con hx hb dX12_findShares_13 ?_
      refine wz_ald hx hb hK hW 206 4 (by decide) e_206 (by omega) (by omega) (by decide) dX12_findShares_14 ?_
      refine zi_cge (tgt := 57) hx hb dX12_findShares_15 (by decide) (by omega) (by omega) (fun c15 => ?_) (fun c15 => ?_)
      · have hi2 : i_ = mn (σ 206) := by unfold mn; omega
        refine lv_aload_n hx hb dX12_findShares_57 rfl (lv_at hl 3 rfl) ?_
        refine wz_get hx hb hts hown hK hW 202 5 (by decide) e_202 rfl (by decide) inG12 w_820 rfl rfl dX12_findShares_58 ?_
        refine zi_con hx hb dX12_findShares_61 ?_
        refine wz_ald hx hb hK hW 206 0 (by decide) e_206 (by omega) (by omega) (by decide) dX12_findShares_62 ?_
        refine lv_istore (lv' := [(4, .int (iI (σ 206 0))), (3, .int (iI (((fg (wt (σ 206) b_) i_ : Nat) : Int)))), (2, .int (iI (sm (wt (σ 206) b_) i_))), (0, .ref (B + 202)), (1, .int (iI (b_)))]) hx hb dX12_findShares_63 hl (by decide) rfl (fun ls hl => ?_)
        refine zi_con hx hb dX12_findShares_65 ?_
        refine lv_istore (lv' := [(5, .int (iI (0))), (4, .int (iI (σ 206 0))), (3, .int (iI (((fg (wt (σ 206) b_) i_ : Nat) : Int)))), (2, .int (iI (sm (wt (σ 206) b_) i_))), (0, .ref (B + 202)), (1, .int (iI (b_)))]) hx hb dX12_findShares_66 hl (by decide) rfl (fun ls hl => ?_)
        have L68 : ∀ (n68 : Nat) (j_ : Nat) (H : Heap) (locs : List Loc) (ls : Array Slot), 4 - j_ < n68 → ((j_ : Int) ≤ σ 206 4) → wd D cy B (us σ 210 (cpy j_ (fun k => σ 206 0 * wt (σ 206) b_ k / sm (wt (σ 206) b_) i_) (σ 210))) H → va_S (AB B) s.heap H locs → lv_has ls 6 [(5, .int (iI (((j_ : Nat) : Int)))), (4, .int (iI (σ 206 0 - sm (fun k => σ 206 0 * wt (σ 206) b_ k / sm (wt (σ 206) b_) i_) j_))), (3, .int (iI (((fg (wt (σ 206) b_) i_ : Nat) : Int)))), (2, .int (iI (sm (wt (σ 206) b_) i_))), (0, .ref (B + 202)), (1, .int (iI (b_)))] → W p l e R s m args below meth c H locs 0 0 Q (F0 m 68 ls []) := by
          intro n68
          induction n68 with
          | zero => intro j_ H locs ls hms; omega
          | succ n68 ih68 =>
            intro j_ H locs ls hms68 hj hW hS hl
            refine lv_iload hx hb dX12_findShares_68 (lv_at hl 0 rfl) ?_
            refine lv_aload_n hx hb dX12_findShares_70 rfl (lv_at hl 4 rfl) ?_
            refine wz_get hx hb hts hown hK hW 202 5 (by decide) e_202 rfl (by decide) inG12 w_820 rfl rfl dX12_findShares_71 ?_
            refine zi_con hx hb dX12_findShares_74 ?_
            refine wz_ald hx hb hK hW 206 4 (by decide) e_206 (by omega) (by omega) (by decide) dX12_findShares_75 ?_
            refine zi_top (y := σ 206 4) (by simp [us]) ?_
            refine zi_cge (tgt := 120) hx hb dX12_findShares_76 (by decide) (by omega) (by omega) (fun c76 => ?_) (fun c76 => ?_)
            · refine lv_aload_n hx hb dX12_findShares_120 rfl (lv_at hl 4 rfl) ?_
              refine wz_get hx hb hts hown hK hW 202 16 (by decide) e_202 rfl (by decide) inG12 w_831 rfl rfl dX12_findShares_121 ?_
              refine lv_iload_n hx hb dX12_findShares_124 rfl (lv_at hl 2 rfl) ?_
              refine lv_dup2_11 hx hb dX12_findShares_125 rfl rfl ?_
              refine wz_ald hx hb hK hW 210 (fg (wt (σ 206) b_) i_) (by decide) e_210 (by omega) (by omega) (by decide) dX12_findShares_126 ?_
              refine zi_top (y := (if fg (wt (σ 206) b_) i_ < i_ then σ 206 0 * wt (σ 206) b_ (fg (wt (σ 206) b_) i_) / sm (wt (σ 206) b_) i_ else σ 210 (fg (wt (σ 206) b_) i_))) (by (have hjj : j_ = i_ := (by omega); simp [us, cpy, hjj])) ?_
              refine lv_iload hx hb dX12_findShares_127 (lv_at hl 1 rfl) ?_
              refine zi_add hx hb dX12_findShares_129 ?_
              refine wz_ast (σ' := (up (us σ 210 (cpy j_ (fun k => σ 206 0 * wt (σ 206) b_ k / sm (wt (σ 206) b_) i_) (σ 210))) 210 (fg (wt (σ 206) b_) i_) ((if fg (wt (σ 206) b_) i_ < i_ then σ 206 0 * wt (σ 206) b_ (fg (wt (σ 206) b_) i_) / sm (wt (σ 206) b_) i_ else σ 210 (fg (wt (σ 206) b_) i_)) + (σ 206 0 - sm (fun k => σ 206 0 * wt (σ 206) b_ k / sm (wt (σ 206) b_) i_) j_)))) hx hb hK hW hS 210 (fg (wt (σ 206) b_) i_) (by decide) e_210 (by omega) (by omega) (by decide) p_210 dX12_findShares_130 (fun H locs hW hS => ?_)
              exact hret _ _ _ _ _ dX12_findShares_131 hW hS (by unfold up; rw [us_us, us_eq]; congr 1; funext k; unfold uf cpy shr ct; rw [← hi2]; have hjj : j_ = i_ := (by omega); subst hjj; by_cases hk : k = fg (wt (σ 206) b_) j_ <;> by_cases hk2 : k < j_ <;> simp only [hk, hk2, if_true, if_false] <;> first | rfl | omega | (simp_all; done))
            · refine lv_aload_n hx hb dX12_findShares_79 rfl (lv_at hl 4 rfl) ?_
              refine wz_get hx hb hts hown hK hW 202 16 (by decide) e_202 rfl (by decide) inG12 w_831 rfl rfl dX12_findShares_80 ?_
              refine lv_iload hx hb dX12_findShares_83 (lv_at hl 0 rfl) ?_
              refine lv_aload_n hx hb dX12_findShares_85 rfl (lv_at hl 4 rfl) ?_
              refine wz_get hx hb hts hown hK hW 202 5 (by decide) e_202 rfl (by decide) inG12 w_820 rfl rfl dX12_findShares_86 ?_
              refine zi_con hx hb dX12_findShares_89 ?_
              refine wz_ald hx hb hK hW 206 0 (by decide) e_206 (by omega) (by omega) (by decide) dX12_findShares_90 ?_
              refine zi_top (y := σ 206 0) (by (first | rfl | (simp [us, uf, nS] <;> omega))) ?_
              refine lv_aload_n hx hb dX12_findShares_91 rfl (lv_at hl 4 rfl) ?_
              refine lv_iload hx hb dX12_findShares_92 (lv_at hl 0 rfl) ?_
              refine lv_iload_n hx hb dX12_findShares_94 rfl (lv_at hl 5 rfl) ?_
              refine k_vi (fr := 3) (lo := 68) (r := wt (σ 206) b_ j_) (As := [.int (iI (((j_ : Nat) : Int))), .int (iI (b_))]) (rest := [.int (iI (σ 206 0)), .int (iI (((j_ : Nat) : Int))), .ref (B + 210)]) hx hb hml hown hts hK hRf hRl hW hS (c_X12_weightOf l D cy B (us σ 210 (cpy j_ (fun k => σ 206 0 * wt (σ 206) b_ k / sm (wt (σ 206) b_) i_) (σ 210))) j_ b_ (show okV (σ 206) from (by first | assumption | omega)) (show (j_ : Int) < σ 206 4 from (by first | assumption | omega)) (show 0 ≤ b_ ∧ b_ ≤ 3 from (by first | assumption | omega))) vX12_weightOf ⟨w_1016, w_32⟩ w_1014 (by decide) e_202 rfl ⟨Nat.le_of_ble_eq_true rfl, Nat.le_of_ble_eq_true rfl⟩ hl.1 rfl (Nat.le_of_ble_eq_true rfl) ⟨Nat.zero_le _, Nat.zero_le _⟩ dX12_findShares_95 (fun H locs hW hS => ?_)
              refine zi_mul hx hb dX12_findShares_98 ?_
              refine lv_iload_n hx hb dX12_findShares_99 rfl (lv_at hl 3 rfl) ?_
              refine zi_div hx hb dX12_findShares_100 (by (have := mulb3 o0 (wt_bd hok b_ (h := j_) (by omega)); omega)) (by omega) ?_
              refine wz_ast (σ' := (up (us σ 210 (cpy j_ (fun k => σ 206 0 * wt (σ 206) b_ k / sm (wt (σ 206) b_) i_) (σ 210))) 210 j_ (((σ 206 0) * (wt (σ 206) b_ j_)) / (sm (wt (σ 206) b_) i_)))) hx hb hK hW hS 210 j_ (by decide) e_210 (by omega) (by omega) (by decide) p_210 dX12_findShares_101 (fun H locs hW hS => ?_)
              refine lv_iload hx hb dX12_findShares_102 (lv_at hl 1 rfl) ?_
              refine lv_aload_n hx hb dX12_findShares_104 rfl (lv_at hl 4 rfl) ?_
              refine wz_get hx hb hts hown hK hW 202 16 (by decide) e_202 rfl (by decide) inG12 w_831 rfl rfl dX12_findShares_105 ?_
              refine lv_iload hx hb dX12_findShares_108 (lv_at hl 0 rfl) ?_
              refine wz_ald hx hb hK hW 210 j_ (by decide) e_210 (by omega) (by omega) (by decide) dX12_findShares_110 ?_
              refine zi_top (y := ((σ 206 0) * (wt (σ 206) b_ j_)) / (sm (wt (σ 206) b_) i_)) (by (first | rfl | (simp [us, uf, nS] <;> omega))) ?_
              refine zi_sub hx hb dX12_findShares_111 ?_
              refine lv_istore (lv' := [(4, .int (iI ((σ 206 0 - sm (fun k => σ 206 0 * wt (σ 206) b_ k / sm (wt (σ 206) b_) i_) j_) - (((σ 206 0) * (wt (σ 206) b_ j_)) / (sm (wt (σ 206) b_) i_))))), (5, .int (iI (((j_ : Nat) : Int)))), (3, .int (iI (((fg (wt (σ 206) b_) i_ : Nat) : Int)))), (2, .int (iI (sm (wt (σ 206) b_) i_))), (0, .ref (B + 202)), (1, .int (iI (b_)))]) hx hb dX12_findShares_112 hl (by decide) rfl (fun ls hl => ?_)
              refine lv_iinc (v := iI (((j_ : Nat) : Int) + 1)) (lv' := [(5, .int (iI (((j_ : Nat) : Int) + 1))), (4, .int (iI ((σ 206 0 - sm (fun k => σ 206 0 * wt (σ 206) b_ k / sm (wt (σ 206) b_) i_) j_) - (((σ 206 0) * (wt (σ 206) b_ j_)) / (sm (wt (σ 206) b_) i_))))), (3, .int (iI (((fg (wt (σ 206) b_) i_ : Nat) : Int)))), (2, .int (iI (sm (wt (σ 206) b_) i_))), (0, .ref (B + 202)), (1, .int (iI (b_)))]) hx hb dX12_findShares_114 hl (k := 1) rfl (iI_add _ _) (by decide) rfl (fun ls hl => ?_)
              refine lv_goto (tgt := 68) hx hb dX12_findShares_117 (by decide) ?_
              rw [show (σ 206 0 - sm (fun k => σ 206 0 * wt (σ 206) b_ k / sm (wt (σ 206) b_) i_) j_ - σ 206 0 * wt (σ 206) b_ j_ / sm (wt (σ 206) b_) i_) = (σ 206 0 - sm (fun k => σ 206 0 * wt (σ 206) b_ k / sm (wt (σ 206) b_) i_) (j_ + 1)) from by simp only [sm]; omega] at hl
              exact ih68 (j_ + 1) _ _ _ (by omega) (by omega) (by rw [← up_cpy]; exact hW) hS (lv_sub hl [0, 1, 2, 3, 4, 5] rfl)
        rw [show σ 206 0 = σ 206 0 - sm (fun k => σ 206 0 * wt (σ 206) b_ k / sm (wt (σ 206) b_) i_) 0 from by simp only [sm]; omega] at hl
        exact L68 _ 0 _ _ _ (Nat.lt_succ_self _) (by omega) (by rw [us_cpy0]; exact hW) hS (lv_sub hl [0, 1, 2, 3, 4, 5] rfl)
      · have hw1 := wt_bd hok b_ (h := i_) (by omega)
        have hw2 := wt_bd hok b_ (h := fg (wt (σ 206) b_) i_) (by omega)
        refine lv_iload_n hx hb dX12_findShares_18 rfl (lv_at hl 2 rfl) ?_
        refine lv_aload_n hx hb dX12_findShares_19 rfl (lv_at hl 3 rfl) ?_
        refine lv_iload hx hb dX12_findShares_20 (lv_at hl 0 rfl) ?_
        refine lv_iload_n hx hb dX12_findShares_22 rfl (lv_at hl 4 rfl) ?_
        refine k_vi (fr := 3) (lo := 68) (r := wt (σ 206) b_ i_) (As := [.int (iI (((i_ : Nat) : Int))), .int (iI (b_))]) (rest := [.int (iI (sm (wt (σ 206) b_) i_))]) hx hb hml hown hts hK hRf hRl hW hS (c_X12_weightOf l D cy B σ i_ b_ (show okV (σ 206) from (by first | assumption | omega)) (show (i_ : Int) < σ 206 4 from (by first | assumption | omega)) (show 0 ≤ b_ ∧ b_ ≤ 3 from (by first | assumption | omega))) vX12_weightOf ⟨w_1016, w_32⟩ w_1014 (by decide) e_202 rfl ⟨Nat.le_of_ble_eq_true rfl, Nat.le_of_ble_eq_true rfl⟩ hl.1 rfl (Nat.le_of_ble_eq_true rfl) ⟨Nat.zero_le _, Nat.zero_le _⟩ dX12_findShares_23 (fun H locs hW hS => ?_)
        refine zi_add hx hb dX12_findShares_26 ?_
        refine lv_istore_n (lv' := [(2, .int (iI ((sm (wt (σ 206) b_) i_) + (wt (σ 206) b_ i_)))), (4, .int (iI (((i_ : Nat) : Int)))), (3, .int (iI (((fg (wt (σ 206) b_) i_ : Nat) : Int)))), (0, .ref (B + 202)), (1, .int (iI (b_)))]) hx hb dX12_findShares_27 rfl hl (by decide) rfl (fun ls hl => ?_)
        refine lv_aload_n hx hb dX12_findShares_28 rfl (lv_at hl 3 rfl) ?_
        refine lv_iload hx hb dX12_findShares_29 (lv_at hl 1 rfl) ?_
        refine lv_iload_n hx hb dX12_findShares_31 rfl (lv_at hl 4 rfl) ?_
        refine k_vi (fr := 3) (lo := 68) (r := wt (σ 206) b_ i_) (As := [.int (iI (((i_ : Nat) : Int))), .int (iI (b_))]) (rest := []) hx hb hml hown hts hK hRf hRl hW hS (c_X12_weightOf l D cy B σ i_ b_ (show okV (σ 206) from (by first | assumption | omega)) (show (i_ : Int) < σ 206 4 from (by first | assumption | omega)) (show 0 ≤ b_ ∧ b_ ≤ 3 from (by first | assumption | omega))) vX12_weightOf ⟨w_1016, w_32⟩ w_1014 (by decide) e_202 rfl ⟨Nat.le_of_ble_eq_true rfl, Nat.le_of_ble_eq_true rfl⟩ hl.1 rfl (Nat.le_of_ble_eq_true rfl) ⟨Nat.zero_le _, Nat.zero_le _⟩ dX12_findShares_32 (fun H locs hW hS => ?_)
        refine lv_aload_n hx hb dX12_findShares_35 rfl (lv_at hl 3 rfl) ?_
        refine lv_iload_n hx hb dX12_findShares_36 rfl (lv_at hl 2 rfl) ?_
        refine lv_iload_n hx hb dX12_findShares_37 rfl (lv_at hl 4 rfl) ?_
        refine k_vi (fr := 3) (lo := 68) (r := wt (σ 206) b_ (fg (wt (σ 206) b_) i_)) (As := [.int (iI (((fg (wt (σ 206) b_) i_ : Nat) : Int))), .int (iI (b_))]) (rest := [.int (iI (wt (σ 206) b_ i_))]) hx hb hml hown hts hK hRf hRl hW hS (c_X12_weightOf l D cy B σ (fg (wt (σ 206) b_) i_) b_ (show okV (σ 206) from (by first | assumption | omega)) (show ((fg (wt (σ 206) b_) i_) : Int) < σ 206 4 from (by first | assumption | omega)) (show 0 ≤ b_ ∧ b_ ≤ 3 from (by first | assumption | omega))) vX12_weightOf ⟨w_1016, w_32⟩ w_1014 (by decide) e_202 rfl ⟨Nat.le_of_ble_eq_true rfl, Nat.le_of_ble_eq_true rfl⟩ hl.1 rfl (Nat.le_of_ble_eq_true rfl) ⟨Nat.zero_le _, Nat.zero_le _⟩ dX12_findShares_38 (fun H locs hW hS => ?_)
        refine zi_cle (tgt := 49) hx hb dX12_findShares_41 (by decide) (by omega) (by omega) (fun c41 => ?_) (fun c41 => ?_)
        · refine lv_iload_n hx hb dX12_findShares_49 rfl (lv_at hl 2 rfl) ?_
          refine lv_istore_n (lv' := [(3, .int (iI (((fg (wt (σ 206) b_) i_ : Nat) : Int)))), (2, .int (iI ((sm (wt (σ 206) b_) i_) + (wt (σ 206) b_ i_)))), (4, .int (iI (((i_ : Nat) : Int)))), (0, .ref (B + 202)), (1, .int (iI (b_)))]) hx hb dX12_findShares_50 rfl hl (by decide) rfl (fun ls hl => ?_)
          refine lv_iinc (v := iI (((i_ : Nat) : Int) + 1)) (lv' := [(4, .int (iI (((i_ : Nat) : Int) + 1))), (3, .int (iI (((fg (wt (σ 206) b_) i_ : Nat) : Int)))), (2, .int (iI ((sm (wt (σ 206) b_) i_) + (wt (σ 206) b_ i_)))), (0, .ref (B + 202)), (1, .int (iI (b_)))]) hx hb dX12_findShares_51 hl (k := 2) rfl (iI_add _ _) (by decide) rfl (fun ls hl => ?_)
          refine lv_goto (tgt := 7) hx hb dX12_findShares_54 (by decide) ?_
          have e3 : fg (wt (σ 206) b_) (i_ + 1) = (if wt (σ 206) b_ (fg (wt (σ 206) b_) i_) < wt (σ 206) b_ i_ then i_ else fg (wt (σ 206) b_) i_) := rfl
          first | (rw [if_pos (by omega)] at e3) | (rw [if_neg (by omega)] at e3)
          exact ih7 (i_ + 1) _ _ _ (by omega) (by omega) hW hS (lv_sub hl [0, 1, 2, 3, 4] (by rw [e3]; rfl))
        · refine lv_iload hx hb dX12_findShares_44 (lv_at hl 1 rfl) ?_
          refine lv_goto (tgt := 50) hx hb dX12_findShares_46 (by decide) ?_
          refine lv_istore_n (lv' := [(3, .int (iI (((i_ : Nat) : Int)))), (2, .int (iI ((sm (wt (σ 206) b_) i_) + (wt (σ 206) b_ i_)))), (4, .int (iI (((i_ : Nat) : Int)))), (0, .ref (B + 202)), (1, .int (iI (b_)))]) hx hb dX12_findShares_50 rfl hl (by decide) rfl (fun ls hl => ?_)
          refine lv_iinc (v := iI (((i_ : Nat) : Int) + 1)) (lv' := [(4, .int (iI (((i_ : Nat) : Int) + 1))), (3, .int (iI (((i_ : Nat) : Int)))), (2, .int (iI ((sm (wt (σ 206) b_) i_) + (wt (σ 206) b_ i_)))), (0, .ref (B + 202)), (1, .int (iI (b_)))]) hx hb dX12_findShares_51 hl (k := 2) rfl (iI_add _ _) (by decide) rfl (fun ls hl => ?_)
          refine lv_goto (tgt := 7) hx hb dX12_findShares_54 (by decide) ?_
          have e3 : fg (wt (σ 206) b_) (i_ + 1) = (if wt (σ 206) b_ (fg (wt (σ 206) b_) i_) < wt (σ 206) b_ i_ then i_ else fg (wt (σ 206) b_) i_) := rfl
          first | (rw [if_pos (by omega)] at e3) | (rw [if_neg (by omega)] at e3)
          exact ih7 (i_ + 1) _ _ _ (by omega) (by omega) hW hS (lv_sub hl [0, 1, 2, 3, 4] (by rw [e3]; rfl))
  exact L7 _ 0 _ _ _ (Nat.lt_succ_self _) (by omega) hW hS (lv_sub hl [0, 1, 2, 3, 4] rfl)
