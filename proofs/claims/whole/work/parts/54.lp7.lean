
set_option maxRecDepth 100000 in
set_option maxHeartbeats 4000000 in
theorem c_X6_cut (l : Launch) (D : va_G) (cy : Nat → ClassId) (B : Nat) (σ : Sg) (o_ : Nat) (a_ : Nat) (hR : isR o_) (hok : okV (σ o_)) (ha : a_ = 9 ∨ a_ = 10) (hw : ∀ k : Nat, (k : Int) < σ o_ 4 → 1 ≤ σ a_ k ∧ σ a_ k ≤ 99) : CV l yX6_cut cX6_cut 8 1 23 D cy B [.ref (B + o_), .ref (B + a_), .ref (B + 10)] σ (us σ 10 (cpy (mn (σ o_)) (ct (σ o_ 0) (σ a_) (mn (σ o_))) (σ 10))) := by
  refine CV_of (by decide) (Nat.le_of_ble_eq_true rfl) ?_
  intro p e R s m args below meth c Q hx hb hml hown hts hK hRf hRl hW hret ls hl
  have hown : s.vm.findClass "LoveParts$Realm" = some m.cls := hown
  have hS : va_S (AB B) s.heap s.heap [] := va_S.rf
  have hl : lv_has ls 8 [(0, .ref (B + o_)), (1, .ref (B + a_)), (2, .ref (B + 10))] := hl
  obtain ⟨o4, o0, o1, o2, o3, o5, o6, o7, oH⟩ := id hok
  have hne10 : o_ ≠ 10 := by rcases hR with (h | h) | ⟨i, _, h⟩ <;> omega
  refine zi_con hx hb dX6_cut_0 ?_
  refine lv_istore_n (lv' := [(3, .int (iI (0))), (0, .ref (B + o_)), (1, .ref (B + a_)), (2, .ref (B + 10))]) hx hb dX6_cut_1 rfl hl (by decide) rfl (fun ls hl => ?_)
  refine zi_con hx hb dX6_cut_2 ?_
  refine lv_istore (lv' := [(4, .int (iI (0))), (3, .int (iI (0))), (0, .ref (B + o_)), (1, .ref (B + a_)), (2, .ref (B + 10))]) hx hb dX6_cut_3 hl (by decide) rfl (fun ls hl => ?_)
  have L5 : ∀ (n5 : Nat) (i_ : Nat) (H : Heap) (locs : List Loc) (ls : Array Slot), 4 - i_ < n5 → ((i_ : Int) ≤ σ o_ 4) → wd D cy B σ H → va_S (AB B) s.heap H locs → lv_has ls 8 [(4, .int (iI (((i_ : Nat) : Int)))), (3, .int (iI (sm (σ a_) i_))), (0, .ref (B + o_)), (1, .ref (B + a_)), (2, .ref (B + 10))] → W p l e R s m args below meth c H locs 0 0 Q (F0 m 5 ls []) := by
    intro n5
    induction n5 with
    | zero => intro i_ H locs ls hms; omega
    | succ n5 ih5 =>
      intro i_ H locs ls hms5 hi hW hS hl
      have hsb := sm_bd (g := σ a_) (n := i_) (a := 1) (b := 99) (fun k hk => hw k (by omega))
      refine lv_iload hx hb dX6_cut_5 (lv_at hl 0 rfl) ?_
      refine lv_aload_n hx hb dX6_cut_7 rfl (lv_at hl 2 rfl) ?_
      refine wz_get hx hb hts hown hK hW o_ 1 (lt_R hR) (e_R hR) rfl (by decide) inG6 w_247 rfl rfl dX6_cut_8 ?_
      refine zi_cge (tgt := 27) hx hb dX6_cut_11 (by decide) (by omega) (by omega) (fun c11 => ?_) (fun c11 => ?_)
      · have hi2 : i_ = mn (σ o_) := by unfold mn; omega
        have hfg := fg_lt (σ a_) (n := i_) (by omega)
        refine lv_aload_n hx hb dX6_cut_27 rfl (lv_at hl 3 rfl) ?_
        refine lv_aload_n hx hb dX6_cut_28 rfl (lv_at hl 2 rfl) ?_
        refine wz_get hx hb hts hown hK hW o_ 1 (lt_R hR) (e_R hR) rfl (by decide) inG6 w_247 rfl rfl dX6_cut_29 ?_
        refine zi_top (y := ((i_ : Nat) : Int)) (by omega) ?_
        refine k_sni (fr := 1) (lo := 23) (r := ((fg (σ a_) i_ : Nat) : Int)) (As := [.ref (B + a_), .int (iI (((i_ : Nat) : Int)))]) (rest := []) hx hb hml hown hts hK hRf hRl hW hS (c_X11_firstGreatest l D cy B σ a_ i_ (show a_ = 9 ∨ a_ = 10 from (by first | assumption | omega | (simp only [tpL_25, List.length_cons, List.length_nil]; omega))) (show 1 ≤ i_ ∧ i_ ≤ 4 from (by first | assumption | omega | (simp only [tpL_25, List.length_cons, List.length_nil]; omega))) (show ∀ k, k < i_ → -2147483648 ≤ σ a_ k ∧ σ a_ k < 2147483648 from (fun k hk => (by have := hw k (by omega); omega)))) vX11_firstGreatest w_551 (host := "LoveParts") (by decide) ⟨Nat.le_of_ble_eq_true rfl, Nat.le_of_ble_eq_true rfl⟩ hl.1 rfl (Nat.le_of_ble_eq_true rfl) ⟨Nat.zero_le _, Nat.zero_le _⟩ dX6_cut_32 (fun H locs hW hS => ?_)
        refine lv_istore (lv' := [(4, .int (iI (((fg (σ a_) i_ : Nat) : Int)))), (3, .int (iI (sm (σ a_) i_))), (0, .ref (B + o_)), (1, .ref (B + a_)), (2, .ref (B + 10))]) hx hb dX6_cut_35 hl (by decide) rfl (fun ls hl => ?_)
        refine lv_aload_n hx hb dX6_cut_37 rfl (lv_at hl 2 rfl) ?_
        refine wz_get hx hb hts hown hK hW o_ 2 (lt_R hR) (e_R hR) rfl (by decide) inG6 w_250 rfl rfl dX6_cut_38 ?_
        refine lv_istore (lv' := [(5, .int (iI (σ o_ 0))), (4, .int (iI (((fg (σ a_) i_ : Nat) : Int)))), (3, .int (iI (sm (σ a_) i_))), (0, .ref (B + o_)), (1, .ref (B + a_)), (2, .ref (B + 10))]) hx hb dX6_cut_41 hl (by decide) rfl (fun ls hl => ?_)
        refine zi_con hx hb dX6_cut_43 ?_
        refine lv_istore (lv' := [(6, .int (iI (0))), (5, .int (iI (σ o_ 0))), (4, .int (iI (((fg (σ a_) i_ : Nat) : Int)))), (3, .int (iI (sm (σ a_) i_))), (0, .ref (B + o_)), (1, .ref (B + a_)), (2, .ref (B + 10))]) hx hb dX6_cut_44 hl (by decide) rfl (fun ls hl => ?_)
        have L46 : ∀ (n46 : Nat) (j_ : Nat) (H : Heap) (locs : List Loc) (ls : Array Slot), 4 - j_ < n46 → ((j_ : Int) ≤ σ o_ 4) → wd D cy B (us σ 10 (cpy j_ (fun k => σ o_ 0 * σ a_ k / sm (σ a_) i_) (σ 10))) H → va_S (AB B) s.heap H locs → lv_has ls 8 [(6, .int (iI (((j_ : Nat) : Int)))), (5, .int (iI (σ o_ 0 - sm (fun k => σ o_ 0 * σ a_ k / sm (σ a_) i_) j_))), (4, .int (iI (((fg (σ a_) i_ : Nat) : Int)))), (3, .int (iI (sm (σ a_) i_))), (0, .ref (B + o_)), (1, .ref (B + a_)), (2, .ref (B + 10))] → W p l e R s m args below meth c H locs 0 0 Q (F0 m 46 ls []) := by
          intro n46
          induction n46 with
          | zero => intro j_ H locs ls hms; omega
          | succ n46 ih46 =>
            intro j_ H locs ls hms46 hj hW hS hl
            refine lv_iload hx hb dX6_cut_46 (lv_at hl 0 rfl) ?_
            refine lv_aload_n hx hb dX6_cut_48 rfl (lv_at hl 4 rfl) ?_
            refine wz_get hx hb hts hown hK hW o_ 1 (lt_R hR) (e_R hR) rfl (by decide) inG6 w_247 rfl rfl dX6_cut_49 ?_
            refine zi_top (y := σ o_ 4) (by rw [us_ne _ _ hne10]) ?_
            refine zi_cge (tgt := 95) hx hb dX6_cut_52 (by decide) (by omega) (by omega) (fun c52 => ?_) (fun c52 => ?_)
            · refine lv_aload_n hx hb dX6_cut_95 rfl (lv_at hl 6 rfl) ?_
              refine lv_iload hx hb dX6_cut_96 (lv_at hl 2 rfl) ?_
              refine lv_dup2_11 hx hb dX6_cut_98 rfl rfl ?_
              refine wz_ald hx hb hK hW 10 (fg (σ a_) i_) (by decide) e_10 (by omega) (by omega) (by decide) dX6_cut_99 ?_
              refine zi_top (y := (if fg (σ a_) i_ < i_ then σ o_ 0 * σ a_ (fg (σ a_) i_) / sm (σ a_) i_ else σ 10 (fg (σ a_) i_))) (by (have hjj : j_ = i_ := (by omega); simp [us, cpy, hjj])) ?_
              refine lv_iload hx hb dX6_cut_100 (lv_at hl 1 rfl) ?_
              refine zi_add hx hb dX6_cut_102 ?_
              refine wz_ast (σ' := (up (us σ 10 (cpy j_ (fun k => σ o_ 0 * σ a_ k / sm (σ a_) i_) (σ 10))) 10 (fg (σ a_) i_) ((if fg (σ a_) i_ < i_ then σ o_ 0 * σ a_ (fg (σ a_) i_) / sm (σ a_) i_ else σ 10 (fg (σ a_) i_)) + (σ o_ 0 - sm (fun k => σ o_ 0 * σ a_ k / sm (σ a_) i_) j_)))) hx hb hK hW hS 10 (fg (σ a_) i_) (by decide) e_10 (by omega) (by omega) (by decide) p_10 dX6_cut_103 (fun H locs hW hS => ?_)
              exact hret _ _ _ _ _ dX6_cut_104 hW hS (by unfold up; rw [us_us, us_eq]; congr 1; funext k; unfold uf cpy ct; rw [← hi2]; have hjj : j_ = i_ := (by omega); subst hjj; by_cases hk : k = fg (σ a_) j_ <;> by_cases hk2 : k < j_ <;> simp only [hk, hk2, if_true, if_false] <;> first | rfl | omega | (simp_all; done))
            · have hwj := hw j_ (by omega)
              have hm1 := Int.mul_le_mul o0.2 hwj.2 (by omega) (by omega)
              have hm2 := Int.mul_nonneg (a := σ o_ 0) (b := σ a_ j_) (by omega) (by omega)
              refine lv_iload_n hx hb dX6_cut_55 rfl (lv_at hl 3 rfl) ?_
              refine zi_le (tgt := 73) hx hb dX6_cut_56 (by decide) (by omega) (fun c56 => ?_) (fun c56 => ?_)
              · exact absurd trivial (by omega)
              · refine lv_aload_n hx hb dX6_cut_59 rfl (lv_at hl 4 rfl) ?_
                refine wz_get hx hb hts hown hK hW o_ 2 (lt_R hR) (e_R hR) rfl (by decide) inG6 w_250 rfl rfl dX6_cut_60 ?_
                refine zi_top (y := σ o_ 0) (by rw [us_ne _ _ hne10]) ?_
                refine lv_aload_n hx hb dX6_cut_63 rfl (lv_at hl 5 rfl) ?_
                refine lv_iload hx hb dX6_cut_64 (lv_at hl 0 rfl) ?_
                refine wz_ald hx hb hK hW a_ j_ (by omega) (e_4a ha) (by omega) (by omega) (by decide) dX6_cut_66 ?_
                refine zi_top (y := σ a_ j_) (by rcases ha with rfl | rfl <;> simp [us, cpy]) ?_
                refine zi_mul hx hb dX6_cut_67 ?_
                refine lv_iload_n hx hb dX6_cut_68 rfl (lv_at hl 3 rfl) ?_
                refine zi_div hx hb dX6_cut_69 (by omega) (by omega) ?_
                refine lv_goto (tgt := 74) hx hb dX6_cut_70 (by decide) ?_
                refine lv_istore (lv' := [(7, .int (iI (((σ o_ 0) * (σ a_ j_)) / (sm (σ a_) i_)))), (6, .int (iI (((j_ : Nat) : Int)))), (5, .int (iI (σ o_ 0 - sm (fun k => σ o_ 0 * σ a_ k / sm (σ a_) i_) j_))), (4, .int (iI (((fg (σ a_) i_ : Nat) : Int)))), (3, .int (iI (sm (σ a_) i_))), (0, .ref (B + o_)), (1, .ref (B + a_)), (2, .ref (B + 10))]) hx hb dX6_cut_74 hl (by decide) rfl (fun ls hl => ?_)
                refine lv_iload hx hb dX6_cut_76 (lv_at hl 2 rfl) ?_
                refine lv_iload hx hb dX6_cut_78 (lv_at hl 0 rfl) ?_
                refine zi_sub hx hb dX6_cut_80 ?_
                refine lv_istore (lv' := [(5, .int (iI ((σ o_ 0 - sm (fun k => σ o_ 0 * σ a_ k / sm (σ a_) i_) j_) - (((σ o_ 0) * (σ a_ j_)) / (sm (σ a_) i_))))), (7, .int (iI (((σ o_ 0) * (σ a_ j_)) / (sm (σ a_) i_)))), (6, .int (iI (((j_ : Nat) : Int)))), (4, .int (iI (((fg (σ a_) i_ : Nat) : Int)))), (3, .int (iI (sm (σ a_) i_))), (0, .ref (B + o_)), (1, .ref (B + a_)), (2, .ref (B + 10))]) hx hb dX6_cut_81 hl (by decide) rfl (fun ls hl => ?_)
                refine lv_aload_n hx hb dX6_cut_83 rfl (lv_at hl 7 rfl) ?_
                refine lv_iload hx hb dX6_cut_84 (lv_at hl 2 rfl) ?_
                refine lv_iload hx hb dX6_cut_86 (lv_at hl 1 rfl) ?_
                refine wz_ast (σ' := (up (us σ 10 (cpy j_ (fun k => σ o_ 0 * σ a_ k / sm (σ a_) i_) (σ 10))) 10 j_ (((σ o_ 0) * (σ a_ j_)) / (sm (σ a_) i_)))) hx hb hK hW hS 10 j_ (by decide) e_10 (by omega) (by omega) (by decide) p_10 dX6_cut_88 (fun H locs hW hS => ?_)
                refine lv_iinc (v := iI (((j_ : Nat) : Int) + 1)) (lv' := [(6, .int (iI (((j_ : Nat) : Int) + 1))), (5, .int (iI ((σ o_ 0 - sm (fun k => σ o_ 0 * σ a_ k / sm (σ a_) i_) j_) - (((σ o_ 0) * (σ a_ j_)) / (sm (σ a_) i_))))), (7, .int (iI (((σ o_ 0) * (σ a_ j_)) / (sm (σ a_) i_)))), (4, .int (iI (((fg (σ a_) i_ : Nat) : Int)))), (3, .int (iI (sm (σ a_) i_))), (0, .ref (B + o_)), (1, .ref (B + a_)), (2, .ref (B + 10))]) hx hb dX6_cut_89 hl (k := 2) rfl (iI_add _ _) (by decide) rfl (fun ls hl => ?_)
                refine lv_goto (tgt := 46) hx hb dX6_cut_92 (by decide) ?_
                rw [show (σ o_ 0 - sm (fun k => σ o_ 0 * σ a_ k / sm (σ a_) i_) j_ - σ o_ 0 * σ a_ j_ / sm (σ a_) i_) = (σ o_ 0 - sm (fun k => σ o_ 0 * σ a_ k / sm (σ a_) i_) (j_ + 1)) from by simp only [sm]; omega] at hl
                exact ih46 (j_ + 1) _ _ _ (by omega) (by omega) (by rw [← up_cpy]; exact hW) hS (lv_sub hl [0, 1, 3, 4, 5, 6, 7] rfl)
        rw [show σ o_ 0 = σ o_ 0 - sm (fun k => σ o_ 0 * σ a_ k / sm (σ a_) i_) 0 from by simp only [sm]; omega] at hl
        exact L46 _ 0 _ _ _ (Nat.lt_succ_self _) (by omega) (by rw [us_cpy0]; exact hW) hS (lv_sub hl [0, 1, 2, 3, 4, 5, 6] rfl)
      · have hwi := hw i_ (by omega)
        refine lv_iload_n hx hb dX6_cut_14 rfl (lv_at hl 1 rfl) ?_
        refine lv_aload_n hx hb dX6_cut_15 rfl (lv_at hl 3 rfl) ?_
        refine lv_iload hx hb dX6_cut_16 (lv_at hl 0 rfl) ?_
        refine wz_ald hx hb hK hW a_ i_ (by omega) (e_4a ha) (by omega) (by omega) (by decide) dX6_cut_18 ?_
        refine zi_add hx hb dX6_cut_19 ?_
        refine lv_istore_n (lv' := [(3, .int (iI ((sm (σ a_) i_) + (σ a_ i_)))), (4, .int (iI (((i_ : Nat) : Int)))), (0, .ref (B + o_)), (1, .ref (B + a_)), (2, .ref (B + 10))]) hx hb dX6_cut_20 rfl hl (by decide) rfl (fun ls hl => ?_)
        refine lv_iinc (v := iI (((i_ : Nat) : Int) + 1)) (lv' := [(4, .int (iI (((i_ : Nat) : Int) + 1))), (3, .int (iI ((sm (σ a_) i_) + (σ a_ i_)))), (0, .ref (B + o_)), (1, .ref (B + a_)), (2, .ref (B + 10))]) hx hb dX6_cut_21 hl (k := 1) rfl (iI_add _ _) (by decide) rfl (fun ls hl => ?_)
        refine lv_goto (tgt := 5) hx hb dX6_cut_24 (by decide) ?_
        exact ih5 (i_ + 1) _ _ _ (by omega) (by omega) hW hS (lv_sub hl [0, 1, 2, 3, 4] rfl)
  exact L5 _ 0 _ _ _ (Nat.lt_succ_self _) (by omega) hW hS (lv_sub hl [0, 1, 2, 3, 4] rfl)
