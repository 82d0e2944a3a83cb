
set_option maxRecDepth 100000 in
set_option maxHeartbeats 4000000 in
theorem c_X12_isTrue (l : Launch) (D : va_G) (cy : Nat → ClassId) (B : Nat) (σ : Sg) (f_ : Nat → Int) (r_ : Int) (e_ : Nat) (hok : okV f_) (hr : 0 ≤ r_ ∧ r_ ≤ 3) (he : (e_ : Int) < f_ 4) (hF0 : ∀ k : Int, tw (σ 206) k (mn f_) = tw f_ k (mn f_)) (hF4 : σ 206 4 = f_ 4) : CIe l yX12_isTrue cX12_isTrue 7 (some .boolean) 4 93 D cy B [.ref (B + 202), .int (iI (r_)), .int (iI (((e_ : Nat) : Int)))] σ ((if trB f_ r_ e_ 256 = true then 1 else 0)) (fun u => ∃ (g : Nat → Int), u = us (us σ 206 (tw f_ 255 (mn f_))) 210 g) := by
  refine CIe_of (ty := .boolean) (by decide) (nb_ite) (Nat.le_of_ble_eq_true rfl) ?_
  intro p e R s m args below meth c Q hx hb hml hown hts hK hRf hRl hW hret ls hl
  have hown : s.vm.findClass "LovePartsModel" = some m.cls := hown
  have hS : va_S (AB B) s.heap s.heap [] := va_S.rf
  have hl : lv_has ls 7 [(0, .ref (B + 202)), (1, .int (iI (r_))), (2, .int (iI (((e_ : Nat) : Int))))] := hl
  obtain ⟨o4, o0, o1, o2, o3, o5, o6, o7, oH⟩ := id hok
  have hmn : ((mn f_ : Nat) : Int) = f_ 4 := by unfold mn; omega
  refine zi_con hx hb dX12_isTrue_0 ?_
  refine lv_istore_n (lv' := [(3, .int (iI (1))), (0, .ref (B + 202)), (1, .int (iI (r_))), (2, .int (iI (((e_ : Nat) : Int))))]) hx hb dX12_isTrue_1 rfl hl (by decide) rfl (fun ls hl => ?_)
  refine zi_con hx hb dX12_isTrue_2 ?_
  refine lv_istore (lv' := [(4, .int (iI (0))), (3, .int (iI (1))), (0, .ref (B + 202)), (1, .int (iI (r_))), (2, .int (iI (((e_ : Nat) : Int))))]) hx hb dX12_isTrue_3 hl (by decide) rfl (fun ls hl => ?_)
  have L5 : ∀ (n5 : Nat) (k_ : Nat) (F_ : Nat → Int) (g_ : Nat → Int) (H : Heap) (locs : List Loc) (ls : Array Slot), 256 - k_ < n5 → (k_ ≤ 256) → (∀ k : Int, tw F_ k (mn f_) = tw f_ k (mn f_)) → (F_ 4 = f_ 4) → (0 < k_ → F_ = tw f_ ((k_ : Int) - 1) (mn f_)) → wd D cy B (us (us σ 206 F_) 210 g_) H → va_S (AB B) s.heap H locs → lv_has ls 7 [(4, .int (iI (((k_ : Nat) : Int)))), (3, .int (iI (if trB f_ r_ e_ k_ = true then 1 else 0))), (0, .ref (B + 202)), (1, .int (iI (r_))), (2, .int (iI (((e_ : Nat) : Int))))] → W p l e R s m args below meth c H locs 0 0 Q (F0 m 5 ls []) := by
    intro n5
    induction n5 with
    | zero => intro k_ F_ g_ H locs ls hms; omega
    | succ n5 ih5 =>
      intro k_ F_ g_ H locs ls hms5 hk hF hF5 hF6 hW hS hl
      refine lv_iload hx hb dX12_isTrue_5 (lv_at hl 0 rfl) ?_
      refine zi_sip hx hb dX12_isTrue_7 (by decide) ?_
      refine zi_cge (tgt := 113) hx hb dX12_isTrue_10 (by decide) (by omega) (by omega) (fun c10 => ?_) (fun c10 => ?_)
      · have hk7 : k_ = 256 := by omega
        refine lv_iload_n hx hb dX12_isTrue_113 rfl (lv_at hl 1 rfl) ?_
        exact hret _ _ _ _ _ _ dX12_isTrue_114 hW hS ⟨by rw [hk7], ⟨g_, by rw [hF6 (by omega), hk7]; rfl⟩⟩
      · have htw := okV_tw hok (k := ((k_ : Nat) : Int)) (by omega) (n := mn f_) (by omega)
        have hmt : mn (tw f_ ((k_ : Nat) : Int) (mn f_)) = mn f_ := by show ((tw f_ ((k_ : Nat) : Int) (mn f_)) 4).toNat = (f_ 4).toNat; rw [htw.2.1]
        refine lv_iload hx hb dX12_isTrue_13 (lv_at hl 0 rfl) ?_
        refine lv_istore (lv' := [(5, .int (iI (((k_ : Nat) : Int)))), (4, .int (iI (((k_ : Nat) : Int)))), (3, .int (iI (if trB f_ r_ e_ k_ = true then 1 else 0))), (0, .ref (B + 202)), (1, .int (iI (r_))), (2, .int (iI (((e_ : Nat) : Int))))]) hx hb dX12_isTrue_15 hl (by decide) rfl (fun ls hl => ?_)
        refine zi_con hx hb dX12_isTrue_17 ?_
        refine lv_istore (lv' := [(6, .int (iI (0))), (5, .int (iI (((k_ : Nat) : Int)))), (4, .int (iI (((k_ : Nat) : Int)))), (3, .int (iI (if trB f_ r_ e_ k_ = true then 1 else 0))), (0, .ref (B + 202)), (1, .int (iI (r_))), (2, .int (iI (((e_ : Nat) : Int))))]) hx hb dX12_isTrue_18 hl (by decide) rfl (fun ls hl => ?_)
        have L20 : ∀ (n20 : Nat) (n_ : Nat) (H : Heap) (locs : List Loc) (ls : Array Slot), 4 - n_ < n20 → ((n_ : Int) ≤ f_ 4) → wd D cy B (us (us σ 206 (tw F_ ((k_ : Nat) : Int) n_)) 210 g_) H → va_S (AB B) s.heap H locs → lv_has ls 7 [(6, .int (iI (((n_ : Nat) : Int)))), (5, .int (iI (rs ((k_ : Nat) : Int) n_))), (4, .int (iI (((k_ : Nat) : Int)))), (3, .int (iI (if trB f_ r_ e_ k_ = true then 1 else 0))), (0, .ref (B + 202)), (1, .int (iI (r_))), (2, .int (iI (((e_ : Nat) : Int))))] → W p l e R s m args below meth c H locs 0 0 Q (F0 m 20 ls []) := by
          intro n20
          induction n20 with
          | zero => intro n_ H locs ls hms; omega
          | succ n20 ih20 =>
            intro n_ H locs ls hms20 hn hW hS hl
            have hrs := rs_bd (k := ((k_ : Nat) : Int)) (by omega) n_
            have ht4 : (tw F_ ((k_ : Nat) : Int) n_) 4 = f_ 4 := by rw [tw_at _ _ (by omega), if_neg (by omega), if_neg (by omega), hF5]
            refine lv_iload hx hb dX12_isTrue_20 (lv_at hl 0 rfl) ?_
            refine lv_aload_n hx hb dX12_isTrue_22 rfl (lv_at hl 4 rfl) ?_
            refine wz_get hx hb hts hown hK hW 202 5 (by decide) e_202 rfl (by decide) inG12 w_820 rfl rfl dX12_isTrue_23 ?_
            refine zi_con hx hb dX12_isTrue_26 ?_
            refine wz_ald hx hb hK hW 206 4 (by decide) e_206 (by omega) (by omega) (by decide) dX12_isTrue_27 ?_
            refine zi_top (y := f_ 4) (by exact ht4) ?_
            refine zi_cge (tgt := 56) hx hb dX12_isTrue_28 (by decide) (by omega) (by omega) (fun c28 => ?_) (fun c28 => ?_)
            · have hn2 : n_ = mn f_ := by omega
              have hW : wd D cy B (us (us σ 206 (tw f_ ((k_ : Nat) : Int) (mn f_))) 210 g_) H := by rw [hn2, hF] at hW; exact hW
              refine lv_aload_n hx hb dX12_isTrue_56 rfl (lv_at hl 4 rfl) ?_
              refine lv_iload_n hx hb dX12_isTrue_57 rfl (lv_at hl 5 rfl) ?_
              refine k_vv (fr := 4) (lo := 93) (σ' := (us (us (us σ 206 (tw f_ ((k_ : Nat) : Int) (mn f_))) 210 g_) 210 (cpy (mn ((us (us σ 206 (tw f_ ((k_ : Nat) : Int) (mn f_))) 210 g_) 206)) (shr ((us (us σ 206 (tw f_ ((k_ : Nat) : Int) (mn f_))) 210 g_) 206) r_) ((us (us σ 206 (tw f_ ((k_ : Nat) : Int) (mn f_))) 210 g_) 210)))) (As := [.int (iI (r_))]) (rest := []) hx hb hml hown hts hK hRf hRl hW hS (c_X12_findShares l D cy B (us (us σ 206 (tw f_ ((k_ : Nat) : Int) (mn f_))) 210 g_) r_ (show okV ((us (us σ 206 (tw f_ ((k_ : Nat) : Int) (mn f_))) 210 g_) 206) from (by show okV (tw f_ ((k_ : Nat) : Int) (mn f_)); exact htw.1)) (show 0 ≤ r_ ∧ r_ ≤ 3 from (by first | assumption | omega | (simp only [tpL_25, List.length_cons, List.length_nil]; omega)))) vX12_findShares ⟨w_1012, w_31⟩ w_1010 (by decide) e_202 rfl ⟨Nat.le_of_ble_eq_true rfl, Nat.le_of_ble_eq_true rfl⟩ hl.1 rfl (Nat.le_of_ble_eq_true rfl) ⟨Nat.zero_le _, Nat.zero_le _⟩ dX12_isTrue_58 (fun H locs hW hS => ?_)
              have hW : wd D cy B (us (us σ 206 (tw f_ ((k_ : Nat) : Int) (mn f_))) 210 (cpy (mn (tw f_ ((k_ : Nat) : Int) (mn f_))) (shr (tw f_ ((k_ : Nat) : Int) (mn f_)) r_) g_)) H := by rw [us_us] at hW; exact hW
              refine zi_con hx hb dX12_isTrue_61 ?_
              refine lv_istore (lv' := [(6, .int (iI (0))), (5, .int (iI (rs ((k_ : Nat) : Int) n_))), (4, .int (iI (((k_ : Nat) : Int)))), (3, .int (iI (if trB f_ r_ e_ k_ = true then 1 else 0))), (0, .ref (B + 202)), (1, .int (iI (r_))), (2, .int (iI (((e_ : Nat) : Int))))]) hx hb dX12_isTrue_62 hl (by decide) rfl (fun ls hl => ?_)
              have L64 : ∀ (n64 : Nat) (h_ : Nat) (H : Heap) (locs : List Loc) (ls : Array Slot), 4 - h_ < n64 → ((h_ : Int) ≤ f_ 4) → wd D cy B (us (us σ 206 (tw f_ ((k_ : Nat) : Int) (mn f_))) 210 (cpy (mn (tw f_ ((k_ : Nat) : Int) (mn f_))) (shr (tw f_ ((k_ : Nat) : Int) (mn f_)) r_) g_)) H → va_S (AB B) s.heap H locs → lv_has ls 7 [(6, .int (iI (((h_ : Nat) : Int)))), (4, .int (iI (((k_ : Nat) : Int)))), (3, .int (iI (if trI f_ r_ e_ k_ h_ = true then 1 else 0))), (0, .ref (B + 202)), (1, .int (iI (r_))), (2, .int (iI (((e_ : Nat) : Int))))] → W p l e R s m args below meth c H locs 0 0 Q (F0 m 64 ls []) := by
                intro n64
                induction n64 with
                | zero => intro h_ H locs ls hms; omega
                | succ n64 ih64 =>
                  intro h_ H locs ls hms64 hh hW hS hl
                  refine lv_iload hx hb dX12_isTrue_64 (lv_at hl 0 rfl) ?_
                  refine lv_aload_n hx hb dX12_isTrue_66 rfl (lv_at hl 3 rfl) ?_
                  refine wz_get hx hb hts hown hK hW 202 5 (by decide) e_202 rfl (by decide) inG12 w_820 rfl rfl dX12_isTrue_67 ?_
                  refine zi_con hx hb dX12_isTrue_70 ?_
                  refine wz_ald hx hb hK hW 206 4 (by decide) e_206 (by omega) (by omega) (by decide) dX12_isTrue_71 ?_
                  refine zi_top (y := f_ 4) (by exact htw.2.1) ?_
                  refine zi_cge (tgt := 107) hx hb dX12_isTrue_72 (by decide) (by omega) (by omega) (fun c72 => ?_) (fun c72 => ?_)
                  · have hh2 : h_ = mn f_ := by omega
                    have hd7 : (if trB f_ r_ e_ (k_ + 1) = true then (1 : Int) else 0) = (if trI f_ r_ e_ k_ h_ = true then 1 else 0) := by rw [hh2]; rfl
                    refine lv_iinc (v := iI (((k_ : Nat) : Int) + 1)) (lv' := [(4, .int (iI (((k_ : Nat) : Int) + 1))), (6, .int (iI (((h_ : Nat) : Int)))), (3, .int (iI (if trI f_ r_ e_ k_ h_ = true then 1 else 0))), (0, .ref (B + 202)), (1, .int (iI (r_))), (2, .int (iI (((e_ : Nat) : Int))))]) hx hb dX12_isTrue_107 hl (k := 1) rfl (iI_add _ _) (by decide) rfl (fun ls hl => ?_)
                    refine lv_goto (tgt := 5) hx hb dX12_isTrue_110 (by decide) ?_
                    exact ih5 (k_ + 1) (tw f_ ((k_ : Nat) : Int) (mn f_)) (cpy (mn (tw f_ ((k_ : Nat) : Int) (mn f_))) (shr (tw f_ ((k_ : Nat) : Int) (mn f_)) r_) g_) _ _ _ (by omega) (by omega) (fun k => tw_tw _ _ _ (by omega)) htw.2.1 (fun _ => by rw [show (((k_ + 1 : Nat) : Int) - 1) = (k_ : Int) from by omega]) hW hS (lv_sub hl [0, 2, 3, 4, 5] (by rw [hd7]; rfl))
                  · have hs1 := shr_bd htw.1 r_ (h := h_) (by rw [htw.2.1]; omega)
                    have hs2 := shr_bd htw.1 r_ (h := e_) (by rw [htw.2.1]; omega)
                    refine lv_iload_n hx hb dX12_isTrue_75 rfl (lv_at hl 2 rfl) ?_
                    refine zi_beq (tgt := 99) hx hb dX12_isTrue_76 (by decide) (fun c76 => ?_) (fun c76 => ?_)
                    · refine zi_con hx hb dX12_isTrue_99 ?_
                      refine lv_istore_n (lv' := [(3, .int (iI (0))), (6, .int (iI (((h_ : Nat) : Int)))), (4, .int (iI (((k_ : Nat) : Int)))), (0, .ref (B + 202)), (1, .int (iI (r_))), (2, .int (iI (((e_ : Nat) : Int))))]) hx hb dX12_isTrue_100 rfl hl (by decide) rfl (fun ls hl => ?_)
                      refine lv_iinc (v := iI (((h_ : Nat) : Int) + 1)) (lv' := [(6, .int (iI (((h_ : Nat) : Int) + 1))), (3, .int (iI (0))), (4, .int (iI (((k_ : Nat) : Int)))), (0, .ref (B + 202)), (1, .int (iI (r_))), (2, .int (iI (((e_ : Nat) : Int))))]) hx hb dX12_isTrue_101 hl (k := 1) rfl (iI_add _ _) (by decide) rfl (fun ls hl => ?_)
                      refine lv_goto (tgt := 64) hx hb dX12_isTrue_104 (by decide) ?_
                      exact ih64 (h_ + 1) _ _ _ (by omega) (by omega) hW hS (lv_sub hl [0, 2, 1, 3, 4, 5] (by first | (rw [if_pos (trI_t (f := f_) (r := r_) (e := e_) (k := k_) (n := h_) (by assumption) (by omega))]; rfl) | (rw [if_neg (trI_f1 (f := f_) (r := r_) (e := e_) (k := k_) (n := h_) (by assumption))]; rfl) | (rw [if_neg (trI_f2 (f := f_) (r := r_) (e := e_) (k := k_) (n := h_) (by omega))]; rfl)))
                    · refine lv_aload_n hx hb dX12_isTrue_79 rfl (lv_at hl 3 rfl) ?_
                      refine wz_get hx hb hts hown hK hW 202 16 (by decide) e_202 rfl (by decide) inG12 w_831 rfl rfl dX12_isTrue_80 ?_
                      refine lv_iload_n hx hb dX12_isTrue_83 rfl (lv_at hl 5 rfl) ?_
                      refine wz_ald hx hb hK hW 210 e_ (by decide) e_210 (by omega) (by omega) (by decide) dX12_isTrue_84 ?_
                      refine zi_top (y := shr (tw f_ ((k_ : Nat) : Int) (mn f_)) r_ e_) (by (show (cpy (mn (tw f_ ((k_ : Nat) : Int) (mn f_))) (shr (tw f_ ((k_ : Nat) : Int) (mn f_)) r_) g_) e_ = _; unfold cpy; rw [if_pos (by rw [hmt]; omega)])) ?_
                      refine lv_aload_n hx hb dX12_isTrue_85 rfl (lv_at hl 3 rfl) ?_
                      refine wz_get hx hb hts hown hK hW 202 16 (by decide) e_202 rfl (by decide) inG12 w_831 rfl rfl dX12_isTrue_86 ?_
                      refine lv_iload hx hb dX12_isTrue_89 (lv_at hl 0 rfl) ?_
                      refine wz_ald hx hb hK hW 210 h_ (by decide) e_210 (by omega) (by omega) (by decide) dX12_isTrue_91 ?_
                      refine zi_top (y := shr (tw f_ ((k_ : Nat) : Int) (mn f_)) r_ h_) (by (show (cpy (mn (tw f_ ((k_ : Nat) : Int) (mn f_))) (shr (tw f_ ((k_ : Nat) : Int) (mn f_)) r_) g_) h_ = _; unfold cpy; rw [if_pos (by rw [hmt]; omega)])) ?_
                      refine zi_clt (tgt := 99) hx hb dX12_isTrue_92 (by decide) (by omega) (by omega) (fun c92 => ?_) (fun c92 => ?_)
                      · refine zi_con hx hb dX12_isTrue_99 ?_
                        refine lv_istore_n (lv' := [(3, .int (iI (0))), (6, .int (iI (((h_ : Nat) : Int)))), (4, .int (iI (((k_ : Nat) : Int)))), (0, .ref (B + 202)), (1, .int (iI (r_))), (2, .int (iI (((e_ : Nat) : Int))))]) hx hb dX12_isTrue_100 rfl hl (by decide) rfl (fun ls hl => ?_)
                        refine lv_iinc (v := iI (((h_ : Nat) : Int) + 1)) (lv' := [(6, .int (iI (((h_ : Nat) : Int) + 1))), (3, .int (iI (0))), (4, .int (iI (((k_ : Nat) : Int)))), (0, .ref (B + 202)), (1, .int (iI (r_))), (2, .int (iI (((e_ : Nat) : Int))))]) hx hb dX12_isTrue_101 hl (k := 1) rfl (iI_add _ _) (by decide) rfl (fun ls hl => ?_)
                        refine lv_goto (tgt := 64) hx hb dX12_isTrue_104 (by decide) ?_
                        exact ih64 (h_ + 1) _ _ _ (by omega) (by omega) hW hS (lv_sub hl [0, 2, 1, 3, 4, 5] (by first | (rw [if_pos (trI_t (f := f_) (r := r_) (e := e_) (k := k_) (n := h_) (by assumption) (by omega))]; rfl) | (rw [if_neg (trI_f1 (f := f_) (r := r_) (e := e_) (k := k_) (n := h_) (by assumption))]; rfl) | (rw [if_neg (trI_f2 (f := f_) (r := r_) (e := e_) (k := k_) (n := h_) (by omega))]; rfl)))
                      · refine zi_con hx hb dX12_isTrue_95 ?_
                        refine lv_goto (tgt := 100) hx hb dX12_isTrue_96 (by decide) ?_
                        refine lv_istore_n (lv' := [(3, .int (iI (1))), (6, .int (iI (((h_ : Nat) : Int)))), (4, .int (iI (((k_ : Nat) : Int)))), (0, .ref (B + 202)), (1, .int (iI (r_))), (2, .int (iI (((e_ : Nat) : Int))))]) hx hb dX12_isTrue_100 rfl hl (by decide) rfl (fun ls hl => ?_)
                        refine lv_iinc (v := iI (((h_ : Nat) : Int) + 1)) (lv' := [(6, .int (iI (((h_ : Nat) : Int) + 1))), (3, .int (iI (1))), (4, .int (iI (((k_ : Nat) : Int)))), (0, .ref (B + 202)), (1, .int (iI (r_))), (2, .int (iI (((e_ : Nat) : Int))))]) hx hb dX12_isTrue_101 hl (k := 1) rfl (iI_add _ _) (by decide) rfl (fun ls hl => ?_)
                        refine lv_goto (tgt := 64) hx hb dX12_isTrue_104 (by decide) ?_
                        exact ih64 (h_ + 1) _ _ _ (by omega) (by omega) hW hS (lv_sub hl [0, 2, 1, 3, 4, 5] (by first | (rw [if_pos (trI_t (f := f_) (r := r_) (e := e_) (k := k_) (n := h_) (by assumption) (by omega))]; rfl) | (rw [if_neg (trI_f1 (f := f_) (r := r_) (e := e_) (k := k_) (n := h_) (by assumption))]; rfl) | (rw [if_neg (trI_f2 (f := f_) (r := r_) (e := e_) (k := k_) (n := h_) (by omega))]; rfl)))
              exact L64 _ 0 _ _ _ (Nat.lt_succ_self _) (by omega) hW hS (lv_sub hl [0, 2, 3, 4, 5, 6] (by rw [trI_0]; rfl))
            · refine lv_aload_n hx hb dX12_isTrue_31 rfl (lv_at hl 4 rfl) ?_
              refine lv_iload hx hb dX12_isTrue_32 (lv_at hl 0 rfl) ?_
              refine zi_bip hx hb dX12_isTrue_34 (by decide) ?_
              refine lv_iload hx hb dX12_isTrue_36 (lv_at hl 1 rfl) ?_
              refine zi_con hx hb dX12_isTrue_38 ?_
              refine zi_rem hx hb dX12_isTrue_39 (by omega) (by omega) ?_
              refine zi_mul hx hb dX12_isTrue_40 ?_
              refine k_vv (fr := 4) (lo := 93) (σ' := (us (us (us σ 206 (tw F_ ((k_ : Nat) : Int) n_)) 210 g_) 206 (uf (uf ((us (us σ 206 (tw F_ ((k_ : Nat) : Int) n_)) 210 g_) 206) (20 + n_) 1) (24 + n_) (6 * ((rs ((k_ : Nat) : Int) n_) % 4))))) (As := [.int (iI (((n_ : Nat) : Int))), .int (iI (6 * ((rs ((k_ : Nat) : Int) n_) % 4)))]) (rest := []) hx hb hml hown hts hK hRf hRl hW hS (c_X12_say l D cy B (us (us σ 206 (tw F_ ((k_ : Nat) : Int) n_)) 210 g_) n_ (6 * ((rs ((k_ : Nat) : Int) n_) % 4)) (show n_ < 4 from (by first | assumption | omega | (simp only [tpL_25, List.length_cons, List.length_nil]; omega)))) vX12_say ⟨w_1000, w_29⟩ w_998 (by decide) e_202 rfl ⟨Nat.le_of_ble_eq_true rfl, Nat.le_of_ble_eq_true rfl⟩ hl.1 rfl (Nat.le_of_ble_eq_true rfl) ⟨Nat.zero_le _, Nat.zero_le _⟩ dX12_isTrue_41 (fun H locs hW hS => ?_)
              refine lv_iload hx hb dX12_isTrue_44 (lv_at hl 1 rfl) ?_
              refine zi_con hx hb dX12_isTrue_46 ?_
              refine zi_div hx hb dX12_isTrue_47 (by omega) (by omega) ?_
              refine lv_istore (lv' := [(5, .int (iI ((rs ((k_ : Nat) : Int) n_) / 4))), (6, .int (iI (((n_ : Nat) : Int)))), (4, .int (iI (((k_ : Nat) : Int)))), (3, .int (iI (if trB f_ r_ e_ k_ = true then 1 else 0))), (0, .ref (B + 202)), (1, .int (iI (r_))), (2, .int (iI (((e_ : Nat) : Int))))]) hx hb dX12_isTrue_48 hl (by decide) rfl (fun ls hl => ?_)
              refine lv_iinc (v := iI (((n_ : Nat) : Int) + 1)) (lv' := [(6, .int (iI (((n_ : Nat) : Int) + 1))), (5, .int (iI ((rs ((k_ : Nat) : Int) n_) / 4))), (4, .int (iI (((k_ : Nat) : Int)))), (3, .int (iI (if trB f_ r_ e_ k_ = true then 1 else 0))), (0, .ref (B + 202)), (1, .int (iI (r_))), (2, .int (iI (((e_ : Nat) : Int))))]) hx hb dX12_isTrue_50 hl (k := 1) rfl (iI_add _ _) (by decide) rfl (fun ls hl => ?_)
              refine lv_goto (tgt := 20) hx hb dX12_isTrue_53 (by decide) ?_
              exact ih20 (n_ + 1) _ _ _ (by omega) (by omega) (by have h2 := hW; rw [us_comm _ _ _ (by decide), us_us, us_comm _ _ _ (by decide)] at h2; exact h2) hS (lv_sub hl [0, 1, 2, 3, 4, 5, 6] rfl)
        exact L20 _ 0 _ _ _ (Nat.lt_succ_self _) (by omega) hW hS (lv_sub hl [0, 1, 2, 3, 4, 5, 6] rfl)
  exact L5 _ 0 (σ 206) (σ 210) _ _ _ (Nat.lt_succ_self _) (by omega) hF0 hF4 (fun h => absurd h (by omega)) (by rw [us_id, us_id]; exact hW) hS (lv_sub hl [0, 1, 2, 3, 4] rfl)

set_option maxRecDepth 100000 in
set_option maxHeartbeats 4000000 in
theorem c_X12_trueRule (l : Launch) (D : va_G) (cy : Nat → ClassId) (B : Nat) (σ : Sg)  (hok : σ 206 4 = 0 ∨ okV (σ 206)) (hith : σ 202 4 = if σ 206 4 = 0 then 0 else 1) : CIe l yX12_trueRule cX12_trueRule 4 (some .int) 5 119 D cy B [.ref (B + 202)] σ (if σ 206 4 = 0 then -1000002 else mfd (trP (σ 206)) 4) (fun u => ∃ (g : Nat → Int), u = if σ 206 4 = 0 then σ else us (us σ 212 (σ 206)) 210 g) := by
  refine CIe_of (ty := .int) (by decide) (rfl) (Nat.le_of_ble_eq_true rfl) ?_
  intro p e R s m args below meth c Q hx hb hml hown hts hK hRf hRl hW hret ls hl
  have hown : s.vm.findClass "LovePartsModel" = some m.cls := hown
  have hS : va_S (AB B) s.heap s.heap [] := va_S.rf
  have hl : lv_has ls 4 [(0, .ref (B + 202))] := hl
  have hbi : -2147483648 ≤ σ 202 4 ∧ σ 202 4 < 2147483648 := by rw [hith]; split <;> omega
  have hit : (σ 202 4 = 0 ∧ σ 206 4 = 0) ∨ (σ 202 4 = 1 ∧ ¬ σ 206 4 = 0) := by rw [hith]; split <;> simp_all
  refine lv_aload_n hx hb dX12_trueRule_0 rfl (lv_at hl 0 rfl) ?_
  refine wz_get hx hb hts hown hK hW 202 4 (by decide) e_202 rfl (by decide) inG12 w_819 rfl rfl dX12_trueRule_1 ?_
  refine zi_ne (tgt := 10) hx hb dX12_trueRule_4 (by decide) (by omega) (fun c4 => ?_) (fun c4 => ?_)
  · have hok := hok.resolve_left (by omega)
    obtain ⟨o4, o0, o1, o2, o3, o5, o6, o7, oH⟩ := id hok
    have hmn : ((mn (σ 206) : Nat) : Int) = σ 206 4 := by unfold mn; omega
    refine zi_con hx hb dX12_trueRule_10 ?_
    refine lv_istore_n (lv' := [(1, .int (iI (0))), (0, .ref (B + 202))]) hx hb dX12_trueRule_11 rfl hl (by decide) rfl (fun ls hl => ?_)
    refine zi_con hx hb dX12_trueRule_12 ?_
    refine lv_istore_n (lv' := [(2, .int (iI (1))), (1, .int (iI (0))), (0, .ref (B + 202))]) hx hb dX12_trueRule_13 rfl hl (by decide) rfl (fun ls hl => ?_)
    have L14 : ∀ (n14 : Nat) (h_ : Nat) (H : Heap) (locs : List Loc) (ls : Array Slot), 4 - h_ < n14 → (1 ≤ h_ ∧ (h_ : Int) ≤ σ 206 4) → wd D cy B σ H → va_S (AB B) s.heap H locs → lv_has ls 4 [(2, .int (iI (((h_ : Nat) : Int)))), (1, .int (iI (((fg (fun h => σ 206 (12 + h)) h_ : Nat) : Int)))), (0, .ref (B + 202))] → W p l e R s m args below meth c H locs 0 0 Q (F0 m 14 ls []) := by
      intro n14
      induction n14 with
      | zero => intro h_ H locs ls hms; omega
      | succ n14 ih14 =>
        intro h_ H locs ls hms14 hh hW hS hl
        have hfg := fg_lt (fun h => σ 206 (12 + h)) (n := h_) (by omega)
        refine lv_iload_n hx hb dX12_trueRule_14 rfl (lv_at hl 0 rfl) ?_
        refine lv_aload_n hx hb dX12_trueRule_15 rfl (lv_at hl 2 rfl) ?_
        refine wz_get hx hb hts hown hK hW 202 5 (by decide) e_202 rfl (by decide) inG12 w_820 rfl rfl dX12_trueRule_16 ?_
        refine zi_con hx hb dX12_trueRule_19 ?_
        refine wz_ald hx hb hK hW 206 4 (by decide) e_206 (by omega) (by omega) (by decide) dX12_trueRule_20 ?_
        refine zi_cge (tgt := 57) hx hb dX12_trueRule_21 (by decide) (by omega) (by omega) (fun c21 => ?_) (fun c21 => ?_)
        · have hts1 : fg (fun h => σ 206 (12 + h)) h_ = tst (σ 206) := by unfold tst; rw [show mn (σ 206) = h_ from by omega]
          refine lv_aload_n hx hb dX12_trueRule_57 rfl (lv_at hl 2 rfl) ?_
          refine k_vv (fr := 5) (lo := 119) (σ' := (us σ 212 (σ 206))) (As := []) (rest := []) hx hb hml hown hts hK hRf hRl hW hS (c_X12_putAside l D cy B σ  ) vX12_putAside ⟨w_1066, w_37⟩ w_1064 (by decide) e_202 rfl ⟨Nat.le_of_ble_eq_true rfl, Nat.le_of_ble_eq_true rfl⟩ hl.1 rfl (Nat.le_of_ble_eq_true rfl) ⟨Nat.zero_le _, Nat.zero_le _⟩ dX12_trueRule_58 (fun H locs hW hS => ?_)
          refine k_ldc hx hb hown hts (v := -1000000) (by decide) w_1080 dX12_trueRule_61 ?_
          refine lv_istore_n (lv' := [(2, .int (iI ((-1000000)))), (1, .int (iI (((fg (fun h => σ 206 (12 + h)) h_ : Nat) : Int)))), (0, .ref (B + 202))]) hx hb dX12_trueRule_63 rfl hl (by decide) rfl (fun ls hl => ?_)
          refine zi_con hx hb dX12_trueRule_64 ?_
          refine lv_istore_n (lv' := [(3, .int (iI (3))), (2, .int (iI ((-1000000)))), (1, .int (iI (((fg (fun h => σ 206 (12 + h)) h_ : Nat) : Int)))), (0, .ref (B + 202))]) hx hb dX12_trueRule_65 rfl hl (by decide) rfl (fun ls hl => ?_)
          have L66 : ∀ (n66 : Nat) (d_ : Nat) (F_ : Nat → Int) (g_ : Nat → Int) (H : Heap) (locs : List Loc) (ls : Array Slot), 4 - d_ < n66 → (d_ ≤ 4) → (∀ k : Int, tw F_ k (mn (σ 206)) = tw (σ 206) k (mn (σ 206))) → (F_ 4 = σ 206 4) → wd D cy B (us (us (us σ 212 (σ 206)) 206 F_) 210 g_) H → va_S (AB B) s.heap H locs → lv_has ls 4 [(3, .int (iI (3 - ((d_ : Nat) : Int)))), (2, .int (iI (mfd (trP (σ 206)) d_))), (1, .int (iI (((fg (fun h => σ 206 (12 + h)) h_ : Nat) : Int)))), (0, .ref (B + 202))] → W p l e R s m args below meth c H locs 0 0 Q (F0 m 66 ls []) := by
            intro n66
            induction n66 with
            | zero => intro d_ F_ g_ H locs ls hms; omega
            | succ n66 ih66 =>
              intro d_ F_ g_ H locs ls hms66 hd hF hF4 hW hS hl
              refine lv_iload_n hx hb dX12_trueRule_66 rfl (lv_at hl 0 rfl) ?_
              refine zi_lt (tgt := 91) hx hb dX12_trueRule_67 (by decide) (by omega) (fun c67 => ?_) (fun c67 => ?_)
              · have hd4 : d_ = 4 := by omega
                refine lv_aload_n hx hb dX12_trueRule_91 rfl (lv_at hl 3 rfl) ?_
                refine k_vv (fr := 5) (lo := 119) (σ' := (us (us (us (us σ 212 (σ 206)) 206 F_) 210 g_) 206 ((us (us (us σ 212 (σ 206)) 206 F_) 210 g_) 212))) (As := []) (rest := []) hx hb hml hown hts hK hRf hRl hW hS (c_X12_takeBack l D cy B (us (us (us σ 212 (σ 206)) 206 F_) 210 g_)  ) vX12_takeBack ⟨w_1070, w_38⟩ w_1068 (by decide) e_202 rfl ⟨Nat.le_of_ble_eq_true rfl, Nat.le_of_ble_eq_true rfl⟩ hl.1 rfl (Nat.le_of_ble_eq_true rfl) ⟨Nat.zero_le _, Nat.zero_le _⟩ dX12_trueRule_92 (fun H locs hW hS => ?_)
                refine lv_iload_n hx hb dX12_trueRule_95 rfl (lv_at hl 1 rfl) ?_
                exact hret _ _ _ _ _ _ dX12_trueRule_96 hW hS ⟨by rw [if_neg (by omega), hd4], ⟨g_, by rw [if_neg (by omega)]; funext c9; by_cases a1 : c9 = 210; (· subst a1; rfl); by_cases a2 : c9 = 206; (· subst a2; rfl); simp [us, a1, a2]⟩⟩
              · have hrr : (((3 - d_ : Nat)) : Int) = 3 - (d_ : Int) := by omega
                have hc76 : trP (σ 206) (3 - d_) = trB (σ 206) (3 - (d_ : Int)) (fg (fun h => σ 206 (12 + h)) h_) 256 := by unfold trP; rw [hts1, hrr]
                refine lv_aload_n hx hb dX12_trueRule_70 rfl (lv_at hl 3 rfl) ?_
                refine lv_iload_n hx hb dX12_trueRule_71 rfl (lv_at hl 0 rfl) ?_
                refine lv_iload_n hx hb dX12_trueRule_72 rfl (lv_at hl 2 rfl) ?_
                refine k_vie (fr := 5) (lo := 119) (r := (if trB (σ 206) (3 - ((d_ : Nat) : Int)) (fg (fun h => σ 206 (12 + h)) h_) 256 = true then 1 else 0)) (As := [.int (iI (3 - ((d_ : Nat) : Int))), .int (iI (((fg (fun h => σ 206 (12 + h)) h_ : Nat) : Int)))]) (rest := []) hx hb hml hown hts hK hRf hRl hW hS (c_X12_isTrue l D cy B (us (us (us σ 212 (σ 206)) 206 F_) 210 g_) (σ 206) (3 - ((d_ : Nat) : Int)) (fg (fun h => σ 206 (12 + h)) h_) (show okV (σ 206) from (by first | assumption | omega | (simp only [tpL_25, List.length_cons, List.length_nil]; omega))) (show 0 ≤ (3 - ((d_ : Nat) : Int)) ∧ (3 - ((d_ : Nat) : Int)) ≤ 3 from (by first | assumption | omega | (simp only [tpL_25, List.length_cons, List.length_nil]; omega))) (show ((fg (fun h => σ 206 (12 + h)) h_) : Int) < (σ 206) 4 from (by omega)) (show ∀ k : Int, tw ((us (us (us σ 212 (σ 206)) 206 F_) 210 g_) 206) k (mn (σ 206)) = tw (σ 206) k (mn (σ 206)) from hF) (show (us (us (us σ 212 (σ 206)) 206 F_) 210 g_) 206 4 = (σ 206) 4 from hF4)) vX12_isTrue ⟨w_1083, w_39⟩ w_1081 (by decide) e_202 rfl ⟨Nat.le_of_ble_eq_true rfl, Nat.le_of_ble_eq_true rfl⟩ hl.1 rfl (Nat.le_of_ble_eq_true rfl) ⟨Nat.zero_le _, Nat.zero_le _⟩ dX12_trueRule_73 (fun τ H locs hτ hW hS => ?_)
                obtain ⟨g_73, rfl⟩ := hτ
                refine zi_beq (tgt := 83) hx hb dX12_trueRule_76 (by decide) (fun c76 => ?_) (fun c76 => ?_)
                · refine lv_iload_n hx hb dX12_trueRule_83 rfl (lv_at hl 1 rfl) ?_
                  refine lv_istore_n (lv' := [(2, .int (iI (mfd (trP (σ 206)) d_))), (3, .int (iI (3 - ((d_ : Nat) : Int)))), (1, .int (iI (((fg (fun h => σ 206 (12 + h)) h_ : Nat) : Int)))), (0, .ref (B + 202))]) hx hb dX12_trueRule_84 rfl hl (by decide) rfl (fun ls hl => ?_)
                  refine lv_iinc (v := iI ((3 - ((d_ : Nat) : Int)) + (-1))) (lv' := [(3, .int (iI ((3 - ((d_ : Nat) : Int)) + (-1)))), (2, .int (iI (mfd (trP (σ 206)) d_))), (1, .int (iI (((fg (fun h => σ 206 (12 + h)) h_ : Nat) : Int)))), (0, .ref (B + 202))]) hx hb dX12_trueRule_85 hl (k := 1) rfl (iI_add _ _) (by decide) rfl (fun ls hl => ?_)
                  refine lv_goto (tgt := 66) hx hb dX12_trueRule_88 (by decide) ?_
                  rw [show (3 - (d_ : Int) + (-1)) = 3 - ((d_ + 1 : Nat) : Int) from by omega] at hl
                  have hsb9 : us (us (us σ 212 (σ 206)) 206 (tw (σ 206) 255 (mn (σ 206)))) 210 g_73 = us (us (us (us (us σ 212 (σ 206)) 206 F_) 210 g_) 206 (tw (σ 206) 255 (mn (σ 206)))) 210 g_73 := by funext c9; by_cases a1 : c9 = 210; (· subst a1; rfl); by_cases a2 : c9 = 206; (· subst a2; rfl); simp [us, a1, a2]
                  exact ih66 (d_ + 1) (tw (σ 206) 255 (mn (σ 206))) g_73 _ _ _ (by omega) (by omega) (fun k => tw_tw _ _ _ (by omega)) (by rw [tw_at _ _ (by omega), if_neg (by omega), if_neg (by omega)]) (by rw [hsb9]; exact hW) hS (lv_sub hl [0, 1, 2, 3] (by first | (rw [mfd_t (P := trP (σ 206)) (d := d_) (by omega) (hc76.trans c76)]; rfl) | (rw [mfd_f (P := trP (σ 206)) (d := d_) (by rw [hc76]; exact c76)]; rfl)))
                · refine lv_iload_n hx hb dX12_trueRule_79 rfl (lv_at hl 0 rfl) ?_
                  refine lv_goto (tgt := 84) hx hb dX12_trueRule_80 (by decide) ?_
                  refine lv_istore_n (lv' := [(2, .int (iI (3 - ((d_ : Nat) : Int)))), (3, .int (iI (3 - ((d_ : Nat) : Int)))), (1, .int (iI (((fg (fun h => σ 206 (12 + h)) h_ : Nat) : Int)))), (0, .ref (B + 202))]) hx hb dX12_trueRule_84 rfl hl (by decide) rfl (fun ls hl => ?_)
                  refine lv_iinc (v := iI ((3 - ((d_ : Nat) : Int)) + (-1))) (lv' := [(3, .int (iI ((3 - ((d_ : Nat) : Int)) + (-1)))), (2, .int (iI (3 - ((d_ : Nat) : Int)))), (1, .int (iI (((fg (fun h => σ 206 (12 + h)) h_ : Nat) : Int)))), (0, .ref (B + 202))]) hx hb dX12_trueRule_85 hl (k := 1) rfl (iI_add _ _) (by decide) rfl (fun ls hl => ?_)
                  refine lv_goto (tgt := 66) hx hb dX12_trueRule_88 (by decide) ?_
                  rw [show (3 - (d_ : Int) + (-1)) = 3 - ((d_ + 1 : Nat) : Int) from by omega] at hl
                  have hsb9 : us (us (us σ 212 (σ 206)) 206 (tw (σ 206) 255 (mn (σ 206)))) 210 g_73 = us (us (us (us (us σ 212 (σ 206)) 206 F_) 210 g_) 206 (tw (σ 206) 255 (mn (σ 206)))) 210 g_73 := by funext c9; by_cases a1 : c9 = 210; (· subst a1; rfl); by_cases a2 : c9 = 206; (· subst a2; rfl); simp [us, a1, a2]
                  exact ih66 (d_ + 1) (tw (σ 206) 255 (mn (σ 206))) g_73 _ _ _ (by omega) (by omega) (fun k => tw_tw _ _ _ (by omega)) (by rw [tw_at _ _ (by omega), if_neg (by omega), if_neg (by omega)]) (by rw [hsb9]; exact hW) hS (lv_sub hl [0, 1, 2, 3] (by first | (rw [mfd_t (P := trP (σ 206)) (d := d_) (by omega) (hc76.trans c76)]; rfl) | (rw [mfd_f (P := trP (σ 206)) (d := d_) (by rw [hc76]; exact c76)]; rfl)))
          exact L66 _ 0 (σ 206) (σ 210) _ _ _ (Nat.lt_succ_self _) (by omega) (fun _ => rfl) rfl (by show wd D cy B (us (us (us σ 212 (σ 206)) 206 ((us σ 212 (σ 206)) 206)) 210 ((us σ 212 (σ 206)) 210)) _; rw [us_id, us_id]; exact hW) hS (lv_sub hl [0, 1, 2, 3] rfl)
        · have hq1 := (oH h_ (by omega)).2.1
          have hq2 := (oH (fg (fun h => σ 206 (12 + h)) h_) (by omega)).2.1
          refine lv_aload_n hx hb dX12_trueRule_24 rfl (lv_at hl 2 rfl) ?_
          refine wz_get hx hb hts hown hK hW 202 5 (by decide) e_202 rfl (by decide) inG12 w_820 rfl rfl dX12_trueRule_25 ?_
          refine zi_bip hx hb dX12_trueRule_28 (by decide) ?_
          refine lv_iload_n hx hb dX12_trueRule_30 rfl (lv_at hl 0 rfl) ?_
          refine zi_add hx hb dX12_trueRule_31 ?_
          refine wz_ald hx hb hK hW 206 (12 + h_) (by decide) e_206 (by omega) (by omega) (by decide) dX12_trueRule_32 ?_
          refine lv_aload_n hx hb dX12_trueRule_33 rfl (lv_at hl 2 rfl) ?_
          refine wz_get hx hb hts hown hK hW 202 5 (by decide) e_202 rfl (by decide) inG12 w_820 rfl rfl dX12_trueRule_34 ?_
          refine zi_bip hx hb dX12_trueRule_37 (by decide) ?_
          refine lv_iload_n hx hb dX12_trueRule_39 rfl (lv_at hl 1 rfl) ?_
          refine zi_add hx hb dX12_trueRule_40 ?_
          refine wz_ald hx hb hK hW 206 (12 + fg (fun h => σ 206 (12 + h)) h_) (by decide) e_206 (by omega) (by omega) (by decide) dX12_trueRule_41 ?_
          refine zi_cle (tgt := 49) hx hb dX12_trueRule_42 (by decide) (by omega) (by omega) (fun c42 => ?_) (fun c42 => ?_)
          · refine lv_iload_n hx hb dX12_trueRule_49 rfl (lv_at hl 1 rfl) ?_
            refine lv_istore_n (lv' := [(1, .int (iI (((fg (fun h => σ 206 (12 + h)) h_ : Nat) : Int)))), (2, .int (iI (((h_ : Nat) : Int)))), (0, .ref (B + 202))]) hx hb dX12_trueRule_50 rfl hl (by decide) rfl (fun ls hl => ?_)
            refine lv_iinc (v := iI (((h_ : Nat) : Int) + 1)) (lv' := [(2, .int (iI (((h_ : Nat) : Int) + 1))), (1, .int (iI (((fg (fun h => σ 206 (12 + h)) h_ : Nat) : Int)))), (0, .ref (B + 202))]) hx hb dX12_trueRule_51 hl (k := 1) rfl (iI_add _ _) (by decide) rfl (fun ls hl => ?_)
            refine lv_goto (tgt := 14) hx hb dX12_trueRule_54 (by decide) ?_
            have e3 : fg (fun h => σ 206 (12 + h)) (h_ + 1) = (if σ 206 (12 + fg (fun h => σ 206 (12 + h)) h_) < σ 206 (12 + h_) then h_ else fg (fun h => σ 206 (12 + h)) h_) := rfl
            first | (rw [if_pos (by omega)] at e3) | (rw [if_neg (by omega)] at e3)
            exact ih14 (h_ + 1) _ _ _ (by omega) (by omega) hW hS (lv_sub hl [0, 1, 2] (by rw [e3]; rfl))
          · refine lv_iload_n hx hb dX12_trueRule_45 rfl (lv_at hl 0 rfl) ?_
            refine lv_goto (tgt := 50) hx hb dX12_trueRule_46 (by decide) ?_
            refine lv_istore_n (lv' := [(1, .int (iI (((h_ : Nat) : Int)))), (2, .int (iI (((h_ : Nat) : Int)))), (0, .ref (B + 202))]) hx hb dX12_trueRule_50 rfl hl (by decide) rfl (fun ls hl => ?_)
            refine lv_iinc (v := iI (((h_ : Nat) : Int) + 1)) (lv' := [(2, .int (iI (((h_ : Nat) : Int) + 1))), (1, .int (iI (((h_ : Nat) : Int)))), (0, .ref (B + 202))]) hx hb dX12_trueRule_51 hl (k := 1) rfl (iI_add _ _) (by decide) rfl (fun ls hl => ?_)
            refine lv_goto (tgt := 14) hx hb dX12_trueRule_54 (by decide) ?_
            have e3 : fg (fun h => σ 206 (12 + h)) (h_ + 1) = (if σ 206 (12 + fg (fun h => σ 206 (12 + h)) h_) < σ 206 (12 + h_) then h_ else fg (fun h => σ 206 (12 + h)) h_) := rfl
            first | (rw [if_pos (by omega)] at e3) | (rw [if_neg (by omega)] at e3)
            exact ih14 (h_ + 1) _ _ _ (by omega) (by omega) hW hS (lv_sub hl [0, 1, 2] (by rw [e3]; rfl))
    exact L14 _ 1 _ _ _ (Nat.lt_succ_self _) (by omega) hW hS (lv_sub hl [0, 1, 2] (by rw [fg1]; rfl))
  · refine k_ldc hx hb hown hts (v := -1000002) (by decide) w_983 dX12_trueRule_7 ?_
    exact hret _ _ _ _ _ _ dX12_trueRule_9 hW hS ⟨by (repeat' split) <;> first | rfl | omega, ⟨σ 210, by (repeat' split) <;> first | rfl | omega⟩⟩
