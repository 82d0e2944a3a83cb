
set_option maxRecDepth 100000 in
set_option maxHeartbeats 4000000 in
theorem c_X11_bestSpeech (l : Launch) (D : va_G) (cy : Nat → ClassId) (B : Nat) (σ : Sg) (h_ : Nat) (hok : okV (σ 18)) (hh : (h_ : Int) < σ 18 4) : CIe l yX11_bestSpeech cX11_bestSpeech 9 (some .int) 4 89 D cy B [.ref (B + 0), .int (iI (((h_ : Nat) : Int)))] σ (bsp (σ 18) h_ 0 779) (fun u => ∃ (T_ : Nat → Int) (A_ : Nat → Int) (S_ : Nat → Int), u = us (us (us σ 24 T_) 9 A_) 10 S_) := by
  refine CIe_of (ty := .int) (by decide) (rfl) (Nat.le_of_ble_eq_true rfl) ?_
  intro p e R s m args below meth c Q hx hb hml hown hts hK hRf hRl hW hret ls hl
  have hown : s.vm.findClass "LoveParts" = some m.cls := hown
  have hS : va_S (AB B) s.heap s.heap [] := va_S.rf
  have hl : lv_has ls 9 [(0, .ref (B + 0)), (1, .int (iI (((h_ : Nat) : Int))))] := hl
  obtain ⟨o4, o0, o1, o2, o3, o5, o6, o7, oH⟩ := id hok
  have hq : eqR (tkN (σ 24) (σ 18) (mn (σ 18))) (σ 18) := eqR_tk _ o4
  have hkt := eqR_okV hq hok
  have e5 : tkN (σ 24) (σ 18) (mn (σ 18)) 5 = σ 18 5 := rfl
  have e4 : tkN (σ 24) (σ 18) (mn (σ 18)) 4 = σ 18 4 := rfl
  have hmn : ((mn (σ 18) : Nat) : Int) = σ 18 4 := by unfold mn; omega
  refine lv_aload_n hx hb dX11_bestSpeech_0 rfl (lv_at hl 0 rfl) ?_
  refine wz_get hx hb hts hown hK hW 0 4 (by decide) e_0 rfl (by decide) inG11 w_309 rfl rfl dX11_bestSpeech_1 ?_
  refine wz_get hx hb hts hown hK hW 18 5 (lt_R isR_18) (e_R isR_18) rfl (by decide) inG6 w_261 rfl rfl dX11_bestSpeech_4 ?_
  refine zi_con hx hb dX11_bestSpeech_7 ?_
  have J17 : ∀ (x_ : Int) (H : Heap) (locs : List Loc) (ls : Array Slot), ((x_ = 40 ∧ σ 18 3 = 1) ∨ (x_ = 0 ∧ ¬ σ 18 3 = 1)) → wd D cy B σ H → va_S (AB B) s.heap H locs → lv_has ls 9 [(0, .ref (B + 0)), (1, .int (iI (((h_ : Nat) : Int))))] → W p l e R s m args below meth c H locs 0 0 Q (F0 m 17 ls [.int (iI (x_))]) := by
    intro x_ H locs ls hx3 hW hS hl
    refine lv_istore_n (lv' := [(2, .int (iI (x_))), (0, .ref (B + 0)), (1, .int (iI (((h_ : Nat) : Int))))]) hx hb dX11_bestSpeech_17 rfl hl (by decide) rfl (fun ls hl => ?_)
    refine zi_con hx hb dX11_bestSpeech_18 ?_
    refine lv_istore_n (lv' := [(3, .int (iI ((-1)))), (2, .int (iI (x_))), (0, .ref (B + 0)), (1, .int (iI (((h_ : Nat) : Int))))]) hx hb dX11_bestSpeech_19 rfl hl (by decide) rfl (fun ls hl => ?_)
    refine zi_con hx hb dX11_bestSpeech_20 ?_
    refine lv_istore (lv' := [(4, .int (iI (0))), (3, .int (iI ((-1)))), (2, .int (iI (x_))), (0, .ref (B + 0)), (1, .int (iI (((h_ : Nat) : Int))))]) hx hb dX11_bestSpeech_21 hl (by decide) rfl (fun ls hl => ?_)
    refine lv_aload_n hx hb dX11_bestSpeech_23 rfl (lv_at hl 3 rfl) ?_
    refine wz_get hx hb hts hown hK hW 0 5 (by decide) e_0 rfl (by decide) inG11 w_310 rfl rfl dX11_bestSpeech_24 ?_
    refine lv_aload_n hx hb dX11_bestSpeech_27 rfl (lv_at hl 3 rfl) ?_
    refine wz_get hx hb hts hown hK hW 0 4 (by decide) e_0 rfl (by decide) inG11 w_309 rfl rfl dX11_bestSpeech_28 ?_
    refine k_vv (fr := 4) (lo := 89) (σ' := (us σ 24 (tkN (σ 24) (σ 18) (mn (σ 18))))) (As := [.ref (B + 18)]) (rest := []) hx hb hml hown hts hK hRf hRl hW hS (c_X6_take l D cy B σ 24 18 (show isR 24 from isR_24) (show isR 18 from isR_18) (show 24 ≠ 18 from (by decide)) (show 0 ≤ σ 18 4 ∧ σ 18 4 ≤ 4 from (by omega)) (show σ 18 7 = 0 ∨ σ 18 7 = 1 from o7) (show ∀ h : Nat, (h : Int) < σ 18 4 → σ 18 (20 + h) = 0 ∨ σ 18 (20 + h) = 1 from (fun h hh => (oH h hh).2.2.2.1))) vX6_take ⟨w_460, w_461⟩ w_459 (lt_R isR_24) (e_R isR_24) rfl ⟨Nat.le_of_ble_eq_true rfl, Nat.le_of_ble_eq_true rfl⟩ hl.1 rfl (Nat.le_of_ble_eq_true rfl) ⟨Nat.zero_le _, Nat.zero_le _⟩ dX11_bestSpeech_31 (fun H locs hW hS => ?_)
    refine zi_con hx hb dX11_bestSpeech_34 ?_
    refine lv_istore (lv' := [(5, .int (iI (0))), (4, .int (iI (0))), (3, .int (iI ((-1)))), (2, .int (iI (x_))), (0, .ref (B + 0)), (1, .int (iI (((h_ : Nat) : Int))))]) hx hb dX11_bestSpeech_35 hl (by decide) rfl (fun ls hl => ?_)
    have L37 : ∀ (n37 : Nat) (w_ : Nat) (T_ : Nat → Int) (A_ : Nat → Int) (S_ : Nat → Int) (H : Heap) (locs : List Loc) (ls : Array Slot), 19 - w_ < n37 → (w_ ≤ 19) → (∀ w : Int, eqR (spk T_ h_ w 0) (spk (σ 18) h_ w 0)) → wd D cy B (us (us (us σ 24 T_) 9 A_) 10 S_) H → va_S (AB B) s.heap H locs → lv_has ls 9 [(5, .int (iI (((w_ : Nat) : Int)))), (4, .int (iI (bsp (σ 18) h_ 0 (41 * w_)))), (3, .int (iI (bm (σ 18) h_ (41 * w_)))), (2, .int (iI (x_))), (0, .ref (B + 0)), (1, .int (iI (((h_ : Nat) : Int))))] → W p l e R s m args below meth c H locs 0 0 Q (F0 m 37 ls []) := by
      intro n37
      induction n37 with
      | zero => intro w_ T_ A_ S_ H locs ls hms; omega
      | succ n37 ih37 =>
        intro w_ T_ A_ S_ H locs ls hms37 hw hT hW hS hl
        refine lv_iload hx hb dX11_bestSpeech_37 (lv_at hl 0 rfl) ?_
        refine zi_bip hx hb dX11_bestSpeech_39 (by decide) ?_
        refine zi_cgt (tgt := 164) hx hb dX11_bestSpeech_41 (by decide) (by omega) (by omega) (fun c41 => ?_) (fun c41 => ?_)
        · have hw9 : w_ = 19 := by omega
          refine lv_iload hx hb dX11_bestSpeech_164 (lv_at hl 1 rfl) ?_
          exact hret _ _ _ _ _ _ dX11_bestSpeech_166 hW hS ⟨by rw [hw9], _, _, _, rfl⟩
        · have hS0 := hT ((w_ : Nat) : Int)
          have hoS : okV (spk T_ h_ ((w_ : Nat) : Int) 0) := eqR_okV hS0 (okV_say hok hh (by omega) (by omega))
          have e4S : (spk T_ h_ ((w_ : Nat) : Int) 0) 4 = σ 18 4 := by rw [eqR_hd hS0 4 (by omega), spk_o _ _ _ _ (by omega)]
          have e3S : (spk T_ h_ ((w_ : Nat) : Int) 0) 3 = σ 18 3 := by rw [eqR_hd hS0 3 (by omega), spk_o _ _ _ _ (by omega)]
          have hmS : mn (spk T_ h_ ((w_ : Nat) : Int) 0) = mn (σ 18) := by show ((spk T_ h_ ((w_ : Nat) : Int) 0) 4).toNat = (σ 18 4).toNat; rw [e4S]
          have hwb : ∀ j : Nat, j < mn (σ 18) → 1 ≤ wt (spk T_ h_ ((w_ : Nat) : Int) 0) (σ 18 3) j ∧ wt (spk T_ h_ ((w_ : Nat) : Int) 0) (σ 18 3) j ≤ 59 := fun j hj => wt_bd hoS (σ 18 3) (by omega)
          have hwh := hwb h_ (by omega)
          refine lv_aload_n hx hb dX11_bestSpeech_44 rfl (lv_at hl 4 rfl) ?_
          refine wz_get hx hb hts hown hK hW 0 5 (by decide) e_0 rfl (by decide) inG11 w_310 rfl rfl dX11_bestSpeech_45 ?_
          refine wz_get hx hb hts hown hK hW 24 0 (lt_R isR_24) (e_R isR_24) rfl (by decide) inG6 w_246 rfl rfl dX11_bestSpeech_48 ?_
          refine lv_iload_n hx hb dX11_bestSpeech_51 rfl (lv_at hl 5 rfl) ?_
          refine wz_ara hx hb hK hW (24 + 1) h_ 2 (lt_Ra isR_24) (e_Ra isR_24) rfl (by omega) (by omega) (by decide) rfl dX11_bestSpeech_52 ?_
          refine lv_iload hx hb dX11_bestSpeech_53 (lv_at hl 0 rfl) ?_
          refine zi_con hx hb dX11_bestSpeech_55 ?_
          refine k_vv (fr := 4) (lo := 89) (σ' := (us (us (us (us σ 24 T_) 9 A_) 10 S_) 24 (uf (uf (uf ((us (us (us σ 24 T_) 9 A_) 10 S_) 24) (20 + h_) 1) (24 + h_) ((w_ : Nat) : Int)) (28 + h_) 0))) (As := [.int (iI (((w_ : Nat) : Int))), .int (iI (0))]) (rest := []) hx hb hml hown hts hK hRf hRl hW hS (c_X0_say l D cy B (us (us (us σ 24 T_) 9 A_) 10 S_) 24 h_ ((w_ : Nat) : Int) 0 (show isR 24 from isR_24) (show h_ < 4 from (by first | assumption | omega | (simp only [tpL_25, tcL_1, List.length_cons, List.length_nil]; omega)))) vX0_say ⟨w_519, w_520⟩ w_518 (lt_H isR_24 (by omega)) (e_H isR_24 (by omega)) rfl ⟨Nat.le_of_ble_eq_true rfl, Nat.le_of_ble_eq_true rfl⟩ hl.1 rfl (Nat.le_of_ble_eq_true rfl) ⟨Nat.zero_le _, Nat.zero_le _⟩ dX11_bestSpeech_56 (fun H locs hW hS => ?_)
          rw [show (us (us (us (us σ 24 T_) 9 A_) 10 S_) 24 (uf (uf (uf ((us (us (us σ 24 T_) 9 A_) 10 S_) 24) (20 + h_) 1) (24 + h_) ((w_ : Nat) : Int)) (28 + h_) 0)) = (us (us (us σ 24 (spk T_ h_ ((w_ : Nat) : Int) 0)) 9 A_) 10 S_) from (by rw [n3_1 _ _ _ _ _ (by decide)]; rfl)] at hW
          refine lv_aload_n hx hb dX11_bestSpeech_59 rfl (lv_at hl 4 rfl) ?_
          refine wz_get hx hb hts hown hK hW 0 5 (by decide) e_0 rfl (by decide) inG11 w_310 rfl rfl dX11_bestSpeech_60 ?_
          refine lv_aload_n hx hb dX11_bestSpeech_63 rfl (lv_at hl 4 rfl) ?_
          refine wz_get hx hb hts hown hK hW 0 5 (by decide) e_0 rfl (by decide) inG11 w_310 rfl rfl dX11_bestSpeech_64 ?_
          refine wz_get hx hb hts hown hK hW 24 5 (lt_R isR_24) (e_R isR_24) rfl (by decide) inG6 w_261 rfl rfl dX11_bestSpeech_67 ?_
          refine zi_top (y := σ 18 3) (by (show (spk T_ h_ ((w_ : Nat) : Int) 0) 3 = _; exact e3S)) ?_
          refine lv_aload_n hx hb dX11_bestSpeech_70 rfl (lv_at hl 4 rfl) ?_
          refine wz_get hx hb hts hown hK hW 0 10 (by decide) e_0 rfl (by decide) inG11 w_315 rfl rfl dX11_bestSpeech_71 ?_
          refine k_vv (fr := 4) (lo := 89) (σ' := (us (us (us (us σ 24 (spk T_ h_ ((w_ : Nat) : Int) 0)) 9 A_) 10 S_) 9 (cpy (mn ((us (us (us σ 24 (spk T_ h_ ((w_ : Nat) : Int) 0)) 9 A_) 10 S_) 24)) (wt ((us (us (us σ 24 (spk T_ h_ ((w_ : Nat) : Int) 0)) 9 A_) 10 S_) 24) (σ 18 3)) ((us (us (us σ 24 (spk T_ h_ ((w_ : Nat) : Int) 0)) 9 A_) 10 S_) 9)))) (As := [.int (iI (σ 18 3)), .ref (B + 9)]) (rest := []) hx hb hml hown hts hK hRf hRl hW hS (c_X6_weigh l D cy B (us (us (us σ 24 (spk T_ h_ ((w_ : Nat) : Int) 0)) 9 A_) 10 S_) 24 (σ 18 3) 9 (show isR 24 from isR_24) (show okV ((us (us (us σ 24 (spk T_ h_ ((w_ : Nat) : Int) 0)) 9 A_) 10 S_) 24) from (by show okV (spk T_ h_ ((w_ : Nat) : Int) 0); exact hoS)) (show 9 = 9 ∨ 9 = 10 from (by omega)) (show 0 ≤ (σ 18 3) ∧ (σ 18 3) ≤ 3 from o3)) vX6_weigh ⟨w_535, w_536⟩ w_599 (lt_R isR_24) (e_R isR_24) rfl ⟨Nat.le_of_ble_eq_true rfl, Nat.le_of_ble_eq_true rfl⟩ hl.1 rfl (Nat.le_of_ble_eq_true rfl) ⟨Nat.zero_le _, Nat.zero_le _⟩ dX11_bestSpeech_74 (fun H locs hW hS => ?_)
          rw [show (us (us (us (us σ 24 (spk T_ h_ ((w_ : Nat) : Int) 0)) 9 A_) 10 S_) 9 (cpy (mn ((us (us (us σ 24 (spk T_ h_ ((w_ : Nat) : Int) 0)) 9 A_) 10 S_) 24)) (wt ((us (us (us σ 24 (spk T_ h_ ((w_ : Nat) : Int) 0)) 9 A_) 10 S_) 24) (σ 18 3)) ((us (us (us σ 24 (spk T_ h_ ((w_ : Nat) : Int) 0)) 9 A_) 10 S_) 9))) = (us (us (us σ 24 (spk T_ h_ ((w_ : Nat) : Int) 0)) 9 (cpy (mn (σ 18)) (wt (spk T_ h_ ((w_ : Nat) : Int) 0) (σ 18 3)) A_)) 10 S_) from (by rw [n3_2 _ _ _ _ _ (by decide)]; show us (us (us σ 24 (spk T_ h_ ((w_ : Nat) : Int) 0)) 9 (cpy (mn (spk T_ h_ ((w_ : Nat) : Int) 0)) (wt (spk T_ h_ ((w_ : Nat) : Int) 0) (σ 18 3)) A_)) 10 S_ = _; rw [hmS])] at hW
          refine lv_aload_n hx hb dX11_bestSpeech_77 rfl (lv_at hl 4 rfl) ?_
          refine wz_get hx hb hts hown hK hW 0 10 (by decide) e_0 rfl (by decide) inG11 w_315 rfl rfl dX11_bestSpeech_78 ?_
          refine lv_iload_n hx hb dX11_bestSpeech_81 rfl (lv_at hl 5 rfl) ?_
          refine wz_ald hx hb hK hW 9 h_ (by decide) e_9 (by omega) (by omega) (by decide) dX11_bestSpeech_82 ?_
          refine zi_top (y := wt (spk T_ h_ ((w_ : Nat) : Int) 0) (σ 18 3) h_) (by (show (cpy (mn (σ 18)) (wt (spk T_ h_ ((w_ : Nat) : Int) 0) (σ 18 3)) A_) h_ = _; exact if_pos (by omega))) ?_
          refine lv_istore (lv' := [(6, .int (iI (wt (spk T_ h_ ((w_ : Nat) : Int) 0) (σ 18 3) h_))), (5, .int (iI (((w_ : Nat) : Int)))), (4, .int (iI (bsp (σ 18) h_ 0 (41 * w_)))), (3, .int (iI (bm (σ 18) h_ (41 * w_)))), (2, .int (iI (x_))), (0, .ref (B + 0)), (1, .int (iI (((h_ : Nat) : Int))))]) hx hb dX11_bestSpeech_83 hl (by decide) rfl (fun ls hl => ?_)
          refine zi_con hx hb dX11_bestSpeech_85 ?_
          refine lv_istore (lv' := [(7, .int (iI (0))), (6, .int (iI (wt (spk T_ h_ ((w_ : Nat) : Int) 0) (σ 18 3) h_))), (5, .int (iI (((w_ : Nat) : Int)))), (4, .int (iI (bsp (σ 18) h_ 0 (41 * w_)))), (3, .int (iI (bm (σ 18) h_ (41 * w_)))), (2, .int (iI (x_))), (0, .ref (B + 0)), (1, .int (iI (((h_ : Nat) : Int))))]) hx hb dX11_bestSpeech_86 hl (by decide) rfl (fun ls hl => ?_)
          have L88 : ∀ (n88 : Nat) (n_ : Nat) (B_ : Nat → Int) (S2_ : Nat → Int) (H : Heap) (locs : List Loc) (ls : Array Slot), 41 - n_ < n88 → ((n_ : Int) ≤ x_ + 1) → (∀ j : Nat, j < mn (σ 18) → j ≠ h_ → B_ j = wt (spk T_ h_ ((w_ : Nat) : Int) 0) (σ 18 3) j) → wd D cy B (us (us (us σ 24 (spk T_ h_ ((w_ : Nat) : Int) 0)) 9 B_) 10 S2_) H → va_S (AB B) s.heap H locs → lv_has ls 9 [(7, .int (iI (((n_ : Nat) : Int)))), (6, .int (iI (wt (spk T_ h_ ((w_ : Nat) : Int) 0) (σ 18 3) h_))), (5, .int (iI (((w_ : Nat) : Int)))), (4, .int (iI (bsp (σ 18) h_ 0 (41 * w_ + n_)))), (3, .int (iI (bm (σ 18) h_ (41 * w_ + n_)))), (2, .int (iI (x_))), (0, .ref (B + 0)), (1, .int (iI (((h_ : Nat) : Int))))] → W p l e R s m args below meth c H locs 0 0 Q (F0 m 88 ls []) := by
            intro n88
            induction n88 with
            | zero => intro n_ B_ S2_ H locs ls hms; omega
            | succ n88 ih88 =>
              intro n_ B_ S2_ H locs ls hms88 hn hB hW hS hl
              have hbm := bm_bd hok hh (k := 41 * w_ + n_) (by omega)
              refine lv_iload hx hb dX11_bestSpeech_88 (lv_at hl 0 rfl) ?_
              refine lv_iload_n hx hb dX11_bestSpeech_90 rfl (lv_at hl 5 rfl) ?_
              refine zi_cgt (tgt := 158) hx hb dX11_bestSpeech_91 (by decide) (by omega) (by omega) (fun c91 => ?_) (fun c91 => ?_)
              · refine lv_iinc (v := iI (((w_ : Nat) : Int) + 1)) (lv' := [(5, .int (iI (((w_ : Nat) : Int) + 1))), (7, .int (iI (((n_ : Nat) : Int)))), (6, .int (iI (wt (spk T_ h_ ((w_ : Nat) : Int) 0) (σ 18 3) h_))), (4, .int (iI (bsp (σ 18) h_ 0 (41 * w_ + n_)))), (3, .int (iI (bm (σ 18) h_ (41 * w_ + n_)))), (2, .int (iI (x_))), (0, .ref (B + 0)), (1, .int (iI (((h_ : Nat) : Int))))]) hx hb dX11_bestSpeech_158 hl (k := 2) rfl (iI_add _ _) (by decide) rfl (fun ls hl => ?_)
                refine lv_goto (tgt := 37) hx hb dX11_bestSpeech_161 (by decide) ?_
                have hfin : bm (σ 18) h_ (41 * (w_ + 1)) = bm (σ 18) h_ (41 * w_ + n_) ∧ bsp (σ 18) h_ 0 (41 * (w_ + 1)) = bsp (σ 18) h_ 0 (41 * w_ + n_) := by rw [show 41 * (w_ + 1) = 41 * w_ + 41 from by omega]; rcases hx3 with h | h; (· rw [show n_ = 41 from by omega]; exact ⟨rfl, rfl⟩); (· rw [show n_ = 1 from by omega]; exact bm_skip hok hh h.2 w_ 41 (by omega) 0)
                exact ih37 (w_ + 1) (spk T_ h_ ((w_ : Nat) : Int) 0) B_ S2_ _ _ _ (by omega) (by omega) (fun w => by rw [spk_spk]; exact hT w) (by exact hW) hS (lv_sub hl [0, 3, 4, 5, 6, 7] (by rw [hfin.1, hfin.2]; rfl))
              · refine lv_aload_n hx hb dX11_bestSpeech_94 rfl (lv_at hl 6 rfl) ?_
                refine wz_get hx hb hts hown hK hW 0 10 (by decide) e_0 rfl (by decide) inG11 w_315 rfl rfl dX11_bestSpeech_95 ?_
                refine lv_iload_n hx hb dX11_bestSpeech_98 rfl (lv_at hl 7 rfl) ?_
                refine lv_iload hx hb dX11_bestSpeech_99 (lv_at hl 1 rfl) ?_
                refine lv_iload hx hb dX11_bestSpeech_101 (lv_at hl 0 rfl) ?_
                refine zi_add hx hb dX11_bestSpeech_103 ?_
                refine wz_ast (σ' := (up (us (us (us σ 24 (spk T_ h_ ((w_ : Nat) : Int) 0)) 9 B_) 10 S2_) 9 h_ ((wt (spk T_ h_ ((w_ : Nat) : Int) 0) (σ 18 3) h_) + ((n_ : Nat) : Int)))) hx hb hK hW hS 9 h_ (by decide) e_9 (by omega) (by omega) (by decide) p_9 dX11_bestSpeech_104 (fun H locs hW hS => ?_)
                have hW : wd D cy B (us (us (us σ 24 (spk T_ h_ ((w_ : Nat) : Int) 0)) 9 (uf B_ h_ (wt (spk T_ h_ ((w_ : Nat) : Int) 0) (σ 18 3) h_ + ((n_ : Nat) : Int)))) 10 S2_) H := by unfold up at hW; rw [n3_2 _ _ _ _ _ (by decide)] at hW; exact hW
                refine lv_aload_n hx hb dX11_bestSpeech_105 rfl (lv_at hl 6 rfl) ?_
                refine wz_get hx hb hts hown hK hW 0 5 (by decide) e_0 rfl (by decide) inG11 w_310 rfl rfl dX11_bestSpeech_106 ?_
                refine lv_aload_n hx hb dX11_bestSpeech_109 rfl (lv_at hl 6 rfl) ?_
                refine wz_get hx hb hts hown hK hW 0 10 (by decide) e_0 rfl (by decide) inG11 w_315 rfl rfl dX11_bestSpeech_110 ?_
                refine lv_aload_n hx hb dX11_bestSpeech_113 rfl (lv_at hl 6 rfl) ?_
                refine wz_get hx hb hts hown hK hW 0 11 (by decide) e_0 rfl (by decide) inG11 w_316 rfl rfl dX11_bestSpeech_114 ?_
                refine k_vv (fr := 4) (lo := 89) (σ' := (us (us (us (us σ 24 (spk T_ h_ ((w_ : Nat) : Int) 0)) 9 (uf B_ h_ (wt (spk T_ h_ ((w_ : Nat) : Int) 0) (σ 18 3) h_ + ((n_ : Nat) : Int)))) 10 S2_) 10 (cpy (mn ((us (us (us σ 24 (spk T_ h_ ((w_ : Nat) : Int) 0)) 9 (uf B_ h_ (wt (spk T_ h_ ((w_ : Nat) : Int) 0) (σ 18 3) h_ + ((n_ : Nat) : Int)))) 10 S2_) 24)) (ct ((us (us (us σ 24 (spk T_ h_ ((w_ : Nat) : Int) 0)) 9 (uf B_ h_ (wt (spk T_ h_ ((w_ : Nat) : Int) 0) (σ 18 3) h_ + ((n_ : Nat) : Int)))) 10 S2_) 24 0) ((us (us (us σ 24 (spk T_ h_ ((w_ : Nat) : Int) 0)) 9 (uf B_ h_ (wt (spk T_ h_ ((w_ : Nat) : Int) 0) (σ 18 3) h_ + ((n_ : Nat) : Int)))) 10 S2_) 9) (mn ((us (us (us σ 24 (spk T_ h_ ((w_ : Nat) : Int) 0)) 9 (uf B_ h_ (wt (spk T_ h_ ((w_ : Nat) : Int) 0) (σ 18 3) h_ + ((n_ : Nat) : Int)))) 10 S2_) 24))) ((us (us (us σ 24 (spk T_ h_ ((w_ : Nat) : Int) 0)) 9 (uf B_ h_ (wt (spk T_ h_ ((w_ : Nat) : Int) 0) (σ 18 3) h_ + ((n_ : Nat) : Int)))) 10 S2_) 10)))) (As := [.ref (B + 9), .ref (B + 10)]) (rest := []) hx hb hml hown hts hK hRf hRl hW hS (c_X6_cut l D cy B (us (us (us σ 24 (spk T_ h_ ((w_ : Nat) : Int) 0)) 9 (uf B_ h_ (wt (spk T_ h_ ((w_ : Nat) : Int) 0) (σ 18 3) h_ + ((n_ : Nat) : Int)))) 10 S2_) 24 9 (show isR 24 from isR_24) (show okV ((us (us (us σ 24 (spk T_ h_ ((w_ : Nat) : Int) 0)) 9 (uf B_ h_ (wt (spk T_ h_ ((w_ : Nat) : Int) 0) (σ 18 3) h_ + ((n_ : Nat) : Int)))) 10 S2_) 24) from (by show okV (spk T_ h_ ((w_ : Nat) : Int) 0); exact hoS)) (show 9 = 9 ∨ 9 = 10 from (by omega)) (show ∀ k : Nat, (k : Int) < (us (us (us σ 24 (spk T_ h_ ((w_ : Nat) : Int) 0)) 9 (uf B_ h_ (wt (spk T_ h_ ((w_ : Nat) : Int) 0) (σ 18 3) h_ + ((n_ : Nat) : Int)))) 10 S2_) 24 4 → 1 ≤ (us (us (us σ 24 (spk T_ h_ ((w_ : Nat) : Int) 0)) 9 (uf B_ h_ (wt (spk T_ h_ ((w_ : Nat) : Int) 0) (σ 18 3) h_ + ((n_ : Nat) : Int)))) 10 S2_) 9 k ∧ (us (us (us σ 24 (spk T_ h_ ((w_ : Nat) : Int) 0)) 9 (uf B_ h_ (wt (spk T_ h_ ((w_ : Nat) : Int) 0) (σ 18 3) h_ + ((n_ : Nat) : Int)))) 10 S2_) 9 k ≤ 99 from (fun k hk => by have hk2 : (k : Int) < (spk T_ h_ ((w_ : Nat) : Int) 0) 4 := hk; show 1 ≤ (uf B_ h_ (wt (spk T_ h_ ((w_ : Nat) : Int) 0) (σ 18 3) h_ + ((n_ : Nat) : Int))) k ∧ (uf B_ h_ (wt (spk T_ h_ ((w_ : Nat) : Int) 0) (σ 18 3) h_ + ((n_ : Nat) : Int))) k ≤ 99; unfold uf; have hk3 := hwb k (by omega); split <;> first | omega | (rw [hB k (by omega) (by assumption)]; omega)))) vX6_cut ⟨w_547, w_548⟩ w_600 (lt_R isR_24) (e_R isR_24) rfl ⟨Nat.le_of_ble_eq_true rfl, Nat.le_of_ble_eq_true rfl⟩ hl.1 rfl (Nat.le_of_ble_eq_true rfl) ⟨Nat.zero_le _, Nat.zero_le _⟩ dX11_bestSpeech_117 (fun H locs hW hS => ?_)
                rw [show (us (us (us (us σ 24 (spk T_ h_ ((w_ : Nat) : Int) 0)) 9 (uf B_ h_ (wt (spk T_ h_ ((w_ : Nat) : Int) 0) (σ 18 3) h_ + ((n_ : Nat) : Int)))) 10 S2_) 10 (cpy (mn ((us (us (us σ 24 (spk T_ h_ ((w_ : Nat) : Int) 0)) 9 (uf B_ h_ (wt (spk T_ h_ ((w_ : Nat) : Int) 0) (σ 18 3) h_ + ((n_ : Nat) : Int)))) 10 S2_) 24)) (ct ((us (us (us σ 24 (spk T_ h_ ((w_ : Nat) : Int) 0)) 9 (uf B_ h_ (wt (spk T_ h_ ((w_ : Nat) : Int) 0) (σ 18 3) h_ + ((n_ : Nat) : Int)))) 10 S2_) 24 0) ((us (us (us σ 24 (spk T_ h_ ((w_ : Nat) : Int) 0)) 9 (uf B_ h_ (wt (spk T_ h_ ((w_ : Nat) : Int) 0) (σ 18 3) h_ + ((n_ : Nat) : Int)))) 10 S2_) 9) (mn ((us (us (us σ 24 (spk T_ h_ ((w_ : Nat) : Int) 0)) 9 (uf B_ h_ (wt (spk T_ h_ ((w_ : Nat) : Int) 0) (σ 18 3) h_ + ((n_ : Nat) : Int)))) 10 S2_) 24))) ((us (us (us σ 24 (spk T_ h_ ((w_ : Nat) : Int) 0)) 9 (uf B_ h_ (wt (spk T_ h_ ((w_ : Nat) : Int) 0) (σ 18 3) h_ + ((n_ : Nat) : Int)))) 10 S2_) 10))) = (us (us (us σ 24 (spk T_ h_ ((w_ : Nat) : Int) 0)) 9 (uf B_ h_ (wt (spk T_ h_ ((w_ : Nat) : Int) 0) (σ 18 3) h_ + ((n_ : Nat) : Int)))) 10 (cpy (mn (σ 18)) (ct ((spk T_ h_ ((w_ : Nat) : Int) 0) 0) (uf B_ h_ (wt (spk T_ h_ ((w_ : Nat) : Int) 0) (σ 18 3) h_ + ((n_ : Nat) : Int))) (mn (σ 18))) S2_)) from (by rw [us_us]; show us (us (us σ 24 (spk T_ h_ ((w_ : Nat) : Int) 0)) 9 (uf B_ h_ (wt (spk T_ h_ ((w_ : Nat) : Int) 0) (σ 18 3) h_ + ((n_ : Nat) : Int)))) 10 (cpy (mn (spk T_ h_ ((w_ : Nat) : Int) 0)) (ct ((spk T_ h_ ((w_ : Nat) : Int) 0) 0) (uf B_ h_ (wt (spk T_ h_ ((w_ : Nat) : Int) 0) (σ 18 3) h_ + ((n_ : Nat) : Int))) (mn (spk T_ h_ ((w_ : Nat) : Int) 0))) S2_) = _; rw [hmS])] at hW
                refine lv_aload_n hx hb dX11_bestSpeech_120 rfl (lv_at hl 6 rfl) ?_
                refine wz_get hx hb hts hown hK hW 0 11 (by decide) e_0 rfl (by decide) inG11 w_316 rfl rfl dX11_bestSpeech_121 ?_
                refine lv_iload_n hx hb dX11_bestSpeech_124 rfl (lv_at hl 7 rfl) ?_
                refine wz_ald hx hb hK hW 10 h_ (by decide) e_10 (by omega) (by omega) (by decide) dX11_bestSpeech_125 ?_
                refine zi_top (y := ct ((spk T_ h_ ((w_ : Nat) : Int) 0) 0) (uf B_ h_ (wt (spk T_ h_ ((w_ : Nat) : Int) 0) (σ 18 3) h_ + ((n_ : Nat) : Int))) (mn (σ 18)) h_) (by (show (cpy (mn (σ 18)) (ct ((spk T_ h_ ((w_ : Nat) : Int) 0) 0) (uf B_ h_ (wt (spk T_ h_ ((w_ : Nat) : Int) 0) (σ 18 3) h_ + ((n_ : Nat) : Int))) (mn (σ 18))) S2_) h_ = _; exact if_pos (by omega))) ?_
                refine lv_iload hx hb dX11_bestSpeech_126 (lv_at hl 0 rfl) ?_
                refine zi_con hx hb dX11_bestSpeech_128 ?_
                refine zi_div hx hb dX11_bestSpeech_129 (by omega) (by omega) ?_
                refine zi_sub hx hb dX11_bestSpeech_130 ?_
                have hgk : -10 ≤ gk (σ 18) h_ (41 * w_ + n_) ∧ gk (σ 18) h_ (41 * w_ + n_) ≤ 198 := by rw [gk_at _ _ _ _ (by omega)]; exact gn_bd hok hh (by omega) (by omega)
                refine zi_top (y := gk (σ 18) h_ (41 * w_ + n_)) (by rw [gk_at _ _ _ _ (by omega)]; exact gain_cut hok hh hS0 (by omega) (fun j hj => by unfold uf; split; (· rfl); (· exact hB j hj (by assumption)))) ?_
                refine lv_istore (lv' := [(8, .int (iI (gk (σ 18) h_ (41 * w_ + n_)))), (7, .int (iI (((n_ : Nat) : Int)))), (6, .int (iI (wt (spk T_ h_ ((w_ : Nat) : Int) 0) (σ 18 3) h_))), (5, .int (iI (((w_ : Nat) : Int)))), (4, .int (iI (bsp (σ 18) h_ 0 (41 * w_ + n_)))), (3, .int (iI (bm (σ 18) h_ (41 * w_ + n_)))), (2, .int (iI (x_))), (0, .ref (B + 0)), (1, .int (iI (((h_ : Nat) : Int))))]) hx hb dX11_bestSpeech_131 hl (by decide) rfl (fun ls hl => ?_)
                refine lv_iload hx hb dX11_bestSpeech_133 (lv_at hl 0 rfl) ?_
                refine lv_iload_n hx hb dX11_bestSpeech_135 rfl (lv_at hl 5 rfl) ?_
                refine zi_cle (tgt := 152) hx hb dX11_bestSpeech_136 (by decide) (by omega) (by omega) (fun c136 => ?_) (fun c136 => ?_)
                · refine lv_iinc (v := iI (((n_ : Nat) : Int) + 1)) (lv' := [(7, .int (iI (((n_ : Nat) : Int) + 1))), (8, .int (iI (gk (σ 18) h_ (41 * w_ + n_)))), (6, .int (iI (wt (spk T_ h_ ((w_ : Nat) : Int) 0) (σ 18 3) h_))), (5, .int (iI (((w_ : Nat) : Int)))), (4, .int (iI (bsp (σ 18) h_ 0 (41 * w_ + n_)))), (3, .int (iI (bm (σ 18) h_ (41 * w_ + n_)))), (2, .int (iI (x_))), (0, .ref (B + 0)), (1, .int (iI (((h_ : Nat) : Int))))]) hx hb dX11_bestSpeech_152 hl (k := 1) rfl (iI_add _ _) (by decide) rfl (fun ls hl => ?_)
                  refine lv_goto (tgt := 88) hx hb dX11_bestSpeech_155 (by decide) ?_
                  exact ih88 (n_ + 1) (uf B_ h_ (wt (spk T_ h_ ((w_ : Nat) : Int) 0) (σ 18 3) h_ + ((n_ : Nat) : Int))) (cpy (mn (σ 18)) (ct ((spk T_ h_ ((w_ : Nat) : Int) 0) 0) (uf B_ h_ (wt (spk T_ h_ ((w_ : Nat) : Int) 0) (σ 18 3) h_ + ((n_ : Nat) : Int))) (mn (σ 18))) S2_) _ _ _ (by omega) (by omega) (fun j hj hne => (uf_ne _ _ hne).trans (hB j hj hne)) (by exact hW) hS (lv_sub hl [0, 2, 3, 4, 5, 6, 7, 8] (by first | (rw [show bm (σ 18) h_ (41 * w_ + (n_ + 1)) = gk (σ 18) h_ (41 * w_ + n_) from bm_t (f := σ 18) (h := h_) (k := 41 * w_ + n_) (by omega), show bsp (σ 18) h_ 0 (41 * w_ + (n_ + 1)) = 100 * ((w_ : Nat) : Int) + ((n_ : Nat) : Int) from bsp_t (f := σ 18) (h := h_) (w := w_) (n := n_) (by omega) (by omega)]; rfl) | (rw [show bm (σ 18) h_ (41 * w_ + (n_ + 1)) = bm (σ 18) h_ (41 * w_ + n_) from bm_f (f := σ 18) (h := h_) (k := 41 * w_ + n_) (by omega), show bsp (σ 18) h_ 0 (41 * w_ + (n_ + 1)) = bsp (σ 18) h_ 0 (41 * w_ + n_) from bsp_f (f := σ 18) (h := h_) (k := 41 * w_ + n_) (by omega)]; rfl)))
                · refine lv_iload hx hb dX11_bestSpeech_139 (lv_at hl 0 rfl) ?_
                  refine lv_istore_n (lv' := [(3, .int (iI (gk (σ 18) h_ (41 * w_ + n_)))), (8, .int (iI (gk (σ 18) h_ (41 * w_ + n_)))), (7, .int (iI (((n_ : Nat) : Int)))), (6, .int (iI (wt (spk T_ h_ ((w_ : Nat) : Int) 0) (σ 18 3) h_))), (5, .int (iI (((w_ : Nat) : Int)))), (4, .int (iI (bsp (σ 18) h_ 0 (41 * w_ + n_)))), (2, .int (iI (x_))), (0, .ref (B + 0)), (1, .int (iI (((h_ : Nat) : Int))))]) hx hb dX11_bestSpeech_141 rfl hl (by decide) rfl (fun ls hl => ?_)
                  refine zi_bip hx hb dX11_bestSpeech_142 (by decide) ?_
                  refine lv_iload hx hb dX11_bestSpeech_144 (lv_at hl 4 rfl) ?_
                  refine zi_mul hx hb dX11_bestSpeech_146 ?_
                  refine lv_iload hx hb dX11_bestSpeech_147 (lv_at hl 2 rfl) ?_
                  refine zi_add hx hb dX11_bestSpeech_149 ?_
                  refine lv_istore (lv' := [(4, .int (iI ((100 * ((w_ : Nat) : Int)) + ((n_ : Nat) : Int)))), (3, .int (iI (gk (σ 18) h_ (41 * w_ + n_)))), (8, .int (iI (gk (σ 18) h_ (41 * w_ + n_)))), (7, .int (iI (((n_ : Nat) : Int)))), (6, .int (iI (wt (spk T_ h_ ((w_ : Nat) : Int) 0) (σ 18 3) h_))), (5, .int (iI (((w_ : Nat) : Int)))), (2, .int (iI (x_))), (0, .ref (B + 0)), (1, .int (iI (((h_ : Nat) : Int))))]) hx hb dX11_bestSpeech_150 hl (by decide) rfl (fun ls hl => ?_)
                  refine lv_iinc (v := iI (((n_ : Nat) : Int) + 1)) (lv' := [(7, .int (iI (((n_ : Nat) : Int) + 1))), (4, .int (iI ((100 * ((w_ : Nat) : Int)) + ((n_ : Nat) : Int)))), (3, .int (iI (gk (σ 18) h_ (41 * w_ + n_)))), (8, .int (iI (gk (σ 18) h_ (41 * w_ + n_)))), (6, .int (iI (wt (spk T_ h_ ((w_ : Nat) : Int) 0) (σ 18 3) h_))), (5, .int (iI (((w_ : Nat) : Int)))), (2, .int (iI (x_))), (0, .ref (B + 0)), (1, .int (iI (((h_ : Nat) : Int))))]) hx hb dX11_bestSpeech_152 hl (k := 3) rfl (iI_add _ _) (by decide) rfl (fun ls hl => ?_)
                  refine lv_goto (tgt := 88) hx hb dX11_bestSpeech_155 (by decide) ?_
                  exact ih88 (n_ + 1) (uf B_ h_ (wt (spk T_ h_ ((w_ : Nat) : Int) 0) (σ 18 3) h_ + ((n_ : Nat) : Int))) (cpy (mn (σ 18)) (ct ((spk T_ h_ ((w_ : Nat) : Int) 0) 0) (uf B_ h_ (wt (spk T_ h_ ((w_ : Nat) : Int) 0) (σ 18 3) h_ + ((n_ : Nat) : Int))) (mn (σ 18))) S2_) _ _ _ (by omega) (by omega) (fun j hj hne => (uf_ne _ _ hne).trans (hB j hj hne)) (by exact hW) hS (lv_sub hl [0, 4, 5, 1, 2, 6, 7, 8] (by first | (rw [show bm (σ 18) h_ (41 * w_ + (n_ + 1)) = gk (σ 18) h_ (41 * w_ + n_) from bm_t (f := σ 18) (h := h_) (k := 41 * w_ + n_) (by omega), show bsp (σ 18) h_ 0 (41 * w_ + (n_ + 1)) = 100 * ((w_ : Nat) : Int) + ((n_ : Nat) : Int) from bsp_t (f := σ 18) (h := h_) (w := w_) (n := n_) (by omega) (by omega)]; rfl) | (rw [show bm (σ 18) h_ (41 * w_ + (n_ + 1)) = bm (σ 18) h_ (41 * w_ + n_) from bm_f (f := σ 18) (h := h_) (k := 41 * w_ + n_) (by omega), show bsp (σ 18) h_ 0 (41 * w_ + (n_ + 1)) = bsp (σ 18) h_ 0 (41 * w_ + n_) from bsp_f (f := σ 18) (h := h_) (k := 41 * w_ + n_) (by omega)]; rfl)))
          exact L88 _ 0 (cpy (mn (σ 18)) (wt (spk T_ h_ ((w_ : Nat) : Int) 0) (σ 18 3)) A_) S_ _ _ _ (Nat.lt_succ_self _) (by omega) (fun j hj _ => if_pos hj) (by exact hW) hS (lv_sub hl [0, 1, 2, 3, 4, 5, 6, 7] rfl)
    exact L37 _ 0 (tkN (σ 24) (σ 18) (mn (σ 18))) (σ 9) (σ 10) _ _ _ (Nat.lt_succ_self _) (by omega) (fun w => eqR_uf (eqR_uf (eqR_uf hq (by omega) _) (by omega) _) (by omega) _) (by show wd D cy B (us (us (us σ 24 (tkN (σ 24) (σ 18) (mn (σ 18)))) 9 ((us σ 24 (tkN (σ 24) (σ 18) (mn (σ 18)))) 9)) 10 ((us σ 24 (tkN (σ 24) (σ 18) (mn (σ 18)))) 10)) _; rw [us_id, us_id]; exact hW) hS (lv_sub hl [0, 1, 2, 3, 4, 5] rfl)
  refine zi_cne (tgt := 16) hx hb dX11_bestSpeech_8 (by decide) (by omega) (by omega) (fun c8 => ?_) (fun c8 => ?_)
  · refine zi_con hx hb dX11_bestSpeech_16 ?_
    exact J17 0 _ _ _ (by omega) hW hS (lv_sub hl [0, 1] rfl)
  · refine zi_bip hx hb dX11_bestSpeech_11 (by decide) ?_
    refine lv_goto (tgt := 17) hx hb dX11_bestSpeech_13 (by decide) ?_
    exact J17 40 _ _ _ (by omega) hW hS (lv_sub hl [0, 1] rfl)

set_option maxRecDepth 100000 in
set_option maxHeartbeats 4000000 in
theorem c_X11_best (l : Launch) (D : va_G) (cy : Nat → ClassId) (B : Nat) (σ : Sg) (h_ : Int) (w_ : Int) (r_h_ : -2147483648 ≤ h_ ∧ h_ < 2147483648) (r_w_ : -2147483648 ≤ w_ ∧ w_ < 2147483648) (hok : σ 18 4 = 0 ∨ okV (σ 18)) : CIe l yX11_best cX11_best 4 (some .int) 6 134 D cy B [.ref (B + 0), .int (iI (h_)), .int (iI (w_))] σ (if ¬ (0 ≤ h_ ∧ h_ ≤ σ 18 4 - 1) ∨ ¬ (0 ≤ w_ ∧ w_ ≤ 1) then -1000001 else if w_ = 0 then bm (σ 18) h_.toNat 779 else bsp (σ 18) h_.toNat 0 779) (fun u => ∃ (T_ : Nat → Int) (A_ : Nat → Int) (S_ : Nat → Int), u = us (us (us σ 24 T_) 9 A_) 10 S_) := by
  refine CIe_of (ty := .int) (by decide) (rfl) (Nat.le_of_ble_eq_true rfl) ?_
  intro p e R s m args below meth c Q hx hb hml hown hts hK hRf hRl hW hret ls hl
  have hown : s.vm.findClass "LoveParts" = some m.cls := hown
  have hS : va_S (AB B) s.heap s.heap [] := va_S.rf
  have hl : lv_has ls 4 [(0, .ref (B + 0)), (1, .int (iI (h_))), (2, .int (iI (w_)))] := hl
  have f4 : 0 ≤ σ 18 4 ∧ σ 18 4 ≤ 4 := by rcases hok with h | h; (· omega); (· exact ⟨by have := h.1; omega, h.1.2⟩)
  refine lv_aload_n hx hb dX11_best_0 rfl (lv_at hl 0 rfl) ?_
  refine lv_iload_n hx hb dX11_best_1 rfl (lv_at hl 1 rfl) ?_
  refine k_vi (fr := 6) (lo := 134) (r := (if 0 ≤ h_ ∧ h_ ≤ σ 18 4 - 1 then 1 else 0)) (As := [.int (iI (h_))]) (rest := []) hx hb hml hown hts hK hRf hRl hW hS (c_X11_isHeir l D cy B σ h_ (show -2147483648 ≤ h_ ∧ h_ < 2147483648 from (by first | assumption | omega | (simp only [tpL_25, tcL_1, List.length_cons, List.length_nil]; omega))) (show 0 ≤ σ 18 4 ∧ σ 18 4 ≤ 4 from (by first | assumption | omega | (simp only [tpL_25, tcL_1, List.length_cons, List.length_nil]; omega)))) vX11_isHeir ⟨w_486, w_3⟩ w_484 (by decide) e_0 rfl ⟨Nat.le_of_ble_eq_true rfl, Nat.le_of_ble_eq_true rfl⟩ hl.1 rfl (Nat.le_of_ble_eq_true rfl) ⟨Nat.zero_le _, Nat.zero_le _⟩ dX11_best_2 (fun H locs hW hS => ?_)
  refine zi_beq (tgt := 17) hx hb dX11_best_5 (by decide) (fun c5 => ?_) (fun c5 => ?_)
  · refine k_ldc hx hb hown hts (v := -1000001) (by decide) w_361 dX11_best_17 ?_
    exact hret _ _ _ _ _ _ dX11_best_19 hW hS ⟨by (try simp only [Int.toNat_natCast]); (repeat' split) <;> first | rfl | omega, σ 24, σ 9, σ 10, by rw [us_id, us_id, us_id]⟩
  · obtain ⟨n_, rfl⟩ : ∃ h : Nat, h_ = (h : Int) := ⟨h_.toNat, by omega⟩
    have hok := hok.resolve_left (by omega)
    obtain ⟨o4, o0, o1, o2, o3, o5, o6, o7, oH⟩ := id hok
    have hbg := bsp_gn hok (h := n_) (by omega) 0 778 (by omega)
    refine lv_iload_n hx hb dX11_best_8 rfl (lv_at hl 2 rfl) ?_
    refine zi_con hx hb dX11_best_9 ?_
    refine zi_con hx hb dX11_best_10 ?_
    refine k_si (fr := 6) (lo := 134) (r := (if 0 ≤ w_ ∧ w_ ≤ 1 then 1 else 0)) (As := [.int (iI (w_)), .int (iI (0)), .int (iI (1))]) (rest := []) hx hb hml hown hts hK hRf hRl hW hS (c_X11_within l D cy B σ w_ 0 1 (show -2147483648 ≤ w_ ∧ w_ < 2147483648 from (by first | assumption | omega | (simp only [tpL_25, tcL_1, List.length_cons, List.length_nil]; omega))) (show -2147483648 ≤ 0 ∧ 0 < 2147483648 from (by first | assumption | omega | (simp only [tpL_25, tcL_1, List.length_cons, List.length_nil]; omega))) (show -2147483648 ≤ 1 ∧ 1 < 2147483648 from (by first | assumption | omega | (simp only [tpL_25, tcL_1, List.length_cons, List.length_nil]; omega)))) vX11_within w_359 w_358 ⟨Nat.le_of_ble_eq_true rfl, Nat.le_of_ble_eq_true rfl⟩ hl.1 rfl (Nat.le_of_ble_eq_true rfl) ⟨Nat.zero_le _, Nat.zero_le _⟩ dX11_best_11 (fun H locs hW hS => ?_)
    refine zi_bne (tgt := 20) hx hb dX11_best_14 (by decide) (fun c14 => ?_) (fun c14 => ?_)
    · refine lv_aload_n hx hb dX11_best_20 rfl (lv_at hl 0 rfl) ?_
      refine lv_iload_n hx hb dX11_best_21 rfl (lv_at hl 1 rfl) ?_
      refine k_vie (fr := 6) (lo := 134) (r := bsp (σ 18) n_ 0 779) (As := [.int (iI (((n_ : Nat) : Int)))]) (rest := []) hx hb hml hown hts hK hRf hRl hW hS (c_X11_bestSpeech l D cy B σ n_ (show okV (σ 18) from (by first | assumption | omega | (simp only [tpL_25, tcL_1, List.length_cons, List.length_nil]; omega))) (show (n_ : Int) < σ 18 4 from (by first | assumption | omega | (simp only [tpL_25, tcL_1, List.length_cons, List.length_nil]; omega)))) vX11_bestSpeech ⟨w_597, w_6⟩ w_595 (by decide) e_0 rfl ⟨Nat.le_of_ble_eq_true rfl, Nat.le_of_ble_eq_true rfl⟩ hl.1 rfl (Nat.le_of_ble_eq_true rfl) ⟨Nat.zero_le _, Nat.zero_le _⟩ dX11_best_22 (fun τ H locs hτ hW hS => ?_)
      obtain ⟨T__22, A__22, S__22, rfl⟩ := hτ
      refine lv_istore_n (lv' := [(3, .int (iI (bsp (σ 18) n_ 0 779))), (0, .ref (B + 0)), (1, .int (iI (((n_ : Nat) : Int)))), (2, .int (iI (w_)))]) hx hb dX11_best_25 rfl hl (by decide) rfl (fun ls hl => ?_)
      refine lv_iload_n hx hb dX11_best_26 rfl (lv_at hl 3 rfl) ?_
      refine zi_ne (tgt := 39) hx hb dX11_best_27 (by decide) (by omega) (fun c27 => ?_) (fun c27 => ?_)
      · refine lv_iload_n hx hb dX11_best_39 rfl (lv_at hl 0 rfl) ?_
        exact hret _ _ _ _ _ _ dX11_best_40 hW hS ⟨by simp only [Int.toNat_natCast]; (repeat' split) <;> first | rfl | omega, _, _, _, rfl⟩
      · refine lv_aload_n hx hb dX11_best_30 rfl (lv_at hl 1 rfl) ?_
        refine lv_iload_n hx hb dX11_best_31 rfl (lv_at hl 2 rfl) ?_
        refine lv_iload_n hx hb dX11_best_32 rfl (lv_at hl 0 rfl) ?_
        refine k_vie (fr := 6) (lo := 134) (r := shr (uf (uf (uf (σ 18) (20 + n_) 1) (24 + n_) ((bsp (σ 18) n_ 0 779) / 100)) (28 + n_) ((bsp (σ 18) n_ 0 779) % 100)) (σ 18 3) n_ - (bsp (σ 18) n_ 0 779) % 100 / 4) (As := [.int (iI (((n_ : Nat) : Int))), .int (iI (bsp (σ 18) n_ 0 779))]) (rest := []) hx hb hml hown hts hK hRf hRl hW hS (c_X11_gainBySpeech l D cy B (us (us (us σ 24 T__22) 9 A__22) 10 S__22) n_ (bsp (σ 18) n_ 0 779) (show okV (σ 18) from (by first | assumption | omega | (simp only [tpL_25, tcL_1, List.length_cons, List.length_nil]; omega))) (show (n_ : Int) < σ 18 4 from (by first | assumption | omega | (simp only [tpL_25, tcL_1, List.length_cons, List.length_nil]; omega))) (show 0 ≤ (bsp (σ 18) n_ 0 779) ∧ (bsp (σ 18) n_ 0 779) / 100 ≤ 18 ∧ (bsp (σ 18) n_ 0 779) % 100 ≤ 40 from hbg.1)) vX11_gainBySpeech ⟨w_603, w_7⟩ w_601 (by decide) e_0 rfl ⟨Nat.le_of_ble_eq_true rfl, Nat.le_of_ble_eq_true rfl⟩ hl.1 rfl (Nat.le_of_ble_eq_true rfl) ⟨Nat.zero_le _, Nat.zero_le _⟩ dX11_best_33 (fun τ H locs hτ hW hS => ?_)
        obtain ⟨T__33, S__33, rfl⟩ := hτ
        rw [show (us (us (us (us (us σ 24 T__22) 9 A__22) 10 S__22) 24 T__33) 10 S__33) = (us (us (us σ 24 T__33) 9 A__22) 10 S__33) from (by rw [n3_1 _ _ _ _ _ (by decide), us_us])] at hW
        refine zi_top (y := bm (σ 18) n_ 779) (by exact hbg.2.symm) ?_
        refine lv_goto (tgt := 40) hx hb dX11_best_36 (by decide) ?_
        exact hret _ _ _ _ _ _ dX11_best_40 hW hS ⟨by simp only [Int.toNat_natCast]; (repeat' split) <;> first | rfl | omega, _, _, _, rfl⟩
    · refine k_ldc hx hb hown hts (v := -1000001) (by decide) w_361 dX11_best_17 ?_
      exact hret _ _ _ _ _ _ dX11_best_19 hW hS ⟨by (try simp only [Int.toNat_natCast]); (repeat' split) <;> first | rfl | omega, σ 24, σ 9, σ 10, by rw [us_id, us_id, us_id]⟩

set_option maxRecDepth 100000 in
set_option maxHeartbeats 4000000 in
theorem c_X11_rather (l : Launch) (D : va_G) (cy : Nat → ClassId) (B : Nat) (σ : Sg)  (hok : σ 18 4 = 0 ∨ okV (σ 18)) : CIe l yX11_rather cX11_rather 3 (some .int) 6 134 D cy B [.ref (B + 0)] σ (if σ 18 4 = 0 then -1000002 else bt (raP (σ 18)) (mn (σ 18))) (fun u => ∃ (T_ : Nat → Int) (A_ : Nat → Int) (S_ : Nat → Int), u = us (us (us σ 24 T_) 9 A_) 10 S_) := by
  refine CIe_of (ty := .int) (by decide) (rfl) (Nat.le_of_ble_eq_true rfl) ?_
  intro p e R s m args below meth c Q hx hb hml hown hts hK hRf hRl hW hret ls hl
  have hown : s.vm.findClass "LoveParts" = some m.cls := hown
  have hS : va_S (AB B) s.heap s.heap [] := va_S.rf
  have hl : lv_has ls 3 [(0, .ref (B + 0))] := hl
  have f4 : 0 ≤ σ 18 4 ∧ σ 18 4 ≤ 4 := by rcases hok with h | h; (· omega); (· exact ⟨by have := h.1; omega, h.1.2⟩)
  refine lv_aload_n hx hb dX11_rather_0 rfl (lv_at hl 0 rfl) ?_
  refine k_vi (fr := 6) (lo := 134) (r := (if σ 18 4 = 0 then 1 else 0)) (As := []) (rest := []) hx hb hml hown hts hK hRf hRl hW hS (c_X11_noRealm l D cy B σ  (show 0 ≤ σ 18 4 ∧ σ 18 4 ≤ 4 from (by first | assumption | omega | (simp only [tpL_25, tcL_1, List.length_cons, List.length_nil]; omega)))) vX11_noRealm ⟨w_528, w_5⟩ w_526 (by decide) e_0 rfl ⟨Nat.le_of_ble_eq_true rfl, Nat.le_of_ble_eq_true rfl⟩ hl.1 rfl (Nat.le_of_ble_eq_true rfl) ⟨Nat.zero_le _, Nat.zero_le _⟩ dX11_rather_1 (fun H locs hW hS => ?_)
  refine zi_beq (tgt := 10) hx hb dX11_rather_4 (by decide) (fun c4 => ?_) (fun c4 => ?_)
  · have hok := hok.resolve_left (by omega)
    obtain ⟨o4, o0, o1, o2, o3, o5, o6, o7, oH⟩ := id hok
    have hmn : ((mn (σ 18) : Nat) : Int) = σ 18 4 := by unfold mn; omega
    refine zi_con hx hb dX11_rather_10 ?_
    refine lv_istore_n (lv' := [(1, .int (iI (0))), (0, .ref (B + 0))]) hx hb dX11_rather_11 rfl hl (by decide) rfl (fun ls hl => ?_)
    refine zi_con hx hb dX11_rather_12 ?_
    refine lv_istore_n (lv' := [(2, .int (iI (0))), (1, .int (iI (0))), (0, .ref (B + 0))]) hx hb dX11_rather_13 rfl hl (by decide) rfl (fun ls hl => ?_)
    have L14 : ∀ (n14 : Nat) (h_ : Nat) (T_ : Nat → Int) (A_ : Nat → Int) (S_ : Nat → Int) (H : Heap) (locs : List Loc) (ls : Array Slot), 4 - h_ < n14 → ((h_ : Int) ≤ σ 18 4) → wd D cy B (us (us (us σ 24 T_) 9 A_) 10 S_) H → va_S (AB B) s.heap H locs → lv_has ls 3 [(2, .int (iI (((h_ : Nat) : Int)))), (1, .int (iI (bt (raP (σ 18)) h_))), (0, .ref (B + 0))] → W p l e R s m args below meth c H locs 0 0 Q (F0 m 14 ls []) := by
      intro n14
      induction n14 with
      | zero => intro h_ T_ A_ S_ H locs ls hms; omega
      | succ n14 ih14 =>
        intro h_ T_ A_ S_ H locs ls hms14 hh4 hW hS hl
        refine lv_iload_n hx hb dX11_rather_14 rfl (lv_at hl 0 rfl) ?_
        refine lv_aload_n hx hb dX11_rather_15 rfl (lv_at hl 2 rfl) ?_
        refine wz_get hx hb hts hown hK hW 0 4 (by decide) e_0 rfl (by decide) inG11 w_309 rfl rfl dX11_rather_16 ?_
        refine wz_get hx hb hts hown hK hW 18 1 (lt_R isR_18) (e_R isR_18) rfl (by decide) inG6 w_249 rfl rfl dX11_rather_19 ?_
        refine zi_top (y := σ 18 4) (by (first | rfl | (simp [us, uf, nS] <;> omega))) ?_
        refine zi_cge (tgt := 55) hx hb dX11_rather_22 (by decide) (by omega) (by omega) (fun c22 => ?_) (fun c22 => ?_)
        · have hmh : mn (σ 18) = h_ := by omega
          refine lv_iload_n hx hb dX11_rather_55 rfl (lv_at hl 1 rfl) ?_
          exact hret _ _ _ _ _ _ dX11_rather_56 hW hS ⟨by rw [if_neg (by omega), hmh], _, _, _, rfl⟩
        · have hh : (h_ : Int) < σ 18 4 := by omega
          obtain ⟨k8, k12, k16, k20, k24, k28, k32, k36, k40, k44⟩ := oH h_ hh
          have hbg := bsp_gn hok hh 0 778 (by omega)
          have hbm := bm_bd hok hh (k := 779) (by omega)
          have hsb := shr_bd hok (σ 18 3) hh
          have hnb : -10 ≤ nowg (σ 18) h_ ∧ nowg (σ 18) h_ ≤ 198 := by unfold nowg; omega
          refine lv_aload_n hx hb dX11_rather_25 rfl (lv_at hl 2 rfl) ?_
          refine lv_iload_n hx hb dX11_rather_26 rfl (lv_at hl 0 rfl) ?_
          refine lv_aload_n hx hb dX11_rather_27 rfl (lv_at hl 2 rfl) ?_
          refine lv_iload_n hx hb dX11_rather_28 rfl (lv_at hl 0 rfl) ?_
          refine k_vie (fr := 6) (lo := 134) (r := bsp (σ 18) h_ 0 779) (As := [.int (iI (((h_ : Nat) : Int)))]) (rest := [.int (iI (((h_ : Nat) : Int))), .ref (B + 0)]) hx hb hml hown hts hK hRf hRl hW hS (c_X11_bestSpeech l D cy B (us (us (us σ 24 T_) 9 A_) 10 S_) h_ (show okV (σ 18) from (by first | assumption | omega | (simp only [tpL_25, tcL_1, List.length_cons, List.length_nil]; omega))) (show (h_ : Int) < σ 18 4 from (by first | assumption | omega | (simp only [tpL_25, tcL_1, List.length_cons, List.length_nil]; omega)))) vX11_bestSpeech ⟨w_597, w_6⟩ w_595 (by decide) e_0 rfl ⟨Nat.le_of_ble_eq_true rfl, Nat.le_of_ble_eq_true rfl⟩ hl.1 rfl (Nat.le_of_ble_eq_true rfl) ⟨Nat.zero_le _, Nat.zero_le _⟩ dX11_rather_29 (fun τ H locs hτ hW hS => ?_)
          obtain ⟨T__29, A__29, S__29, rfl⟩ := hτ
          rw [show (us (us (us (us (us (us σ 24 T_) 9 A_) 10 S_) 24 T__29) 9 A__29) 10 S__29) = (us (us (us σ 24 T__29) 9 A__29) 10 S__29) from (by rw [n3_1 _ _ _ _ _ (by decide), n3_1 _ _ _ _ _ (by decide), n3_1 _ _ _ _ _ (by decide)])] at hW
          refine k_vie (fr := 6) (lo := 134) (r := shr (uf (uf (uf (σ 18) (20 + h_) 1) (24 + h_) ((bsp (σ 18) h_ 0 779) / 100)) (28 + h_) ((bsp (σ 18) h_ 0 779) % 100)) (σ 18 3) h_ - (bsp (σ 18) h_ 0 779) % 100 / 4) (As := [.int (iI (((h_ : Nat) : Int))), .int (iI (bsp (σ 18) h_ 0 779))]) (rest := []) hx hb hml hown hts hK hRf hRl hW hS (c_X11_gainBySpeech l D cy B (us (us (us σ 24 T__29) 9 A__29) 10 S__29) h_ (bsp (σ 18) h_ 0 779) (show okV (σ 18) from (by first | assumption | omega | (simp only [tpL_25, tcL_1, List.length_cons, List.length_nil]; omega))) (show (h_ : Int) < σ 18 4 from (by first | assumption | omega | (simp only [tpL_25, tcL_1, List.length_cons, List.length_nil]; omega))) (show 0 ≤ (bsp (σ 18) h_ 0 779) ∧ (bsp (σ 18) h_ 0 779) / 100 ≤ 18 ∧ (bsp (σ 18) h_ 0 779) % 100 ≤ 40 from hbg.1)) vX11_gainBySpeech ⟨w_603, w_7⟩ w_601 (by decide) e_0 rfl ⟨Nat.le_of_ble_eq_true rfl, Nat.le_of_ble_eq_true rfl⟩ hl.1 rfl (Nat.le_of_ble_eq_true rfl) ⟨Nat.zero_le _, Nat.zero_le _⟩ dX11_rather_32 (fun τ H locs hτ hW hS => ?_)
          obtain ⟨T__32, S__32, rfl⟩ := hτ
          rw [show (us (us (us (us (us σ 24 T__29) 9 A__29) 10 S__29) 24 T__32) 10 S__32) = (us (us (us σ 24 T__32) 9 A__29) 10 S__32) from (by rw [n3_1 _ _ _ _ _ (by decide), us_us])] at hW
          refine zi_top (y := bm (σ 18) h_ 779) (by exact hbg.2.symm) ?_
          refine lv_aload_n hx hb dX11_rather_35 rfl (lv_at hl 2 rfl) ?_
          refine lv_iload_n hx hb dX11_rather_36 rfl (lv_at hl 0 rfl) ?_
          refine k_vi (fr := 6) (lo := 134) (r := shr (σ 18) (σ 18 3) h_ - σ 18 (28 + h_) / 4) (σ' := (us (us (us (us σ 24 T__32) 9 A__29) 10 S__32) 10 (cpy (mn (σ 18)) (shr (σ 18) (σ 18 3)) ((us (us (us σ 24 T__32) 9 A__29) 10 S__32) 10)))) (As := [.int (iI (((h_ : Nat) : Int)))]) (rest := [.int (iI (bm (σ 18) h_ 779))]) hx hb hml hown hts hK hRf hRl hW hS (c_X11_gainNow l D cy B (us (us (us σ 24 T__32) 9 A__29) 10 S__32) h_ (show okV (σ 18) from (by first | assumption | omega | (simp only [tpL_25, tcL_1, List.length_cons, List.length_nil]; omega))) (show (h_ : Int) < σ 18 4 from (by first | assumption | omega | (simp only [tpL_25, tcL_1, List.length_cons, List.length_nil]; omega)))) vX11_gainNow ⟨w_611, w_8⟩ w_609 (by decide) e_0 rfl ⟨Nat.le_of_ble_eq_true rfl, Nat.le_of_ble_eq_true rfl⟩ hl.1 rfl (Nat.le_of_ble_eq_true rfl) ⟨Nat.zero_le _, Nat.zero_le _⟩ dX11_rather_37 (fun H locs hW hS => ?_)
          rw [show (us (us (us (us σ 24 T__32) 9 A__29) 10 S__32) 10 (cpy (mn (σ 18)) (shr (σ 18) (σ 18 3)) ((us (us (us σ 24 T__32) 9 A__29) 10 S__32) 10))) = (us (us (us σ 24 T__32) 9 A__29) 10 (cpy (mn (σ 18)) (shr (σ 18) (σ 18 3)) S__32)) from (by rw [us_us]; rfl)] at hW
          refine zi_top (y := nowg (σ 18) h_) (by rfl) ?_
          refine zi_cle (tgt := 49) hx hb dX11_rather_40 (by decide) (by omega) (by omega) (fun c40 => ?_) (fun c40 => ?_)
          · refine lv_iinc (v := iI (((h_ : Nat) : Int) + 1)) (lv' := [(2, .int (iI (((h_ : Nat) : Int) + 1))), (1, .int (iI (bt (raP (σ 18)) h_))), (0, .ref (B + 0))]) hx hb dX11_rather_49 hl (k := 0) rfl (iI_add _ _) (by decide) rfl (fun ls hl => ?_)
            refine lv_goto (tgt := 14) hx hb dX11_rather_52 (by decide) ?_
            exact ih14 (h_ + 1) T__32 A__29 (cpy (mn (σ 18)) (shr (σ 18) (σ 18 3)) S__32) _ _ _ (by omega) (by omega) (by exact hW) hS (lv_sub hl [0, 1, 2] (by first | (rw [bt_t (P := raP (σ 18)) (n := h_) (decide_eq_true (show nowg (σ 18) h_ < bm (σ 18) h_ 779 by omega))]; rfl) | (rw [bt_f (P := raP (σ 18)) (n := h_) (fun h9 => absurd (of_decide_eq_true h9) (show ¬ nowg (σ 18) h_ < bm (σ 18) h_ 779 by omega))]; rfl)))
          · refine lv_iload_n hx hb dX11_rather_43 rfl (lv_at hl 1 rfl) ?_
            refine zi_con hx hb dX11_rather_44 ?_
            refine lv_iload_n hx hb dX11_rather_45 rfl (lv_at hl 0 rfl) ?_
            refine zi_shl (k := h_) hx hb (by omega) (by omega) dX11_rather_46 ?_
            refine zi_or hx hb dX11_rather_47 ?_
            refine lv_istore_n (lv' := [(1, .int (iI (orI (bt (raP (σ 18)) h_) (p2 h_)))), (2, .int (iI (((h_ : Nat) : Int)))), (0, .ref (B + 0))]) hx hb dX11_rather_48 rfl hl (by decide) rfl (fun ls hl => ?_)
            refine lv_iinc (v := iI (((h_ : Nat) : Int) + 1)) (lv' := [(2, .int (iI (((h_ : Nat) : Int) + 1))), (1, .int (iI (orI (bt (raP (σ 18)) h_) (p2 h_)))), (0, .ref (B + 0))]) hx hb dX11_rather_49 hl (k := 1) rfl (iI_add _ _) (by decide) rfl (fun ls hl => ?_)
            refine lv_goto (tgt := 14) hx hb dX11_rather_52 (by decide) ?_
            exact ih14 (h_ + 1) T__32 A__29 (cpy (mn (σ 18)) (shr (σ 18) (σ 18 3)) S__32) _ _ _ (by omega) (by omega) (by exact hW) hS (lv_sub hl [0, 1, 2] (by first | (rw [bt_t (P := raP (σ 18)) (n := h_) (decide_eq_true (show nowg (σ 18) h_ < bm (σ 18) h_ 779 by omega))]; rfl) | (rw [bt_f (P := raP (σ 18)) (n := h_) (fun h9 => absurd (of_decide_eq_true h9) (show ¬ nowg (σ 18) h_ < bm (σ 18) h_ 779 by omega))]; rfl)))
    exact L14 _ 0 (σ 24) (σ 9) (σ 10) _ _ _ (Nat.lt_succ_self _) (by omega) (by rw [us_id, us_id, us_id]; exact hW) hS (lv_sub hl [0, 1, 2] rfl)
  · refine k_ldc hx hb hown hts (v := -1000002) (by decide) w_479 dX11_rather_7 ?_
    exact hret _ _ _ _ _ _ dX11_rather_9 hW hS ⟨by (try simp only [Int.toNat_natCast]); (repeat' split) <;> first | rfl | omega, σ 24, σ 9, σ 10, by rw [us_id, us_id, us_id]⟩
