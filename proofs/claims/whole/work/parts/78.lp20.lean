
set_option maxRecDepth 100000 in
set_option maxHeartbeats 4000000 in
theorem c_X11_truestGetsMost (l : Launch) (D : va_G) (cy : Nat → ClassId) (B : Nat) (σ : Sg) (e_ : Nat) (b_ : Int) (hok : okV (σ 18)) (he : (e_ : Int) < σ 18 4) (hb2 : 0 ≤ b_ ∧ b_ ≤ 3) : CIe l yX11_truestGetsMost cX11_truestGetsMost 5 (some .boolean) 5 111 D cy B [.ref (B + 0), .int (iI (((e_ : Nat) : Int))), .int (iI (b_))] σ ((if trB (σ 18) b_ e_ 256 = true then 1 else 0)) (fun u => ∃ (T_ : Nat → Int) (S_ : Nat → Int), u = us (us σ 24 T_) 10 S_) := by
  refine CIe_of (ty := .boolean) (by decide) (nb_ite) (Nat.le_of_ble_eq_true rfl) ?_
  intro p e R s m args below meth c Q hx hb hml hown hts hK hRf hRl hW hret ls hl
  have hown : s.vm.findClass "LoveParts" = some m.cls := hown
  have hS : va_S (AB B) s.heap s.heap [] := va_S.rf
  have hl : lv_has ls 5 [(0, .ref (B + 0)), (1, .int (iI (((e_ : Nat) : Int)))), (2, .int (iI (b_)))] := hl
  obtain ⟨o4, o0, o1, o2, o3, o5, o6, o7, oH⟩ := id hok
  have hq : eqR (tkN (σ 24) (σ 18) (mn (σ 18))) (σ 18) := eqR_tk _ o4
  have hkt := eqR_okV hq hok
  have e5 : tkN (σ 24) (σ 18) (mn (σ 18)) 5 = σ 18 5 := rfl
  have e4 : tkN (σ 24) (σ 18) (mn (σ 18)) 4 = σ 18 4 := rfl
  have hmn : ((mn (σ 18) : Nat) : Int) = σ 18 4 := by unfold mn; omega
  have h4p := four_pow (m := mn (σ 18)) (by omega)
  have htp := trB_per (σ 18) b_ e_ (by omega)
  refine lv_aload_n hx hb dX11_truestGetsMost_0 rfl (lv_at hl 0 rfl) ?_
  refine wz_get hx hb hts hown hK hW 0 5 (by decide) e_0 rfl (by decide) inG11 w_310 rfl rfl dX11_truestGetsMost_1 ?_
  refine lv_aload_n hx hb dX11_truestGetsMost_4 rfl (lv_at hl 0 rfl) ?_
  refine wz_get hx hb hts hown hK hW 0 4 (by decide) e_0 rfl (by decide) inG11 w_309 rfl rfl dX11_truestGetsMost_5 ?_
  refine k_vv (fr := 5) (lo := 111) (σ' := (us σ 24 (tkN (σ 24) (σ 18) (mn (σ 18))))) (As := [.ref (B + 18)]) (rest := []) hx hb hml hown hts hK hRf hRl hW hS (c_X6_take l D cy B σ 24 18 (show isR 24 from isR_24) (show isR 18 from isR_18) (show 24 ≠ 18 from (by decide)) (show 0 ≤ σ 18 4 ∧ σ 18 4 ≤ 4 from (by omega)) (show σ 18 7 = 0 ∨ σ 18 7 = 1 from o7) (show ∀ h : Nat, (h : Int) < σ 18 4 → σ 18 (20 + h) = 0 ∨ σ 18 (20 + h) = 1 from (fun h hh => (oH h hh).2.2.2.1))) vX6_take ⟨w_460, w_461⟩ w_459 (lt_R isR_24) (e_R isR_24) rfl ⟨Nat.le_of_ble_eq_true rfl, Nat.le_of_ble_eq_true rfl⟩ hl.1 rfl (Nat.le_of_ble_eq_true rfl) ⟨Nat.zero_le _, Nat.zero_le _⟩ dX11_truestGetsMost_8 (fun H locs hW hS => ?_)
  refine zi_con hx hb dX11_truestGetsMost_11 ?_
  refine lv_istore_n (lv' := [(3, .int (iI (0))), (0, .ref (B + 0)), (1, .int (iI (((e_ : Nat) : Int)))), (2, .int (iI (b_)))]) hx hb dX11_truestGetsMost_12 rfl hl (by decide) rfl (fun ls hl => ?_)
  have L13 : ∀ (n13 : Nat) (c_ : Nat) (T_ : Nat → Int) (S_ : Nat → Int) (F_ : Nat → Int) (H : Heap) (locs : List Loc) (ls : Array Slot), 256 - c_ < n13 → (c_ ≤ 4 ^ mn (σ 18)) → (eqR T_ F_) → (∀ k : Int, tw F_ k (mn (σ 18)) = tw (σ 18) k (mn (σ 18))) → (F_ 4 = σ 18 4) → (∀ j : Nat, j < 4 → F_ (28 + j) = σ 18 (28 + j)) → (trB (σ 18) b_ e_ c_ = true) → wd D cy B (us (us σ 24 T_) 10 S_) H → va_S (AB B) s.heap H locs → lv_has ls 5 [(3, .int (iI (((c_ : Nat) : Int)))), (0, .ref (B + 0)), (1, .int (iI (((e_ : Nat) : Int)))), (2, .int (iI (b_)))] → W p l e R s m args below meth c H locs 0 0 Q (F0 m 13 ls []) := by
    intro n13
    induction n13 with
    | zero => intro c_ T_ S_ F_ H locs ls hms; omega
    | succ n13 ih13 =>
      intro c_ T_ S_ F_ H locs ls hms13 hc hT hF hF4 hFp hB hW hS hl
      refine lv_iload_n hx hb dX11_truestGetsMost_13 rfl (lv_at hl 0 rfl) ?_
      refine zi_con hx hb dX11_truestGetsMost_14 ?_
      refine zi_con hx hb dX11_truestGetsMost_15 ?_
      refine lv_aload_n hx hb dX11_truestGetsMost_16 rfl (lv_at hl 1 rfl) ?_
      refine wz_get hx hb hts hown hK hW 0 4 (by decide) e_0 rfl (by decide) inG11 w_309 rfl rfl dX11_truestGetsMost_17 ?_
      refine wz_get hx hb hts hown hK hW 18 1 (lt_R isR_18) (e_R isR_18) rfl (by decide) inG6 w_249 rfl rfl dX11_truestGetsMost_20 ?_
      refine zi_top (y := σ 18 4) (by (first | rfl | (simp [us, uf, nS] <;> omega))) ?_
      refine zi_mul hx hb dX11_truestGetsMost_23 ?_
      refine zi_shl (k := 2 * mn (σ 18)) hx hb (by omega) (by omega) dX11_truestGetsMost_24 ?_
      refine zi_cge (tgt := 134) hx hb dX11_truestGetsMost_25 (by decide) (by omega) (by omega) (fun c25 => ?_) (fun c25 => ?_)
      · have hc4 : c_ = 4 ^ mn (σ 18) := by omega
        refine zi_con hx hb dX11_truestGetsMost_134 ?_
        exact hret _ _ _ _ _ _ dX11_truestGetsMost_135 hW hS ⟨by rw [if_pos (htp.mpr (by rw [← hc4]; exact hB))], _, _, rfl⟩
      · have hc256 : c_ < 256 := by omega
        have htw := okV_tw hok (k := ((c_ : Nat) : Int)) (by omega) (n := mn (σ 18)) (by omega)
        refine zi_con hx hb dX11_truestGetsMost_28 ?_
        refine lv_istore (lv' := [(4, .int (iI (0))), (3, .int (iI (((c_ : Nat) : Int)))), (0, .ref (B + 0)), (1, .int (iI (((e_ : Nat) : Int)))), (2, .int (iI (b_)))]) hx hb dX11_truestGetsMost_29 hl (by decide) rfl (fun ls hl => ?_)
        have L31 : ∀ (n31 : Nat) (i_ : Nat) (U_ : Nat → Int) (H : Heap) (locs : List Loc) (ls : Array Slot), 4 - i_ < n31 → ((i_ : Int) ≤ σ 18 4) → (eqR U_ (tw F_ ((c_ : Nat) : Int) i_)) → wd D cy B (us (us σ 24 U_) 10 S_) H → va_S (AB B) s.heap H locs → lv_has ls 5 [(4, .int (iI (((i_ : Nat) : Int)))), (3, .int (iI (((c_ : Nat) : Int)))), (0, .ref (B + 0)), (1, .int (iI (((e_ : Nat) : Int)))), (2, .int (iI (b_)))] → W p l e R s m args below meth c H locs 0 0 Q (F0 m 31 ls []) := by
          intro n31
          induction n31 with
          | zero => intro i_ U_ H locs ls hms; omega
          | succ n31 ih31 =>
            intro i_ U_ H locs ls hms31 hi hU hW hS hl
            refine lv_iload hx hb dX11_truestGetsMost_31 (lv_at hl 0 rfl) ?_
            refine lv_aload_n hx hb dX11_truestGetsMost_33 rfl (lv_at hl 2 rfl) ?_
            refine wz_get hx hb hts hown hK hW 0 4 (by decide) e_0 rfl (by decide) inG11 w_309 rfl rfl dX11_truestGetsMost_34 ?_
            refine wz_get hx hb hts hown hK hW 18 1 (lt_R isR_18) (e_R isR_18) rfl (by decide) inG6 w_249 rfl rfl dX11_truestGetsMost_37 ?_
            refine zi_top (y := σ 18 4) (by (first | rfl | (simp [us, uf, nS] <;> omega))) ?_
            refine zi_cge (tgt := 86) hx hb dX11_truestGetsMost_40 (by decide) (by omega) (by omega) (fun c40 => ?_) (fun c40 => ?_)
            · have him : i_ = mn (σ 18) := by omega
              have hUm : eqR U_ (tw (σ 18) ((c_ : Nat) : Int) (mn (σ 18))) := by rw [← hF, ← him]; exact hU
              have hoU := eqR_okV hUm htw.1
              have hU4 : U_ 4 = σ 18 4 := by rw [eqR_hd hUm 4 (by omega), htw.2.1]
              have hmU : mn U_ = mn (σ 18) := by show (U_ 4).toNat = (σ 18 4).toNat; rw [hU4]
              have hfl := fg_lt (shr (tw (σ 18) ((c_ : Nat) : Int) (mn (σ 18))) b_) (n := mn (σ 18)) (by omega)
              have hs1 := shr_bd htw.1 b_ (h := fg (shr (tw (σ 18) ((c_ : Nat) : Int) (mn (σ 18))) b_) (mn (σ 18))) (by rw [htw.2.1]; omega)
              have hs2 := shr_bd htw.1 b_ (h := e_) (by rw [htw.2.1]; omega)
              have hsU : ∀ j : Nat, j < mn (σ 18) → (cpy (mn (σ 18)) (shr U_ b_) S_) j = shr (tw (σ 18) ((c_ : Nat) : Int) (mn (σ 18))) b_ j := fun j hj => by unfold cpy; rw [if_pos hj]; exact eqR_shr hUm (by omega) b_ (by omega)
              refine lv_aload_n hx hb dX11_truestGetsMost_86 rfl (lv_at hl 2 rfl) ?_
              refine wz_get hx hb hts hown hK hW 0 5 (by decide) e_0 rfl (by decide) inG11 w_310 rfl rfl dX11_truestGetsMost_87 ?_
              refine lv_iload_n hx hb dX11_truestGetsMost_90 rfl (lv_at hl 4 rfl) ?_
              refine lv_aload_n hx hb dX11_truestGetsMost_91 rfl (lv_at hl 2 rfl) ?_
              refine wz_get hx hb hts hown hK hW 0 11 (by decide) e_0 rfl (by decide) inG11 w_316 rfl rfl dX11_truestGetsMost_92 ?_
              refine k_vv (fr := 5) (lo := 111) (σ' := (us (us (us σ 24 U_) 10 S_) 10 (cpy (mn ((us (us σ 24 U_) 10 S_) 24)) (shr ((us (us σ 24 U_) 10 S_) 24) b_) ((us (us σ 24 U_) 10 S_) 10)))) (As := [.int (iI (b_)), .ref (B + 10)]) (rest := []) hx hb hml hown hts hK hRf hRl hW hS (c_X6_divide l D cy B (us (us σ 24 U_) 10 S_) 24 b_ (show isR 24 from isR_24) (show okV ((us (us σ 24 U_) 10 S_) 24) from (by show okV U_; exact hoU)) (show 0 ≤ b_ ∧ b_ ≤ 3 from (by first | assumption | omega | (simp only [tpL_25, tcL_1, List.length_cons, List.length_nil]; omega)))) vX6_divide ⟨w_531, w_532⟩ w_530 (lt_R isR_24) (e_R isR_24) rfl ⟨Nat.le_of_ble_eq_true rfl, Nat.le_of_ble_eq_true rfl⟩ hl.1 rfl (Nat.le_of_ble_eq_true rfl) ⟨Nat.zero_le _, Nat.zero_le _⟩ dX11_truestGetsMost_95 (fun H locs hW hS => ?_)
              rw [show (us (us (us σ 24 U_) 10 S_) 10 (cpy (mn ((us (us σ 24 U_) 10 S_) 24)) (shr ((us (us σ 24 U_) 10 S_) 24) b_) ((us (us σ 24 U_) 10 S_) 10))) = (us (us σ 24 U_) 10 (cpy (mn (σ 18)) (shr U_ b_) S_)) from (by rw [us_us]; show us (us σ 24 U_) 10 (cpy (mn U_) (shr U_ b_) S_) = _; rw [hmU])] at hW
              refine lv_aload_n hx hb dX11_truestGetsMost_98 rfl (lv_at hl 2 rfl) ?_
              refine wz_get hx hb hts hown hK hW 0 11 (by decide) e_0 rfl (by decide) inG11 w_316 rfl rfl dX11_truestGetsMost_99 ?_
              refine lv_aload_n hx hb dX11_truestGetsMost_102 rfl (lv_at hl 2 rfl) ?_
              refine wz_get hx hb hts hown hK hW 0 11 (by decide) e_0 rfl (by decide) inG11 w_316 rfl rfl dX11_truestGetsMost_103 ?_
              refine lv_aload_n hx hb dX11_truestGetsMost_106 rfl (lv_at hl 2 rfl) ?_
              refine wz_get hx hb hts hown hK hW 0 4 (by decide) e_0 rfl (by decide) inG11 w_309 rfl rfl dX11_truestGetsMost_107 ?_
              refine wz_get hx hb hts hown hK hW 18 1 (lt_R isR_18) (e_R isR_18) rfl (by decide) inG6 w_249 rfl rfl dX11_truestGetsMost_110 ?_
              refine zi_top (y := σ 18 4) (by (first | rfl | (simp [us, uf, nS] <;> omega))) ?_
              refine zi_top (y := ((mn (σ 18) : Nat) : Int)) (by omega) ?_
              refine k_si (fr := 5) (lo := 111) (r := ((fg ((us (us σ 24 U_) 10 (cpy (mn (σ 18)) (shr U_ b_) S_)) 10) (mn (σ 18)) : Nat) : Int)) (As := [.ref (B + 10), .int (iI (((mn (σ 18) : Nat) : Int)))]) (rest := [.ref (B + 10)]) hx hb hml hown hts hK hRf hRl hW hS (c_X11_firstGreatest l D cy B (us (us σ 24 U_) 10 (cpy (mn (σ 18)) (shr U_ b_) S_)) 10 (mn (σ 18)) (show 10 = 9 ∨ 10 = 10 from (by omega)) (show 1 ≤ (mn (σ 18)) ∧ (mn (σ 18)) ≤ 4 from (by omega)) (show ∀ k, k < (mn (σ 18)) → -2147483648 ≤ (us (us σ 24 U_) 10 (cpy (mn (σ 18)) (shr U_ b_) S_)) 10 k ∧ (us (us σ 24 U_) 10 (cpy (mn (σ 18)) (shr U_ b_) S_)) 10 k < 2147483648 from (fun k hk => by show -2147483648 ≤ (cpy (mn (σ 18)) (shr U_ b_) S_) k ∧ (cpy (mn (σ 18)) (shr U_ b_) S_) k < 2147483648; rw [hsU k hk]; have hs3 := shr_bd htw.1 b_ (h := k) (by rw [htw.2.1]; omega); omega))) vX11_firstGreatest w_551 w_553 ⟨Nat.le_of_ble_eq_true rfl, Nat.le_of_ble_eq_true rfl⟩ hl.1 rfl (Nat.le_of_ble_eq_true rfl) ⟨Nat.zero_le _, Nat.zero_le _⟩ dX11_truestGetsMost_113 (fun H locs hW hS => ?_)
              refine zi_top (y := ((fg (shr (tw (σ 18) ((c_ : Nat) : Int) (mn (σ 18))) b_) (mn (σ 18)) : Nat) : Int)) (by (show ((fg (cpy (mn (σ 18)) (shr U_ b_) S_) (mn (σ 18)) : Nat) : Int) = _; rw [fg_congr hsU])) ?_
              refine wz_ald hx hb hK hW 10 (fg (shr (tw (σ 18) ((c_ : Nat) : Int) (mn (σ 18))) b_) (mn (σ 18))) (by decide) e_10 (by omega) (by omega) (by decide) dX11_truestGetsMost_116 ?_
              refine zi_top (y := shr (tw (σ 18) ((c_ : Nat) : Int) (mn (σ 18))) b_ (fg (shr (tw (σ 18) ((c_ : Nat) : Int) (mn (σ 18))) b_) (mn (σ 18)))) (by (show (cpy (mn (σ 18)) (shr U_ b_) S_) (fg (shr (tw (σ 18) ((c_ : Nat) : Int) (mn (σ 18))) b_) (mn (σ 18))) = _; exact hsU _ hfl)) ?_
              refine lv_aload_n hx hb dX11_truestGetsMost_117 rfl (lv_at hl 2 rfl) ?_
              refine wz_get hx hb hts hown hK hW 0 11 (by decide) e_0 rfl (by decide) inG11 w_316 rfl rfl dX11_truestGetsMost_118 ?_
              refine lv_iload_n hx hb dX11_truestGetsMost_121 rfl (lv_at hl 3 rfl) ?_
              refine wz_ald hx hb hK hW 10 e_ (by decide) e_10 (by omega) (by omega) (by decide) dX11_truestGetsMost_122 ?_
              refine zi_top (y := shr (tw (σ 18) ((c_ : Nat) : Int) (mn (σ 18))) b_ e_) (by (show (cpy (mn (σ 18)) (shr U_ b_) S_) e_ = _; exact hsU _ (by omega))) ?_
              refine zi_cle (tgt := 128) hx hb dX11_truestGetsMost_123 (by decide) (by omega) (by omega) (fun c123 => ?_) (fun c123 => ?_)
              · refine lv_iinc (v := iI (((c_ : Nat) : Int) + 1)) (lv' := [(3, .int (iI (((c_ : Nat) : Int) + 1))), (4, .int (iI (((i_ : Nat) : Int)))), (0, .ref (B + 0)), (1, .int (iI (((e_ : Nat) : Int)))), (2, .int (iI (b_)))]) hx hb dX11_truestGetsMost_128 hl (k := 1) rfl (iI_add _ _) (by decide) rfl (fun ls hl => ?_)
                refine lv_goto (tgt := 13) hx hb dX11_truestGetsMost_131 (by decide) ?_
                exact ih13 (c_ + 1) U_ (cpy (mn (σ 18)) (shr U_ b_) S_) (tw (σ 18) ((c_ : Nat) : Int) (mn (σ 18))) _ _ _ (by omega) (by omega) hUm (fun k => tw_tw _ _ _ (by omega)) htw.2.1 (fun j hj => by rw [tw_at _ _ (by omega), if_neg (by omega), if_neg (by omega)]) (by simp only [trB]; rw [hB, Bool.true_and]; exact (lea_fg (by omega)).mpr c123) (by exact hW) hS (lv_sub hl [0, 2, 3, 4] rfl)
              · refine zi_con hx hb dX11_truestGetsMost_126 ?_
                exact hret _ _ _ _ _ _ dX11_truestGetsMost_127 hW hS ⟨by rw [if_neg (fun h9 => absurd ((lea_fg (by omega)).mp ((trB_iff _ _ _ _).mp h9 c_ (by omega))) c123)], _, _, rfl⟩
            · refine lv_aload_n hx hb dX11_truestGetsMost_43 rfl (lv_at hl 2 rfl) ?_
              refine wz_get hx hb hts hown hK hW 0 5 (by decide) e_0 rfl (by decide) inG11 w_310 rfl rfl dX11_truestGetsMost_44 ?_
              refine wz_get hx hb hts hown hK hW 24 0 (lt_R isR_24) (e_R isR_24) rfl (by decide) inG6 w_246 rfl rfl dX11_truestGetsMost_47 ?_
              refine lv_iload hx hb dX11_truestGetsMost_50 (lv_at hl 0 rfl) ?_
              refine wz_ara hx hb hK hW (24 + 1) i_ 2 (lt_Ra isR_24) (e_Ra isR_24) rfl (by omega) (by omega) (by decide) rfl dX11_truestGetsMost_52 ?_
              refine zi_bip hx hb dX11_truestGetsMost_53 (by decide) ?_
              refine lv_iload_n hx hb dX11_truestGetsMost_55 rfl (lv_at hl 1 rfl) ?_
              refine zi_con hx hb dX11_truestGetsMost_56 ?_
              refine lv_iload hx hb dX11_truestGetsMost_57 (lv_at hl 0 rfl) ?_
              refine zi_mul hx hb dX11_truestGetsMost_59 ?_
              refine zi_top (y := ((2 * i_ : Nat) : Int)) (by omega) ?_
              refine lv_ishr hx hb dX11_truestGetsMost_60 ?_
              refine zi_con hx hb dX11_truestGetsMost_61 ?_
              refine lv_iand hx hb dX11_truestGetsMost_62 ?_
              refine zi_toi (q3_row hc256 (by omega : i_ < 4)) ?_
              refine zi_mul hx hb dX11_truestGetsMost_63 ?_
              refine lv_aload_n hx hb dX11_truestGetsMost_64 rfl (lv_at hl 2 rfl) ?_
              refine wz_get hx hb hts hown hK hW 0 4 (by decide) e_0 rfl (by decide) inG11 w_309 rfl rfl dX11_truestGetsMost_65 ?_
              refine wz_get hx hb hts hown hK hW 18 0 (lt_R isR_18) (e_R isR_18) rfl (by decide) inG6 w_246 rfl rfl dX11_truestGetsMost_68 ?_
              refine lv_iload hx hb dX11_truestGetsMost_71 (lv_at hl 0 rfl) ?_
              refine wz_ara hx hb hK hW (18 + 1) i_ 2 (lt_Ra isR_18) (e_Ra isR_18) rfl (by omega) (by omega) (by decide) rfl dX11_truestGetsMost_73 ?_
              refine wz_get hx hb hts hown hK hW (18 + 2 + i_) 6 (lt_H isR_18 (by omega)) (e_H isR_18 (by omega)) rfl (by decide) inG0 w_209 rfl rfl dX11_truestGetsMost_74 ?_
              refine zi_top (y := σ 18 (28 + i_)) (by (first | rfl | (simp [us, uf, nS] <;> omega))) ?_
              refine k_vv (fr := 5) (lo := 111) (σ' := (us (us (us σ 24 U_) 10 S_) 24 (uf (uf (uf ((us (us σ 24 U_) 10 S_) 24) (20 + i_) 1) (24 + i_) (6 * (rs ((c_ : Nat) : Int) i_ % 4))) (28 + i_) (σ 18 (28 + i_))))) (As := [.int (iI (6 * (rs ((c_ : Nat) : Int) i_ % 4))), .int (iI (σ 18 (28 + i_)))]) (rest := []) hx hb hml hown hts hK hRf hRl hW hS (c_X0_say l D cy B (us (us σ 24 U_) 10 S_) 24 i_ (6 * (rs ((c_ : Nat) : Int) i_ % 4)) (σ 18 (28 + i_)) (show isR 24 from isR_24) (show i_ < 4 from (by first | assumption | omega | (simp only [tpL_25, tcL_1, List.length_cons, List.length_nil]; omega)))) vX0_say ⟨w_519, w_520⟩ w_518 (lt_H isR_24 (by omega)) (e_H isR_24 (by omega)) rfl ⟨Nat.le_of_ble_eq_true rfl, Nat.le_of_ble_eq_true rfl⟩ hl.1 rfl (Nat.le_of_ble_eq_true rfl) ⟨Nat.zero_le _, Nat.zero_le _⟩ dX11_truestGetsMost_77 (fun H locs hW hS => ?_)
              rw [show (us (us (us σ 24 U_) 10 S_) 24 (uf (uf (uf ((us (us σ 24 U_) 10 S_) 24) (20 + i_) 1) (24 + i_) (6 * (rs ((c_ : Nat) : Int) i_ % 4))) (28 + i_) (σ 18 (28 + i_)))) = (us (us σ 24 (uf (uf (uf U_ (20 + i_) 1) (24 + i_) (6 * (rs ((c_ : Nat) : Int) i_ % 4))) (28 + i_) (σ 18 (28 + i_)))) 10 S_) from (by rw [n2_1 _ _ _ _ (by decide)]; rfl)] at hW
              refine lv_iinc (v := iI (((i_ : Nat) : Int) + 1)) (lv' := [(4, .int (iI (((i_ : Nat) : Int) + 1))), (3, .int (iI (((c_ : Nat) : Int)))), (0, .ref (B + 0)), (1, .int (iI (((e_ : Nat) : Int)))), (2, .int (iI (b_)))]) hx hb dX11_truestGetsMost_80 hl (k := 0) rfl (iI_add _ _) (by decide) rfl (fun ls hl => ?_)
              refine lv_goto (tgt := 31) hx hb dX11_truestGetsMost_83 (by decide) ?_
              exact ih31 (i_ + 1) (uf (uf (uf U_ (20 + i_) 1) (24 + i_) (6 * (rs ((c_ : Nat) : Int) i_ % 4))) (28 + i_) (σ 18 (28 + i_))) _ _ _ (by omega) (by omega) (eqR_ufl (eqR_uf (eqR_uf hU (by omega) 1) (by omega) (6 * (rs ((c_ : Nat) : Int) i_ % 4))) (by omega) (by rw [uf_ne _ _ (by omega), uf_ne _ _ (by omega), tw_at _ _ (by omega), if_neg (by omega), if_neg (by omega)]; exact hFp i_ (by omega))) (by exact hW) hS (lv_sub hl [0, 1, 2, 3, 4] rfl)
        exact L31 _ 0 T_ _ _ _ (Nat.lt_succ_self _) (by omega) hT (by exact hW) hS (lv_sub hl [0, 1, 2, 3, 4] rfl)
  exact L13 _ 0 (tkN (σ 24) (σ 18) (mn (σ 18))) (σ 10) (σ 18) _ _ _ (Nat.lt_succ_self _) (by omega) hq (fun _ => rfl) rfl (fun _ _ => rfl) rfl (by show wd D cy B (us (us σ 24 (tkN (σ 24) (σ 18) (mn (σ 18)))) 10 ((us σ 24 (tkN (σ 24) (σ 18) (mn (σ 18)))) 10)) _; rw [us_id]; exact hW) hS (lv_sub hl [0, 1, 2, 3] rfl)

set_option maxRecDepth 100000 in
set_option maxHeartbeats 4000000 in
theorem c_X11_trueRule (l : Launch) (D : va_G) (cy : Nat → ClassId) (B : Nat) (σ : Sg)  (hok : σ 18 4 = 0 ∨ okV (σ 18)) : CIe l yX11_trueRule cX11_trueRule 3 (some .int) 6 135 D cy B [.ref (B + 0)] σ (if σ 18 4 = 0 then -1000002 else mfd (trP (σ 18)) 4) (fun u => ∃ (T_ : Nat → Int) (S_ : Nat → Int), u = us (us σ 24 T_) 10 S_) := by
  refine CIe_of (ty := .int) (by decide) (rfl) (Nat.le_of_ble_eq_true rfl) ?_
  intro p e R s m args below meth c Q hx hb hml hown hts hK hRf hRl hW hret ls hl
  have hown : s.vm.findClass "LoveParts" = some m.cls := hown
  have hS : va_S (AB B) s.heap s.heap [] := va_S.rf
  have hl : lv_has ls 3 [(0, .ref (B + 0))] := hl
  have f4 : 0 ≤ σ 18 4 ∧ σ 18 4 ≤ 4 := by rcases hok with h | h; (· omega); (· exact ⟨by have := h.1; omega, h.1.2⟩)
  refine lv_aload_n hx hb dX11_trueRule_0 rfl (lv_at hl 0 rfl) ?_
  refine k_vi (fr := 6) (lo := 135) (r := (if σ 18 4 = 0 then 1 else 0)) (As := []) (rest := []) hx hb hml hown hts hK hRf hRl hW hS (c_X11_noRealm l D cy B σ  (show 0 ≤ σ 18 4 ∧ σ 18 4 ≤ 4 from (by first | assumption | omega | (simp only [tpL_25, tcL_1, List.length_cons, List.length_nil]; omega)))) vX11_noRealm ⟨w_528, w_5⟩ w_526 (by decide) e_0 rfl ⟨Nat.le_of_ble_eq_true rfl, Nat.le_of_ble_eq_true rfl⟩ hl.1 rfl (Nat.le_of_ble_eq_true rfl) ⟨Nat.zero_le _, Nat.zero_le _⟩ dX11_trueRule_1 (fun H locs hW hS => ?_)
  refine zi_beq (tgt := 10) hx hb dX11_trueRule_4 (by decide) (fun c4 => ?_) (fun c4 => ?_)
  · have hok := hok.resolve_left (by omega)
    obtain ⟨o4, o0, o1, o2, o3, o5, o6, o7, oH⟩ := id hok
    have hmn : ((mn (σ 18) : Nat) : Int) = σ 18 4 := by unfold mn; omega
    have htl : tst (σ 18) < mn (σ 18) := fg_lt _ (by omega)
    refine lv_aload_n hx hb dX11_trueRule_10 rfl (lv_at hl 0 rfl) ?_
    refine k_vi (fr := 6) (lo := 135) (r := ((tst (σ 18) : Nat) : Int)) (As := []) (rest := []) hx hb hml hown hts hK hRf hRl hW hS (c_X11_truestHeir l D cy B σ  (show okV (σ 18) from (by first | assumption | omega | (simp only [tpL_25, tcL_1, List.length_cons, List.length_nil]; omega)))) vX11_truestHeir ⟨w_619, w_9⟩ w_617 (by decide) e_0 rfl ⟨Nat.le_of_ble_eq_true rfl, Nat.le_of_ble_eq_true rfl⟩ hl.1 rfl (Nat.le_of_ble_eq_true rfl) ⟨Nat.zero_le _, Nat.zero_le _⟩ dX11_trueRule_11 (fun H locs hW hS => ?_)
    refine lv_istore_n (lv' := [(1, .int (iI (((tst (σ 18) : Nat) : Int)))), (0, .ref (B + 0))]) hx hb dX11_trueRule_14 rfl hl (by decide) rfl (fun ls hl => ?_)
    refine zi_con hx hb dX11_trueRule_15 ?_
    refine lv_istore_n (lv' := [(2, .int (iI (0))), (1, .int (iI (((tst (σ 18) : Nat) : Int)))), (0, .ref (B + 0))]) hx hb dX11_trueRule_16 rfl hl (by decide) rfl (fun ls hl => ?_)
    have L17 : ∀ (n17 : Nat) (k_ : Nat) (T_ : Nat → Int) (S_ : Nat → Int) (H : Heap) (locs : List Loc) (ls : Array Slot), 4 - k_ < n17 → (k_ ≤ 4) → (mfd (trP (σ 18)) 4 = mfd (trP (σ 18)) (4 - k_)) → wd D cy B (us (us σ 24 T_) 10 S_) H → va_S (AB B) s.heap H locs → lv_has ls 3 [(2, .int (iI (((k_ : Nat) : Int)))), (1, .int (iI (((tst (σ 18) : Nat) : Int)))), (0, .ref (B + 0))] → W p l e R s m args below meth c H locs 0 0 Q (F0 m 17 ls []) := by
      intro n17
      induction n17 with
      | zero => intro k_ T_ S_ H locs ls hms; omega
      | succ n17 ih17 =>
        intro k_ T_ S_ H locs ls hms17 hk hP hW hS hl
        refine lv_iload_n hx hb dX11_trueRule_17 rfl (lv_at hl 0 rfl) ?_
        refine zi_con hx hb dX11_trueRule_18 ?_
        refine zi_cge (tgt := 39) hx hb dX11_trueRule_19 (by decide) (by omega) (by omega) (fun c19 => ?_) (fun c19 => ?_)
        · refine k_ldc_w hx hb hown hts (v := -1000000) (by decide) w_625 dX11_trueRule_39 ?_
          exact hret _ _ _ _ _ _ dX11_trueRule_42 hW hS ⟨by rw [if_neg (by omega), hP, show 4 - k_ = 0 from by omega]; rfl, _, _, rfl⟩
        · refine lv_aload_n hx hb dX11_trueRule_22 rfl (lv_at hl 2 rfl) ?_
          refine lv_iload_n hx hb dX11_trueRule_23 rfl (lv_at hl 1 rfl) ?_
          refine lv_iload_n hx hb dX11_trueRule_24 rfl (lv_at hl 0 rfl) ?_
          refine k_vie (fr := 6) (lo := 135) (r := (if trB (σ 18) ((k_ : Nat) : Int) (tst (σ 18)) 256 = true then 1 else 0)) (As := [.int (iI (((tst (σ 18) : Nat) : Int))), .int (iI (((k_ : Nat) : Int)))]) (rest := []) hx hb hml hown hts hK hRf hRl hW hS (c_X11_truestGetsMost l D cy B (us (us σ 24 T_) 10 S_) (tst (σ 18)) ((k_ : Nat) : Int) (show okV (σ 18) from (by first | assumption | omega | (simp only [tpL_25, tcL_1, List.length_cons, List.length_nil]; omega))) (show ((tst (σ 18)) : Int) < σ 18 4 from (by first | assumption | omega | (simp only [tpL_25, tcL_1, List.length_cons, List.length_nil]; omega))) (show 0 ≤ ((k_ : Nat) : Int) ∧ ((k_ : Nat) : Int) ≤ 3 from (by first | assumption | omega | (simp only [tpL_25, tcL_1, List.length_cons, List.length_nil]; omega)))) vX11_truestGetsMost ⟨w_623, w_10⟩ w_621 (by decide) e_0 rfl ⟨Nat.le_of_ble_eq_true rfl, Nat.le_of_ble_eq_true rfl⟩ hl.1 rfl (Nat.le_of_ble_eq_true rfl) ⟨Nat.zero_le _, Nat.zero_le _⟩ dX11_trueRule_25 (fun τ H locs hτ hW hS => ?_)
          obtain ⟨T__25, S__25, rfl⟩ := hτ
          rw [show (us (us (us (us σ 24 T_) 10 S_) 24 T__25) 10 S__25) = (us (us σ 24 T__25) 10 S__25) from (by rw [n22 _ _ _ _ _ (by decide)])] at hW
          refine zi_beq (tgt := 33) hx hb dX11_trueRule_28 (by decide) (fun c28 => ?_) (fun c28 => ?_)
          · refine lv_iinc (v := iI (((k_ : Nat) : Int) + 1)) (lv' := [(2, .int (iI (((k_ : Nat) : Int) + 1))), (1, .int (iI (((tst (σ 18) : Nat) : Int)))), (0, .ref (B + 0))]) hx hb dX11_trueRule_33 hl (k := 0) rfl (iI_add _ _) (by decide) rfl (fun ls hl => ?_)
            refine lv_goto (tgt := 17) hx hb dX11_trueRule_36 (by decide) ?_
            exact ih17 (k_ + 1) T__25 S__25 _ _ _ (by omega) (by omega) (by rw [hP, mfd_skip (by omega), if_neg (show ¬ trP (σ 18) k_ = true from c28)]) (by exact hW) hS (lv_sub hl [0, 1, 2] rfl)
          · refine lv_iload_n hx hb dX11_trueRule_31 rfl (lv_at hl 0 rfl) ?_
            exact hret _ _ _ _ _ _ dX11_trueRule_32 hW hS ⟨by rw [if_neg (by omega), hP, mfd_skip (by omega), if_pos (show trP (σ 18) k_ = true from c28)], _, _, rfl⟩
    exact L17 _ 0 (σ 24) (σ 10) _ _ _ (Nat.lt_succ_self _) (by omega) rfl (by rw [us_id, us_id]; exact hW) hS (lv_sub hl [0, 1, 2] rfl)
  · refine k_ldc hx hb hown hts (v := -1000002) (by decide) w_479 dX11_trueRule_7 ?_
    exact hret _ _ _ _ _ _ dX11_trueRule_9 hW hS ⟨by (try simp only [Int.toNat_natCast]); (repeat' split) <;> first | rfl | omega, σ 24, σ 10, by rw [us_id, us_id]⟩

set_option maxRecDepth 100000 in
set_option maxHeartbeats 4000000 in
theorem c_X11_isOrder (l : Launch) (D : va_G) (cy : Nat → ClassId) (B : Nat) (σ : Sg) (c_ : Nat) (hok : okV (σ 18)) (hc : c_ < mn (σ 18) ^ mn (σ 18)) : CI l yX11_isOrder cX11_isOrder 5 (some .boolean) 0 0 D cy B [.ref (B + 0), .int (iI (((c_ : Nat) : Int)))] σ ((if isO ((trc (mn (σ 18)) c_ : Nat) : Int) (mn (σ 18)) = true then 1 else 0)) (us σ 11 (rwj ((trc (mn (σ 18)) c_ : Nat) : Int) (mn (σ 18)) (σ 11) (mn (σ 18)))) := by
  refine CI_of (ty := .boolean) (by decide) (nb_ite) (Nat.le_of_ble_eq_true rfl) ?_
  intro p e R s m args below meth c Q hx hb hml hown hts hK hRf hRl hW hret ls hl
  have hown : s.vm.findClass "LoveParts" = some m.cls := hown
  have hS : va_S (AB B) s.heap s.heap [] := va_S.rf
  have hl : lv_has ls 5 [(0, .ref (B + 0)), (1, .int (iI (((c_ : Nat) : Int))))] := hl
  obtain ⟨o4, o0, o1, o2, o3, o5, o6, o7, oH⟩ := id hok
  have hmn : ((mn (σ 18) : Nat) : Int) = σ 18 4 := by unfold mn; omega
  have hmb := mm_bd (m := mn (σ 18)) (by omega)
  have htr := trc_ok (m := mn (σ 18)) (c := c_) (by omega) hc
  have htr2 := htr.2.2
  have htr1 := htr.2.1
  rw [hmn] at htr1
  rw [hmn] at htr2
  have hp2 := p2_bd (k := mn (σ 18)) (by omega)
  refine lv_iload_n hx hb dX11_isOrder_0 rfl (lv_at hl 1 rfl) ?_
  refine lv_istore_n (lv' := [(2, .int (iI (((c_ : Nat) : Int)))), (0, .ref (B + 0)), (1, .int (iI (((c_ : Nat) : Int))))]) hx hb dX11_isOrder_1 rfl hl (by decide) rfl (fun ls hl => ?_)
  refine zi_con hx hb dX11_isOrder_2 ?_
  refine lv_istore_n (lv' := [(3, .int (iI (0))), (2, .int (iI (((c_ : Nat) : Int)))), (0, .ref (B + 0)), (1, .int (iI (((c_ : Nat) : Int))))]) hx hb dX11_isOrder_3 rfl hl (by decide) rfl (fun ls hl => ?_)
  refine lv_aload_n hx hb dX11_isOrder_4 rfl (lv_at hl 2 rfl) ?_
  refine wz_get hx hb hts hown hK hW 0 4 (by decide) e_0 rfl (by decide) inG11 w_309 rfl rfl dX11_isOrder_5 ?_
  refine wz_get hx hb hts hown hK hW 18 1 (lt_R isR_18) (e_R isR_18) rfl (by decide) inG6 w_249 rfl rfl dX11_isOrder_8 ?_
  refine zi_con hx hb dX11_isOrder_11 ?_
  refine zi_sub hx hb dX11_isOrder_12 ?_
  refine lv_istore (lv' := [(4, .int (iI ((σ 18 4) - 1))), (3, .int (iI (0))), (2, .int (iI (((c_ : Nat) : Int)))), (0, .ref (B + 0)), (1, .int (iI (((c_ : Nat) : Int))))]) hx hb dX11_isOrder_13 hl (by decide) rfl (fun ls hl => ?_)
  have L15 : ∀ (n15 : Nat) (j_ : Nat) (H : Heap) (locs : List Loc) (ls : Array Slot), 4 - j_ < n15 → ((j_ : Int) ≤ σ 18 4) → wd D cy B (us σ 11 (rwj ((trc (mn (σ 18)) c_ : Nat) : Int) (mn (σ 18)) (σ 11) j_)) H → va_S (AB B) s.heap H locs → lv_has ls 5 [(4, .int (iI (σ 18 4 - 1 - ((j_ : Nat) : Int)))), (3, .int (iI (sb (σ 18 4) ((c_ : Nat) : Int) j_))), (2, .int (iI (rb (σ 18 4) ((c_ : Nat) : Int) j_))), (0, .ref (B + 0)), (1, .int (iI (((c_ : Nat) : Int))))] → W p l e R s m args below meth c H locs 0 0 Q (F0 m 15 ls []) := by
    intro n15
    induction n15 with
    | zero => intro j_ H locs ls hms; omega
    | succ n15 ih15 =>
      intro j_ H locs ls hms15 hj hW hS hl
      have hrb := rb_bd (m := σ 18 4) (k := ((c_ : Nat) : Int)) (by omega) (by omega) j_
      have hsb := sb_bd (σ 18 4) ((c_ : Nat) : Int) j_
      refine lv_iload hx hb dX11_isOrder_15 (lv_at hl 0 rfl) ?_
      refine zi_lt (tgt := 64) hx hb dX11_isOrder_17 (by decide) (by omega) (fun c17 => ?_) (fun c17 => ?_)
      · have hj7 : j_ = mn (σ 18) := by omega
        refine lv_iload_n hx hb dX11_isOrder_64 rfl (lv_at hl 1 rfl) ?_
        refine zi_con hx hb dX11_isOrder_65 ?_
        refine lv_aload_n hx hb dX11_isOrder_66 rfl (lv_at hl 3 rfl) ?_
        refine wz_get hx hb hts hown hK hW 0 4 (by decide) e_0 rfl (by decide) inG11 w_309 rfl rfl dX11_isOrder_67 ?_
        refine wz_get hx hb hts hown hK hW 18 1 (lt_R isR_18) (e_R isR_18) rfl (by decide) inG6 w_249 rfl rfl dX11_isOrder_70 ?_
        refine zi_top (y := σ 18 4) (by (first | rfl | (simp [us, uf, nS] <;> omega))) ?_
        refine zi_shl (k := mn (σ 18)) hx hb (by omega) (by omega) dX11_isOrder_73 ?_
        refine zi_con hx hb dX11_isOrder_74 ?_
        refine zi_sub hx hb dX11_isOrder_75 ?_
        refine zi_cne (tgt := 83) hx hb dX11_isOrder_76 (by decide) (by omega) (by omega) (fun c76 => ?_) (fun c76 => ?_)
        · refine zi_con hx hb dX11_isOrder_83 ?_
          exact hret _ _ _ _ _ _ dX11_isOrder_84 hW hS ⟨by rw [hj7] at *; first | rw [if_pos (htr1.mp (by omega))] | rw [if_neg (fun h9 => absurd (htr1.mpr h9) (by omega))], by rw [hj7]⟩
        · refine zi_con hx hb dX11_isOrder_79 ?_
          refine lv_goto (tgt := 84) hx hb dX11_isOrder_80 (by decide) ?_
          exact hret _ _ _ _ _ _ dX11_isOrder_84 hW hS ⟨by rw [hj7] at *; first | rw [if_pos (htr1.mp (by omega))] | rw [if_neg (fun h9 => absurd (htr1.mpr h9) (by omega))], by rw [hj7]⟩
      · have hr4 := htr2 j_ (by omega)
        have hr5 : 0 ≤ rs ((trc (mn (σ 18)) c_ : Nat) : Int) j_ % 4 ∧ rs ((trc (mn (σ 18)) c_ : Nat) : Int) j_ % 4 < 4 := by omega
        refine lv_aload_n hx hb dX11_isOrder_20 rfl (lv_at hl 3 rfl) ?_
        refine wz_get hx hb hts hown hK hW 0 12 (by decide) e_0 rfl (by decide) inG11 w_317 rfl rfl dX11_isOrder_21 ?_
        refine lv_iload hx hb dX11_isOrder_24 (lv_at hl 0 rfl) ?_
        refine lv_iload_n hx hb dX11_isOrder_26 rfl (lv_at hl 2 rfl) ?_
        refine lv_aload_n hx hb dX11_isOrder_27 rfl (lv_at hl 3 rfl) ?_
        refine wz_get hx hb hts hown hK hW 0 4 (by decide) e_0 rfl (by decide) inG11 w_309 rfl rfl dX11_isOrder_28 ?_
        refine wz_get hx hb hts hown hK hW 18 1 (lt_R isR_18) (e_R isR_18) rfl (by decide) inG6 w_249 rfl rfl dX11_isOrder_31 ?_
        refine zi_top (y := σ 18 4) (by (first | rfl | (simp [us, uf, nS] <;> omega))) ?_
        refine zi_rem hx hb dX11_isOrder_34 (by omega) (by omega) ?_
        refine zi_top (y := rs ((trc (mn (σ 18)) c_ : Nat) : Int) j_ % 4) (by exact hr4) ?_
        refine wz_ast (σ' := (up (us σ 11 (rwj ((trc (mn (σ 18)) c_ : Nat) : Int) (mn (σ 18)) (σ 11) j_)) 11 (mn (σ 18) - 1 - j_) (rs ((trc (mn (σ 18)) c_ : Nat) : Int) j_ % 4))) hx hb hK hW hS 11 (mn (σ 18) - 1 - j_) (by decide) e_11 (by omega) (by omega) (by decide) p_11 dX11_isOrder_35 (fun H locs hW hS => ?_)
        refine lv_iload_n hx hb dX11_isOrder_36 rfl (lv_at hl 2 rfl) ?_
        refine lv_aload_n hx hb dX11_isOrder_37 rfl (lv_at hl 3 rfl) ?_
        refine wz_get hx hb hts hown hK hW 0 4 (by decide) e_0 rfl (by decide) inG11 w_309 rfl rfl dX11_isOrder_38 ?_
        refine wz_get hx hb hts hown hK hW 18 1 (lt_R isR_18) (e_R isR_18) rfl (by decide) inG6 w_249 rfl rfl dX11_isOrder_41 ?_
        refine zi_top (y := σ 18 4) (by (first | rfl | (simp [us, uf, nS] <;> omega))) ?_
        refine zi_div hx hb dX11_isOrder_44 (by omega) (by omega) ?_
        refine lv_istore_n (lv' := [(2, .int (iI ((rb (σ 18 4) ((c_ : Nat) : Int) j_) / (σ 18 4)))), (4, .int (iI (σ 18 4 - 1 - ((j_ : Nat) : Int)))), (3, .int (iI (sb (σ 18 4) ((c_ : Nat) : Int) j_))), (0, .ref (B + 0)), (1, .int (iI (((c_ : Nat) : Int))))]) hx hb dX11_isOrder_45 rfl hl (by decide) rfl (fun ls hl => ?_)
        refine lv_iload_n hx hb dX11_isOrder_46 rfl (lv_at hl 2 rfl) ?_
        refine zi_con hx hb dX11_isOrder_47 ?_
        refine lv_aload_n hx hb dX11_isOrder_48 rfl (lv_at hl 3 rfl) ?_
        refine wz_get hx hb hts hown hK hW 0 12 (by decide) e_0 rfl (by decide) inG11 w_317 rfl rfl dX11_isOrder_49 ?_
        refine lv_iload hx hb dX11_isOrder_52 (lv_at hl 1 rfl) ?_
        refine wz_ald hx hb hK hW 11 (mn (σ 18) - 1 - j_) (by decide) e_11 (by omega) (by omega) (by decide) dX11_isOrder_54 ?_
        refine zi_top (y := rs ((trc (mn (σ 18)) c_ : Nat) : Int) j_ % 4) (by (first | rfl | (simp [us, uf, nS] <;> omega))) ?_
        refine zi_shl (k := (rs ((trc (mn (σ 18)) c_ : Nat) : Int) j_ % 4).toNat) hx hb (by omega) (by omega) dX11_isOrder_55 ?_
        refine zi_or hx hb dX11_isOrder_56 ?_
        refine lv_istore_n (lv' := [(3, .int (iI (orI (sb (σ 18 4) ((c_ : Nat) : Int) j_) (p2 ((rs ((trc (mn (σ 18)) c_ : Nat) : Int) j_ % 4).toNat))))), (2, .int (iI ((rb (σ 18 4) ((c_ : Nat) : Int) j_) / (σ 18 4)))), (4, .int (iI (σ 18 4 - 1 - ((j_ : Nat) : Int)))), (0, .ref (B + 0)), (1, .int (iI (((c_ : Nat) : Int))))]) hx hb dX11_isOrder_57 rfl hl (by decide) rfl (fun ls hl => ?_)
        refine lv_iinc (v := iI ((σ 18 4 - 1 - ((j_ : Nat) : Int)) + (-1))) (lv' := [(4, .int (iI ((σ 18 4 - 1 - ((j_ : Nat) : Int)) + (-1)))), (3, .int (iI (orI (sb (σ 18 4) ((c_ : Nat) : Int) j_) (p2 ((rs ((trc (mn (σ 18)) c_ : Nat) : Int) j_ % 4).toNat))))), (2, .int (iI ((rb (σ 18 4) ((c_ : Nat) : Int) j_) / (σ 18 4)))), (0, .ref (B + 0)), (1, .int (iI (((c_ : Nat) : Int))))]) hx hb dX11_isOrder_58 hl (k := 2) rfl (iI_add _ _) (by decide) rfl (fun ls hl => ?_)
        refine lv_goto (tgt := 15) hx hb dX11_isOrder_61 (by decide) ?_
        rw [show σ 18 4 - 1 - ((j_ : Nat) : Int) + (-1) = σ 18 4 - 1 - ((j_ + 1 : Nat) : Int) from by omega] at hl
        have e3 : sb (σ 18 4) ((c_ : Nat) : Int) (j_ + 1) = orI (sb (σ 18 4) ((c_ : Nat) : Int) j_) (p2 (rs ((trc (mn (σ 18)) c_ : Nat) : Int) j_ % 4).toNat) := by rw [← htr2 j_ (by omega)]; rfl
        exact ih15 (j_ + 1) _ _ _ (by omega) (by omega) (by have h2 := hW; unfold up at h2; rw [us_us, us_eq] at h2; exact h2) hS (lv_sub hl [0, 1, 2, 3, 4] (by rw [e3]; rfl))
  exact L15 _ 0 _ _ _ (Nat.lt_succ_self _) (by omega) (by rw [show us σ 11 (rwj ((trc (mn (σ 18)) c_ : Nat) : Int) (mn (σ 18)) (σ 11) 0) = σ from us_id σ 11]; exact hW) hS (lv_sub hl [0, 1, 2, 3, 4] (by rw [show σ 18 4 - 1 - ((0 : Nat) : Int) = σ 18 4 - 1 from by omega]; rfl))

set_option maxRecDepth 100000 in
set_option maxHeartbeats 4000000 in
theorem c_X11_knightsByHosts (l : Launch) (D : va_G) (cy : Nat → ClassId) (B : Nat) (σ : Sg) (n_ : Nat) (R_ : Nat) (hok : okV (σ 18)) (hm : σ 18 5 ≤ 999) (hn : n_ ≤ 24) (hR : R_ < 256) (hO : isO ((R_ : Nat) : Int) (mn (σ 18)) = true) (hH : ∀ i : Nat, i < mn (σ 18) → σ 11 i = rs ((R_ : Nat) : Int) (mn (σ 18) - 1 - i) % 4) : CIe l yX11_knightsByHosts cX11_knightsByHosts 3 (some .int) 3 58 D cy B [.ref (B + 0), .int (iI (((n_ : Nat) : Int)))] σ (orF (σ 18) ((R_ : Nat) : Int) n_ 1) (fun u => ∃ (T_ : Nat → Int), u = us σ 24 T_) := by
  refine CIe_of (ty := .int) (by decide) (rfl) (Nat.le_of_ble_eq_true rfl) ?_
  intro p e R s m args below meth c Q hx hb hml hown hts hK hRf hRl hW hret ls hl
  have hown : s.vm.findClass "LoveParts" = some m.cls := hown
  have hS : va_S (AB B) s.heap s.heap [] := va_S.rf
  have hl : lv_has ls 3 [(0, .ref (B + 0)), (1, .int (iI (((n_ : Nat) : Int))))] := hl
  obtain ⟨o4, o0, o1, o2, o3, o5, o6, o7, oH⟩ := id hok
  have hq : eqR (tkN (σ 24) (σ 18) (mn (σ 18))) (σ 18) := eqR_tk _ o4
  have hkt := eqR_okV hq hok
  have e5 : tkN (σ 24) (σ 18) (mn (σ 18)) 5 = σ 18 5 := rfl
  have e4 : tkN (σ 24) (σ 18) (mn (σ 18)) 4 = σ 18 4 := rfl
  have hmn : ((mn (σ 18) : Nat) : Int) = σ 18 4 := by unfold mn; omega
  have hmK : mn (tkN (σ 24) (σ 18) (mn (σ 18))) = mn (σ 18) := rfl
  refine lv_aload_n hx hb dX11_knightsByHosts_0 rfl (lv_at hl 0 rfl) ?_
  refine wz_get hx hb hts hown hK hW 0 5 (by decide) e_0 rfl (by decide) inG11 w_310 rfl rfl dX11_knightsByHosts_1 ?_
  refine lv_aload_n hx hb dX11_knightsByHosts_4 rfl (lv_at hl 0 rfl) ?_
  refine wz_get hx hb hts hown hK hW 0 4 (by decide) e_0 rfl (by decide) inG11 w_309 rfl rfl dX11_knightsByHosts_5 ?_
  refine k_vv (fr := 3) (lo := 58) (σ' := (us σ 24 (tkN (σ 24) (σ 18) (mn (σ 18))))) (As := [.ref (B + 18)]) (rest := []) hx hb hml hown hts hK hRf hRl hW hS (c_X6_take l D cy B σ 24 18 (show isR 24 from isR_24) (show isR 18 from isR_18) (show 24 ≠ 18 from (by decide)) (show 0 ≤ σ 18 4 ∧ σ 18 4 ≤ 4 from (by omega)) (show σ 18 7 = 0 ∨ σ 18 7 = 1 from o7) (show ∀ h : Nat, (h : Int) < σ 18 4 → σ 18 (20 + h) = 0 ∨ σ 18 (20 + h) = 1 from (fun h hh => (oH h hh).2.2.2.1))) vX6_take ⟨w_460, w_461⟩ w_459 (lt_R isR_24) (e_R isR_24) rfl ⟨Nat.le_of_ble_eq_true rfl, Nat.le_of_ble_eq_true rfl⟩ hl.1 rfl (Nat.le_of_ble_eq_true rfl) ⟨Nat.zero_le _, Nat.zero_le _⟩ dX11_knightsByHosts_8 (fun H locs hW hS => ?_)
  refine zi_con hx hb dX11_knightsByHosts_11 ?_
  refine lv_istore_n (lv' := [(2, .int (iI (0))), (0, .ref (B + 0)), (1, .int (iI (((n_ : Nat) : Int))))]) hx hb dX11_knightsByHosts_12 rfl hl (by decide) rfl (fun ls hl => ?_)
  have L13 : ∀ (n13 : Nat) (k_ : Nat) (H : Heap) (locs : List Loc) (ls : Array Slot), 24 - k_ < n13 → (k_ ≤ n_) → wd D cy B (us σ 24 (orF (tkN (σ 24) (σ 18) (mn (σ 18))) ((R_ : Nat) : Int) k_)) H → va_S (AB B) s.heap H locs → lv_has ls 3 [(2, .int (iI (((k_ : Nat) : Int)))), (0, .ref (B + 0)), (1, .int (iI (((n_ : Nat) : Int))))] → W p l e R s m args below meth c H locs 0 0 Q (F0 m 13 ls []) := by
    intro n13
    induction n13 with
    | zero => intro k_ H locs ls hms; omega
    | succ n13 ih13 =>
      intro k_ H locs ls hms13 hk hW hS hl
      have hit := okV_orF hkt (r := R_) hR (by rw [hmK]; exact hO) (n := k_) (by omega)
      have heq := eqR_orF hq hok hR hO (n := k_) (by omega)
      have hmm := Nat.mod_lt k_ (y := mn (σ 18)) (by omega)
      have hil := isO_lt (r := R_) (m := mn (σ 18)) (by omega) (by omega) hO (j := mn (σ 18) - 1 - k_ % mn (σ 18)) (by omega)
      refine lv_iload_n hx hb dX11_knightsByHosts_13 rfl (lv_at hl 0 rfl) ?_
      refine lv_iload_n hx hb dX11_knightsByHosts_14 rfl (lv_at hl 2 rfl) ?_
      refine zi_cge (tgt := 52) hx hb dX11_knightsByHosts_15 (by decide) (by omega) (by omega) (fun c15 => ?_) (fun c15 => ?_)
      · refine lv_aload_n hx hb dX11_knightsByHosts_52 rfl (lv_at hl 1 rfl) ?_
        refine wz_get hx hb hts hown hK hW 0 5 (by decide) e_0 rfl (by decide) inG11 w_310 rfl rfl dX11_knightsByHosts_53 ?_
        refine wz_get hx hb hts hown hK hW 24 3 (lt_R isR_24) (e_R isR_24) rfl (by decide) inG6 w_255 rfl rfl dX11_knightsByHosts_56 ?_
        refine zi_top (y := orF (σ 18) ((R_ : Nat) : Int) k_ 1) (by rw [us_eq]; exact eqR_hd heq 1 (by omega)) ?_
        exact hret _ _ _ _ _ _ dX11_knightsByHosts_59 hW hS ⟨by rw [show n_ = k_ from by omega], _, rfl⟩
      · refine lv_aload_n hx hb dX11_knightsByHosts_18 rfl (lv_at hl 1 rfl) ?_
        refine wz_get hx hb hts hown hK hW 0 5 (by decide) e_0 rfl (by decide) inG11 w_310 rfl rfl dX11_knightsByHosts_19 ?_
        refine lv_aload_n hx hb dX11_knightsByHosts_22 rfl (lv_at hl 1 rfl) ?_
        refine wz_get hx hb hts hown hK hW 0 12 (by decide) e_0 rfl (by decide) inG11 w_317 rfl rfl dX11_knightsByHosts_23 ?_
        refine lv_iload_n hx hb dX11_knightsByHosts_26 rfl (lv_at hl 0 rfl) ?_
        refine lv_aload_n hx hb dX11_knightsByHosts_27 rfl (lv_at hl 1 rfl) ?_
        refine wz_get hx hb hts hown hK hW 0 4 (by decide) e_0 rfl (by decide) inG11 w_309 rfl rfl dX11_knightsByHosts_28 ?_
        refine wz_get hx hb hts hown hK hW 18 1 (lt_R isR_18) (e_R isR_18) rfl (by decide) inG6 w_249 rfl rfl dX11_knightsByHosts_31 ?_
        refine zi_top (y := σ 18 4) (by (first | rfl | (simp [us, uf, nS] <;> omega))) ?_
        refine zi_rem hx hb dX11_knightsByHosts_34 (by omega) (by omega) ?_
        refine zi_top (y := ((k_ % mn (σ 18) : Nat) : Int)) (by (rw [← hmn]; rfl)) ?_
        refine wz_ald hx hb hK hW 11 (k_ % mn (σ 18)) (by decide) e_11 (by omega) (by omega) (by decide) dX11_knightsByHosts_35 ?_
        refine zi_top (y := σ 11 (k_ % mn (σ 18))) (by (first | rfl | (simp [us, uf, nS] <;> omega))) ?_
        refine zi_top (y := (rs ((R_ : Nat) : Int) (mn (σ 18) - 1 - k_ % mn (σ 18)) % 4)) (by exact hH _ hmm) ?_
        refine wz_put (σ' := (up (us σ 24 (orF (tkN (σ 24) (σ 18) (mn (σ 18))) ((R_ : Nat) : Int) k_)) 24 6 (rs ((R_ : Nat) : Int) (mn (σ 18) - 1 - k_ % mn (σ 18)) % 4))) (ty := .int) hx hb hts hown hK hW hS 24 6 tyX6 (lt_R isR_24) (e_R isR_24) rfl (by decide) inG6 tyX6_ok nmX6 w_263 ⟨rfl, rfl, Nat.le_of_ble_eq_true rfl⟩ (by decide +kernel) ⟨rfl, rfl⟩ (p_R_6 isR_24) dX11_knightsByHosts_36 (fun H locs hW hS => ?_)
        refine lv_aload_n hx hb dX11_knightsByHosts_39 rfl (lv_at hl 1 rfl) ?_
        refine wz_get hx hb hts hown hK hW 0 5 (by decide) e_0 rfl (by decide) inG11 w_310 rfl rfl dX11_knightsByHosts_40 ?_
        refine k_vv (fr := 3) (lo := 58) (σ' := (us (up (us σ 24 (orF (tkN (σ 24) (σ 18) (mn (σ 18))) ((R_ : Nat) : Int) k_)) 24 6 (rs ((R_ : Nat) : Int) (mn (σ 18) - 1 - k_ % mn (σ 18)) % 4)) 24 (mon ((up (us σ 24 (orF (tkN (σ 24) (σ 18) (mn (σ 18))) ((R_ : Nat) : Int) k_)) 24 6 (rs ((R_ : Nat) : Int) (mn (σ 18) - 1 - k_ % mn (σ 18)) % 4)) 24)))) (As := []) (rest := []) hx hb hml hown hts hK hRf hRl hW hS (c_X6_passMonth l D cy B (up (us σ 24 (orF (tkN (σ 24) (σ 18) (mn (σ 18))) ((R_ : Nat) : Int) k_)) 24 6 (rs ((R_ : Nat) : Int) (mn (σ 18) - 1 - k_ % mn (σ 18)) % 4)) 24 (show isR 24 from isR_24) (show okV ((up (us σ 24 (orF (tkN (σ 24) (σ 18) (mn (σ 18))) ((R_ : Nat) : Int) k_)) 24 6 (rs ((R_ : Nat) : Int) (mn (σ 18) - 1 - k_ % mn (σ 18)) % 4)) 24) from (by unfold up; rw [us_eq, us_eq]; exact okV_host hit.1 (by rw [hit.2.2, e4]; omega)))) vX6_passMonth ⟨w_563, w_564⟩ w_562 (lt_R isR_24) (e_R isR_24) rfl ⟨Nat.le_of_ble_eq_true rfl, Nat.le_of_ble_eq_true rfl⟩ hl.1 rfl (Nat.le_of_ble_eq_true rfl) ⟨Nat.zero_le _, Nat.zero_le _⟩ dX11_knightsByHosts_43 (fun H locs hW hS => ?_)
        rw [show (us (up (us σ 24 (orF (tkN (σ 24) (σ 18) (mn (σ 18))) ((R_ : Nat) : Int) k_)) 24 6 (rs ((R_ : Nat) : Int) (mn (σ 18) - 1 - k_ % mn (σ 18)) % 4)) 24 (mon ((up (us σ 24 (orF (tkN (σ 24) (σ 18) (mn (σ 18))) ((R_ : Nat) : Int) k_)) 24 6 (rs ((R_ : Nat) : Int) (mn (σ 18) - 1 - k_ % mn (σ 18)) % 4)) 24))) = us σ 24 (orF (tkN (σ 24) (σ 18) (mn (σ 18))) ((R_ : Nat) : Int) (k_ + 1)) from (by unfold up; simp only [us_us, us_eq]; rfl)] at hW
        refine lv_iinc (v := iI (((k_ : Nat) : Int) + 1)) (lv' := [(2, .int (iI (((k_ : Nat) : Int) + 1))), (0, .ref (B + 0)), (1, .int (iI (((n_ : Nat) : Int))))]) hx hb dX11_knightsByHosts_46 hl (k := 0) rfl (iI_add _ _) (by decide) rfl (fun ls hl => ?_)
        refine lv_goto (tgt := 13) hx hb dX11_knightsByHosts_49 (by decide) ?_
        exact ih13 (k_ + 1) _ _ _ (by omega) (by omega) (by exact hW) hS (lv_sub hl [0, 1, 2] rfl)
  exact L13 _ 0 _ _ _ (Nat.lt_succ_self _) (by omega) (by exact hW) hS (lv_sub hl [0, 1, 2] rfl)

set_option maxRecDepth 100000 in
set_option maxHeartbeats 4000000 in
theorem c_X11_findBestHosts (l : Launch) (D : va_G) (cy : Nat → ClassId) (B : Nat) (σ : Sg) (n_ : Nat) (hok : okV (σ 18)) (hm : σ 18 5 ≤ 999) (hn : n_ ≤ 24) : CIe l yX11_findBestHosts cX11_findBestHosts 6 (some .int) 4 80 D cy B [.ref (B + 0), .int (iI (((n_ : Nat) : Int)))] σ (om (σ 18) n_ 256) (fun u => ∃ (T_ : Nat → Int) (H_ : Nat → Int) (B_ : Nat → Int), u = us (us (us σ 24 T_) 11 H_) 12 (fun i => if i < mn (σ 18) then rs ((ob (σ 18) n_ 256 : Nat) : Int) (mn (σ 18) - 1 - i) % 4 else B_ i)) := by
  refine CIe_of (ty := .int) (by decide) (rfl) (Nat.le_of_ble_eq_true rfl) ?_
  intro p e R s m args below meth c Q hx hb hml hown hts hK hRf hRl hW hret ls hl
  have hown : s.vm.findClass "LoveParts" = some m.cls := hown
  have hS : va_S (AB B) s.heap s.heap [] := va_S.rf
  have hl : lv_has ls 6 [(0, .ref (B + 0)), (1, .int (iI (((n_ : Nat) : Int))))] := hl
  obtain ⟨o4, o0, o1, o2, o3, o5, o6, o7, oH⟩ := id hok
  have hmn : ((mn (σ 18) : Nat) : Int) = σ 18 4 := by unfold mn; omega
  have hmb := mm_bd (m := mn (σ 18)) (by omega)
  have hco := cm_om (σ 18) n_ (by omega)
  have hop := om_pos hok (n := n_) (by omega)
  refine zi_con hx hb dX11_findBestHosts_0 ?_
  refine lv_istore_n (lv' := [(2, .int (iI ((-1)))), (0, .ref (B + 0)), (1, .int (iI (((n_ : Nat) : Int))))]) hx hb dX11_findBestHosts_1 rfl hl (by decide) rfl (fun ls hl => ?_)
  refine zi_con hx hb dX11_findBestHosts_2 ?_
  refine lv_istore_n (lv' := [(3, .int (iI (1))), (2, .int (iI ((-1)))), (0, .ref (B + 0)), (1, .int (iI (((n_ : Nat) : Int))))]) hx hb dX11_findBestHosts_3 rfl hl (by decide) rfl (fun ls hl => ?_)
  refine zi_con hx hb dX11_findBestHosts_4 ?_
  refine lv_istore (lv' := [(4, .int (iI (0))), (3, .int (iI (1))), (2, .int (iI ((-1)))), (0, .ref (B + 0)), (1, .int (iI (((n_ : Nat) : Int))))]) hx hb dX11_findBestHosts_5 hl (by decide) rfl (fun ls hl => ?_)
  have L7 : ∀ (n7 : Nat) (i_ : Nat) (H : Heap) (locs : List Loc) (ls : Array Slot), 4 - i_ < n7 → ((i_ : Int) ≤ σ 18 4) → wd D cy B σ H → va_S (AB B) s.heap H locs → lv_has ls 6 [(4, .int (iI (((i_ : Nat) : Int)))), (3, .int (iI (((mn (σ 18) ^ i_ : Nat) : Int)))), (2, .int (iI ((-1)))), (0, .ref (B + 0)), (1, .int (iI (((n_ : Nat) : Int))))] → W p l e R s m args below meth c H locs 0 0 Q (F0 m 7 ls []) := by
    intro n7
    induction n7 with
    | zero => intro i_ H locs ls hms; omega
    | succ n7 ih7 =>
      intro i_ H locs ls hms7 hi hW hS hl
      have hib := mi_bd (m := mn (σ 18)) (i := i_) (by omega) (by omega)
      refine lv_iload hx hb dX11_findBestHosts_7 (lv_at hl 0 rfl) ?_
      refine lv_aload_n hx hb dX11_findBestHosts_9 rfl (lv_at hl 3 rfl) ?_
      refine wz_get hx hb hts hown hK hW 0 4 (by decide) e_0 rfl (by decide) inG11 w_309 rfl rfl dX11_findBestHosts_10 ?_
      refine wz_get hx hb hts hown hK hW 18 1 (lt_R isR_18) (e_R isR_18) rfl (by decide) inG6 w_249 rfl rfl dX11_findBestHosts_13 ?_
      refine zi_cge (tgt := 35) hx hb dX11_findBestHosts_16 (by decide) (by omega) (by omega) (fun c16 => ?_) (fun c16 => ?_)
      · have him : i_ = mn (σ 18) := by omega
        have hMi : mn (σ 18) ^ i_ = mn (σ 18) ^ mn (σ 18) := by rw [him]
        refine zi_con hx hb dX11_findBestHosts_35 ?_
        refine lv_istore (lv' := [(4, .int (iI (0))), (3, .int (iI (((mn (σ 18) ^ i_ : Nat) : Int)))), (2, .int (iI ((-1)))), (0, .ref (B + 0)), (1, .int (iI (((n_ : Nat) : Int))))]) hx hb dX11_findBestHosts_36 hl (by decide) rfl (fun ls hl => ?_)
        have L38 : ∀ (n38 : Nat) (c_ : Nat) (T_ : Nat → Int) (H_ : Nat → Int) (B_ : Nat → Int) (H : Heap) (locs : List Loc) (ls : Array Slot), 256 - c_ < n38 → (c_ ≤ mn (σ 18) ^ mn (σ 18)) → (cm (σ 18) n_ c_ = -1 ∨ ∀ i : Nat, i < mn (σ 18) → B_ i = rs ((cbt (σ 18) n_ c_ : Nat) : Int) (mn (σ 18) - 1 - i) % 4) → wd D cy B (us (us (us σ 24 T_) 11 H_) 12 B_) H → va_S (AB B) s.heap H locs → lv_has ls 6 [(4, .int (iI (((c_ : Nat) : Int)))), (3, .int (iI (((mn (σ 18) ^ i_ : Nat) : Int)))), (2, .int (iI (cm (σ 18) n_ c_))), (0, .ref (B + 0)), (1, .int (iI (((n_ : Nat) : Int))))] → W p l e R s m args below meth c H locs 0 0 Q (F0 m 38 ls []) := by
          intro n38
          induction n38 with
          | zero => intro c_ T_ H_ B_ H locs ls hms; omega
          | succ n38 ih38 =>
            intro c_ T_ H_ B_ H locs ls hms38 hc hB hW hS hl
            have hcb := cm_bd hok (n := n_) (by omega) hc
            refine lv_iload hx hb dX11_findBestHosts_38 (lv_at hl 0 rfl) ?_
            refine lv_iload_n hx hb dX11_findBestHosts_40 rfl (lv_at hl 1 rfl) ?_
            refine zi_cge (tgt := 89) hx hb dX11_findBestHosts_41 (by decide) (by omega) (by omega) (fun c41 => ?_) (fun c41 => ?_)
            · have hcm : c_ = mn (σ 18) ^ mn (σ 18) := by omega
              refine lv_iload_n hx hb dX11_findBestHosts_89 rfl (lv_at hl 2 rfl) ?_
              exact hret _ _ _ _ _ _ dX11_findBestHosts_90 hW hS ⟨by rw [hcm, hco.1], _, _, B_, by congr 1; funext i; rcases hB with h9 | h9; (· rw [hcm, hco.1] at h9; omega); (· by_cases hi : i < mn (σ 18); (· rw [if_pos hi, h9 i hi, hcm, hco.2]); (· rw [if_neg hi]))⟩
            · have htr := trc_ok (m := mn (σ 18)) (c := c_) (by omega) (by omega)
              refine lv_aload_n hx hb dX11_findBestHosts_44 rfl (lv_at hl 3 rfl) ?_
              refine lv_iload hx hb dX11_findBestHosts_45 (lv_at hl 0 rfl) ?_
              refine k_vi (fr := 4) (lo := 80) (r := (if isO ((trc (mn (σ 18)) c_ : Nat) : Int) (mn (σ 18)) = true then 1 else 0)) (σ' := (us (us (us (us σ 24 T_) 11 H_) 12 B_) 11 (rwj ((trc (mn (σ 18)) c_ : Nat) : Int) (mn (σ 18)) ((us (us (us σ 24 T_) 11 H_) 12 B_) 11) (mn (σ 18))))) (As := [.int (iI (((c_ : Nat) : Int)))]) (rest := []) hx hb hml hown hts hK hRf hRl hW hS (c_X11_isOrder l D cy B (us (us (us σ 24 T_) 11 H_) 12 B_) c_ (show okV (σ 18) from (by first | assumption | omega | (simp only [tpL_25, tcL_1, List.length_cons, List.length_nil]; omega))) (show c_ < mn (σ 18) ^ mn (σ 18) from (by omega))) vX11_isOrder ⟨w_636, w_12⟩ w_634 (by decide) e_0 rfl ⟨Nat.le_of_ble_eq_true rfl, Nat.le_of_ble_eq_true rfl⟩ hl.1 rfl (Nat.le_of_ble_eq_true rfl) ⟨Nat.zero_le _, Nat.zero_le _⟩ dX11_findBestHosts_47 (fun H locs hW hS => ?_)
              rw [show (us (us (us (us σ 24 T_) 11 H_) 12 B_) 11 (rwj ((trc (mn (σ 18)) c_ : Nat) : Int) (mn (σ 18)) ((us (us (us σ 24 T_) 11 H_) 12 B_) 11) (mn (σ 18)))) = (us (us (us σ 24 T_) 11 (rwj ((trc (mn (σ 18)) c_ : Nat) : Int) (mn (σ 18)) H_ (mn (σ 18)))) 12 B_) from (by rw [n3_2 _ _ _ _ _ (by decide)]; rfl)] at hW
              refine zi_beq (tgt := 83) hx hb dX11_findBestHosts_50 (by decide) (fun c50 => ?_) (fun c50 => ?_)
              · refine lv_iinc (v := iI (((c_ : Nat) : Int) + 1)) (lv' := [(4, .int (iI (((c_ : Nat) : Int) + 1))), (3, .int (iI (((mn (σ 18) ^ i_ : Nat) : Int)))), (2, .int (iI (cm (σ 18) n_ c_))), (0, .ref (B + 0)), (1, .int (iI (((n_ : Nat) : Int))))]) hx hb dX11_findBestHosts_83 hl (k := 0) rfl (iI_add _ _) (by decide) rfl (fun ls hl => ?_)
                refine lv_goto (tgt := 38) hx hb dX11_findBestHosts_86 (by decide) ?_
                exact ih38 (c_ + 1) T_ (rwj ((trc (mn (σ 18)) c_ : Nat) : Int) (mn (σ 18)) H_ (mn (σ 18))) B_ _ _ _ (by omega) (by omega) (by first | (rw [show cm (σ 18) n_ (c_ + 1) = cm (σ 18) n_ c_ from if_neg (fun h9 => c50 h9.1), show cbt (σ 18) n_ (c_ + 1) = cbt (σ 18) n_ c_ from if_neg (fun h9 => c50 h9.1)]; exact hB) | (rw [show cm (σ 18) n_ (c_ + 1) = cm (σ 18) n_ c_ from if_neg (fun h9 => absurd h9.2 (by omega)), show cbt (σ 18) n_ (c_ + 1) = cbt (σ 18) n_ c_ from if_neg (fun h9 => absurd h9.2 (by omega))]; exact hB) | (right; intro i hi; rw [show cbt (σ 18) n_ (c_ + 1) = trc (mn (σ 18)) c_ from if_pos ⟨c50, by omega⟩]; show cpo 0 4 _ _ i = _; unfold cpo; rw [if_pos (by omega)]; show (rwj ((trc (mn (σ 18)) c_ : Nat) : Int) (mn (σ 18)) H_ (mn (σ 18))) (0 + (i - 0)) = _; rw [show 0 + (i - 0) = i from by omega, rwj_at _ _ _ (Nat.le_refl _), if_pos (by omega)])) (by first | exact hW | (have h2 := hW; rw [us_us] at h2; exact h2)) hS (lv_sub hl [0, 1, 2, 3, 4] (by first | (rw [show cm (σ 18) n_ (c_ + 1) = cm (σ 18) n_ c_ from if_neg (fun h9 => c50 h9.1)]; rfl) | (rw [show cm (σ 18) n_ (c_ + 1) = cm (σ 18) n_ c_ from if_neg (fun h9 => absurd h9.2 (by omega))]; rfl) | (rw [show cm (σ 18) n_ (c_ + 1) = orF (σ 18) ((trc (mn (σ 18)) c_ : Nat) : Int) n_ 1 from if_pos ⟨c50, by omega⟩]; rfl)))
              · have hob := (okV_orF hok (r := trc (mn (σ 18)) c_) htr.1 c50 (n := n_) (by omega)).1.2.2.1
                refine lv_aload_n hx hb dX11_findBestHosts_53 rfl (lv_at hl 3 rfl) ?_
                refine lv_iload_n hx hb dX11_findBestHosts_54 rfl (lv_at hl 4 rfl) ?_
                refine k_vie (fr := 4) (lo := 80) (r := orF (σ 18) (((trc (mn (σ 18)) c_) : Nat) : Int) n_ 1) (As := [.int (iI (((n_ : Nat) : Int)))]) (rest := []) hx hb hml hown hts hK hRf hRl hW hS (c_X11_knightsByHosts l D cy B (us (us (us σ 24 T_) 11 (rwj ((trc (mn (σ 18)) c_ : Nat) : Int) (mn (σ 18)) H_ (mn (σ 18)))) 12 B_) n_ (trc (mn (σ 18)) c_) (show okV (σ 18) from (by first | assumption | omega | (simp only [tpL_25, tcL_1, List.length_cons, List.length_nil]; omega))) (show σ 18 5 ≤ 999 from (by first | assumption | omega | (simp only [tpL_25, tcL_1, List.length_cons, List.length_nil]; omega))) (show n_ ≤ 24 from (by first | assumption | omega | (simp only [tpL_25, tcL_1, List.length_cons, List.length_nil]; omega))) (show (trc (mn (σ 18)) c_) < 256 from htr.1) (show isO (((trc (mn (σ 18)) c_) : Nat) : Int) (mn (σ 18)) = true from c50) (show ∀ i : Nat, i < mn (σ 18) → (us (us (us σ 24 T_) 11 (rwj ((trc (mn (σ 18)) c_ : Nat) : Int) (mn (σ 18)) H_ (mn (σ 18)))) 12 B_) 11 i = rs (((trc (mn (σ 18)) c_) : Nat) : Int) (mn (σ 18) - 1 - i) % 4 from (fun i hi => by show (rwj ((trc (mn (σ 18)) c_ : Nat) : Int) (mn (σ 18)) H_ (mn (σ 18))) i = _; rw [rwj_at _ _ _ (Nat.le_refl _), if_pos (by omega)]))) vX11_knightsByHosts ⟨w_640, w_13⟩ w_638 (by decide) e_0 rfl ⟨Nat.le_of_ble_eq_true rfl, Nat.le_of_ble_eq_true rfl⟩ hl.1 rfl (Nat.le_of_ble_eq_true rfl) ⟨Nat.zero_le _, Nat.zero_le _⟩ dX11_findBestHosts_55 (fun τ H locs hτ hW hS => ?_)
                obtain ⟨T__55, rfl⟩ := hτ
                rw [show (us (us (us (us σ 24 T_) 11 (rwj ((trc (mn (σ 18)) c_ : Nat) : Int) (mn (σ 18)) H_ (mn (σ 18)))) 12 B_) 24 T__55) = (us (us (us σ 24 T__55) 11 (rwj ((trc (mn (σ 18)) c_ : Nat) : Int) (mn (σ 18)) H_ (mn (σ 18)))) 12 B_) from (by rw [n3_1 _ _ _ _ _ (by decide)])] at hW
                refine lv_istore (lv' := [(5, .int (iI (orF (σ 18) (((trc (mn (σ 18)) c_) : Nat) : Int) n_ 1))), (4, .int (iI (((c_ : Nat) : Int)))), (3, .int (iI (((mn (σ 18) ^ i_ : Nat) : Int)))), (2, .int (iI (cm (σ 18) n_ c_))), (0, .ref (B + 0)), (1, .int (iI (((n_ : Nat) : Int))))]) hx hb dX11_findBestHosts_58 hl (by decide) rfl (fun ls hl => ?_)
                refine lv_iload hx hb dX11_findBestHosts_60 (lv_at hl 0 rfl) ?_
                refine lv_iload_n hx hb dX11_findBestHosts_62 rfl (lv_at hl 3 rfl) ?_
                refine zi_cle (tgt := 83) hx hb dX11_findBestHosts_63 (by decide) (by omega) (by omega) (fun c63 => ?_) (fun c63 => ?_)
                · refine lv_iinc (v := iI (((c_ : Nat) : Int) + 1)) (lv' := [(4, .int (iI (((c_ : Nat) : Int) + 1))), (5, .int (iI (orF (σ 18) (((trc (mn (σ 18)) c_) : Nat) : Int) n_ 1))), (3, .int (iI (((mn (σ 18) ^ i_ : Nat) : Int)))), (2, .int (iI (cm (σ 18) n_ c_))), (0, .ref (B + 0)), (1, .int (iI (((n_ : Nat) : Int))))]) hx hb dX11_findBestHosts_83 hl (k := 1) rfl (iI_add _ _) (by decide) rfl (fun ls hl => ?_)
                  refine lv_goto (tgt := 38) hx hb dX11_findBestHosts_86 (by decide) ?_
                  exact ih38 (c_ + 1) T__55 (rwj ((trc (mn (σ 18)) c_ : Nat) : Int) (mn (σ 18)) H_ (mn (σ 18))) B_ _ _ _ (by omega) (by omega) (by first | (rw [show cm (σ 18) n_ (c_ + 1) = cm (σ 18) n_ c_ from if_neg (fun h9 => c50 h9.1), show cbt (σ 18) n_ (c_ + 1) = cbt (σ 18) n_ c_ from if_neg (fun h9 => c50 h9.1)]; exact hB) | (rw [show cm (σ 18) n_ (c_ + 1) = cm (σ 18) n_ c_ from if_neg (fun h9 => absurd h9.2 (by omega)), show cbt (σ 18) n_ (c_ + 1) = cbt (σ 18) n_ c_ from if_neg (fun h9 => absurd h9.2 (by omega))]; exact hB) | (right; intro i hi; rw [show cbt (σ 18) n_ (c_ + 1) = trc (mn (σ 18)) c_ from if_pos ⟨c50, by omega⟩]; show cpo 0 4 _ _ i = _; unfold cpo; rw [if_pos (by omega)]; show (rwj ((trc (mn (σ 18)) c_ : Nat) : Int) (mn (σ 18)) H_ (mn (σ 18))) (0 + (i - 0)) = _; rw [show 0 + (i - 0) = i from by omega, rwj_at _ _ _ (Nat.le_refl _), if_pos (by omega)])) (by first | exact hW | (have h2 := hW; rw [us_us] at h2; exact h2)) hS (lv_sub hl [0, 2, 3, 4, 5] (by first | (rw [show cm (σ 18) n_ (c_ + 1) = cm (σ 18) n_ c_ from if_neg (fun h9 => c50 h9.1)]; rfl) | (rw [show cm (σ 18) n_ (c_ + 1) = cm (σ 18) n_ c_ from if_neg (fun h9 => absurd h9.2 (by omega))]; rfl) | (rw [show cm (σ 18) n_ (c_ + 1) = orF (σ 18) ((trc (mn (σ 18)) c_ : Nat) : Int) n_ 1 from if_pos ⟨c50, by omega⟩]; rfl)))
                · refine lv_iload hx hb dX11_findBestHosts_66 (lv_at hl 0 rfl) ?_
                  refine lv_istore_n (lv' := [(2, .int (iI (orF (σ 18) (((trc (mn (σ 18)) c_) : Nat) : Int) n_ 1))), (5, .int (iI (orF (σ 18) (((trc (mn (σ 18)) c_) : Nat) : Int) n_ 1))), (4, .int (iI (((c_ : Nat) : Int)))), (3, .int (iI (((mn (σ 18) ^ i_ : Nat) : Int)))), (0, .ref (B + 0)), (1, .int (iI (((n_ : Nat) : Int))))]) hx hb dX11_findBestHosts_68 rfl hl (by decide) rfl (fun ls hl => ?_)
                  refine lv_aload_n hx hb dX11_findBestHosts_69 rfl (lv_at hl 4 rfl) ?_
                  refine wz_get hx hb hts hown hK hW 0 12 (by decide) e_0 rfl (by decide) inG11 w_317 rfl rfl dX11_findBestHosts_70 ?_
                  refine zi_con hx hb dX11_findBestHosts_73 ?_
                  refine lv_aload_n hx hb dX11_findBestHosts_74 rfl (lv_at hl 4 rfl) ?_
                  refine wz_get hx hb hts hown hK hW 0 13 (by decide) e_0 rfl (by decide) inG11 w_318 rfl rfl dX11_findBestHosts_75 ?_
                  refine zi_con hx hb dX11_findBestHosts_78 ?_
                  refine zi_con hx hb dX11_findBestHosts_79 ?_
                  refine k_cpy (fr := 4) (lo := 80) (σ' := (us (us (us (us σ 24 T__55) 11 (rwj ((trc (mn (σ 18)) c_ : Nat) : Int) (mn (σ 18)) H_ (mn (σ 18)))) 12 B_) 12 (cpo 0 4 (fun k => (rwj ((trc (mn (σ 18)) c_ : Nat) : Int) (mn (σ 18)) H_ (mn (σ 18))) (0 + k)) B_))) (sp := 0) (dp := 0) (n := 4) hx hb hml hown hts hK hRf hRl hW hS w_395 ⟨w_397, w_396, w_66⟩ (by decide) (by decide) e_11 e_12 (by omega) (by omega) (by omega) ⟨by omega, by omega, by decide, by decide⟩ p_12s ⟨Nat.le_of_ble_eq_true rfl, by decide⟩ hl.1 dX11_findBestHosts_80 (fun H locs hW hS => ?_)
                  refine lv_iinc (v := iI (((c_ : Nat) : Int) + 1)) (lv' := [(4, .int (iI (((c_ : Nat) : Int) + 1))), (2, .int (iI (orF (σ 18) (((trc (mn (σ 18)) c_) : Nat) : Int) n_ 1))), (5, .int (iI (orF (σ 18) (((trc (mn (σ 18)) c_) : Nat) : Int) n_ 1))), (3, .int (iI (((mn (σ 18) ^ i_ : Nat) : Int)))), (0, .ref (B + 0)), (1, .int (iI (((n_ : Nat) : Int))))]) hx hb dX11_findBestHosts_83 hl (k := 2) rfl (iI_add _ _) (by decide) rfl (fun ls hl => ?_)
                  refine lv_goto (tgt := 38) hx hb dX11_findBestHosts_86 (by decide) ?_
                  exact ih38 (c_ + 1) T__55 (rwj ((trc (mn (σ 18)) c_ : Nat) : Int) (mn (σ 18)) H_ (mn (σ 18))) (cpo 0 4 (fun k => (rwj ((trc (mn (σ 18)) c_ : Nat) : Int) (mn (σ 18)) H_ (mn (σ 18))) (0 + k)) B_) _ _ _ (by omega) (by omega) (by first | (rw [show cm (σ 18) n_ (c_ + 1) = cm (σ 18) n_ c_ from if_neg (fun h9 => c50 h9.1), show cbt (σ 18) n_ (c_ + 1) = cbt (σ 18) n_ c_ from if_neg (fun h9 => c50 h9.1)]; exact hB) | (rw [show cm (σ 18) n_ (c_ + 1) = cm (σ 18) n_ c_ from if_neg (fun h9 => absurd h9.2 (by omega)), show cbt (σ 18) n_ (c_ + 1) = cbt (σ 18) n_ c_ from if_neg (fun h9 => absurd h9.2 (by omega))]; exact hB) | (right; intro i hi; rw [show cbt (σ 18) n_ (c_ + 1) = trc (mn (σ 18)) c_ from if_pos ⟨c50, by omega⟩]; show cpo 0 4 _ _ i = _; unfold cpo; rw [if_pos (by omega)]; show (rwj ((trc (mn (σ 18)) c_ : Nat) : Int) (mn (σ 18)) H_ (mn (σ 18))) (0 + (i - 0)) = _; rw [show 0 + (i - 0) = i from by omega, rwj_at _ _ _ (Nat.le_refl _), if_pos (by omega)])) (by first | exact hW | (have h2 := hW; rw [us_us] at h2; exact h2)) hS (lv_sub hl [0, 3, 1, 4, 5] (by first | (rw [show cm (σ 18) n_ (c_ + 1) = cm (σ 18) n_ c_ from if_neg (fun h9 => c50 h9.1)]; rfl) | (rw [show cm (σ 18) n_ (c_ + 1) = cm (σ 18) n_ c_ from if_neg (fun h9 => absurd h9.2 (by omega))]; rfl) | (rw [show cm (σ 18) n_ (c_ + 1) = orF (σ 18) ((trc (mn (σ 18)) c_ : Nat) : Int) n_ 1 from if_pos ⟨c50, by omega⟩]; rfl)))
        exact L38 _ 0 (σ 24) (σ 11) (σ 12) _ _ _ (Nat.lt_succ_self _) (by omega) (Or.inl rfl) (by rw [us_id, us_id, us_id]; exact hW) hS (lv_sub hl [0, 1, 2, 3, 4] rfl)
      · refine lv_iload_n hx hb dX11_findBestHosts_19 rfl (lv_at hl 1 rfl) ?_
        refine lv_aload_n hx hb dX11_findBestHosts_20 rfl (lv_at hl 3 rfl) ?_
        refine wz_get hx hb hts hown hK hW 0 4 (by decide) e_0 rfl (by decide) inG11 w_309 rfl rfl dX11_findBestHosts_21 ?_
        refine wz_get hx hb hts hown hK hW 18 1 (lt_R isR_18) (e_R isR_18) rfl (by decide) inG6 w_249 rfl rfl dX11_findBestHosts_24 ?_
        refine zi_mul hx hb dX11_findBestHosts_27 ?_
        refine zi_top (y := ((mn (σ 18) ^ (i_ + 1) : Nat) : Int)) (by rw [← hmn, Nat.pow_succ]; simp) ?_
        refine lv_istore_n (lv' := [(3, .int (iI (((mn (σ 18) ^ (i_ + 1) : Nat) : Int)))), (4, .int (iI (((i_ : Nat) : Int)))), (2, .int (iI ((-1)))), (0, .ref (B + 0)), (1, .int (iI (((n_ : Nat) : Int))))]) hx hb dX11_findBestHosts_28 rfl hl (by decide) rfl (fun ls hl => ?_)
        refine lv_iinc (v := iI (((i_ : Nat) : Int) + 1)) (lv' := [(4, .int (iI (((i_ : Nat) : Int) + 1))), (3, .int (iI (((mn (σ 18) ^ (i_ + 1) : Nat) : Int)))), (2, .int (iI ((-1)))), (0, .ref (B + 0)), (1, .int (iI (((n_ : Nat) : Int))))]) hx hb dX11_findBestHosts_29 hl (k := 1) rfl (iI_add _ _) (by decide) rfl (fun ls hl => ?_)
        refine lv_goto (tgt := 7) hx hb dX11_findBestHosts_32 (by decide) ?_
        exact ih7 (i_ + 1) _ _ _ (by omega) (by omega) hW hS (lv_sub hl [0, 1, 2, 3, 4] rfl)
  exact L7 _ 0 _ _ _ (Nat.lt_succ_self _) (by omega) hW hS (lv_sub hl [0, 1, 2, 3, 4] (by rw [Nat.pow_zero]; rfl))

set_option maxRecDepth 100000 in
set_option maxHeartbeats 4000000 in
theorem c_X11_order (l : Launch) (D : va_G) (cy : Nat → ClassId) (B : Nat) (σ : Sg) (z_ : Int) (k_ : Int) (r_z_ : -2147483648 ≤ z_ ∧ z_ < 2147483648) (r_k_ : -2147483648 ≤ k_ ∧ k_ < 2147483648) (hok : σ 18 4 = 0 ∨ okV (σ 18)) (hm : σ 18 5 ≤ 999) : CIe l yX11_order cX11_order 4 (some .int) 5 105 D cy B [.ref (B + 0), .int (iI (z_)), .int (iI (k_))] σ (if σ 18 4 = 0 then -1000002 else if ¬ (1 ≤ z_ ∧ z_ ≤ 24) ∨ ¬ (-1 ≤ k_ ∧ k_ ≤ 3) then -1000001 else if k_ < 0 then om (σ 18) z_.toNat 256 else if k_ < σ 18 4 then rs ((ob (σ 18) z_.toNat 256 : Nat) : Int) (mn (σ 18) - 1 - k_.toNat) % 4 else -1000000) (fun u => ∃ (T_ : Nat → Int) (H_ : Nat → Int) (B_ : Nat → Int), u = us (us (us σ 24 T_) 11 H_) 12 B_) := by
  refine CIe_of (ty := .int) (by decide) (rfl) (Nat.le_of_ble_eq_true rfl) ?_
  intro p e R s m args below meth c Q hx hb hml hown hts hK hRf hRl hW hret ls hl
  have hown : s.vm.findClass "LoveParts" = some m.cls := hown
  have hS : va_S (AB B) s.heap s.heap [] := va_S.rf
  have hl : lv_has ls 4 [(0, .ref (B + 0)), (1, .int (iI (z_))), (2, .int (iI (k_)))] := hl
  have f4 : 0 ≤ σ 18 4 ∧ σ 18 4 ≤ 4 := by rcases hok with h | h; (· omega); (· exact ⟨by have := h.1; omega, h.1.2⟩)
  refine lv_aload_n hx hb dX11_order_0 rfl (lv_at hl 0 rfl) ?_
  refine k_vi (fr := 5) (lo := 105) (r := (if σ 18 4 = 0 then 1 else 0)) (As := []) (rest := []) hx hb hml hown hts hK hRf hRl hW hS (c_X11_noRealm l D cy B σ  (show 0 ≤ σ 18 4 ∧ σ 18 4 ≤ 4 from (by first | assumption | omega | (simp only [tpL_25, tcL_1, List.length_cons, List.length_nil]; omega)))) vX11_noRealm ⟨w_528, w_5⟩ w_526 (by decide) e_0 rfl ⟨Nat.le_of_ble_eq_true rfl, Nat.le_of_ble_eq_true rfl⟩ hl.1 rfl (Nat.le_of_ble_eq_true rfl) ⟨Nat.zero_le _, Nat.zero_le _⟩ dX11_order_1 (fun H locs hW hS => ?_)
  refine zi_beq (tgt := 10) hx hb dX11_order_4 (by decide) (fun c4 => ?_) (fun c4 => ?_)
  · have hok := hok.resolve_left (by omega)
    obtain ⟨o4, o0, o1, o2, o3, o5, o6, o7, oH⟩ := id hok
    have hmn : ((mn (σ 18) : Nat) : Int) = σ 18 4 := by unfold mn; omega
    refine lv_iload_n hx hb dX11_order_10 rfl (lv_at hl 1 rfl) ?_
    refine zi_con hx hb dX11_order_11 ?_
    refine zi_bip hx hb dX11_order_12 (by decide) ?_
    refine k_si (fr := 5) (lo := 105) (r := (if 1 ≤ z_ ∧ z_ ≤ 24 then 1 else 0)) (As := [.int (iI (z_)), .int (iI (1)), .int (iI (24))]) (rest := []) hx hb hml hown hts hK hRf hRl hW hS (c_X11_within l D cy B σ z_ 1 24 (show -2147483648 ≤ z_ ∧ z_ < 2147483648 from (by first | assumption | omega | (simp only [tpL_25, tcL_1, List.length_cons, List.length_nil]; omega))) (show -2147483648 ≤ 1 ∧ 1 < 2147483648 from (by first | assumption | omega | (simp only [tpL_25, tcL_1, List.length_cons, List.length_nil]; omega))) (show -2147483648 ≤ 24 ∧ 24 < 2147483648 from (by first | assumption | omega | (simp only [tpL_25, tcL_1, List.length_cons, List.length_nil]; omega)))) vX11_within w_359 w_358 ⟨Nat.le_of_ble_eq_true rfl, Nat.le_of_ble_eq_true rfl⟩ hl.1 rfl (Nat.le_of_ble_eq_true rfl) ⟨Nat.zero_le _, Nat.zero_le _⟩ dX11_order_14 (fun H locs hW hS => ?_)
    refine zi_beq (tgt := 29) hx hb dX11_order_17 (by decide) (fun c17 => ?_) (fun c17 => ?_)
    · refine k_ldc hx hb hown hts (v := -1000001) (by decide) w_361 dX11_order_29 ?_
      exact hret _ _ _ _ _ _ dX11_order_31 hW hS ⟨by (try simp only [Int.toNat_natCast]); (repeat' split) <;> first | rfl | omega, σ 24, σ 11, σ 12, by rw [us_id, us_id, us_id]⟩
    · obtain ⟨n_, rfl⟩ : ∃ h : Nat, z_ = (h : Int) := ⟨z_.toNat, by omega⟩
      refine lv_iload_n hx hb dX11_order_20 rfl (lv_at hl 2 rfl) ?_
      refine zi_con hx hb dX11_order_21 ?_
      refine zi_con hx hb dX11_order_22 ?_
      refine k_si (fr := 5) (lo := 105) (r := (if (-1) ≤ k_ ∧ k_ ≤ 3 then 1 else 0)) (As := [.int (iI (k_)), .int (iI ((-1))), .int (iI (3))]) (rest := []) hx hb hml hown hts hK hRf hRl hW hS (c_X11_within l D cy B σ k_ (-1) 3 (show -2147483648 ≤ k_ ∧ k_ < 2147483648 from (by first | assumption | omega | (simp only [tpL_25, tcL_1, List.length_cons, List.length_nil]; omega))) (show -2147483648 ≤ (-1) ∧ (-1) < 2147483648 from (by first | assumption | omega | (simp only [tpL_25, tcL_1, List.length_cons, List.length_nil]; omega))) (show -2147483648 ≤ 3 ∧ 3 < 2147483648 from (by first | assumption | omega | (simp only [tpL_25, tcL_1, List.length_cons, List.length_nil]; omega)))) vX11_within w_359 w_358 ⟨Nat.le_of_ble_eq_true rfl, Nat.le_of_ble_eq_true rfl⟩ hl.1 rfl (Nat.le_of_ble_eq_true rfl) ⟨Nat.zero_le _, Nat.zero_le _⟩ dX11_order_23 (fun H locs hW hS => ?_)
      refine zi_bne (tgt := 32) hx hb dX11_order_26 (by decide) (fun c26 => ?_) (fun c26 => ?_)
      · refine lv_aload_n hx hb dX11_order_32 rfl (lv_at hl 0 rfl) ?_
        refine lv_iload_n hx hb dX11_order_33 rfl (lv_at hl 1 rfl) ?_
        refine k_vie (fr := 5) (lo := 105) (r := om (σ 18) n_ 256) (As := [.int (iI (((n_ : Nat) : Int)))]) (rest := []) hx hb hml hown hts hK hRf hRl hW hS (c_X11_findBestHosts l D cy B σ n_ (show okV (σ 18) from (by first | assumption | omega | (simp only [tpL_25, tcL_1, List.length_cons, List.length_nil]; omega))) (show σ 18 5 ≤ 999 from (by first | assumption | omega | (simp only [tpL_25, tcL_1, List.length_cons, List.length_nil]; omega))) (show n_ ≤ 24 from (by first | assumption | omega | (simp only [tpL_25, tcL_1, List.length_cons, List.length_nil]; omega)))) vX11_findBestHosts ⟨w_632, w_11⟩ w_630 (by decide) e_0 rfl ⟨Nat.le_of_ble_eq_true rfl, Nat.le_of_ble_eq_true rfl⟩ hl.1 rfl (Nat.le_of_ble_eq_true rfl) ⟨Nat.zero_le _, Nat.zero_le _⟩ dX11_order_34 (fun τ H locs hτ hW hS => ?_)
        obtain ⟨T__34, H__34, B__34, rfl⟩ := hτ
        refine lv_istore_n (lv' := [(3, .int (iI (om (σ 18) n_ 256))), (0, .ref (B + 0)), (1, .int (iI (((n_ : Nat) : Int)))), (2, .int (iI (k_)))]) hx hb dX11_order_37 rfl hl (by decide) rfl (fun ls hl => ?_)
        refine lv_iload_n hx hb dX11_order_38 rfl (lv_at hl 3 rfl) ?_
        refine zi_ge (tgt := 44) hx hb dX11_order_39 (by decide) (by omega) (fun c39 => ?_) (fun c39 => ?_)
        · refine lv_iload_n hx hb dX11_order_44 rfl (lv_at hl 3 rfl) ?_
          refine lv_aload_n hx hb dX11_order_45 rfl (lv_at hl 1 rfl) ?_
          refine wz_get hx hb hts hown hK hW 0 4 (by decide) e_0 rfl (by decide) inG11 w_309 rfl rfl dX11_order_46 ?_
          refine wz_get hx hb hts hown hK hW 18 1 (lt_R isR_18) (e_R isR_18) rfl (by decide) inG6 w_249 rfl rfl dX11_order_49 ?_
          refine zi_top (y := σ 18 4) (by (first | rfl | (simp [us, uf, nS] <;> omega))) ?_
          refine zi_cge (tgt := 64) hx hb dX11_order_52 (by decide) (by omega) (by omega) (fun c52 => ?_) (fun c52 => ?_)
          · refine k_ldc_w hx hb hown hts (v := -1000000) (by decide) w_625 dX11_order_64 ?_
            exact hret _ _ _ _ _ _ dX11_order_67 hW hS ⟨by simp only [Int.toNat_natCast]; (repeat' split) <;> first | rfl | omega, _, _, _, rfl⟩
          · refine lv_aload_n hx hb dX11_order_55 rfl (lv_at hl 1 rfl) ?_
            refine wz_get hx hb hts hown hK hW 0 13 (by decide) e_0 rfl (by decide) inG11 w_318 rfl rfl dX11_order_56 ?_
            refine lv_iload_n hx hb dX11_order_59 rfl (lv_at hl 3 rfl) ?_
            refine wz_ald hx hb hK hW 12 k_.toNat (by decide) e_12 (by omega) (by omega) (by decide) dX11_order_60 ?_
            refine zi_top (y := rs ((ob (σ 18) n_ 256 : Nat) : Int) (mn (σ 18) - 1 - k_.toNat) % 4) (by (show (if k_.toNat < mn (σ 18) then rs ((ob (σ 18) n_ 256 : Nat) : Int) (mn (σ 18) - 1 - k_.toNat) % 4 else _) = _; exact if_pos (by omega))) ?_
            refine lv_goto (tgt := 67) hx hb dX11_order_61 (by decide) ?_
            exact hret _ _ _ _ _ _ dX11_order_67 hW hS ⟨by simp only [Int.toNat_natCast]; (repeat' split) <;> first | rfl | omega, _, _, _, rfl⟩
        · refine lv_iload_n hx hb dX11_order_42 rfl (lv_at hl 0 rfl) ?_
          exact hret _ _ _ _ _ _ dX11_order_43 hW hS ⟨by simp only [Int.toNat_natCast]; (repeat' split) <;> first | rfl | omega, _, _, _, rfl⟩
      · refine k_ldc hx hb hown hts (v := -1000001) (by decide) w_361 dX11_order_29 ?_
        exact hret _ _ _ _ _ _ dX11_order_31 hW hS ⟨by (try simp only [Int.toNat_natCast]); (repeat' split) <;> first | rfl | omega, σ 24, σ 11, σ 12, by rw [us_id, us_id, us_id]⟩
  · refine k_ldc hx hb hown hts (v := -1000002) (by decide) w_479 dX11_order_7 ?_
    exact hret _ _ _ _ _ _ dX11_order_9 hW hS ⟨by (try simp only [Int.toNat_natCast]); (repeat' split) <;> first | rfl | omega, σ 24, σ 11, σ 12, by rw [us_id, us_id, us_id]⟩
