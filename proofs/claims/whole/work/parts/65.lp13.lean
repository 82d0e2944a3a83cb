
set_option maxRecDepth 100000 in
set_option maxHeartbeats 4000000 in
theorem c_X11_knightsGoAs (l : Launch) (D : va_G) (cy : Nat → ClassId) (B : Nat) (σ : Sg) (i_ : Nat) (q_ : Nat) (n_ : Nat) (hi : i_ < 8) (hok : okV (σ 24)) (hq : q_ + n_ ≤ 40) (h5 : σ 24 5 + n_ ≤ 10000) (hbi : ∀ k, k < 40 → -2147483648 ≤ σ (30 + 2 * i_ + 1) k ∧ σ (30 + 2 * i_ + 1) k < 2147483648) : CIe l yX11_knightsGoAs cX11_knightsGoAs 5 (some .boolean) 3 58 D cy B [.ref (B + 0), .ref (B + (30 + 2 * i_)), .int (iI (((q_ : Nat) : Int))), .int (iI (((n_ : Nat) : Int)))] σ ((if lva (σ 24) (fun h => σ (30 + 2 * i_ + 1) (q_ + h)) n_ = true then 1 else 0)) (fun u => ∃ (T_ : Nat → Int), u = us σ 24 T_) := by
  refine CIe_of (ty := .boolean) (by decide) (nb_ite) (Nat.le_of_ble_eq_true rfl) ?_
  intro p e R s m args below meth c Q hx hb hml hown hts hK hRf hRl hW hret ls hl
  have hown : s.vm.findClass "LoveParts" = some m.cls := hown
  have hS : va_S (AB B) s.heap s.heap [] := va_S.rf
  have hl : lv_has ls 5 [(0, .ref (B + 0)), (1, .ref (B + (30 + 2 * i_))), (2, .int (iI (((q_ : Nat) : Int)))), (3, .int (iI (((n_ : Nat) : Int))))] := hl
  refine zi_con hx hb dX11_knightsGoAs_0 ?_
  refine lv_istore (lv' := [(4, .int (iI (0))), (0, .ref (B + 0)), (1, .ref (B + (30 + 2 * i_))), (2, .int (iI (((q_ : Nat) : Int)))), (3, .int (iI (((n_ : Nat) : Int))))]) hx hb dX11_knightsGoAs_1 hl (by decide) rfl (fun ls hl => ?_)
  have L3 : ∀ (n3 : Nat) (k_ : Nat) (H : Heap) (locs : List Loc) (ls : Array Slot), 40 - k_ < n3 → (k_ ≤ n_) → (lva (σ 24) (fun h => σ (30 + 2 * i_ + 1) (q_ + h)) k_ = true) → wd D cy B (us σ 24 (itf mon k_ (σ 24))) H → va_S (AB B) s.heap H locs → lv_has ls 5 [(4, .int (iI (((k_ : Nat) : Int)))), (0, .ref (B + 0)), (1, .ref (B + (30 + 2 * i_))), (2, .int (iI (((q_ : Nat) : Int)))), (3, .int (iI (((n_ : Nat) : Int))))] → W p l e R s m args below meth c H locs 0 0 Q (F0 m 3 ls []) := by
    intro n3
    induction n3 with
    | zero => intro k_ H locs ls hms; omega
    | succ n3 ih3 =>
      intro k_ H locs ls hms3 hk hal hW hS hl
      have hm := (okV_it hok (n := k_) (by omega)).1
      refine lv_iload hx hb dX11_knightsGoAs_3 (lv_at hl 0 rfl) ?_
      refine lv_iload_n hx hb dX11_knightsGoAs_5 rfl (lv_at hl 4 rfl) ?_
      refine zi_cge (tgt := 43) hx hb dX11_knightsGoAs_6 (by decide) (by omega) (by omega) (fun c6 => ?_) (fun c6 => ?_)
      · refine zi_con hx hb dX11_knightsGoAs_43 ?_
        exact hret _ _ _ _ _ _ dX11_knightsGoAs_44 hW hS ⟨by rw [if_pos (by rw [show n_ = k_ from by omega]; exact hal)], _, rfl⟩
      · have hb1 := hbi (q_ + k_) (by omega)
        have hm2 := (okV_it hok (n := k_ + 1) (by omega)).1
        have hm3 := hm2.2.2.1
        refine lv_aload_n hx hb dX11_knightsGoAs_9 rfl (lv_at hl 1 rfl) ?_
        refine wz_get hx hb hts hown hK hW 0 5 (by decide) e_0 rfl (by decide) inG11 w_310 rfl rfl dX11_knightsGoAs_10 ?_
        refine k_vv (fr := 3) (lo := 58) (σ' := (us (us σ 24 (itf mon k_ (σ 24))) 24 (mon ((us σ 24 (itf mon k_ (σ 24))) 24)))) (As := []) (rest := []) hx hb hml hown hts hK hRf hRl hW hS (c_X6_passMonth l D cy B (us σ 24 (itf mon k_ (σ 24))) 24 (show isR 24 from isR_24) (show okV ((us σ 24 (itf mon k_ (σ 24))) 24) from hm)) vX6_passMonth ⟨w_563, w_564⟩ w_562 (lt_R isR_24) (e_R isR_24) rfl ⟨Nat.le_of_ble_eq_true rfl, Nat.le_of_ble_eq_true rfl⟩ hl.1 rfl (Nat.le_of_ble_eq_true rfl) ⟨Nat.zero_le _, Nat.zero_le _⟩ dX11_knightsGoAs_13 (fun H locs hW hS => ?_)
        rw [show (us (us σ 24 (itf mon k_ (σ 24))) 24 (mon ((us σ 24 (itf mon k_ (σ 24))) 24))) = us σ 24 (itf mon (k_ + 1) (σ 24)) from (by rw [us_us, us_eq]; rfl)] at hW
        refine lv_aload_n hx hb dX11_knightsGoAs_16 rfl (lv_at hl 1 rfl) ?_
        refine wz_get hx hb hts hown hK hW 0 5 (by decide) e_0 rfl (by decide) inG11 w_310 rfl rfl dX11_knightsGoAs_17 ?_
        refine wz_get hx hb hts hown hK hW 24 3 (lt_R isR_24) (e_R isR_24) rfl (by decide) inG6 w_255 rfl rfl dX11_knightsGoAs_20 ?_
        refine zi_top (y := itf mon (k_ + 1) (σ 24) 1) (by rw [us_eq]) ?_
        refine lv_aload_n hx hb dX11_knightsGoAs_23 rfl (lv_at hl 2 rfl) ?_
        refine wz_get hx hb hts hown hK hW (30 + 2 * i_) 0 (by omega) (e_row (by omega)) rfl (by decide) inG7 w_293 rfl rfl dX11_knightsGoAs_24 ?_
        refine lv_iload_n hx hb dX11_knightsGoAs_27 rfl (lv_at hl 3 rfl) ?_
        refine lv_iload hx hb dX11_knightsGoAs_28 (lv_at hl 0 rfl) ?_
        refine zi_add hx hb dX11_knightsGoAs_30 ?_
        refine wz_ald hx hb hK hW (30 + 2 * i_ + 1) (q_ + k_) (by omega) (e_it (by omega)) (by omega) (by omega) (by decide) dX11_knightsGoAs_31 ?_
        refine zi_top (y := σ (30 + 2 * i_ + 1) (q_ + k_)) (by rw [us_ne _ _ (by omega)]) ?_
        refine zi_ceq (tgt := 37) hx hb dX11_knightsGoAs_32 (by decide) (by omega) (by omega) (fun c32 => ?_) (fun c32 => ?_)
        · refine lv_iinc (v := iI (((k_ : Nat) : Int) + 1)) (lv' := [(4, .int (iI (((k_ : Nat) : Int) + 1))), (0, .ref (B + 0)), (1, .ref (B + (30 + 2 * i_))), (2, .int (iI (((q_ : Nat) : Int)))), (3, .int (iI (((n_ : Nat) : Int))))]) hx hb dX11_knightsGoAs_37 hl (k := 0) rfl (iI_add _ _) (by decide) rfl (fun ls hl => ?_)
          refine lv_goto (tgt := 3) hx hb dX11_knightsGoAs_40 (by decide) ?_
          exact ih3 (k_ + 1) _ _ _ (by omega) (by omega) (al_t hal (by first | exact c32.symm | omega)) (by exact hW) hS (lv_sub hl [0, 1, 2, 3, 4] rfl)
        · refine zi_con hx hb dX11_knightsGoAs_35 ?_
          exact hret _ _ _ _ _ _ dX11_knightsGoAs_36 hW hS ⟨by symm; apply if_neg; exact (fun hc => absurd (al_all (show al _ _ n_ = true from hc) k_ (by omega)) (fun e => c32 e.symm)), _, rfl⟩
  exact L3 _ 0 _ _ _ (Nat.lt_succ_self _) (by omega) rfl (by rw [show itf mon 0 (σ 24) = σ 24 from rfl, us_id]; exact hW) hS (lv_sub hl [0, 1, 2, 3, 4] rfl)
