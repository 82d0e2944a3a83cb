
set_option maxRecDepth 100000 in
set_option maxHeartbeats 4000000 in
theorem c_X6_begin (l : Launch) (D : va_G) (cy : Nat → ClassId) (B : Nat) (σ : Sg) (o_ : Nat) (hR : isR o_) : CV l yX6_begin cX6_begin 2 1 20 D cy B [.ref (B + o_)] σ (us σ o_ (rbk 4 (σ o_))) := by
  refine CV_of (by decide) (Nat.le_of_ble_eq_true rfl) ?_
  intro p e R s m args below meth c Q hx hb hml hown hts hK hRf hRl hW hret ls hl
  have hown : s.vm.findClass "LoveParts$Realm" = some m.cls := hown
  have hS : va_S (AB B) s.heap s.heap [] := va_S.rf
  have hl : lv_has ls 2 [(0, .ref (B + o_))] := hl
  refine lv_aload_n hx hb dX6_begin_0 rfl (lv_at hl 0 rfl) ?_
  refine zi_con hx hb dX6_begin_1 ?_
  refine wz_put (σ' := (up σ o_ 4 0)) (ty := .int) hx hb hts hown hK hW hS o_ 1 tyX6 (lt_R hR) (e_R hR) rfl (by decide) inG6 tyX6_ok nmX6 w_247 ⟨rfl, rfl, Nat.le_of_ble_eq_true rfl⟩ (by decide +kernel) ⟨rfl, rfl⟩ (p_R_1 hR) dX6_begin_2 (fun H locs hW hS => ?_)
  refine lv_aload_n hx hb dX6_begin_5 rfl (lv_at hl 0 rfl) ?_
  refine zi_con hx hb dX6_begin_6 ?_
  refine wz_put (σ' := (up (up σ o_ 4 0) o_ 6 0)) (ty := .int) hx hb hts hown hK hW hS o_ 6 tyX6 (lt_R hR) (e_R hR) rfl (by decide) inG6 tyX6_ok nmX6 w_262 ⟨rfl, rfl, Nat.le_of_ble_eq_true rfl⟩ (by decide +kernel) ⟨rfl, rfl⟩ (p_R_6 hR) dX6_begin_7 (fun H locs hW hS => ?_)
  refine lv_aload_n hx hb dX6_begin_10 rfl (lv_at hl 0 rfl) ?_
  refine zi_con hx hb dX6_begin_11 ?_
  refine wz_put (σ' := (up (up (up σ o_ 4 0) o_ 6 0) o_ 5 0)) (ty := .int) hx hb hts hown hK hW hS o_ 7 tyX6 (lt_R hR) (e_R hR) rfl (by decide) inG6 tyX6_ok nmX6 w_264 ⟨rfl, rfl, Nat.le_of_ble_eq_true rfl⟩ (by decide +kernel) ⟨rfl, rfl⟩ (p_R_7 hR) dX6_begin_12 (fun H locs hW hS => ?_)
  refine lv_aload_n hx hb dX6_begin_15 rfl (lv_at hl 0 rfl) ?_
  refine zi_con hx hb dX6_begin_16 ?_
  refine wz_put (σ' := (up (up (up (up σ o_ 4 0) o_ 6 0) o_ 5 0) o_ 7 0)) (ty := .boolean) hx hb hts hown hK hW hS o_ 8 tyX6 (lt_R hR) (e_R hR) rfl (by decide) inG6 tyX6_ok nmX6 w_266 ⟨rfl, rfl, Nat.le_of_ble_eq_true rfl⟩ (by decide +kernel) ⟨rfl, rfl⟩ (p_R_8 hR) dX6_begin_17 (fun H locs hW hS => ?_)
  refine zi_con hx hb dX6_begin_20 ?_
  refine lv_istore_n (lv' := [(1, .int (iI (0))), (0, .ref (B + o_))]) hx hb dX6_begin_21 rfl hl (by decide) rfl (fun ls hl => ?_)
  have L22 : ∀ (n22 : Nat) (k_ : Nat) (H : Heap) (locs : List Loc) (ls : Array Slot), 4 - k_ < n22 → (k_ ≤ 4) → wd D cy B (us σ o_ (rbk k_ (σ o_))) H → va_S (AB B) s.heap H locs → lv_has ls 2 [(1, .int (iI (((k_ : Nat) : Int)))), (0, .ref (B + o_))] → W p l e R s m args below meth c H locs 0 0 Q (F0 m 22 ls []) := by
    intro n22
    induction n22 with
    | zero => intro k_ H locs ls hms; omega
    | succ n22 ih22 =>
      intro k_ H locs ls hms22 hk hW hS hl
      refine lv_iload_n hx hb dX6_begin_22 rfl (lv_at hl 0 rfl) ?_
      refine zi_con hx hb dX6_begin_23 ?_
      refine zi_cge (tgt := 42) hx hb dX6_begin_24 (by decide) (by omega) (by omega) (fun c24 => ?_) (fun c24 => ?_)
      · exact hret _ _ _ _ _ dX6_begin_42 hW hS (by rw [show k_ = 4 from by omega])
      · refine lv_aload_n hx hb dX6_begin_27 rfl (lv_at hl 1 rfl) ?_
        refine wz_get hx hb hts hown hK hW o_ 0 (lt_R hR) (e_R hR) rfl (by decide) inG6 w_244 rfl rfl dX6_begin_28 ?_
        refine lv_iload_n hx hb dX6_begin_31 rfl (lv_at hl 0 rfl) ?_
        refine wz_ara hx hb hK hW (o_ + 1) k_ 2 (lt_Ra hR) (e_Ra hR) rfl (by omega) (by omega) (by decide) rfl dX6_begin_32 ?_
        refine k_vv (fr := 1) (lo := 20) (σ' := (us (us σ o_ (rbk k_ (σ o_))) o_ (uf (uf (uf (uf (uf (uf (uf ((us σ o_ (rbk k_ (σ o_))) o_) (20 + k_) 0) (24 + k_) 0) (28 + k_) 0) (32 + k_) 0) (44 + k_) 0) (36 + k_) 0) (40 + k_) 0))) (As := []) (rest := []) hx hb hml hown hts hK hRf hRl hW hS (c_X0_begin l D cy B (us σ o_ (rbk k_ (σ o_))) o_ k_ (show isR o_ from (by first | assumption | omega | (simp only [tpL_25, List.length_cons, List.length_nil]; omega))) (show k_ < 4 from (by first | assumption | omega | (simp only [tpL_25, List.length_cons, List.length_nil]; omega)))) vX0_begin ⟨w_435, w_436⟩ w_434 (lt_H hR (by omega)) (e_H hR (by omega)) rfl ⟨Nat.le_of_ble_eq_true rfl, Nat.le_of_ble_eq_true rfl⟩ hl.1 rfl (Nat.le_of_ble_eq_true rfl) ⟨Nat.zero_le _, Nat.zero_le _⟩ dX6_begin_33 (fun H locs hW hS => ?_)
        refine lv_iinc (v := iI (((k_ : Nat) : Int) + 1)) (lv' := [(1, .int (iI (((k_ : Nat) : Int) + 1))), (0, .ref (B + o_))]) hx hb dX6_begin_36 hl (k := 0) rfl (iI_add _ _) (by decide) rfl (fun ls hl => ?_)
        refine lv_goto (tgt := 22) hx hb dX6_begin_39 (by decide) ?_
        exact ih22 (k_ + 1) _ _ _ (by omega) (by omega) (by have h2 := hW; simp only [us_us, us_eq] at h2; rw [show rbk (k_ + 1) (σ o_) = uf (uf (uf (uf (uf (uf (uf (rbk k_ (σ o_)) (20 + k_) 0) (24 + k_) 0) (28 + k_) 0) (32 + k_) 0) (44 + k_) 0) (36 + k_) 0) (40 + k_) 0 from by funext j; simp only [rbk, uf]; (repeat' split) <;> first | rfl | omega]; exact h2) hS (lv_sub hl [0, 1] rfl)
  exact L22 _ 0 _ _ _ (Nat.lt_succ_self _) (by omega) (by have h2 := hW; unfold up at h2; simp only [us_us, us_eq] at h2; rw [show rbk 0 (σ o_) = uf (uf (uf (uf (σ o_) 4 0) 6 0) 5 0) 7 0 from by funext j; simp only [rbk, uf]; (repeat' split) <;> first | rfl | omega]; exact h2) hS (lv_sub hl [0, 1] rfl)
