
set_option maxRecDepth 100000 in
set_option maxHeartbeats 4000000 in
theorem c_X5_isFigure (l : Launch) (D : va_G) (cy : Nat → ClassId) (B : Nat) (σ : Sg) (z_ : Int) (r_z_ : -2147483648 ≤ z_ ∧ z_ < 2147483648) : CI l yX5_isFigure cX5_isFigure 1 (some .boolean) 0 0 D cy B [.int (iI (z_))] σ ((if 48 ≤ z_ ∧ z_ ≤ 57 then 1 else 0)) (σ) := by
  refine CI_of (ty := .boolean) (by decide) (nb_ite) (Nat.le_of_ble_eq_true rfl) ?_
  intro p e R s m args below meth c Q hx hb hml hown hts hK hRf hRl hW hret ls hl
  have hown : s.vm.findClass "LoveParts$Reader" = some m.cls := hown
  have hS : va_S (AB B) s.heap s.heap [] := va_S.rf
  have hl : lv_has ls 1 [(0, .int (iI (z_)))] := hl
  refine lv_iload_n hx hb dX5_isFigure_0 rfl (lv_at hl 0 rfl) ?_
  refine zi_bip hx hb dX5_isFigure_1 (by decide) ?_
  refine zi_clt (tgt := 16) hx hb dX5_isFigure_3 (by decide) (by omega) (by omega) (fun c3 => ?_) (fun c3 => ?_)
  · refine zi_con hx hb dX5_isFigure_16 ?_
    exact hret _ _ _ _ _ _ dX5_isFigure_17 hW hS ⟨by split <;> first | rfl | omega, rfl⟩
  · refine lv_iload_n hx hb dX5_isFigure_6 rfl (lv_at hl 0 rfl) ?_
    refine zi_bip hx hb dX5_isFigure_7 (by decide) ?_
    refine zi_cgt (tgt := 16) hx hb dX5_isFigure_9 (by decide) (by omega) (by omega) (fun c9 => ?_) (fun c9 => ?_)
    · refine zi_con hx hb dX5_isFigure_16 ?_
      exact hret _ _ _ _ _ _ dX5_isFigure_17 hW hS ⟨by split <;> first | rfl | omega, rfl⟩
    · refine zi_con hx hb dX5_isFigure_12 ?_
      refine lv_goto (tgt := 17) hx hb dX5_isFigure_13 (by decide) ?_
      exact hret _ _ _ _ _ _ dX5_isFigure_17 hW hS ⟨by split <;> first | rfl | omega, rfl⟩

set_option maxRecDepth 100000 in
set_option maxHeartbeats 4000000 in
theorem c_X5_readFigures (l : Launch) (D : va_G) (cy : Nat → ClassId) (B : Nat) (σ : Sg)  (hq9 : 0 ≤ σ 2 3 ∧ σ 2 3 < σ 2 1) (hL9 : σ 2 1 ≤ 100) (hv9 : σ 2 6 = 0) (htp : ∀ k, k < 100 → 0 ≤ σ 3 k ∧ σ 3 k ≤ 255) : CV l yX5_readFigures cX5_readFigures 1 1 20 D cy B [.ref (B + 2)] σ (rfg (σ)) := by
  refine CV_of (by decide) (Nat.le_of_ble_eq_true rfl) ?_
  intro p e R s m args below meth c Q hx hb hml hown hts hK hRf hRl hW hret ls hl
  have hown : s.vm.findClass "LoveParts$Reader" = some m.cls := hown
  have hS : va_S (AB B) s.heap s.heap [] := va_S.rf
  have hl : lv_has ls 1 [(0, .ref (B + 2))] := hl
  obtain ⟨q_, hq_⟩ : ∃ q : Nat, σ 2 3 = (q : Int) := ⟨(σ 2 3).toNat, by omega⟩
  have eq_ : (σ 2 3).toNat = q_ := by omega
  obtain ⟨n_, hn_⟩ : ∃ n : Nat, (σ 2 1).toNat - (σ 2 3).toNat = n := ⟨_, rfl⟩
  refine lv_aload_n hx hb dX5_readFigures_0 rfl (lv_at hl 0 rfl) ?_
  refine lv_aload_n hx hb dX5_readFigures_1 rfl (lv_at hl 0 rfl) ?_
  refine wz_get hx hb hts hown hK hW 2 3 (by decide) e_2 rfl (by decide) inG5 w_90 rfl rfl dX5_readFigures_2 ?_
  refine wz_put (σ' := (up σ 2 4 (σ 2 3))) (ty := .int) hx hb hts hown hK hW hS 2 4 tyX5 (by decide) e_2 rfl (by decide) inG5 tyX5_ok nmX5 w_92 ⟨rfl, rfl, Nat.le_of_ble_eq_true rfl⟩ (by decide +kernel) ⟨rfl, rfl⟩ p_2_4 dX5_readFigures_5 (fun H locs hW hS => ?_)
  have L8 : ∀ (n8 : Nat) (k_ : Nat) (H : Heap) (locs : List Loc) (ls : Array Slot), 100 - k_ < n8 → (k_ ≤ n_) → (nd (σ 3) n_ q_ = k_ + nd (σ 3) (n_ - k_) (q_ + k_)) → wd D cy B (us σ 2 (uf (uf (σ 2) 4 (σ 2 3 + ((k_ : Nat) : Int))) 6 (cv (σ 3) (σ 2 3).toNat k_))) H → va_S (AB B) s.heap H locs → lv_has ls 1 [(0, .ref (B + 2))] → W p l e R s m args below meth c H locs 0 0 Q (F0 m 8 ls []) := by
    intro n8
    induction n8 with
    | zero => intro k_ H locs ls hms; omega
    | succ n8 ih8 =>
      intro k_ H locs ls hms8 hk hnd hW hS hl
      refine lv_aload_n hx hb dX5_readFigures_8 rfl (lv_at hl 0 rfl) ?_
      refine wz_get hx hb hts hown hK hW 2 4 (by decide) e_2 rfl (by decide) inG5 w_92 rfl rfl dX5_readFigures_9 ?_
      refine zi_top (y := σ 2 3 + ((k_ : Nat) : Int)) (by (first | rfl | (simp [us, uf, nS] <;> omega))) ?_
      refine lv_aload_n hx hb dX5_readFigures_12 rfl (lv_at hl 0 rfl) ?_
      refine wz_get hx hb hts hown hK hW 2 1 (by decide) e_2 rfl (by decide) inG5 w_86 rfl rfl dX5_readFigures_13 ?_
      refine zi_top (y := σ 2 1) (by (first | rfl | (simp [us, uf, nS] <;> omega))) ?_
      refine zi_cge (tgt := 71) hx hb dX5_readFigures_16 (by decide) (by omega) (by omega) (fun c16 => ?_) (fun c16 => ?_)
      · have hnk : nd (σ 3) n_ q_ = k_ := by rw [hnd, show n_ - k_ = 0 from by omega]; rfl
        refine lv_aload_n hx hb dX5_readFigures_71 rfl (lv_at hl 0 rfl) ?_
        refine lv_aload_n hx hb dX5_readFigures_72 rfl (lv_at hl 0 rfl) ?_
        refine wz_get hx hb hts hown hK hW 2 4 (by decide) e_2 rfl (by decide) inG5 w_92 rfl rfl dX5_readFigures_73 ?_
        refine zi_top (y := σ 2 3 + ((k_ : Nat) : Int)) (by (first | rfl | (simp [us, uf, nS] <;> omega))) ?_
        refine lv_aload_n hx hb dX5_readFigures_76 rfl (lv_at hl 0 rfl) ?_
        refine wz_get hx hb hts hown hK hW 2 3 (by decide) e_2 rfl (by decide) inG5 w_90 rfl rfl dX5_readFigures_77 ?_
        refine zi_top (y := σ 2 3) (by (first | rfl | (simp [us, uf, nS] <;> omega))) ?_
        refine zi_sub hx hb dX5_readFigures_80 ?_
        refine zi_con hx hb dX5_readFigures_81 ?_
        refine zi_cgt (tgt := 91) hx hb dX5_readFigures_82 (by decide) (by omega) (by omega) (fun c82 => ?_) (fun c82 => ?_)
        · refine zi_sip hx hb dX5_readFigures_91 (by decide) ?_
          refine wz_put (σ' := (up (us σ 2 (uf (uf (σ 2) 4 (σ 2 3 + ((k_ : Nat) : Int))) 6 (cv (σ 3) (σ 2 3).toNat k_))) 2 5 258)) (ty := .int) hx hb hts hown hK hW hS 2 5 tyX5 (by decide) e_2 rfl (by decide) inG5 tyX5_ok nmX5 w_93 ⟨rfl, rfl, Nat.le_of_ble_eq_true rfl⟩ (by decide +kernel) ⟨rfl, rfl⟩ p_2_5 dX5_readFigures_94 (fun H locs hW hS => ?_)
          exact hret _ _ _ _ _ dX5_readFigures_97 hW hS (by have hr : rfN σ = k_ := (by unfold rfN; rw [hn_, eq_]; exact hnk); unfold rfg; rw [hr]; unfold up; rw [us_us, us_eq]; first | rw [if_pos (by omega)] | rw [if_neg (by omega)])
        · refine zi_sip hx hb dX5_readFigures_85 (by decide) ?_
          refine lv_goto (tgt := 94) hx hb dX5_readFigures_88 (by decide) ?_
          refine wz_put (σ' := (up (us σ 2 (uf (uf (σ 2) 4 (σ 2 3 + ((k_ : Nat) : Int))) 6 (cv (σ 3) (σ 2 3).toNat k_))) 2 5 256)) (ty := .int) hx hb hts hown hK hW hS 2 5 tyX5 (by decide) e_2 rfl (by decide) inG5 tyX5_ok nmX5 w_93 ⟨rfl, rfl, Nat.le_of_ble_eq_true rfl⟩ (by decide +kernel) ⟨rfl, rfl⟩ p_2_5 dX5_readFigures_94 (fun H locs hW hS => ?_)
          exact hret _ _ _ _ _ dX5_readFigures_97 hW hS (by have hr : rfN σ = k_ := (by unfold rfN; rw [hn_, eq_]; exact hnk); unfold rfg; rw [hr]; unfold up; rw [us_us, us_eq]; first | rw [if_pos (by omega)] | rw [if_neg (by omega)])
      · have htk := htp ((σ 2 3).toNat + k_) (by omega)
        refine lv_aload_n hx hb dX5_readFigures_19 rfl (lv_at hl 0 rfl) ?_
        refine wz_get hx hb hts hown hK hW 2 0 (by decide) e_2 rfl (by decide) inG5 w_84 rfl rfl dX5_readFigures_20 ?_
        refine lv_aload_n hx hb dX5_readFigures_23 rfl (lv_at hl 0 rfl) ?_
        refine wz_get hx hb hts hown hK hW 2 4 (by decide) e_2 rfl (by decide) inG5 w_92 rfl rfl dX5_readFigures_24 ?_
        refine zi_top (y := σ 2 3 + ((k_ : Nat) : Int)) (by (first | rfl | (simp [us, uf, nS] <;> omega))) ?_
        refine wz_ald hx hb hK hW 3 ((σ 2 3).toNat + k_) (by decide) e_3 (by omega) (by omega) (by decide) dX5_readFigures_27 ?_
        refine zi_top (y := σ 3 ((σ 2 3).toNat + k_)) (by (first | rfl | (simp [us, uf, nS] <;> omega))) ?_
        refine k_si (fr := 1) (lo := 20) (r := (if 48 ≤ (σ 3 ((σ 2 3).toNat + k_)) ∧ (σ 3 ((σ 2 3).toNat + k_)) ≤ 57 then 1 else 0)) (As := [.int (iI (σ 3 ((σ 2 3).toNat + k_)))]) (rest := []) hx hb hml hown hts hK hRf hRl hW hS (c_X5_isFigure l D cy B (us σ 2 (uf (uf (σ 2) 4 (σ 2 3 + ((k_ : Nat) : Int))) 6 (cv (σ 3) (σ 2 3).toNat k_))) (σ 3 ((σ 2 3).toNat + k_)) (show -2147483648 ≤ (σ 3 ((σ 2 3).toNat + k_)) ∧ (σ 3 ((σ 2 3).toNat + k_)) < 2147483648 from (by first | assumption | omega | (simp only [tpL_25, tcL_1, List.length_cons, List.length_nil]; omega)))) vX5_isFigure w_424 w_423 ⟨Nat.le_of_ble_eq_true rfl, Nat.le_of_ble_eq_true rfl⟩ hl.1 rfl (Nat.le_of_ble_eq_true rfl) ⟨Nat.zero_le _, Nat.zero_le _⟩ dX5_readFigures_28 (fun H locs hW hS => ?_)
        refine zi_beq (tgt := 71) hx hb dX5_readFigures_31 (by decide) (fun c31 => ?_) (fun c31 => ?_)
        · have hnk : nd (σ 3) n_ q_ = k_ := by rw [hnd, nd_n (by rw [← eq_]; omega)]; rfl
          refine lv_aload_n hx hb dX5_readFigures_71 rfl (lv_at hl 0 rfl) ?_
          refine lv_aload_n hx hb dX5_readFigures_72 rfl (lv_at hl 0 rfl) ?_
          refine wz_get hx hb hts hown hK hW 2 4 (by decide) e_2 rfl (by decide) inG5 w_92 rfl rfl dX5_readFigures_73 ?_
          refine zi_top (y := σ 2 3 + ((k_ : Nat) : Int)) (by (first | rfl | (simp [us, uf, nS] <;> omega))) ?_
          refine lv_aload_n hx hb dX5_readFigures_76 rfl (lv_at hl 0 rfl) ?_
          refine wz_get hx hb hts hown hK hW 2 3 (by decide) e_2 rfl (by decide) inG5 w_90 rfl rfl dX5_readFigures_77 ?_
          refine zi_top (y := σ 2 3) (by (first | rfl | (simp [us, uf, nS] <;> omega))) ?_
          refine zi_sub hx hb dX5_readFigures_80 ?_
          refine zi_con hx hb dX5_readFigures_81 ?_
          refine zi_cgt (tgt := 91) hx hb dX5_readFigures_82 (by decide) (by omega) (by omega) (fun c82 => ?_) (fun c82 => ?_)
          · refine zi_sip hx hb dX5_readFigures_91 (by decide) ?_
            refine wz_put (σ' := (up (us σ 2 (uf (uf (σ 2) 4 (σ 2 3 + ((k_ : Nat) : Int))) 6 (cv (σ 3) (σ 2 3).toNat k_))) 2 5 258)) (ty := .int) hx hb hts hown hK hW hS 2 5 tyX5 (by decide) e_2 rfl (by decide) inG5 tyX5_ok nmX5 w_93 ⟨rfl, rfl, Nat.le_of_ble_eq_true rfl⟩ (by decide +kernel) ⟨rfl, rfl⟩ p_2_5 dX5_readFigures_94 (fun H locs hW hS => ?_)
            exact hret _ _ _ _ _ dX5_readFigures_97 hW hS (by have hr : rfN σ = k_ := (by unfold rfN; rw [hn_, eq_]; exact hnk); unfold rfg; rw [hr]; unfold up; rw [us_us, us_eq]; first | rw [if_pos (by omega)] | rw [if_neg (by omega)])
          · refine zi_sip hx hb dX5_readFigures_85 (by decide) ?_
            refine lv_goto (tgt := 94) hx hb dX5_readFigures_88 (by decide) ?_
            refine wz_put (σ' := (up (us σ 2 (uf (uf (σ 2) 4 (σ 2 3 + ((k_ : Nat) : Int))) 6 (cv (σ 3) (σ 2 3).toNat k_))) 2 5 256)) (ty := .int) hx hb hts hown hK hW hS 2 5 tyX5 (by decide) e_2 rfl (by decide) inG5 tyX5_ok nmX5 w_93 ⟨rfl, rfl, Nat.le_of_ble_eq_true rfl⟩ (by decide +kernel) ⟨rfl, rfl⟩ p_2_5 dX5_readFigures_94 (fun H locs hW hS => ?_)
            exact hret _ _ _ _ _ dX5_readFigures_97 hW hS (by have hr : rfN σ = k_ := (by unfold rfN; rw [hn_, eq_]; exact hnk); unfold rfg; rw [hr]; unfold up; rw [us_us, us_eq]; first | rw [if_pos (by omega)] | rw [if_neg (by omega)])
        · refine lv_aload_n hx hb dX5_readFigures_34 rfl (lv_at hl 0 rfl) ?_
          refine zi_bip hx hb dX5_readFigures_35 (by decide) ?_
          refine lv_aload_n hx hb dX5_readFigures_37 rfl (lv_at hl 0 rfl) ?_
          refine wz_get hx hb hts hown hK hW 2 6 (by decide) e_2 rfl (by decide) inG5 w_94 rfl rfl dX5_readFigures_38 ?_
          refine zi_top (y := cv (σ 3) (σ 2 3).toNat k_) (by (first | rfl | (simp [us, uf, nS] <;> omega))) ?_
          refine zi_mul hx hb dX5_readFigures_41 ?_
          refine lv_aload_n hx hb dX5_readFigures_42 rfl (lv_at hl 0 rfl) ?_
          refine wz_get hx hb hts hown hK hW 2 0 (by decide) e_2 rfl (by decide) inG5 w_84 rfl rfl dX5_readFigures_43 ?_
          refine lv_aload_n hx hb dX5_readFigures_46 rfl (lv_at hl 0 rfl) ?_
          refine wz_get hx hb hts hown hK hW 2 4 (by decide) e_2 rfl (by decide) inG5 w_92 rfl rfl dX5_readFigures_47 ?_
          refine zi_top (y := σ 2 3 + ((k_ : Nat) : Int)) (by (first | rfl | (simp [us, uf, nS] <;> omega))) ?_
          refine wz_ald hx hb hK hW 3 ((σ 2 3).toNat + k_) (by decide) e_3 (by omega) (by omega) (by decide) dX5_readFigures_50 ?_
          refine zi_top (y := σ 3 ((σ 2 3).toNat + k_)) (by (first | rfl | (simp [us, uf, nS] <;> omega))) ?_
          refine zi_add hx hb dX5_readFigures_51 ?_
          refine zi_bip hx hb dX5_readFigures_52 (by decide) ?_
          refine zi_sub hx hb dX5_readFigures_54 ?_
          refine wz_put (σ' := (up (us σ 2 (uf (uf (σ 2) 4 (σ 2 3 + ((k_ : Nat) : Int))) 6 (cv (σ 3) (σ 2 3).toNat k_))) 2 6 (((10 * (cv (σ 3) (σ 2 3).toNat k_)) + (σ 3 ((σ 2 3).toNat + k_))) - 48))) (ty := .int) hx hb hts hown hK hW hS 2 6 tyX5 (by decide) e_2 rfl (by decide) inG5 tyX5_ok nmX5 w_94 ⟨rfl, rfl, Nat.le_of_ble_eq_true rfl⟩ (by decide +kernel) ⟨rfl, rfl⟩ p_2_6 dX5_readFigures_55 (fun H locs hW hS => ?_)
          refine lv_aload_n hx hb dX5_readFigures_58 rfl (lv_at hl 0 rfl) ?_
          refine lv_dup hx hb dX5_readFigures_59 rfl ?_
          refine wz_get hx hb hts hown hK hW 2 4 (by decide) e_2 rfl (by decide) inG5 w_92 rfl rfl dX5_readFigures_60 ?_
          refine zi_top (y := σ 2 3 + ((k_ : Nat) : Int)) (by (first | rfl | (simp [us, uf, nS] <;> omega))) ?_
          refine zi_con hx hb dX5_readFigures_63 ?_
          refine zi_add hx hb dX5_readFigures_64 ?_
          refine wz_put (σ' := (up (up (us σ 2 (uf (uf (σ 2) 4 (σ 2 3 + ((k_ : Nat) : Int))) 6 (cv (σ 3) (σ 2 3).toNat k_))) 2 6 (((10 * (cv (σ 3) (σ 2 3).toNat k_)) + (σ 3 ((σ 2 3).toNat + k_))) - 48)) 2 4 ((σ 2 3 + ((k_ : Nat) : Int)) + 1))) (ty := .int) hx hb hts hown hK hW hS 2 4 tyX5 (by decide) e_2 rfl (by decide) inG5 tyX5_ok nmX5 w_92 ⟨rfl, rfl, Nat.le_of_ble_eq_true rfl⟩ (by decide +kernel) ⟨rfl, rfl⟩ p_2_4 dX5_readFigures_65 (fun H locs hW hS => ?_)
          refine lv_goto (tgt := 8) hx hb dX5_readFigures_68 (by decide) ?_
          exact ih8 (k_ + 1) _ _ _ (by omega) (by omega) (by rw [hnd, show n_ - k_ = (n_ - (k_ + 1)) + 1 from by omega, nd_s (by rw [← eq_]; omega), show q_ + (k_ + 1) = q_ + k_ + 1 from by omega]; omega) (by have h2 := hW; unfold up at h2; simp only [us_us, us_eq] at h2; rw [show uf (uf (σ 2) 4 (σ 2 3 + ((k_ + 1 : Nat) : Int))) 6 (cv (σ 3) (σ 2 3).toNat (k_ + 1)) = uf (uf (uf (uf (σ 2) 4 (σ 2 3 + ((k_ : Nat) : Int))) 6 (cv (σ 3) (σ 2 3).toNat k_)) 6 (10 * cv (σ 3) (σ 2 3).toNat k_ + σ 3 ((σ 2 3).toNat + k_) - 48)) 4 (σ 2 3 + ((k_ : Nat) : Int) + 1) from by rw [cv_s]; funext j; simp only [uf]; (repeat' split) <;> first | rfl | omega]; exact h2) hS (lv_sub hl [0] rfl)
  exact L8 _ 0 _ _ _ (Nat.lt_succ_self _) (by omega) (by rw [Nat.sub_zero, Nat.add_zero, Nat.zero_add]) (by have h2 := hW; unfold up at h2; rw [show uf (uf (σ 2) 4 (σ 2 3 + ((0 : Nat) : Int))) 6 (cv (σ 3) (σ 2 3).toNat 0) = uf (σ 2) 4 (σ 2 3) from by funext j; simp only [uf, cv]; (repeat' split) <;> first | rfl | omega | (subst_vars; first | rfl | omega)]; exact h2) hS (lv_sub hl [0] rfl)

set_option maxRecDepth 100000 in
set_option maxHeartbeats 4000000 in
theorem c_X5_nextToken (l : Launch) (D : va_G) (cy : Nat → ClassId) (B : Nat) (σ : Sg)  (hri : RI (σ)) : CV l yX5_nextToken cX5_nextToken 2 2 40 D cy B [.ref (B + 2)] σ (cnt (σ)) := by
  refine CV_of (by decide) (Nat.le_of_ble_eq_true rfl) ?_
  intro p e R s m args below meth c Q hx hb hml hown hts hK hRf hRl hW hret ls hl
  have hown : s.vm.findClass "LoveParts$Reader" = some m.cls := hown
  have hS : va_S (AB B) s.heap s.heap [] := va_S.rf
  have hl : lv_has ls 2 [(0, .ref (B + 2))] := hl
  obtain ⟨q2, ⟨q4, qL⟩, q5, q6, htp⟩ := id hri
  refine lv_aload_n hx hb dX5_nextToken_0 rfl (lv_at hl 0 rfl) ?_
  refine wz_get hx hb hts hown hK hW 2 2 (by decide) e_2 rfl (by decide) inG5 w_88 rfl rfl dX5_nextToken_1 ?_
  refine zi_eq (tgt := 8) hx hb dX5_nextToken_4 (by decide) (by omega) (fun c4 => ?_) (fun c4 => ?_)
  · refine lv_aload_n hx hb dX5_nextToken_8 rfl (lv_at hl 0 rfl) ?_
    refine lv_aload_n hx hb dX5_nextToken_9 rfl (lv_at hl 0 rfl) ?_
    refine wz_get hx hb hts hown hK hW 2 4 (by decide) e_2 rfl (by decide) inG5 w_92 rfl rfl dX5_nextToken_10 ?_
    refine wz_put (σ' := (up σ 2 3 (σ 2 4))) (ty := .int) hx hb hts hown hK hW hS 2 3 tyX5 (by decide) e_2 rfl (by decide) inG5 tyX5_ok nmX5 w_90 ⟨rfl, rfl, Nat.le_of_ble_eq_true rfl⟩ (by decide +kernel) ⟨rfl, rfl⟩ p_2_3 dX5_nextToken_13 (fun H locs hW hS => ?_)
    refine lv_aload_n hx hb dX5_nextToken_16 rfl (lv_at hl 0 rfl) ?_
    refine zi_con hx hb dX5_nextToken_17 ?_
    refine wz_put (σ' := (up (up σ 2 3 (σ 2 4)) 2 6 0)) (ty := .int) hx hb hts hown hK hW hS 2 6 tyX5 (by decide) e_2 rfl (by decide) inG5 tyX5_ok nmX5 w_94 ⟨rfl, rfl, Nat.le_of_ble_eq_true rfl⟩ (by decide +kernel) ⟨rfl, rfl⟩ p_2_6 dX5_nextToken_18 (fun H locs hW hS => ?_)
    refine lv_aload_n hx hb dX5_nextToken_21 rfl (lv_at hl 0 rfl) ?_
    refine wz_get hx hb hts hown hK hW 2 3 (by decide) e_2 rfl (by decide) inG5 w_90 rfl rfl dX5_nextToken_22 ?_
    refine zi_top (y := σ 2 4) (by (first | rfl | (simp [us, uf, nS] <;> omega))) ?_
    refine lv_aload_n hx hb dX5_nextToken_25 rfl (lv_at hl 0 rfl) ?_
    refine wz_get hx hb hts hown hK hW 2 1 (by decide) e_2 rfl (by decide) inG5 w_86 rfl rfl dX5_nextToken_26 ?_
    refine zi_top (y := σ 2 1) (by (first | rfl | (simp [us, uf, nS] <;> omega))) ?_
    refine zi_clt (tgt := 40) hx hb dX5_nextToken_29 (by decide) (by omega) (by omega) (fun c29 => ?_) (fun c29 => ?_)
    · have hlt : ¬ (σ 2 1).toNat ≤ (σ 2 4).toNat := by omega
      have htk := htp (σ 2 4).toNat (by omega)
      refine lv_aload_n hx hb dX5_nextToken_40 rfl (lv_at hl 0 rfl) ?_
      refine wz_get hx hb hts hown hK hW 2 0 (by decide) e_2 rfl (by decide) inG5 w_84 rfl rfl dX5_nextToken_41 ?_
      refine lv_aload_n hx hb dX5_nextToken_44 rfl (lv_at hl 0 rfl) ?_
      refine wz_get hx hb hts hown hK hW 2 3 (by decide) e_2 rfl (by decide) inG5 w_90 rfl rfl dX5_nextToken_45 ?_
      refine zi_top (y := σ 2 4) (by (first | rfl | (simp [us, uf, nS] <;> omega))) ?_
      refine wz_ald hx hb hK hW 3 ((σ 2 4).toNat) (by decide) e_3 (by omega) (by omega) (by decide) dX5_nextToken_48 ?_
      refine zi_top (y := σ 3 ((σ 2 4).toNat)) (by (first | rfl | (simp [us, uf, nS] <;> omega))) ?_
      refine lv_istore_n (lv' := [(1, .int (iI (σ 3 ((σ 2 4).toNat)))), (0, .ref (B + 2))]) hx hb dX5_nextToken_49 rfl hl (by decide) rfl (fun ls hl => ?_)
      refine lv_aload_n hx hb dX5_nextToken_50 rfl (lv_at hl 1 rfl) ?_
      refine lv_aload_n hx hb dX5_nextToken_51 rfl (lv_at hl 1 rfl) ?_
      refine wz_get hx hb hts hown hK hW 2 3 (by decide) e_2 rfl (by decide) inG5 w_90 rfl rfl dX5_nextToken_52 ?_
      refine zi_top (y := σ 2 4) (by (first | rfl | (simp [us, uf, nS] <;> omega))) ?_
      refine zi_con hx hb dX5_nextToken_55 ?_
      refine zi_add hx hb dX5_nextToken_56 ?_
      refine wz_put (σ' := (up (up (up σ 2 3 (σ 2 4)) 2 6 0) 2 4 ((σ 2 4) + 1))) (ty := .int) hx hb hts hown hK hW hS 2 4 tyX5 (by decide) e_2 rfl (by decide) inG5 tyX5_ok nmX5 w_92 ⟨rfl, rfl, Nat.le_of_ble_eq_true rfl⟩ (by decide +kernel) ⟨rfl, rfl⟩ p_2_4 dX5_nextToken_57 (fun H locs hW hS => ?_)
      refine lv_iload_n hx hb dX5_nextToken_60 rfl (lv_at hl 0 rfl) ?_
      refine k_si (fr := 2) (lo := 40) (r := (if 48 ≤ (σ 3 ((σ 2 4).toNat)) ∧ (σ 3 ((σ 2 4).toNat)) ≤ 57 then 1 else 0)) (As := [.int (iI (σ 3 ((σ 2 4).toNat)))]) (rest := []) hx hb hml hown hts hK hRf hRl hW hS (c_X5_isFigure l D cy B (up (up (up σ 2 3 (σ 2 4)) 2 6 0) 2 4 ((σ 2 4) + 1)) (σ 3 ((σ 2 4).toNat)) (show -2147483648 ≤ (σ 3 ((σ 2 4).toNat)) ∧ (σ 3 ((σ 2 4).toNat)) < 2147483648 from (by first | assumption | omega | (simp only [tpL_25, tcL_1, List.length_cons, List.length_nil]; omega)))) vX5_isFigure w_424 w_423 ⟨Nat.le_of_ble_eq_true rfl, Nat.le_of_ble_eq_true rfl⟩ hl.1 rfl (Nat.le_of_ble_eq_true rfl) ⟨Nat.zero_le _, Nat.zero_le _⟩ dX5_nextToken_61 (fun H locs hW hS => ?_)
      refine zi_beq (tgt := 74) hx hb dX5_nextToken_64 (by decide) (fun c64 => ?_) (fun c64 => ?_)
      · have hn0 : nd (σ 3) ((σ 2 1).toNat - (σ 2 4).toNat) (σ 2 4).toNat = 0 := nd_n (by omega)
        have ev0 : ctv (σ 3) (σ 2 1).toNat (σ 2 4).toNat = 0 := by unfold ctv; rw [if_neg hlt, hn0]; rfl
        have ep0 : ((ctp (σ 3) (σ 2 1).toNat (σ 2 4).toNat : Nat) : Int) = σ 2 4 + 1 := by unfold ctp; rw [if_neg hlt, hn0, if_neg (by omega)]; omega
        have ek0 : ctk (σ 3) (σ 2 1).toNat (σ 2 4).toNat = if (97 ≤ σ 3 (σ 2 4).toNat ∧ σ 3 (σ 2 4).toNat ≤ 122) ∨ σ 3 (σ 2 4).toNat = 44 ∨ σ 3 (σ 2 4).toNat = 59 then σ 3 (σ 2 4).toNat else 258 := by unfold ctk; rw [if_neg hlt, hn0, if_neg (by omega)]
        refine lv_aload_n hx hb dX5_nextToken_74 rfl (lv_at hl 1 rfl) ?_
        refine lv_iload_n hx hb dX5_nextToken_75 rfl (lv_at hl 0 rfl) ?_
        refine zi_bip hx hb dX5_nextToken_76 (by decide) ?_
        refine zi_clt (tgt := 87) hx hb dX5_nextToken_78 (by decide) (by omega) (by omega) (fun c78 => ?_) (fun c78 => ?_)
        · refine lv_iload_n hx hb dX5_nextToken_87 rfl (lv_at hl 0 rfl) ?_
          refine zi_bip hx hb dX5_nextToken_88 (by decide) ?_
          refine zi_ceq (tgt := 99) hx hb dX5_nextToken_90 (by decide) (by omega) (by omega) (fun c90 => ?_) (fun c90 => ?_)
          · refine lv_iload_n hx hb dX5_nextToken_99 rfl (lv_at hl 0 rfl) ?_
            refine lv_goto (tgt := 106) hx hb dX5_nextToken_100 (by decide) ?_
            refine wz_put (σ' := (up (up (up (up σ 2 3 (σ 2 4)) 2 6 0) 2 4 ((σ 2 4) + 1)) 2 5 (σ 3 ((σ 2 4).toNat)))) (ty := .int) hx hb hts hown hK hW hS 2 5 tyX5 (by decide) e_2 rfl (by decide) inG5 tyX5_ok nmX5 w_93 ⟨rfl, rfl, Nat.le_of_ble_eq_true rfl⟩ (by decide +kernel) ⟨rfl, rfl⟩ p_2_5 dX5_nextToken_106 (fun H locs hW hS => ?_)
            exact hret _ _ _ _ _ dX5_nextToken_109 hW hS (by first | rfl | (rw [cnt_ok (by omega), ev0, ep0, ek0]; (first | rw [if_pos (by omega)] | rw [if_neg (by omega)]); unfold up; simp only [us_us, us_eq]; congr 1; funext j; simp only [uf, rk]; (repeat' split) <;> first | rfl | omega | (subst_vars; first | rfl | omega)))
          · refine lv_iload_n hx hb dX5_nextToken_93 rfl (lv_at hl 0 rfl) ?_
            refine zi_bip hx hb dX5_nextToken_94 (by decide) ?_
            refine zi_cne (tgt := 103) hx hb dX5_nextToken_96 (by decide) (by omega) (by omega) (fun c96 => ?_) (fun c96 => ?_)
            · refine zi_sip hx hb dX5_nextToken_103 (by decide) ?_
              refine wz_put (σ' := (up (up (up (up σ 2 3 (σ 2 4)) 2 6 0) 2 4 ((σ 2 4) + 1)) 2 5 258)) (ty := .int) hx hb hts hown hK hW hS 2 5 tyX5 (by decide) e_2 rfl (by decide) inG5 tyX5_ok nmX5 w_93 ⟨rfl, rfl, Nat.le_of_ble_eq_true rfl⟩ (by decide +kernel) ⟨rfl, rfl⟩ p_2_5 dX5_nextToken_106 (fun H locs hW hS => ?_)
              exact hret _ _ _ _ _ dX5_nextToken_109 hW hS (by first | rfl | (rw [cnt_ok (by omega), ev0, ep0, ek0]; (first | rw [if_pos (by omega)] | rw [if_neg (by omega)]); unfold up; simp only [us_us, us_eq]; congr 1; funext j; simp only [uf, rk]; (repeat' split) <;> first | rfl | omega | (subst_vars; first | rfl | omega)))
            · refine lv_iload_n hx hb dX5_nextToken_99 rfl (lv_at hl 0 rfl) ?_
              refine lv_goto (tgt := 106) hx hb dX5_nextToken_100 (by decide) ?_
              refine wz_put (σ' := (up (up (up (up σ 2 3 (σ 2 4)) 2 6 0) 2 4 ((σ 2 4) + 1)) 2 5 (σ 3 ((σ 2 4).toNat)))) (ty := .int) hx hb hts hown hK hW hS 2 5 tyX5 (by decide) e_2 rfl (by decide) inG5 tyX5_ok nmX5 w_93 ⟨rfl, rfl, Nat.le_of_ble_eq_true rfl⟩ (by decide +kernel) ⟨rfl, rfl⟩ p_2_5 dX5_nextToken_106 (fun H locs hW hS => ?_)
              exact hret _ _ _ _ _ dX5_nextToken_109 hW hS (by first | rfl | (rw [cnt_ok (by omega), ev0, ep0, ek0]; (first | rw [if_pos (by omega)] | rw [if_neg (by omega)]); unfold up; simp only [us_us, us_eq]; congr 1; funext j; simp only [uf, rk]; (repeat' split) <;> first | rfl | omega | (subst_vars; first | rfl | omega)))
        · refine lv_iload_n hx hb dX5_nextToken_81 rfl (lv_at hl 0 rfl) ?_
          refine zi_bip hx hb dX5_nextToken_82 (by decide) ?_
          refine zi_cle (tgt := 99) hx hb dX5_nextToken_84 (by decide) (by omega) (by omega) (fun c84 => ?_) (fun c84 => ?_)
          · refine lv_iload_n hx hb dX5_nextToken_99 rfl (lv_at hl 0 rfl) ?_
            refine lv_goto (tgt := 106) hx hb dX5_nextToken_100 (by decide) ?_
            refine wz_put (σ' := (up (up (up (up σ 2 3 (σ 2 4)) 2 6 0) 2 4 ((σ 2 4) + 1)) 2 5 (σ 3 ((σ 2 4).toNat)))) (ty := .int) hx hb hts hown hK hW hS 2 5 tyX5 (by decide) e_2 rfl (by decide) inG5 tyX5_ok nmX5 w_93 ⟨rfl, rfl, Nat.le_of_ble_eq_true rfl⟩ (by decide +kernel) ⟨rfl, rfl⟩ p_2_5 dX5_nextToken_106 (fun H locs hW hS => ?_)
            exact hret _ _ _ _ _ dX5_nextToken_109 hW hS (by first | rfl | (rw [cnt_ok (by omega), ev0, ep0, ek0]; (first | rw [if_pos (by omega)] | rw [if_neg (by omega)]); unfold up; simp only [us_us, us_eq]; congr 1; funext j; simp only [uf, rk]; (repeat' split) <;> first | rfl | omega | (subst_vars; first | rfl | omega)))
          · refine lv_iload_n hx hb dX5_nextToken_87 rfl (lv_at hl 0 rfl) ?_
            refine zi_bip hx hb dX5_nextToken_88 (by decide) ?_
            refine zi_ceq (tgt := 99) hx hb dX5_nextToken_90 (by decide) (by omega) (by omega) (fun c90 => ?_) (fun c90 => ?_)
            · refine lv_iload_n hx hb dX5_nextToken_99 rfl (lv_at hl 0 rfl) ?_
              refine lv_goto (tgt := 106) hx hb dX5_nextToken_100 (by decide) ?_
              refine wz_put (σ' := (up (up (up (up σ 2 3 (σ 2 4)) 2 6 0) 2 4 ((σ 2 4) + 1)) 2 5 (σ 3 ((σ 2 4).toNat)))) (ty := .int) hx hb hts hown hK hW hS 2 5 tyX5 (by decide) e_2 rfl (by decide) inG5 tyX5_ok nmX5 w_93 ⟨rfl, rfl, Nat.le_of_ble_eq_true rfl⟩ (by decide +kernel) ⟨rfl, rfl⟩ p_2_5 dX5_nextToken_106 (fun H locs hW hS => ?_)
              exact hret _ _ _ _ _ dX5_nextToken_109 hW hS (by first | rfl | (rw [cnt_ok (by omega), ev0, ep0, ek0]; (first | rw [if_pos (by omega)] | rw [if_neg (by omega)]); unfold up; simp only [us_us, us_eq]; congr 1; funext j; simp only [uf, rk]; (repeat' split) <;> first | rfl | omega | (subst_vars; first | rfl | omega)))
            · refine lv_iload_n hx hb dX5_nextToken_93 rfl (lv_at hl 0 rfl) ?_
              refine zi_bip hx hb dX5_nextToken_94 (by decide) ?_
              refine zi_cne (tgt := 103) hx hb dX5_nextToken_96 (by decide) (by omega) (by omega) (fun c96 => ?_) (fun c96 => ?_)
              · refine zi_sip hx hb dX5_nextToken_103 (by decide) ?_
                refine wz_put (σ' := (up (up (up (up σ 2 3 (σ 2 4)) 2 6 0) 2 4 ((σ 2 4) + 1)) 2 5 258)) (ty := .int) hx hb hts hown hK hW hS 2 5 tyX5 (by decide) e_2 rfl (by decide) inG5 tyX5_ok nmX5 w_93 ⟨rfl, rfl, Nat.le_of_ble_eq_true rfl⟩ (by decide +kernel) ⟨rfl, rfl⟩ p_2_5 dX5_nextToken_106 (fun H locs hW hS => ?_)
                exact hret _ _ _ _ _ dX5_nextToken_109 hW hS (by first | rfl | (rw [cnt_ok (by omega), ev0, ep0, ek0]; (first | rw [if_pos (by omega)] | rw [if_neg (by omega)]); unfold up; simp only [us_us, us_eq]; congr 1; funext j; simp only [uf, rk]; (repeat' split) <;> first | rfl | omega | (subst_vars; first | rfl | omega)))
              · refine lv_iload_n hx hb dX5_nextToken_99 rfl (lv_at hl 0 rfl) ?_
                refine lv_goto (tgt := 106) hx hb dX5_nextToken_100 (by decide) ?_
                refine wz_put (σ' := (up (up (up (up σ 2 3 (σ 2 4)) 2 6 0) 2 4 ((σ 2 4) + 1)) 2 5 (σ 3 ((σ 2 4).toNat)))) (ty := .int) hx hb hts hown hK hW hS 2 5 tyX5 (by decide) e_2 rfl (by decide) inG5 tyX5_ok nmX5 w_93 ⟨rfl, rfl, Nat.le_of_ble_eq_true rfl⟩ (by decide +kernel) ⟨rfl, rfl⟩ p_2_5 dX5_nextToken_106 (fun H locs hW hS => ?_)
                exact hret _ _ _ _ _ dX5_nextToken_109 hW hS (by first | rfl | (rw [cnt_ok (by omega), ev0, ep0, ek0]; (first | rw [if_pos (by omega)] | rw [if_neg (by omega)]); unfold up; simp only [us_us, us_eq]; congr 1; funext j; simp only [uf, rk]; (repeat' split) <;> first | rfl | omega | (subst_vars; first | rfl | omega)))
      · obtain ⟨n_, hn_⟩ : ∃ n : Nat, nd (σ 3) ((σ 2 1).toNat - (σ 2 4).toNat) (σ 2 4).toNat = n := ⟨_, rfl⟩
        have hn1 : 0 < n_ := by rw [← hn_, show (σ 2 1).toNat - (σ 2 4).toNat = ((σ 2 1).toNat - (σ 2 4).toNat - 1) + 1 from by omega, nd_s (by omega)]; omega
        have ev0 : ctv (σ 3) (σ 2 1).toNat (σ 2 4).toNat = cv (σ 3) (σ 2 4).toNat n_ := by unfold ctv; rw [if_neg hlt, hn_]
        have ep0 : ((ctp (σ 3) (σ 2 1).toNat (σ 2 4).toNat : Nat) : Int) = σ 2 4 + (n_ : Int) := by unfold ctp; rw [if_neg hlt, hn_, if_pos hn1]; omega
        have ek0 : ctk (σ 3) (σ 2 1).toNat (σ 2 4).toNat = if n_ ≤ 2 then 256 else 258 := by unfold ctk; rw [if_neg hlt, hn_, if_pos hn1]; (repeat' split) <;> omega
        refine lv_aload_n hx hb dX5_nextToken_67 rfl (lv_at hl 1 rfl) ?_
        refine k_vv (fr := 2) (lo := 40) (σ' := (rfg ((up (up (up σ 2 3 (σ 2 4)) 2 6 0) 2 4 ((σ 2 4) + 1))))) (As := []) (rest := []) hx hb hml hown hts hK hRf hRl hW hS (c_X5_readFigures l D cy B (up (up (up σ 2 3 (σ 2 4)) 2 6 0) 2 4 ((σ 2 4) + 1))  (show 0 ≤ (up (up (up σ 2 3 (σ 2 4)) 2 6 0) 2 4 ((σ 2 4) + 1)) 2 3 ∧ (up (up (up σ 2 3 (σ 2 4)) 2 6 0) 2 4 ((σ 2 4) + 1)) 2 3 < (up (up (up σ 2 3 (σ 2 4)) 2 6 0) 2 4 ((σ 2 4) + 1)) 2 1 from (by show 0 ≤ σ 2 4 ∧ σ 2 4 < σ 2 1; omega)) (show (up (up (up σ 2 3 (σ 2 4)) 2 6 0) 2 4 ((σ 2 4) + 1)) 2 1 ≤ 100 from (by show σ 2 1 ≤ 100; omega)) (show (up (up (up σ 2 3 (σ 2 4)) 2 6 0) 2 4 ((σ 2 4) + 1)) 2 6 = 0 from (by rfl)) (show ∀ k, k < 100 → 0 ≤ σ 3 k ∧ σ 3 k ≤ 255 from htp)) vX5_readFigures ⟨w_427, w_428⟩ w_426 (by decide) e_2 rfl ⟨Nat.le_of_ble_eq_true rfl, Nat.le_of_ble_eq_true rfl⟩ hl.1 rfl (Nat.le_of_ble_eq_true rfl) ⟨Nat.zero_le _, Nat.zero_le _⟩ dX5_nextToken_68 (fun H locs hW hS => ?_)
        rw [show (rfg ((up (up (up σ 2 3 (σ 2 4)) 2 6 0) 2 4 ((σ 2 4) + 1)))) = (cnt (σ)) from (by rw [cnt_ok (by omega), ek0, ev0, ep0]; unfold rfg; rw [show rfN (up (up (up σ 2 3 (σ 2 4)) 2 6 0) 2 4 ((σ 2 4) + 1)) = n_ from hn_]; show us (up (up (up σ 2 3 (σ 2 4)) 2 6 0) 2 4 ((σ 2 4) + 1)) 2 (uf (uf (uf ((up (up (up σ 2 3 (σ 2 4)) 2 6 0) 2 4 ((σ 2 4) + 1)) 2) 4 (σ 2 4 + (n_ : Int))) 6 (cv (σ 3) (σ 2 4).toNat n_)) 5 (if n_ ≤ 2 then 256 else 258)) = _; unfold up; simp only [us_us, us_eq]; congr 1; funext j; simp only [uf, rk]; (repeat' split) <;> first | rfl | omega | (subst_vars; first | rfl | omega))] at hW
        refine lv_goto (tgt := 109) hx hb dX5_nextToken_71 (by decide) ?_
        exact hret _ _ _ _ _ dX5_nextToken_109 hW hS (by first | rfl | (rw [cnt_ok (by omega), ev0, ep0, ek0]; (first | rw [if_pos (by omega)] | rw [if_neg (by omega)]); unfold up; simp only [us_us, us_eq]; congr 1; funext j; simp only [uf, rk]; (repeat' split) <;> first | rfl | omega | (subst_vars; first | rfl | omega)))
    · have hle : (σ 2 1).toNat ≤ (σ 2 4).toNat := by omega
      refine lv_aload_n hx hb dX5_nextToken_32 rfl (lv_at hl 0 rfl) ?_
      refine zi_sip hx hb dX5_nextToken_33 (by decide) ?_
      refine wz_put (σ' := (up (up (up σ 2 3 (σ 2 4)) 2 6 0) 2 5 257)) (ty := .int) hx hb hts hown hK hW hS 2 5 tyX5 (by decide) e_2 rfl (by decide) inG5 tyX5_ok nmX5 w_93 ⟨rfl, rfl, Nat.le_of_ble_eq_true rfl⟩ (by decide +kernel) ⟨rfl, rfl⟩ p_2_5 dX5_nextToken_36 (fun H locs hW hS => ?_)
      exact hret _ _ _ _ _ dX5_nextToken_39 hW hS (by unfold cnt; rw [if_pos (by omega)]; rw [show ctk (σ 3) (σ 2 1).toNat (σ 2 4).toNat = 257 from if_pos hle, show ctv (σ 3) (σ 2 1).toNat (σ 2 4).toNat = 0 from if_pos hle, show ((ctp (σ 3) (σ 2 1).toNat (σ 2 4).toNat : Nat) : Int) = σ 2 4 from by unfold ctp; rw [if_pos hle]; omega]; unfold up; simp only [us_us, us_eq]; congr 1; funext j; simp only [uf, rk]; (repeat' split) <;> first | rfl | omega | (subst_vars; first | rfl | omega))
  · exact hret _ _ _ _ _ dX5_nextToken_7 hW hS (by unfold cnt; rw [if_neg (by omega)])

set_option maxRecDepth 100000 in
set_option maxHeartbeats 4000000 in
theorem c_X5_sign (l : Launch) (D : va_G) (cy : Nat → ClassId) (B : Nat) (σ : Sg) (z_ : Int) (r_z_ : -2147483648 ≤ z_ ∧ z_ < 2147483648) (hri : RI (σ)) : CV l yX5_sign cX5_sign 2 3 61 D cy B [.ref (B + 2), .int (iI (z_))] σ (sgS (σ) z_) := by
  refine CV_of (by decide) (Nat.le_of_ble_eq_true rfl) ?_
  intro p e R s m args below meth c Q hx hb hml hown hts hK hRf hRl hW hret ls hl
  have hown : s.vm.findClass "LoveParts$Reader" = some m.cls := hown
  have hS : va_S (AB B) s.heap s.heap [] := va_S.rf
  have hl : lv_has ls 2 [(0, .ref (B + 2)), (1, .int (iI (z_)))] := hl
  obtain ⟨q2, ⟨q4, qL⟩, q5, q6, htp⟩ := id hri
  refine lv_aload_n hx hb dX5_sign_0 rfl (lv_at hl 0 rfl) ?_
  refine wz_get hx hb hts hown hK hW 2 2 (by decide) e_2 rfl (by decide) inG5 w_88 rfl rfl dX5_sign_1 ?_
  refine zi_ne (tgt := 20) hx hb dX5_sign_4 (by decide) (by omega) (fun c4 => ?_) (fun c4 => ?_)
  · refine lv_aload_n hx hb dX5_sign_20 rfl (lv_at hl 0 rfl) ?_
    refine k_vv (fr := 3) (lo := 61) (σ' := (cnt (σ))) (As := []) (rest := []) hx hb hml hown hts hK hRf hRl hW hS (c_X5_nextToken l D cy B σ  (show RI (σ) from (by first | exact hri | exact RI_f hri (by omega)))) vX5_nextToken ⟨w_420, w_421⟩ w_419 (by decide) e_2 rfl ⟨Nat.le_of_ble_eq_true rfl, Nat.le_of_ble_eq_true rfl⟩ hl.1 rfl (Nat.le_of_ble_eq_true rfl) ⟨Nat.zero_le _, Nat.zero_le _⟩ dX5_sign_21 (fun H locs hW hS => ?_)
    exact hret _ _ _ _ _ dX5_sign_24 hW hS (by unfold sgS; first | (rw [if_neg (by omega)]; unfold cnt; rw [if_neg (by omega)]; done) | (rw [if_pos (by omega), if_pos (by omega)]; done) | (rw [if_pos (by omega), if_neg (by omega)]; unfold cnt; exact if_neg (by show ¬ (1 : Int) = 0; omega)))
  · refine lv_aload_n hx hb dX5_sign_7 rfl (lv_at hl 0 rfl) ?_
    refine wz_get hx hb hts hown hK hW 2 5 (by decide) e_2 rfl (by decide) inG5 w_93 rfl rfl dX5_sign_8 ?_
    refine lv_iload_n hx hb dX5_sign_11 rfl (lv_at hl 1 rfl) ?_
    refine zi_ceq (tgt := 20) hx hb dX5_sign_12 (by decide) (by omega) (by omega) (fun c12 => ?_) (fun c12 => ?_)
    · refine lv_aload_n hx hb dX5_sign_20 rfl (lv_at hl 0 rfl) ?_
      refine k_vv (fr := 3) (lo := 61) (σ' := (cnt (σ))) (As := []) (rest := []) hx hb hml hown hts hK hRf hRl hW hS (c_X5_nextToken l D cy B σ  (show RI (σ) from (by first | exact hri | exact RI_f hri (by omega)))) vX5_nextToken ⟨w_420, w_421⟩ w_419 (by decide) e_2 rfl ⟨Nat.le_of_ble_eq_true rfl, Nat.le_of_ble_eq_true rfl⟩ hl.1 rfl (Nat.le_of_ble_eq_true rfl) ⟨Nat.zero_le _, Nat.zero_le _⟩ dX5_sign_21 (fun H locs hW hS => ?_)
      exact hret _ _ _ _ _ dX5_sign_24 hW hS (by unfold sgS; first | (rw [if_neg (by omega)]; unfold cnt; rw [if_neg (by omega)]; done) | (rw [if_pos (by omega), if_pos (by omega)]; done) | (rw [if_pos (by omega), if_neg (by omega)]; unfold cnt; exact if_neg (by show ¬ (1 : Int) = 0; omega)))
    · refine lv_aload_n hx hb dX5_sign_15 rfl (lv_at hl 0 rfl) ?_
      refine zi_con hx hb dX5_sign_16 ?_
      refine wz_put (σ' := (up σ 2 2 1)) (ty := .int) hx hb hts hown hK hW hS 2 2 tyX5 (by decide) e_2 rfl (by decide) inG5 tyX5_ok nmX5 w_88 ⟨rfl, rfl, Nat.le_of_ble_eq_true rfl⟩ (by decide +kernel) ⟨rfl, rfl⟩ p_2_2 dX5_sign_17 (fun H locs hW hS => ?_)
      refine lv_aload_n hx hb dX5_sign_20 rfl (lv_at hl 0 rfl) ?_
      refine k_vv (fr := 3) (lo := 61) (σ' := (cnt ((up σ 2 2 1)))) (As := []) (rest := []) hx hb hml hown hts hK hRf hRl hW hS (c_X5_nextToken l D cy B (up σ 2 2 1)  (show RI ((up σ 2 2 1)) from (by first | exact hri | exact RI_f hri (by omega)))) vX5_nextToken ⟨w_420, w_421⟩ w_419 (by decide) e_2 rfl ⟨Nat.le_of_ble_eq_true rfl, Nat.le_of_ble_eq_true rfl⟩ hl.1 rfl (Nat.le_of_ble_eq_true rfl) ⟨Nat.zero_le _, Nat.zero_le _⟩ dX5_sign_21 (fun H locs hW hS => ?_)
      exact hret _ _ _ _ _ dX5_sign_24 hW hS (by unfold sgS; first | (rw [if_neg (by omega)]; unfold cnt; rw [if_neg (by omega)]; done) | (rw [if_pos (by omega), if_pos (by omega)]; done) | (rw [if_pos (by omega), if_neg (by omega)]; unfold cnt; exact if_neg (by show ¬ (1 : Int) = 0; omega)))

set_option maxRecDepth 100000 in
set_option maxHeartbeats 4000000 in
theorem c_X5_number (l : Launch) (D : va_G) (cy : Nat → ClassId) (B : Nat) (σ : Sg) (a_ : Int) (b_ : Int) (r_a_ : -2147483648 ≤ a_ ∧ a_ < 2147483648) (r_b_ : -2147483648 ≤ b_ ∧ b_ < 2147483648) (hri : RI (σ)) : CI l yX5_number cX5_number 4 (some .int) 3 61 D cy B [.ref (B + 2), .int (iI (a_)), .int (iI (b_))] σ (σ 2 6) (nuS (σ) a_ b_) := by
  refine CI_of (ty := .int) (by decide) (rfl) (Nat.le_of_ble_eq_true rfl) ?_
  intro p e R s m args below meth c Q hx hb hml hown hts hK hRf hRl hW hret ls hl
  have hown : s.vm.findClass "LoveParts$Reader" = some m.cls := hown
  have hS : va_S (AB B) s.heap s.heap [] := va_S.rf
  have hl : lv_has ls 4 [(0, .ref (B + 2)), (1, .int (iI (a_))), (2, .int (iI (b_)))] := hl
  obtain ⟨q2, ⟨q4, qL⟩, q5, q6, htp⟩ := id hri
  refine lv_aload_n hx hb dX5_number_0 rfl (lv_at hl 0 rfl) ?_
  refine wz_get hx hb hts hown hK hW 2 6 (by decide) e_2 rfl (by decide) inG5 w_94 rfl rfl dX5_number_1 ?_
  refine lv_istore_n (lv' := [(3, .int (iI (σ 2 6))), (0, .ref (B + 2)), (1, .int (iI (a_))), (2, .int (iI (b_)))]) hx hb dX5_number_4 rfl hl (by decide) rfl (fun ls hl => ?_)
  refine lv_aload_n hx hb dX5_number_5 rfl (lv_at hl 1 rfl) ?_
  refine wz_get hx hb hts hown hK hW 2 2 (by decide) e_2 rfl (by decide) inG5 w_88 rfl rfl dX5_number_6 ?_
  refine zi_ne (tgt := 30) hx hb dX5_number_9 (by decide) (by omega) (fun c9 => ?_) (fun c9 => ?_)
  · refine lv_aload_n hx hb dX5_number_30 rfl (lv_at hl 1 rfl) ?_
    refine wz_get hx hb hts hown hK hW 2 2 (by decide) e_2 rfl (by decide) inG5 w_88 rfl rfl dX5_number_31 ?_
    refine zi_ne (tgt := 51) hx hb dX5_number_34 (by decide) (by omega) (fun c34 => ?_) (fun c34 => ?_)
    · refine lv_aload_n hx hb dX5_number_51 rfl (lv_at hl 1 rfl) ?_
      refine k_vv (fr := 3) (lo := 61) (σ' := (cnt (σ))) (As := []) (rest := []) hx hb hml hown hts hK hRf hRl hW hS (c_X5_nextToken l D cy B σ  (show RI (σ) from (by first | exact hri | exact RI_f hri (by omega)))) vX5_nextToken ⟨w_420, w_421⟩ w_419 (by decide) e_2 rfl ⟨Nat.le_of_ble_eq_true rfl, Nat.le_of_ble_eq_true rfl⟩ hl.1 rfl (Nat.le_of_ble_eq_true rfl) ⟨Nat.zero_le _, Nat.zero_le _⟩ dX5_number_52 (fun H locs hW hS => ?_)
      refine lv_iload_n hx hb dX5_number_55 rfl (lv_at hl 0 rfl) ?_
      exact hret _ _ _ _ _ _ dX5_number_56 hW hS ⟨rfl, by unfold nuS; first | (rw [if_neg (by omega)]; unfold cnt; rw [if_neg (by omega)]; done) | (rw [if_pos (by omega), if_neg (by omega)]; unfold cnt; exact if_neg (by show ¬ (1 : Int) = 0; omega)) | (rw [if_pos (by omega), if_pos (by omega), if_pos (by omega)]; done) | (rw [if_pos (by omega), if_pos (by omega), if_neg (by omega)]; unfold cnt; exact if_neg (by show ¬ (2 : Int) = 0; omega))⟩
    · refine lv_iload_n hx hb dX5_number_37 rfl (lv_at hl 0 rfl) ?_
      refine lv_iload_n hx hb dX5_number_38 rfl (lv_at hl 2 rfl) ?_
      refine lv_iload_n hx hb dX5_number_39 rfl (lv_at hl 3 rfl) ?_
      refine k_sni (fr := 3) (lo := 61) (r := (if a_ ≤ (σ 2 6) ∧ (σ 2 6) ≤ b_ then 1 else 0)) (As := [.int (iI (σ 2 6)), .int (iI (a_)), .int (iI (b_))]) (rest := []) hx hb hml hown hts hK hRf hRl hW hS (c_X11_within l D cy B σ (σ 2 6) a_ b_ (show -2147483648 ≤ (σ 2 6) ∧ (σ 2 6) < 2147483648 from (by first | assumption | omega)) (show -2147483648 ≤ a_ ∧ a_ < 2147483648 from (by first | assumption | omega)) (show -2147483648 ≤ b_ ∧ b_ < 2147483648 from (by first | assumption | omega))) vX11_within w_359 (host := "LoveParts") (by decide) ⟨Nat.le_of_ble_eq_true rfl, Nat.le_of_ble_eq_true rfl⟩ hl.1 rfl (Nat.le_of_ble_eq_true rfl) ⟨Nat.zero_le _, Nat.zero_le _⟩ dX5_number_40 (fun H locs hW hS => ?_)
      refine zi_bne (tgt := 51) hx hb dX5_number_43 (by decide) (fun c43 => ?_) (fun c43 => ?_)
      · refine lv_aload_n hx hb dX5_number_51 rfl (lv_at hl 1 rfl) ?_
        refine k_vv (fr := 3) (lo := 61) (σ' := (cnt (σ))) (As := []) (rest := []) hx hb hml hown hts hK hRf hRl hW hS (c_X5_nextToken l D cy B σ  (show RI (σ) from (by first | exact hri | exact RI_f hri (by omega)))) vX5_nextToken ⟨w_420, w_421⟩ w_419 (by decide) e_2 rfl ⟨Nat.le_of_ble_eq_true rfl, Nat.le_of_ble_eq_true rfl⟩ hl.1 rfl (Nat.le_of_ble_eq_true rfl) ⟨Nat.zero_le _, Nat.zero_le _⟩ dX5_number_52 (fun H locs hW hS => ?_)
        refine lv_iload_n hx hb dX5_number_55 rfl (lv_at hl 0 rfl) ?_
        exact hret _ _ _ _ _ _ dX5_number_56 hW hS ⟨rfl, by unfold nuS; first | (rw [if_neg (by omega)]; unfold cnt; rw [if_neg (by omega)]; done) | (rw [if_pos (by omega), if_neg (by omega)]; unfold cnt; exact if_neg (by show ¬ (1 : Int) = 0; omega)) | (rw [if_pos (by omega), if_pos (by omega), if_pos (by omega)]; done) | (rw [if_pos (by omega), if_pos (by omega), if_neg (by omega)]; unfold cnt; exact if_neg (by show ¬ (2 : Int) = 0; omega))⟩
      · refine lv_aload_n hx hb dX5_number_46 rfl (lv_at hl 1 rfl) ?_
        refine zi_con hx hb dX5_number_47 ?_
        refine wz_put (σ' := (up σ 2 2 2)) (ty := .int) hx hb hts hown hK hW hS 2 2 tyX5 (by decide) e_2 rfl (by decide) inG5 tyX5_ok nmX5 w_88 ⟨rfl, rfl, Nat.le_of_ble_eq_true rfl⟩ (by decide +kernel) ⟨rfl, rfl⟩ p_2_2 dX5_number_48 (fun H locs hW hS => ?_)
        refine lv_aload_n hx hb dX5_number_51 rfl (lv_at hl 1 rfl) ?_
        refine k_vv (fr := 3) (lo := 61) (σ' := (cnt ((up σ 2 2 2)))) (As := []) (rest := []) hx hb hml hown hts hK hRf hRl hW hS (c_X5_nextToken l D cy B (up σ 2 2 2)  (show RI ((up σ 2 2 2)) from (by first | exact hri | exact RI_f hri (by omega)))) vX5_nextToken ⟨w_420, w_421⟩ w_419 (by decide) e_2 rfl ⟨Nat.le_of_ble_eq_true rfl, Nat.le_of_ble_eq_true rfl⟩ hl.1 rfl (Nat.le_of_ble_eq_true rfl) ⟨Nat.zero_le _, Nat.zero_le _⟩ dX5_number_52 (fun H locs hW hS => ?_)
        refine lv_iload_n hx hb dX5_number_55 rfl (lv_at hl 0 rfl) ?_
        exact hret _ _ _ _ _ _ dX5_number_56 hW hS ⟨rfl, by unfold nuS; first | (rw [if_neg (by omega)]; unfold cnt; rw [if_neg (by omega)]; done) | (rw [if_pos (by omega), if_neg (by omega)]; unfold cnt; exact if_neg (by show ¬ (1 : Int) = 0; omega)) | (rw [if_pos (by omega), if_pos (by omega), if_pos (by omega)]; done) | (rw [if_pos (by omega), if_pos (by omega), if_neg (by omega)]; unfold cnt; exact if_neg (by show ¬ (2 : Int) = 0; omega))⟩
  · refine lv_aload_n hx hb dX5_number_12 rfl (lv_at hl 1 rfl) ?_
    refine wz_get hx hb hts hown hK hW 2 5 (by decide) e_2 rfl (by decide) inG5 w_93 rfl rfl dX5_number_13 ?_
    refine zi_sip hx hb dX5_number_16 (by decide) ?_
    refine zi_ceq (tgt := 30) hx hb dX5_number_19 (by decide) (by omega) (by omega) (fun c19 => ?_) (fun c19 => ?_)
    · refine lv_aload_n hx hb dX5_number_30 rfl (lv_at hl 1 rfl) ?_
      refine wz_get hx hb hts hown hK hW 2 2 (by decide) e_2 rfl (by decide) inG5 w_88 rfl rfl dX5_number_31 ?_
      refine zi_ne (tgt := 51) hx hb dX5_number_34 (by decide) (by omega) (fun c34 => ?_) (fun c34 => ?_)
      · refine lv_aload_n hx hb dX5_number_51 rfl (lv_at hl 1 rfl) ?_
        refine k_vv (fr := 3) (lo := 61) (σ' := (cnt (σ))) (As := []) (rest := []) hx hb hml hown hts hK hRf hRl hW hS (c_X5_nextToken l D cy B σ  (show RI (σ) from (by first | exact hri | exact RI_f hri (by omega)))) vX5_nextToken ⟨w_420, w_421⟩ w_419 (by decide) e_2 rfl ⟨Nat.le_of_ble_eq_true rfl, Nat.le_of_ble_eq_true rfl⟩ hl.1 rfl (Nat.le_of_ble_eq_true rfl) ⟨Nat.zero_le _, Nat.zero_le _⟩ dX5_number_52 (fun H locs hW hS => ?_)
        refine lv_iload_n hx hb dX5_number_55 rfl (lv_at hl 0 rfl) ?_
        exact hret _ _ _ _ _ _ dX5_number_56 hW hS ⟨rfl, by unfold nuS; first | (rw [if_neg (by omega)]; unfold cnt; rw [if_neg (by omega)]; done) | (rw [if_pos (by omega), if_neg (by omega)]; unfold cnt; exact if_neg (by show ¬ (1 : Int) = 0; omega)) | (rw [if_pos (by omega), if_pos (by omega), if_pos (by omega)]; done) | (rw [if_pos (by omega), if_pos (by omega), if_neg (by omega)]; unfold cnt; exact if_neg (by show ¬ (2 : Int) = 0; omega))⟩
      · refine lv_iload_n hx hb dX5_number_37 rfl (lv_at hl 0 rfl) ?_
        refine lv_iload_n hx hb dX5_number_38 rfl (lv_at hl 2 rfl) ?_
        refine lv_iload_n hx hb dX5_number_39 rfl (lv_at hl 3 rfl) ?_
        refine k_sni (fr := 3) (lo := 61) (r := (if a_ ≤ (σ 2 6) ∧ (σ 2 6) ≤ b_ then 1 else 0)) (As := [.int (iI (σ 2 6)), .int (iI (a_)), .int (iI (b_))]) (rest := []) hx hb hml hown hts hK hRf hRl hW hS (c_X11_within l D cy B σ (σ 2 6) a_ b_ (show -2147483648 ≤ (σ 2 6) ∧ (σ 2 6) < 2147483648 from (by first | assumption | omega)) (show -2147483648 ≤ a_ ∧ a_ < 2147483648 from (by first | assumption | omega)) (show -2147483648 ≤ b_ ∧ b_ < 2147483648 from (by first | assumption | omega))) vX11_within w_359 (host := "LoveParts") (by decide) ⟨Nat.le_of_ble_eq_true rfl, Nat.le_of_ble_eq_true rfl⟩ hl.1 rfl (Nat.le_of_ble_eq_true rfl) ⟨Nat.zero_le _, Nat.zero_le _⟩ dX5_number_40 (fun H locs hW hS => ?_)
        refine zi_bne (tgt := 51) hx hb dX5_number_43 (by decide) (fun c43 => ?_) (fun c43 => ?_)
        · refine lv_aload_n hx hb dX5_number_51 rfl (lv_at hl 1 rfl) ?_
          refine k_vv (fr := 3) (lo := 61) (σ' := (cnt (σ))) (As := []) (rest := []) hx hb hml hown hts hK hRf hRl hW hS (c_X5_nextToken l D cy B σ  (show RI (σ) from (by first | exact hri | exact RI_f hri (by omega)))) vX5_nextToken ⟨w_420, w_421⟩ w_419 (by decide) e_2 rfl ⟨Nat.le_of_ble_eq_true rfl, Nat.le_of_ble_eq_true rfl⟩ hl.1 rfl (Nat.le_of_ble_eq_true rfl) ⟨Nat.zero_le _, Nat.zero_le _⟩ dX5_number_52 (fun H locs hW hS => ?_)
          refine lv_iload_n hx hb dX5_number_55 rfl (lv_at hl 0 rfl) ?_
          exact hret _ _ _ _ _ _ dX5_number_56 hW hS ⟨rfl, by unfold nuS; first | (rw [if_neg (by omega)]; unfold cnt; rw [if_neg (by omega)]; done) | (rw [if_pos (by omega), if_neg (by omega)]; unfold cnt; exact if_neg (by show ¬ (1 : Int) = 0; omega)) | (rw [if_pos (by omega), if_pos (by omega), if_pos (by omega)]; done) | (rw [if_pos (by omega), if_pos (by omega), if_neg (by omega)]; unfold cnt; exact if_neg (by show ¬ (2 : Int) = 0; omega))⟩
        · refine lv_aload_n hx hb dX5_number_46 rfl (lv_at hl 1 rfl) ?_
          refine zi_con hx hb dX5_number_47 ?_
          refine wz_put (σ' := (up σ 2 2 2)) (ty := .int) hx hb hts hown hK hW hS 2 2 tyX5 (by decide) e_2 rfl (by decide) inG5 tyX5_ok nmX5 w_88 ⟨rfl, rfl, Nat.le_of_ble_eq_true rfl⟩ (by decide +kernel) ⟨rfl, rfl⟩ p_2_2 dX5_number_48 (fun H locs hW hS => ?_)
          refine lv_aload_n hx hb dX5_number_51 rfl (lv_at hl 1 rfl) ?_
          refine k_vv (fr := 3) (lo := 61) (σ' := (cnt ((up σ 2 2 2)))) (As := []) (rest := []) hx hb hml hown hts hK hRf hRl hW hS (c_X5_nextToken l D cy B (up σ 2 2 2)  (show RI ((up σ 2 2 2)) from (by first | exact hri | exact RI_f hri (by omega)))) vX5_nextToken ⟨w_420, w_421⟩ w_419 (by decide) e_2 rfl ⟨Nat.le_of_ble_eq_true rfl, Nat.le_of_ble_eq_true rfl⟩ hl.1 rfl (Nat.le_of_ble_eq_true rfl) ⟨Nat.zero_le _, Nat.zero_le _⟩ dX5_number_52 (fun H locs hW hS => ?_)
          refine lv_iload_n hx hb dX5_number_55 rfl (lv_at hl 0 rfl) ?_
          exact hret _ _ _ _ _ _ dX5_number_56 hW hS ⟨rfl, by unfold nuS; first | (rw [if_neg (by omega)]; unfold cnt; rw [if_neg (by omega)]; done) | (rw [if_pos (by omega), if_neg (by omega)]; unfold cnt; exact if_neg (by show ¬ (1 : Int) = 0; omega)) | (rw [if_pos (by omega), if_pos (by omega), if_pos (by omega)]; done) | (rw [if_pos (by omega), if_pos (by omega), if_neg (by omega)]; unfold cnt; exact if_neg (by show ¬ (2 : Int) = 0; omega))⟩
    · refine lv_aload_n hx hb dX5_number_22 rfl (lv_at hl 1 rfl) ?_
      refine zi_con hx hb dX5_number_23 ?_
      refine wz_put (σ' := (up σ 2 2 1)) (ty := .int) hx hb hts hown hK hW hS 2 2 tyX5 (by decide) e_2 rfl (by decide) inG5 tyX5_ok nmX5 w_88 ⟨rfl, rfl, Nat.le_of_ble_eq_true rfl⟩ (by decide +kernel) ⟨rfl, rfl⟩ p_2_2 dX5_number_24 (fun H locs hW hS => ?_)
      refine lv_goto (tgt := 51) hx hb dX5_number_27 (by decide) ?_
      refine lv_aload_n hx hb dX5_number_51 rfl (lv_at hl 1 rfl) ?_
      refine k_vv (fr := 3) (lo := 61) (σ' := (cnt ((up σ 2 2 1)))) (As := []) (rest := []) hx hb hml hown hts hK hRf hRl hW hS (c_X5_nextToken l D cy B (up σ 2 2 1)  (show RI ((up σ 2 2 1)) from (by first | exact hri | exact RI_f hri (by omega)))) vX5_nextToken ⟨w_420, w_421⟩ w_419 (by decide) e_2 rfl ⟨Nat.le_of_ble_eq_true rfl, Nat.le_of_ble_eq_true rfl⟩ hl.1 rfl (Nat.le_of_ble_eq_true rfl) ⟨Nat.zero_le _, Nat.zero_le _⟩ dX5_number_52 (fun H locs hW hS => ?_)
      refine lv_iload_n hx hb dX5_number_55 rfl (lv_at hl 0 rfl) ?_
      exact hret _ _ _ _ _ _ dX5_number_56 hW hS ⟨rfl, by unfold nuS; first | (rw [if_neg (by omega)]; unfold cnt; rw [if_neg (by omega)]; done) | (rw [if_pos (by omega), if_neg (by omega)]; unfold cnt; exact if_neg (by show ¬ (1 : Int) = 0; omega)) | (rw [if_pos (by omega), if_pos (by omega), if_pos (by omega)]; done) | (rw [if_pos (by omega), if_pos (by omega), if_neg (by omega)]; unfold cnt; exact if_neg (by show ¬ (2 : Int) = 0; omega))⟩

set_option maxRecDepth 100000 in
set_option maxHeartbeats 4000000 in
theorem c_X5_kindBySort (l : Launch) (D : va_G) (cy : Nat → ClassId) (B : Nat) (σ : Sg) (z_ : Int) (r_z_ : -2147483648 ≤ z_ ∧ z_ < 2147483648) : CI l yX5_kindBySort cX5_kindBySort 1 (some .int) 0 0 D cy B [.int (iI (z_))] σ (kbs z_) (σ) := by
  refine CI_of (ty := .int) (by decide) (rfl) (Nat.le_of_ble_eq_true rfl) ?_
  intro p e R s m args below meth c Q hx hb hml hown hts hK hRf hRl hW hret ls hl
  have hown : s.vm.findClass "LoveParts$Reader" = some m.cls := hown
  have hS : va_S (AB B) s.heap s.heap [] := va_S.rf
  have hl : lv_has ls 1 [(0, .int (iI (z_)))] := hl
  refine lv_iload_n hx hb dX5_kindBySort_0 rfl (lv_at hl 0 rfl) ?_
  by_cases hsw1 : z_ < 105 ∨ 115 < z_
  · refine lv_tableOut (tgt := 70) hx hb dX5_kindBySort_1 (by rw [iI_toInt (by omega)]; exact hsw1) (by decide) ?_
    refine zi_con hx hb dX5_kindBySort_70 ?_
    exact hret _ _ _ _ _ _ dX5_kindBySort_71 hW hS ⟨by unfold kbs; (repeat' split) <;> first | rfl | omega, rfl⟩
  · have hsx1 : z_ = 105 ∨ z_ = 106 ∨ z_ = 107 ∨ z_ = 108 ∨ z_ = 109 ∨ z_ = 110 ∨ z_ = 111 ∨ z_ = 112 ∨ z_ = 113 ∨ z_ = 114 ∨ z_ = 115 := by omega
    rcases hsx1 with hs1 | hs1 | hs1 | hs1 | hs1 | hs1 | hs1 | hs1 | hs1 | hs1 | hs1
    · refine lv_tableIn (off := 67) (tgt := 68) hx hb dX5_kindBySort_1 (by rw [iI_toInt (by omega)]; omega) (by rw [iI_toInt (by omega)]; omega) (by rw [iI_toInt (by omega), hs1]; rfl) (by decide) ?_
      refine zi_con hx hb dX5_kindBySort_68 ?_
      exact hret _ _ _ _ _ _ dX5_kindBySort_69 hW hS ⟨by unfold kbs; (repeat' split) <;> first | rfl | omega, rfl⟩
    · refine lv_tableIn (off := 63) (tgt := 64) hx hb dX5_kindBySort_1 (by rw [iI_toInt (by omega)]; omega) (by rw [iI_toInt (by omega)]; omega) (by rw [iI_toInt (by omega), hs1]; rfl) (by decide) ?_
      refine zi_con hx hb dX5_kindBySort_64 ?_
      exact hret _ _ _ _ _ _ dX5_kindBySort_65 hW hS ⟨by unfold kbs; (repeat' split) <;> first | rfl | omega, rfl⟩
    · refine lv_tableIn (off := 69) (tgt := 70) hx hb dX5_kindBySort_1 (by rw [iI_toInt (by omega)]; omega) (by rw [iI_toInt (by omega)]; omega) (by rw [iI_toInt (by omega), hs1]; rfl) (by decide) ?_
      refine zi_con hx hb dX5_kindBySort_70 ?_
      exact hret _ _ _ _ _ _ dX5_kindBySort_71 hW hS ⟨by unfold kbs; (repeat' split) <;> first | rfl | omega, rfl⟩
    · refine lv_tableIn (off := 69) (tgt := 70) hx hb dX5_kindBySort_1 (by rw [iI_toInt (by omega)]; omega) (by rw [iI_toInt (by omega)]; omega) (by rw [iI_toInt (by omega), hs1]; rfl) (by decide) ?_
      refine zi_con hx hb dX5_kindBySort_70 ?_
      exact hret _ _ _ _ _ _ dX5_kindBySort_71 hW hS ⟨by unfold kbs; (repeat' split) <;> first | rfl | omega, rfl⟩
    · refine lv_tableIn (off := 69) (tgt := 70) hx hb dX5_kindBySort_1 (by rw [iI_toInt (by omega)]; omega) (by rw [iI_toInt (by omega)]; omega) (by rw [iI_toInt (by omega), hs1]; rfl) (by decide) ?_
      refine zi_con hx hb dX5_kindBySort_70 ?_
      exact hret _ _ _ _ _ _ dX5_kindBySort_71 hW hS ⟨by unfold kbs; (repeat' split) <;> first | rfl | omega, rfl⟩
    · refine lv_tableIn (off := 69) (tgt := 70) hx hb dX5_kindBySort_1 (by rw [iI_toInt (by omega)]; omega) (by rw [iI_toInt (by omega)]; omega) (by rw [iI_toInt (by omega), hs1]; rfl) (by decide) ?_
      refine zi_con hx hb dX5_kindBySort_70 ?_
      exact hret _ _ _ _ _ _ dX5_kindBySort_71 hW hS ⟨by unfold kbs; (repeat' split) <;> first | rfl | omega, rfl⟩
    · refine lv_tableIn (off := 69) (tgt := 70) hx hb dX5_kindBySort_1 (by rw [iI_toInt (by omega)]; omega) (by rw [iI_toInt (by omega)]; omega) (by rw [iI_toInt (by omega), hs1]; rfl) (by decide) ?_
      refine zi_con hx hb dX5_kindBySort_70 ?_
      exact hret _ _ _ _ _ _ dX5_kindBySort_71 hW hS ⟨by unfold kbs; (repeat' split) <;> first | rfl | omega, rfl⟩
    · refine lv_tableIn (off := 59) (tgt := 60) hx hb dX5_kindBySort_1 (by rw [iI_toInt (by omega)]; omega) (by rw [iI_toInt (by omega)]; omega) (by rw [iI_toInt (by omega), hs1]; rfl) (by decide) ?_
      refine zi_con hx hb dX5_kindBySort_60 ?_
      exact hret _ _ _ _ _ _ dX5_kindBySort_61 hW hS ⟨by unfold kbs; (repeat' split) <;> first | rfl | omega, rfl⟩
    · refine lv_tableIn (off := 65) (tgt := 66) hx hb dX5_kindBySort_1 (by rw [iI_toInt (by omega)]; omega) (by rw [iI_toInt (by omega)]; omega) (by rw [iI_toInt (by omega), hs1]; rfl) (by decide) ?_
      refine zi_con hx hb dX5_kindBySort_66 ?_
      exact hret _ _ _ _ _ _ dX5_kindBySort_67 hW hS ⟨by unfold kbs; (repeat' split) <;> first | rfl | omega, rfl⟩
    · refine lv_tableIn (off := 69) (tgt := 70) hx hb dX5_kindBySort_1 (by rw [iI_toInt (by omega)]; omega) (by rw [iI_toInt (by omega)]; omega) (by rw [iI_toInt (by omega), hs1]; rfl) (by decide) ?_
      refine zi_con hx hb dX5_kindBySort_70 ?_
      exact hret _ _ _ _ _ _ dX5_kindBySort_71 hW hS ⟨by unfold kbs; (repeat' split) <;> first | rfl | omega, rfl⟩
    · refine lv_tableIn (off := 61) (tgt := 62) hx hb dX5_kindBySort_1 (by rw [iI_toInt (by omega)]; omega) (by rw [iI_toInt (by omega)]; omega) (by rw [iI_toInt (by omega), hs1]; rfl) (by decide) ?_
      refine zi_con hx hb dX5_kindBySort_62 ?_
      exact hret _ _ _ _ _ _ dX5_kindBySort_63 hW hS ⟨by unfold kbs; (repeat' split) <;> first | rfl | omega, rfl⟩

set_option maxRecDepth 100000 in
set_option maxHeartbeats 4000000 in
theorem c_X5_readLaw (l : Launch) (D : va_G) (cy : Nat → ClassId) (B : Nat) (σ : Sg)  (hri : RI (σ)) : CV l yX5_readLaw cX5_readLaw 2 4 84 D cy B [.ref (B + 2), .ref (B + 24)] σ (rl9 (σ)) := by
  refine CV_of (by decide) (Nat.le_of_ble_eq_true rfl) ?_
  intro p e R s m args below meth c Q hx hb hml hown hts hK hRf hRl hW hret ls hl
  have hown : s.vm.findClass "LoveParts$Reader" = some m.cls := hown
  have hS : va_S (AB B) s.heap s.heap [] := va_S.rf
  have hl : lv_has ls 2 [(0, .ref (B + 2)), (1, .ref (B + 24))] := hl
  refine lv_aload_n hx hb dX5_readLaw_0 rfl (lv_at hl 0 rfl) ?_
  refine zi_bip hx hb dX5_readLaw_1 (by decide) ?_
  refine k_vv (fr := 4) (lo := 84) (σ' := (sgS (σ) 107)) (As := [.int (iI (107))]) (rest := []) hx hb hml hown hts hK hRf hRl hW hS (c_X5_sign l D cy B σ 107 (show -2147483648 ≤ 107 ∧ 107 < 2147483648 from (by first | assumption | omega | (simp only [tpL_25, tcL_1, List.length_cons, List.length_nil]; omega))) (show RI (σ) from hri)) vX5_sign ⟨w_443, w_444⟩ w_442 (by decide) e_2 rfl ⟨Nat.le_of_ble_eq_true rfl, Nat.le_of_ble_eq_true rfl⟩ hl.1 rfl (Nat.le_of_ble_eq_true rfl) ⟨Nat.zero_le _, Nat.zero_le _⟩ dX5_readLaw_3 (fun H locs hW hS => ?_)
  rw [show (sgS (σ) 107) = (rl1 (σ)) from (by rfl)] at hW
  refine lv_aload_n hx hb dX5_readLaw_6 rfl (lv_at hl 1 rfl) ?_
  refine lv_aload_n hx hb dX5_readLaw_7 rfl (lv_at hl 0 rfl) ?_
  refine zi_con hx hb dX5_readLaw_8 ?_
  refine zi_bip hx hb dX5_readLaw_9 (by decide) ?_
  refine k_vi (fr := 4) (lo := 84) (r := (rl1 (σ)) 2 6) (σ' := (nuS ((rl1 (σ))) 1 99)) (As := [.int (iI (1)), .int (iI (99))]) (rest := [.ref (B + 24)]) hx hb hml hown hts hK hRf hRl hW hS (c_X5_number l D cy B (rl1 (σ)) 1 99 (show -2147483648 ≤ 1 ∧ 1 < 2147483648 from (by first | assumption | omega | (simp only [tpL_25, tcL_1, List.length_cons, List.length_nil]; omega))) (show -2147483648 ≤ 99 ∧ 99 < 2147483648 from (by first | assumption | omega | (simp only [tpL_25, tcL_1, List.length_cons, List.length_nil]; omega))) (show RI ((rl1 (σ))) from (RI_1 hri))) vX5_number ⟨w_447, w_448⟩ w_446 (by decide) e_2 rfl ⟨Nat.le_of_ble_eq_true rfl, Nat.le_of_ble_eq_true rfl⟩ hl.1 rfl (Nat.le_of_ble_eq_true rfl) ⟨Nat.zero_le _, Nat.zero_le _⟩ dX5_readLaw_11 (fun H locs hW hS => ?_)
  refine wz_put (σ' := (up (nuS ((rl1 (σ))) 1 99) 24 0 ((rl1 (σ)) 2 6))) (ty := .int) hx hb hts hown hK hW hS 24 2 tyX6 (lt_R isR_24) (e_R isR_24) rfl (by decide) inG6 tyX6_ok nmX6 w_251 ⟨rfl, rfl, Nat.le_of_ble_eq_true rfl⟩ (by decide +kernel) ⟨rfl, rfl⟩ (p_R_2 isR_24) dX5_readLaw_14 (fun H locs hW hS => ?_)
  have hW : wd D cy B (rl2 (σ)) H := hW
  refine lv_aload_n hx hb dX5_readLaw_17 rfl (lv_at hl 0 rfl) ?_
  refine zi_bip hx hb dX5_readLaw_18 (by decide) ?_
  refine k_vv (fr := 4) (lo := 84) (σ' := (sgS ((rl2 (σ))) 44)) (As := [.int (iI (44))]) (rest := []) hx hb hml hown hts hK hRf hRl hW hS (c_X5_sign l D cy B (rl2 (σ)) 44 (show -2147483648 ≤ 44 ∧ 44 < 2147483648 from (by first | assumption | omega | (simp only [tpL_25, tcL_1, List.length_cons, List.length_nil]; omega))) (show RI ((rl2 (σ))) from (RI_2 hri))) vX5_sign ⟨w_443, w_444⟩ w_442 (by decide) e_2 rfl ⟨Nat.le_of_ble_eq_true rfl, Nat.le_of_ble_eq_true rfl⟩ hl.1 rfl (Nat.le_of_ble_eq_true rfl) ⟨Nat.zero_le _, Nat.zero_le _⟩ dX5_readLaw_20 (fun H locs hW hS => ?_)
  rw [show (sgS ((rl2 (σ))) 44) = (rl3 (σ)) from (by rfl)] at hW
  refine lv_aload_n hx hb dX5_readLaw_23 rfl (lv_at hl 1 rfl) ?_
  refine lv_aload_n hx hb dX5_readLaw_24 rfl (lv_at hl 0 rfl) ?_
  refine zi_con hx hb dX5_readLaw_25 ?_
  refine zi_bip hx hb dX5_readLaw_26 (by decide) ?_
  refine k_vi (fr := 4) (lo := 84) (r := (rl3 (σ)) 2 6) (σ' := (nuS ((rl3 (σ))) 0 99)) (As := [.int (iI (0)), .int (iI (99))]) (rest := [.ref (B + 24)]) hx hb hml hown hts hK hRf hRl hW hS (c_X5_number l D cy B (rl3 (σ)) 0 99 (show -2147483648 ≤ 0 ∧ 0 < 2147483648 from (by first | assumption | omega | (simp only [tpL_25, tcL_1, List.length_cons, List.length_nil]; omega))) (show -2147483648 ≤ 99 ∧ 99 < 2147483648 from (by first | assumption | omega | (simp only [tpL_25, tcL_1, List.length_cons, List.length_nil]; omega))) (show RI ((rl3 (σ))) from (RI_3 hri))) vX5_number ⟨w_447, w_448⟩ w_446 (by decide) e_2 rfl ⟨Nat.le_of_ble_eq_true rfl, Nat.le_of_ble_eq_true rfl⟩ hl.1 rfl (Nat.le_of_ble_eq_true rfl) ⟨Nat.zero_le _, Nat.zero_le _⟩ dX5_readLaw_28 (fun H locs hW hS => ?_)
  refine wz_put (σ' := (up (nuS ((rl3 (σ))) 0 99) 24 1 ((rl3 (σ)) 2 6))) (ty := .int) hx hb hts hown hK hW hS 24 3 tyX6 (lt_R isR_24) (e_R isR_24) rfl (by decide) inG6 tyX6_ok nmX6 w_254 ⟨rfl, rfl, Nat.le_of_ble_eq_true rfl⟩ (by decide +kernel) ⟨rfl, rfl⟩ (p_R_3 isR_24) dX5_readLaw_31 (fun H locs hW hS => ?_)
  have hW : wd D cy B (rl4 (σ)) H := hW
  refine lv_aload_n hx hb dX5_readLaw_34 rfl (lv_at hl 0 rfl) ?_
  refine zi_bip hx hb dX5_readLaw_35 (by decide) ?_
  refine k_vv (fr := 4) (lo := 84) (σ' := (sgS ((rl4 (σ))) 44)) (As := [.int (iI (44))]) (rest := []) hx hb hml hown hts hK hRf hRl hW hS (c_X5_sign l D cy B (rl4 (σ)) 44 (show -2147483648 ≤ 44 ∧ 44 < 2147483648 from (by first | assumption | omega | (simp only [tpL_25, tcL_1, List.length_cons, List.length_nil]; omega))) (show RI ((rl4 (σ))) from (RI_4 hri))) vX5_sign ⟨w_443, w_444⟩ w_442 (by decide) e_2 rfl ⟨Nat.le_of_ble_eq_true rfl, Nat.le_of_ble_eq_true rfl⟩ hl.1 rfl (Nat.le_of_ble_eq_true rfl) ⟨Nat.zero_le _, Nat.zero_le _⟩ dX5_readLaw_37 (fun H locs hW hS => ?_)
  rw [show (sgS ((rl4 (σ))) 44) = (rl5 (σ)) from (by rfl)] at hW
  refine lv_aload_n hx hb dX5_readLaw_40 rfl (lv_at hl 1 rfl) ?_
  refine lv_aload_n hx hb dX5_readLaw_41 rfl (lv_at hl 0 rfl) ?_
  refine zi_con hx hb dX5_readLaw_42 ?_
  refine zi_bip hx hb dX5_readLaw_43 (by decide) ?_
  refine k_vi (fr := 4) (lo := 84) (r := (rl5 (σ)) 2 6) (σ' := (nuS ((rl5 (σ))) 0 9)) (As := [.int (iI (0)), .int (iI (9))]) (rest := [.ref (B + 24)]) hx hb hml hown hts hK hRf hRl hW hS (c_X5_number l D cy B (rl5 (σ)) 0 9 (show -2147483648 ≤ 0 ∧ 0 < 2147483648 from (by first | assumption | omega | (simp only [tpL_25, tcL_1, List.length_cons, List.length_nil]; omega))) (show -2147483648 ≤ 9 ∧ 9 < 2147483648 from (by first | assumption | omega | (simp only [tpL_25, tcL_1, List.length_cons, List.length_nil]; omega))) (show RI ((rl5 (σ))) from (RI_5 hri))) vX5_number ⟨w_447, w_448⟩ w_446 (by decide) e_2 rfl ⟨Nat.le_of_ble_eq_true rfl, Nat.le_of_ble_eq_true rfl⟩ hl.1 rfl (Nat.le_of_ble_eq_true rfl) ⟨Nat.zero_le _, Nat.zero_le _⟩ dX5_readLaw_45 (fun H locs hW hS => ?_)
  refine wz_put (σ' := (up (nuS ((rl5 (σ))) 0 9) 24 2 ((rl5 (σ)) 2 6))) (ty := .int) hx hb hts hown hK hW hS 24 4 tyX6 (lt_R isR_24) (e_R isR_24) rfl (by decide) inG6 tyX6_ok nmX6 w_257 ⟨rfl, rfl, Nat.le_of_ble_eq_true rfl⟩ (by decide +kernel) ⟨rfl, rfl⟩ (p_R_4 isR_24) dX5_readLaw_48 (fun H locs hW hS => ?_)
  have hW : wd D cy B (rl6 (σ)) H := hW
  refine lv_aload_n hx hb dX5_readLaw_51 rfl (lv_at hl 0 rfl) ?_
  refine zi_bip hx hb dX5_readLaw_52 (by decide) ?_
  refine k_vv (fr := 4) (lo := 84) (σ' := (sgS ((rl6 (σ))) 44)) (As := [.int (iI (44))]) (rest := []) hx hb hml hown hts hK hRf hRl hW hS (c_X5_sign l D cy B (rl6 (σ)) 44 (show -2147483648 ≤ 44 ∧ 44 < 2147483648 from (by first | assumption | omega | (simp only [tpL_25, tcL_1, List.length_cons, List.length_nil]; omega))) (show RI ((rl6 (σ))) from (RI_6 hri))) vX5_sign ⟨w_443, w_444⟩ w_442 (by decide) e_2 rfl ⟨Nat.le_of_ble_eq_true rfl, Nat.le_of_ble_eq_true rfl⟩ hl.1 rfl (Nat.le_of_ble_eq_true rfl) ⟨Nat.zero_le _, Nat.zero_le _⟩ dX5_readLaw_54 (fun H locs hW hS => ?_)
  rw [show (sgS ((rl6 (σ))) 44) = (rl7 (σ)) from (by rfl)] at hW
  refine lv_aload_n hx hb dX5_readLaw_57 rfl (lv_at hl 1 rfl) ?_
  refine lv_aload_n hx hb dX5_readLaw_58 rfl (lv_at hl 0 rfl) ?_
  refine zi_con hx hb dX5_readLaw_59 ?_
  refine zi_con hx hb dX5_readLaw_60 ?_
  refine k_vi (fr := 4) (lo := 84) (r := (rl7 (σ)) 2 6) (σ' := (nuS ((rl7 (σ))) 0 3)) (As := [.int (iI (0)), .int (iI (3))]) (rest := [.ref (B + 24)]) hx hb hml hown hts hK hRf hRl hW hS (c_X5_number l D cy B (rl7 (σ)) 0 3 (show -2147483648 ≤ 0 ∧ 0 < 2147483648 from (by first | assumption | omega | (simp only [tpL_25, tcL_1, List.length_cons, List.length_nil]; omega))) (show -2147483648 ≤ 3 ∧ 3 < 2147483648 from (by first | assumption | omega | (simp only [tpL_25, tcL_1, List.length_cons, List.length_nil]; omega))) (show RI ((rl7 (σ))) from (RI_7 hri))) vX5_number ⟨w_447, w_448⟩ w_446 (by decide) e_2 rfl ⟨Nat.le_of_ble_eq_true rfl, Nat.le_of_ble_eq_true rfl⟩ hl.1 rfl (Nat.le_of_ble_eq_true rfl) ⟨Nat.zero_le _, Nat.zero_le _⟩ dX5_readLaw_61 (fun H locs hW hS => ?_)
  refine wz_put (σ' := (up (nuS ((rl7 (σ))) 0 3) 24 3 ((rl7 (σ)) 2 6))) (ty := .int) hx hb hts hown hK hW hS 24 5 tyX6 (lt_R isR_24) (e_R isR_24) rfl (by decide) inG6 tyX6_ok nmX6 w_260 ⟨rfl, rfl, Nat.le_of_ble_eq_true rfl⟩ (by decide +kernel) ⟨rfl, rfl⟩ (p_R_5 isR_24) dX5_readLaw_64 (fun H locs hW hS => ?_)
  have hW : wd D cy B (rl8 (σ)) H := hW
  refine lv_aload_n hx hb dX5_readLaw_67 rfl (lv_at hl 0 rfl) ?_
  refine zi_bip hx hb dX5_readLaw_68 (by decide) ?_
  refine k_vv (fr := 4) (lo := 84) (σ' := (sgS ((rl8 (σ))) 59)) (As := [.int (iI (59))]) (rest := []) hx hb hml hown hts hK hRf hRl hW hS (c_X5_sign l D cy B (rl8 (σ)) 59 (show -2147483648 ≤ 59 ∧ 59 < 2147483648 from (by first | assumption | omega | (simp only [tpL_25, tcL_1, List.length_cons, List.length_nil]; omega))) (show RI ((rl8 (σ))) from (RI_8 hri))) vX5_sign ⟨w_443, w_444⟩ w_442 (by decide) e_2 rfl ⟨Nat.le_of_ble_eq_true rfl, Nat.le_of_ble_eq_true rfl⟩ hl.1 rfl (Nat.le_of_ble_eq_true rfl) ⟨Nat.zero_le _, Nat.zero_le _⟩ dX5_readLaw_70 (fun H locs hW hS => ?_)
  rw [show (sgS ((rl8 (σ))) 59) = (rl9 (σ)) from (by rfl)] at hW
  exact hret _ _ _ _ _ dX5_readLaw_73 hW hS rfl

set_option maxRecDepth 100000 in
set_option maxHeartbeats 4000000 in
theorem c_X5_readHeirs (l : Launch) (D : va_G) (cy : Nat → ClassId) (B : Nat) (σ : Sg)  (hri : RI (σ)) : CV l yX5_readHeirs cX5_readHeirs 6 4 84 D cy B [.ref (B + 2), .ref (B + 24), .ref (B + 4)] σ (crr 5 0 (σ)) := by
  refine CV_of (by decide) (Nat.le_of_ble_eq_true rfl) ?_
  intro p e R s m args below meth c Q hx hb hml hown hts hK hRf hRl hW hret ls hl
  have hown : s.vm.findClass "LoveParts$Reader" = some m.cls := hown
  have hS : va_S (AB B) s.heap s.heap [] := va_S.rf
  have hl : lv_has ls 6 [(0, .ref (B + 2)), (1, .ref (B + 24)), (2, .ref (B + 4))] := hl
  refine zi_con hx hb dX5_readHeirs_0 ?_
  refine lv_istore_n (lv' := [(3, .int (iI (0))), (0, .ref (B + 2)), (1, .ref (B + 24)), (2, .ref (B + 4))]) hx hb dX5_readHeirs_1 rfl hl (by decide) rfl (fun ls hl => ?_)
  have L2 : ∀ (n2 : Nat) (i_ : Nat) (τ_ : Sg) (H : Heap) (locs : List Loc) (ls : Array Slot), 5 - i_ < n2 → (i_ ≤ 5) → (RI τ_) → (crr 5 0 σ = crr (5 - i_) i_ τ_) → wd D cy B τ_ H → va_S (AB B) s.heap H locs → lv_has ls 6 [(3, .int (iI (((i_ : Nat) : Int)))), (0, .ref (B + 2)), (1, .ref (B + 24)), (2, .ref (B + 4))] → W p l e R s m args below meth c H locs 0 0 Q (F0 m 2 ls []) := by
    intro n2
    induction n2 with
    | zero => intro i_ τ_ H locs ls hms; omega
    | succ n2 ih2 =>
      intro i_ τ_ H locs ls hms2 hi5 hr9 hcr hW hS hl
      obtain ⟨q2, ⟨q4, qL⟩, q5, q6, htp⟩ := id hr9
      refine lv_iload_n hx hb dX5_readHeirs_2 rfl (lv_at hl 0 rfl) ?_
      refine zi_con hx hb dX5_readHeirs_3 ?_
      refine zi_cgt (tgt := 135) hx hb dX5_readHeirs_4 (by decide) (by omega) (by omega) (fun c4 => ?_) (fun c4 => ?_)
      · exact hret _ _ _ _ _ dX5_readHeirs_135 hW hS (by rw [hcr]; first | (rw [show 5 - i_ = 0 from by omega]; rfl) | (rw [show 5 - i_ = (4 - i_) + 1 from by omega, crr_s, if_neg (by omega)]))
      · refine lv_aload_n hx hb dX5_readHeirs_7 rfl (lv_at hl 1 rfl) ?_
        refine wz_get hx hb hts hown hK hW 2 2 (by decide) e_2 rfl (by decide) inG5 w_88 rfl rfl dX5_readHeirs_8 ?_
        refine zi_ne (tgt := 135) hx hb dX5_readHeirs_11 (by decide) (by omega) (fun c11 => ?_) (fun c11 => ?_)
        · exact hret _ _ _ _ _ dX5_readHeirs_135 hW hS (by rw [hcr]; first | (rw [show 5 - i_ = 0 from by omega]; rfl) | (rw [show 5 - i_ = (4 - i_) + 1 from by omega, crr_s, if_neg (by omega)]))
        · refine lv_aload_n hx hb dX5_readHeirs_14 rfl (lv_at hl 1 rfl) ?_
          refine wz_get hx hb hts hown hK hW 2 5 (by decide) e_2 rfl (by decide) inG5 w_93 rfl rfl dX5_readHeirs_15 ?_
          refine zi_sip hx hb dX5_readHeirs_18 (by decide) ?_
          refine zi_cne (tgt := 30) hx hb dX5_readHeirs_21 (by decide) (by omega) (by omega) (fun c21 => ?_) (fun c21 => ?_)
          · refine lv_aload_n hx hb dX5_readHeirs_30 rfl (lv_at hl 1 rfl) ?_
            refine wz_get hx hb hts hown hK hW 2 5 (by decide) e_2 rfl (by decide) inG5 w_93 rfl rfl dX5_readHeirs_31 ?_
            refine k_si (fr := 4) (lo := 84) (r := kbs (τ_ 2 5)) (As := [.int (iI (τ_ 2 5))]) (rest := []) hx hb hml hown hts hK hRf hRl hW hS (c_X5_kindBySort l D cy B τ_ (τ_ 2 5) (show -2147483648 ≤ (τ_ 2 5) ∧ (τ_ 2 5) < 2147483648 from (by first | assumption | omega | (simp only [tpL_25, tcL_1, List.length_cons, List.length_nil]; omega)))) vX5_kindBySort w_456 w_455 ⟨Nat.le_of_ble_eq_true rfl, Nat.le_of_ble_eq_true rfl⟩ hl.1 rfl (Nat.le_of_ble_eq_true rfl) ⟨Nat.zero_le _, Nat.zero_le _⟩ dX5_readHeirs_34 (fun H locs hW hS => ?_)
            have hkb := kbs_bd (τ_ 2 5)
            refine lv_istore (lv' := [(4, .int (iI (kbs (τ_ 2 5)))), (3, .int (iI (((i_ : Nat) : Int)))), (0, .ref (B + 2)), (1, .ref (B + 24)), (2, .ref (B + 4))]) hx hb dX5_readHeirs_37 hl (by decide) rfl (fun ls hl => ?_)
            refine lv_iload hx hb dX5_readHeirs_39 (lv_at hl 0 rfl) ?_
            refine zi_ne (tgt := 52) hx hb dX5_readHeirs_41 (by decide) (by omega) (fun c41 => ?_) (fun c41 => ?_)
            · refine lv_iload_n hx hb dX5_readHeirs_52 rfl (lv_at hl 1 rfl) ?_
              refine zi_con hx hb dX5_readHeirs_53 ?_
              refine zi_cne (tgt := 65) hx hb dX5_readHeirs_54 (by decide) (by omega) (by omega) (fun c54 => ?_) (fun c54 => ?_)
              · refine lv_aload_n hx hb dX5_readHeirs_65 rfl (lv_at hl 3 rfl) ?_
                refine wz_get hx hb hts hown hK hW 24 0 (lt_R isR_24) (e_R isR_24) rfl (by decide) inG6 w_245 rfl rfl dX5_readHeirs_66 ?_
                refine lv_iload_n hx hb dX5_readHeirs_69 rfl (lv_at hl 1 rfl) ?_
                refine wz_ara hx hb hK hW (24 + 1) i_ 2 (lt_Ra isR_24) (e_Ra isR_24) rfl (by omega) (by omega) (by decide) rfl dX5_readHeirs_70 ?_
                refine lv_astore (lv' := [(5, .ref (B + (24 + 2 + i_))), (4, .int (iI (kbs (τ_ 2 5)))), (3, .int (iI (((i_ : Nat) : Int)))), (0, .ref (B + 2)), (1, .ref (B + 24)), (2, .ref (B + 4))]) hx hb dX5_readHeirs_71 hl (by decide) rfl (fun ls hl => ?_)
                refine lv_aload hx hb dX5_readHeirs_73 (lv_at hl 0 rfl) ?_
                refine lv_aload_n hx hb dX5_readHeirs_75 rfl (lv_at hl 5 rfl) ?_
                refine lv_iload hx hb dX5_readHeirs_76 (lv_at hl 1 rfl) ?_
                refine wz_ara hx hb hK hW 4 ((kbs (τ_ 2 5)).toNat) 3 (by decide) e_4 rfl (by omega) (by omega) (by decide) (if_neg (by omega)) dX5_readHeirs_78 ?_
                refine wz_put (σ' := (up τ_ 24 (8 + i_) (kbs (τ_ 2 5)))) (ty := .object "LoveParts$Nature") hx hb hts hown hK hW hS (24 + 2 + i_) 1 tyX0 (lt_H isR_24 (by omega)) (e_H isR_24 (by omega)) rfl (by decide) inG0 tyX0_ok nmX0 w_185 ⟨rfl, rfl, Nat.le_of_ble_eq_true rfl⟩ (by decide +kernel) ⟨rfl, rfl⟩ (p_H_1 isR_24 (by omega)) dX5_readHeirs_79 (fun H locs hW hS => ?_)
                refine lv_aload_n hx hb dX5_readHeirs_82 rfl (lv_at hl 3 rfl) ?_
                refine k_vv (fr := 4) (lo := 84) (σ' := (cnt ((up τ_ 24 (8 + i_) (kbs (τ_ 2 5)))))) (As := []) (rest := []) hx hb hml hown hts hK hRf hRl hW hS (c_X5_nextToken l D cy B (up τ_ 24 (8 + i_) (kbs (τ_ 2 5)))  (show RI ((up τ_ 24 (8 + i_) (kbs (τ_ 2 5)))) from (RI_24 hr9))) vX5_nextToken ⟨w_420, w_421⟩ w_419 (by decide) e_2 rfl ⟨Nat.le_of_ble_eq_true rfl, Nat.le_of_ble_eq_true rfl⟩ hl.1 rfl (Nat.le_of_ble_eq_true rfl) ⟨Nat.zero_le _, Nat.zero_le _⟩ dX5_readHeirs_83 (fun H locs hW hS => ?_)
                rw [show (cnt ((up τ_ 24 (8 + i_) (kbs (τ_ 2 5))))) = (hr2 τ_ i_) from (by rfl)] at hW
                refine lv_aload hx hb dX5_readHeirs_86 (lv_at hl 0 rfl) ?_
                refine lv_aload_n hx hb dX5_readHeirs_88 rfl (lv_at hl 3 rfl) ?_
                refine zi_con hx hb dX5_readHeirs_89 ?_
                refine zi_bip hx hb dX5_readHeirs_90 (by decide) ?_
                refine k_vi (fr := 4) (lo := 84) (r := (hr2 τ_ i_) 2 6) (σ' := (nuS ((hr2 τ_ i_)) 0 9)) (As := [.int (iI (0)), .int (iI (9))]) (rest := [.ref (B + (24 + 2 + i_))]) hx hb hml hown hts hK hRf hRl hW hS (c_X5_number l D cy B (hr2 τ_ i_) 0 9 (show -2147483648 ≤ 0 ∧ 0 < 2147483648 from (by first | assumption | omega | (simp only [tpL_25, tcL_1, List.length_cons, List.length_nil]; omega))) (show -2147483648 ≤ 9 ∧ 9 < 2147483648 from (by first | assumption | omega | (simp only [tpL_25, tcL_1, List.length_cons, List.length_nil]; omega))) (show RI ((hr2 τ_ i_)) from (RI_h2 hr9 i_))) vX5_number ⟨w_447, w_448⟩ w_446 (by decide) e_2 rfl ⟨Nat.le_of_ble_eq_true rfl, Nat.le_of_ble_eq_true rfl⟩ hl.1 rfl (Nat.le_of_ble_eq_true rfl) ⟨Nat.zero_le _, Nat.zero_le _⟩ dX5_readHeirs_92 (fun H locs hW hS => ?_)
                refine wz_put (σ' := (up (nuS ((hr2 τ_ i_)) 0 9) 24 (12 + i_) ((hr2 τ_ i_) 2 6))) (ty := .int) hx hb hts hown hK hW hS (24 + 2 + i_) 2 tyX0 (lt_H isR_24 (by omega)) (e_H isR_24 (by omega)) rfl (by decide) inG0 tyX0_ok nmX0 w_193 ⟨rfl, rfl, Nat.le_of_ble_eq_true rfl⟩ (by decide +kernel) ⟨rfl, rfl⟩ (p_H_2 isR_24 (by omega)) dX5_readHeirs_95 (fun H locs hW hS => ?_)
                have hW : wd D cy B (hr3 τ_ i_) H := hW
                refine lv_aload_n hx hb dX5_readHeirs_98 rfl (lv_at hl 3 rfl) ?_
                refine zi_bip hx hb dX5_readHeirs_99 (by decide) ?_
                refine k_vv (fr := 4) (lo := 84) (σ' := (sgS ((hr3 τ_ i_)) 44)) (As := [.int (iI (44))]) (rest := []) hx hb hml hown hts hK hRf hRl hW hS (c_X5_sign l D cy B (hr3 τ_ i_) 44 (show -2147483648 ≤ 44 ∧ 44 < 2147483648 from (by first | assumption | omega | (simp only [tpL_25, tcL_1, List.length_cons, List.length_nil]; omega))) (show RI ((hr3 τ_ i_)) from (RI_h3 hr9 i_))) vX5_sign ⟨w_443, w_444⟩ w_442 (by decide) e_2 rfl ⟨Nat.le_of_ble_eq_true rfl, Nat.le_of_ble_eq_true rfl⟩ hl.1 rfl (Nat.le_of_ble_eq_true rfl) ⟨Nat.zero_le _, Nat.zero_le _⟩ dX5_readHeirs_101 (fun H locs hW hS => ?_)
                rw [show (sgS ((hr3 τ_ i_)) 44) = (hr4 τ_ i_) from (by rfl)] at hW
                refine lv_aload hx hb dX5_readHeirs_104 (lv_at hl 0 rfl) ?_
                refine lv_aload_n hx hb dX5_readHeirs_106 rfl (lv_at hl 3 rfl) ?_
                refine zi_con hx hb dX5_readHeirs_107 ?_
                refine zi_bip hx hb dX5_readHeirs_108 (by decide) ?_
                refine k_vi (fr := 4) (lo := 84) (r := (hr4 τ_ i_) 2 6) (σ' := (nuS ((hr4 τ_ i_)) 0 9)) (As := [.int (iI (0)), .int (iI (9))]) (rest := [.ref (B + (24 + 2 + i_))]) hx hb hml hown hts hK hRf hRl hW hS (c_X5_number l D cy B (hr4 τ_ i_) 0 9 (show -2147483648 ≤ 0 ∧ 0 < 2147483648 from (by first | assumption | omega | (simp only [tpL_25, tcL_1, List.length_cons, List.length_nil]; omega))) (show -2147483648 ≤ 9 ∧ 9 < 2147483648 from (by first | assumption | omega | (simp only [tpL_25, tcL_1, List.length_cons, List.length_nil]; omega))) (show RI ((hr4 τ_ i_)) from (RI_h4 hr9 i_))) vX5_number ⟨w_447, w_448⟩ w_446 (by decide) e_2 rfl ⟨Nat.le_of_ble_eq_true rfl, Nat.le_of_ble_eq_true rfl⟩ hl.1 rfl (Nat.le_of_ble_eq_true rfl) ⟨Nat.zero_le _, Nat.zero_le _⟩ dX5_readHeirs_110 (fun H locs hW hS => ?_)
                refine wz_put (σ' := (up (nuS ((hr4 τ_ i_)) 0 9) 24 (16 + i_) ((hr4 τ_ i_) 2 6))) (ty := .int) hx hb hts hown hK hW hS (24 + 2 + i_) 3 tyX0 (lt_H isR_24 (by omega)) (e_H isR_24 (by omega)) rfl (by decide) inG0 tyX0_ok nmX0 w_198 ⟨rfl, rfl, Nat.le_of_ble_eq_true rfl⟩ (by decide +kernel) ⟨rfl, rfl⟩ (p_H_3 isR_24 (by omega)) dX5_readHeirs_113 (fun H locs hW hS => ?_)
                have hW : wd D cy B (hr5 τ_ i_) H := hW
                refine lv_aload_n hx hb dX5_readHeirs_116 rfl (lv_at hl 3 rfl) ?_
                refine zi_bip hx hb dX5_readHeirs_117 (by decide) ?_
                refine k_vv (fr := 4) (lo := 84) (σ' := (sgS ((hr5 τ_ i_)) 59)) (As := [.int (iI (59))]) (rest := []) hx hb hml hown hts hK hRf hRl hW hS (c_X5_sign l D cy B (hr5 τ_ i_) 59 (show -2147483648 ≤ 59 ∧ 59 < 2147483648 from (by first | assumption | omega | (simp only [tpL_25, tcL_1, List.length_cons, List.length_nil]; omega))) (show RI ((hr5 τ_ i_)) from (RI_h5 hr9 i_))) vX5_sign ⟨w_443, w_444⟩ w_442 (by decide) e_2 rfl ⟨Nat.le_of_ble_eq_true rfl, Nat.le_of_ble_eq_true rfl⟩ hl.1 rfl (Nat.le_of_ble_eq_true rfl) ⟨Nat.zero_le _, Nat.zero_le _⟩ dX5_readHeirs_119 (fun H locs hW hS => ?_)
                rw [show (sgS ((hr5 τ_ i_)) 59) = (hr6 τ_ i_) from (by rfl)] at hW
                refine lv_aload_n hx hb dX5_readHeirs_122 rfl (lv_at hl 4 rfl) ?_
                refine lv_iload_n hx hb dX5_readHeirs_123 rfl (lv_at hl 2 rfl) ?_
                refine zi_con hx hb dX5_readHeirs_124 ?_
                refine zi_add hx hb dX5_readHeirs_125 ?_
                refine wz_put (σ' := (up (hr6 τ_ i_) 24 4 (((i_ : Nat) : Int) + 1))) (ty := .int) hx hb hts hown hK hW hS 24 1 tyX6 (lt_R isR_24) (e_R isR_24) rfl (by decide) inG6 tyX6_ok nmX6 w_248 ⟨rfl, rfl, Nat.le_of_ble_eq_true rfl⟩ (by decide +kernel) ⟨rfl, rfl⟩ (p_R_1 isR_24) dX5_readHeirs_126 (fun H locs hW hS => ?_)
                refine lv_iinc (v := iI (((i_ : Nat) : Int) + 1)) (lv' := [(3, .int (iI (((i_ : Nat) : Int) + 1))), (5, .ref (B + (24 + 2 + i_))), (4, .int (iI (kbs (τ_ 2 5)))), (0, .ref (B + 2)), (1, .ref (B + 24)), (2, .ref (B + 4))]) hx hb dX5_readHeirs_129 hl (k := 2) rfl (iI_add _ _) (by decide) rfl (fun ls hl => ?_)
                refine lv_goto (tgt := 2) hx hb dX5_readHeirs_132 (by decide) ?_
                exact ih2 (i_ + 1) (hst τ_ i_) _ _ _ (by omega) (by omega) (RI_hst hr9 i_) (by rw [hcr, show 5 - i_ = (5 - (i_ + 1)) + 1 from by omega, crr_s, if_pos (by omega), if_neg (by omega)]) (by first | exact hW | (have h2 := hW; unfold hst; first | (rw [if_pos (by omega)]; exact h2) | (rw [if_neg (by omega), if_pos (by omega)]; exact h2) | (rw [if_neg (by omega), if_neg (by omega)]; exact h2))) hS (lv_sub hl [0, 3, 4, 5] rfl)
              · refine lv_aload_n hx hb dX5_readHeirs_57 rfl (lv_at hl 2 rfl) ?_
                refine zi_con hx hb dX5_readHeirs_58 ?_
                refine wz_put (σ' := (up τ_ 2 2 3)) (ty := .int) hx hb hts hown hK hW hS 2 2 tyX5 (by decide) e_2 rfl (by decide) inG5 tyX5_ok nmX5 w_88 ⟨rfl, rfl, Nat.le_of_ble_eq_true rfl⟩ (by decide +kernel) ⟨rfl, rfl⟩ p_2_2 dX5_readHeirs_59 (fun H locs hW hS => ?_)
                refine lv_goto (tgt := 129) hx hb dX5_readHeirs_62 (by decide) ?_
                refine lv_iinc (v := iI (((i_ : Nat) : Int) + 1)) (lv' := [(3, .int (iI (((i_ : Nat) : Int) + 1))), (4, .int (iI (kbs (τ_ 2 5)))), (0, .ref (B + 2)), (1, .ref (B + 24)), (2, .ref (B + 4))]) hx hb dX5_readHeirs_129 hl (k := 1) rfl (iI_add _ _) (by decide) rfl (fun ls hl => ?_)
                refine lv_goto (tgt := 2) hx hb dX5_readHeirs_132 (by decide) ?_
                exact ih2 (i_ + 1) (hst τ_ i_) _ _ _ (by omega) (by omega) (RI_hst hr9 i_) (by rw [hcr, show 5 - i_ = (5 - (i_ + 1)) + 1 from by omega, crr_s, if_pos (by omega), if_neg (by omega)]) (by first | exact hW | (have h2 := hW; unfold hst; first | (rw [if_pos (by omega)]; exact h2) | (rw [if_neg (by omega), if_pos (by omega)]; exact h2) | (rw [if_neg (by omega), if_neg (by omega)]; exact h2))) hS (lv_sub hl [0, 2, 3, 4] rfl)
            · refine lv_aload_n hx hb dX5_readHeirs_44 rfl (lv_at hl 2 rfl) ?_
              refine zi_con hx hb dX5_readHeirs_45 ?_
              refine wz_put (σ' := (up τ_ 2 2 1)) (ty := .int) hx hb hts hown hK hW hS 2 2 tyX5 (by decide) e_2 rfl (by decide) inG5 tyX5_ok nmX5 w_88 ⟨rfl, rfl, Nat.le_of_ble_eq_true rfl⟩ (by decide +kernel) ⟨rfl, rfl⟩ p_2_2 dX5_readHeirs_46 (fun H locs hW hS => ?_)
              refine lv_goto (tgt := 129) hx hb dX5_readHeirs_49 (by decide) ?_
              refine lv_iinc (v := iI (((i_ : Nat) : Int) + 1)) (lv' := [(3, .int (iI (((i_ : Nat) : Int) + 1))), (4, .int (iI (kbs (τ_ 2 5)))), (0, .ref (B + 2)), (1, .ref (B + 24)), (2, .ref (B + 4))]) hx hb dX5_readHeirs_129 hl (k := 1) rfl (iI_add _ _) (by decide) rfl (fun ls hl => ?_)
              refine lv_goto (tgt := 2) hx hb dX5_readHeirs_132 (by decide) ?_
              exact ih2 (i_ + 1) (hst τ_ i_) _ _ _ (by omega) (by omega) (RI_hst hr9 i_) (by rw [hcr, show 5 - i_ = (5 - (i_ + 1)) + 1 from by omega, crr_s, if_pos (by omega), if_neg (by omega)]) (by first | exact hW | (have h2 := hW; unfold hst; first | (rw [if_pos (by omega)]; exact h2) | (rw [if_neg (by omega), if_pos (by omega)]; exact h2) | (rw [if_neg (by omega), if_neg (by omega)]; exact h2))) hS (lv_sub hl [0, 2, 3, 4] rfl)
          · refine lv_iload_n hx hb dX5_readHeirs_24 rfl (lv_at hl 0 rfl) ?_
            refine zi_con hx hb dX5_readHeirs_25 ?_
            refine zi_clt (tgt := 30) hx hb dX5_readHeirs_26 (by decide) (by omega) (by omega) (fun c26 => ?_) (fun c26 => ?_)
            · refine lv_aload_n hx hb dX5_readHeirs_30 rfl (lv_at hl 1 rfl) ?_
              refine wz_get hx hb hts hown hK hW 2 5 (by decide) e_2 rfl (by decide) inG5 w_93 rfl rfl dX5_readHeirs_31 ?_
              refine k_si (fr := 4) (lo := 84) (r := kbs (τ_ 2 5)) (As := [.int (iI (τ_ 2 5))]) (rest := []) hx hb hml hown hts hK hRf hRl hW hS (c_X5_kindBySort l D cy B τ_ (τ_ 2 5) (show -2147483648 ≤ (τ_ 2 5) ∧ (τ_ 2 5) < 2147483648 from (by first | assumption | omega | (simp only [tpL_25, tcL_1, List.length_cons, List.length_nil]; omega)))) vX5_kindBySort w_456 w_455 ⟨Nat.le_of_ble_eq_true rfl, Nat.le_of_ble_eq_true rfl⟩ hl.1 rfl (Nat.le_of_ble_eq_true rfl) ⟨Nat.zero_le _, Nat.zero_le _⟩ dX5_readHeirs_34 (fun H locs hW hS => ?_)
              have hkb := kbs_bd (τ_ 2 5)
              refine lv_istore (lv' := [(4, .int (iI (kbs (τ_ 2 5)))), (3, .int (iI (((i_ : Nat) : Int)))), (0, .ref (B + 2)), (1, .ref (B + 24)), (2, .ref (B + 4))]) hx hb dX5_readHeirs_37 hl (by decide) rfl (fun ls hl => ?_)
              refine lv_iload hx hb dX5_readHeirs_39 (lv_at hl 0 rfl) ?_
              refine zi_ne (tgt := 52) hx hb dX5_readHeirs_41 (by decide) (by omega) (fun c41 => ?_) (fun c41 => ?_)
              · refine lv_iload_n hx hb dX5_readHeirs_52 rfl (lv_at hl 1 rfl) ?_
                refine zi_con hx hb dX5_readHeirs_53 ?_
                refine zi_cne (tgt := 65) hx hb dX5_readHeirs_54 (by decide) (by omega) (by omega) (fun c54 => ?_) (fun c54 => ?_)
                · refine lv_aload_n hx hb dX5_readHeirs_65 rfl (lv_at hl 3 rfl) ?_
                  refine wz_get hx hb hts hown hK hW 24 0 (lt_R isR_24) (e_R isR_24) rfl (by decide) inG6 w_245 rfl rfl dX5_readHeirs_66 ?_
                  refine lv_iload_n hx hb dX5_readHeirs_69 rfl (lv_at hl 1 rfl) ?_
                  refine wz_ara hx hb hK hW (24 + 1) i_ 2 (lt_Ra isR_24) (e_Ra isR_24) rfl (by omega) (by omega) (by decide) rfl dX5_readHeirs_70 ?_
                  refine lv_astore (lv' := [(5, .ref (B + (24 + 2 + i_))), (4, .int (iI (kbs (τ_ 2 5)))), (3, .int (iI (((i_ : Nat) : Int)))), (0, .ref (B + 2)), (1, .ref (B + 24)), (2, .ref (B + 4))]) hx hb dX5_readHeirs_71 hl (by decide) rfl (fun ls hl => ?_)
                  refine lv_aload hx hb dX5_readHeirs_73 (lv_at hl 0 rfl) ?_
                  refine lv_aload_n hx hb dX5_readHeirs_75 rfl (lv_at hl 5 rfl) ?_
                  refine lv_iload hx hb dX5_readHeirs_76 (lv_at hl 1 rfl) ?_
                  refine wz_ara hx hb hK hW 4 ((kbs (τ_ 2 5)).toNat) 3 (by decide) e_4 rfl (by omega) (by omega) (by decide) (if_neg (by omega)) dX5_readHeirs_78 ?_
                  refine wz_put (σ' := (up τ_ 24 (8 + i_) (kbs (τ_ 2 5)))) (ty := .object "LoveParts$Nature") hx hb hts hown hK hW hS (24 + 2 + i_) 1 tyX0 (lt_H isR_24 (by omega)) (e_H isR_24 (by omega)) rfl (by decide) inG0 tyX0_ok nmX0 w_185 ⟨rfl, rfl, Nat.le_of_ble_eq_true rfl⟩ (by decide +kernel) ⟨rfl, rfl⟩ (p_H_1 isR_24 (by omega)) dX5_readHeirs_79 (fun H locs hW hS => ?_)
                  refine lv_aload_n hx hb dX5_readHeirs_82 rfl (lv_at hl 3 rfl) ?_
                  refine k_vv (fr := 4) (lo := 84) (σ' := (cnt ((up τ_ 24 (8 + i_) (kbs (τ_ 2 5)))))) (As := []) (rest := []) hx hb hml hown hts hK hRf hRl hW hS (c_X5_nextToken l D cy B (up τ_ 24 (8 + i_) (kbs (τ_ 2 5)))  (show RI ((up τ_ 24 (8 + i_) (kbs (τ_ 2 5)))) from (RI_24 hr9))) vX5_nextToken ⟨w_420, w_421⟩ w_419 (by decide) e_2 rfl ⟨Nat.le_of_ble_eq_true rfl, Nat.le_of_ble_eq_true rfl⟩ hl.1 rfl (Nat.le_of_ble_eq_true rfl) ⟨Nat.zero_le _, Nat.zero_le _⟩ dX5_readHeirs_83 (fun H locs hW hS => ?_)
                  rw [show (cnt ((up τ_ 24 (8 + i_) (kbs (τ_ 2 5))))) = (hr2 τ_ i_) from (by rfl)] at hW
                  refine lv_aload hx hb dX5_readHeirs_86 (lv_at hl 0 rfl) ?_
                  refine lv_aload_n hx hb dX5_readHeirs_88 rfl (lv_at hl 3 rfl) ?_
                  refine zi_con hx hb dX5_readHeirs_89 ?_
                  refine zi_bip hx hb dX5_readHeirs_90 (by decide) ?_
                  refine k_vi (fr := 4) (lo := 84) (r := (hr2 τ_ i_) 2 6) (σ' := (nuS ((hr2 τ_ i_)) 0 9)) (As := [.int (iI (0)), .int (iI (9))]) (rest := [.ref (B + (24 + 2 + i_))]) hx hb hml hown hts hK hRf hRl hW hS (c_X5_number l D cy B (hr2 τ_ i_) 0 9 (show -2147483648 ≤ 0 ∧ 0 < 2147483648 from (by first | assumption | omega | (simp only [tpL_25, tcL_1, List.length_cons, List.length_nil]; omega))) (show -2147483648 ≤ 9 ∧ 9 < 2147483648 from (by first | assumption | omega | (simp only [tpL_25, tcL_1, List.length_cons, List.length_nil]; omega))) (show RI ((hr2 τ_ i_)) from (RI_h2 hr9 i_))) vX5_number ⟨w_447, w_448⟩ w_446 (by decide) e_2 rfl ⟨Nat.le_of_ble_eq_true rfl, Nat.le_of_ble_eq_true rfl⟩ hl.1 rfl (Nat.le_of_ble_eq_true rfl) ⟨Nat.zero_le _, Nat.zero_le _⟩ dX5_readHeirs_92 (fun H locs hW hS => ?_)
                  refine wz_put (σ' := (up (nuS ((hr2 τ_ i_)) 0 9) 24 (12 + i_) ((hr2 τ_ i_) 2 6))) (ty := .int) hx hb hts hown hK hW hS (24 + 2 + i_) 2 tyX0 (lt_H isR_24 (by omega)) (e_H isR_24 (by omega)) rfl (by decide) inG0 tyX0_ok nmX0 w_193 ⟨rfl, rfl, Nat.le_of_ble_eq_true rfl⟩ (by decide +kernel) ⟨rfl, rfl⟩ (p_H_2 isR_24 (by omega)) dX5_readHeirs_95 (fun H locs hW hS => ?_)
                  have hW : wd D cy B (hr3 τ_ i_) H := hW
                  refine lv_aload_n hx hb dX5_readHeirs_98 rfl (lv_at hl 3 rfl) ?_
                  refine zi_bip hx hb dX5_readHeirs_99 (by decide) ?_
                  refine k_vv (fr := 4) (lo := 84) (σ' := (sgS ((hr3 τ_ i_)) 44)) (As := [.int (iI (44))]) (rest := []) hx hb hml hown hts hK hRf hRl hW hS (c_X5_sign l D cy B (hr3 τ_ i_) 44 (show -2147483648 ≤ 44 ∧ 44 < 2147483648 from (by first | assumption | omega | (simp only [tpL_25, tcL_1, List.length_cons, List.length_nil]; omega))) (show RI ((hr3 τ_ i_)) from (RI_h3 hr9 i_))) vX5_sign ⟨w_443, w_444⟩ w_442 (by decide) e_2 rfl ⟨Nat.le_of_ble_eq_true rfl, Nat.le_of_ble_eq_true rfl⟩ hl.1 rfl (Nat.le_of_ble_eq_true rfl) ⟨Nat.zero_le _, Nat.zero_le _⟩ dX5_readHeirs_101 (fun H locs hW hS => ?_)
                  rw [show (sgS ((hr3 τ_ i_)) 44) = (hr4 τ_ i_) from (by rfl)] at hW
                  refine lv_aload hx hb dX5_readHeirs_104 (lv_at hl 0 rfl) ?_
                  refine lv_aload_n hx hb dX5_readHeirs_106 rfl (lv_at hl 3 rfl) ?_
                  refine zi_con hx hb dX5_readHeirs_107 ?_
                  refine zi_bip hx hb dX5_readHeirs_108 (by decide) ?_
                  refine k_vi (fr := 4) (lo := 84) (r := (hr4 τ_ i_) 2 6) (σ' := (nuS ((hr4 τ_ i_)) 0 9)) (As := [.int (iI (0)), .int (iI (9))]) (rest := [.ref (B + (24 + 2 + i_))]) hx hb hml hown hts hK hRf hRl hW hS (c_X5_number l D cy B (hr4 τ_ i_) 0 9 (show -2147483648 ≤ 0 ∧ 0 < 2147483648 from (by first | assumption | omega | (simp only [tpL_25, tcL_1, List.length_cons, List.length_nil]; omega))) (show -2147483648 ≤ 9 ∧ 9 < 2147483648 from (by first | assumption | omega | (simp only [tpL_25, tcL_1, List.length_cons, List.length_nil]; omega))) (show RI ((hr4 τ_ i_)) from (RI_h4 hr9 i_))) vX5_number ⟨w_447, w_448⟩ w_446 (by decide) e_2 rfl ⟨Nat.le_of_ble_eq_true rfl, Nat.le_of_ble_eq_true rfl⟩ hl.1 rfl (Nat.le_of_ble_eq_true rfl) ⟨Nat.zero_le _, Nat.zero_le _⟩ dX5_readHeirs_110 (fun H locs hW hS => ?_)
                  refine wz_put (σ' := (up (nuS ((hr4 τ_ i_)) 0 9) 24 (16 + i_) ((hr4 τ_ i_) 2 6))) (ty := .int) hx hb hts hown hK hW hS (24 + 2 + i_) 3 tyX0 (lt_H isR_24 (by omega)) (e_H isR_24 (by omega)) rfl (by decide) inG0 tyX0_ok nmX0 w_198 ⟨rfl, rfl, Nat.le_of_ble_eq_true rfl⟩ (by decide +kernel) ⟨rfl, rfl⟩ (p_H_3 isR_24 (by omega)) dX5_readHeirs_113 (fun H locs hW hS => ?_)
                  have hW : wd D cy B (hr5 τ_ i_) H := hW
                  refine lv_aload_n hx hb dX5_readHeirs_116 rfl (lv_at hl 3 rfl) ?_
                  refine zi_bip hx hb dX5_readHeirs_117 (by decide) ?_
                  refine k_vv (fr := 4) (lo := 84) (σ' := (sgS ((hr5 τ_ i_)) 59)) (As := [.int (iI (59))]) (rest := []) hx hb hml hown hts hK hRf hRl hW hS (c_X5_sign l D cy B (hr5 τ_ i_) 59 (show -2147483648 ≤ 59 ∧ 59 < 2147483648 from (by first | assumption | omega | (simp only [tpL_25, tcL_1, List.length_cons, List.length_nil]; omega))) (show RI ((hr5 τ_ i_)) from (RI_h5 hr9 i_))) vX5_sign ⟨w_443, w_444⟩ w_442 (by decide) e_2 rfl ⟨Nat.le_of_ble_eq_true rfl, Nat.le_of_ble_eq_true rfl⟩ hl.1 rfl (Nat.le_of_ble_eq_true rfl) ⟨Nat.zero_le _, Nat.zero_le _⟩ dX5_readHeirs_119 (fun H locs hW hS => ?_)
                  rw [show (sgS ((hr5 τ_ i_)) 59) = (hr6 τ_ i_) from (by rfl)] at hW
                  refine lv_aload_n hx hb dX5_readHeirs_122 rfl (lv_at hl 4 rfl) ?_
                  refine lv_iload_n hx hb dX5_readHeirs_123 rfl (lv_at hl 2 rfl) ?_
                  refine zi_con hx hb dX5_readHeirs_124 ?_
                  refine zi_add hx hb dX5_readHeirs_125 ?_
                  refine wz_put (σ' := (up (hr6 τ_ i_) 24 4 (((i_ : Nat) : Int) + 1))) (ty := .int) hx hb hts hown hK hW hS 24 1 tyX6 (lt_R isR_24) (e_R isR_24) rfl (by decide) inG6 tyX6_ok nmX6 w_248 ⟨rfl, rfl, Nat.le_of_ble_eq_true rfl⟩ (by decide +kernel) ⟨rfl, rfl⟩ (p_R_1 isR_24) dX5_readHeirs_126 (fun H locs hW hS => ?_)
                  refine lv_iinc (v := iI (((i_ : Nat) : Int) + 1)) (lv' := [(3, .int (iI (((i_ : Nat) : Int) + 1))), (5, .ref (B + (24 + 2 + i_))), (4, .int (iI (kbs (τ_ 2 5)))), (0, .ref (B + 2)), (1, .ref (B + 24)), (2, .ref (B + 4))]) hx hb dX5_readHeirs_129 hl (k := 2) rfl (iI_add _ _) (by decide) rfl (fun ls hl => ?_)
                  refine lv_goto (tgt := 2) hx hb dX5_readHeirs_132 (by decide) ?_
                  exact ih2 (i_ + 1) (hst τ_ i_) _ _ _ (by omega) (by omega) (RI_hst hr9 i_) (by rw [hcr, show 5 - i_ = (5 - (i_ + 1)) + 1 from by omega, crr_s, if_pos (by omega), if_neg (by omega)]) (by first | exact hW | (have h2 := hW; unfold hst; first | (rw [if_pos (by omega)]; exact h2) | (rw [if_neg (by omega), if_pos (by omega)]; exact h2) | (rw [if_neg (by omega), if_neg (by omega)]; exact h2))) hS (lv_sub hl [0, 3, 4, 5] rfl)
                · refine lv_aload_n hx hb dX5_readHeirs_57 rfl (lv_at hl 2 rfl) ?_
                  refine zi_con hx hb dX5_readHeirs_58 ?_
                  refine wz_put (σ' := (up τ_ 2 2 3)) (ty := .int) hx hb hts hown hK hW hS 2 2 tyX5 (by decide) e_2 rfl (by decide) inG5 tyX5_ok nmX5 w_88 ⟨rfl, rfl, Nat.le_of_ble_eq_true rfl⟩ (by decide +kernel) ⟨rfl, rfl⟩ p_2_2 dX5_readHeirs_59 (fun H locs hW hS => ?_)
                  refine lv_goto (tgt := 129) hx hb dX5_readHeirs_62 (by decide) ?_
                  refine lv_iinc (v := iI (((i_ : Nat) : Int) + 1)) (lv' := [(3, .int (iI (((i_ : Nat) : Int) + 1))), (4, .int (iI (kbs (τ_ 2 5)))), (0, .ref (B + 2)), (1, .ref (B + 24)), (2, .ref (B + 4))]) hx hb dX5_readHeirs_129 hl (k := 1) rfl (iI_add _ _) (by decide) rfl (fun ls hl => ?_)
                  refine lv_goto (tgt := 2) hx hb dX5_readHeirs_132 (by decide) ?_
                  exact ih2 (i_ + 1) (hst τ_ i_) _ _ _ (by omega) (by omega) (RI_hst hr9 i_) (by rw [hcr, show 5 - i_ = (5 - (i_ + 1)) + 1 from by omega, crr_s, if_pos (by omega), if_neg (by omega)]) (by first | exact hW | (have h2 := hW; unfold hst; first | (rw [if_pos (by omega)]; exact h2) | (rw [if_neg (by omega), if_pos (by omega)]; exact h2) | (rw [if_neg (by omega), if_neg (by omega)]; exact h2))) hS (lv_sub hl [0, 2, 3, 4] rfl)
              · refine lv_aload_n hx hb dX5_readHeirs_44 rfl (lv_at hl 2 rfl) ?_
                refine zi_con hx hb dX5_readHeirs_45 ?_
                refine wz_put (σ' := (up τ_ 2 2 1)) (ty := .int) hx hb hts hown hK hW hS 2 2 tyX5 (by decide) e_2 rfl (by decide) inG5 tyX5_ok nmX5 w_88 ⟨rfl, rfl, Nat.le_of_ble_eq_true rfl⟩ (by decide +kernel) ⟨rfl, rfl⟩ p_2_2 dX5_readHeirs_46 (fun H locs hW hS => ?_)
                refine lv_goto (tgt := 129) hx hb dX5_readHeirs_49 (by decide) ?_
                refine lv_iinc (v := iI (((i_ : Nat) : Int) + 1)) (lv' := [(3, .int (iI (((i_ : Nat) : Int) + 1))), (4, .int (iI (kbs (τ_ 2 5)))), (0, .ref (B + 2)), (1, .ref (B + 24)), (2, .ref (B + 4))]) hx hb dX5_readHeirs_129 hl (k := 1) rfl (iI_add _ _) (by decide) rfl (fun ls hl => ?_)
                refine lv_goto (tgt := 2) hx hb dX5_readHeirs_132 (by decide) ?_
                exact ih2 (i_ + 1) (hst τ_ i_) _ _ _ (by omega) (by omega) (RI_hst hr9 i_) (by rw [hcr, show 5 - i_ = (5 - (i_ + 1)) + 1 from by omega, crr_s, if_pos (by omega), if_neg (by omega)]) (by first | exact hW | (have h2 := hW; unfold hst; first | (rw [if_pos (by omega)]; exact h2) | (rw [if_neg (by omega), if_pos (by omega)]; exact h2) | (rw [if_neg (by omega), if_neg (by omega)]; exact h2))) hS (lv_sub hl [0, 2, 3, 4] rfl)
            · exact hret _ _ _ _ _ dX5_readHeirs_29 hW hS (by rw [hcr, show 5 - i_ = (4 - i_) + 1 from by omega, crr_s, if_pos (by omega), if_pos (by omega)])
  exact L2 _ 0 σ _ _ _ (Nat.lt_succ_self _) (by omega) hri rfl (by exact hW) hS (lv_sub hl [0, 1, 2, 3] rfl)

set_option maxRecDepth 100000 in
set_option maxHeartbeats 4000000 in
theorem c_X5_read (l : Launch) (D : va_G) (cy : Nat → ClassId) (B : Nat) (σ : Sg)  (hri : RI0 (σ)) : CV l yX5_read cX5_read 3 5 109 D cy B [.ref (B + 2), .ref (B + 24), .ref (B + 4)] σ (rdZ (σ)) := by
  refine CV_of (by decide) (Nat.le_of_ble_eq_true rfl) ?_
  intro p e R s m args below meth c Q hx hb hml hown hts hK hRf hRl hW hret ls hl
  have hown : s.vm.findClass "LoveParts$Reader" = some m.cls := hown
  have hS : va_S (AB B) s.heap s.heap [] := va_S.rf
  have hl : lv_has ls 3 [(0, .ref (B + 2)), (1, .ref (B + 24)), (2, .ref (B + 4))] := hl
  refine lv_aload_n hx hb dX5_read_0 rfl (lv_at hl 0 rfl) ?_
  refine zi_con hx hb dX5_read_1 ?_
  refine wz_put (σ' := (up σ 2 2 0)) (ty := .int) hx hb hts hown hK hW hS 2 2 tyX5 (by decide) e_2 rfl (by decide) inG5 tyX5_ok nmX5 w_88 ⟨rfl, rfl, Nat.le_of_ble_eq_true rfl⟩ (by decide +kernel) ⟨rfl, rfl⟩ p_2_2 dX5_read_2 (fun H locs hW hS => ?_)
  refine lv_aload_n hx hb dX5_read_5 rfl (lv_at hl 0 rfl) ?_
  refine zi_con hx hb dX5_read_6 ?_
  refine wz_put (σ' := (up (up σ 2 2 0) 2 4 0)) (ty := .int) hx hb hts hown hK hW hS 2 4 tyX5 (by decide) e_2 rfl (by decide) inG5 tyX5_ok nmX5 w_92 ⟨rfl, rfl, Nat.le_of_ble_eq_true rfl⟩ (by decide +kernel) ⟨rfl, rfl⟩ p_2_4 dX5_read_7 (fun H locs hW hS => ?_)
  refine lv_aload_n hx hb dX5_read_10 rfl (lv_at hl 0 rfl) ?_
  refine k_vv (fr := 5) (lo := 109) (σ' := (cnt ((up (up σ 2 2 0) 2 4 0)))) (As := []) (rest := []) hx hb hml hown hts hK hRf hRl hW hS (c_X5_nextToken l D cy B (up (up σ 2 2 0) 2 4 0)  (show RI ((up (up σ 2 2 0) 2 4 0)) from hri.up)) vX5_nextToken ⟨w_420, w_421⟩ w_419 (by decide) e_2 rfl ⟨Nat.le_of_ble_eq_true rfl, Nat.le_of_ble_eq_true rfl⟩ hl.1 rfl (Nat.le_of_ble_eq_true rfl) ⟨Nat.zero_le _, Nat.zero_le _⟩ dX5_read_11 (fun H locs hW hS => ?_)
  rw [show (cnt ((up (up σ 2 2 0) 2 4 0))) = (rd0 (σ)) from (by rfl)] at hW
  refine lv_aload_n hx hb dX5_read_14 rfl (lv_at hl 1 rfl) ?_
  refine k_vv (fr := 5) (lo := 109) (σ' := (us (rd0 (σ)) 24 (rbk 4 ((rd0 (σ)) 24)))) (As := []) (rest := []) hx hb hml hown hts hK hRf hRl hW hS (c_X6_begin l D cy B (rd0 (σ)) 24 (show isR 24 from isR_24)) vX6_begin ⟨w_431, w_432⟩ w_430 (lt_R isR_24) (e_R isR_24) rfl ⟨Nat.le_of_ble_eq_true rfl, Nat.le_of_ble_eq_true rfl⟩ hl.1 rfl (Nat.le_of_ble_eq_true rfl) ⟨Nat.zero_le _, Nat.zero_le _⟩ dX5_read_15 (fun H locs hW hS => ?_)
  rw [show (us (rd0 (σ)) 24 (rbk 4 ((rd0 (σ)) 24))) = (rdb (σ)) from (by rfl)] at hW
  refine lv_aload_n hx hb dX5_read_18 rfl (lv_at hl 0 rfl) ?_
  refine lv_aload_n hx hb dX5_read_19 rfl (lv_at hl 1 rfl) ?_
  have hr0 : RI (rdb σ) := RI_24 (RI_cnt hri.up)
  refine k_vv (fr := 5) (lo := 109) (σ' := (rl9 ((rdb (σ))))) (As := [.ref (B + 24)]) (rest := []) hx hb hml hown hts hK hRf hRl hW hS (c_X5_readLaw l D cy B (rdb (σ))  (show RI ((rdb (σ))) from (hr0))) vX5_readLaw ⟨w_439, w_440⟩ w_438 (by decide) e_2 rfl ⟨Nat.le_of_ble_eq_true rfl, Nat.le_of_ble_eq_true rfl⟩ hl.1 rfl (Nat.le_of_ble_eq_true rfl) ⟨Nat.zero_le _, Nat.zero_le _⟩ dX5_read_20 (fun H locs hW hS => ?_)
  rw [show (rl9 ((rdb (σ)))) = (rl9 (rdb (σ))) from (by rfl)] at hW
  refine lv_aload_n hx hb dX5_read_23 rfl (lv_at hl 0 rfl) ?_
  refine lv_aload_n hx hb dX5_read_24 rfl (lv_at hl 1 rfl) ?_
  refine lv_aload_n hx hb dX5_read_25 rfl (lv_at hl 2 rfl) ?_
  refine k_vv (fr := 5) (lo := 109) (σ' := (crr 5 0 ((rl9 (rdb (σ)))))) (As := [.ref (B + 24), .ref (B + 4)]) (rest := []) hx hb hml hown hts hK hRf hRl hW hS (c_X5_readHeirs l D cy B (rl9 (rdb (σ)))  (show RI ((rl9 (rdb (σ)))) from (RI_9 hr0))) vX5_readHeirs ⟨w_452, w_453⟩ w_451 (by decide) e_2 rfl ⟨Nat.le_of_ble_eq_true rfl, Nat.le_of_ble_eq_true rfl⟩ hl.1 rfl (Nat.le_of_ble_eq_true rfl) ⟨Nat.zero_le _, Nat.zero_le _⟩ dX5_read_26 (fun H locs hW hS => ?_)
  rw [show (crr 5 0 ((rl9 (rdb (σ))))) = (rdC (σ)) from (by rfl)] at hW
  refine lv_aload_n hx hb dX5_read_29 rfl (lv_at hl 0 rfl) ?_
  refine zi_con hx hb dX5_read_30 ?_
  refine wz_put (σ' := (up (rdC (σ)) 2 1 0)) (ty := .int) hx hb hts hown hK hW hS 2 1 tyX5 (by decide) e_2 rfl (by decide) inG5 tyX5_ok nmX5 w_86 ⟨rfl, rfl, Nat.le_of_ble_eq_true rfl⟩ (by decide +kernel) ⟨rfl, rfl⟩ p_2_1 dX5_read_31 (fun H locs hW hS => ?_)
  exact hret _ _ _ _ _ dX5_read_34 hW hS rfl
