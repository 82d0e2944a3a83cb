
set_option maxRecDepth 100000 in
set_option maxHeartbeats 4000000 in
theorem c_X11_casesOf (l : Launch) (D : va_G) (cy : Nat → ClassId) (B : Nat) (σ : Sg) (s_ : Nat) (p_ : Int) (hok : okV (σ 18)) (h1 : s_ < 16) (hp : 0 ≤ p_ ∧ p_ ≤ 10) : CI l yX11_casesOf cX11_casesOf 6 (some .int) 0 0 D cy B [.ref (B + 0), .int (iI (((s_ : Nat) : Int))), .int (iI (p_))] σ (prq (σ 18) p_ ((s_ : Nat) : Int) (mn (σ 18))) (σ) := by
  refine CI_of (ty := .int) (by decide) (rfl) (Nat.le_of_ble_eq_true rfl) ?_
  intro p e R s m args below meth c Q hx hb hml hown hts hK hRf hRl hW hret ls hl
  have hown : s.vm.findClass "LoveParts" = some m.cls := hown
  have hS : va_S (AB B) s.heap s.heap [] := va_S.rf
  have hl : lv_has ls 6 [(0, .ref (B + 0)), (1, .int (iI (((s_ : Nat) : Int)))), (2, .int (iI (p_)))] := hl
  obtain ⟨o4, o0, o1, o2, o3, o5, o6, o7, oH⟩ := id hok
  refine zi_con hx hb dX11_casesOf_0 ?_
  refine lv_istore_n (lv' := [(3, .int (iI (1))), (0, .ref (B + 0)), (1, .int (iI (((s_ : Nat) : Int)))), (2, .int (iI (p_)))]) hx hb dX11_casesOf_1 rfl hl (by decide) rfl (fun ls hl => ?_)
  refine zi_con hx hb dX11_casesOf_2 ?_
  refine lv_istore (lv' := [(4, .int (iI (0))), (3, .int (iI (1))), (0, .ref (B + 0)), (1, .int (iI (((s_ : Nat) : Int)))), (2, .int (iI (p_)))]) hx hb dX11_casesOf_3 hl (by decide) rfl (fun ls hl => ?_)
  have L5 : ∀ (n5 : Nat) (k_ : Nat) (H : Heap) (locs : List Loc) (ls : Array Slot), 4 - k_ < n5 → ((k_ : Int) ≤ σ 18 4) → wd D cy B σ H → va_S (AB B) s.heap H locs → lv_has ls 6 [(4, .int (iI (((k_ : Nat) : Int)))), (3, .int (iI (prq (σ 18) p_ ((s_ : Nat) : Int) k_))), (0, .ref (B + 0)), (1, .int (iI (((s_ : Nat) : Int)))), (2, .int (iI (p_)))] → W p l e R s m args below meth c H locs 0 0 Q (F0 m 5 ls []) := by
    intro n5
    induction n5 with
    | zero => intro k_ H locs ls hms; omega
    | succ n5 ih5 =>
      intro k_ H locs ls hms5 hk hW hS hl
      refine lv_iload hx hb dX11_casesOf_5 (lv_at hl 0 rfl) ?_
      refine lv_aload_n hx hb dX11_casesOf_7 rfl (lv_at hl 2 rfl) ?_
      refine wz_get hx hb hts hown hK hW 0 4 (by decide) e_0 rfl (by decide) inG11 w_309 rfl rfl dX11_casesOf_8 ?_
      refine wz_get hx hb hts hown hK hW 18 1 (lt_R isR_18) (e_R isR_18) rfl (by decide) inG6 w_249 rfl rfl dX11_casesOf_11 ?_
      refine zi_cge (tgt := 82) hx hb dX11_casesOf_14 (by decide) (by omega) (by omega) (fun c14 => ?_) (fun c14 => ?_)
      · have hk7 : k_ = mn (σ 18) := by unfold mn; omega
        refine lv_iload_n hx hb dX11_casesOf_82 rfl (lv_at hl 1 rfl) ?_
        exact hret _ _ _ _ _ _ dX11_casesOf_83 hW hS ⟨by rw [← hk7], rfl⟩
      · have hk20 := (oH k_ (by omega)).2.2.2.1
        refine lv_iload_n hx hb dX11_casesOf_17 rfl (lv_at hl 3 rfl) ?_
        refine lv_iload hx hb dX11_casesOf_18 (lv_at hl 0 rfl) ?_
        refine lv_ishr hx hb dX11_casesOf_20 ?_
        refine zi_con hx hb dX11_casesOf_21 ?_
        refine lv_iand hx hb dX11_casesOf_22 ?_
        refine zi_toi (hs_row h1 (by omega : k_ < 4)) ?_
        refine zi_con hx hb dX11_casesOf_23 ?_
        have J32 : ∀ (x_ : Int) (H : Heap) (locs : List Loc) (ls : Array Slot), ((x_ = 1 ∧ hs ((s_ : Nat) : Int) k_ = true) ∨ (x_ = 0 ∧ ¬ hs ((s_ : Nat) : Int) k_ = true)) → wd D cy B σ H → va_S (AB B) s.heap H locs → lv_has ls 6 [(4, .int (iI (((k_ : Nat) : Int)))), (3, .int (iI (prq (σ 18) p_ ((s_ : Nat) : Int) k_))), (0, .ref (B + 0)), (1, .int (iI (((s_ : Nat) : Int)))), (2, .int (iI (p_)))] → W p l e R s m args below meth c H locs 0 0 Q (F0 m 32 ls [.int (iI (x_))]) := by
          intro x_ H locs ls hx3 hW hS hl
          refine lv_istore (lv' := [(5, .int (iI (x_))), (4, .int (iI (((k_ : Nat) : Int)))), (3, .int (iI (prq (σ 18) p_ ((s_ : Nat) : Int) k_))), (0, .ref (B + 0)), (1, .int (iI (((s_ : Nat) : Int)))), (2, .int (iI (p_)))]) hx hb dX11_casesOf_32 hl (by decide) rfl (fun ls hl => ?_)
          refine lv_aload_n hx hb dX11_casesOf_34 rfl (lv_at hl 3 rfl) ?_
          refine wz_get hx hb hts hown hK hW 0 4 (by decide) e_0 rfl (by decide) inG11 w_309 rfl rfl dX11_casesOf_35 ?_
          refine wz_get hx hb hts hown hK hW 18 0 (lt_R isR_18) (e_R isR_18) rfl (by decide) inG6 w_246 rfl rfl dX11_casesOf_38 ?_
          refine lv_iload hx hb dX11_casesOf_41 (lv_at hl 1 rfl) ?_
          refine wz_ara hx hb hK hW (18 + 1) k_ 2 (lt_Ra isR_18) (e_Ra isR_18) rfl (by omega) (by omega) (by decide) rfl dX11_casesOf_43 ?_
          refine wz_get hx hb hts hown hK hW (18 + 2 + k_) 4 (lt_H isR_18 (by omega)) (e_H isR_18 (by omega)) rfl (by decide) inG0 w_203 rfl rfl dX11_casesOf_44 ?_
          refine zi_eq (tgt := 69) hx hb dX11_casesOf_47 (by decide) (by omega) (fun c47 => ?_) (fun c47 => ?_)
          · refine lv_iload hx hb dX11_casesOf_69 (lv_at hl 0 rfl) ?_
            refine zi_eq (tgt := 76) hx hb dX11_casesOf_71 (by decide) (by omega) (fun c71 => ?_) (fun c71 => ?_)
            · have hns : ¬ hs ((s_ : Nat) : Int) k_ = true := by rcases hx3 with h | h; (· omega); (· exact h.2)
              refine lv_iinc (v := iI (((k_ : Nat) : Int) + 1)) (lv' := [(4, .int (iI (((k_ : Nat) : Int) + 1))), (5, .int (iI (x_))), (3, .int (iI (prq (σ 18) p_ ((s_ : Nat) : Int) k_))), (0, .ref (B + 0)), (1, .int (iI (((s_ : Nat) : Int)))), (2, .int (iI (p_)))]) hx hb dX11_casesOf_76 hl (k := 1) rfl (iI_add _ _) (by decide) rfl (fun ls hl => ?_)
              refine lv_goto (tgt := 5) hx hb dX11_casesOf_79 (by decide) ?_
              have e3 : prq (σ 18) p_ ((s_ : Nat) : Int) (k_ + 1) = prq (σ 18) p_ ((s_ : Nat) : Int) k_ * pq (σ 18) p_ ((s_ : Nat) : Int) k_ := rfl
              first | (rw [show pq (σ 18) p_ ((s_ : Nat) : Int) k_ = 10 - p_ from by unfold pq; rw [if_pos (by assumption), if_pos (by omega)]] at e3) | (rw [show pq (σ 18) p_ ((s_ : Nat) : Int) k_ = p_ from by unfold pq; rw [if_neg (by assumption), if_pos (by omega)]] at e3) | (rw [show pq (σ 18) p_ ((s_ : Nat) : Int) k_ = 1 from by unfold pq; rw [if_neg (by assumption), if_neg (by omega)], Int.mul_one] at e3)
              exact ih5 (k_ + 1) _ _ _ (by omega) (by omega) hW hS (lv_sub hl [0, 2, 3, 4, 5] (by rw [e3]; rfl))
            · have hys : hs ((s_ : Nat) : Int) k_ = true := by rcases hx3 with h | h; (· exact h.2); (· omega)
              refine zi_con hx hb dX11_casesOf_74 ?_
              exact hret _ _ _ _ _ _ dX11_casesOf_75 hW hS ⟨by rw [prq_zero (k := k_) (by unfold mn; omega) (by unfold pq; rw [if_pos hys, if_neg (by omega)])], rfl⟩
          · refine lv_iload_n hx hb dX11_casesOf_50 rfl (lv_at hl 2 rfl) ?_
            refine lv_iload hx hb dX11_casesOf_51 (lv_at hl 0 rfl) ?_
            refine zi_eq (tgt := 63) hx hb dX11_casesOf_53 (by decide) (by omega) (fun c53 => ?_) (fun c53 => ?_)
            · have hns : ¬ hs ((s_ : Nat) : Int) k_ = true := by rcases hx3 with h | h; (· omega); (· exact h.2)
              refine lv_iload_n hx hb dX11_casesOf_63 rfl (lv_at hl 5 rfl) ?_
              refine zi_mul hx hb dX11_casesOf_64 ?_
              refine lv_istore_n (lv' := [(3, .int (iI ((prq (σ 18) p_ ((s_ : Nat) : Int) k_) * p_))), (5, .int (iI (x_))), (4, .int (iI (((k_ : Nat) : Int)))), (0, .ref (B + 0)), (1, .int (iI (((s_ : Nat) : Int)))), (2, .int (iI (p_)))]) hx hb dX11_casesOf_65 rfl hl (by decide) rfl (fun ls hl => ?_)
              refine lv_goto (tgt := 76) hx hb dX11_casesOf_66 (by decide) ?_
              refine lv_iinc (v := iI (((k_ : Nat) : Int) + 1)) (lv' := [(4, .int (iI (((k_ : Nat) : Int) + 1))), (3, .int (iI ((prq (σ 18) p_ ((s_ : Nat) : Int) k_) * p_))), (5, .int (iI (x_))), (0, .ref (B + 0)), (1, .int (iI (((s_ : Nat) : Int)))), (2, .int (iI (p_)))]) hx hb dX11_casesOf_76 hl (k := 2) rfl (iI_add _ _) (by decide) rfl (fun ls hl => ?_)
              refine lv_goto (tgt := 5) hx hb dX11_casesOf_79 (by decide) ?_
              have e3 : prq (σ 18) p_ ((s_ : Nat) : Int) (k_ + 1) = prq (σ 18) p_ ((s_ : Nat) : Int) k_ * pq (σ 18) p_ ((s_ : Nat) : Int) k_ := rfl
              first | (rw [show pq (σ 18) p_ ((s_ : Nat) : Int) k_ = 10 - p_ from by unfold pq; rw [if_pos (by assumption), if_pos (by omega)]] at e3) | (rw [show pq (σ 18) p_ ((s_ : Nat) : Int) k_ = p_ from by unfold pq; rw [if_neg (by assumption), if_pos (by omega)]] at e3) | (rw [show pq (σ 18) p_ ((s_ : Nat) : Int) k_ = 1 from by unfold pq; rw [if_neg (by assumption), if_neg (by omega)], Int.mul_one] at e3)
              exact ih5 (k_ + 1) _ _ _ (by omega) (by omega) hW hS (lv_sub hl [0, 1, 3, 4, 5] (by rw [e3]; rfl))
            · have hys : hs ((s_ : Nat) : Int) k_ = true := by rcases hx3 with h | h; (· exact h.2); (· omega)
              refine zi_bip hx hb dX11_casesOf_56 (by decide) ?_
              refine lv_iload_n hx hb dX11_casesOf_58 rfl (lv_at hl 5 rfl) ?_
              refine zi_sub hx hb dX11_casesOf_59 ?_
              refine lv_goto (tgt := 64) hx hb dX11_casesOf_60 (by decide) ?_
              refine zi_mul hx hb dX11_casesOf_64 ?_
              refine lv_istore_n (lv' := [(3, .int (iI ((prq (σ 18) p_ ((s_ : Nat) : Int) k_) * (10 - p_)))), (5, .int (iI (x_))), (4, .int (iI (((k_ : Nat) : Int)))), (0, .ref (B + 0)), (1, .int (iI (((s_ : Nat) : Int)))), (2, .int (iI (p_)))]) hx hb dX11_casesOf_65 rfl hl (by decide) rfl (fun ls hl => ?_)
              refine lv_goto (tgt := 76) hx hb dX11_casesOf_66 (by decide) ?_
              refine lv_iinc (v := iI (((k_ : Nat) : Int) + 1)) (lv' := [(4, .int (iI (((k_ : Nat) : Int) + 1))), (3, .int (iI ((prq (σ 18) p_ ((s_ : Nat) : Int) k_) * (10 - p_)))), (5, .int (iI (x_))), (0, .ref (B + 0)), (1, .int (iI (((s_ : Nat) : Int)))), (2, .int (iI (p_)))]) hx hb dX11_casesOf_76 hl (k := 2) rfl (iI_add _ _) (by decide) rfl (fun ls hl => ?_)
              refine lv_goto (tgt := 5) hx hb dX11_casesOf_79 (by decide) ?_
              have e3 : prq (σ 18) p_ ((s_ : Nat) : Int) (k_ + 1) = prq (σ 18) p_ ((s_ : Nat) : Int) k_ * pq (σ 18) p_ ((s_ : Nat) : Int) k_ := rfl
              first | (rw [show pq (σ 18) p_ ((s_ : Nat) : Int) k_ = 10 - p_ from by unfold pq; rw [if_pos (by assumption), if_pos (by omega)]] at e3) | (rw [show pq (σ 18) p_ ((s_ : Nat) : Int) k_ = p_ from by unfold pq; rw [if_neg (by assumption), if_pos (by omega)]] at e3) | (rw [show pq (σ 18) p_ ((s_ : Nat) : Int) k_ = 1 from by unfold pq; rw [if_neg (by assumption), if_neg (by omega)], Int.mul_one] at e3)
              exact ih5 (k_ + 1) _ _ _ (by omega) (by omega) hW hS (lv_sub hl [0, 1, 3, 4, 5] (by rw [e3]; rfl))
        refine zi_cne (tgt := 31) hx hb dX11_casesOf_24 (by decide) (by omega) (by omega) (fun c24 => ?_) (fun c24 => ?_)
        · refine zi_con hx hb dX11_casesOf_31 ?_
          exact J32 0 _ _ _ (by first | exact Or.inl ⟨rfl, decide_eq_true (by omega)⟩ | exact Or.inr ⟨rfl, fun h9 => absurd (of_decide_eq_true h9) (by omega)⟩) hW hS (lv_sub hl [0, 1, 2, 3, 4] rfl)
        · refine zi_con hx hb dX11_casesOf_27 ?_
          refine lv_goto (tgt := 32) hx hb dX11_casesOf_28 (by decide) ?_
          exact J32 1 _ _ _ (by first | exact Or.inl ⟨rfl, decide_eq_true (by omega)⟩ | exact Or.inr ⟨rfl, fun h9 => absurd (of_decide_eq_true h9) (by omega)⟩) hW hS (lv_sub hl [0, 1, 2, 3, 4] rfl)
  exact L5 _ 0 _ _ _ (Nat.lt_succ_self _) (by omega) hW hS (lv_sub hl [0, 1, 2, 3, 4] rfl)

set_option maxRecDepth 100000 in
set_option maxHeartbeats 4000000 in
theorem c_X11_greatestWithLiars (l : Launch) (D : va_G) (cy : Nat → ClassId) (B : Nat) (σ : Sg) (s_ : Nat) (hok : okV (σ 18)) (h1 : s_ < 16) : CIe l yX11_greatestWithLiars cX11_greatestWithLiars 3 (some .int) 5 111 D cy B [.ref (B + 0), .int (iI (((s_ : Nat) : Int)))] σ (((gst (σ 18) ((s_ : Nat) : Int) : Nat) : Int)) (fun u => ∃ (T_ : Nat → Int) (S_ : Nat → Int), u = us (us σ 24 T_) 10 S_) := by
  refine CIe_of (ty := .int) (by decide) (rfl) (Nat.le_of_ble_eq_true rfl) ?_
  intro p e R s m args below meth c Q hx hb hml hown hts hK hRf hRl hW hret ls hl
  have hown : s.vm.findClass "LoveParts" = some m.cls := hown
  have hS : va_S (AB B) s.heap s.heap [] := va_S.rf
  have hl : lv_has ls 3 [(0, .ref (B + 0)), (1, .int (iI (((s_ : Nat) : Int))))] := hl
  obtain ⟨o4, o0, o1, o2, o3, o5, o6, o7, oH⟩ := id hok
  have hq : eqR (tkN (σ 24) (σ 18) (mn (σ 18))) (σ 18) := eqR_tk _ o4
  have hkt := eqR_okV hq hok
  have e5 : tkN (σ 24) (σ 18) (mn (σ 18)) 5 = σ 18 5 := rfl
  have e4 : tkN (σ 24) (σ 18) (mn (σ 18)) 4 = σ 18 4 := rfl
  have hmn : ((mn (σ 18) : Nat) : Int) = σ 18 4 := by unfold mn; omega
  refine lv_aload_n hx hb dX11_greatestWithLiars_0 rfl (lv_at hl 0 rfl) ?_
  refine wz_get hx hb hts hown hK hW 0 5 (by decide) e_0 rfl (by decide) inG11 w_310 rfl rfl dX11_greatestWithLiars_1 ?_
  refine lv_aload_n hx hb dX11_greatestWithLiars_4 rfl (lv_at hl 0 rfl) ?_
  refine wz_get hx hb hts hown hK hW 0 4 (by decide) e_0 rfl (by decide) inG11 w_309 rfl rfl dX11_greatestWithLiars_5 ?_
  refine k_vv (fr := 5) (lo := 111) (σ' := (us σ 24 (tkN (σ 24) (σ 18) (mn (σ 18))))) (As := [.ref (B + 18)]) (rest := []) hx hb hml hown hts hK hRf hRl hW hS (c_X6_take l D cy B σ 24 18 (show isR 24 from isR_24) (show isR 18 from isR_18) (show 24 ≠ 18 from (by decide)) (show 0 ≤ σ 18 4 ∧ σ 18 4 ≤ 4 from (by omega)) (show σ 18 7 = 0 ∨ σ 18 7 = 1 from o7) (show ∀ h : Nat, (h : Int) < σ 18 4 → σ 18 (20 + h) = 0 ∨ σ 18 (20 + h) = 1 from (fun h hh => (oH h hh).2.2.2.1))) vX6_take ⟨w_460, w_461⟩ w_459 (lt_R isR_24) (e_R isR_24) rfl ⟨Nat.le_of_ble_eq_true rfl, Nat.le_of_ble_eq_true rfl⟩ hl.1 rfl (Nat.le_of_ble_eq_true rfl) ⟨Nat.zero_le _, Nat.zero_le _⟩ dX11_greatestWithLiars_8 (fun H locs hW hS => ?_)
  refine zi_con hx hb dX11_greatestWithLiars_11 ?_
  refine lv_istore_n (lv' := [(2, .int (iI (0))), (0, .ref (B + 0)), (1, .int (iI (((s_ : Nat) : Int))))]) hx hb dX11_greatestWithLiars_12 rfl hl (by decide) rfl (fun ls hl => ?_)
  have L13 : ∀ (n13 : Nat) (k_ : Nat) (T_ : Nat → Int) (H : Heap) (locs : List Loc) (ls : Array Slot), 4 - k_ < n13 → ((k_ : Int) ≤ σ 18 4) → (eqR T_ (lie (σ 18) ((s_ : Nat) : Int) k_)) → wd D cy B (us σ 24 T_) H → va_S (AB B) s.heap H locs → lv_has ls 3 [(2, .int (iI (((k_ : Nat) : Int)))), (0, .ref (B + 0)), (1, .int (iI (((s_ : Nat) : Int))))] → W p l e R s m args below meth c H locs 0 0 Q (F0 m 13 ls []) := by
    intro n13
    induction n13 with
    | zero => intro k_ T_ H locs ls hms; omega
    | succ n13 ih13 =>
      intro k_ T_ H locs ls hms13 hk hT hW hS hl
      have hli := okV_lie hok ((s_ : Nat) : Int) (n := k_) hk
      have hlT := eqR_okV hT hli.1
      have e4T : T_ 4 = σ 18 4 := by rw [eqR_hd hT 4 (by omega), lie_at, if_neg (by omega)]
      have hmT : mn T_ = mn (σ 18) := by show (T_ 4).toNat = (σ 18 4).toNat; rw [e4T]
      refine lv_iload_n hx hb dX11_greatestWithLiars_13 rfl (lv_at hl 0 rfl) ?_
      refine lv_aload_n hx hb dX11_greatestWithLiars_14 rfl (lv_at hl 1 rfl) ?_
      refine wz_get hx hb hts hown hK hW 0 4 (by decide) e_0 rfl (by decide) inG11 w_309 rfl rfl dX11_greatestWithLiars_15 ?_
      refine wz_get hx hb hts hown hK hW 18 1 (lt_R isR_18) (e_R isR_18) rfl (by decide) inG6 w_249 rfl rfl dX11_greatestWithLiars_18 ?_
      refine zi_top (y := σ 18 4) (by (first | rfl | (simp [us, uf, nS] <;> omega))) ?_
      refine zi_cge (tgt := 52) hx hb dX11_greatestWithLiars_21 (by decide) (by omega) (by omega) (fun c21 => ?_) (fun c21 => ?_)
      · have hk7 : k_ = mn (σ 18) := by omega
        refine lv_aload_n hx hb dX11_greatestWithLiars_52 rfl (lv_at hl 1 rfl) ?_
        refine wz_get hx hb hts hown hK hW 0 5 (by decide) e_0 rfl (by decide) inG11 w_310 rfl rfl dX11_greatestWithLiars_53 ?_
        refine lv_aload_n hx hb dX11_greatestWithLiars_56 rfl (lv_at hl 1 rfl) ?_
        refine wz_get hx hb hts hown hK hW 0 5 (by decide) e_0 rfl (by decide) inG11 w_310 rfl rfl dX11_greatestWithLiars_57 ?_
        refine wz_get hx hb hts hown hK hW 24 5 (lt_R isR_24) (e_R isR_24) rfl (by decide) inG6 w_261 rfl rfl dX11_greatestWithLiars_60 ?_
        refine zi_top (y := σ 18 3) (by rw [us_eq, eqR_hd hT 3 (by omega), lie_at, if_neg (by omega)]) ?_
        refine lv_aload_n hx hb dX11_greatestWithLiars_63 rfl (lv_at hl 1 rfl) ?_
        refine wz_get hx hb hts hown hK hW 0 11 (by decide) e_0 rfl (by decide) inG11 w_316 rfl rfl dX11_greatestWithLiars_64 ?_
        refine k_vv (fr := 5) (lo := 111) (σ' := (us (us σ 24 T_) 10 (cpy (mn ((us σ 24 T_) 24)) (shr ((us σ 24 T_) 24) (σ 18 3)) (σ 10)))) (As := [.int (iI (σ 18 3)), .ref (B + 10)]) (rest := []) hx hb hml hown hts hK hRf hRl hW hS (c_X6_divide l D cy B (us σ 24 T_) 24 (σ 18 3) (show isR 24 from isR_24) (show okV ((us σ 24 T_) 24) from (by rw [us_eq]; exact hlT)) (show 0 ≤ (σ 18 3) ∧ (σ 18 3) ≤ 3 from o3)) vX6_divide ⟨w_531, w_532⟩ w_530 (lt_R isR_24) (e_R isR_24) rfl ⟨Nat.le_of_ble_eq_true rfl, Nat.le_of_ble_eq_true rfl⟩ hl.1 rfl (Nat.le_of_ble_eq_true rfl) ⟨Nat.zero_le _, Nat.zero_le _⟩ dX11_greatestWithLiars_67 (fun H locs hW hS => ?_)
        rw [show (us (us σ 24 T_) 10 (cpy (mn ((us σ 24 T_) 24)) (shr ((us σ 24 T_) 24) (σ 18 3)) (σ 10))) = us (us σ 24 T_) 10 (cpy (mn (σ 18)) (shr T_ (σ 18 3)) (σ 10)) from (by rw [us_eq, hmT])] at hW
        refine lv_aload_n hx hb dX11_greatestWithLiars_70 rfl (lv_at hl 1 rfl) ?_
        refine wz_get hx hb hts hown hK hW 0 11 (by decide) e_0 rfl (by decide) inG11 w_316 rfl rfl dX11_greatestWithLiars_71 ?_
        refine lv_aload_n hx hb dX11_greatestWithLiars_74 rfl (lv_at hl 1 rfl) ?_
        refine wz_get hx hb hts hown hK hW 0 4 (by decide) e_0 rfl (by decide) inG11 w_309 rfl rfl dX11_greatestWithLiars_75 ?_
        refine wz_get hx hb hts hown hK hW 18 1 (lt_R isR_18) (e_R isR_18) rfl (by decide) inG6 w_249 rfl rfl dX11_greatestWithLiars_78 ?_
        refine zi_top (y := σ 18 4) (by (first | rfl | (simp [us, uf, nS] <;> omega))) ?_
        refine zi_top (y := ((mn (σ 18) : Nat) : Int)) (by omega) ?_
        refine k_si (fr := 5) (lo := 111) (r := ((fg ((us (us σ 24 T_) 10 (cpy (mn (σ 18)) (shr T_ (σ 18 3)) (σ 10))) 10) (mn (σ 18)) : Nat) : Int)) (As := [.ref (B + 10), .int (iI (((mn (σ 18) : Nat) : Int)))]) (rest := []) hx hb hml hown hts hK hRf hRl hW hS (c_X11_firstGreatest l D cy B (us (us σ 24 T_) 10 (cpy (mn (σ 18)) (shr T_ (σ 18 3)) (σ 10))) 10 (mn (σ 18)) (show 10 = 9 ∨ 10 = 10 from (by omega)) (show 1 ≤ (mn (σ 18)) ∧ (mn (σ 18)) ≤ 4 from (by omega)) (show ∀ k, k < (mn (σ 18)) → -2147483648 ≤ (us (us σ 24 T_) 10 (cpy (mn (σ 18)) (shr T_ (σ 18 3)) (σ 10))) 10 k ∧ (us (us σ 24 T_) 10 (cpy (mn (σ 18)) (shr T_ (σ 18 3)) (σ 10))) 10 k < 2147483648 from (fun k hk => by rw [us_eq]; unfold cpy; rw [if_pos hk]; have hs1 := shr_bd hlT (σ 18 3) (h := k) (by omega); omega))) vX11_firstGreatest w_551 w_553 ⟨Nat.le_of_ble_eq_true rfl, Nat.le_of_ble_eq_true rfl⟩ hl.1 rfl (Nat.le_of_ble_eq_true rfl) ⟨Nat.zero_le _, Nat.zero_le _⟩ dX11_greatestWithLiars_81 (fun H locs hW hS => ?_)
        refine zi_top (y := ((gst (σ 18) ((s_ : Nat) : Int) : Nat) : Int)) (by (rw [us_eq]; unfold gst; rw [fg_congr (g := (cpy (mn (σ 18)) (shr T_ (σ 18 3)) (σ 10))) (g' := shr (lie (σ 18) ((s_ : Nat) : Int) (mn (σ 18))) (σ 18 3)) (fun j hj => by unfold cpy; rw [if_pos hj, ← hk7]; exact eqR_shr hT (by omega) _ (by omega))])) ?_
        exact hret _ _ _ _ _ _ dX11_greatestWithLiars_84 hW hS ⟨rfl, _, _, rfl⟩
      · refine lv_iload_n hx hb dX11_greatestWithLiars_24 rfl (lv_at hl 2 rfl) ?_
        refine lv_iload_n hx hb dX11_greatestWithLiars_25 rfl (lv_at hl 0 rfl) ?_
        refine lv_ishr hx hb dX11_greatestWithLiars_26 ?_
        refine zi_con hx hb dX11_greatestWithLiars_27 ?_
        refine lv_iand hx hb dX11_greatestWithLiars_28 ?_
        refine zi_toi (hs_row h1 (by omega : k_ < 4)) ?_
        refine zi_con hx hb dX11_greatestWithLiars_29 ?_
        refine zi_cne (tgt := 46) hx hb dX11_greatestWithLiars_30 (by decide) (by omega) (by omega) (fun c30 => ?_) (fun c30 => ?_)
        · have hns : ¬ hs ((s_ : Nat) : Int) k_ = true := fun h9 => absurd (of_decide_eq_true h9) (by omega)
          refine lv_iinc (v := iI (((k_ : Nat) : Int) + 1)) (lv' := [(2, .int (iI (((k_ : Nat) : Int) + 1))), (0, .ref (B + 0)), (1, .int (iI (((s_ : Nat) : Int))))]) hx hb dX11_greatestWithLiars_46 hl (k := 0) rfl (iI_add _ _) (by decide) rfl (fun ls hl => ?_)
          refine lv_goto (tgt := 13) hx hb dX11_greatestWithLiars_49 (by decide) ?_
          exact ih13 (k_ + 1) T_ _ _ _ (by omega) (by omega) (by first | (rw [lie_s _ _ (by assumption)]; exact hT) | (rw [lie_t _ _ (by assumption)]; exact eqR_uf hT (by omega) 0)) (by first | exact hW | (have h2 := hW; unfold up at h2; rw [us_us, us_eq] at h2; exact h2)) hS (lv_sub hl [0, 1, 2] rfl)
        · have hys : hs ((s_ : Nat) : Int) k_ = true := decide_eq_true (by omega)
          refine lv_aload_n hx hb dX11_greatestWithLiars_33 rfl (lv_at hl 1 rfl) ?_
          refine wz_get hx hb hts hown hK hW 0 5 (by decide) e_0 rfl (by decide) inG11 w_310 rfl rfl dX11_greatestWithLiars_34 ?_
          refine wz_get hx hb hts hown hK hW 24 0 (lt_R isR_24) (e_R isR_24) rfl (by decide) inG6 w_246 rfl rfl dX11_greatestWithLiars_37 ?_
          refine lv_iload_n hx hb dX11_greatestWithLiars_40 rfl (lv_at hl 0 rfl) ?_
          refine wz_ara hx hb hK hW (24 + 1) k_ 2 (lt_Ra isR_24) (e_Ra isR_24) rfl (by omega) (by omega) (by decide) rfl dX11_greatestWithLiars_41 ?_
          refine zi_con hx hb dX11_greatestWithLiars_42 ?_
          refine wz_put (σ' := (up (us σ 24 T_) 24 (24 + k_) 0)) (ty := .int) hx hb hts hown hK hW hS (24 + 2 + k_) 5 tyX0 (lt_H isR_24 (by omega)) (e_H isR_24 (by omega)) rfl (by decide) inG0 tyX0_ok nmX0 w_206 ⟨rfl, rfl, Nat.le_of_ble_eq_true rfl⟩ (by decide +kernel) ⟨rfl, rfl⟩ (p_H_5 isR_24 (by omega)) dX11_greatestWithLiars_43 (fun H locs hW hS => ?_)
          refine lv_iinc (v := iI (((k_ : Nat) : Int) + 1)) (lv' := [(2, .int (iI (((k_ : Nat) : Int) + 1))), (0, .ref (B + 0)), (1, .int (iI (((s_ : Nat) : Int))))]) hx hb dX11_greatestWithLiars_46 hl (k := 0) rfl (iI_add _ _) (by decide) rfl (fun ls hl => ?_)
          refine lv_goto (tgt := 13) hx hb dX11_greatestWithLiars_49 (by decide) ?_
          exact ih13 (k_ + 1) (uf T_ (24 + k_) 0) _ _ _ (by omega) (by omega) (by first | (rw [lie_s _ _ (by assumption)]; exact hT) | (rw [lie_t _ _ (by assumption)]; exact eqR_uf hT (by omega) 0)) (by first | exact hW | (have h2 := hW; unfold up at h2; rw [us_us, us_eq] at h2; exact h2)) hS (lv_sub hl [0, 1, 2] rfl)
  exact L13 _ 0 (tkN (σ 24) (σ 18) (mn (σ 18))) _ _ _ (Nat.lt_succ_self _) (by omega) hq (by exact hW) hS (lv_sub hl [0, 1, 2] rfl)

set_option maxRecDepth 100000 in
set_option maxHeartbeats 4000000 in
theorem c_X11_commonDivisor (l : Launch) (D : va_G) (cy : Nat → ClassId) (B : Nat) (σ : Sg) (a_ : Int) (b_ : Int) (ha : 0 ≤ a_ ∧ a_ ≤ 1000000) (hb9 : 0 ≤ b_ ∧ b_ ≤ 1000000) : CL l yX11_commonDivisor cX11_commonDivisor 11 0 0 D cy B [.long (lI (a_)), .long (lI (b_))] σ (ev 100 a_ b_) (σ) := by
  refine CL_of (by decide) (Nat.le_of_ble_eq_true rfl) ?_
  intro p e R s m args below meth c Q hx hb hml hown hts hK hRf hRl hW hret ls hl
  have hown : s.vm.findClass "LoveParts" = some m.cls := hown
  have hS : va_S (AB B) s.heap s.heap [] := va_S.rf
  have hl : lv_has ls 11 [(0, .long (lI (a_))), (2, .long (lI (b_)))] := hl
  refine lv_lload_n hx hb dX11_commonDivisor_0 rfl (lv_at hl 0 rfl) ?_
  refine lv_lstore (lv' := [(4, .long (lI (a_))), (0, .long (lI (a_))), (2, .long (lI (b_)))]) hx hb dX11_commonDivisor_1 hl (by decide) rfl (fun ls hl => ?_)
  refine lv_lload_n hx hb dX11_commonDivisor_3 rfl (lv_at hl 2 rfl) ?_
  refine lv_lstore (lv' := [(6, .long (lI (b_))), (4, .long (lI (a_))), (0, .long (lI (a_))), (2, .long (lI (b_)))]) hx hb dX11_commonDivisor_4 hl (by decide) rfl (fun ls hl => ?_)
  refine zi_con hx hb dX11_commonDivisor_6 ?_
  refine lv_istore (lv' := [(8, .int (iI (0))), (6, .long (lI (b_))), (4, .long (lI (a_))), (0, .long (lI (a_))), (2, .long (lI (b_)))]) hx hb dX11_commonDivisor_7 hl (by decide) rfl (fun ls hl => ?_)
  have L9 : ∀ (n9 : Nat) (k_ : Nat) (g_ : Int) (l_ : Int) (H : Heap) (locs : List Loc) (ls : Array Slot), 100 - k_ < n9 → (k_ ≤ 100) → (0 ≤ g_ ∧ g_ ≤ 1000000) → (0 ≤ l_ ∧ l_ ≤ 1000000) → (ev 100 a_ b_ = ev (100 - k_) g_ l_) → wd D cy B σ H → va_S (AB B) s.heap H locs → lv_has ls 11 [(8, .int (iI (((k_ : Nat) : Int)))), (6, .long (lI (l_))), (4, .long (lI (g_))), (0, .long (lI (a_))), (2, .long (lI (b_)))] → W p l e R s m args below meth c H locs 0 0 Q (F0 m 9 ls []) := by
    intro n9
    induction n9 with
    | zero => intro k_ g_ l_ H locs ls hms; omega
    | succ n9 ih9 =>
      intro k_ g_ l_ H locs ls hms9 hk hg hlb he hW hS hl
      refine lv_iload hx hb dX11_commonDivisor_9 (lv_at hl 0 rfl) ?_
      refine zi_bip hx hb dX11_commonDivisor_11 (by decide) ?_
      refine zi_cge (tgt := 44) hx hb dX11_commonDivisor_13 (by decide) (by omega) (by omega) (fun c13 => ?_) (fun c13 => ?_)
      · refine lv_lload hx hb dX11_commonDivisor_44 (lv_at hl 2 rfl) ?_
        exact hret _ _ _ _ _ _ dX11_commonDivisor_46 hW hS ⟨by rw [he]; first | (rw [show 100 - k_ = 0 from by omega]; rfl) | (rw [show 100 - k_ = (99 - k_) + 1 from by omega, ev_s, if_pos (by omega)]), rfl⟩
      · refine lv_lload hx hb dX11_commonDivisor_16 (lv_at hl 1 rfl) ?_
        refine zi_lcon (z := 0) hx hb dX11_commonDivisor_18 (by decide) ?_
        refine zi_lcmp hx hb dX11_commonDivisor_19 (by omega) (by omega) ?_
        refine zi_eq (tgt := 44) hx hb dX11_commonDivisor_20 (by decide) (sg_bd _ _) (fun c20 => ?_) (fun c20 => ?_)
        · rw [sg_eq] at c20
          refine lv_lload hx hb dX11_commonDivisor_44 (lv_at hl 2 rfl) ?_
          exact hret _ _ _ _ _ _ dX11_commonDivisor_46 hW hS ⟨by rw [he]; first | (rw [show 100 - k_ = 0 from by omega]; rfl) | (rw [show 100 - k_ = (99 - k_) + 1 from by omega, ev_s, if_pos (by omega)]), rfl⟩
        · rw [sg_eq] at c20
          refine lv_lload hx hb dX11_commonDivisor_23 (lv_at hl 2 rfl) ?_
          refine lv_lload hx hb dX11_commonDivisor_25 (lv_at hl 1 rfl) ?_
          refine zi_lrem hx hb dX11_commonDivisor_27 (by omega) (by omega) ?_
          refine lv_lstore (lv' := [(9, .long (lI (g_ % l_))), (8, .int (iI (((k_ : Nat) : Int)))), (6, .long (lI (l_))), (4, .long (lI (g_))), (0, .long (lI (a_))), (2, .long (lI (b_)))]) hx hb dX11_commonDivisor_28 hl (by decide) rfl (fun ls hl => ?_)
          refine lv_lload hx hb dX11_commonDivisor_30 (lv_at hl 2 rfl) ?_
          refine lv_lstore (lv' := [(4, .long (lI (l_))), (9, .long (lI (g_ % l_))), (8, .int (iI (((k_ : Nat) : Int)))), (6, .long (lI (l_))), (0, .long (lI (a_))), (2, .long (lI (b_)))]) hx hb dX11_commonDivisor_32 hl (by decide) rfl (fun ls hl => ?_)
          refine lv_lload hx hb dX11_commonDivisor_34 (lv_at hl 1 rfl) ?_
          refine lv_lstore (lv' := [(6, .long (lI (g_ % l_))), (4, .long (lI (l_))), (9, .long (lI (g_ % l_))), (8, .int (iI (((k_ : Nat) : Int)))), (0, .long (lI (a_))), (2, .long (lI (b_)))]) hx hb dX11_commonDivisor_36 hl (by decide) rfl (fun ls hl => ?_)
          refine lv_iinc (v := iI (((k_ : Nat) : Int) + 1)) (lv' := [(8, .int (iI (((k_ : Nat) : Int) + 1))), (6, .long (lI (g_ % l_))), (4, .long (lI (l_))), (9, .long (lI (g_ % l_))), (0, .long (lI (a_))), (2, .long (lI (b_)))]) hx hb dX11_commonDivisor_38 hl (k := 3) rfl (iI_add _ _) (by decide) rfl (fun ls hl => ?_)
          refine lv_goto (tgt := 9) hx hb dX11_commonDivisor_41 (by decide) ?_
          exact ih9 (k_ + 1) l_ (g_ % l_) _ _ _ (by omega) (by omega) (by omega) (by have q1 := Int.emod_nonneg g_ (b := l_) (by omega); have q2 := Int.emod_lt_of_pos g_ (b := l_) (by omega); omega) (by rw [he, show 100 - k_ = (100 - (k_ + 1)) + 1 from by omega, ev_s, if_neg (by omega)]) hW hS (lv_sub hl [0, 1, 2, 4, 5] rfl)
  exact L9 _ 0 a_ b_ _ _ _ (Nat.lt_succ_self _) (by omega) ha hb9 rfl hW hS (lv_sub hl [0, 1, 2, 3, 4] rfl)

set_option maxRecDepth 100000 in
set_option maxHeartbeats 4000000 in
theorem c_X11_odds (l : Launch) (D : va_G) (cy : Nat → ClassId) (B : Nat) (σ : Sg) (h_ : Int) (p_ : Int) (w_ : Int) (r_h_ : -2147483648 ≤ h_ ∧ h_ < 2147483648) (r_p_ : -2147483648 ≤ p_ ∧ p_ < 2147483648) (r_w_ : -2147483648 ≤ w_ ∧ w_ < 2147483648) (hok : σ 18 4 = 0 ∨ okV (σ 18)) : CLe l yX11_odds cX11_odds 10 6 133 D cy B [.ref (B + 0), .int (iI (h_)), .int (iI (p_)), .int (iI (w_))] σ (if ¬ (0 ≤ h_ ∧ h_ ≤ σ 18 4 - 1) ∨ ¬ (0 ≤ p_ ∧ p_ ≤ 10) ∨ ¬ (0 ≤ w_ ∧ w_ ≤ 1) then -1000001 else oddsR (σ 18) p_ h_.toNat w_) (fun u => ∃ (T_ : Nat → Int) (S_ : Nat → Int), u = us (us σ 24 T_) 10 S_) := by
  refine CLe_of (by decide) (Nat.le_of_ble_eq_true rfl) ?_
  intro p e R s m args below meth c Q hx hb hml hown hts hK hRf hRl hW hret ls hl
  have hown : s.vm.findClass "LoveParts" = some m.cls := hown
  have hS : va_S (AB B) s.heap s.heap [] := va_S.rf
  have hl : lv_has ls 10 [(0, .ref (B + 0)), (1, .int (iI (h_))), (2, .int (iI (p_))), (3, .int (iI (w_)))] := hl
  have f4 : 0 ≤ σ 18 4 ∧ σ 18 4 ≤ 4 := by rcases hok with h | h; (· omega); (· exact ⟨by have := h.1; omega, h.1.2⟩)
  refine lv_aload_n hx hb dX11_odds_0 rfl (lv_at hl 0 rfl) ?_
  refine lv_iload_n hx hb dX11_odds_1 rfl (lv_at hl 1 rfl) ?_
  refine k_vi (fr := 6) (lo := 133) (r := (if 0 ≤ h_ ∧ h_ ≤ σ 18 4 - 1 then 1 else 0)) (As := [.int (iI (h_))]) (rest := []) hx hb hml hown hts hK hRf hRl hW hS (c_X11_isHeir l D cy B σ h_ (show -2147483648 ≤ h_ ∧ h_ < 2147483648 from (by first | assumption | omega | (simp only [tpL_25, tcL_1, List.length_cons, List.length_nil]; omega))) (show 0 ≤ σ 18 4 ∧ σ 18 4 ≤ 4 from (by first | assumption | omega | (simp only [tpL_25, tcL_1, List.length_cons, List.length_nil]; omega)))) vX11_isHeir ⟨w_486, w_3⟩ w_484 (by decide) e_0 rfl ⟨Nat.le_of_ble_eq_true rfl, Nat.le_of_ble_eq_true rfl⟩ hl.1 rfl (Nat.le_of_ble_eq_true rfl) ⟨Nat.zero_le _, Nat.zero_le _⟩ dX11_odds_2 (fun H locs hW hS => ?_)
  refine zi_beq (tgt := 27) hx hb dX11_odds_5 (by decide) (fun c5 => ?_) (fun c5 => ?_)
  · refine k_ldc2 hx hb hown hts (v := -1000001) (by decide) w_678 dX11_odds_27 ?_
    exact hret _ _ _ _ _ _ dX11_odds_30 hW hS ⟨by (try simp only [Int.toNat_natCast]); (repeat' split) <;> first | rfl | omega, σ 24, σ 10, by rw [us_id, us_id]⟩
  · obtain ⟨n_, rfl⟩ : ∃ h : Nat, h_ = (h : Int) := ⟨h_.toNat, by omega⟩
    have hok := hok.resolve_left (by omega)
    obtain ⟨o4, o0, o1, o2, o3, o5, o6, o7, oH⟩ := id hok
    have hmn : ((mn (σ 18) : Nat) : Int) = σ 18 4 := by unfold mn; omega
    have hp2 := p2_bd (k := mn (σ 18)) (by omega)
    have hp16 := p2_16 (k := mn (σ 18)) (by omega)
    refine lv_iload_n hx hb dX11_odds_8 rfl (lv_at hl 2 rfl) ?_
    refine zi_con hx hb dX11_odds_9 ?_
    refine zi_bip hx hb dX11_odds_10 (by decide) ?_
    refine k_si (fr := 6) (lo := 133) (r := (if 0 ≤ p_ ∧ p_ ≤ 10 then 1 else 0)) (As := [.int (iI (p_)), .int (iI (0)), .int (iI (10))]) (rest := []) hx hb hml hown hts hK hRf hRl hW hS (c_X11_within l D cy B σ p_ 0 10 (show -2147483648 ≤ p_ ∧ p_ < 2147483648 from (by first | assumption | omega | (simp only [tpL_25, tcL_1, List.length_cons, List.length_nil]; omega))) (show -2147483648 ≤ 0 ∧ 0 < 2147483648 from (by first | assumption | omega | (simp only [tpL_25, tcL_1, List.length_cons, List.length_nil]; omega))) (show -2147483648 ≤ 10 ∧ 10 < 2147483648 from (by first | assumption | omega | (simp only [tpL_25, tcL_1, List.length_cons, List.length_nil]; omega)))) vX11_within w_359 w_358 ⟨Nat.le_of_ble_eq_true rfl, Nat.le_of_ble_eq_true rfl⟩ hl.1 rfl (Nat.le_of_ble_eq_true rfl) ⟨Nat.zero_le _, Nat.zero_le _⟩ dX11_odds_12 (fun H locs hW hS => ?_)
    refine zi_beq (tgt := 27) hx hb dX11_odds_15 (by decide) (fun c15 => ?_) (fun c15 => ?_)
    · refine k_ldc2 hx hb hown hts (v := -1000001) (by decide) w_678 dX11_odds_27 ?_
      exact hret _ _ _ _ _ _ dX11_odds_30 hW hS ⟨by (try simp only [Int.toNat_natCast]); (repeat' split) <;> first | rfl | omega, σ 24, σ 10, by rw [us_id, us_id]⟩
    · refine lv_iload_n hx hb dX11_odds_18 rfl (lv_at hl 3 rfl) ?_
      refine zi_con hx hb dX11_odds_19 ?_
      refine zi_con hx hb dX11_odds_20 ?_
      refine k_si (fr := 6) (lo := 133) (r := (if 0 ≤ w_ ∧ w_ ≤ 1 then 1 else 0)) (As := [.int (iI (w_)), .int (iI (0)), .int (iI (1))]) (rest := []) hx hb hml hown hts hK hRf hRl hW hS (c_X11_within l D cy B σ w_ 0 1 (show -2147483648 ≤ w_ ∧ w_ < 2147483648 from (by first | assumption | omega | (simp only [tpL_25, tcL_1, List.length_cons, List.length_nil]; omega))) (show -2147483648 ≤ 0 ∧ 0 < 2147483648 from (by first | assumption | omega | (simp only [tpL_25, tcL_1, List.length_cons, List.length_nil]; omega))) (show -2147483648 ≤ 1 ∧ 1 < 2147483648 from (by first | assumption | omega | (simp only [tpL_25, tcL_1, List.length_cons, List.length_nil]; omega)))) vX11_within w_359 w_358 ⟨Nat.le_of_ble_eq_true rfl, Nat.le_of_ble_eq_true rfl⟩ hl.1 rfl (Nat.le_of_ble_eq_true rfl) ⟨Nat.zero_le _, Nat.zero_le _⟩ dX11_odds_21 (fun H locs hW hS => ?_)
      refine zi_bne (tgt := 31) hx hb dX11_odds_24 (by decide) (fun c24 => ?_) (fun c24 => ?_)
      · refine zi_lcon (z := 0) hx hb dX11_odds_31 (by decide) ?_
        refine lv_lstore (lv' := [(4, .long (lI (0))), (0, .ref (B + 0)), (1, .int (iI (((n_ : Nat) : Int)))), (2, .int (iI (p_))), (3, .int (iI (w_)))]) hx hb dX11_odds_32 hl (by decide) rfl (fun ls hl => ?_)
        refine zi_con hx hb dX11_odds_34 ?_
        refine lv_istore (lv' := [(6, .int (iI (0))), (4, .long (lI (0))), (0, .ref (B + 0)), (1, .int (iI (((n_ : Nat) : Int)))), (2, .int (iI (p_))), (3, .int (iI (w_)))]) hx hb dX11_odds_35 hl (by decide) rfl (fun ls hl => ?_)
        have L37 : ∀ (n37 : Nat) (s_ : Nat) (T_ : Nat → Int) (S_ : Nat → Int) (H : Heap) (locs : List Loc) (ls : Array Slot), 16 - s_ < n37 → ((s_ : Int) ≤ p2 (mn (σ 18))) → wd D cy B (us (us σ 24 T_) 10 S_) H → va_S (AB B) s.heap H locs → lv_has ls 10 [(6, .int (iI (((s_ : Nat) : Int)))), (4, .long (lI ((abv (σ 18) p_ n_ s_)))), (0, .ref (B + 0)), (1, .int (iI (((n_ : Nat) : Int)))), (2, .int (iI (p_))), (3, .int (iI (w_)))] → W p l e R s m args below meth c H locs 0 0 Q (F0 m 37 ls []) := by
          intro n37
          induction n37 with
          | zero => intro s_ T_ S_ H locs ls hms; omega
          | succ n37 ih37 =>
            intro s_ T_ S_ H locs ls hms37 hs1 hW hS hl
            have hab := abv_bd (f := σ 18) (p := p_) (by omega) n_ (by omega) s_
            have hpb := prq_bd (f := σ 18) (p := p_) (s := ((s_ : Nat) : Int)) (by omega) (mn (σ 18))
            have ht4 := ten_pow (n := mn (σ 18)) (by omega)
            have hgs : gst (σ 18) ((s_ : Nat) : Int) < mn (σ 18) := fg_lt _ (by omega)
            refine lv_iload hx hb dX11_odds_37 (lv_at hl 0 rfl) ?_
            refine zi_con hx hb dX11_odds_39 ?_
            refine lv_aload_n hx hb dX11_odds_40 rfl (lv_at hl 2 rfl) ?_
            refine wz_get hx hb hts hown hK hW 0 4 (by decide) e_0 rfl (by decide) inG11 w_309 rfl rfl dX11_odds_41 ?_
            refine wz_get hx hb hts hown hK hW 18 1 (lt_R isR_18) (e_R isR_18) rfl (by decide) inG6 w_249 rfl rfl dX11_odds_44 ?_
            refine zi_top (y := σ 18 4) (by (first | rfl | (simp [us, uf, nS] <;> omega))) ?_
            refine zi_shl (k := mn (σ 18)) hx hb (by omega) (by omega) dX11_odds_47 ?_
            refine zi_cge (tgt := 89) hx hb dX11_odds_48 (by decide) (by omega) (by omega) (fun c48 => ?_) (fun c48 => ?_)
            · have hs7 : 2 ^ mn (σ 18) = s_ := by have := p2_pow (mn (σ 18)); omega
              refine zi_lcon (z := 1) hx hb dX11_odds_89 (by decide) ?_
              refine lv_lstore (lv' := [(6, .long (lI (1))), (4, .long (lI ((abv (σ 18) p_ n_ s_)))), (0, .ref (B + 0)), (1, .int (iI (((n_ : Nat) : Int)))), (2, .int (iI (p_))), (3, .int (iI (w_)))]) hx hb dX11_odds_90 hl (by decide) rfl (fun ls hl => ?_)
              refine zi_con hx hb dX11_odds_92 ?_
              refine lv_istore (lv' := [(8, .int (iI (0))), (6, .long (lI (1))), (4, .long (lI ((abv (σ 18) p_ n_ s_)))), (0, .ref (B + 0)), (1, .int (iI (((n_ : Nat) : Int)))), (2, .int (iI (p_))), (3, .int (iI (w_)))]) hx hb dX11_odds_93 hl (by decide) rfl (fun ls hl => ?_)
              have L95 : ∀ (n95 : Nat) (j_ : Nat) (H : Heap) (locs : List Loc) (ls : Array Slot), 4 - j_ < n95 → ((j_ : Int) ≤ σ 18 4) → wd D cy B (us (us σ 24 T_) 10 S_) H → va_S (AB B) s.heap H locs → lv_has ls 10 [(8, .int (iI (((j_ : Nat) : Int)))), (6, .long (lI ((blw (σ 18) j_)))), (4, .long (lI ((abv (σ 18) p_ n_ s_)))), (0, .ref (B + 0)), (1, .int (iI (((n_ : Nat) : Int)))), (2, .int (iI (p_))), (3, .int (iI (w_)))] → W p l e R s m args below meth c H locs 0 0 Q (F0 m 95 ls []) := by
                intro n95
                induction n95 with
                | zero => intro j_ H locs ls hms; omega
                | succ n95 ih95 =>
                  intro j_ H locs ls hms95 hj hW hS hl
                  have hbl := blw_bd (f := σ 18) (n := j_)
                  have ht5 := ten_pow (n := j_) (by omega)
                  refine lv_iload hx hb dX11_odds_95 (lv_at hl 0 rfl) ?_
                  refine lv_aload_n hx hb dX11_odds_97 rfl (lv_at hl 3 rfl) ?_
                  refine wz_get hx hb hts hown hK hW 0 4 (by decide) e_0 rfl (by decide) inG11 w_309 rfl rfl dX11_odds_98 ?_
                  refine wz_get hx hb hts hown hK hW 18 1 (lt_R isR_18) (e_R isR_18) rfl (by decide) inG6 w_249 rfl rfl dX11_odds_101 ?_
                  refine zi_top (y := σ 18 4) (by (first | rfl | (simp [us, uf, nS] <;> omega))) ?_
                  refine zi_cge (tgt := 141) hx hb dX11_odds_104 (by decide) (by omega) (by omega) (fun c104 => ?_) (fun c104 => ?_)
                  · have hj7 : j_ = mn (σ 18) := by omega
                    have hgp : 0 < Nat.gcd (abv (σ 18) p_ n_ s_).toNat (blw (σ 18) j_).toNat := Nat.gcd_pos_of_pos_right _ (by omega)
                    have hgl : Nat.gcd (abv (σ 18) p_ n_ s_).toNat (blw (σ 18) j_).toNat ≤ (blw (σ 18) j_).toNat := Nat.gcd_le_right _ (by omega)
                    refine lv_lload hx hb dX11_odds_141 (lv_at hl 2 rfl) ?_
                    refine lv_lload hx hb dX11_odds_143 (lv_at hl 1 rfl) ?_
                    refine k_sl (fr := 6) (lo := 133) (r := ev 100 (abv (σ 18) p_ n_ s_) (blw (σ 18) j_)) (As := [.long (lI ((abv (σ 18) p_ n_ s_))), .long (lI ((blw (σ 18) j_)))]) (rest := []) hx hb hml hown hts hK hRf hRl hW hS (c_X11_commonDivisor l D cy B (us (us σ 24 T_) 10 S_) (abv (σ 18) p_ n_ s_) (blw (σ 18) j_) (show 0 ≤ (abv (σ 18) p_ n_ s_) ∧ (abv (σ 18) p_ n_ s_) ≤ 1000000 from (by omega)) (show 0 ≤ (blw (σ 18) j_) ∧ (blw (σ 18) j_) ≤ 1000000 from (by omega))) vX11_commonDivisor w_689 w_688 ⟨Nat.le_of_ble_eq_true rfl, Nat.le_of_ble_eq_true rfl⟩ hl.1 rfl (Nat.le_of_ble_eq_true rfl) ⟨Nat.zero_le _, Nat.zero_le _⟩ dX11_odds_145 (fun H locs hW hS => ?_)
                    refine zl_top (y := ((Nat.gcd (abv (σ 18) p_ n_ s_).toNat (blw (σ 18) j_).toNat : Nat) : Int)) (by exact ev_gcd 50 _ _ (by omega) (by omega) (Int.lt_of_le_of_lt (show (blw (σ 18) j_) ≤ 10000 by omega) (by decide))) ?_
                    refine zi_lcon (z := 1) hx hb dX11_odds_148 (by decide) ?_
                    refine k_maxl hx hb hml hown hts hl.1 w_691 ⟨w_692, w_67, w_693⟩ (by omega) (Nat.le_trans (Nat.le_of_ble_eq_true rfl) hRl) ⟨Nat.zero_le _, Nat.zero_le _⟩ (by omega) (by omega) dX11_odds_149 ?_
                    refine zl_top (y := ((Nat.gcd (abv (σ 18) p_ n_ s_).toNat (blw (σ 18) j_).toNat : Nat) : Int)) (by split <;> omega) ?_
                    refine lv_lstore (lv' := [(8, .long (lI (((Nat.gcd (abv (σ 18) p_ n_ s_).toNat (blw (σ 18) j_).toNat : Nat) : Int)))), (6, .long (lI ((blw (σ 18) j_)))), (4, .long (lI ((abv (σ 18) p_ n_ s_)))), (0, .ref (B + 0)), (1, .int (iI (((n_ : Nat) : Int)))), (2, .int (iI (p_))), (3, .int (iI (w_)))]) hx hb dX11_odds_152 hl (by decide) rfl (fun ls hl => ?_)
                    refine lv_iload_n hx hb dX11_odds_154 rfl (lv_at hl 6 rfl) ?_
                    refine zi_ne (tgt := 163) hx hb dX11_odds_155 (by decide) (by omega) (fun c155 => ?_) (fun c155 => ?_)
                    · refine lv_lload hx hb dX11_odds_163 (lv_at hl 1 rfl) ?_
                      refine lv_lload hx hb dX11_odds_165 (lv_at hl 0 rfl) ?_
                      refine zi_ldiv hx hb dX11_odds_167 (by omega) (by omega) ?_
                      exact hret _ _ _ _ _ _ dX11_odds_168 hW hS ⟨by simp only [Int.toNat_natCast]; rw [if_neg (by omega)]; unfold oddsR; rw [hs7, ← hj7]; (repeat' split) <;> first | rfl | omega, _, _, rfl⟩
                    · refine lv_lload hx hb dX11_odds_158 (lv_at hl 2 rfl) ?_
                      refine lv_goto (tgt := 165) hx hb dX11_odds_160 (by decide) ?_
                      refine lv_lload hx hb dX11_odds_165 (lv_at hl 0 rfl) ?_
                      refine zi_ldiv hx hb dX11_odds_167 (by omega) (by omega) ?_
                      exact hret _ _ _ _ _ _ dX11_odds_168 hW hS ⟨by simp only [Int.toNat_natCast]; rw [if_neg (by omega)]; unfold oddsR; rw [hs7, ← hj7]; (repeat' split) <;> first | rfl | omega, _, _, rfl⟩
                  · have hk20 := (oH j_ (by omega)).2.2.2.1
                    refine lv_lload hx hb dX11_odds_107 (lv_at hl 1 rfl) ?_
                    refine lv_aload_n hx hb dX11_odds_109 rfl (lv_at hl 3 rfl) ?_
                    refine wz_get hx hb hts hown hK hW 0 4 (by decide) e_0 rfl (by decide) inG11 w_309 rfl rfl dX11_odds_110 ?_
                    refine wz_get hx hb hts hown hK hW 18 0 (lt_R isR_18) (e_R isR_18) rfl (by decide) inG6 w_246 rfl rfl dX11_odds_113 ?_
                    refine lv_iload hx hb dX11_odds_116 (lv_at hl 0 rfl) ?_
                    refine wz_ara hx hb hK hW (18 + 1) j_ 2 (lt_Ra isR_18) (e_Ra isR_18) rfl (by omega) (by omega) (by decide) rfl dX11_odds_118 ?_
                    refine wz_get hx hb hts hown hK hW (18 + 2 + j_) 4 (lt_H isR_18 (by omega)) (e_H isR_18 (by omega)) rfl (by decide) inG0 w_203 rfl rfl dX11_odds_119 ?_
                    refine zi_top (y := σ 18 (20 + j_)) (by (first | rfl | (simp [us, uf, nS] <;> omega))) ?_
                    refine zi_eq (tgt := 131) hx hb dX11_odds_122 (by decide) (by omega) (fun c122 => ?_) (fun c122 => ?_)
                    · refine zi_lcon (z := 1) hx hb dX11_odds_131 (by decide) ?_
                      refine zi_lmul hx hb dX11_odds_132 ?_
                      refine lv_lstore (lv' := [(6, .long (lI ((blw (σ 18) j_) * 1))), (8, .int (iI (((j_ : Nat) : Int)))), (4, .long (lI ((abv (σ 18) p_ n_ s_)))), (0, .ref (B + 0)), (1, .int (iI (((n_ : Nat) : Int)))), (2, .int (iI (p_))), (3, .int (iI (w_)))]) hx hb dX11_odds_133 hl (by decide) rfl (fun ls hl => ?_)
                      refine lv_iinc (v := iI (((j_ : Nat) : Int) + 1)) (lv' := [(8, .int (iI (((j_ : Nat) : Int) + 1))), (6, .long (lI ((blw (σ 18) j_) * 1))), (4, .long (lI ((abv (σ 18) p_ n_ s_)))), (0, .ref (B + 0)), (1, .int (iI (((n_ : Nat) : Int)))), (2, .int (iI (p_))), (3, .int (iI (w_)))]) hx hb dX11_odds_135 hl (k := 1) rfl (iI_add _ _) (by decide) rfl (fun ls hl => ?_)
                      refine lv_goto (tgt := 95) hx hb dX11_odds_138 (by decide) ?_
                      have e3 : blw (σ 18) (j_ + 1) = blw (σ 18) j_ * (if σ 18 (20 + j_) = 1 then 10 else 1) := rfl
                      first | (rw [if_pos (by omega)] at e3) | (rw [if_neg (by omega)] at e3)
                      exact ih95 (j_ + 1) _ _ _ (by omega) (by omega) hW hS (lv_sub hl [0, 1, 2, 3, 4, 5, 6] (by rw [e3]; rfl))
                    · refine k_ldc2 hx hb hown hts (v := 10) (by decide) w_687 dX11_odds_125 ?_
                      refine lv_goto (tgt := 132) hx hb dX11_odds_128 (by decide) ?_
                      refine zi_lmul hx hb dX11_odds_132 ?_
                      refine lv_lstore (lv' := [(6, .long (lI ((blw (σ 18) j_) * 10))), (8, .int (iI (((j_ : Nat) : Int)))), (4, .long (lI ((abv (σ 18) p_ n_ s_)))), (0, .ref (B + 0)), (1, .int (iI (((n_ : Nat) : Int)))), (2, .int (iI (p_))), (3, .int (iI (w_)))]) hx hb dX11_odds_133 hl (by decide) rfl (fun ls hl => ?_)
                      refine lv_iinc (v := iI (((j_ : Nat) : Int) + 1)) (lv' := [(8, .int (iI (((j_ : Nat) : Int) + 1))), (6, .long (lI ((blw (σ 18) j_) * 10))), (4, .long (lI ((abv (σ 18) p_ n_ s_)))), (0, .ref (B + 0)), (1, .int (iI (((n_ : Nat) : Int)))), (2, .int (iI (p_))), (3, .int (iI (w_)))]) hx hb dX11_odds_135 hl (k := 1) rfl (iI_add _ _) (by decide) rfl (fun ls hl => ?_)
                      refine lv_goto (tgt := 95) hx hb dX11_odds_138 (by decide) ?_
                      have e3 : blw (σ 18) (j_ + 1) = blw (σ 18) j_ * (if σ 18 (20 + j_) = 1 then 10 else 1) := rfl
                      first | (rw [if_pos (by omega)] at e3) | (rw [if_neg (by omega)] at e3)
                      exact ih95 (j_ + 1) _ _ _ (by omega) (by omega) hW hS (lv_sub hl [0, 1, 2, 3, 4, 5, 6] (by rw [e3]; rfl))
              exact L95 _ 0 _ _ _ (Nat.lt_succ_self _) (by omega) hW hS (lv_sub hl [0, 1, 2, 3, 4, 5, 6] rfl)
            · have hs16 : s_ < 16 := by omega
              refine lv_aload_n hx hb dX11_odds_51 rfl (lv_at hl 2 rfl) ?_
              refine lv_iload hx hb dX11_odds_52 (lv_at hl 0 rfl) ?_
              refine lv_iload_n hx hb dX11_odds_54 rfl (lv_at hl 4 rfl) ?_
              refine k_vi (fr := 6) (lo := 133) (r := prq (σ 18) p_ ((s_ : Nat) : Int) (mn (σ 18))) (As := [.int (iI (((s_ : Nat) : Int))), .int (iI (p_))]) (rest := []) hx hb hml hown hts hK hRf hRl hW hS (c_X11_casesOf l D cy B (us (us σ 24 T_) 10 S_) s_ p_ (show okV (σ 18) from (by first | assumption | omega | (simp only [tpL_25, tcL_1, List.length_cons, List.length_nil]; omega))) (show s_ < 16 from (by first | assumption | omega | (simp only [tpL_25, tcL_1, List.length_cons, List.length_nil]; omega))) (show 0 ≤ p_ ∧ p_ ≤ 10 from (by first | assumption | omega | (simp only [tpL_25, tcL_1, List.length_cons, List.length_nil]; omega)))) vX11_casesOf ⟨w_681, w_15⟩ w_679 (by decide) e_0 rfl ⟨Nat.le_of_ble_eq_true rfl, Nat.le_of_ble_eq_true rfl⟩ hl.1 rfl (Nat.le_of_ble_eq_true rfl) ⟨Nat.zero_le _, Nat.zero_le _⟩ dX11_odds_55 (fun H locs hW hS => ?_)
              refine lv_istore (lv' := [(7, .int (iI (prq (σ 18) p_ ((s_ : Nat) : Int) (mn (σ 18))))), (6, .int (iI (((s_ : Nat) : Int)))), (4, .long (lI ((abv (σ 18) p_ n_ s_)))), (0, .ref (B + 0)), (1, .int (iI (((n_ : Nat) : Int)))), (2, .int (iI (p_))), (3, .int (iI (w_)))]) hx hb dX11_odds_58 hl (by decide) rfl (fun ls hl => ?_)
              refine lv_iload hx hb dX11_odds_60 (lv_at hl 0 rfl) ?_
              refine zi_le (tgt := 83) hx hb dX11_odds_62 (by decide) (by omega) (fun c62 => ?_) (fun c62 => ?_)
              · refine lv_iinc (v := iI (((s_ : Nat) : Int) + 1)) (lv' := [(6, .int (iI (((s_ : Nat) : Int) + 1))), (7, .int (iI (prq (σ 18) p_ ((s_ : Nat) : Int) (mn (σ 18))))), (4, .long (lI ((abv (σ 18) p_ n_ s_)))), (0, .ref (B + 0)), (1, .int (iI (((n_ : Nat) : Int)))), (2, .int (iI (p_))), (3, .int (iI (w_)))]) hx hb dX11_odds_83 hl (k := 1) rfl (iI_add _ _) (by decide) rfl (fun ls hl => ?_)
                refine lv_goto (tgt := 37) hx hb dX11_odds_86 (by decide) ?_
                have e3 : abv (σ 18) p_ n_ (s_ + 1) = (abv (σ 18) p_ n_ s_) + (if gst (σ 18) ((s_ : Nat) : Int) = n_ then prq (σ 18) p_ ((s_ : Nat) : Int) (mn (σ 18)) else 0) := rfl
                exact ih37 (s_ + 1) T_ S_ _ _ _ (by omega) (by omega) hW hS (lv_sub hl [0, 2, 3, 4, 5, 6] (by first | (rw [show abv (σ 18) p_ n_ (s_ + 1) = (abv (σ 18) p_ n_ s_) + prq (σ 18) p_ ((s_ : Nat) : Int) (mn (σ 18)) from by rw [e3, if_pos (by omega)]]; rfl) | (rw [show abv (σ 18) p_ n_ (s_ + 1) = (abv (σ 18) p_ n_ s_) from by rw [e3]; split <;> omega]; rfl)))
              · refine lv_aload_n hx hb dX11_odds_65 rfl (lv_at hl 3 rfl) ?_
                refine lv_iload hx hb dX11_odds_66 (lv_at hl 1 rfl) ?_
                refine k_vie (fr := 6) (lo := 133) (r := ((gst (σ 18) ((s_ : Nat) : Int) : Nat) : Int)) (As := [.int (iI (((s_ : Nat) : Int)))]) (rest := []) hx hb hml hown hts hK hRf hRl hW hS (c_X11_greatestWithLiars l D cy B (us (us σ 24 T_) 10 S_) s_ (show okV (σ 18) from (by first | assumption | omega | (simp only [tpL_25, tcL_1, List.length_cons, List.length_nil]; omega))) (show s_ < 16 from (by first | assumption | omega | (simp only [tpL_25, tcL_1, List.length_cons, List.length_nil]; omega)))) vX11_greatestWithLiars ⟨w_685, w_16⟩ w_683 (by decide) e_0 rfl ⟨Nat.le_of_ble_eq_true rfl, Nat.le_of_ble_eq_true rfl⟩ hl.1 rfl (Nat.le_of_ble_eq_true rfl) ⟨Nat.zero_le _, Nat.zero_le _⟩ dX11_odds_68 (fun τ H locs hτ hW hS => ?_)
                obtain ⟨T__68, S__68, rfl⟩ := hτ
                rw [show (us (us (us (us σ 24 T_) 10 S_) 24 T__68) 10 S__68) = us (us σ 24 T__68) 10 S__68 from (by rw [n22 _ _ _ _ _ (by decide)])] at hW
                refine lv_iload_n hx hb dX11_odds_71 rfl (lv_at hl 4 rfl) ?_
                refine zi_cne (tgt := 83) hx hb dX11_odds_72 (by decide) (by omega) (by omega) (fun c72 => ?_) (fun c72 => ?_)
                · refine lv_iinc (v := iI (((s_ : Nat) : Int) + 1)) (lv' := [(6, .int (iI (((s_ : Nat) : Int) + 1))), (7, .int (iI (prq (σ 18) p_ ((s_ : Nat) : Int) (mn (σ 18))))), (4, .long (lI ((abv (σ 18) p_ n_ s_)))), (0, .ref (B + 0)), (1, .int (iI (((n_ : Nat) : Int)))), (2, .int (iI (p_))), (3, .int (iI (w_)))]) hx hb dX11_odds_83 hl (k := 1) rfl (iI_add _ _) (by decide) rfl (fun ls hl => ?_)
                  refine lv_goto (tgt := 37) hx hb dX11_odds_86 (by decide) ?_
                  have e3 : abv (σ 18) p_ n_ (s_ + 1) = (abv (σ 18) p_ n_ s_) + (if gst (σ 18) ((s_ : Nat) : Int) = n_ then prq (σ 18) p_ ((s_ : Nat) : Int) (mn (σ 18)) else 0) := rfl
                  exact ih37 (s_ + 1) T__68 S__68 _ _ _ (by omega) (by omega) hW hS (lv_sub hl [0, 2, 3, 4, 5, 6] (by first | (rw [show abv (σ 18) p_ n_ (s_ + 1) = (abv (σ 18) p_ n_ s_) + prq (σ 18) p_ ((s_ : Nat) : Int) (mn (σ 18)) from by rw [e3, if_pos (by omega)]]; rfl) | (rw [show abv (σ 18) p_ n_ (s_ + 1) = (abv (σ 18) p_ n_ s_) from by rw [e3]; split <;> omega]; rfl)))
                · refine lv_lload hx hb dX11_odds_75 (lv_at hl 2 rfl) ?_
                  refine lv_iload hx hb dX11_odds_77 (lv_at hl 0 rfl) ?_
                  refine zi_i2l hx hb dX11_odds_79 (by omega) ?_
                  refine zi_ladd hx hb dX11_odds_80 ?_
                  refine lv_lstore (lv' := [(4, .long (lI ((abv (σ 18) p_ n_ s_) + (prq (σ 18) p_ ((s_ : Nat) : Int) (mn (σ 18)))))), (7, .int (iI (prq (σ 18) p_ ((s_ : Nat) : Int) (mn (σ 18))))), (6, .int (iI (((s_ : Nat) : Int)))), (0, .ref (B + 0)), (1, .int (iI (((n_ : Nat) : Int)))), (2, .int (iI (p_))), (3, .int (iI (w_)))]) hx hb dX11_odds_81 hl (by decide) rfl (fun ls hl => ?_)
                  refine lv_iinc (v := iI (((s_ : Nat) : Int) + 1)) (lv' := [(6, .int (iI (((s_ : Nat) : Int) + 1))), (4, .long (lI ((abv (σ 18) p_ n_ s_) + (prq (σ 18) p_ ((s_ : Nat) : Int) (mn (σ 18)))))), (7, .int (iI (prq (σ 18) p_ ((s_ : Nat) : Int) (mn (σ 18))))), (0, .ref (B + 0)), (1, .int (iI (((n_ : Nat) : Int)))), (2, .int (iI (p_))), (3, .int (iI (w_)))]) hx hb dX11_odds_83 hl (k := 2) rfl (iI_add _ _) (by decide) rfl (fun ls hl => ?_)
                  refine lv_goto (tgt := 37) hx hb dX11_odds_86 (by decide) ?_
                  have e3 : abv (σ 18) p_ n_ (s_ + 1) = (abv (σ 18) p_ n_ s_) + (if gst (σ 18) ((s_ : Nat) : Int) = n_ then prq (σ 18) p_ ((s_ : Nat) : Int) (mn (σ 18)) else 0) := rfl
                  exact ih37 (s_ + 1) T__68 S__68 _ _ _ (by omega) (by omega) hW hS (lv_sub hl [0, 1, 3, 4, 5, 6] (by first | (rw [show abv (σ 18) p_ n_ (s_ + 1) = (abv (σ 18) p_ n_ s_) + prq (σ 18) p_ ((s_ : Nat) : Int) (mn (σ 18)) from by rw [e3, if_pos (by omega)]]; rfl) | (rw [show abv (σ 18) p_ n_ (s_ + 1) = (abv (σ 18) p_ n_ s_) from by rw [e3]; split <;> omega]; rfl)))
        exact L37 _ 0 (σ 24) (σ 10) _ _ _ (Nat.lt_succ_self _) (by omega) (by rw [us_id, us_id]; exact hW) hS (lv_sub hl [0, 1, 2, 3, 4, 5] rfl)
      · refine k_ldc2 hx hb hown hts (v := -1000001) (by decide) w_678 dX11_odds_27 ?_
        exact hret _ _ _ _ _ _ dX11_odds_30 hW hS ⟨by (try simp only [Int.toNat_natCast]); (repeat' split) <;> first | rfl | omega, σ 24, σ 10, by rw [us_id, us_id]⟩
