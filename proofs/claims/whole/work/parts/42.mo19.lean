
set_option maxRecDepth 100000 in
set_option maxHeartbeats 4000000 in
theorem c_X12_readRealm (l : Launch) (D : va_G) (cy : Nat → ClassId) (B : Nat) (σ : Sg)  (hL : 0 ≤ σ 202 8 ∧ σ 202 8 ≤ 100) (htp : ∀ k, k < 100 → 0 ≤ σ 208 k ∧ σ 208 k ≤ 255) : CI l yX12_readRealm cX12_readRealm 3 (some .boolean) 5 112 D cy B [.ref (B + 202)] σ ((if rdB (σ) = true then 1 else 0)) (rdS (σ)) := by
  refine CI_of (ty := .boolean) (by decide) (nb_ite) (Nat.le_of_ble_eq_true rfl) ?_
  intro p e R s m args below meth c Q hx hb hml hown hts hK hRf hRl hW hret ls hl
  have hown : s.vm.findClass "LovePartsModel" = some m.cls := hown
  have hS : va_S (AB B) s.heap s.heap [] := va_S.rf
  have hl : lv_has ls 3 [(0, .ref (B + 202))] := hl
  have hp0 := PS_rr0 hL htp
  refine lv_aload_n hx hb dX12_readRealm_0 rfl (lv_at hl 0 rfl) ?_
  refine zi_con hx hb dX12_readRealm_1 ?_
  refine wz_put (σ' := (up σ 202 10 0)) (ty := .int) hx hb hts hown hK hW hS 202 10 tyX12 (by decide) e_202 rfl (by decide) inG12 tyX12_ok nmX12 w_825 ⟨rfl, rfl, Nat.le_of_ble_eq_true rfl⟩ (by decide +kernel) ⟨rfl, rfl⟩ p_202_10 dX12_readRealm_2 (fun H locs hW hS => ?_)
  refine zi_con hx hb dX12_readRealm_5 ?_
  refine lv_istore_n (lv' := [(1, .int (iI (0))), (0, .ref (B + 202))]) hx hb dX12_readRealm_6 rfl hl (by decide) rfl (fun ls hl => ?_)
  have L7 : ∀ (n7 : Nat) (k_ : Nat) (H : Heap) (locs : List Loc) (ls : Array Slot), 48 - k_ < n7 → (k_ ≤ 48) → wd D cy B (us (up σ 202 10 0) 209 (cpy k_ (fun _ => 0) ((up σ 202 10 0) 209))) H → va_S (AB B) s.heap H locs → lv_has ls 3 [(1, .int (iI (((k_ : Nat) : Int)))), (0, .ref (B + 202))] → W p l e R s m args below meth c H locs 0 0 Q (F0 m 7 ls []) := by
    intro n7
    induction n7 with
    | zero => intro k_ H locs ls hms; omega
    | succ n7 ih7 =>
      intro k_ H locs ls hms7 hk hW hS hl
      refine lv_iload_n hx hb dX12_readRealm_7 rfl (lv_at hl 0 rfl) ?_
      refine zi_bip hx hb dX12_readRealm_8 (by decide) ?_
      refine zi_cge (tgt := 26) hx hb dX12_readRealm_10 (by decide) (by omega) (by omega) (fun c10 => ?_) (fun c10 => ?_)
      · have hW := wd_arr (c := 209) (n := 48) (g := fun _ => 0) (by omega) (fun _ => rfl) (fun j hj => by unfold cpy; rw [if_pos (by omega)]) hW
        refine lv_aload_n hx hb dX12_readRealm_26 rfl (lv_at hl 1 rfl) ?_
        refine k_vv (fr := 5) (lo := 112) (σ' := (ntk (us (up σ 202 10 0) 209 (fun _ => 0)))) (As := []) (rest := []) hx hb hml hown hts hK hRf hRl hW hS (c_X12_nextToken l D cy B (us (up σ 202 10 0) 209 (fun _ => 0))  (show (0 ≤ (us (up σ 202 10 0) 209 (fun _ => 0)) 202 10 ∧ (us (up σ 202 10 0) 209 (fun _ => 0)) 202 10 ≤ (us (up σ 202 10 0) 209 (fun _ => 0)) 202 8) ∧ (us (up σ 202 10 0) 209 (fun _ => 0)) 202 8 ≤ 100 from (by show (0 ≤ (0 : Int) ∧ (0 : Int) ≤ σ 202 8) ∧ σ 202 8 ≤ 100; omega)) (show ∀ k, k < 100 → 0 ≤ σ 208 k ∧ σ 208 k ≤ 255 from (by first | assumption | omega | (simp only [tpL_25, List.length_cons, List.length_nil]; omega)))) vX12_nextToken ⟨w_948, w_21⟩ w_946 (by decide) e_202 rfl ⟨Nat.le_of_ble_eq_true rfl, Nat.le_of_ble_eq_true rfl⟩ hl.1 rfl (Nat.le_of_ble_eq_true rfl) ⟨Nat.zero_le _, Nat.zero_le _⟩ dX12_readRealm_27 (fun H locs hW hS => ?_)
        have hW : wd D cy B (rr0 σ) H := hW
        refine lv_aload_n hx hb dX12_readRealm_30 rfl (lv_at hl 1 rfl) ?_
        refine zi_bip hx hb dX12_readRealm_31 (by decide) ?_
        refine k_vi (fr := 5) (lo := 112) (r := (if (rr0 σ) 202 11 = 1 ∧ (rr0 σ) 202 12 = 107 then 1 else 0)) (σ' := (tkS ((rr0 σ)) 107)) (As := [.int (iI (107))]) (rest := []) hx hb hml hown hts hK hRf hRl hW hS (c_X12_takes l D cy B (rr0 σ) 0 107 (show -2147483648 ≤ 107 ∧ 107 < 2147483648 from (by first | assumption | omega | (simp only [tpL_25, List.length_cons, List.length_nil]; omega))) (show PS ((rr0 σ)) 0 from hp0)) vX12_takes ⟨w_956, w_22⟩ w_954 (by decide) e_202 rfl ⟨Nat.le_of_ble_eq_true rfl, Nat.le_of_ble_eq_true rfl⟩ hl.1 rfl (Nat.le_of_ble_eq_true rfl) ⟨Nat.zero_le _, Nat.zero_le _⟩ dX12_readRealm_33 (fun H locs hW hS => ?_)
        refine zi_beq (tgt := 90) hx hb dX12_readRealm_36 (by decide) (fun c36 => ?_) (fun c36 => ?_)
        · refine zi_con hx hb dX12_readRealm_90 ?_
          exact hret _ _ _ _ _ _ dX12_readRealm_91 hW hS ⟨by rw [if_neg (by unfold rdB; intro h9; rw [Bool.and_eq_true] at h9; have h8 := of_decide_eq_true h9.1; first | exact c36 h8.1 | exact c49 h8.2.1 | exact c62 h8.2.2.1 | exact c75 h8.2.2.2.1 | exact c87 h8.2.2.2.2)], by unfold rdS; first | (rw [if_neg (by exact c36)]; rfl) | (rw [if_pos (by exact c36), if_neg (by exact c49)]; rfl) | (rw [if_pos (by exact c36), if_pos (by exact c49), if_neg (by exact c62)]; rfl) | (rw [if_pos (by exact c36), if_pos (by exact c49), if_pos (by exact c62), if_neg (by exact c75)]; rfl) | (rw [if_pos (by exact c36), if_pos (by exact c49), if_pos (by exact c62), if_pos (by exact c75), if_neg (by exact c87)]; rfl)⟩
        · have hx1 := PS_la1 hp0 c36
          obtain ⟨b1, hb1⟩ := hx1
          have hW : wd D cy B (la1 σ) H := hW
          refine lv_aload_n hx hb dX12_readRealm_39 rfl (lv_at hl 1 rfl) ?_
          refine zi_con hx hb dX12_readRealm_40 ?_
          refine zi_bip hx hb dX12_readRealm_41 (by decide) ?_
          refine zi_con hx hb dX12_readRealm_43 ?_
          refine zi_bip hx hb dX12_readRealm_44 (by decide) ?_
          refine k_vi (fr := 5) (lo := 112) (r := (if ((la1 σ) 202 11 = 2 ∧ 1 ≤ (la1 σ) 202 12 ∧ (la1 σ) 202 12 ≤ 99) ∧ (ntk (up (la1 σ) 209 0 ((la1 σ) 202 12)) 202 11 = 1 ∧ ntk (up (la1 σ) 209 0 ((la1 σ) 202 12)) 202 12 = 44) then 1 else 0)) (σ' := (tnS ((la1 σ)) 1 99 0 44)) (As := [.int (iI (1)), .int (iI (99)), .int (iI (0)), .int (iI (44))]) (rest := []) hx hb hml hown hts hK hRf hRl hW hS (c_X12_takesNumber l D cy B (la1 σ) b1 1 99 0 44 (show -2147483648 ≤ 1 ∧ 1 < 2147483648 from (by first | assumption | omega | (simp only [tpL_25, List.length_cons, List.length_nil]; omega))) (show -2147483648 ≤ 99 ∧ 99 < 2147483648 from (by first | assumption | omega | (simp only [tpL_25, List.length_cons, List.length_nil]; omega))) (show -2147483648 ≤ 44 ∧ 44 < 2147483648 from (by first | assumption | omega | (simp only [tpL_25, List.length_cons, List.length_nil]; omega))) (show PS ((la1 σ)) b1 from hb1) (show 0 < 48 from (by first | assumption | omega | (simp only [tpL_25, List.length_cons, List.length_nil]; omega)))) vX12_takesNumber ⟨w_968, w_25⟩ w_966 (by decide) e_202 rfl ⟨Nat.le_of_ble_eq_true rfl, Nat.le_of_ble_eq_true rfl⟩ hl.1 rfl (Nat.le_of_ble_eq_true rfl) ⟨Nat.zero_le _, Nat.zero_le _⟩ dX12_readRealm_46 (fun H locs hW hS => ?_)
          refine zi_beq (tgt := 90) hx hb dX12_readRealm_49 (by decide) (fun c49 => ?_) (fun c49 => ?_)
          · refine zi_con hx hb dX12_readRealm_90 ?_
            exact hret _ _ _ _ _ _ dX12_readRealm_91 hW hS ⟨by rw [if_neg (by unfold rdB; intro h9; rw [Bool.and_eq_true] at h9; have h8 := of_decide_eq_true h9.1; first | exact c36 h8.1 | exact c49 h8.2.1 | exact c62 h8.2.2.1 | exact c75 h8.2.2.2.1 | exact c87 h8.2.2.2.2)], by unfold rdS; first | (rw [if_neg (by exact c36)]; rfl) | (rw [if_pos (by exact c36), if_neg (by exact c49)]; rfl) | (rw [if_pos (by exact c36), if_pos (by exact c49), if_neg (by exact c62)]; rfl) | (rw [if_pos (by exact c36), if_pos (by exact c49), if_pos (by exact c62), if_neg (by exact c75)]; rfl) | (rw [if_pos (by exact c36), if_pos (by exact c49), if_pos (by exact c62), if_pos (by exact c75), if_neg (by exact c87)]; rfl)⟩
          · have hx2 := PS_la2 ⟨b1, hb1⟩ c49
            obtain ⟨b2, hb2⟩ := hx2
            have hW : wd D cy B (la2 σ) H := hW
            refine lv_aload_n hx hb dX12_readRealm_52 rfl (lv_at hl 1 rfl) ?_
            refine zi_con hx hb dX12_readRealm_53 ?_
            refine zi_bip hx hb dX12_readRealm_54 (by decide) ?_
            refine zi_con hx hb dX12_readRealm_56 ?_
            refine zi_bip hx hb dX12_readRealm_57 (by decide) ?_
            refine k_vi (fr := 5) (lo := 112) (r := (if ((la2 σ) 202 11 = 2 ∧ 0 ≤ (la2 σ) 202 12 ∧ (la2 σ) 202 12 ≤ 99) ∧ (ntk (up (la2 σ) 209 1 ((la2 σ) 202 12)) 202 11 = 1 ∧ ntk (up (la2 σ) 209 1 ((la2 σ) 202 12)) 202 12 = 44) then 1 else 0)) (σ' := (tnS ((la2 σ)) 0 99 1 44)) (As := [.int (iI (0)), .int (iI (99)), .int (iI (1)), .int (iI (44))]) (rest := []) hx hb hml hown hts hK hRf hRl hW hS (c_X12_takesNumber l D cy B (la2 σ) b2 0 99 1 44 (show -2147483648 ≤ 0 ∧ 0 < 2147483648 from (by first | assumption | omega | (simp only [tpL_25, List.length_cons, List.length_nil]; omega))) (show -2147483648 ≤ 99 ∧ 99 < 2147483648 from (by first | assumption | omega | (simp only [tpL_25, List.length_cons, List.length_nil]; omega))) (show -2147483648 ≤ 44 ∧ 44 < 2147483648 from (by first | assumption | omega | (simp only [tpL_25, List.length_cons, List.length_nil]; omega))) (show PS ((la2 σ)) b2 from hb2) (show 1 < 48 from (by first | assumption | omega | (simp only [tpL_25, List.length_cons, List.length_nil]; omega)))) vX12_takesNumber ⟨w_968, w_25⟩ w_966 (by decide) e_202 rfl ⟨Nat.le_of_ble_eq_true rfl, Nat.le_of_ble_eq_true rfl⟩ hl.1 rfl (Nat.le_of_ble_eq_true rfl) ⟨Nat.zero_le _, Nat.zero_le _⟩ dX12_readRealm_59 (fun H locs hW hS => ?_)
            refine zi_beq (tgt := 90) hx hb dX12_readRealm_62 (by decide) (fun c62 => ?_) (fun c62 => ?_)
            · refine zi_con hx hb dX12_readRealm_90 ?_
              exact hret _ _ _ _ _ _ dX12_readRealm_91 hW hS ⟨by rw [if_neg (by unfold rdB; intro h9; rw [Bool.and_eq_true] at h9; have h8 := of_decide_eq_true h9.1; first | exact c36 h8.1 | exact c49 h8.2.1 | exact c62 h8.2.2.1 | exact c75 h8.2.2.2.1 | exact c87 h8.2.2.2.2)], by unfold rdS; first | (rw [if_neg (by exact c36)]; rfl) | (rw [if_pos (by exact c36), if_neg (by exact c49)]; rfl) | (rw [if_pos (by exact c36), if_pos (by exact c49), if_neg (by exact c62)]; rfl) | (rw [if_pos (by exact c36), if_pos (by exact c49), if_pos (by exact c62), if_neg (by exact c75)]; rfl) | (rw [if_pos (by exact c36), if_pos (by exact c49), if_pos (by exact c62), if_pos (by exact c75), if_neg (by exact c87)]; rfl)⟩
            · have hx3 := PS_la3 ⟨b2, hb2⟩ c62
              obtain ⟨b3, hb3⟩ := hx3
              have hW : wd D cy B (la3 σ) H := hW
              refine lv_aload_n hx hb dX12_readRealm_65 rfl (lv_at hl 1 rfl) ?_
              refine zi_con hx hb dX12_readRealm_66 ?_
              refine zi_bip hx hb dX12_readRealm_67 (by decide) ?_
              refine zi_con hx hb dX12_readRealm_69 ?_
              refine zi_bip hx hb dX12_readRealm_70 (by decide) ?_
              refine k_vi (fr := 5) (lo := 112) (r := (if ((la3 σ) 202 11 = 2 ∧ 0 ≤ (la3 σ) 202 12 ∧ (la3 σ) 202 12 ≤ 9) ∧ (ntk (up (la3 σ) 209 2 ((la3 σ) 202 12)) 202 11 = 1 ∧ ntk (up (la3 σ) 209 2 ((la3 σ) 202 12)) 202 12 = 44) then 1 else 0)) (σ' := (tnS ((la3 σ)) 0 9 2 44)) (As := [.int (iI (0)), .int (iI (9)), .int (iI (2)), .int (iI (44))]) (rest := []) hx hb hml hown hts hK hRf hRl hW hS (c_X12_takesNumber l D cy B (la3 σ) b3 0 9 2 44 (show -2147483648 ≤ 0 ∧ 0 < 2147483648 from (by first | assumption | omega | (simp only [tpL_25, List.length_cons, List.length_nil]; omega))) (show -2147483648 ≤ 9 ∧ 9 < 2147483648 from (by first | assumption | omega | (simp only [tpL_25, List.length_cons, List.length_nil]; omega))) (show -2147483648 ≤ 44 ∧ 44 < 2147483648 from (by first | assumption | omega | (simp only [tpL_25, List.length_cons, List.length_nil]; omega))) (show PS ((la3 σ)) b3 from hb3) (show 2 < 48 from (by first | assumption | omega | (simp only [tpL_25, List.length_cons, List.length_nil]; omega)))) vX12_takesNumber ⟨w_968, w_25⟩ w_966 (by decide) e_202 rfl ⟨Nat.le_of_ble_eq_true rfl, Nat.le_of_ble_eq_true rfl⟩ hl.1 rfl (Nat.le_of_ble_eq_true rfl) ⟨Nat.zero_le _, Nat.zero_le _⟩ dX12_readRealm_72 (fun H locs hW hS => ?_)
              refine zi_beq (tgt := 90) hx hb dX12_readRealm_75 (by decide) (fun c75 => ?_) (fun c75 => ?_)
              · refine zi_con hx hb dX12_readRealm_90 ?_
                exact hret _ _ _ _ _ _ dX12_readRealm_91 hW hS ⟨by rw [if_neg (by unfold rdB; intro h9; rw [Bool.and_eq_true] at h9; have h8 := of_decide_eq_true h9.1; first | exact c36 h8.1 | exact c49 h8.2.1 | exact c62 h8.2.2.1 | exact c75 h8.2.2.2.1 | exact c87 h8.2.2.2.2)], by unfold rdS; first | (rw [if_neg (by exact c36)]; rfl) | (rw [if_pos (by exact c36), if_neg (by exact c49)]; rfl) | (rw [if_pos (by exact c36), if_pos (by exact c49), if_neg (by exact c62)]; rfl) | (rw [if_pos (by exact c36), if_pos (by exact c49), if_pos (by exact c62), if_neg (by exact c75)]; rfl) | (rw [if_pos (by exact c36), if_pos (by exact c49), if_pos (by exact c62), if_pos (by exact c75), if_neg (by exact c87)]; rfl)⟩
              · have hx4 := PS_la4 ⟨b3, hb3⟩ c75
                obtain ⟨b4, hb4⟩ := hx4
                have hW : wd D cy B (la4 σ) H := hW
                refine lv_aload_n hx hb dX12_readRealm_78 rfl (lv_at hl 1 rfl) ?_
                refine zi_con hx hb dX12_readRealm_79 ?_
                refine zi_con hx hb dX12_readRealm_80 ?_
                refine zi_con hx hb dX12_readRealm_81 ?_
                refine zi_bip hx hb dX12_readRealm_82 (by decide) ?_
                refine k_vi (fr := 5) (lo := 112) (r := (if ((la4 σ) 202 11 = 2 ∧ 0 ≤ (la4 σ) 202 12 ∧ (la4 σ) 202 12 ≤ 3) ∧ (ntk (up (la4 σ) 209 3 ((la4 σ) 202 12)) 202 11 = 1 ∧ ntk (up (la4 σ) 209 3 ((la4 σ) 202 12)) 202 12 = 59) then 1 else 0)) (σ' := (tnS ((la4 σ)) 0 3 3 59)) (As := [.int (iI (0)), .int (iI (3)), .int (iI (3)), .int (iI (59))]) (rest := []) hx hb hml hown hts hK hRf hRl hW hS (c_X12_takesNumber l D cy B (la4 σ) b4 0 3 3 59 (show -2147483648 ≤ 0 ∧ 0 < 2147483648 from (by first | assumption | omega | (simp only [tpL_25, List.length_cons, List.length_nil]; omega))) (show -2147483648 ≤ 3 ∧ 3 < 2147483648 from (by first | assumption | omega | (simp only [tpL_25, List.length_cons, List.length_nil]; omega))) (show -2147483648 ≤ 59 ∧ 59 < 2147483648 from (by first | assumption | omega | (simp only [tpL_25, List.length_cons, List.length_nil]; omega))) (show PS ((la4 σ)) b4 from hb4) (show 3 < 48 from (by first | assumption | omega | (simp only [tpL_25, List.length_cons, List.length_nil]; omega)))) vX12_takesNumber ⟨w_968, w_25⟩ w_966 (by decide) e_202 rfl ⟨Nat.le_of_ble_eq_true rfl, Nat.le_of_ble_eq_true rfl⟩ hl.1 rfl (Nat.le_of_ble_eq_true rfl) ⟨Nat.zero_le _, Nat.zero_le _⟩ dX12_readRealm_84 (fun H locs hW hS => ?_)
                refine zi_bne (tgt := 92) hx hb dX12_readRealm_87 (by decide) (fun c87 => ?_) (fun c87 => ?_)
                · have hx5 := PS_la5 ⟨b4, hb4⟩ c87
                  have hla := la5_4 σ
                  have hrd := rd_law (σ := σ) ⟨c36, c49, c62, c75, c87⟩
                  have hW : wd D cy B (la5 σ) H := hW
                  refine zi_con hx hb dX12_readRealm_92 ?_
                  refine lv_istore_n (lv' := [(1, .int (iI (1))), (0, .ref (B + 202))]) hx hb dX12_readRealm_93 rfl hl (by decide) rfl (fun ls hl => ?_)
                  have L94 : ∀ (n94 : Nat) (n_ : Nat) (x_ : Int) (τ_ : Sg) (H : Heap) (locs : List Loc) (ls : Array Slot), n_ < n94 → ((x_ = 1 ∧ (∃ b, PS τ_ b) ∧ (0 ≤ τ_ 209 4 ∧ τ_ 209 4 ≤ 4) ∧ n_ = 6 - (τ_ 209 4).toNat ∧ rrB 6 (la5 σ) = rrB n_ τ_ ∧ rrS 6 (la5 σ) = rrS n_ τ_) ∨ (x_ = 0 ∧ rrB 6 (la5 σ) = false ∧ rrS 6 (la5 σ) = τ_)) → wd D cy B τ_ H → va_S (AB B) s.heap H locs → lv_has ls 3 [(1, .int (iI (x_))), (0, .ref (B + 202))] → W p l e R s m args below meth c H locs 0 0 Q (F0 m 94 ls []) := by
                    intro n94
                    induction n94 with
                    | zero => intro n_ x_ τ_ H locs ls hms; omega
                    | succ n94 ih94 =>
                      intro n_ x_ τ_ H locs ls hms94 hI hW hS hl
                      refine lv_iload_n hx hb dX12_readRealm_94 rfl (lv_at hl 0 rfl) ?_
                      refine zi_eq (tgt := 204) hx hb dX12_readRealm_95 (by decide) (by (rcases hI with ⟨q1, -⟩ | ⟨q1, -⟩ <;> omega)) (fun c95 => ?_) (fun c95 => ?_)
                      · have hI2 := hI.resolve_left (fun h => by omega)
                        have hfin : rrB 6 (la5 σ) = decide (x_ = 1) ∧ rrS 6 (la5 σ) = τ_ := ⟨by rw [hI2.2.1, hI2.1]; rfl, hI2.2.2⟩
                        have hx01 : x_ = 0 ∨ x_ = 1 := by omega
                        refine lv_iload_n hx hb dX12_readRealm_204 rfl (lv_at hl 0 rfl) ?_
                        exact hret _ _ _ _ _ _ dX12_readRealm_205 hW hS ⟨by rw [hrd.1, hfin.1]; rcases hx01 with e9 | e9 <;> rw [e9] <;> rfl, by rw [hrd.2, hfin.2]⟩
                      · have hI2 := hI.resolve_right (fun h => c95 h.1)
                        obtain ⟨q1, ⟨b_, hps⟩, q3, q4, q5, q6⟩ := hI2
                        have hpb := PS_bd hps
                        have hnp : 0 < n_ := by omega
                        refine lv_aload_n hx hb dX12_readRealm_98 rfl (lv_at hl 1 rfl) ?_
                        refine wz_get hx hb hts hown hK hW 202 11 (by decide) e_202 rfl (by decide) inG12 w_826 rfl rfl dX12_readRealm_99 ?_
                        refine zi_con hx hb dX12_readRealm_102 ?_
                        refine zi_cne (tgt := 116) hx hb dX12_readRealm_103 (by decide) (by omega) (by omega) (fun c103 => ?_) (fun c103 => ?_)
                        · have J182 : ∀ (k_ : Int) (H : Heap) (locs : List Loc) (ls : Array Slot), (k_ = kd τ_) → (¬ (τ_ 202 11 = 3 ∧ 2 ≤ τ_ 209 4)) → wd D cy B τ_ H → va_S (AB B) s.heap H locs → lv_has ls 3 [(1, .int (iI (x_))), (0, .ref (B + 202))] → W p l e R s m args below meth c H locs 0 0 Q (F0 m 182 ls [.int (iI (k_))]) := by
                            intro k_ H locs ls hkd hne hW hS hl
                            have hkb := kd_bd τ_
                            refine lv_istore_n (lv' := [(2, .int (iI (k_))), (1, .int (iI (x_))), (0, .ref (B + 202))]) hx hb dX12_readRealm_182 rfl hl (by decide) rfl (fun ls hl => ?_)
                            refine lv_iload_n hx hb dX12_readRealm_183 rfl (lv_at hl 0 rfl) ?_
                            refine zi_le (tgt := 195) hx hb dX12_readRealm_184 (by decide) (by omega) (fun c184 => ?_) (fun c184 => ?_)
                            · refine lv_aload_n hx hb dX12_readRealm_195 rfl (lv_at hl 2 rfl) ?_
                              refine zi_con hx hb dX12_readRealm_196 ?_
                              refine k_vi (fr := 5) (lo := 112) (r := (if False then 1 else 0)) (σ' := (up τ_ 202 14 1)) (As := [.int (iI (1))]) (rest := []) hx hb hml hown hts hK hRf hRl hW hS (c_X12_faults l D cy B τ_ 1 ) vX12_faults ⟨w_964, w_24⟩ w_962 (by decide) e_202 rfl ⟨Nat.le_of_ble_eq_true rfl, Nat.le_of_ble_eq_true rfl⟩ hl.1 rfl (Nat.le_of_ble_eq_true rfl) ⟨Nat.zero_le _, Nat.zero_le _⟩ dX12_readRealm_197 (fun H locs hW hS => ?_)
                              have hst9 := rr_stop hnp q5 q6 hne (by omega)
                              refine lv_istore_n (lv' := [(1, .int (iI (if False then 1 else 0))), (2, .int (iI (k_))), (0, .ref (B + 202))]) hx hb dX12_readRealm_200 rfl hl (by decide) rfl (fun ls hl => ?_)
                              refine lv_goto (tgt := 94) hx hb dX12_readRealm_201 (by decide) ?_
                              exact ih94 (n_ - 1) (if False then 1 else 0) (up τ_ 202 14 1) _ _ _ (by omega) (Or.inr ⟨by simp, hst9.1, hst9.2⟩) hW hS (lv_sub hl [0, 2] rfl)
                            · refine lv_aload_n hx hb dX12_readRealm_187 rfl (lv_at hl 2 rfl) ?_
                              refine lv_iload_n hx hb dX12_readRealm_188 rfl (lv_at hl 0 rfl) ?_
                              refine k_vi (fr := 5) (lo := 112) (r := (if rhB (τ_) k_ then 1 else 0)) (σ' := (rhS (τ_) k_)) (As := [.int (iI (k_))]) (rest := []) hx hb hml hown hts hK hRf hRl hW hS (c_X12_readHeir l D cy B τ_ b_ k_ (show -2147483648 ≤ k_ ∧ k_ < 2147483648 from (by first | assumption | omega | (simp only [tpL_25, List.length_cons, List.length_nil]; omega))) (show PS (τ_) b_ from hps) (show 0 ≤ τ_ 209 4 ∧ τ_ 209 4 ≤ 4 from q3)) vX12_readHeir ⟨w_972, w_26⟩ w_970 (by decide) e_202 rfl ⟨Nat.le_of_ble_eq_true rfl, Nat.le_of_ble_eq_true rfl⟩ hl.1 rfl (Nat.le_of_ble_eq_true rfl) ⟨Nat.zero_le _, Nat.zero_le _⟩ dX12_readRealm_189 (fun H locs hW hS => ?_)
                              have hJ9 := rr_step (σ := σ) hps q3 q4 q5 q6 hne (by omega)
                              rw [← hkd] at hJ9
                              refine lv_goto (tgt := 200) hx hb dX12_readRealm_192 (by decide) ?_
                              refine lv_istore_n (lv' := [(1, .int (iI (if rhB (τ_) k_ then 1 else 0))), (2, .int (iI (k_))), (0, .ref (B + 202))]) hx hb dX12_readRealm_200 rfl hl (by decide) rfl (fun ls hl => ?_)
                              refine lv_goto (tgt := 94) hx hb dX12_readRealm_201 (by decide) ?_
                              exact ih94 (n_ - 1) (if rhB τ_ k_ then 1 else 0) (rhS τ_ k_) _ _ _ (by omega) hJ9 hW hS (lv_sub hl [0, 2] rfl)
                          refine lv_aload_n hx hb dX12_readRealm_116 rfl (lv_at hl 1 rfl) ?_
                          refine zi_bip hx hb dX12_readRealm_117 (by decide) ?_
                          refine k_vi (fr := 5) (lo := 112) (r := (if τ_ 202 11 = 1 ∧ τ_ 202 12 = 112 then 1 else 0)) (As := [.int (iI (112))]) (rest := []) hx hb hml hown hts hK hRf hRl hW hS (c_X12_isLetter l D cy B τ_ 112 (show -2147483648 ≤ 112 ∧ 112 < 2147483648 from (by first | assumption | omega | (simp only [tpL_25, List.length_cons, List.length_nil]; omega))) (show 0 ≤ τ_ 202 11 ∧ τ_ 202 11 ≤ 3 from (by first | assumption | omega | (simp only [tpL_25, List.length_cons, List.length_nil]; omega))) (show 0 ≤ τ_ 202 12 ∧ τ_ 202 12 ≤ 999 from (by first | assumption | omega | (simp only [tpL_25, List.length_cons, List.length_nil]; omega)))) vX12_isLetter ⟨w_960, w_23⟩ w_958 (by decide) e_202 rfl ⟨Nat.le_of_ble_eq_true rfl, Nat.le_of_ble_eq_true rfl⟩ hl.1 rfl (Nat.le_of_ble_eq_true rfl) ⟨Nat.zero_le _, Nat.zero_le _⟩ dX12_readRealm_119 (fun H locs hW hS => ?_)
                          refine zi_beq (tgt := 129) hx hb dX12_readRealm_122 (by decide) (fun c122 => ?_) (fun c122 => ?_)
                          · refine lv_aload_n hx hb dX12_readRealm_129 rfl (lv_at hl 1 rfl) ?_
                            refine zi_bip hx hb dX12_readRealm_130 (by decide) ?_
                            refine k_vi (fr := 5) (lo := 112) (r := (if τ_ 202 11 = 1 ∧ τ_ 202 12 = 115 then 1 else 0)) (As := [.int (iI (115))]) (rest := []) hx hb hml hown hts hK hRf hRl hW hS (c_X12_isLetter l D cy B τ_ 115 (show -2147483648 ≤ 115 ∧ 115 < 2147483648 from (by first | assumption | omega | (simp only [tpL_25, List.length_cons, List.length_nil]; omega))) (show 0 ≤ τ_ 202 11 ∧ τ_ 202 11 ≤ 3 from (by first | assumption | omega | (simp only [tpL_25, List.length_cons, List.length_nil]; omega))) (show 0 ≤ τ_ 202 12 ∧ τ_ 202 12 ≤ 999 from (by first | assumption | omega | (simp only [tpL_25, List.length_cons, List.length_nil]; omega)))) vX12_isLetter ⟨w_960, w_23⟩ w_958 (by decide) e_202 rfl ⟨Nat.le_of_ble_eq_true rfl, Nat.le_of_ble_eq_true rfl⟩ hl.1 rfl (Nat.le_of_ble_eq_true rfl) ⟨Nat.zero_le _, Nat.zero_le _⟩ dX12_readRealm_132 (fun H locs hW hS => ?_)
                            refine zi_beq (tgt := 142) hx hb dX12_readRealm_135 (by decide) (fun c135 => ?_) (fun c135 => ?_)
                            · refine lv_aload_n hx hb dX12_readRealm_142 rfl (lv_at hl 1 rfl) ?_
                              refine zi_bip hx hb dX12_readRealm_143 (by decide) ?_
                              refine k_vi (fr := 5) (lo := 112) (r := (if τ_ 202 11 = 1 ∧ τ_ 202 12 = 106 then 1 else 0)) (As := [.int (iI (106))]) (rest := []) hx hb hml hown hts hK hRf hRl hW hS (c_X12_isLetter l D cy B τ_ 106 (show -2147483648 ≤ 106 ∧ 106 < 2147483648 from (by first | assumption | omega | (simp only [tpL_25, List.length_cons, List.length_nil]; omega))) (show 0 ≤ τ_ 202 11 ∧ τ_ 202 11 ≤ 3 from (by first | assumption | omega | (simp only [tpL_25, List.length_cons, List.length_nil]; omega))) (show 0 ≤ τ_ 202 12 ∧ τ_ 202 12 ≤ 999 from (by first | assumption | omega | (simp only [tpL_25, List.length_cons, List.length_nil]; omega)))) vX12_isLetter ⟨w_960, w_23⟩ w_958 (by decide) e_202 rfl ⟨Nat.le_of_ble_eq_true rfl, Nat.le_of_ble_eq_true rfl⟩ hl.1 rfl (Nat.le_of_ble_eq_true rfl) ⟨Nat.zero_le _, Nat.zero_le _⟩ dX12_readRealm_145 (fun H locs hW hS => ?_)
                              refine zi_beq (tgt := 155) hx hb dX12_readRealm_148 (by decide) (fun c148 => ?_) (fun c148 => ?_)
                              · refine lv_aload_n hx hb dX12_readRealm_155 rfl (lv_at hl 1 rfl) ?_
                                refine zi_bip hx hb dX12_readRealm_156 (by decide) ?_
                                refine k_vi (fr := 5) (lo := 112) (r := (if τ_ 202 11 = 1 ∧ τ_ 202 12 = 113 then 1 else 0)) (As := [.int (iI (113))]) (rest := []) hx hb hml hown hts hK hRf hRl hW hS (c_X12_isLetter l D cy B τ_ 113 (show -2147483648 ≤ 113 ∧ 113 < 2147483648 from (by first | assumption | omega | (simp only [tpL_25, List.length_cons, List.length_nil]; omega))) (show 0 ≤ τ_ 202 11 ∧ τ_ 202 11 ≤ 3 from (by first | assumption | omega | (simp only [tpL_25, List.length_cons, List.length_nil]; omega))) (show 0 ≤ τ_ 202 12 ∧ τ_ 202 12 ≤ 999 from (by first | assumption | omega | (simp only [tpL_25, List.length_cons, List.length_nil]; omega)))) vX12_isLetter ⟨w_960, w_23⟩ w_958 (by decide) e_202 rfl ⟨Nat.le_of_ble_eq_true rfl, Nat.le_of_ble_eq_true rfl⟩ hl.1 rfl (Nat.le_of_ble_eq_true rfl) ⟨Nat.zero_le _, Nat.zero_le _⟩ dX12_readRealm_158 (fun H locs hW hS => ?_)
                                refine zi_beq (tgt := 168) hx hb dX12_readRealm_161 (by decide) (fun c161 => ?_) (fun c161 => ?_)
                                · refine lv_aload_n hx hb dX12_readRealm_168 rfl (lv_at hl 1 rfl) ?_
                                  refine zi_bip hx hb dX12_readRealm_169 (by decide) ?_
                                  refine k_vi (fr := 5) (lo := 112) (r := (if τ_ 202 11 = 1 ∧ τ_ 202 12 = 105 then 1 else 0)) (As := [.int (iI (105))]) (rest := []) hx hb hml hown hts hK hRf hRl hW hS (c_X12_isLetter l D cy B τ_ 105 (show -2147483648 ≤ 105 ∧ 105 < 2147483648 from (by first | assumption | omega | (simp only [tpL_25, List.length_cons, List.length_nil]; omega))) (show 0 ≤ τ_ 202 11 ∧ τ_ 202 11 ≤ 3 from (by first | assumption | omega | (simp only [tpL_25, List.length_cons, List.length_nil]; omega))) (show 0 ≤ τ_ 202 12 ∧ τ_ 202 12 ≤ 999 from (by first | assumption | omega | (simp only [tpL_25, List.length_cons, List.length_nil]; omega)))) vX12_isLetter ⟨w_960, w_23⟩ w_958 (by decide) e_202 rfl ⟨Nat.le_of_ble_eq_true rfl, Nat.le_of_ble_eq_true rfl⟩ hl.1 rfl (Nat.le_of_ble_eq_true rfl) ⟨Nat.zero_le _, Nat.zero_le _⟩ dX12_readRealm_171 (fun H locs hW hS => ?_)
                                  refine zi_beq (tgt := 181) hx hb dX12_readRealm_174 (by decide) (fun c174 => ?_) (fun c174 => ?_)
                                  · refine zi_con hx hb dX12_readRealm_181 ?_
                                    exact J182 0 _ _ _ (by unfold kd; (repeat' split) <;> first | rfl | omega) (by omega) hW hS (lv_sub hl [0, 1] rfl)
                                  · refine zi_con hx hb dX12_readRealm_177 ?_
                                    refine lv_goto (tgt := 182) hx hb dX12_readRealm_178 (by decide) ?_
                                    exact J182 5 _ _ _ (by unfold kd; (repeat' split) <;> first | rfl | omega) (by omega) hW hS (lv_sub hl [0, 1] rfl)
                                · refine zi_con hx hb dX12_readRealm_164 ?_
                                  refine lv_goto (tgt := 182) hx hb dX12_readRealm_165 (by decide) ?_
                                  exact J182 4 _ _ _ (by unfold kd; (repeat' split) <;> first | rfl | omega) (by omega) hW hS (lv_sub hl [0, 1] rfl)
                              · refine zi_con hx hb dX12_readRealm_151 ?_
                                refine lv_goto (tgt := 182) hx hb dX12_readRealm_152 (by decide) ?_
                                exact J182 3 _ _ _ (by unfold kd; (repeat' split) <;> first | rfl | omega) (by omega) hW hS (lv_sub hl [0, 1] rfl)
                            · refine zi_con hx hb dX12_readRealm_138 ?_
                              refine lv_goto (tgt := 182) hx hb dX12_readRealm_139 (by decide) ?_
                              exact J182 2 _ _ _ (by unfold kd; (repeat' split) <;> first | rfl | omega) (by omega) hW hS (lv_sub hl [0, 1] rfl)
                          · refine zi_con hx hb dX12_readRealm_125 ?_
                            refine lv_goto (tgt := 182) hx hb dX12_readRealm_126 (by decide) ?_
                            exact J182 1 _ _ _ (by unfold kd; (repeat' split) <;> first | rfl | omega) (by omega) hW hS (lv_sub hl [0, 1] rfl)
                        · refine lv_aload_n hx hb dX12_readRealm_106 rfl (lv_at hl 1 rfl) ?_
                          refine wz_get hx hb hts hown hK hW 202 15 (by decide) e_202 rfl (by decide) inG12 w_830 rfl rfl dX12_readRealm_107 ?_
                          refine zi_con hx hb dX12_readRealm_110 ?_
                          refine wz_ald hx hb hK hW 209 4 (by decide) e_209 (by omega) (by omega) (by decide) dX12_readRealm_111 ?_
                          refine zi_con hx hb dX12_readRealm_112 ?_
                          refine zi_cge (tgt := 204) hx hb dX12_readRealm_113 (by decide) (by omega) (by omega) (fun c113 => ?_) (fun c113 => ?_)
                          · have hen := rr_end hnp q5 q6 (by omega)
                            have hfin : rrB 6 (la5 σ) = decide (x_ = 1) ∧ rrS 6 (la5 σ) = τ_ := ⟨by rw [hen.1, q1]; rfl, hen.2⟩
                            have hx01 : x_ = 0 ∨ x_ = 1 := by omega
                            refine lv_iload_n hx hb dX12_readRealm_204 rfl (lv_at hl 0 rfl) ?_
                            exact hret _ _ _ _ _ _ dX12_readRealm_205 hW hS ⟨by rw [hrd.1, hfin.1]; rcases hx01 with e9 | e9 <;> rw [e9] <;> rfl, by rw [hrd.2, hfin.2]⟩
                          · have J182 : ∀ (k_ : Int) (H : Heap) (locs : List Loc) (ls : Array Slot), (k_ = kd τ_) → (¬ (τ_ 202 11 = 3 ∧ 2 ≤ τ_ 209 4)) → wd D cy B τ_ H → va_S (AB B) s.heap H locs → lv_has ls 3 [(1, .int (iI (x_))), (0, .ref (B + 202))] → W p l e R s m args below meth c H locs 0 0 Q (F0 m 182 ls [.int (iI (k_))]) := by
                              intro k_ H locs ls hkd hne hW hS hl
                              have hkb := kd_bd τ_
                              refine lv_istore_n (lv' := [(2, .int (iI (k_))), (1, .int (iI (x_))), (0, .ref (B + 202))]) hx hb dX12_readRealm_182 rfl hl (by decide) rfl (fun ls hl => ?_)
                              refine lv_iload_n hx hb dX12_readRealm_183 rfl (lv_at hl 0 rfl) ?_
                              refine zi_le (tgt := 195) hx hb dX12_readRealm_184 (by decide) (by omega) (fun c184 => ?_) (fun c184 => ?_)
                              · refine lv_aload_n hx hb dX12_readRealm_195 rfl (lv_at hl 2 rfl) ?_
                                refine zi_con hx hb dX12_readRealm_196 ?_
                                refine k_vi (fr := 5) (lo := 112) (r := (if False then 1 else 0)) (σ' := (up τ_ 202 14 1)) (As := [.int (iI (1))]) (rest := []) hx hb hml hown hts hK hRf hRl hW hS (c_X12_faults l D cy B τ_ 1 ) vX12_faults ⟨w_964, w_24⟩ w_962 (by decide) e_202 rfl ⟨Nat.le_of_ble_eq_true rfl, Nat.le_of_ble_eq_true rfl⟩ hl.1 rfl (Nat.le_of_ble_eq_true rfl) ⟨Nat.zero_le _, Nat.zero_le _⟩ dX12_readRealm_197 (fun H locs hW hS => ?_)
                                have hst9 := rr_stop hnp q5 q6 hne (by omega)
                                refine lv_istore_n (lv' := [(1, .int (iI (if False then 1 else 0))), (2, .int (iI (k_))), (0, .ref (B + 202))]) hx hb dX12_readRealm_200 rfl hl (by decide) rfl (fun ls hl => ?_)
                                refine lv_goto (tgt := 94) hx hb dX12_readRealm_201 (by decide) ?_
                                exact ih94 (n_ - 1) (if False then 1 else 0) (up τ_ 202 14 1) _ _ _ (by omega) (Or.inr ⟨by simp, hst9.1, hst9.2⟩) hW hS (lv_sub hl [0, 2] rfl)
                              · refine lv_aload_n hx hb dX12_readRealm_187 rfl (lv_at hl 2 rfl) ?_
                                refine lv_iload_n hx hb dX12_readRealm_188 rfl (lv_at hl 0 rfl) ?_
                                refine k_vi (fr := 5) (lo := 112) (r := (if rhB (τ_) k_ then 1 else 0)) (σ' := (rhS (τ_) k_)) (As := [.int (iI (k_))]) (rest := []) hx hb hml hown hts hK hRf hRl hW hS (c_X12_readHeir l D cy B τ_ b_ k_ (show -2147483648 ≤ k_ ∧ k_ < 2147483648 from (by first | assumption | omega | (simp only [tpL_25, List.length_cons, List.length_nil]; omega))) (show PS (τ_) b_ from hps) (show 0 ≤ τ_ 209 4 ∧ τ_ 209 4 ≤ 4 from q3)) vX12_readHeir ⟨w_972, w_26⟩ w_970 (by decide) e_202 rfl ⟨Nat.le_of_ble_eq_true rfl, Nat.le_of_ble_eq_true rfl⟩ hl.1 rfl (Nat.le_of_ble_eq_true rfl) ⟨Nat.zero_le _, Nat.zero_le _⟩ dX12_readRealm_189 (fun H locs hW hS => ?_)
                                have hJ9 := rr_step (σ := σ) hps q3 q4 q5 q6 hne (by omega)
                                rw [← hkd] at hJ9
                                refine lv_goto (tgt := 200) hx hb dX12_readRealm_192 (by decide) ?_
                                refine lv_istore_n (lv' := [(1, .int (iI (if rhB (τ_) k_ then 1 else 0))), (2, .int (iI (k_))), (0, .ref (B + 202))]) hx hb dX12_readRealm_200 rfl hl (by decide) rfl (fun ls hl => ?_)
                                refine lv_goto (tgt := 94) hx hb dX12_readRealm_201 (by decide) ?_
                                exact ih94 (n_ - 1) (if rhB τ_ k_ then 1 else 0) (rhS τ_ k_) _ _ _ (by omega) hJ9 hW hS (lv_sub hl [0, 2] rfl)
                            refine lv_aload_n hx hb dX12_readRealm_116 rfl (lv_at hl 1 rfl) ?_
                            refine zi_bip hx hb dX12_readRealm_117 (by decide) ?_
                            refine k_vi (fr := 5) (lo := 112) (r := (if τ_ 202 11 = 1 ∧ τ_ 202 12 = 112 then 1 else 0)) (As := [.int (iI (112))]) (rest := []) hx hb hml hown hts hK hRf hRl hW hS (c_X12_isLetter l D cy B τ_ 112 (show -2147483648 ≤ 112 ∧ 112 < 2147483648 from (by first | assumption | omega | (simp only [tpL_25, List.length_cons, List.length_nil]; omega))) (show 0 ≤ τ_ 202 11 ∧ τ_ 202 11 ≤ 3 from (by first | assumption | omega | (simp only [tpL_25, List.length_cons, List.length_nil]; omega))) (show 0 ≤ τ_ 202 12 ∧ τ_ 202 12 ≤ 999 from (by first | assumption | omega | (simp only [tpL_25, List.length_cons, List.length_nil]; omega)))) vX12_isLetter ⟨w_960, w_23⟩ w_958 (by decide) e_202 rfl ⟨Nat.le_of_ble_eq_true rfl, Nat.le_of_ble_eq_true rfl⟩ hl.1 rfl (Nat.le_of_ble_eq_true rfl) ⟨Nat.zero_le _, Nat.zero_le _⟩ dX12_readRealm_119 (fun H locs hW hS => ?_)
                            refine zi_beq (tgt := 129) hx hb dX12_readRealm_122 (by decide) (fun c122 => ?_) (fun c122 => ?_)
                            · refine lv_aload_n hx hb dX12_readRealm_129 rfl (lv_at hl 1 rfl) ?_
                              refine zi_bip hx hb dX12_readRealm_130 (by decide) ?_
                              refine k_vi (fr := 5) (lo := 112) (r := (if τ_ 202 11 = 1 ∧ τ_ 202 12 = 115 then 1 else 0)) (As := [.int (iI (115))]) (rest := []) hx hb hml hown hts hK hRf hRl hW hS (c_X12_isLetter l D cy B τ_ 115 (show -2147483648 ≤ 115 ∧ 115 < 2147483648 from (by first | assumption | omega | (simp only [tpL_25, List.length_cons, List.length_nil]; omega))) (show 0 ≤ τ_ 202 11 ∧ τ_ 202 11 ≤ 3 from (by first | assumption | omega | (simp only [tpL_25, List.length_cons, List.length_nil]; omega))) (show 0 ≤ τ_ 202 12 ∧ τ_ 202 12 ≤ 999 from (by first | assumption | omega | (simp only [tpL_25, List.length_cons, List.length_nil]; omega)))) vX12_isLetter ⟨w_960, w_23⟩ w_958 (by decide) e_202 rfl ⟨Nat.le_of_ble_eq_true rfl, Nat.le_of_ble_eq_true rfl⟩ hl.1 rfl (Nat.le_of_ble_eq_true rfl) ⟨Nat.zero_le _, Nat.zero_le _⟩ dX12_readRealm_132 (fun H locs hW hS => ?_)
                              refine zi_beq (tgt := 142) hx hb dX12_readRealm_135 (by decide) (fun c135 => ?_) (fun c135 => ?_)
                              · refine lv_aload_n hx hb dX12_readRealm_142 rfl (lv_at hl 1 rfl) ?_
                                refine zi_bip hx hb dX12_readRealm_143 (by decide) ?_
                                refine k_vi (fr := 5) (lo := 112) (r := (if τ_ 202 11 = 1 ∧ τ_ 202 12 = 106 then 1 else 0)) (As := [.int (iI (106))]) (rest := []) hx hb hml hown hts hK hRf hRl hW hS (c_X12_isLetter l D cy B τ_ 106 (show -2147483648 ≤ 106 ∧ 106 < 2147483648 from (by first | assumption | omega | (simp only [tpL_25, List.length_cons, List.length_nil]; omega))) (show 0 ≤ τ_ 202 11 ∧ τ_ 202 11 ≤ 3 from (by first | assumption | omega | (simp only [tpL_25, List.length_cons, List.length_nil]; omega))) (show 0 ≤ τ_ 202 12 ∧ τ_ 202 12 ≤ 999 from (by first | assumption | omega | (simp only [tpL_25, List.length_cons, List.length_nil]; omega)))) vX12_isLetter ⟨w_960, w_23⟩ w_958 (by decide) e_202 rfl ⟨Nat.le_of_ble_eq_true rfl, Nat.le_of_ble_eq_true rfl⟩ hl.1 rfl (Nat.le_of_ble_eq_true rfl) ⟨Nat.zero_le _, Nat.zero_le _⟩ dX12_readRealm_145 (fun H locs hW hS => ?_)
                                refine zi_beq (tgt := 155) hx hb dX12_readRealm_148 (by decide) (fun c148 => ?_) (fun c148 => ?_)
                                · refine lv_aload_n hx hb dX12_readRealm_155 rfl (lv_at hl 1 rfl) ?_
                                  refine zi_bip hx hb dX12_readRealm_156 (by decide) ?_
                                  refine k_vi (fr := 5) (lo := 112) (r := (if τ_ 202 11 = 1 ∧ τ_ 202 12 = 113 then 1 else 0)) (As := [.int (iI (113))]) (rest := []) hx hb hml hown hts hK hRf hRl hW hS (c_X12_isLetter l D cy B τ_ 113 (show -2147483648 ≤ 113 ∧ 113 < 2147483648 from (by first | assumption | omega | (simp only [tpL_25, List.length_cons, List.length_nil]; omega))) (show 0 ≤ τ_ 202 11 ∧ τ_ 202 11 ≤ 3 from (by first | assumption | omega | (simp only [tpL_25, List.length_cons, List.length_nil]; omega))) (show 0 ≤ τ_ 202 12 ∧ τ_ 202 12 ≤ 999 from (by first | assumption | omega | (simp only [tpL_25, List.length_cons, List.length_nil]; omega)))) vX12_isLetter ⟨w_960, w_23⟩ w_958 (by decide) e_202 rfl ⟨Nat.le_of_ble_eq_true rfl, Nat.le_of_ble_eq_true rfl⟩ hl.1 rfl (Nat.le_of_ble_eq_true rfl) ⟨Nat.zero_le _, Nat.zero_le _⟩ dX12_readRealm_158 (fun H locs hW hS => ?_)
                                  refine zi_beq (tgt := 168) hx hb dX12_readRealm_161 (by decide) (fun c161 => ?_) (fun c161 => ?_)
                                  · refine lv_aload_n hx hb dX12_readRealm_168 rfl (lv_at hl 1 rfl) ?_
                                    refine zi_bip hx hb dX12_readRealm_169 (by decide) ?_
                                    refine k_vi (fr := 5) (lo := 112) (r := (if τ_ 202 11 = 1 ∧ τ_ 202 12 = 105 then 1 else 0)) (As := [.int (iI (105))]) (rest := []) hx hb hml hown hts hK hRf hRl hW hS (c_X12_isLetter l D cy B τ_ 105 (show -2147483648 ≤ 105 ∧ 105 < 2147483648 from (by first | assumption | omega | (simp only [tpL_25, List.length_cons, List.length_nil]; omega))) (show 0 ≤ τ_ 202 11 ∧ τ_ 202 11 ≤ 3 from (by first | assumption | omega | (simp only [tpL_25, List.length_cons, List.length_nil]; omega))) (show 0 ≤ τ_ 202 12 ∧ τ_ 202 12 ≤ 999 from (by first | assumption | omega | (simp only [tpL_25, List.length_cons, List.length_nil]; omega)))) vX12_isLetter ⟨w_960, w_23⟩ w_958 (by decide) e_202 rfl ⟨Nat.le_of_ble_eq_true rfl, Nat.le_of_ble_eq_true rfl⟩ hl.1 rfl (Nat.le_of_ble_eq_true rfl) ⟨Nat.zero_le _, Nat.zero_le _⟩ dX12_readRealm_171 (fun H locs hW hS => ?_)
                                    refine zi_beq (tgt := 181) hx hb dX12_readRealm_174 (by decide) (fun c174 => ?_) (fun c174 => ?_)
                                    · refine zi_con hx hb dX12_readRealm_181 ?_
                                      exact J182 0 _ _ _ (by unfold kd; (repeat' split) <;> first | rfl | omega) (by omega) hW hS (lv_sub hl [0, 1] rfl)
                                    · refine zi_con hx hb dX12_readRealm_177 ?_
                                      refine lv_goto (tgt := 182) hx hb dX12_readRealm_178 (by decide) ?_
                                      exact J182 5 _ _ _ (by unfold kd; (repeat' split) <;> first | rfl | omega) (by omega) hW hS (lv_sub hl [0, 1] rfl)
                                  · refine zi_con hx hb dX12_readRealm_164 ?_
                                    refine lv_goto (tgt := 182) hx hb dX12_readRealm_165 (by decide) ?_
                                    exact J182 4 _ _ _ (by unfold kd; (repeat' split) <;> first | rfl | omega) (by omega) hW hS (lv_sub hl [0, 1] rfl)
                                · refine zi_con hx hb dX12_readRealm_151 ?_
                                  refine lv_goto (tgt := 182) hx hb dX12_readRealm_152 (by decide) ?_
                                  exact J182 3 _ _ _ (by unfold kd; (repeat' split) <;> first | rfl | omega) (by omega) hW hS (lv_sub hl [0, 1] rfl)
                              · refine zi_con hx hb dX12_readRealm_138 ?_
                                refine lv_goto (tgt := 182) hx hb dX12_readRealm_139 (by decide) ?_
                                exact J182 2 _ _ _ (by unfold kd; (repeat' split) <;> first | rfl | omega) (by omega) hW hS (lv_sub hl [0, 1] rfl)
                            · refine zi_con hx hb dX12_readRealm_125 ?_
                              refine lv_goto (tgt := 182) hx hb dX12_readRealm_126 (by decide) ?_
                              exact J182 1 _ _ _ (by unfold kd; (repeat' split) <;> first | rfl | omega) (by omega) hW hS (lv_sub hl [0, 1] rfl)
                  exact L94 _ 6 1 (la5 σ) _ _ _ (Nat.lt_succ_self _) (Or.inl ⟨rfl, hx5, by rw [hla]; omega, by rw [hla]; rfl, rfl, rfl⟩) hW hS (lv_sub hl [0, 1] rfl)
                · refine zi_con hx hb dX12_readRealm_90 ?_
                  exact hret _ _ _ _ _ _ dX12_readRealm_91 hW hS ⟨by rw [if_neg (by unfold rdB; intro h9; rw [Bool.and_eq_true] at h9; have h8 := of_decide_eq_true h9.1; first | exact c36 h8.1 | exact c49 h8.2.1 | exact c62 h8.2.2.1 | exact c75 h8.2.2.2.1 | exact c87 h8.2.2.2.2)], by unfold rdS; first | (rw [if_neg (by exact c36)]; rfl) | (rw [if_pos (by exact c36), if_neg (by exact c49)]; rfl) | (rw [if_pos (by exact c36), if_pos (by exact c49), if_neg (by exact c62)]; rfl) | (rw [if_pos (by exact c36), if_pos (by exact c49), if_pos (by exact c62), if_neg (by exact c75)]; rfl) | (rw [if_pos (by exact c36), if_pos (by exact c49), if_pos (by exact c62), if_pos (by exact c75), if_neg (by exact c87)]; rfl)⟩
      · refine lv_aload_n hx hb dX12_readRealm_13 rfl (lv_at hl 1 rfl) ?_
        refine wz_get hx hb hts hown hK hW 202 15 (by decide) e_202 rfl (by decide) inG12 w_830 rfl rfl dX12_readRealm_14 ?_
        refine lv_iload_n hx hb dX12_readRealm_17 rfl (lv_at hl 0 rfl) ?_
        refine zi_con hx hb dX12_readRealm_18 ?_
        refine wz_ast (σ' := (up (us (up σ 202 10 0) 209 (cpy k_ (fun _ => 0) ((up σ 202 10 0) 209))) 209 k_ 0)) hx hb hK hW hS 209 k_ (by decide) e_209 (by omega) (by omega) (by decide) p_209 dX12_readRealm_19 (fun H locs hW hS => ?_)
        refine lv_iinc (v := iI (((k_ : Nat) : Int) + 1)) (lv' := [(1, .int (iI (((k_ : Nat) : Int) + 1))), (0, .ref (B + 202))]) hx hb dX12_readRealm_20 hl (k := 0) rfl (iI_add _ _) (by decide) rfl (fun ls hl => ?_)
        refine lv_goto (tgt := 7) hx hb dX12_readRealm_23 (by decide) ?_
        exact ih7 (k_ + 1) _ _ _ (by omega) (by omega) (by rw [← up_cpy]; exact hW) hS (lv_sub hl [0, 1] rfl)
  exact L7 _ 0 _ _ _ (Nat.lt_succ_self _) (by omega) (by rw [us_cpy0]; exact hW) hS (lv_sub hl [0, 1] rfl)
