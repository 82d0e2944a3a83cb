
set_option maxRecDepth 100000 in
set_option maxHeartbeats 4000000 in
theorem c_X12_nextToken (l : Launch) (D : va_G) (cy : Nat → ClassId) (B : Nat) (σ : Sg)  (hLq : (0 ≤ σ 202 10 ∧ σ 202 10 ≤ σ 202 8) ∧ σ 202 8 ≤ 100) (htp : ∀ k, k < 100 → 0 ≤ σ 208 k ∧ σ 208 k ≤ 255) : CV l yX12_nextToken cX12_nextToken 1 1 25 D cy B [.ref (B + 202)] σ (ntk σ) := by
  refine CV_of (by decide) (Nat.le_of_ble_eq_true rfl) ?_
  intro p e R s m args below meth c Q hx hb hml hown hts hK hRf hRl hW hret ls hl
  have hown : s.vm.findClass "LovePartsModel" = some m.cls := hown
  have hS : va_S (AB B) s.heap s.heap [] := va_S.rf
  have hl : lv_has ls 1 [(0, .ref (B + 202))] := hl
  obtain ⟨q_, hq⟩ : ∃ q : Nat, σ 202 10 = (q : Int) := ⟨(σ 202 10).toNat, by omega⟩
  obtain ⟨L_, hL⟩ : ∃ q : Nat, σ 202 8 = (q : Int) := ⟨(σ 202 8).toNat, by omega⟩
  have hntk : ntk σ = us σ 202 (nk (σ 202) (tk (σ 208) L_ q_) (tv (σ 208) L_ q_) ((tpl (σ 208) L_ q_ : Nat) : Int)) := by unfold ntk; rw [hq, hL, Int.toNat_natCast, Int.toNat_natCast]
  refine lv_aload_n hx hb dX12_nextToken_0 rfl (lv_at hl 0 rfl) ?_
  refine lv_aload_n hx hb dX12_nextToken_1 rfl (lv_at hl 0 rfl) ?_
  refine wz_get hx hb hts hown hK hW 202 10 (by decide) e_202 rfl (by decide) inG12 w_825 rfl rfl dX12_nextToken_2 ?_
  refine wz_put (σ' := (up σ 202 13 (σ 202 10))) (ty := .int) hx hb hts hown hK hW hS 202 13 tyX12 (by decide) e_202 rfl (by decide) inG12 tyX12_ok nmX12 w_828 ⟨rfl, rfl, Nat.le_of_ble_eq_true rfl⟩ (by decide +kernel) ⟨rfl, rfl⟩ p_202_13 dX12_nextToken_5 (fun H locs hW hS => ?_)
  refine lv_aload_n hx hb dX12_nextToken_8 rfl (lv_at hl 0 rfl) ?_
  refine lv_aload_n hx hb dX12_nextToken_9 rfl (lv_at hl 0 rfl) ?_
  refine wz_get hx hb hts hown hK hW 202 10 (by decide) e_202 rfl (by decide) inG12 w_825 rfl rfl dX12_nextToken_10 ?_
  refine zi_top (y := σ 202 10) (by (first | rfl | (simp [us, uf, nS] <;> omega))) ?_
  refine lv_aload_n hx hb dX12_nextToken_13 rfl (lv_at hl 0 rfl) ?_
  refine wz_get hx hb hts hown hK hW 202 8 (by decide) e_202 rfl (by decide) inG12 w_823 rfl rfl dX12_nextToken_14 ?_
  refine zi_top (y := σ 202 8) (by (first | rfl | (simp [us, uf, nS] <;> omega))) ?_
  have J25 : ∀ (x_ : Int) (H : Heap) (locs : List Loc) (ls : Array Slot), ((x_ = 3 ∧ q_ = L_) ∨ (x_ = 0 ∧ ¬ q_ = L_)) → wd D cy B (up σ 202 13 (σ 202 10)) H → va_S (AB B) s.heap H locs → lv_has ls 1 [(0, .ref (B + 202))] → W p l e R s m args below meth c H locs 0 0 Q (F0 m 25 ls [.int (iI (x_)), .ref (B + 202)]) := by
    intro x_ H locs ls hx2 hW hS hl
    refine wz_put (σ' := (up (up σ 202 13 (σ 202 10)) 202 11 x_)) (ty := .int) hx hb hts hown hK hW hS 202 11 tyX12 (by decide) e_202 rfl (by decide) inG12 tyX12_ok nmX12 w_826 ⟨rfl, rfl, Nat.le_of_ble_eq_true rfl⟩ (by decide +kernel) ⟨rfl, rfl⟩ p_202_11 dX12_nextToken_25 (fun H locs hW hS => ?_)
    refine lv_aload_n hx hb dX12_nextToken_28 rfl (lv_at hl 0 rfl) ?_
    refine zi_con hx hb dX12_nextToken_29 ?_
    refine wz_put (σ' := (up (up (up σ 202 13 (σ 202 10)) 202 11 x_) 202 12 0)) (ty := .int) hx hb hts hown hK hW hS 202 12 tyX12 (by decide) e_202 rfl (by decide) inG12 tyX12_ok nmX12 w_827 ⟨rfl, rfl, Nat.le_of_ble_eq_true rfl⟩ (by decide +kernel) ⟨rfl, rfl⟩ p_202_12 dX12_nextToken_30 (fun H locs hW hS => ?_)
    have L33 : ∀ (n33 : Nat) (k_ : Nat) (H : Heap) (locs : List Loc) (ls : Array Slot), L_ - (q_ + k_) < n33 → (q_ + k_ ≤ L_) → (nd (σ 208) (L_ - q_) q_ = k_ + nd (σ 208) (L_ - (q_ + k_)) (q_ + k_)) → (0 ≤ (mv (σ 208) q_ k_) ∧ (mv (σ 208) q_ k_) ≤ 999) → wd D cy B (us σ 202 (nk (σ 202) x_ (mv (σ 208) q_ k_) ((q_ + k_ : Nat) : Int))) H → va_S (AB B) s.heap H locs → lv_has ls 1 [(0, .ref (B + 202))] → W p l e R s m args below meth c H locs 0 0 Q (F0 m 33 ls []) := by
      intro n33
      induction n33 with
      | zero => intro k_ H locs ls hms; omega
      | succ n33 ih33 =>
        intro k_ H locs ls hms33 hk hn hmv hW hS hl
        refine lv_aload_n hx hb dX12_nextToken_33 rfl (lv_at hl 0 rfl) ?_
        refine wz_get hx hb hts hown hK hW 202 10 (by decide) e_202 rfl (by decide) inG12 w_825 rfl rfl dX12_nextToken_34 ?_
        refine zi_top (y := ((q_ + k_ : Nat) : Int)) (by (first | rfl | (simp [us, uf, nS] <;> omega))) ?_
        refine lv_aload_n hx hb dX12_nextToken_37 rfl (lv_at hl 0 rfl) ?_
        refine wz_get hx hb hts hown hK hW 202 8 (by decide) e_202 rfl (by decide) inG12 w_823 rfl rfl dX12_nextToken_38 ?_
        refine zi_top (y := σ 202 8) (by (first | rfl | (simp [us, uf, nS] <;> omega))) ?_
        refine zi_cge (tgt := 119) hx hb dX12_nextToken_41 (by decide) (by omega) (by omega) (fun c41 => ?_) (fun c41 => ?_)
        · have hnd : nd (σ 208) (L_ - q_) q_ = k_ := by rw [hn, show L_ - (q_ + k_) = 0 from by omega]; rfl
          refine lv_aload_n hx hb dX12_nextToken_119 rfl (lv_at hl 0 rfl) ?_
          refine wz_get hx hb hts hown hK hW 202 10 (by decide) e_202 rfl (by decide) inG12 w_825 rfl rfl dX12_nextToken_120 ?_
          refine zi_top (y := ((q_ + k_ : Nat) : Int)) (by (first | rfl | (simp [us, uf, nS] <;> omega))) ?_
          refine lv_aload_n hx hb dX12_nextToken_123 rfl (lv_at hl 0 rfl) ?_
          refine wz_get hx hb hts hown hK hW 202 13 (by decide) e_202 rfl (by decide) inG12 w_828 rfl rfl dX12_nextToken_124 ?_
          refine zi_top (y := σ 202 10) (by (first | rfl | (simp [us, uf, nS] <;> omega))) ?_
          refine zi_cle (tgt := 155) hx hb dX12_nextToken_127 (by decide) (by omega) (by omega) (fun c127 => ?_) (fun c127 => ?_)
          · refine lv_aload_n hx hb dX12_nextToken_155 rfl (lv_at hl 0 rfl) ?_
            refine wz_get hx hb hts hown hK hW 202 11 (by decide) e_202 rfl (by decide) inG12 w_826 rfl rfl dX12_nextToken_156 ?_
            refine zi_top (y := x_) (by (first | rfl | (simp [us, uf, nS] <;> omega))) ?_
            refine zi_ne (tgt := 229) hx hb dX12_nextToken_159 (by decide) (by omega) (fun c159 => ?_) (fun c159 => ?_)
            · exact hret _ _ _ _ _ dX12_nextToken_229 hW hS (by
        first
          | (exfalso; omega)
          | (rw [hntk]
             (try unfold up)
             (try simp only [us_us, us_eq, nk_10, nk_11, nk_12])
             unfold tk tv tpl
             rw [hnd]
             by_cases g1 : q_ = L_
             · simp only [if_pos g1]
               have e1 : k_ = 0 := by omega
               have e2 : x_ = 3 := by omega
               first | (exfalso; omega) | (rw [e1, e2]; rfl)
             · simp only [if_neg g1]
               by_cases g2 : 0 < k_
               · simp only [if_pos g2]
                 by_cases g3 : 2 < k_
                 · first | (exfalso; omega) | (simp only [if_pos g3]; done) | (simp only [if_pos g3]; rfl)
                 · first | (exfalso; omega) | (simp only [if_neg g3]; done) | (simp only [if_neg g3]; rfl)
               · simp only [if_neg g2]
                 have e1 : k_ = 0 := by omega
                 subst e1
                 simp only [Nat.add_zero] at *
                 by_cases g4 : (97 ≤ σ 208 q_ ∧ σ 208 q_ ≤ 122) ∨ σ 208 q_ = 44 ∨ σ 208 q_ = 59
                 · first | (exfalso; omega) | (simp only [if_pos g4]; done) | (simp only [if_pos g4]; rfl)
                 · first | (exfalso; omega) | (simp only [if_neg g4]; done) | (simp only [if_neg g4]; rfl)))
            · refine lv_aload_n hx hb dX12_nextToken_162 rfl (lv_at hl 0 rfl) ?_
              refine lv_aload_n hx hb dX12_nextToken_163 rfl (lv_at hl 0 rfl) ?_
              refine wz_get hx hb hts hown hK hW 202 7 (by decide) e_202 rfl (by decide) inG12 w_822 rfl rfl dX12_nextToken_164 ?_
              refine lv_aload_n hx hb dX12_nextToken_167 rfl (lv_at hl 0 rfl) ?_
              refine wz_get hx hb hts hown hK hW 202 10 (by decide) e_202 rfl (by decide) inG12 w_825 rfl rfl dX12_nextToken_168 ?_
              refine zi_top (y := ((q_ + k_ : Nat) : Int)) (by (first | rfl | (simp [us, uf, nS] <;> omega))) ?_
              refine wz_ald hx hb hK hW 208 (q_ + k_) (by decide) e_208 (by omega) (by omega) (by decide) dX12_nextToken_171 ?_
              refine zi_top (y := σ 208 (q_ + k_)) (by (first | rfl | (simp [us, uf, nS] <;> omega))) ?_
              refine wz_put (σ' := (up (us σ 202 (nk (σ 202) x_ (mv (σ 208) q_ k_) ((q_ + k_ : Nat) : Int))) 202 12 (σ 208 (q_ + k_)))) (ty := .int) hx hb hts hown hK hW hS 202 12 tyX12 (by decide) e_202 rfl (by decide) inG12 tyX12_ok nmX12 w_827 ⟨rfl, rfl, Nat.le_of_ble_eq_true rfl⟩ (by decide +kernel) ⟨rfl, rfl⟩ p_202_12 dX12_nextToken_172 (fun H locs hW hS => ?_)
              refine lv_aload_n hx hb dX12_nextToken_175 rfl (lv_at hl 0 rfl) ?_
              refine lv_aload_n hx hb dX12_nextToken_176 rfl (lv_at hl 0 rfl) ?_
              refine wz_get hx hb hts hown hK hW 202 12 (by decide) e_202 rfl (by decide) inG12 w_827 rfl rfl dX12_nextToken_177 ?_
              refine zi_top (y := σ 208 (q_ + k_)) (by (first | rfl | (simp [us, uf, nS] <;> omega))) ?_
              refine zi_i2l hx hb dX12_nextToken_180 (by omega) ?_
              refine k_ldc2 hx hb hown hts (v := 97) (by decide) w_952 dX12_nextToken_181 ?_
              refine k_ldc2 hx hb hown hts (v := 122) (by decide) w_953 dX12_nextToken_184 ?_
              refine k_si (fr := 1) (lo := 25) (r := (if 97 ≤ (σ 208 (q_ + k_)) ∧ (σ 208 (q_ + k_)) ≤ 122 then 1 else 0)) (As := [.long (lI (σ 208 (q_ + k_))), .long (lI (97)), .long (lI (122))]) (rest := [.ref (B + 202)]) hx hb hml hown hts hK hRf hRl hW hS (c_X12_in l D cy B (up (us σ 202 (nk (σ 202) x_ (mv (σ 208) q_ k_) ((q_ + k_ : Nat) : Int))) 202 12 (σ 208 (q_ + k_))) (σ 208 (q_ + k_)) 97 122 (show -9223372036854775808 ≤ (σ 208 (q_ + k_)) ∧ (σ 208 (q_ + k_)) < 9223372036854775808 from (by first | assumption | omega | (simp only [tpL_25, List.length_cons, List.length_nil]; omega))) (show -9223372036854775808 ≤ 97 ∧ 97 < 9223372036854775808 from (by first | assumption | omega | (simp only [tpL_25, List.length_cons, List.length_nil]; omega))) (show -9223372036854775808 ≤ 122 ∧ 122 < 9223372036854775808 from (by first | assumption | omega | (simp only [tpL_25, List.length_cons, List.length_nil]; omega)))) vX12_in w_904 w_903 ⟨Nat.le_of_ble_eq_true rfl, Nat.le_of_ble_eq_true rfl⟩ hl.1 rfl (Nat.le_of_ble_eq_true rfl) ⟨Nat.zero_le _, Nat.zero_le _⟩ dX12_nextToken_187 (fun H locs hW hS => ?_)
              refine zi_bne (tgt := 211) hx hb dX12_nextToken_190 (by decide) (fun c190 => ?_) (fun c190 => ?_)
              · refine zi_con hx hb dX12_nextToken_211 ?_
                refine lv_goto (tgt := 216) hx hb dX12_nextToken_212 (by decide) ?_
                refine wz_put (σ' := (up (up (us σ 202 (nk (σ 202) x_ (mv (σ 208) q_ k_) ((q_ + k_ : Nat) : Int))) 202 12 (σ 208 (q_ + k_))) 202 11 1)) (ty := .int) hx hb hts hown hK hW hS 202 11 tyX12 (by decide) e_202 rfl (by decide) inG12 tyX12_ok nmX12 w_826 ⟨rfl, rfl, Nat.le_of_ble_eq_true rfl⟩ (by decide +kernel) ⟨rfl, rfl⟩ p_202_11 dX12_nextToken_216 (fun H locs hW hS => ?_)
                refine lv_aload_n hx hb dX12_nextToken_219 rfl (lv_at hl 0 rfl) ?_
                refine lv_dup hx hb dX12_nextToken_220 rfl ?_
                refine wz_get hx hb hts hown hK hW 202 10 (by decide) e_202 rfl (by decide) inG12 w_825 rfl rfl dX12_nextToken_221 ?_
                refine zi_top (y := ((q_ + k_ : Nat) : Int)) (by (first | rfl | (simp [us, uf, nS] <;> omega))) ?_
                refine zi_con hx hb dX12_nextToken_224 ?_
                refine zi_add hx hb dX12_nextToken_225 ?_
                refine wz_put (σ' := (up (up (up (us σ 202 (nk (σ 202) x_ (mv (σ 208) q_ k_) ((q_ + k_ : Nat) : Int))) 202 12 (σ 208 (q_ + k_))) 202 11 1) 202 10 (((q_ + k_ : Nat) : Int) + 1))) (ty := .int) hx hb hts hown hK hW hS 202 10 tyX12 (by decide) e_202 rfl (by decide) inG12 tyX12_ok nmX12 w_825 ⟨rfl, rfl, Nat.le_of_ble_eq_true rfl⟩ (by decide +kernel) ⟨rfl, rfl⟩ p_202_10 dX12_nextToken_226 (fun H locs hW hS => ?_)
                exact hret _ _ _ _ _ dX12_nextToken_229 hW hS (by
        first
          | (exfalso; omega)
          | (rw [hntk]
             (try unfold up)
             (try simp only [us_us, us_eq, nk_10, nk_11, nk_12])
             unfold tk tv tpl
             rw [hnd]
             by_cases g1 : q_ = L_
             · simp only [if_pos g1]
               have e1 : k_ = 0 := by omega
               have e2 : x_ = 3 := by omega
               first | (exfalso; omega) | (rw [e1, e2]; rfl)
             · simp only [if_neg g1]
               by_cases g2 : 0 < k_
               · simp only [if_pos g2]
                 by_cases g3 : 2 < k_
                 · first | (exfalso; omega) | (simp only [if_pos g3]; done) | (simp only [if_pos g3]; rfl)
                 · first | (exfalso; omega) | (simp only [if_neg g3]; done) | (simp only [if_neg g3]; rfl)
               · simp only [if_neg g2]
                 have e1 : k_ = 0 := by omega
                 subst e1
                 simp only [Nat.add_zero] at *
                 by_cases g4 : (97 ≤ σ 208 q_ ∧ σ 208 q_ ≤ 122) ∨ σ 208 q_ = 44 ∨ σ 208 q_ = 59
                 · first | (exfalso; omega) | (simp only [if_pos g4]; done) | (simp only [if_pos g4]; rfl)
                 · first | (exfalso; omega) | (simp only [if_neg g4]; done) | (simp only [if_neg g4]; rfl)))
              · refine lv_aload_n hx hb dX12_nextToken_193 rfl (lv_at hl 0 rfl) ?_
                refine wz_get hx hb hts hown hK hW 202 12 (by decide) e_202 rfl (by decide) inG12 w_827 rfl rfl dX12_nextToken_194 ?_
                refine zi_top (y := σ 208 (q_ + k_)) (by (first | rfl | (simp [us, uf, nS] <;> omega))) ?_
                refine zi_bip hx hb dX12_nextToken_197 (by decide) ?_
                refine zi_ceq (tgt := 211) hx hb dX12_nextToken_199 (by decide) (by omega) (by omega) (fun c199 => ?_) (fun c199 => ?_)
                · refine zi_con hx hb dX12_nextToken_211 ?_
                  refine lv_goto (tgt := 216) hx hb dX12_nextToken_212 (by decide) ?_
                  refine wz_put (σ' := (up (up (us σ 202 (nk (σ 202) x_ (mv (σ 208) q_ k_) ((q_ + k_ : Nat) : Int))) 202 12 (σ 208 (q_ + k_))) 202 11 1)) (ty := .int) hx hb hts hown hK hW hS 202 11 tyX12 (by decide) e_202 rfl (by decide) inG12 tyX12_ok nmX12 w_826 ⟨rfl, rfl, Nat.le_of_ble_eq_true rfl⟩ (by decide +kernel) ⟨rfl, rfl⟩ p_202_11 dX12_nextToken_216 (fun H locs hW hS => ?_)
                  refine lv_aload_n hx hb dX12_nextToken_219 rfl (lv_at hl 0 rfl) ?_
                  refine lv_dup hx hb dX12_nextToken_220 rfl ?_
                  refine wz_get hx hb hts hown hK hW 202 10 (by decide) e_202 rfl (by decide) inG12 w_825 rfl rfl dX12_nextToken_221 ?_
                  refine zi_top (y := ((q_ + k_ : Nat) : Int)) (by (first | rfl | (simp [us, uf, nS] <;> omega))) ?_
                  refine zi_con hx hb dX12_nextToken_224 ?_
                  refine zi_add hx hb dX12_nextToken_225 ?_
                  refine wz_put (σ' := (up (up (up (us σ 202 (nk (σ 202) x_ (mv (σ 208) q_ k_) ((q_ + k_ : Nat) : Int))) 202 12 (σ 208 (q_ + k_))) 202 11 1) 202 10 (((q_ + k_ : Nat) : Int) + 1))) (ty := .int) hx hb hts hown hK hW hS 202 10 tyX12 (by decide) e_202 rfl (by decide) inG12 tyX12_ok nmX12 w_825 ⟨rfl, rfl, Nat.le_of_ble_eq_true rfl⟩ (by decide +kernel) ⟨rfl, rfl⟩ p_202_10 dX12_nextToken_226 (fun H locs hW hS => ?_)
                  exact hret _ _ _ _ _ dX12_nextToken_229 hW hS (by
        first
          | (exfalso; omega)
          | (rw [hntk]
             (try unfold up)
             (try simp only [us_us, us_eq, nk_10, nk_11, nk_12])
             unfold tk tv tpl
             rw [hnd]
             by_cases g1 : q_ = L_
             · simp only [if_pos g1]
               have e1 : k_ = 0 := by omega
               have e2 : x_ = 3 := by omega
               first | (exfalso; omega) | (rw [e1, e2]; rfl)
             · simp only [if_neg g1]
               by_cases g2 : 0 < k_
               · simp only [if_pos g2]
                 by_cases g3 : 2 < k_
                 · first | (exfalso; omega) | (simp only [if_pos g3]; done) | (simp only [if_pos g3]; rfl)
                 · first | (exfalso; omega) | (simp only [if_neg g3]; done) | (simp only [if_neg g3]; rfl)
               · simp only [if_neg g2]
                 have e1 : k_ = 0 := by omega
                 subst e1
                 simp only [Nat.add_zero] at *
                 by_cases g4 : (97 ≤ σ 208 q_ ∧ σ 208 q_ ≤ 122) ∨ σ 208 q_ = 44 ∨ σ 208 q_ = 59
                 · first | (exfalso; omega) | (simp only [if_pos g4]; done) | (simp only [if_pos g4]; rfl)
                 · first | (exfalso; omega) | (simp only [if_neg g4]; done) | (simp only [if_neg g4]; rfl)))
                · refine lv_aload_n hx hb dX12_nextToken_202 rfl (lv_at hl 0 rfl) ?_
                  refine wz_get hx hb hts hown hK hW 202 12 (by decide) e_202 rfl (by decide) inG12 w_827 rfl rfl dX12_nextToken_203 ?_
                  refine zi_top (y := σ 208 (q_ + k_)) (by (first | rfl | (simp [us, uf, nS] <;> omega))) ?_
                  refine zi_bip hx hb dX12_nextToken_206 (by decide) ?_
                  refine zi_cne (tgt := 215) hx hb dX12_nextToken_208 (by decide) (by omega) (by omega) (fun c208 => ?_) (fun c208 => ?_)
                  · refine zi_con hx hb dX12_nextToken_215 ?_
                    refine wz_put (σ' := (up (up (us σ 202 (nk (σ 202) x_ (mv (σ 208) q_ k_) ((q_ + k_ : Nat) : Int))) 202 12 (σ 208 (q_ + k_))) 202 11 0)) (ty := .int) hx hb hts hown hK hW hS 202 11 tyX12 (by decide) e_202 rfl (by decide) inG12 tyX12_ok nmX12 w_826 ⟨rfl, rfl, Nat.le_of_ble_eq_true rfl⟩ (by decide +kernel) ⟨rfl, rfl⟩ p_202_11 dX12_nextToken_216 (fun H locs hW hS => ?_)
                    refine lv_aload_n hx hb dX12_nextToken_219 rfl (lv_at hl 0 rfl) ?_
                    refine lv_dup hx hb dX12_nextToken_220 rfl ?_
                    refine wz_get hx hb hts hown hK hW 202 10 (by decide) e_202 rfl (by decide) inG12 w_825 rfl rfl dX12_nextToken_221 ?_
                    refine zi_top (y := ((q_ + k_ : Nat) : Int)) (by (first | rfl | (simp [us, uf, nS] <;> omega))) ?_
                    refine zi_con hx hb dX12_nextToken_224 ?_
                    refine zi_add hx hb dX12_nextToken_225 ?_
                    refine wz_put (σ' := (up (up (up (us σ 202 (nk (σ 202) x_ (mv (σ 208) q_ k_) ((q_ + k_ : Nat) : Int))) 202 12 (σ 208 (q_ + k_))) 202 11 0) 202 10 (((q_ + k_ : Nat) : Int) + 1))) (ty := .int) hx hb hts hown hK hW hS 202 10 tyX12 (by decide) e_202 rfl (by decide) inG12 tyX12_ok nmX12 w_825 ⟨rfl, rfl, Nat.le_of_ble_eq_true rfl⟩ (by decide +kernel) ⟨rfl, rfl⟩ p_202_10 dX12_nextToken_226 (fun H locs hW hS => ?_)
                    exact hret _ _ _ _ _ dX12_nextToken_229 hW hS (by
        first
          | (exfalso; omega)
          | (rw [hntk]
             (try unfold up)
             (try simp only [us_us, us_eq, nk_10, nk_11, nk_12])
             unfold tk tv tpl
             rw [hnd]
             by_cases g1 : q_ = L_
             · simp only [if_pos g1]
               have e1 : k_ = 0 := by omega
               have e2 : x_ = 3 := by omega
               first | (exfalso; omega) | (rw [e1, e2]; rfl)
             · simp only [if_neg g1]
               by_cases g2 : 0 < k_
               · simp only [if_pos g2]
                 by_cases g3 : 2 < k_
                 · first | (exfalso; omega) | (simp only [if_pos g3]; done) | (simp only [if_pos g3]; rfl)
                 · first | (exfalso; omega) | (simp only [if_neg g3]; done) | (simp only [if_neg g3]; rfl)
               · simp only [if_neg g2]
                 have e1 : k_ = 0 := by omega
                 subst e1
                 simp only [Nat.add_zero] at *
                 by_cases g4 : (97 ≤ σ 208 q_ ∧ σ 208 q_ ≤ 122) ∨ σ 208 q_ = 44 ∨ σ 208 q_ = 59
                 · first | (exfalso; omega) | (simp only [if_pos g4]; done) | (simp only [if_pos g4]; rfl)
                 · first | (exfalso; omega) | (simp only [if_neg g4]; done) | (simp only [if_neg g4]; rfl)))
                  · refine zi_con hx hb dX12_nextToken_211 ?_
                    refine lv_goto (tgt := 216) hx hb dX12_nextToken_212 (by decide) ?_
                    refine wz_put (σ' := (up (up (us σ 202 (nk (σ 202) x_ (mv (σ 208) q_ k_) ((q_ + k_ : Nat) : Int))) 202 12 (σ 208 (q_ + k_))) 202 11 1)) (ty := .int) hx hb hts hown hK hW hS 202 11 tyX12 (by decide) e_202 rfl (by decide) inG12 tyX12_ok nmX12 w_826 ⟨rfl, rfl, Nat.le_of_ble_eq_true rfl⟩ (by decide +kernel) ⟨rfl, rfl⟩ p_202_11 dX12_nextToken_216 (fun H locs hW hS => ?_)
                    refine lv_aload_n hx hb dX12_nextToken_219 rfl (lv_at hl 0 rfl) ?_
                    refine lv_dup hx hb dX12_nextToken_220 rfl ?_
                    refine wz_get hx hb hts hown hK hW 202 10 (by decide) e_202 rfl (by decide) inG12 w_825 rfl rfl dX12_nextToken_221 ?_
                    refine zi_top (y := ((q_ + k_ : Nat) : Int)) (by (first | rfl | (simp [us, uf, nS] <;> omega))) ?_
                    refine zi_con hx hb dX12_nextToken_224 ?_
                    refine zi_add hx hb dX12_nextToken_225 ?_
                    refine wz_put (σ' := (up (up (up (us σ 202 (nk (σ 202) x_ (mv (σ 208) q_ k_) ((q_ + k_ : Nat) : Int))) 202 12 (σ 208 (q_ + k_))) 202 11 1) 202 10 (((q_ + k_ : Nat) : Int) + 1))) (ty := .int) hx hb hts hown hK hW hS 202 10 tyX12 (by decide) e_202 rfl (by decide) inG12 tyX12_ok nmX12 w_825 ⟨rfl, rfl, Nat.le_of_ble_eq_true rfl⟩ (by decide +kernel) ⟨rfl, rfl⟩ p_202_10 dX12_nextToken_226 (fun H locs hW hS => ?_)
                    exact hret _ _ _ _ _ dX12_nextToken_229 hW hS (by
        first
          | (exfalso; omega)
          | (rw [hntk]
             (try unfold up)
             (try simp only [us_us, us_eq, nk_10, nk_11, nk_12])
             unfold tk tv tpl
             rw [hnd]
             by_cases g1 : q_ = L_
             · simp only [if_pos g1]
               have e1 : k_ = 0 := by omega
               have e2 : x_ = 3 := by omega
               first | (exfalso; omega) | (rw [e1, e2]; rfl)
             · simp only [if_neg g1]
               by_cases g2 : 0 < k_
               · simp only [if_pos g2]
                 by_cases g3 : 2 < k_
                 · first | (exfalso; omega) | (simp only [if_pos g3]; done) | (simp only [if_pos g3]; rfl)
                 · first | (exfalso; omega) | (simp only [if_neg g3]; done) | (simp only [if_neg g3]; rfl)
               · simp only [if_neg g2]
                 have e1 : k_ = 0 := by omega
                 subst e1
                 simp only [Nat.add_zero] at *
                 by_cases g4 : (97 ≤ σ 208 q_ ∧ σ 208 q_ ≤ 122) ∨ σ 208 q_ = 44 ∨ σ 208 q_ = 59
                 · first | (exfalso; omega) | (simp only [if_pos g4]; done) | (simp only [if_pos g4]; rfl)
                 · first | (exfalso; omega) | (simp only [if_neg g4]; done) | (simp only [if_neg g4]; rfl)))
          · refine lv_aload_n hx hb dX12_nextToken_130 rfl (lv_at hl 0 rfl) ?_
            refine lv_aload_n hx hb dX12_nextToken_131 rfl (lv_at hl 0 rfl) ?_
            refine wz_get hx hb hts hown hK hW 202 10 (by decide) e_202 rfl (by decide) inG12 w_825 rfl rfl dX12_nextToken_132 ?_
            refine zi_top (y := ((q_ + k_ : Nat) : Int)) (by (first | rfl | (simp [us, uf, nS] <;> omega))) ?_
            refine lv_aload_n hx hb dX12_nextToken_135 rfl (lv_at hl 0 rfl) ?_
            refine wz_get hx hb hts hown hK hW 202 13 (by decide) e_202 rfl (by decide) inG12 w_828 rfl rfl dX12_nextToken_136 ?_
            refine zi_top (y := σ 202 10) (by (first | rfl | (simp [us, uf, nS] <;> omega))) ?_
            refine zi_sub hx hb dX12_nextToken_139 ?_
            refine zi_con hx hb dX12_nextToken_140 ?_
            refine zi_cle (tgt := 148) hx hb dX12_nextToken_141 (by decide) (by omega) (by omega) (fun c141 => ?_) (fun c141 => ?_)
            · refine zi_con hx hb dX12_nextToken_148 ?_
              refine wz_put (σ' := (up (us σ 202 (nk (σ 202) x_ (mv (σ 208) q_ k_) ((q_ + k_ : Nat) : Int))) 202 11 2)) (ty := .int) hx hb hts hown hK hW hS 202 11 tyX12 (by decide) e_202 rfl (by decide) inG12 tyX12_ok nmX12 w_826 ⟨rfl, rfl, Nat.le_of_ble_eq_true rfl⟩ (by decide +kernel) ⟨rfl, rfl⟩ p_202_11 dX12_nextToken_149 (fun H locs hW hS => ?_)
              refine lv_goto (tgt := 229) hx hb dX12_nextToken_152 (by decide) ?_
              exact hret _ _ _ _ _ dX12_nextToken_229 hW hS (by
        first
          | (exfalso; omega)
          | (rw [hntk]
             (try unfold up)
             (try simp only [us_us, us_eq, nk_10, nk_11, nk_12])
             unfold tk tv tpl
             rw [hnd]
             by_cases g1 : q_ = L_
             · simp only [if_pos g1]
               have e1 : k_ = 0 := by omega
               have e2 : x_ = 3 := by omega
               first | (exfalso; omega) | (rw [e1, e2]; rfl)
             · simp only [if_neg g1]
               by_cases g2 : 0 < k_
               · simp only [if_pos g2]
                 by_cases g3 : 2 < k_
                 · first | (exfalso; omega) | (simp only [if_pos g3]; done) | (simp only [if_pos g3]; rfl)
                 · first | (exfalso; omega) | (simp only [if_neg g3]; done) | (simp only [if_neg g3]; rfl)
               · simp only [if_neg g2]
                 have e1 : k_ = 0 := by omega
                 subst e1
                 simp only [Nat.add_zero] at *
                 by_cases g4 : (97 ≤ σ 208 q_ ∧ σ 208 q_ ≤ 122) ∨ σ 208 q_ = 44 ∨ σ 208 q_ = 59
                 · first | (exfalso; omega) | (simp only [if_pos g4]; done) | (simp only [if_pos g4]; rfl)
                 · first | (exfalso; omega) | (simp only [if_neg g4]; done) | (simp only [if_neg g4]; rfl)))
            · refine zi_con hx hb dX12_nextToken_144 ?_
              refine lv_goto (tgt := 149) hx hb dX12_nextToken_145 (by decide) ?_
              refine wz_put (σ' := (up (us σ 202 (nk (σ 202) x_ (mv (σ 208) q_ k_) ((q_ + k_ : Nat) : Int))) 202 11 0)) (ty := .int) hx hb hts hown hK hW hS 202 11 tyX12 (by decide) e_202 rfl (by decide) inG12 tyX12_ok nmX12 w_826 ⟨rfl, rfl, Nat.le_of_ble_eq_true rfl⟩ (by decide +kernel) ⟨rfl, rfl⟩ p_202_11 dX12_nextToken_149 (fun H locs hW hS => ?_)
              refine lv_goto (tgt := 229) hx hb dX12_nextToken_152 (by decide) ?_
              exact hret _ _ _ _ _ dX12_nextToken_229 hW hS (by
        first
          | (exfalso; omega)
          | (rw [hntk]
             (try unfold up)
             (try simp only [us_us, us_eq, nk_10, nk_11, nk_12])
             unfold tk tv tpl
             rw [hnd]
             by_cases g1 : q_ = L_
             · simp only [if_pos g1]
               have e1 : k_ = 0 := by omega
               have e2 : x_ = 3 := by omega
               first | (exfalso; omega) | (rw [e1, e2]; rfl)
             · simp only [if_neg g1]
               by_cases g2 : 0 < k_
               · simp only [if_pos g2]
                 by_cases g3 : 2 < k_
                 · first | (exfalso; omega) | (simp only [if_pos g3]; done) | (simp only [if_pos g3]; rfl)
                 · first | (exfalso; omega) | (simp only [if_neg g3]; done) | (simp only [if_neg g3]; rfl)
               · simp only [if_neg g2]
                 have e1 : k_ = 0 := by omega
                 subst e1
                 simp only [Nat.add_zero] at *
                 by_cases g4 : (97 ≤ σ 208 q_ ∧ σ 208 q_ ≤ 122) ∨ σ 208 q_ = 44 ∨ σ 208 q_ = 59
                 · first | (exfalso; omega) | (simp only [if_pos g4]; done) | (simp only [if_pos g4]; rfl)
                 · first | (exfalso; omega) | (simp only [if_neg g4]; done) | (simp only [if_neg g4]; rfl)))
        · have htk := htp (q_ + k_) (by omega)
          refine lv_aload_n hx hb dX12_nextToken_44 rfl (lv_at hl 0 rfl) ?_
          refine wz_get hx hb hts hown hK hW 202 7 (by decide) e_202 rfl (by decide) inG12 w_822 rfl rfl dX12_nextToken_45 ?_
          refine lv_aload_n hx hb dX12_nextToken_48 rfl (lv_at hl 0 rfl) ?_
          refine wz_get hx hb hts hown hK hW 202 10 (by decide) e_202 rfl (by decide) inG12 w_825 rfl rfl dX12_nextToken_49 ?_
          refine zi_top (y := ((q_ + k_ : Nat) : Int)) (by (first | rfl | (simp [us, uf, nS] <;> omega))) ?_
          refine wz_ald hx hb hK hW 208 (q_ + k_) (by decide) e_208 (by omega) (by omega) (by decide) dX12_nextToken_52 ?_
          refine zi_top (y := σ 208 (q_ + k_)) (by (first | rfl | (simp [us, uf, nS] <;> omega))) ?_
          refine zi_i2l hx hb dX12_nextToken_53 (by omega) ?_
          refine k_ldc2 hx hb hown hts (v := 48) (by decide) w_950 dX12_nextToken_54 ?_
          refine k_ldc2 hx hb hown hts (v := 57) (by decide) w_951 dX12_nextToken_57 ?_
          refine k_si (fr := 1) (lo := 25) (r := (if 48 ≤ (σ 208 (q_ + k_)) ∧ (σ 208 (q_ + k_)) ≤ 57 then 1 else 0)) (As := [.long (lI (σ 208 (q_ + k_))), .long (lI (48)), .long (lI (57))]) (rest := []) hx hb hml hown hts hK hRf hRl hW hS (c_X12_in l D cy B (us σ 202 (nk (σ 202) x_ (mv (σ 208) q_ k_) ((q_ + k_ : Nat) : Int))) (σ 208 (q_ + k_)) 48 57 (show -9223372036854775808 ≤ (σ 208 (q_ + k_)) ∧ (σ 208 (q_ + k_)) < 9223372036854775808 from (by first | assumption | omega | (simp only [tpL_25, List.length_cons, List.length_nil]; omega))) (show -9223372036854775808 ≤ 48 ∧ 48 < 9223372036854775808 from (by first | assumption | omega | (simp only [tpL_25, List.length_cons, List.length_nil]; omega))) (show -9223372036854775808 ≤ 57 ∧ 57 < 9223372036854775808 from (by first | assumption | omega | (simp only [tpL_25, List.length_cons, List.length_nil]; omega)))) vX12_in w_904 w_903 ⟨Nat.le_of_ble_eq_true rfl, Nat.le_of_ble_eq_true rfl⟩ hl.1 rfl (Nat.le_of_ble_eq_true rfl) ⟨Nat.zero_le _, Nat.zero_le _⟩ dX12_nextToken_60 (fun H locs hW hS => ?_)
          refine zi_beq (tgt := 119) hx hb dX12_nextToken_63 (by decide) (fun c63 => ?_) (fun c63 => ?_)
          · have hnd : nd (σ 208) (L_ - q_) q_ = k_ := by rw [hn, nd_n c63]; rfl
            refine lv_aload_n hx hb dX12_nextToken_119 rfl (lv_at hl 0 rfl) ?_
            refine wz_get hx hb hts hown hK hW 202 10 (by decide) e_202 rfl (by decide) inG12 w_825 rfl rfl dX12_nextToken_120 ?_
            refine zi_top (y := ((q_ + k_ : Nat) : Int)) (by (first | rfl | (simp [us, uf, nS] <;> omega))) ?_
            refine lv_aload_n hx hb dX12_nextToken_123 rfl (lv_at hl 0 rfl) ?_
            refine wz_get hx hb hts hown hK hW 202 13 (by decide) e_202 rfl (by decide) inG12 w_828 rfl rfl dX12_nextToken_124 ?_
            refine zi_top (y := σ 202 10) (by (first | rfl | (simp [us, uf, nS] <;> omega))) ?_
            refine zi_cle (tgt := 155) hx hb dX12_nextToken_127 (by decide) (by omega) (by omega) (fun c127 => ?_) (fun c127 => ?_)
            · refine lv_aload_n hx hb dX12_nextToken_155 rfl (lv_at hl 0 rfl) ?_
              refine wz_get hx hb hts hown hK hW 202 11 (by decide) e_202 rfl (by decide) inG12 w_826 rfl rfl dX12_nextToken_156 ?_
              refine zi_top (y := x_) (by (first | rfl | (simp [us, uf, nS] <;> omega))) ?_
              refine zi_ne (tgt := 229) hx hb dX12_nextToken_159 (by decide) (by omega) (fun c159 => ?_) (fun c159 => ?_)
              · exact hret _ _ _ _ _ dX12_nextToken_229 hW hS (by
        first
          | (exfalso; omega)
          | (rw [hntk]
             (try unfold up)
             (try simp only [us_us, us_eq, nk_10, nk_11, nk_12])
             unfold tk tv tpl
             rw [hnd]
             by_cases g1 : q_ = L_
             · simp only [if_pos g1]
               have e1 : k_ = 0 := by omega
               have e2 : x_ = 3 := by omega
               first | (exfalso; omega) | (rw [e1, e2]; rfl)
             · simp only [if_neg g1]
               by_cases g2 : 0 < k_
               · simp only [if_pos g2]
                 by_cases g3 : 2 < k_
                 · first | (exfalso; omega) | (simp only [if_pos g3]; done) | (simp only [if_pos g3]; rfl)
                 · first | (exfalso; omega) | (simp only [if_neg g3]; done) | (simp only [if_neg g3]; rfl)
               · simp only [if_neg g2]
                 have e1 : k_ = 0 := by omega
                 subst e1
                 simp only [Nat.add_zero] at *
                 by_cases g4 : (97 ≤ σ 208 q_ ∧ σ 208 q_ ≤ 122) ∨ σ 208 q_ = 44 ∨ σ 208 q_ = 59
                 · first | (exfalso; omega) | (simp only [if_pos g4]; done) | (simp only [if_pos g4]; rfl)
                 · first | (exfalso; omega) | (simp only [if_neg g4]; done) | (simp only [if_neg g4]; rfl)))
              · refine lv_aload_n hx hb dX12_nextToken_162 rfl (lv_at hl 0 rfl) ?_
                refine lv_aload_n hx hb dX12_nextToken_163 rfl (lv_at hl 0 rfl) ?_
                refine wz_get hx hb hts hown hK hW 202 7 (by decide) e_202 rfl (by decide) inG12 w_822 rfl rfl dX12_nextToken_164 ?_
                refine lv_aload_n hx hb dX12_nextToken_167 rfl (lv_at hl 0 rfl) ?_
                refine wz_get hx hb hts hown hK hW 202 10 (by decide) e_202 rfl (by decide) inG12 w_825 rfl rfl dX12_nextToken_168 ?_
                refine zi_top (y := ((q_ + k_ : Nat) : Int)) (by (first | rfl | (simp [us, uf, nS] <;> omega))) ?_
                refine wz_ald hx hb hK hW 208 (q_ + k_) (by decide) e_208 (by omega) (by omega) (by decide) dX12_nextToken_171 ?_
                refine zi_top (y := σ 208 (q_ + k_)) (by (first | rfl | (simp [us, uf, nS] <;> omega))) ?_
                refine wz_put (σ' := (up (us σ 202 (nk (σ 202) x_ (mv (σ 208) q_ k_) ((q_ + k_ : Nat) : Int))) 202 12 (σ 208 (q_ + k_)))) (ty := .int) hx hb hts hown hK hW hS 202 12 tyX12 (by decide) e_202 rfl (by decide) inG12 tyX12_ok nmX12 w_827 ⟨rfl, rfl, Nat.le_of_ble_eq_true rfl⟩ (by decide +kernel) ⟨rfl, rfl⟩ p_202_12 dX12_nextToken_172 (fun H locs hW hS => ?_)
                refine lv_aload_n hx hb dX12_nextToken_175 rfl (lv_at hl 0 rfl) ?_
                refine lv_aload_n hx hb dX12_nextToken_176 rfl (lv_at hl 0 rfl) ?_
                refine wz_get hx hb hts hown hK hW 202 12 (by decide) e_202 rfl (by decide) inG12 w_827 rfl rfl dX12_nextToken_177 ?_
                refine zi_top (y := σ 208 (q_ + k_)) (by (first | rfl | (simp [us, uf, nS] <;> omega))) ?_
                refine zi_i2l hx hb dX12_nextToken_180 (by omega) ?_
                refine k_ldc2 hx hb hown hts (v := 97) (by decide) w_952 dX12_nextToken_181 ?_
                refine k_ldc2 hx hb hown hts (v := 122) (by decide) w_953 dX12_nextToken_184 ?_
                refine k_si (fr := 1) (lo := 25) (r := (if 97 ≤ (σ 208 (q_ + k_)) ∧ (σ 208 (q_ + k_)) ≤ 122 then 1 else 0)) (As := [.long (lI (σ 208 (q_ + k_))), .long (lI (97)), .long (lI (122))]) (rest := [.ref (B + 202)]) hx hb hml hown hts hK hRf hRl hW hS (c_X12_in l D cy B (up (us σ 202 (nk (σ 202) x_ (mv (σ 208) q_ k_) ((q_ + k_ : Nat) : Int))) 202 12 (σ 208 (q_ + k_))) (σ 208 (q_ + k_)) 97 122 (show -9223372036854775808 ≤ (σ 208 (q_ + k_)) ∧ (σ 208 (q_ + k_)) < 9223372036854775808 from (by first | assumption | omega | (simp only [tpL_25, List.length_cons, List.length_nil]; omega))) (show -9223372036854775808 ≤ 97 ∧ 97 < 9223372036854775808 from (by first | assumption | omega | (simp only [tpL_25, List.length_cons, List.length_nil]; omega))) (show -9223372036854775808 ≤ 122 ∧ 122 < 9223372036854775808 from (by first | assumption | omega | (simp only [tpL_25, List.length_cons, List.length_nil]; omega)))) vX12_in w_904 w_903 ⟨Nat.le_of_ble_eq_true rfl, Nat.le_of_ble_eq_true rfl⟩ hl.1 rfl (Nat.le_of_ble_eq_true rfl) ⟨Nat.zero_le _, Nat.zero_le _⟩ dX12_nextToken_187 (fun H locs hW hS => ?_)
                refine zi_bne (tgt := 211) hx hb dX12_nextToken_190 (by decide) (fun c190 => ?_) (fun c190 => ?_)
                · refine zi_con hx hb dX12_nextToken_211 ?_
                  refine lv_goto (tgt := 216) hx hb dX12_nextToken_212 (by decide) ?_
                  refine wz_put (σ' := (up (up (us σ 202 (nk (σ 202) x_ (mv (σ 208) q_ k_) ((q_ + k_ : Nat) : Int))) 202 12 (σ 208 (q_ + k_))) 202 11 1)) (ty := .int) hx hb hts hown hK hW hS 202 11 tyX12 (by decide) e_202 rfl (by decide) inG12 tyX12_ok nmX12 w_826 ⟨rfl, rfl, Nat.le_of_ble_eq_true rfl⟩ (by decide +kernel) ⟨rfl, rfl⟩ p_202_11 dX12_nextToken_216 (fun H locs hW hS => ?_)
                  refine lv_aload_n hx hb dX12_nextToken_219 rfl (lv_at hl 0 rfl) ?_
                  refine lv_dup hx hb dX12_nextToken_220 rfl ?_
                  refine wz_get hx hb hts hown hK hW 202 10 (by decide) e_202 rfl (by decide) inG12 w_825 rfl rfl dX12_nextToken_221 ?_
                  refine zi_top (y := ((q_ + k_ : Nat) : Int)) (by (first | rfl | (simp [us, uf, nS] <;> omega))) ?_
                  refine zi_con hx hb dX12_nextToken_224 ?_
                  refine zi_add hx hb dX12_nextToken_225 ?_
                  refine wz_put (σ' := (up (up (up (us σ 202 (nk (σ 202) x_ (mv (σ 208) q_ k_) ((q_ + k_ : Nat) : Int))) 202 12 (σ 208 (q_ + k_))) 202 11 1) 202 10 (((q_ + k_ : Nat) : Int) + 1))) (ty := .int) hx hb hts hown hK hW hS 202 10 tyX12 (by decide) e_202 rfl (by decide) inG12 tyX12_ok nmX12 w_825 ⟨rfl, rfl, Nat.le_of_ble_eq_true rfl⟩ (by decide +kernel) ⟨rfl, rfl⟩ p_202_10 dX12_nextToken_226 (fun H locs hW hS => ?_)
                  exact hret _ _ _ _ _ dX12_nextToken_229 hW hS (by
        first
          | (exfalso; omega)
          | (rw [hntk]
             (try unfold up)
             (try simp only [us_us, us_eq, nk_10, nk_11, nk_12])
             unfold tk tv tpl
             rw [hnd]
             by_cases g1 : q_ = L_
             · simp only [if_pos g1]
               have e1 : k_ = 0 := by omega
               have e2 : x_ = 3 := by omega
               first | (exfalso; omega) | (rw [e1, e2]; rfl)
             · simp only [if_neg g1]
               by_cases g2 : 0 < k_
               · simp only [if_pos g2]
                 by_cases g3 : 2 < k_
                 · first | (exfalso; omega) | (simp only [if_pos g3]; done) | (simp only [if_pos g3]; rfl)
                 · first | (exfalso; omega) | (simp only [if_neg g3]; done) | (simp only [if_neg g3]; rfl)
               · simp only [if_neg g2]
                 have e1 : k_ = 0 := by omega
                 subst e1
                 simp only [Nat.add_zero] at *
                 by_cases g4 : (97 ≤ σ 208 q_ ∧ σ 208 q_ ≤ 122) ∨ σ 208 q_ = 44 ∨ σ 208 q_ = 59
                 · first | (exfalso; omega) | (simp only [if_pos g4]; done) | (simp only [if_pos g4]; rfl)
                 · first | (exfalso; omega) | (simp only [if_neg g4]; done) | (simp only [if_neg g4]; rfl)))
                · refine lv_aload_n hx hb dX12_nextToken_193 rfl (lv_at hl 0 rfl) ?_
                  refine wz_get hx hb hts hown hK hW 202 12 (by decide) e_202 rfl (by decide) inG12 w_827 rfl rfl dX12_nextToken_194 ?_
                  refine zi_top (y := σ 208 (q_ + k_)) (by (first | rfl | (simp [us, uf, nS] <;> omega))) ?_
                  refine zi_bip hx hb dX12_nextToken_197 (by decide) ?_
                  refine zi_ceq (tgt := 211) hx hb dX12_nextToken_199 (by decide) (by omega) (by omega) (fun c199 => ?_) (fun c199 => ?_)
                  · refine zi_con hx hb dX12_nextToken_211 ?_
                    refine lv_goto (tgt := 216) hx hb dX12_nextToken_212 (by decide) ?_
                    refine wz_put (σ' := (up (up (us σ 202 (nk (σ 202) x_ (mv (σ 208) q_ k_) ((q_ + k_ : Nat) : Int))) 202 12 (σ 208 (q_ + k_))) 202 11 1)) (ty := .int) hx hb hts hown hK hW hS 202 11 tyX12 (by decide) e_202 rfl (by decide) inG12 tyX12_ok nmX12 w_826 ⟨rfl, rfl, Nat.le_of_ble_eq_true rfl⟩ (by decide +kernel) ⟨rfl, rfl⟩ p_202_11 dX12_nextToken_216 (fun H locs hW hS => ?_)
                    refine lv_aload_n hx hb dX12_nextToken_219 rfl (lv_at hl 0 rfl) ?_
                    refine lv_dup hx hb dX12_nextToken_220 rfl ?_
                    refine wz_get hx hb hts hown hK hW 202 10 (by decide) e_202 rfl (by decide) inG12 w_825 rfl rfl dX12_nextToken_221 ?_
                    refine zi_top (y := ((q_ + k_ : Nat) : Int)) (by (first | rfl | (simp [us, uf, nS] <;> omega))) ?_
                    refine zi_con hx hb dX12_nextToken_224 ?_
                    refine zi_add hx hb dX12_nextToken_225 ?_
                    refine wz_put (σ' := (up (up (up (us σ 202 (nk (σ 202) x_ (mv (σ 208) q_ k_) ((q_ + k_ : Nat) : Int))) 202 12 (σ 208 (q_ + k_))) 202 11 1) 202 10 (((q_ + k_ : Nat) : Int) + 1))) (ty := .int) hx hb hts hown hK hW hS 202 10 tyX12 (by decide) e_202 rfl (by decide) inG12 tyX12_ok nmX12 w_825 ⟨rfl, rfl, Nat.le_of_ble_eq_true rfl⟩ (by decide +kernel) ⟨rfl, rfl⟩ p_202_10 dX12_nextToken_226 (fun H locs hW hS => ?_)
                    exact hret _ _ _ _ _ dX12_nextToken_229 hW hS (by
        first
          | (exfalso; omega)
          | (rw [hntk]
             (try unfold up)
             (try simp only [us_us, us_eq, nk_10, nk_11, nk_12])
             unfold tk tv tpl
             rw [hnd]
             by_cases g1 : q_ = L_
             · simp only [if_pos g1]
               have e1 : k_ = 0 := by omega
               have e2 : x_ = 3 := by omega
               first | (exfalso; omega) | (rw [e1, e2]; rfl)
             · simp only [if_neg g1]
               by_cases g2 : 0 < k_
               · simp only [if_pos g2]
                 by_cases g3 : 2 < k_
                 · first | (exfalso; omega) | (simp only [if_pos g3]; done) | (simp only [if_pos g3]; rfl)
                 · first | (exfalso; omega) | (simp only [if_neg g3]; done) | (simp only [if_neg g3]; rfl)
               · simp only [if_neg g2]
                 have e1 : k_ = 0 := by omega
                 subst e1
                 simp only [Nat.add_zero] at *
                 by_cases g4 : (97 ≤ σ 208 q_ ∧ σ 208 q_ ≤ 122) ∨ σ 208 q_ = 44 ∨ σ 208 q_ = 59
                 · first | (exfalso; omega) | (simp only [if_pos g4]; done) | (simp only [if_pos g4]; rfl)
                 · first | (exfalso; omega) | (simp only [if_neg g4]; done) | (simp only [if_neg g4]; rfl)))
                  · refine lv_aload_n hx hb dX12_nextToken_202 rfl (lv_at hl 0 rfl) ?_
                    refine wz_get hx hb hts hown hK hW 202 12 (by decide) e_202 rfl (by decide) inG12 w_827 rfl rfl dX12_nextToken_203 ?_
                    refine zi_top (y := σ 208 (q_ + k_)) (by (first | rfl | (simp [us, uf, nS] <;> omega))) ?_
                    refine zi_bip hx hb dX12_nextToken_206 (by decide) ?_
                    refine zi_cne (tgt := 215) hx hb dX12_nextToken_208 (by decide) (by omega) (by omega) (fun c208 => ?_) (fun c208 => ?_)
                    · refine zi_con hx hb dX12_nextToken_215 ?_
                      refine wz_put (σ' := (up (up (us σ 202 (nk (σ 202) x_ (mv (σ 208) q_ k_) ((q_ + k_ : Nat) : Int))) 202 12 (σ 208 (q_ + k_))) 202 11 0)) (ty := .int) hx hb hts hown hK hW hS 202 11 tyX12 (by decide) e_202 rfl (by decide) inG12 tyX12_ok nmX12 w_826 ⟨rfl, rfl, Nat.le_of_ble_eq_true rfl⟩ (by decide +kernel) ⟨rfl, rfl⟩ p_202_11 dX12_nextToken_216 (fun H locs hW hS => ?_)
                      refine lv_aload_n hx hb dX12_nextToken_219 rfl (lv_at hl 0 rfl) ?_
                      refine lv_dup hx hb dX12_nextToken_220 rfl ?_
                      refine wz_get hx hb hts hown hK hW 202 10 (by decide) e_202 rfl (by decide) inG12 w_825 rfl rfl dX12_nextToken_221 ?_
                      refine zi_top (y := ((q_ + k_ : Nat) : Int)) (by (first | rfl | (simp [us, uf, nS] <;> omega))) ?_
                      refine zi_con hx hb dX12_nextToken_224 ?_
                      refine zi_add hx hb dX12_nextToken_225 ?_
                      refine wz_put (σ' := (up (up (up (us σ 202 (nk (σ 202) x_ (mv (σ 208) q_ k_) ((q_ + k_ : Nat) : Int))) 202 12 (σ 208 (q_ + k_))) 202 11 0) 202 10 (((q_ + k_ : Nat) : Int) + 1))) (ty := .int) hx hb hts hown hK hW hS 202 10 tyX12 (by decide) e_202 rfl (by decide) inG12 tyX12_ok nmX12 w_825 ⟨rfl, rfl, Nat.le_of_ble_eq_true rfl⟩ (by decide +kernel) ⟨rfl, rfl⟩ p_202_10 dX12_nextToken_226 (fun H locs hW hS => ?_)
                      exact hret _ _ _ _ _ dX12_nextToken_229 hW hS (by
        first
          | (exfalso; omega)
          | (rw [hntk]
             (try unfold up)
             (try simp only [us_us, us_eq, nk_10, nk_11, nk_12])
             unfold tk tv tpl
             rw [hnd]
             by_cases g1 : q_ = L_
             · simp only [if_pos g1]
               have e1 : k_ = 0 := by omega
               have e2 : x_ = 3 := by omega
               first | (exfalso; omega) | (rw [e1, e2]; rfl)
             · simp only [if_neg g1]
               by_cases g2 : 0 < k_
               · simp only [if_pos g2]
                 by_cases g3 : 2 < k_
                 · first | (exfalso; omega) | (simp only [if_pos g3]; done) | (simp only [if_pos g3]; rfl)
                 · first | (exfalso; omega) | (simp only [if_neg g3]; done) | (simp only [if_neg g3]; rfl)
               · simp only [if_neg g2]
                 have e1 : k_ = 0 := by omega
                 subst e1
                 simp only [Nat.add_zero] at *
                 by_cases g4 : (97 ≤ σ 208 q_ ∧ σ 208 q_ ≤ 122) ∨ σ 208 q_ = 44 ∨ σ 208 q_ = 59
                 · first | (exfalso; omega) | (simp only [if_pos g4]; done) | (simp only [if_pos g4]; rfl)
                 · first | (exfalso; omega) | (simp only [if_neg g4]; done) | (simp only [if_neg g4]; rfl)))
                    · refine zi_con hx hb dX12_nextToken_211 ?_
                      refine lv_goto (tgt := 216) hx hb dX12_nextToken_212 (by decide) ?_
                      refine wz_put (σ' := (up (up (us σ 202 (nk (σ 202) x_ (mv (σ 208) q_ k_) ((q_ + k_ : Nat) : Int))) 202 12 (σ 208 (q_ + k_))) 202 11 1)) (ty := .int) hx hb hts hown hK hW hS 202 11 tyX12 (by decide) e_202 rfl (by decide) inG12 tyX12_ok nmX12 w_826 ⟨rfl, rfl, Nat.le_of_ble_eq_true rfl⟩ (by decide +kernel) ⟨rfl, rfl⟩ p_202_11 dX12_nextToken_216 (fun H locs hW hS => ?_)
                      refine lv_aload_n hx hb dX12_nextToken_219 rfl (lv_at hl 0 rfl) ?_
                      refine lv_dup hx hb dX12_nextToken_220 rfl ?_
                      refine wz_get hx hb hts hown hK hW 202 10 (by decide) e_202 rfl (by decide) inG12 w_825 rfl rfl dX12_nextToken_221 ?_
                      refine zi_top (y := ((q_ + k_ : Nat) : Int)) (by (first | rfl | (simp [us, uf, nS] <;> omega))) ?_
                      refine zi_con hx hb dX12_nextToken_224 ?_
                      refine zi_add hx hb dX12_nextToken_225 ?_
                      refine wz_put (σ' := (up (up (up (us σ 202 (nk (σ 202) x_ (mv (σ 208) q_ k_) ((q_ + k_ : Nat) : Int))) 202 12 (σ 208 (q_ + k_))) 202 11 1) 202 10 (((q_ + k_ : Nat) : Int) + 1))) (ty := .int) hx hb hts hown hK hW hS 202 10 tyX12 (by decide) e_202 rfl (by decide) inG12 tyX12_ok nmX12 w_825 ⟨rfl, rfl, Nat.le_of_ble_eq_true rfl⟩ (by decide +kernel) ⟨rfl, rfl⟩ p_202_10 dX12_nextToken_226 (fun H locs hW hS => ?_)
                      exact hret _ _ _ _ _ dX12_nextToken_229 hW hS (by
        first
          | (exfalso; omega)
          | (rw [hntk]
             (try unfold up)
             (try simp only [us_us, us_eq, nk_10, nk_11, nk_12])
             unfold tk tv tpl
             rw [hnd]
             by_cases g1 : q_ = L_
             · simp only [if_pos g1]
               have e1 : k_ = 0 := by omega
               have e2 : x_ = 3 := by omega
               first | (exfalso; omega) | (rw [e1, e2]; rfl)
             · simp only [if_neg g1]
               by_cases g2 : 0 < k_
               · simp only [if_pos g2]
                 by_cases g3 : 2 < k_
                 · first | (exfalso; omega) | (simp only [if_pos g3]; done) | (simp only [if_pos g3]; rfl)
                 · first | (exfalso; omega) | (simp only [if_neg g3]; done) | (simp only [if_neg g3]; rfl)
               · simp only [if_neg g2]
                 have e1 : k_ = 0 := by omega
                 subst e1
                 simp only [Nat.add_zero] at *
                 by_cases g4 : (97 ≤ σ 208 q_ ∧ σ 208 q_ ≤ 122) ∨ σ 208 q_ = 44 ∨ σ 208 q_ = 59
                 · first | (exfalso; omega) | (simp only [if_pos g4]; done) | (simp only [if_pos g4]; rfl)
                 · first | (exfalso; omega) | (simp only [if_neg g4]; done) | (simp only [if_neg g4]; rfl)))
            · refine lv_aload_n hx hb dX12_nextToken_130 rfl (lv_at hl 0 rfl) ?_
              refine lv_aload_n hx hb dX12_nextToken_131 rfl (lv_at hl 0 rfl) ?_
              refine wz_get hx hb hts hown hK hW 202 10 (by decide) e_202 rfl (by decide) inG12 w_825 rfl rfl dX12_nextToken_132 ?_
              refine zi_top (y := ((q_ + k_ : Nat) : Int)) (by (first | rfl | (simp [us, uf, nS] <;> omega))) ?_
              refine lv_aload_n hx hb dX12_nextToken_135 rfl (lv_at hl 0 rfl) ?_
              refine wz_get hx hb hts hown hK hW 202 13 (by decide) e_202 rfl (by decide) inG12 w_828 rfl rfl dX12_nextToken_136 ?_
              refine zi_top (y := σ 202 10) (by (first | rfl | (simp [us, uf, nS] <;> omega))) ?_
              refine zi_sub hx hb dX12_nextToken_139 ?_
              refine zi_con hx hb dX12_nextToken_140 ?_
              refine zi_cle (tgt := 148) hx hb dX12_nextToken_141 (by decide) (by omega) (by omega) (fun c141 => ?_) (fun c141 => ?_)
              · refine zi_con hx hb dX12_nextToken_148 ?_
                refine wz_put (σ' := (up (us σ 202 (nk (σ 202) x_ (mv (σ 208) q_ k_) ((q_ + k_ : Nat) : Int))) 202 11 2)) (ty := .int) hx hb hts hown hK hW hS 202 11 tyX12 (by decide) e_202 rfl (by decide) inG12 tyX12_ok nmX12 w_826 ⟨rfl, rfl, Nat.le_of_ble_eq_true rfl⟩ (by decide +kernel) ⟨rfl, rfl⟩ p_202_11 dX12_nextToken_149 (fun H locs hW hS => ?_)
                refine lv_goto (tgt := 229) hx hb dX12_nextToken_152 (by decide) ?_
                exact hret _ _ _ _ _ dX12_nextToken_229 hW hS (by
        first
          | (exfalso; omega)
          | (rw [hntk]
             (try unfold up)
             (try simp only [us_us, us_eq, nk_10, nk_11, nk_12])
             unfold tk tv tpl
             rw [hnd]
             by_cases g1 : q_ = L_
             · simp only [if_pos g1]
               have e1 : k_ = 0 := by omega
               have e2 : x_ = 3 := by omega
               first | (exfalso; omega) | (rw [e1, e2]; rfl)
             · simp only [if_neg g1]
               by_cases g2 : 0 < k_
               · simp only [if_pos g2]
                 by_cases g3 : 2 < k_
                 · first | (exfalso; omega) | (simp only [if_pos g3]; done) | (simp only [if_pos g3]; rfl)
                 · first | (exfalso; omega) | (simp only [if_neg g3]; done) | (simp only [if_neg g3]; rfl)
               · simp only [if_neg g2]
                 have e1 : k_ = 0 := by omega
                 subst e1
                 simp only [Nat.add_zero] at *
                 by_cases g4 : (97 ≤ σ 208 q_ ∧ σ 208 q_ ≤ 122) ∨ σ 208 q_ = 44 ∨ σ 208 q_ = 59
                 · first | (exfalso; omega) | (simp only [if_pos g4]; done) | (simp only [if_pos g4]; rfl)
                 · first | (exfalso; omega) | (simp only [if_neg g4]; done) | (simp only [if_neg g4]; rfl)))
              · refine zi_con hx hb dX12_nextToken_144 ?_
                refine lv_goto (tgt := 149) hx hb dX12_nextToken_145 (by decide) ?_
                refine wz_put (σ' := (up (us σ 202 (nk (σ 202) x_ (mv (σ 208) q_ k_) ((q_ + k_ : Nat) : Int))) 202 11 0)) (ty := .int) hx hb hts hown hK hW hS 202 11 tyX12 (by decide) e_202 rfl (by decide) inG12 tyX12_ok nmX12 w_826 ⟨rfl, rfl, Nat.le_of_ble_eq_true rfl⟩ (by decide +kernel) ⟨rfl, rfl⟩ p_202_11 dX12_nextToken_149 (fun H locs hW hS => ?_)
                refine lv_goto (tgt := 229) hx hb dX12_nextToken_152 (by decide) ?_
                exact hret _ _ _ _ _ dX12_nextToken_229 hW hS (by
        first
          | (exfalso; omega)
          | (rw [hntk]
             (try unfold up)
             (try simp only [us_us, us_eq, nk_10, nk_11, nk_12])
             unfold tk tv tpl
             rw [hnd]
             by_cases g1 : q_ = L_
             · simp only [if_pos g1]
               have e1 : k_ = 0 := by omega
               have e2 : x_ = 3 := by omega
               first | (exfalso; omega) | (rw [e1, e2]; rfl)
             · simp only [if_neg g1]
               by_cases g2 : 0 < k_
               · simp only [if_pos g2]
                 by_cases g3 : 2 < k_
                 · first | (exfalso; omega) | (simp only [if_pos g3]; done) | (simp only [if_pos g3]; rfl)
                 · first | (exfalso; omega) | (simp only [if_neg g3]; done) | (simp only [if_neg g3]; rfl)
               · simp only [if_neg g2]
                 have e1 : k_ = 0 := by omega
                 subst e1
                 simp only [Nat.add_zero] at *
                 by_cases g4 : (97 ≤ σ 208 q_ ∧ σ 208 q_ ≤ 122) ∨ σ 208 q_ = 44 ∨ σ 208 q_ = 59
                 · first | (exfalso; omega) | (simp only [if_pos g4]; done) | (simp only [if_pos g4]; rfl)
                 · first | (exfalso; omega) | (simp only [if_neg g4]; done) | (simp only [if_neg g4]; rfl)))
          · refine lv_aload_n hx hb dX12_nextToken_66 rfl (lv_at hl 0 rfl) ?_
            refine lv_aload_n hx hb dX12_nextToken_67 rfl (lv_at hl 0 rfl) ?_
            refine wz_get hx hb hts hown hK hW 202 12 (by decide) e_202 rfl (by decide) inG12 w_827 rfl rfl dX12_nextToken_68 ?_
            refine zi_top (y := (mv (σ 208) q_ k_)) (by (first | rfl | (simp [us, uf, nS] <;> omega))) ?_
            refine zi_bip hx hb dX12_nextToken_71 (by decide) ?_
            have J103 : ∀ (w_ : Int) (H : Heap) (locs : List Loc) (ls : Array Slot), (w_ = (mv (σ 208) q_ (k_ + 1))) → (0 ≤ w_ ∧ w_ ≤ 999) → wd D cy B (us σ 202 (nk (σ 202) x_ (mv (σ 208) q_ k_) ((q_ + k_ : Nat) : Int))) H → va_S (AB B) s.heap H locs → lv_has ls 1 [(0, .ref (B + 202))] → W p l e R s m args below meth c H locs 0 0 Q (F0 m 103 ls [.int (iI (w_)), .ref (B + 202)]) := by
              intro w_ H locs ls hw2 hw3 hW hS hl
              refine wz_put (σ' := (up (us σ 202 (nk (σ 202) x_ (mv (σ 208) q_ k_) ((q_ + k_ : Nat) : Int))) 202 12 w_)) (ty := .int) hx hb hts hown hK hW hS 202 12 tyX12 (by decide) e_202 rfl (by decide) inG12 tyX12_ok nmX12 w_827 ⟨rfl, rfl, Nat.le_of_ble_eq_true rfl⟩ (by decide +kernel) ⟨rfl, rfl⟩ p_202_12 dX12_nextToken_103 (fun H locs hW hS => ?_)
              have hW : wd D cy B (us σ 202 (nk (σ 202) x_ (mv (σ 208) q_ (k_ + 1)) ((q_ + k_ : Nat) : Int))) H := by unfold up at hW; rw [us_us, us_eq, nk_12, hw2] at hW; exact hW
              refine lv_aload_n hx hb dX12_nextToken_106 rfl (lv_at hl 0 rfl) ?_
              refine lv_dup hx hb dX12_nextToken_107 rfl ?_
              refine wz_get hx hb hts hown hK hW 202 10 (by decide) e_202 rfl (by decide) inG12 w_825 rfl rfl dX12_nextToken_108 ?_
              refine zi_top (y := ((q_ + k_ : Nat) : Int)) (by (first | rfl | (simp [us, uf, nS] <;> omega))) ?_
              refine zi_con hx hb dX12_nextToken_111 ?_
              refine zi_add hx hb dX12_nextToken_112 ?_
              refine wz_put (σ' := (up (us σ 202 (nk (σ 202) x_ (mv (σ 208) q_ (k_ + 1)) ((q_ + k_ : Nat) : Int))) 202 10 (((q_ + k_ : Nat) : Int) + 1))) (ty := .int) hx hb hts hown hK hW hS 202 10 tyX12 (by decide) e_202 rfl (by decide) inG12 tyX12_ok nmX12 w_825 ⟨rfl, rfl, Nat.le_of_ble_eq_true rfl⟩ (by decide +kernel) ⟨rfl, rfl⟩ p_202_10 dX12_nextToken_113 (fun H locs hW hS => ?_)
              have hW : wd D cy B (us σ 202 (nk (σ 202) x_ (mv (σ 208) q_ (k_ + 1)) (((q_ + (k_ + 1) : Nat)) : Int))) H := by unfold up at hW; rw [us_us, us_eq, nk_10] at hW; exact hW
              refine lv_goto (tgt := 33) hx hb dX12_nextToken_116 (by decide) ?_
              exact ih33 (k_ + 1) _ _ _ (by omega) (by omega) (by rw [hn, show L_ - (q_ + k_) = (L_ - (q_ + (k_ + 1))) + 1 from by omega, nd_s c63]; show _ = _ + nd _ _ (q_ + k_ + 1); omega) (by rw [← hw2]; omega) hW hS (lv_sub hl [0] rfl)
            refine zi_cle (tgt := 83) hx hb dX12_nextToken_73 (by decide) (by omega) (by omega) (fun c73 => ?_) (fun c73 => ?_)
            · refine zi_bip hx hb dX12_nextToken_83 (by decide) ?_
              refine lv_aload_n hx hb dX12_nextToken_85 rfl (lv_at hl 0 rfl) ?_
              refine wz_get hx hb hts hown hK hW 202 12 (by decide) e_202 rfl (by decide) inG12 w_827 rfl rfl dX12_nextToken_86 ?_
              refine zi_top (y := (mv (σ 208) q_ k_)) (by (first | rfl | (simp [us, uf, nS] <;> omega))) ?_
              refine zi_mul hx hb dX12_nextToken_89 ?_
              refine lv_aload_n hx hb dX12_nextToken_90 rfl (lv_at hl 0 rfl) ?_
              refine wz_get hx hb hts hown hK hW 202 7 (by decide) e_202 rfl (by decide) inG12 w_822 rfl rfl dX12_nextToken_91 ?_
              refine lv_aload_n hx hb dX12_nextToken_94 rfl (lv_at hl 0 rfl) ?_
              refine wz_get hx hb hts hown hK hW 202 10 (by decide) e_202 rfl (by decide) inG12 w_825 rfl rfl dX12_nextToken_95 ?_
              refine zi_top (y := ((q_ + k_ : Nat) : Int)) (by (first | rfl | (simp [us, uf, nS] <;> omega))) ?_
              refine wz_ald hx hb hK hW 208 (q_ + k_) (by decide) e_208 (by omega) (by omega) (by decide) dX12_nextToken_98 ?_
              refine zi_top (y := σ 208 (q_ + k_)) (by (first | rfl | (simp [us, uf, nS] <;> omega))) ?_
              refine zi_add hx hb dX12_nextToken_99 ?_
              refine zi_bip hx hb dX12_nextToken_100 (by decide) ?_
              refine zi_sub hx hb dX12_nextToken_102 ?_
              exact J103 (((10 * (mv (σ 208) q_ k_)) + (σ 208 (q_ + k_))) - 48) _ _ _ (by simp only [mv]; first | rw [if_pos (by omega)] | rw [if_neg (by omega)]) (by omega) hW hS (lv_sub hl [0] rfl)
            · refine lv_aload_n hx hb dX12_nextToken_76 rfl (lv_at hl 0 rfl) ?_
              refine wz_get hx hb hts hown hK hW 202 12 (by decide) e_202 rfl (by decide) inG12 w_827 rfl rfl dX12_nextToken_77 ?_
              refine zi_top (y := (mv (σ 208) q_ k_)) (by (first | rfl | (simp [us, uf, nS] <;> omega))) ?_
              refine lv_goto (tgt := 103) hx hb dX12_nextToken_80 (by decide) ?_
              exact J103 (mv (σ 208) q_ k_) _ _ _ (by simp only [mv]; first | rw [if_pos (by omega)] | rw [if_neg (by omega)]) (by omega) hW hS (lv_sub hl [0] rfl)
    exact L33 _ 0 _ _ _ (Nat.lt_succ_self _) (by omega) (by simp) (by simp [mv]) (by show wd D cy B (us σ 202 (nk (σ 202) x_ 0 ((q_ : Nat) : Int))) _; rw [← hq, ← nk_0]; have h2 := hW; unfold up at h2; simp only [us_us, us_eq] at h2; exact h2) hS (lv_sub hl [0] rfl)
  refine zi_cne (tgt := 24) hx hb dX12_nextToken_17 (by decide) (by omega) (by omega) (fun c17 => ?_) (fun c17 => ?_)
  · refine zi_con hx hb dX12_nextToken_24 ?_
    exact J25 0 _ _ _ (by omega) hW hS (lv_sub hl [0] rfl)
  · refine zi_con hx hb dX12_nextToken_20 ?_
    refine lv_goto (tgt := 25) hx hb dX12_nextToken_21 (by decide) ?_
    exact J25 3 _ _ _ (by omega) hW hS (lv_sub hl [0] rfl)

set_option maxRecDepth 100000 in
set_option maxHeartbeats 4000000 in
theorem c_X12_isLetter (l : Launch) (D : va_G) (cy : Nat → ClassId) (B : Nat) (σ : Sg) (z_ : Int) (r_z_ : -2147483648 ≤ z_ ∧ z_ < 2147483648) (ht2 : 0 ≤ σ 202 11 ∧ σ 202 11 ≤ 3) (hv2 : 0 ≤ σ 202 12 ∧ σ 202 12 ≤ 999) : CI l yX12_isLetter cX12_isLetter 2 (some .boolean) 0 0 D cy B [.ref (B + 202), .int (iI (z_))] σ ((if σ 202 11 = 1 ∧ σ 202 12 = z_ then 1 else 0)) (σ) := by
  refine CI_of (ty := .boolean) (by decide) (nb_ite) (Nat.le_of_ble_eq_true rfl) ?_
  intro p e R s m args below meth c Q hx hb hml hown hts hK hRf hRl hW hret ls hl
  have hown : s.vm.findClass "LovePartsModel" = some m.cls := hown
  have hS : va_S (AB B) s.heap s.heap [] := va_S.rf
  have hl : lv_has ls 2 [(0, .ref (B + 202)), (1, .int (iI (z_)))] := hl
  refine lv_aload_n hx hb dX12_isLetter_0 rfl (lv_at hl 0 rfl) ?_
  refine wz_get hx hb hts hown hK hW 202 11 (by decide) e_202 rfl (by decide) inG12 w_826 rfl rfl dX12_isLetter_1 ?_
  refine zi_con hx hb dX12_isLetter_4 ?_
  refine zi_cne (tgt := 20) hx hb dX12_isLetter_5 (by decide) (by omega) (by omega) (fun c5 => ?_) (fun c5 => ?_)
  · refine zi_con hx hb dX12_isLetter_20 ?_
    exact hret _ _ _ _ _ _ dX12_isLetter_21 hW hS ⟨by split <;> first | rfl | omega, rfl⟩
  · refine lv_aload_n hx hb dX12_isLetter_8 rfl (lv_at hl 0 rfl) ?_
    refine wz_get hx hb hts hown hK hW 202 12 (by decide) e_202 rfl (by decide) inG12 w_827 rfl rfl dX12_isLetter_9 ?_
    refine lv_iload_n hx hb dX12_isLetter_12 rfl (lv_at hl 1 rfl) ?_
    refine zi_cne (tgt := 20) hx hb dX12_isLetter_13 (by decide) (by omega) (by omega) (fun c13 => ?_) (fun c13 => ?_)
    · refine zi_con hx hb dX12_isLetter_20 ?_
      exact hret _ _ _ _ _ _ dX12_isLetter_21 hW hS ⟨by split <;> first | rfl | omega, rfl⟩
    · refine zi_con hx hb dX12_isLetter_16 ?_
      refine lv_goto (tgt := 21) hx hb dX12_isLetter_17 (by decide) ?_
      exact hret _ _ _ _ _ _ dX12_isLetter_21 hW hS ⟨by split <;> first | rfl | omega, rfl⟩
