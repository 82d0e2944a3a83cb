/-! the last cases -/
set_option maxHeartbeats 1000000 in
theorem lc_who {p : Program} {l : Launch} {e : Env} {s : State} {m : MethodId} {below : List Frame} {meth : Method} {c : Code} {b L : Nat} {xs : Nat → Int32} {D : va_G} {cy : Nat → ClassId} {B cells slots ii : Nat} {Q : State → Prop} {σ : Sg} {H : Heap} {locs : List Loc} {ls : Array Slot} (hE : LE p s m c b L xs D cy B cells slots) (hi : ii + 6 ≤ L) (hR : Rel σ) (hW : wd D cy B σ H) (hS : va_S (AB B) s.heap H locs) (hl : lv_has ls 4 (lvL b B ii)) (nx : LN p l e s m below meth c b D cy B cells slots ii Q) : W p l e room_1 s m #[Value.ref b] below meth c H locs cells slots Q (F0 m 890 ls []) := by
  obtain ⟨hx, hb, hml, hown, hts, hK, hX, hbl, hbA, hL, hcs⟩ := hE
  have hRf : 10 ≤ room_1.frames := Nat.le_of_ble_eq_true rfl
  have hRl : 350 ≤ room_1.locals := Nat.le_of_ble_eq_true rfl
  have hl : lv_has ls 4 [(3, .int (iI ((ii : Nat) : Int))), (2, .ref (B + 202)), (1, .ref (B + 0)), (0, .ref b)] := hl
  obtain ⟨h_, hv0⟩ : ∃ v : Int, v = (xs (ii + 1)).toInt := ⟨_, rfl⟩
  have rv0 : -2147483648 ≤ h_ ∧ h_ < 2147483648 := by rw [hv0]; exact iI_bd _
  obtain ⟨t_, hv1⟩ : ∃ v : Int, v = (xs (ii + 2)).toInt := ⟨_, rfl⟩
  have rv1 : -2147483648 ≤ t_ ∧ t_ < 2147483648 := by rw [hv1]; exact iI_bd _
  obtain ⟨i_, hv2⟩ : ∃ v : Int, v = (xs (ii + 3)).toInt := ⟨_, rfl⟩
  have rv2 : -2147483648 ≤ i_ ∧ i_ < 2147483648 := by rw [hv2]; exact iI_bd _
  refine lv_aload_n hx hb dL_law_890 rfl (lv_at hl 2 rfl) ?_
  refine lv_aload_n hx hb dL_law_891 rfl (lv_at hl 3 rfl) ?_
  refine lv_iload_n hx hb dL_law_892 rfl (lv_at hl 0 rfl) ?_
  refine zi_con hx hb dL_law_893 ?_
  refine zi_add hx hb dL_law_894 ?_
  refine lx_ld hx hb hX hbl hbA hS hv0 (by omega) (by omega) hL dL_law_895 ?_
  refine lv_aload_n hx hb dL_law_896 rfl (lv_at hl 3 rfl) ?_
  refine lv_iload_n hx hb dL_law_897 rfl (lv_at hl 0 rfl) ?_
  refine zi_con hx hb dL_law_898 ?_
  refine zi_add hx hb dL_law_899 ?_
  refine lx_ld hx hb hX hbl hbA hS hv1 (by omega) (by omega) hL dL_law_900 ?_
  refine lv_aload_n hx hb dL_law_901 rfl (lv_at hl 3 rfl) ?_
  refine lv_iload_n hx hb dL_law_902 rfl (lv_at hl 0 rfl) ?_
  refine zi_con hx hb dL_law_903 ?_
  refine zi_add hx hb dL_law_904 ?_
  refine lx_ld hx hb hX hbl hbA hS hv2 (by omega) (by omega) hL dL_law_905 ?_
  refine k_vie (fr := 10) (lo := 350) (r := (if ¬ (0 ≤ h_ ∧ h_ ≤ σ 18 4 - 1) ∨ ¬ (0 ≤ t_ ∧ t_ ≤ 7) then -1000001 else if σ (30 + 2 * t_.toNat) 1 = -1 then -1000011 else if 0 ≤ i_ ∧ i_ ≤ σ (30 + 2 * t_.toNat) 2 - σ 18 4 then bt (whP (σ 18) h_.toNat (fun h => σ (30 + 2 * t_.toNat + 1) (i_.toNat + h))) 6 else -1000012)) (As := [.int (iI h_), .int (iI t_), .int (iI i_)]) (rest := []) hx hb hml hown hts hK hRf hRl hW hS (c_X11_who l D cy B σ h_ t_ i_ rv0 rv1 rv2 hR.o18 hR.ln hR.sz hR.bi) vX11_who ⟨w_671, w_672⟩ w_670 (by decide) e_0 rfl ⟨Nat.le_of_ble_eq_true rfl, Nat.le_of_ble_eq_true rfl⟩ hl.1 rfl (Nat.le_of_ble_eq_true rfl) hcs dL_law_906 (fun τ H locs hτ hW hS => ?_)
  obtain ⟨T_, S_, h1⟩ := hτ
  obtain ⟨σ1, hs1⟩ : ∃ σ1 : Sg, σ1 = τ := ⟨_, rfl⟩
  rw [← hs1] at hW h1
  obtain ⟨pm0, pm1, pm2, heq, hR2⟩ := q_who hR h_ t_ i_ T_ S_ h1
  refine lv_aload_n hx hb dL_law_909 rfl (lv_at hl 1 rfl) ?_
  refine lv_aload_n hx hb dL_law_910 rfl (lv_at hl 3 rfl) ?_
  refine lv_iload_n hx hb dL_law_911 rfl (lv_at hl 0 rfl) ?_
  refine zi_con hx hb dL_law_912 ?_
  refine zi_add hx hb dL_law_913 ?_
  refine lx_ld hx hb hX hbl hbA hS hv0 (by omega) (by omega) hL dL_law_914 ?_
  refine lv_aload_n hx hb dL_law_915 rfl (lv_at hl 3 rfl) ?_
  refine lv_iload_n hx hb dL_law_916 rfl (lv_at hl 0 rfl) ?_
  refine zi_con hx hb dL_law_917 ?_
  refine zi_add hx hb dL_law_918 ?_
  refine lx_ld hx hb hX hbl hbA hS hv1 (by omega) (by omega) hL dL_law_919 ?_
  refine lv_aload_n hx hb dL_law_920 rfl (lv_at hl 3 rfl) ?_
  refine lv_iload_n hx hb dL_law_921 rfl (lv_at hl 0 rfl) ?_
  refine zi_con hx hb dL_law_922 ?_
  refine zi_add hx hb dL_law_923 ?_
  refine lx_ld hx hb hX hbl hbA hS hv2 (by omega) (by omega) hL dL_law_924 ?_
  refine k_vie (fr := 10) (lo := 350) (r := (if ¬ (0 ≤ h_ ∧ h_ ≤ σ1 206 4 - 1) ∨ ¬ (0 ≤ t_ ∧ t_ ≤ 7) then -1000001 else if σ1 204 t_.toNat < 0 then -1000011 else if 0 ≤ i_ ∧ i_ ≤ σ1 204 t_.toNat - σ1 206 4 then bt (whP (σ1 206) h_.toNat (fun h => σ1 205 (40 * t_.toNat + i_.toNat + h))) 6 else -1000012)) (As := [.int (iI h_), .int (iI t_), .int (iI i_)]) (rest := [.int (iI (if ¬ (0 ≤ h_ ∧ h_ ≤ σ 18 4 - 1) ∨ ¬ (0 ≤ t_ ∧ t_ ≤ 7) then -1000001 else if σ (30 + 2 * t_.toNat) 1 = -1 then -1000011 else if 0 ≤ i_ ∧ i_ ≤ σ (30 + 2 * t_.toNat) 2 - σ 18 4 then bt (whP (σ 18) h_.toNat (fun h => σ (30 + 2 * t_.toNat + 1) (i_.toNat + h))) 6 else -1000012))]) hx hb hml hown hts hK hRf hRl hW hS (c_X12_who l D cy B σ1 h_ t_ i_ rv0 rv1 rv2 pm0 pm1 pm2) vX12_who ⟨w_1126, w_1127⟩ w_1125 (by decide) e_202 rfl ⟨Nat.le_of_ble_eq_true rfl, Nat.le_of_ble_eq_true rfl⟩ hl.1 rfl (Nat.le_of_ble_eq_true rfl) hcs dL_law_925 (fun τ H locs hτ hW hS => ?_)
  obtain ⟨g9, h2⟩ := hτ
  have hR3 : Rel τ := by rw [h2]; exact hR2 g9
  refine lv_icmp_eq (tgt := 1214) hx hb dL_law_928 (by decide) (fun _ => ?_) (fun hne => absurd (congrArg iI heq) hne)
  exact nx _ _ _ _ hR3 hW hS hl
set_option maxHeartbeats 1000000 in
theorem lc_odds {p : Program} {l : Launch} {e : Env} {s : State} {m : MethodId} {below : List Frame} {meth : Method} {c : Code} {b L : Nat} {xs : Nat → Int32} {D : va_G} {cy : Nat → ClassId} {B cells slots ii : Nat} {Q : State → Prop} {σ : Sg} {H : Heap} {locs : List Loc} {ls : Array Slot} (hE : LE p s m c b L xs D cy B cells slots) (hi : ii + 6 ≤ L) (hR : Rel σ) (hW : wd D cy B σ H) (hS : va_S (AB B) s.heap H locs) (hl : lv_has ls 4 (lvL b B ii)) (nx : LN p l e s m below meth c b D cy B cells slots ii Q) : W p l e room_1 s m #[Value.ref b] below meth c H locs cells slots Q (F0 m 933 ls []) := by
  obtain ⟨hx, hb, hml, hown, hts, hK, hX, hbl, hbA, hL, hcs⟩ := hE
  have hRf : 10 ≤ room_1.frames := Nat.le_of_ble_eq_true rfl
  have hRl : 350 ≤ room_1.locals := Nat.le_of_ble_eq_true rfl
  have hl : lv_has ls 4 [(3, .int (iI ((ii : Nat) : Int))), (2, .ref (B + 202)), (1, .ref (B + 0)), (0, .ref b)] := hl
  obtain ⟨h_, hv0⟩ : ∃ v : Int, v = (xs (ii + 1)).toInt := ⟨_, rfl⟩
  have rv0 : -2147483648 ≤ h_ ∧ h_ < 2147483648 := by rw [hv0]; exact iI_bd _
  obtain ⟨p_, hv1⟩ : ∃ v : Int, v = (xs (ii + 2)).toInt := ⟨_, rfl⟩
  have rv1 : -2147483648 ≤ p_ ∧ p_ < 2147483648 := by rw [hv1]; exact iI_bd _
  obtain ⟨w_, hv2⟩ : ∃ v : Int, v = (xs (ii + 3)).toInt := ⟨_, rfl⟩
  have rv2 : -2147483648 ≤ w_ ∧ w_ < 2147483648 := by rw [hv2]; exact iI_bd _
  refine lv_aload_n hx hb dL_law_933 rfl (lv_at hl 2 rfl) ?_
  refine lv_aload_n hx hb dL_law_934 rfl (lv_at hl 3 rfl) ?_
  refine lv_iload_n hx hb dL_law_935 rfl (lv_at hl 0 rfl) ?_
  refine zi_con hx hb dL_law_936 ?_
  refine zi_add hx hb dL_law_937 ?_
  refine lx_ld hx hb hX hbl hbA hS hv0 (by omega) (by omega) hL dL_law_938 ?_
  refine lv_aload_n hx hb dL_law_939 rfl (lv_at hl 3 rfl) ?_
  refine lv_iload_n hx hb dL_law_940 rfl (lv_at hl 0 rfl) ?_
  refine zi_con hx hb dL_law_941 ?_
  refine zi_add hx hb dL_law_942 ?_
  refine lx_ld hx hb hX hbl hbA hS hv1 (by omega) (by omega) hL dL_law_943 ?_
  refine lv_aload_n hx hb dL_law_944 rfl (lv_at hl 3 rfl) ?_
  refine lv_iload_n hx hb dL_law_945 rfl (lv_at hl 0 rfl) ?_
  refine zi_con hx hb dL_law_946 ?_
  refine zi_add hx hb dL_law_947 ?_
  refine lx_ld hx hb hX hbl hbA hS hv2 (by omega) (by omega) hL dL_law_948 ?_
  refine k_vle (fr := 10) (lo := 350) (r := (if ¬ (0 ≤ h_ ∧ h_ ≤ σ 18 4 - 1) ∨ ¬ (0 ≤ p_ ∧ p_ ≤ 10) ∨ ¬ (0 ≤ w_ ∧ w_ ≤ 1) then -1000001 else oddsR (σ 18) p_ h_.toNat w_)) (As := [.int (iI h_), .int (iI p_), .int (iI w_)]) (rest := []) hx hb hml hown hts hK hRf hRl hW hS (c_X11_odds l D cy B σ h_ p_ w_ rv0 rv1 rv2 hR.o18) vX11_odds ⟨w_675, w_676⟩ w_674 (by decide) e_0 rfl ⟨Nat.le_of_ble_eq_true rfl, Nat.le_of_ble_eq_true rfl⟩ hl.1 rfl (Nat.le_of_ble_eq_true rfl) hcs dL_law_949 (fun τ H locs hτ hW hS => ?_)
  obtain ⟨T_, S_, h1⟩ := hτ
  obtain ⟨σ1, hs1⟩ : ∃ σ1 : Sg, σ1 = τ := ⟨_, rfl⟩
  rw [← hs1] at hW h1
  obtain ⟨pm0, heq, hR2⟩ := q_odds hR h_ p_ w_ T_ S_ h1
  refine lv_aload_n hx hb dL_law_952 rfl (lv_at hl 1 rfl) ?_
  refine lv_aload_n hx hb dL_law_953 rfl (lv_at hl 3 rfl) ?_
  refine lv_iload_n hx hb dL_law_954 rfl (lv_at hl 0 rfl) ?_
  refine zi_con hx hb dL_law_955 ?_
  refine zi_add hx hb dL_law_956 ?_
  refine lx_ld hx hb hX hbl hbA hS hv0 (by omega) (by omega) hL dL_law_957 ?_
  refine lv_aload_n hx hb dL_law_958 rfl (lv_at hl 3 rfl) ?_
  refine lv_iload_n hx hb dL_law_959 rfl (lv_at hl 0 rfl) ?_
  refine zi_con hx hb dL_law_960 ?_
  refine zi_add hx hb dL_law_961 ?_
  refine lx_ld hx hb hX hbl hbA hS hv1 (by omega) (by omega) hL dL_law_962 ?_
  refine lv_aload_n hx hb dL_law_963 rfl (lv_at hl 3 rfl) ?_
  refine lv_iload_n hx hb dL_law_964 rfl (lv_at hl 0 rfl) ?_
  refine zi_con hx hb dL_law_965 ?_
  refine zi_add hx hb dL_law_966 ?_
  refine lx_ld hx hb hX hbl hbA hS hv2 (by omega) (by omega) hL dL_law_967 ?_
  refine k_vle (fr := 10) (lo := 350) (r := (if ¬ (0 ≤ h_ ∧ h_ ≤ σ1 206 4 - 1) ∨ ¬ (0 ≤ p_ ∧ p_ ≤ 10) ∨ ¬ (0 ≤ w_ ∧ w_ ≤ 1) then -1000001 else oddsR (σ1 206) p_ h_.toNat w_)) (As := [.int (iI h_), .int (iI p_), .int (iI w_)]) (rest := [.long (lI (if ¬ (0 ≤ h_ ∧ h_ ≤ σ 18 4 - 1) ∨ ¬ (0 ≤ p_ ∧ p_ ≤ 10) ∨ ¬ (0 ≤ w_ ∧ w_ ≤ 1) then -1000001 else oddsR (σ 18) p_ h_.toNat w_))]) hx hb hml hown hts hK hRf hRl hW hS (c_X12_odds l D cy B σ1 h_ p_ w_ rv0 rv1 rv2 pm0) vX12_odds ⟨w_1130, w_1131⟩ w_1129 (by decide) e_202 rfl ⟨Nat.le_of_ble_eq_true rfl, Nat.le_of_ble_eq_true rfl⟩ hl.1 rfl (Nat.le_of_ble_eq_true rfl) hcs dL_law_968 (fun τ H locs hτ hW hS => ?_)
  obtain ⟨g9, h2⟩ := hτ
  have hR3 : Rel τ := by rw [h2]; exact hR2 g9
  refine W.lcmp hx hb dL_law_971 ?_
  rw [heq, lg_self]
  refine zi_eq (tgt := 1214) hx hb dL_law_972 (by decide) (by omega) (fun _ => ?_) (fun h => absurd rfl h)
  exact nx _ _ _ _ hR3 hW hS hl
set_option maxHeartbeats 1000000 in
theorem lc_drawn {p : Program} {l : Launch} {e : Env} {s : State} {m : MethodId} {below : List Frame} {meth : Method} {c : Code} {b L : Nat} {xs : Nat → Int32} {D : va_G} {cy : Nat → ClassId} {B cells slots ii : Nat} {Q : State → Prop} {σ : Sg} {H : Heap} {locs : List Loc} {ls : Array Slot} (hE : LE p s m c b L xs D cy B cells slots) (hi : ii + 6 ≤ L) (hR : Rel σ) (hW : wd D cy B σ H) (hS : va_S (AB B) s.heap H locs) (hl : lv_has ls 4 (lvL b B ii)) (nx : LN p l e s m below meth c b D cy B cells slots ii Q) : W p l e room_1 s m #[Value.ref b] below meth c H locs cells slots Q (F0 m 977 ls []) := by
  obtain ⟨hx, hb, hml, hown, hts, hK, hX, hbl, hbA, hL, hcs⟩ := hE
  have hRf : 10 ≤ room_1.frames := Nat.le_of_ble_eq_true rfl
  have hRl : 350 ≤ room_1.locals := Nat.le_of_ble_eq_true rfl
  have hl : lv_has ls 4 [(3, .int (iI ((ii : Nat) : Int))), (2, .ref (B + 202)), (1, .ref (B + 0)), (0, .ref b)] := hl
  obtain ⟨z_, hv0⟩ : ∃ v : Int, v = (xs (ii + 1)).toInt := ⟨_, rfl⟩
  have rv0 : -2147483648 ≤ z_ ∧ z_ < 2147483648 := by rw [hv0]; exact iI_bd _
  obtain ⟨s_, hv1⟩ : ∃ v : Int, v = (xs (ii + 2)).toInt := ⟨_, rfl⟩
  have rv1 : -2147483648 ≤ s_ ∧ s_ < 2147483648 := by rw [hv1]; exact iI_bd _
  obtain ⟨w_, hv2⟩ : ∃ v : Int, v = (xs (ii + 3)).toInt := ⟨_, rfl⟩
  have rv2 : -2147483648 ≤ w_ ∧ w_ < 2147483648 := by rw [hv2]; exact iI_bd _
  refine lv_aload_n hx hb dL_law_977 rfl (lv_at hl 2 rfl) ?_
  refine lv_aload_n hx hb dL_law_978 rfl (lv_at hl 3 rfl) ?_
  refine lv_iload_n hx hb dL_law_979 rfl (lv_at hl 0 rfl) ?_
  refine zi_con hx hb dL_law_980 ?_
  refine zi_add hx hb dL_law_981 ?_
  refine lx_ld hx hb hX hbl hbA hS hv0 (by omega) (by omega) hL dL_law_982 ?_
  refine lv_aload_n hx hb dL_law_983 rfl (lv_at hl 3 rfl) ?_
  refine lv_iload_n hx hb dL_law_984 rfl (lv_at hl 0 rfl) ?_
  refine zi_con hx hb dL_law_985 ?_
  refine zi_add hx hb dL_law_986 ?_
  refine lx_ld hx hb hX hbl hbA hS hv1 (by omega) (by omega) hL dL_law_987 ?_
  refine lv_aload_n hx hb dL_law_988 rfl (lv_at hl 3 rfl) ?_
  refine lv_iload_n hx hb dL_law_989 rfl (lv_at hl 0 rfl) ?_
  refine zi_con hx hb dL_law_990 ?_
  refine zi_add hx hb dL_law_991 ?_
  refine lx_ld hx hb hX hbl hbA hS hv2 (by omega) (by omega) hL dL_law_992 ?_
  refine k_vie (fr := 10) (lo := 350) (r := (if σ 18 4 = 0 then -1000002 else if ¬ (0 ≤ z_ ∧ z_ ≤ 60) ∨ ¬ (1 ≤ s_ ∧ s_ ≤ 999999) ∨ ¬ (0 ≤ w_ ∧ w_ ≤ 1) then -1000001 else if w_ = 0 then drf (σ 18) s_ z_.toNat 1 else brk (drf (σ 18) s_ z_.toNat))) (As := [.int (iI z_), .int (iI s_), .int (iI w_)]) (rest := []) hx hb hml hown hts hK hRf hRl hW hS (c_X11_drawn l D cy B σ z_ s_ w_ rv0 rv1 rv2 hR.o18 hR.m18) vX11_drawn ⟨w_695, w_696⟩ w_694 (by decide) e_0 rfl ⟨Nat.le_of_ble_eq_true rfl, Nat.le_of_ble_eq_true rfl⟩ hl.1 rfl (Nat.le_of_ble_eq_true rfl) hcs dL_law_993 (fun τ H locs hτ hW hS => ?_)
  obtain ⟨T_, h1⟩ := hτ
  obtain ⟨σ1, hs1⟩ : ∃ σ1 : Sg, σ1 = τ := ⟨_, rfl⟩
  rw [← hs1] at hW h1
  obtain ⟨pm0, pm1, pm2, heq, hR2⟩ := q_drawn hR z_ s_ w_ T_ h1
  refine lv_aload_n hx hb dL_law_996 rfl (lv_at hl 1 rfl) ?_
  refine lv_aload_n hx hb dL_law_997 rfl (lv_at hl 3 rfl) ?_
  refine lv_iload_n hx hb dL_law_998 rfl (lv_at hl 0 rfl) ?_
  refine zi_con hx hb dL_law_999 ?_
  refine zi_add hx hb dL_law_1000 ?_
  refine lx_ld hx hb hX hbl hbA hS hv0 (by omega) (by omega) hL dL_law_1001 ?_
  refine lv_aload_n hx hb dL_law_1002 rfl (lv_at hl 3 rfl) ?_
  refine lv_iload_n hx hb dL_law_1003 rfl (lv_at hl 0 rfl) ?_
  refine zi_con hx hb dL_law_1004 ?_
  refine zi_add hx hb dL_law_1005 ?_
  refine lx_ld hx hb hX hbl hbA hS hv1 (by omega) (by omega) hL dL_law_1006 ?_
  refine lv_aload_n hx hb dL_law_1007 rfl (lv_at hl 3 rfl) ?_
  refine lv_iload_n hx hb dL_law_1008 rfl (lv_at hl 0 rfl) ?_
  refine zi_con hx hb dL_law_1009 ?_
  refine zi_add hx hb dL_law_1010 ?_
  refine lx_ld hx hb hX hbl hbA hS hv2 (by omega) (by omega) hL dL_law_1011 ?_
  refine k_vi (fr := 10) (lo := 350) (r := (if σ1 206 4 = 0 then -1000002 else if ¬ (0 ≤ z_ ∧ z_ ≤ 60) ∨ ¬ (1 ≤ s_ ∧ s_ ≤ 999999) ∨ ¬ (0 ≤ w_ ∧ w_ ≤ 1) then -1000001 else if w_ = 0 then drf (σ1 206) s_ z_.toNat 1 else brk (drf (σ1 206) s_ z_.toNat))) (σ' := (if σ1 206 4 = 0 then σ1 else if ¬ (0 ≤ z_ ∧ z_ ≤ 60) ∨ ¬ (1 ≤ s_ ∧ s_ ≤ 999999) ∨ ¬ (0 ≤ w_ ∧ w_ ≤ 1) then σ1 else us σ1 212 (σ1 206))) (As := [.int (iI z_), .int (iI s_), .int (iI w_)]) (rest := [.int (iI (if σ 18 4 = 0 then -1000002 else if ¬ (0 ≤ z_ ∧ z_ ≤ 60) ∨ ¬ (1 ≤ s_ ∧ s_ ≤ 999999) ∨ ¬ (0 ≤ w_ ∧ w_ ≤ 1) then -1000001 else if w_ = 0 then drf (σ 18) s_ z_.toNat 1 else brk (drf (σ 18) s_ z_.toNat)))]) hx hb hml hown hts hK hRf hRl hW hS (c_X12_drawn l D cy B σ1 z_ s_ w_ rv0 rv1 rv2 pm0 pm1 pm2) vX12_drawn ⟨w_1139, w_1140⟩ w_1138 (by decide) e_202 rfl ⟨Nat.le_of_ble_eq_true rfl, Nat.le_of_ble_eq_true rfl⟩ hl.1 rfl (Nat.le_of_ble_eq_true rfl) hcs dL_law_1012 (fun H locs hW hS => ?_)
  refine lv_icmp_eq (tgt := 1214) hx hb dL_law_1015 (by decide) (fun _ => ?_) (fun hne => absurd (congrArg iI heq) hne)
  exact nx _ _ _ _ hR2 hW hS hl
set_option maxHeartbeats 1000000 in
theorem lc_image {p : Program} {l : Launch} {e : Env} {s : State} {m : MethodId} {below : List Frame} {meth : Method} {c : Code} {b L : Nat} {xs : Nat → Int32} {D : va_G} {cy : Nat → ClassId} {B cells slots ii : Nat} {Q : State → Prop} {σ : Sg} {H : Heap} {locs : List Loc} {ls : Array Slot} (hE : LE p s m c b L xs D cy B cells slots) (hi : ii + 6 ≤ L) (hR : Rel σ) (hW : wd D cy B σ H) (hS : va_S (AB B) s.heap H locs) (hl : lv_has ls 4 (lvL b B ii)) (nx : LN p l e s m below meth c b D cy B cells slots ii Q) : W p l e room_1 s m #[Value.ref b] below meth c H locs cells slots Q (F0 m 1020 ls []) := by
  obtain ⟨hx, hb, hml, hown, hts, hK, hX, hbl, hbA, hL, hcs⟩ := hE
  have hRf : 10 ≤ room_1.frames := Nat.le_of_ble_eq_true rfl
  have hRl : 350 ≤ room_1.locals := Nat.le_of_ble_eq_true rfl
  have hl : lv_has ls 4 [(3, .int (iI ((ii : Nat) : Int))), (2, .ref (B + 202)), (1, .ref (B + 0)), (0, .ref b)] := hl
  obtain ⟨z_, hv0⟩ : ∃ v : Int, v = (xs (ii + 1)).toInt := ⟨_, rfl⟩
  have rv0 : -2147483648 ≤ z_ ∧ z_ < 2147483648 := by rw [hv0]; exact iI_bd _
  refine lv_aload_n hx hb dL_law_1020 rfl (lv_at hl 2 rfl) ?_
  refine lv_aload_n hx hb dL_law_1021 rfl (lv_at hl 3 rfl) ?_
  refine lv_iload_n hx hb dL_law_1022 rfl (lv_at hl 0 rfl) ?_
  refine zi_con hx hb dL_law_1023 ?_
  refine zi_add hx hb dL_law_1024 ?_
  refine lx_ld hx hb hX hbl hbA hS hv0 (by omega) (by omega) hL dL_law_1025 ?_
  refine k_vi (fr := 10) (lo := 350) (r := (if ¬ (0 ≤ z_ ∧ z_ ≤ 1) then -1000001 else if σ 18 4 = 0 then -1000002 else 1)) (σ' := (if ¬ (0 ≤ z_ ∧ z_ ≤ 1) then σ else if σ 18 4 = 0 then σ else us σ (46 + 6 * z_.toNat) (tkN (σ (46 + 6 * z_.toNat)) (σ 18) (mn (σ 18))))) (As := [.int (iI z_)]) (rest := []) hx hb hml hown hts hK hRf hRl hW hS (c_X11_image l D cy B σ z_ rv0 hR.o18) vX11_image ⟨w_702, w_703⟩ w_701 (by decide) e_0 rfl ⟨Nat.le_of_ble_eq_true rfl, Nat.le_of_ble_eq_true rfl⟩ hl.1 rfl (Nat.le_of_ble_eq_true rfl) hcs dL_law_1026 (fun H locs hW hS => ?_)
  obtain ⟨σ1, h1, hW⟩ : ∃ σ1 : Sg, σ1 = (if ¬ (0 ≤ z_ ∧ z_ ≤ 1) then σ else if σ 18 4 = 0 then σ else us σ (46 + 6 * z_.toNat) (tkN (σ (46 + 6 * z_.toNat)) (σ 18) (mn (σ 18)))) ∧ wd D cy B σ1 H := ⟨_, rfl, hW⟩
  obtain ⟨pm0, pm1, heq, hR2⟩ := q_image hR z_ h1
  refine lv_aload_n hx hb dL_law_1029 rfl (lv_at hl 1 rfl) ?_
  refine lv_aload_n hx hb dL_law_1030 rfl (lv_at hl 3 rfl) ?_
  refine lv_iload_n hx hb dL_law_1031 rfl (lv_at hl 0 rfl) ?_
  refine zi_con hx hb dL_law_1032 ?_
  refine zi_add hx hb dL_law_1033 ?_
  refine lx_ld hx hb hX hbl hbA hS hv0 (by omega) (by omega) hL dL_law_1034 ?_
  refine k_vi (fr := 10) (lo := 350) (r := (if ¬ (0 ≤ z_ ∧ z_ ≤ 1) then -1000001 else if σ1 206 4 = 0 then -1000002 else 1)) (σ' := (if ¬ (0 ≤ z_ ∧ z_ ≤ 1) then σ1 else if σ1 206 4 = 0 then σ1 else up (us σ1 215 (cpo (48 * z_.toNat) 48 (σ1 206) (σ1 215))) 214 z_.toNat 1)) (As := [.int (iI z_)]) (rest := [.int (iI (if ¬ (0 ≤ z_ ∧ z_ ≤ 1) then -1000001 else if σ 18 4 = 0 then -1000002 else 1))]) hx hb hml hown hts hK hRf hRl hW hS (c_X12_image l D cy B σ1 z_ rv0 pm0 pm1) vX12_image ⟨w_1146, w_1147⟩ w_1145 (by decide) e_202 rfl ⟨Nat.le_of_ble_eq_true rfl, Nat.le_of_ble_eq_true rfl⟩ hl.1 rfl (Nat.le_of_ble_eq_true rfl) hcs dL_law_1035 (fun H locs hW hS => ?_)
  refine lv_icmp_eq (tgt := 1214) hx hb dL_law_1038 (by decide) (fun _ => ?_) (fun hne => absurd (congrArg iI heq) hne)
  exact nx _ _ _ _ hR2 hW hS hl
set_option maxHeartbeats 1000000 in
theorem lc_restore {p : Program} {l : Launch} {e : Env} {s : State} {m : MethodId} {below : List Frame} {meth : Method} {c : Code} {b L : Nat} {xs : Nat → Int32} {D : va_G} {cy : Nat → ClassId} {B cells slots ii : Nat} {Q : State → Prop} {σ : Sg} {H : Heap} {locs : List Loc} {ls : Array Slot} (hE : LE p s m c b L xs D cy B cells slots) (hi : ii + 6 ≤ L) (hR : Rel σ) (hW : wd D cy B σ H) (hS : va_S (AB B) s.heap H locs) (hl : lv_has ls 4 (lvL b B ii)) (nx : LN p l e s m below meth c b D cy B cells slots ii Q) : W p l e room_1 s m #[Value.ref b] below meth c H locs cells slots Q (F0 m 1043 ls []) := by
  obtain ⟨hx, hb, hml, hown, hts, hK, hX, hbl, hbA, hL, hcs⟩ := hE
  have hRf : 10 ≤ room_1.frames := Nat.le_of_ble_eq_true rfl
  have hRl : 350 ≤ room_1.locals := Nat.le_of_ble_eq_true rfl
  have hl : lv_has ls 4 [(3, .int (iI ((ii : Nat) : Int))), (2, .ref (B + 202)), (1, .ref (B + 0)), (0, .ref b)] := hl
  obtain ⟨z_, hv0⟩ : ∃ v : Int, v = (xs (ii + 1)).toInt := ⟨_, rfl⟩
  have rv0 : -2147483648 ≤ z_ ∧ z_ < 2147483648 := by rw [hv0]; exact iI_bd _
  refine lv_aload_n hx hb dL_law_1043 rfl (lv_at hl 2 rfl) ?_
  refine lv_aload_n hx hb dL_law_1044 rfl (lv_at hl 3 rfl) ?_
  refine lv_iload_n hx hb dL_law_1045 rfl (lv_at hl 0 rfl) ?_
  refine zi_con hx hb dL_law_1046 ?_
  refine zi_add hx hb dL_law_1047 ?_
  refine lx_ld hx hb hX hbl hbA hS hv0 (by omega) (by omega) hL dL_law_1048 ?_
  refine k_vi (fr := 10) (lo := 350) (r := (if ¬ (0 ≤ z_ ∧ z_ ≤ 1) then -1000001 else if σ (46 + 6 * z_.toNat) 4 = 0 then -1000002 else 1)) (σ' := (if ¬ (0 ≤ z_ ∧ z_ ≤ 1) then σ else if σ (46 + 6 * z_.toNat) 4 = 0 then σ else up (up (us σ 18 (tkN (σ 18) (σ (46 + 6 * z_.toNat)) (mn (σ (46 + 6 * z_.toNat))))) 0 8 0) 0 9 0)) (As := [.int (iI z_)]) (rest := []) hx hb hml hown hts hK hRf hRl hW hS (c_X11_restore l D cy B σ z_ rv0 hR.im) vX11_restore ⟨w_706, w_707⟩ w_705 (by decide) e_0 rfl ⟨Nat.le_of_ble_eq_true rfl, Nat.le_of_ble_eq_true rfl⟩ hl.1 rfl (Nat.le_of_ble_eq_true rfl) hcs dL_law_1049 (fun H locs hW hS => ?_)
  obtain ⟨σ1, h1, hW⟩ : ∃ σ1 : Sg, σ1 = (if ¬ (0 ≤ z_ ∧ z_ ≤ 1) then σ else if σ (46 + 6 * z_.toNat) 4 = 0 then σ else up (up (us σ 18 (tkN (σ 18) (σ (46 + 6 * z_.toNat)) (mn (σ (46 + 6 * z_.toNat))))) 0 8 0) 0 9 0) ∧ wd D cy B σ1 H := ⟨_, rfl, hW⟩
  obtain ⟨pm0, heq, hR2⟩ := q_restore hR z_ h1
  refine lv_aload_n hx hb dL_law_1052 rfl (lv_at hl 1 rfl) ?_
  refine lv_aload_n hx hb dL_law_1053 rfl (lv_at hl 3 rfl) ?_
  refine lv_iload_n hx hb dL_law_1054 rfl (lv_at hl 0 rfl) ?_
  refine zi_con hx hb dL_law_1055 ?_
  refine zi_add hx hb dL_law_1056 ?_
  refine lx_ld hx hb hX hbl hbA hS hv0 (by omega) (by omega) hL dL_law_1057 ?_
  refine k_vi (fr := 10) (lo := 350) (r := (if ¬ (0 ≤ z_ ∧ z_ ≤ 1) then -1000001 else if σ1 214 z_.toNat = 0 then -1000002 else 1)) (σ' := (if ¬ (0 ≤ z_ ∧ z_ ≤ 1) then σ1 else if σ1 214 z_.toNat = 0 then σ1 else up (us σ1 206 (fun j => σ1 215 (48 * z_.toNat + j))) 202 18 0)) (As := [.int (iI z_)]) (rest := [.int (iI (if ¬ (0 ≤ z_ ∧ z_ ≤ 1) then -1000001 else if σ (46 + 6 * z_.toNat) 4 = 0 then -1000002 else 1))]) hx hb hml hown hts hK hRf hRl hW hS (c_X12_restore l D cy B σ1 z_ rv0 pm0) vX12_restore ⟨w_1150, w_1151⟩ w_1149 (by decide) e_202 rfl ⟨Nat.le_of_ble_eq_true rfl, Nat.le_of_ble_eq_true rfl⟩ hl.1 rfl (Nat.le_of_ble_eq_true rfl) hcs dL_law_1058 (fun H locs hW hS => ?_)
  refine lv_icmp_eq (tgt := 1214) hx hb dL_law_1061 (by decide) (fun _ => ?_) (fun hne => absurd (congrArg iI heq) hne)
  exact nx _ _ _ _ hR2 hW hS hl
set_option maxHeartbeats 1000000 in
theorem lc_kind {p : Program} {l : Launch} {e : Env} {s : State} {m : MethodId} {below : List Frame} {meth : Method} {c : Code} {b L : Nat} {xs : Nat → Int32} {D : va_G} {cy : Nat → ClassId} {B cells slots ii : Nat} {Q : State → Prop} {σ : Sg} {H : Heap} {locs : List Loc} {ls : Array Slot} (hE : LE p s m c b L xs D cy B cells slots) (hi : ii + 6 ≤ L) (hR : Rel σ) (hW : wd D cy B σ H) (hS : va_S (AB B) s.heap H locs) (hl : lv_has ls 4 (lvL b B ii)) (nx : LN p l e s m below meth c b D cy B cells slots ii Q) : W p l e room_1 s m #[Value.ref b] below meth c H locs cells slots Q (F0 m 1066 ls []) := by
  obtain ⟨hx, hb, hml, hown, hts, hK, hX, hbl, hbA, hL, hcs⟩ := hE
  have hRf : 10 ≤ room_1.frames := Nat.le_of_ble_eq_true rfl
  have hRl : 350 ≤ room_1.locals := Nat.le_of_ble_eq_true rfl
  have hl : lv_has ls 4 [(3, .int (iI ((ii : Nat) : Int))), (2, .ref (B + 202)), (1, .ref (B + 0)), (0, .ref b)] := hl
  obtain ⟨h_, hv0⟩ : ∃ v : Int, v = (xs (ii + 1)).toInt := ⟨_, rfl⟩
  have rv0 : -2147483648 ≤ h_ ∧ h_ < 2147483648 := by rw [hv0]; exact iI_bd _
  refine lv_aload_n hx hb dL_law_1066 rfl (lv_at hl 2 rfl) ?_
  refine lv_aload_n hx hb dL_law_1067 rfl (lv_at hl 3 rfl) ?_
  refine lv_iload_n hx hb dL_law_1068 rfl (lv_at hl 0 rfl) ?_
  refine zi_con hx hb dL_law_1069 ?_
  refine zi_add hx hb dL_law_1070 ?_
  refine lx_ld hx hb hX hbl hbA hS hv0 (by omega) (by omega) hL dL_law_1071 ?_
  refine k_vi (fr := 10) (lo := 350) (r := (if ¬ (0 ≤ h_ ∧ h_ ≤ σ 18 4 - 1) then -1000001 else σ 18 (8 + h_.toNat))) (σ' := (σ)) (As := [.int (iI h_)]) (rest := []) hx hb hml hown hts hK hRf hRl hW hS (c_X11_kind l D cy B σ h_ rv0 hR.o18) vX11_kind ⟨w_710, w_711⟩ w_709 (by decide) e_0 rfl ⟨Nat.le_of_ble_eq_true rfl, Nat.le_of_ble_eq_true rfl⟩ hl.1 rfl (Nat.le_of_ble_eq_true rfl) hcs dL_law_1072 (fun H locs hW hS => ?_)
  obtain ⟨σ1, h1, hW⟩ : ∃ σ1 : Sg, σ1 = (σ) ∧ wd D cy B σ1 H := ⟨_, rfl, hW⟩
  obtain ⟨pm0, heq, hR2⟩ := q_kind hR h_ h1
  refine lv_aload_n hx hb dL_law_1075 rfl (lv_at hl 1 rfl) ?_
  refine lv_aload_n hx hb dL_law_1076 rfl (lv_at hl 3 rfl) ?_
  refine lv_iload_n hx hb dL_law_1077 rfl (lv_at hl 0 rfl) ?_
  refine zi_con hx hb dL_law_1078 ?_
  refine zi_add hx hb dL_law_1079 ?_
  refine lx_ld hx hb hX hbl hbA hS hv0 (by omega) (by omega) hL dL_law_1080 ?_
  refine k_vi (fr := 10) (lo := 350) (r := (if ¬ (0 ≤ h_ ∧ h_ ≤ σ1 206 4 - 1) then -1000001 else σ1 206 (8 + h_.toNat))) (σ' := (σ1)) (As := [.int (iI h_)]) (rest := [.int (iI (if ¬ (0 ≤ h_ ∧ h_ ≤ σ 18 4 - 1) then -1000001 else σ 18 (8 + h_.toNat)))]) hx hb hml hown hts hK hRf hRl hW hS (c_X12_kind l D cy B σ1 h_ rv0 pm0) vX12_kind ⟨w_1154, w_1155⟩ w_1153 (by decide) e_202 rfl ⟨Nat.le_of_ble_eq_true rfl, Nat.le_of_ble_eq_true rfl⟩ hl.1 rfl (Nat.le_of_ble_eq_true rfl) hcs dL_law_1081 (fun H locs hW hS => ?_)
  refine lv_icmp_eq (tgt := 1214) hx hb dL_law_1084 (by decide) (fun _ => ?_) (fun hne => absurd (congrArg iI heq) hne)
  exact nx _ _ _ _ hR2 hW hS hl
set_option maxHeartbeats 1000000 in
theorem lc_as {p : Program} {l : Launch} {e : Env} {s : State} {m : MethodId} {below : List Frame} {meth : Method} {c : Code} {b L : Nat} {xs : Nat → Int32} {D : va_G} {cy : Nat → ClassId} {B cells slots ii : Nat} {Q : State → Prop} {σ : Sg} {H : Heap} {locs : List Loc} {ls : Array Slot} (hE : LE p s m c b L xs D cy B cells slots) (hi : ii + 6 ≤ L) (hR : Rel σ) (hW : wd D cy B σ H) (hS : va_S (AB B) s.heap H locs) (hl : lv_has ls 4 (lvL b B ii)) (nx : LN p l e s m below meth c b D cy B cells slots ii Q) : W p l e room_1 s m #[Value.ref b] below meth c H locs cells slots Q (F0 m 1089 ls []) := by
  obtain ⟨hx, hb, hml, hown, hts, hK, hX, hbl, hbA, hL, hcs⟩ := hE
  have hRf : 10 ≤ room_1.frames := Nat.le_of_ble_eq_true rfl
  have hRl : 350 ≤ room_1.locals := Nat.le_of_ble_eq_true rfl
  have hl : lv_has ls 4 [(3, .int (iI ((ii : Nat) : Int))), (2, .ref (B + 202)), (1, .ref (B + 0)), (0, .ref b)] := hl
  obtain ⟨h_, hv0⟩ : ∃ v : Int, v = (xs (ii + 1)).toInt := ⟨_, rfl⟩
  have rv0 : -2147483648 ≤ h_ ∧ h_ < 2147483648 := by rw [hv0]; exact iI_bd _
  obtain ⟨b_, hv1⟩ : ∃ v : Int, v = (xs (ii + 2)).toInt := ⟨_, rfl⟩
  have rv1 : -2147483648 ≤ b_ ∧ b_ < 2147483648 := by rw [hv1]; exact iI_bd _
  refine lv_aload_n hx hb dL_law_1089 rfl (lv_at hl 2 rfl) ?_
  refine lv_aload_n hx hb dL_law_1090 rfl (lv_at hl 3 rfl) ?_
  refine lv_iload_n hx hb dL_law_1091 rfl (lv_at hl 0 rfl) ?_
  refine zi_con hx hb dL_law_1092 ?_
  refine zi_add hx hb dL_law_1093 ?_
  refine lx_ld hx hb hX hbl hbA hS hv0 (by omega) (by omega) hL dL_law_1094 ?_
  refine lv_aload_n hx hb dL_law_1095 rfl (lv_at hl 3 rfl) ?_
  refine lv_iload_n hx hb dL_law_1096 rfl (lv_at hl 0 rfl) ?_
  refine zi_con hx hb dL_law_1097 ?_
  refine zi_add hx hb dL_law_1098 ?_
  refine lx_ld hx hb hX hbl hbA hS hv1 (by omega) (by omega) hL dL_law_1099 ?_
  refine k_vi (fr := 10) (lo := 350) (r := (if ¬ (0 ≤ h_ ∧ h_ ≤ σ 18 4 - 1) ∨ ¬ (0 ≤ b_ ∧ b_ ≤ 5) then -1000001 else if b_ = 0 ∨ σ 18 (8 + h_.toNat) = b_ ∨ (b_ = 1 ∧ σ 18 (8 + h_.toNat) < 4) ∨ (b_ = 4 ∧ σ 18 (8 + h_.toNat) = 5) then h_ else -1000013)) (σ' := (if ¬ (0 ≤ h_ ∧ h_ ≤ σ 18 4 - 1) ∨ ¬ (0 ≤ b_ ∧ b_ ≤ 5) then σ else if b_ = 0 ∨ σ 18 (8 + h_.toNat) = b_ ∨ (b_ = 1 ∧ σ 18 (8 + h_.toNat) < 4) ∨ (b_ = 4 ∧ σ 18 (8 + h_.toNat) = 5) then up σ 0 15 0 else up σ 0 15 3)) (As := [.int (iI h_), .int (iI b_)]) (rest := []) hx hb hml hown hts hK hRf hRl hW hS (c_X11_as l D cy B σ h_ b_ rv0 rv1 hR.o18) vX11_as ⟨w_732, w_733⟩ w_731 (by decide) e_0 rfl ⟨Nat.le_of_ble_eq_true rfl, Nat.le_of_ble_eq_true rfl⟩ hl.1 rfl (Nat.le_of_ble_eq_true rfl) hcs dL_law_1100 (fun H locs hW hS => ?_)
  obtain ⟨σ1, h1, hW⟩ : ∃ σ1 : Sg, σ1 = (if ¬ (0 ≤ h_ ∧ h_ ≤ σ 18 4 - 1) ∨ ¬ (0 ≤ b_ ∧ b_ ≤ 5) then σ else if b_ = 0 ∨ σ 18 (8 + h_.toNat) = b_ ∨ (b_ = 1 ∧ σ 18 (8 + h_.toNat) < 4) ∨ (b_ = 4 ∧ σ 18 (8 + h_.toNat) = 5) then up σ 0 15 0 else up σ 0 15 3) ∧ wd D cy B σ1 H := ⟨_, rfl, hW⟩
  obtain ⟨pm0, heq, hR2⟩ := q_as hR h_ b_ h1
  refine lv_aload_n hx hb dL_law_1103 rfl (lv_at hl 1 rfl) ?_
  refine lv_aload_n hx hb dL_law_1104 rfl (lv_at hl 3 rfl) ?_
  refine lv_iload_n hx hb dL_law_1105 rfl (lv_at hl 0 rfl) ?_
  refine zi_con hx hb dL_law_1106 ?_
  refine zi_add hx hb dL_law_1107 ?_
  refine lx_ld hx hb hX hbl hbA hS hv0 (by omega) (by omega) hL dL_law_1108 ?_
  refine lv_aload_n hx hb dL_law_1109 rfl (lv_at hl 3 rfl) ?_
  refine lv_iload_n hx hb dL_law_1110 rfl (lv_at hl 0 rfl) ?_
  refine zi_con hx hb dL_law_1111 ?_
  refine zi_add hx hb dL_law_1112 ?_
  refine lx_ld hx hb hX hbl hbA hS hv1 (by omega) (by omega) hL dL_law_1113 ?_
  refine k_vi (fr := 10) (lo := 350) (r := (if ¬ (0 ≤ h_ ∧ h_ ≤ σ1 206 4 - 1) ∨ ¬ (0 ≤ b_ ∧ b_ ≤ 5) then -1000001 else if b_ = 0 ∨ σ1 206 (8 + h_.toNat) = b_ ∨ (b_ = 1 ∧ σ1 206 (8 + h_.toNat) < 4) ∨ (b_ = 4 ∧ σ1 206 (8 + h_.toNat) = 5) then h_ else -1000013)) (σ' := (if ¬ (0 ≤ h_ ∧ h_ ≤ σ1 206 4 - 1) ∨ ¬ (0 ≤ b_ ∧ b_ ≤ 5) then σ1 else if b_ = 0 ∨ σ1 206 (8 + h_.toNat) = b_ ∨ (b_ = 1 ∧ σ1 206 (8 + h_.toNat) < 4) ∨ (b_ = 4 ∧ σ1 206 (8 + h_.toNat) = 5) then up σ1 202 3 0 else up σ1 202 3 3)) (As := [.int (iI h_), .int (iI b_)]) (rest := [.int (iI (if ¬ (0 ≤ h_ ∧ h_ ≤ σ 18 4 - 1) ∨ ¬ (0 ≤ b_ ∧ b_ ≤ 5) then -1000001 else if b_ = 0 ∨ σ 18 (8 + h_.toNat) = b_ ∨ (b_ = 1 ∧ σ 18 (8 + h_.toNat) < 4) ∨ (b_ = 4 ∧ σ 18 (8 + h_.toNat) = 5) then h_ else -1000013))]) hx hb hml hown hts hK hRf hRl hW hS (c_X12_as l D cy B σ1 h_ b_ rv0 rv1 pm0) vX12_as ⟨w_1158, w_1159⟩ w_1157 (by decide) e_202 rfl ⟨Nat.le_of_ble_eq_true rfl, Nat.le_of_ble_eq_true rfl⟩ hl.1 rfl (Nat.le_of_ble_eq_true rfl) hcs dL_law_1114 (fun H locs hW hS => ?_)
  refine lv_icmp_eq (tgt := 1214) hx hb dL_law_1117 (by decide) (fun _ => ?_) (fun hne => absurd (congrArg iI heq) hne)
  exact nx _ _ _ _ hR2 hW hS hl
set_option maxHeartbeats 1000000 in
theorem lc_ask {p : Program} {l : Launch} {e : Env} {s : State} {m : MethodId} {below : List Frame} {meth : Method} {c : Code} {b L : Nat} {xs : Nat → Int32} {D : va_G} {cy : Nat → ClassId} {B cells slots ii : Nat} {Q : State → Prop} {σ : Sg} {H : Heap} {locs : List Loc} {ls : Array Slot} (hE : LE p s m c b L xs D cy B cells slots) (hi : ii + 6 ≤ L) (hR : Rel σ) (hW : wd D cy B σ H) (hS : va_S (AB B) s.heap H locs) (hl : lv_has ls 4 (lvL b B ii)) (nx : LN p l e s m below meth c b D cy B cells slots ii Q) : W p l e room_1 s m #[Value.ref b] below meth c H locs cells slots Q (F0 m 1122 ls []) := by
  obtain ⟨hx, hb, hml, hown, hts, hK, hX, hbl, hbA, hL, hcs⟩ := hE
  have hRf : 10 ≤ room_1.frames := Nat.le_of_ble_eq_true rfl
  have hRl : 350 ≤ room_1.locals := Nat.le_of_ble_eq_true rfl
  have hl : lv_has ls 4 [(3, .int (iI ((ii : Nat) : Int))), (2, .ref (B + 202)), (1, .ref (B + 0)), (0, .ref b)] := hl
  obtain ⟨h_, hv0⟩ : ∃ v : Int, v = (xs (ii + 1)).toInt := ⟨_, rfl⟩
  have rv0 : -2147483648 ≤ h_ ∧ h_ < 2147483648 := by rw [hv0]; exact iI_bd _
  obtain ⟨z_, hv1⟩ : ∃ v : Int, v = (xs (ii + 2)).toInt := ⟨_, rfl⟩
  have rv1 : -2147483648 ≤ z_ ∧ z_ < 2147483648 := by rw [hv1]; exact iI_bd _
  refine lv_aload_n hx hb dL_law_1122 rfl (lv_at hl 2 rfl) ?_
  refine lv_aload_n hx hb dL_law_1123 rfl (lv_at hl 3 rfl) ?_
  refine lv_iload_n hx hb dL_law_1124 rfl (lv_at hl 0 rfl) ?_
  refine zi_con hx hb dL_law_1125 ?_
  refine zi_add hx hb dL_law_1126 ?_
  refine lx_ld hx hb hX hbl hbA hS hv0 (by omega) (by omega) hL dL_law_1127 ?_
  refine lv_aload_n hx hb dL_law_1128 rfl (lv_at hl 3 rfl) ?_
  refine lv_iload_n hx hb dL_law_1129 rfl (lv_at hl 0 rfl) ?_
  refine zi_con hx hb dL_law_1130 ?_
  refine zi_add hx hb dL_law_1131 ?_
  refine lx_ld hx hb hX hbl hbA hS hv1 (by omega) (by omega) hL dL_law_1132 ?_
  refine k_vi (fr := 10) (lo := 350) (r := (if ¬ (0 ≤ h_ ∧ h_ ≤ σ 18 4 - 1) ∨ ¬ (0 ≤ z_ ∧ z_ ≤ 1) then -1000001 else if z_ = 0 then siR (σ 18 (8 + h_.toNat)) (σ 18 (12 + h_.toNat)) (σ 18 (16 + h_.toNat)) h_ else mkR (σ 18 (8 + h_.toNat)) (σ 18 (12 + h_.toNat)) (σ 18 (16 + h_.toNat)) h_)) (σ' := (if ¬ (0 ≤ h_ ∧ h_ ≤ σ 18 4 - 1) ∨ ¬ (0 ≤ z_ ∧ z_ ≤ 1) then σ else if z_ = 0 then tcL (up σ 5 1 0) (siL (σ 18 (8 + h_.toNat))) else tcL (up σ 5 1 0) (mkL (σ 18 (8 + h_.toNat))))) (As := [.int (iI h_), .int (iI z_)]) (rest := []) hx hb hml hown hts hK hRf hRl hW hS (c_X11_ask l D cy B σ h_ z_ rv0 rv1 hR.o18) vX11_ask ⟨w_739, w_740⟩ w_738 (by decide) e_0 rfl ⟨Nat.le_of_ble_eq_true rfl, Nat.le_of_ble_eq_true rfl⟩ hl.1 rfl (Nat.le_of_ble_eq_true rfl) hcs dL_law_1133 (fun H locs hW hS => ?_)
  obtain ⟨σ1, h1, hW⟩ : ∃ σ1 : Sg, σ1 = (if ¬ (0 ≤ h_ ∧ h_ ≤ σ 18 4 - 1) ∨ ¬ (0 ≤ z_ ∧ z_ ≤ 1) then σ else if z_ = 0 then tcL (up σ 5 1 0) (siL (σ 18 (8 + h_.toNat))) else tcL (up σ 5 1 0) (mkL (σ 18 (8 + h_.toNat)))) ∧ wd D cy B σ1 H := ⟨_, rfl, hW⟩
  obtain ⟨pm0, heq, hR2⟩ := q_ask hR h_ z_ h1
  refine lv_aload_n hx hb dL_law_1136 rfl (lv_at hl 1 rfl) ?_
  refine lv_aload_n hx hb dL_law_1137 rfl (lv_at hl 3 rfl) ?_
  refine lv_iload_n hx hb dL_law_1138 rfl (lv_at hl 0 rfl) ?_
  refine zi_con hx hb dL_law_1139 ?_
  refine zi_add hx hb dL_law_1140 ?_
  refine lx_ld hx hb hX hbl hbA hS hv0 (by omega) (by omega) hL dL_law_1141 ?_
  refine lv_aload_n hx hb dL_law_1142 rfl (lv_at hl 3 rfl) ?_
  refine lv_iload_n hx hb dL_law_1143 rfl (lv_at hl 0 rfl) ?_
  refine zi_con hx hb dL_law_1144 ?_
  refine zi_add hx hb dL_law_1145 ?_
  refine lx_ld hx hb hX hbl hbA hS hv1 (by omega) (by omega) hL dL_law_1146 ?_
  refine k_vi (fr := 10) (lo := 350) (r := (if ¬ (0 ≤ h_ ∧ h_ ≤ σ1 206 4 - 1) ∨ ¬ (0 ≤ z_ ∧ z_ ≤ 1) then -1000001 else if z_ = 0 then siR (σ1 206 (8 + h_.toNat)) (σ1 206 (12 + h_.toNat)) (σ1 206 (16 + h_.toNat)) h_ else mkR (σ1 206 (8 + h_.toNat)) (σ1 206 (12 + h_.toNat)) (σ1 206 (16 + h_.toNat)) h_)) (σ' := (if ¬ (0 ≤ h_ ∧ h_ ≤ σ1 206 4 - 1) ∨ ¬ (0 ≤ z_ ∧ z_ ≤ 1) then σ1 else if z_ = 0 then tpL (up σ1 202 25 0) (siL (σ1 206 (8 + h_.toNat))) else tpL (up σ1 202 25 0) (mkL (σ1 206 (8 + h_.toNat))))) (As := [.int (iI h_), .int (iI z_)]) (rest := [.int (iI (if ¬ (0 ≤ h_ ∧ h_ ≤ σ 18 4 - 1) ∨ ¬ (0 ≤ z_ ∧ z_ ≤ 1) then -1000001 else if z_ = 0 then siR (σ 18 (8 + h_.toNat)) (σ 18 (12 + h_.toNat)) (σ 18 (16 + h_.toNat)) h_ else mkR (σ 18 (8 + h_.toNat)) (σ 18 (12 + h_.toNat)) (σ 18 (16 + h_.toNat)) h_))]) hx hb hml hown hts hK hRf hRl hW hS (c_X12_ask l D cy B σ1 h_ z_ rv0 rv1 pm0) vX12_ask ⟨w_1166, w_1167⟩ w_1165 (by decide) e_202 rfl ⟨Nat.le_of_ble_eq_true rfl, Nat.le_of_ble_eq_true rfl⟩ hl.1 rfl (Nat.le_of_ble_eq_true rfl) hcs dL_law_1147 (fun H locs hW hS => ?_)
  refine lv_icmp_eq (tgt := 1214) hx hb dL_law_1150 (by decide) (fun _ => ?_) (fun hne => absurd (congrArg iI heq) hne)
  exact nx _ _ _ _ hR2 hW hS hl
set_option maxHeartbeats 1000000 in
theorem lc_trace {p : Program} {l : Launch} {e : Env} {s : State} {m : MethodId} {below : List Frame} {meth : Method} {c : Code} {b L : Nat} {xs : Nat → Int32} {D : va_G} {cy : Nat → ClassId} {B cells slots ii : Nat} {Q : State → Prop} {σ : Sg} {H : Heap} {locs : List Loc} {ls : Array Slot} (hE : LE p s m c b L xs D cy B cells slots) (hi : ii + 6 ≤ L) (hR : Rel σ) (hW : wd D cy B σ H) (hS : va_S (AB B) s.heap H locs) (hl : lv_has ls 4 (lvL b B ii)) (nx : LN p l e s m below meth c b D cy B cells slots ii Q) : W p l e room_1 s m #[Value.ref b] below meth c H locs cells slots Q (F0 m 1155 ls []) := by
  obtain ⟨hx, hb, hml, hown, hts, hK, hX, hbl, hbA, hL, hcs⟩ := hE
  have hRf : 10 ≤ room_1.frames := Nat.le_of_ble_eq_true rfl
  have hRl : 350 ≤ room_1.locals := Nat.le_of_ble_eq_true rfl
  have hl : lv_has ls 4 [(3, .int (iI ((ii : Nat) : Int))), (2, .ref (B + 202)), (1, .ref (B + 0)), (0, .ref b)] := hl
  obtain ⟨z_, hv0⟩ : ∃ v : Int, v = (xs (ii + 1)).toInt := ⟨_, rfl⟩
  have rv0 : -2147483648 ≤ z_ ∧ z_ < 2147483648 := by rw [hv0]; exact iI_bd _
  refine lv_aload_n hx hb dL_law_1155 rfl (lv_at hl 2 rfl) ?_
  refine lv_aload_n hx hb dL_law_1156 rfl (lv_at hl 3 rfl) ?_
  refine lv_iload_n hx hb dL_law_1157 rfl (lv_at hl 0 rfl) ?_
  refine zi_con hx hb dL_law_1158 ?_
  refine zi_add hx hb dL_law_1159 ?_
  refine lx_ld hx hb hX hbl hbA hS hv0 (by omega) (by omega) hL dL_law_1160 ?_
  refine k_vi (fr := 10) (lo := 350) (r := (if 0 ≤ z_ ∧ z_ ≤ σ 5 1 - 1 then σ 6 z_.toNat else -1000000)) (σ' := (σ)) (As := [.int (iI z_)]) (rest := []) hx hb hml hown hts hK hRf hRl hW hS (c_X11_trace l D cy B σ z_ rv0 hR.tr5) vX11_trace ⟨w_794, w_795⟩ w_793 (by decide) e_0 rfl ⟨Nat.le_of_ble_eq_true rfl, Nat.le_of_ble_eq_true rfl⟩ hl.1 rfl (Nat.le_of_ble_eq_true rfl) hcs dL_law_1161 (fun H locs hW hS => ?_)
  obtain ⟨σ1, h1, hW⟩ : ∃ σ1 : Sg, σ1 = (σ) ∧ wd D cy B σ1 H := ⟨_, rfl, hW⟩
  obtain ⟨pm0, heq, hR2⟩ := q_trace hR z_ h1
  refine lv_aload_n hx hb dL_law_1164 rfl (lv_at hl 1 rfl) ?_
  refine lv_aload_n hx hb dL_law_1165 rfl (lv_at hl 3 rfl) ?_
  refine lv_iload_n hx hb dL_law_1166 rfl (lv_at hl 0 rfl) ?_
  refine zi_con hx hb dL_law_1167 ?_
  refine zi_add hx hb dL_law_1168 ?_
  refine lx_ld hx hb hX hbl hbA hS hv0 (by omega) (by omega) hL dL_law_1169 ?_
  refine k_vi (fr := 10) (lo := 350) (r := (if 0 ≤ z_ ∧ z_ ≤ σ1 202 25 - 1 then σ1 216 z_.toNat else -1000000)) (σ' := (σ1)) (As := [.int (iI z_)]) (rest := [.int (iI (if 0 ≤ z_ ∧ z_ ≤ σ 5 1 - 1 then σ 6 z_.toNat else -1000000))]) hx hb hml hown hts hK hRf hRl hW hS (c_X12_trace l D cy B σ1 z_ rv0 pm0) vX12_trace ⟨w_1202, w_1203⟩ w_1201 (by decide) e_202 rfl ⟨Nat.le_of_ble_eq_true rfl, Nat.le_of_ble_eq_true rfl⟩ hl.1 rfl (Nat.le_of_ble_eq_true rfl) hcs dL_law_1170 (fun H locs hW hS => ?_)
  refine lv_icmp_eq (tgt := 1214) hx hb dL_law_1173 (by decide) (fun _ => ?_) (fun hne => absurd (congrArg iI heq) hne)
  exact nx _ _ _ _ hR2 hW hS hl
set_option maxHeartbeats 1000000 in
theorem lc_count {p : Program} {l : Launch} {e : Env} {s : State} {m : MethodId} {below : List Frame} {meth : Method} {c : Code} {b L : Nat} {xs : Nat → Int32} {D : va_G} {cy : Nat → ClassId} {B cells slots ii : Nat} {Q : State → Prop} {σ : Sg} {H : Heap} {locs : List Loc} {ls : Array Slot} (hE : LE p s m c b L xs D cy B cells slots) (hi : ii + 6 ≤ L) (hR : Rel σ) (hW : wd D cy B σ H) (hS : va_S (AB B) s.heap H locs) (hl : lv_has ls 4 (lvL b B ii)) (nx : LN p l e s m below meth c b D cy B cells slots ii Q) : W p l e room_1 s m #[Value.ref b] below meth c H locs cells slots Q (F0 m 1178 ls []) := by
  obtain ⟨hx, hb, hml, hown, hts, hK, hX, hbl, hbA, hL, hcs⟩ := hE
  have hRf : 10 ≤ room_1.frames := Nat.le_of_ble_eq_true rfl
  have hRl : 350 ≤ room_1.locals := Nat.le_of_ble_eq_true rfl
  have hl : lv_has ls 4 [(3, .int (iI ((ii : Nat) : Int))), (2, .ref (B + 202)), (1, .ref (B + 0)), (0, .ref b)] := hl
  obtain ⟨z_, hv0⟩ : ∃ v : Int, v = (xs (ii + 1)).toInt := ⟨_, rfl⟩
  have rv0 : -2147483648 ≤ z_ ∧ z_ < 2147483648 := by rw [hv0]; exact iI_bd _
  refine lv_aload_n hx hb dL_law_1178 rfl (lv_at hl 2 rfl) ?_
  refine lv_aload_n hx hb dL_law_1179 rfl (lv_at hl 3 rfl) ?_
  refine lv_iload_n hx hb dL_law_1180 rfl (lv_at hl 0 rfl) ?_
  refine zi_con hx hb dL_law_1181 ?_
  refine zi_add hx hb dL_law_1182 ?_
  refine lx_ld hx hb hX hbl hbA hS hv0 (by omega) (by omega) hL dL_law_1183 ?_
  refine k_vi (fr := 10) (lo := 350) (r := (if z_ = 0 then sm (fun k => if σ (30 + 2 * k) 1 = -1 then 0 else 1) 8 else if z_ = 1 then σ 18 4 else if z_ = 2 then σ 18 0 else if z_ = 3 then σ 18 2 else if z_ = 4 then σ 18 3 else if z_ = 5 then σ 18 5 else if z_ = 6 then brk (σ 18) else if z_ = 7 then σ 0 8 else if z_ = 8 then σ 2 1 else -1000001)) (σ' := (σ)) (As := [.int (iI z_)]) (rest := []) hx hb hml hown hts hK hRf hRl hW hS (c_X11_count l D cy B σ z_ rv0 hR.o18 hR.ln) vX11_count ⟨w_798, w_799⟩ w_797 (by decide) e_0 rfl ⟨Nat.le_of_ble_eq_true rfl, Nat.le_of_ble_eq_true rfl⟩ hl.1 rfl (Nat.le_of_ble_eq_true rfl) hcs dL_law_1184 (fun H locs hW hS => ?_)
  obtain ⟨σ1, h1, hW⟩ : ∃ σ1 : Sg, σ1 = (σ) ∧ wd D cy B σ1 H := ⟨_, rfl, hW⟩
  obtain ⟨pm0, pm1, pm2, heq, hR2⟩ := q_count hR z_ h1
  refine lv_aload_n hx hb dL_law_1187 rfl (lv_at hl 1 rfl) ?_
  refine lv_aload_n hx hb dL_law_1188 rfl (lv_at hl 3 rfl) ?_
  refine lv_iload_n hx hb dL_law_1189 rfl (lv_at hl 0 rfl) ?_
  refine zi_con hx hb dL_law_1190 ?_
  refine zi_add hx hb dL_law_1191 ?_
  refine lx_ld hx hb hX hbl hbA hS hv0 (by omega) (by omega) hL dL_law_1192 ?_
  refine k_vi (fr := 10) (lo := 350) (r := (if z_ = 0 then sm (fun k => if 0 ≤ σ1 204 k then 1 else 0) 8 else if z_ = 1 then σ1 206 4 else if z_ = 2 then σ1 206 0 else if z_ = 3 then σ1 206 2 else if z_ = 4 then σ1 206 3 else if z_ = 5 then σ1 206 5 else if z_ = 6 then brk (σ1 206) else if z_ = 7 then σ1 202 18 else if z_ = 8 then σ1 202 8 else -1000001)) (σ' := (σ1)) (As := [.int (iI z_)]) (rest := [.int (iI (if z_ = 0 then sm (fun k => if σ (30 + 2 * k) 1 = -1 then 0 else 1) 8 else if z_ = 1 then σ 18 4 else if z_ = 2 then σ 18 0 else if z_ = 3 then σ 18 2 else if z_ = 4 then σ 18 3 else if z_ = 5 then σ 18 5 else if z_ = 6 then brk (σ 18) else if z_ = 7 then σ 0 8 else if z_ = 8 then σ 2 1 else -1000001))]) hx hb hml hown hts hK hRf hRl hW hS (c_X12_count l D cy B σ1 z_ rv0 pm0 pm1 pm2) vX12_count ⟨w_1206, w_1207⟩ w_1205 (by decide) e_202 rfl ⟨Nat.le_of_ble_eq_true rfl, Nat.le_of_ble_eq_true rfl⟩ hl.1 rfl (Nat.le_of_ble_eq_true rfl) hcs dL_law_1193 (fun H locs hW hS => ?_)
  refine lv_icmp_eq (tgt := 1214) hx hb dL_law_1196 (by decide) (fun _ => ?_) (fun hne => absurd (congrArg iI heq) hne)
  exact nx _ _ _ _ hR2 hW hS hl
set_option maxHeartbeats 1000000 in
theorem lc_status {p : Program} {l : Launch} {e : Env} {s : State} {m : MethodId} {below : List Frame} {meth : Method} {c : Code} {b L : Nat} {xs : Nat → Int32} {D : va_G} {cy : Nat → ClassId} {B cells slots ii : Nat} {Q : State → Prop} {σ : Sg} {H : Heap} {locs : List Loc} {ls : Array Slot} (hE : LE p s m c b L xs D cy B cells slots) (hi : ii + 6 ≤ L) (hR : Rel σ) (hW : wd D cy B σ H) (hS : va_S (AB B) s.heap H locs) (hl : lv_has ls 4 (lvL b B ii)) (nx : LN p l e s m below meth c b D cy B cells slots ii Q) : W p l e room_1 s m #[Value.ref b] below meth c H locs cells slots Q (F0 m 1201 ls []) := by
  obtain ⟨hx, hb, hml, hown, hts, hK, hX, hbl, hbA, hL, hcs⟩ := hE
  have hRf : 10 ≤ room_1.frames := Nat.le_of_ble_eq_true rfl
  have hRl : 350 ≤ room_1.locals := Nat.le_of_ble_eq_true rfl
  have hl : lv_has ls 4 [(3, .int (iI ((ii : Nat) : Int))), (2, .ref (B + 202)), (1, .ref (B + 0)), (0, .ref b)] := hl
  refine lv_aload_n hx hb dL_law_1201 rfl (lv_at hl 2 rfl) ?_
  refine k_vi (fr := 10) (lo := 350) (r := (σ 0 15)) (σ' := (σ)) (As := []) (rest := []) hx hb hml hown hts hK hRf hRl hW hS (c_X11_status l D cy B σ  ) vX11_status ⟨w_806, w_807⟩ w_805 (by decide) e_0 rfl ⟨Nat.le_of_ble_eq_true rfl, Nat.le_of_ble_eq_true rfl⟩ hl.1 rfl (Nat.le_of_ble_eq_true rfl) hcs dL_law_1202 (fun H locs hW hS => ?_)
  obtain ⟨σ1, h1, hW⟩ : ∃ σ1 : Sg, σ1 = (σ) ∧ wd D cy B σ1 H := ⟨_, rfl, hW⟩
  obtain ⟨heq, hR2⟩ := q_status hR  h1
  refine lv_aload_n hx hb dL_law_1205 rfl (lv_at hl 1 rfl) ?_
  refine k_vi (fr := 10) (lo := 350) (r := (σ1 202 3)) (σ' := (σ1)) (As := []) (rest := [.int (iI (σ 0 15))]) hx hb hml hown hts hK hRf hRl hW hS (c_X12_status l D cy B σ1  ) vX12_status ⟨w_1210, w_1211⟩ w_1209 (by decide) e_202 rfl ⟨Nat.le_of_ble_eq_true rfl, Nat.le_of_ble_eq_true rfl⟩ hl.1 rfl (Nat.le_of_ble_eq_true rfl) hcs dL_law_1206 (fun H locs hW hS => ?_)
  refine lv_icmp_eq (tgt := 1214) hx hb dL_law_1209 (by decide) (fun _ => ?_) (fun hne => absurd (congrArg iI heq) hne)
  exact nx _ _ _ _ hR2 hW hS hl
