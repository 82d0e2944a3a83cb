/-! the law's cases: what is the same in all -/
def LE (p : Program) (s : State) (m : MethodId) (c : Code) (b L : Nat) (xs : Nat → Int32) (D : va_G) (cy : Nat → ClassId) (B cells slots : Nat) : Prop := p.tables.exec = Jvm.exec ∧ c.code = cL_law ∧ c.maxLocals = 4 ∧ s.vm.findClass "LovePartsLaw" = some m.cls ∧ (∀ w ∈ gw, w.before #[Value.ref b] s = true) ∧ KK D cy s ∧ va_X b L xs s s.heap ∧ b < s.heap.size ∧ (¬ AB B b) ∧ L ≤ 384 ∧ (cells ≤ room_1.cells ∧ slots ≤ room_1.slots)
abbrev lvL (b B ii : Nat) : List (Nat × Value) := [(3, .int (iI ((ii : Nat) : Int))), (2, .ref (B + 202)), (1, .ref (B + 0)), (0, .ref b)]
/-- behind a case -/
def LN (p : Program) (l : Launch) (e : Env) (s : State) (m : MethodId) (below : List Frame) (meth : Method) (c : Code) (b : Nat) (D : va_G) (cy : Nat → ClassId) (B cells slots ii : Nat) (Q : State → Prop) : Prop := ∀ (σ : Sg) (H : Heap) (locs : List Loc) (ls : Array Slot), Rel σ → wd D cy B σ H → va_S (AB B) s.heap H locs → lv_has ls 4 (lvL b B ii) → W p l e room_1 s m #[Value.ref b] below meth c H locs cells slots Q (F0 m 1214 ls [])
theorem lx_ld {p : Program} {l : Launch} {e : Env} {R : Room} {s : State} {m : MethodId} {args : Array Value} {below : List Frame} {meth : Method} {c : Code} {H : Heap} {locs : List Loc} {cells slots : Nat} {Q : State → Prop} {cc : ByteArray} {pc : Nat} {ls : Array Slot} {rest : List Value} {b L B : Nat} {xs : Nat → Int32} (hx : p.tables.exec = Jvm.exec) (hb : c.code = cc) (hX : va_X b L xs s s.heap) (hbl : b < s.heap.size) (hbA : ¬ AB B b) (hS : va_S (AB B) s.heap H locs) {z v : Int} {n : Nat} (hv : v = (xs n).toInt) (hz : z = (n : Int)) (hn : n < L) (hL : L ≤ 384) (hdg : decode cc pc = .ok (.iaload, 1))
    (kk : W p l e R s m args below meth c H locs cells slots Q (F0 m (pc + 1) ls (.int (iI v) :: rest))) : W p l e R s m args below meth c H locs cells slots Q (F0 m pc ls (.int (iI z) :: .ref b :: rest)) := by
  subst hz
  refine va_sld hx hb hX hbl hbA hS (iI_in hn (by omega)) hdg ?_
  rw [iI_clamp (by omega), ← iI_self (xs n), ← hv]
  exact kk
theorem lg_self (w : Int64) : lg_cmp w w = iI 0 := by
  unfold lg_cmp
  have e1 : ¬ (w > w) := by show ¬ (w < w); rw [Int64.lt_iff_toInt_lt]; omega
  first | (rw [if_neg e1, if_pos rfl]; rfl) | simp [e1]
set_option maxHeartbeats 1000000 in
theorem lc_row {p : Program} {l : Launch} {e : Env} {s : State} {m : MethodId} {below : List Frame} {meth : Method} {c : Code} {b L : Nat} {xs : Nat → Int32} {D : va_G} {cy : Nat → ClassId} {B cells slots ii : Nat} {Q : State → Prop} {σ : Sg} {H : Heap} {locs : List Loc} {ls : Array Slot} (hE : LE p s m c b L xs D cy B cells slots) (hi : ii + 6 ≤ L) (hR : Rel σ) (hW : wd D cy B σ H) (hS : va_S (AB B) s.heap H locs) (hl : lv_has ls 4 (lvL b B ii)) (nx : LN p l e s m below meth c b D cy B cells slots ii Q) : W p l e room_1 s m #[Value.ref b] below meth c H locs cells slots Q (F0 m 188 ls []) := by
  obtain ⟨hx, hb, hml, hown, hts, hK, hX, hbl, hbA, hL, hcs⟩ := hE
  have hRf : 10 ≤ room_1.frames := Nat.le_of_ble_eq_true rfl
  have hRl : 350 ≤ room_1.locals := Nat.le_of_ble_eq_true rfl
  have hl : lv_has ls 4 [(3, .int (iI ((ii : Nat) : Int))), (2, .ref (B + 202)), (1, .ref (B + 0)), (0, .ref b)] := hl
  obtain ⟨r_, hv0⟩ : ∃ v : Int, v = (xs (ii + 1)).toInt := ⟨_, rfl⟩
  have rv0 : -2147483648 ≤ r_ ∧ r_ < 2147483648 := by rw [hv0]; exact iI_bd _
  obtain ⟨l_, hv1⟩ : ∃ v : Int, v = (xs (ii + 2)).toInt := ⟨_, rfl⟩
  have rv1 : -2147483648 ≤ l_ ∧ l_ < 2147483648 := by rw [hv1]; exact iI_bd _
  obtain ⟨n_, hv2⟩ : ∃ v : Int, v = (xs (ii + 3)).toInt := ⟨_, rfl⟩
  have rv2 : -2147483648 ≤ n_ ∧ n_ < 2147483648 := by rw [hv2]; exact iI_bd _
  refine lv_aload_n hx hb dL_law_188 rfl (lv_at hl 2 rfl) ?_
  refine lv_aload_n hx hb dL_law_189 rfl (lv_at hl 3 rfl) ?_
  refine lv_iload_n hx hb dL_law_190 rfl (lv_at hl 0 rfl) ?_
  refine zi_con hx hb dL_law_191 ?_
  refine zi_add hx hb dL_law_192 ?_
  refine lx_ld hx hb hX hbl hbA hS hv0 (by omega) (by omega) hL dL_law_193 ?_
  refine lv_aload_n hx hb dL_law_194 rfl (lv_at hl 3 rfl) ?_
  refine lv_iload_n hx hb dL_law_195 rfl (lv_at hl 0 rfl) ?_
  refine zi_con hx hb dL_law_196 ?_
  refine zi_add hx hb dL_law_197 ?_
  refine lx_ld hx hb hX hbl hbA hS hv1 (by omega) (by omega) hL dL_law_198 ?_
  refine lv_aload_n hx hb dL_law_199 rfl (lv_at hl 3 rfl) ?_
  refine lv_iload_n hx hb dL_law_200 rfl (lv_at hl 0 rfl) ?_
  refine zi_con hx hb dL_law_201 ?_
  refine zi_add hx hb dL_law_202 ?_
  refine lx_ld hx hb hX hbl hbA hS hv2 (by omega) (by omega) hL dL_law_203 ?_
  refine k_vi (fr := 10) (lo := 350) (r := (if ¬ (0 ≤ r_ ∧ r_ ≤ 7) ∨ ¬ (0 ≤ l_ ∧ l_ ≤ 2) ∨ 40 < n_ then -1000001 else if n_ < 0 then -1000014 else n_)) (σ' := (if ¬ (0 ≤ r_ ∧ r_ ≤ 7) ∨ ¬ (0 ≤ l_ ∧ l_ ≤ 2) ∨ 40 < n_ then σ else if n_ < 0 then up σ 0 15 4 else up (us (up (up σ (30 + 2 * r_.toNat) 1 l_) (30 + 2 * r_.toNat) 2 n_) (30 + 2 * r_.toNat + 1) (cpy n_.toNat (fun _ => 0) (σ (30 + 2 * r_.toNat + 1)))) 0 15 0)) (As := [.int (iI r_), .int (iI l_), .int (iI n_)]) (rest := []) hx hb hml hown hts hK hRf hRl hW hS (c_X11_row l D cy B σ r_ l_ n_ rv0 rv1 rv2) vX11_row ⟨w_355, w_356⟩ w_354 (by decide) e_0 rfl ⟨Nat.le_of_ble_eq_true rfl, Nat.le_of_ble_eq_true rfl⟩ hl.1 rfl (Nat.le_of_ble_eq_true rfl) hcs dL_law_204 (fun H locs hW hS => ?_)
  obtain ⟨σ1, h1, hW⟩ : ∃ σ1 : Sg, σ1 = (if ¬ (0 ≤ r_ ∧ r_ ≤ 7) ∨ ¬ (0 ≤ l_ ∧ l_ ≤ 2) ∨ 40 < n_ then σ else if n_ < 0 then up σ 0 15 4 else up (us (up (up σ (30 + 2 * r_.toNat) 1 l_) (30 + 2 * r_.toNat) 2 n_) (30 + 2 * r_.toNat + 1) (cpy n_.toNat (fun _ => 0) (σ (30 + 2 * r_.toNat + 1)))) 0 15 0) ∧ wd D cy B σ1 H := ⟨_, rfl, hW⟩
  obtain ⟨heq, hR2⟩ := q_row hR r_ l_ n_ h1
  refine lv_aload_n hx hb dL_law_207 rfl (lv_at hl 1 rfl) ?_
  refine lv_aload_n hx hb dL_law_208 rfl (lv_at hl 3 rfl) ?_
  refine lv_iload_n hx hb dL_law_209 rfl (lv_at hl 0 rfl) ?_
  refine zi_con hx hb dL_law_210 ?_
  refine zi_add hx hb dL_law_211 ?_
  refine lx_ld hx hb hX hbl hbA hS hv0 (by omega) (by omega) hL dL_law_212 ?_
  refine lv_aload_n hx hb dL_law_213 rfl (lv_at hl 3 rfl) ?_
  refine lv_iload_n hx hb dL_law_214 rfl (lv_at hl 0 rfl) ?_
  refine zi_con hx hb dL_law_215 ?_
  refine zi_add hx hb dL_law_216 ?_
  refine lx_ld hx hb hX hbl hbA hS hv1 (by omega) (by omega) hL dL_law_217 ?_
  refine lv_aload_n hx hb dL_law_218 rfl (lv_at hl 3 rfl) ?_
  refine lv_iload_n hx hb dL_law_219 rfl (lv_at hl 0 rfl) ?_
  refine zi_con hx hb dL_law_220 ?_
  refine zi_add hx hb dL_law_221 ?_
  refine lx_ld hx hb hX hbl hbA hS hv2 (by omega) (by omega) hL dL_law_222 ?_
  refine k_vi (fr := 10) (lo := 350) (r := (if ¬ (0 ≤ r_ ∧ r_ ≤ 7) ∨ ¬ (0 ≤ l_ ∧ l_ ≤ 2) ∨ 40 < n_ then -1000001 else if n_ < 0 then -1000014 else n_)) (σ' := (if ¬ (0 ≤ r_ ∧ r_ ≤ 7) ∨ ¬ (0 ≤ l_ ∧ l_ ≤ 2) ∨ 40 < n_ then σ1 else if n_ < 0 then up σ1 202 3 4 else up (us (up (up σ1 203 r_.toNat l_) 204 r_.toNat n_) 205 (cpo (40 * r_.toNat) 40 (fun _ => 0) (σ1 205))) 202 3 0)) (As := [.int (iI r_), .int (iI l_), .int (iI n_)]) (rest := [.int (iI (if ¬ (0 ≤ r_ ∧ r_ ≤ 7) ∨ ¬ (0 ≤ l_ ∧ l_ ≤ 2) ∨ 40 < n_ then -1000001 else if n_ < 0 then -1000014 else n_))]) hx hb hml hown hts hK hRf hRl hW hS (c_X12_row l D cy B σ1 r_ l_ n_ rv0 rv1 rv2) vX12_row ⟨w_896, w_897⟩ w_895 (by decide) e_202 rfl ⟨Nat.le_of_ble_eq_true rfl, Nat.le_of_ble_eq_true rfl⟩ hl.1 rfl (Nat.le_of_ble_eq_true rfl) hcs dL_law_223 (fun H locs hW hS => ?_)
  refine lv_icmp_eq (tgt := 1214) hx hb dL_law_226 (by decide) (fun _ => ?_) (fun hne => absurd (congrArg iI heq) hne)
  exact nx _ _ _ _ hR2 hW hS hl
set_option maxHeartbeats 1000000 in
theorem lc_set {p : Program} {l : Launch} {e : Env} {s : State} {m : MethodId} {below : List Frame} {meth : Method} {c : Code} {b L : Nat} {xs : Nat → Int32} {D : va_G} {cy : Nat → ClassId} {B cells slots ii : Nat} {Q : State → Prop} {σ : Sg} {H : Heap} {locs : List Loc} {ls : Array Slot} (hE : LE p s m c b L xs D cy B cells slots) (hi : ii + 6 ≤ L) (hR : Rel σ) (hW : wd D cy B σ H) (hS : va_S (AB B) s.heap H locs) (hl : lv_has ls 4 (lvL b B ii)) (nx : LN p l e s m below meth c b D cy B cells slots ii Q) : W p l e room_1 s m #[Value.ref b] below meth c H locs cells slots Q (F0 m 231 ls []) := by
  obtain ⟨hx, hb, hml, hown, hts, hK, hX, hbl, hbA, hL, hcs⟩ := hE
  have hRf : 10 ≤ room_1.frames := Nat.le_of_ble_eq_true rfl
  have hRl : 350 ≤ room_1.locals := Nat.le_of_ble_eq_true rfl
  have hl : lv_has ls 4 [(3, .int (iI ((ii : Nat) : Int))), (2, .ref (B + 202)), (1, .ref (B + 0)), (0, .ref b)] := hl
  obtain ⟨r_, hv0⟩ : ∃ v : Int, v = (xs (ii + 1)).toInt := ⟨_, rfl⟩
  have rv0 : -2147483648 ≤ r_ ∧ r_ < 2147483648 := by rw [hv0]; exact iI_bd _
  obtain ⟨i_, hv1⟩ : ∃ v : Int, v = (xs (ii + 2)).toInt := ⟨_, rfl⟩
  have rv1 : -2147483648 ≤ i_ ∧ i_ < 2147483648 := by rw [hv1]; exact iI_bd _
  obtain ⟨v_, hv2⟩ : ∃ v : Int, v = (xs (ii + 3)).toInt := ⟨_, rfl⟩
  have rv2 : -2147483648 ≤ v_ ∧ v_ < 2147483648 := by rw [hv2]; exact iI_bd _
  refine lv_aload_n hx hb dL_law_231 rfl (lv_at hl 2 rfl) ?_
  refine lv_aload_n hx hb dL_law_232 rfl (lv_at hl 3 rfl) ?_
  refine lv_iload_n hx hb dL_law_233 rfl (lv_at hl 0 rfl) ?_
  refine zi_con hx hb dL_law_234 ?_
  refine zi_add hx hb dL_law_235 ?_
  refine lx_ld hx hb hX hbl hbA hS hv0 (by omega) (by omega) hL dL_law_236 ?_
  refine lv_aload_n hx hb dL_law_237 rfl (lv_at hl 3 rfl) ?_
  refine lv_iload_n hx hb dL_law_238 rfl (lv_at hl 0 rfl) ?_
  refine zi_con hx hb dL_law_239 ?_
  refine zi_add hx hb dL_law_240 ?_
  refine lx_ld hx hb hX hbl hbA hS hv1 (by omega) (by omega) hL dL_law_241 ?_
  refine lv_aload_n hx hb dL_law_242 rfl (lv_at hl 3 rfl) ?_
  refine lv_iload_n hx hb dL_law_243 rfl (lv_at hl 0 rfl) ?_
  refine zi_con hx hb dL_law_244 ?_
  refine zi_add hx hb dL_law_245 ?_
  refine lx_ld hx hb hX hbl hbA hS hv2 (by omega) (by omega) hL dL_law_246 ?_
  refine k_vi (fr := 10) (lo := 350) (r := (if ¬ (0 ≤ r_ ∧ r_ ≤ 7) then -1000001 else if σ (30 + 2 * r_.toNat) 1 = -1 then -1000011 else if ¬ (0 ≤ i_ ∧ i_ ≤ σ (30 + 2 * r_.toNat) 2 - 1) then -1000012 else fitI (σ (30 + 2 * r_.toNat) 1) v_)) (σ' := (if ¬ (0 ≤ r_ ∧ r_ ≤ 7) then σ else if σ (30 + 2 * r_.toNat) 1 = -1 then up σ 0 15 1 else if ¬ (0 ≤ i_ ∧ i_ ≤ σ (30 + 2 * r_.toNat) 2 - 1) then up σ 0 15 2 else up (up σ (30 + 2 * r_.toNat + 1) i_.toNat (fitI (σ (30 + 2 * r_.toNat) 1) v_)) 0 15 0)) (As := [.int (iI r_), .int (iI i_), .int (iI v_)]) (rest := []) hx hb hml hown hts hK hRf hRl hW hS (c_X11_set l D cy B σ r_ i_ v_ rv0 rv1 rv2 hR.ln hR.sz) vX11_set ⟨w_376, w_377⟩ w_375 (by decide) e_0 rfl ⟨Nat.le_of_ble_eq_true rfl, Nat.le_of_ble_eq_true rfl⟩ hl.1 rfl (Nat.le_of_ble_eq_true rfl) hcs dL_law_247 (fun H locs hW hS => ?_)
  obtain ⟨σ1, h1, hW⟩ : ∃ σ1 : Sg, σ1 = (if ¬ (0 ≤ r_ ∧ r_ ≤ 7) then σ else if σ (30 + 2 * r_.toNat) 1 = -1 then up σ 0 15 1 else if ¬ (0 ≤ i_ ∧ i_ ≤ σ (30 + 2 * r_.toNat) 2 - 1) then up σ 0 15 2 else up (up σ (30 + 2 * r_.toNat + 1) i_.toNat (fitI (σ (30 + 2 * r_.toNat) 1) v_)) 0 15 0) ∧ wd D cy B σ1 H := ⟨_, rfl, hW⟩
  obtain ⟨pm0, pm1, heq, hR2⟩ := q_set hR r_ i_ v_ (fitI_bd rv2) h1
  refine lv_aload_n hx hb dL_law_250 rfl (lv_at hl 1 rfl) ?_
  refine lv_aload_n hx hb dL_law_251 rfl (lv_at hl 3 rfl) ?_
  refine lv_iload_n hx hb dL_law_252 rfl (lv_at hl 0 rfl) ?_
  refine zi_con hx hb dL_law_253 ?_
  refine zi_add hx hb dL_law_254 ?_
  refine lx_ld hx hb hX hbl hbA hS hv0 (by omega) (by omega) hL dL_law_255 ?_
  refine lv_aload_n hx hb dL_law_256 rfl (lv_at hl 3 rfl) ?_
  refine lv_iload_n hx hb dL_law_257 rfl (lv_at hl 0 rfl) ?_
  refine zi_con hx hb dL_law_258 ?_
  refine zi_add hx hb dL_law_259 ?_
  refine lx_ld hx hb hX hbl hbA hS hv1 (by omega) (by omega) hL dL_law_260 ?_
  refine lv_aload_n hx hb dL_law_261 rfl (lv_at hl 3 rfl) ?_
  refine lv_iload_n hx hb dL_law_262 rfl (lv_at hl 0 rfl) ?_
  refine zi_con hx hb dL_law_263 ?_
  refine zi_add hx hb dL_law_264 ?_
  refine lx_ld hx hb hX hbl hbA hS hv2 (by omega) (by omega) hL dL_law_265 ?_
  refine k_vi (fr := 10) (lo := 350) (r := (if ¬ (0 ≤ r_ ∧ r_ ≤ 7) then -1000001 else if σ1 204 r_.toNat < 0 then -1000011 else if ¬ (0 ≤ i_ ∧ i_ ≤ σ1 204 r_.toNat - 1) then -1000012 else fitI (σ1 203 r_.toNat) v_)) (σ' := (if ¬ (0 ≤ r_ ∧ r_ ≤ 7) then σ1 else if σ1 204 r_.toNat < 0 then up σ1 202 3 1 else if ¬ (0 ≤ i_ ∧ i_ ≤ σ1 204 r_.toNat - 1) then up σ1 202 3 2 else up (up σ1 205 (40 * r_.toNat + i_.toNat) (fitI (σ1 203 r_.toNat) v_)) 202 3 0)) (As := [.int (iI r_), .int (iI i_), .int (iI v_)]) (rest := [.int (iI (if ¬ (0 ≤ r_ ∧ r_ ≤ 7) then -1000001 else if σ (30 + 2 * r_.toNat) 1 = -1 then -1000011 else if ¬ (0 ≤ i_ ∧ i_ ≤ σ (30 + 2 * r_.toNat) 2 - 1) then -1000012 else fitI (σ (30 + 2 * r_.toNat) 1) v_))]) hx hb hml hown hts hK hRf hRl hW hS (c_X12_set l D cy B σ1 r_ i_ v_ rv0 rv1 rv2 pm0 pm1) vX12_set ⟨w_918, w_919⟩ w_917 (by decide) e_202 rfl ⟨Nat.le_of_ble_eq_true rfl, Nat.le_of_ble_eq_true rfl⟩ hl.1 rfl (Nat.le_of_ble_eq_true rfl) hcs dL_law_266 (fun H locs hW hS => ?_)
  refine lv_icmp_eq (tgt := 1214) hx hb dL_law_269 (by decide) (fun _ => ?_) (fun hne => absurd (congrArg iI heq) hne)
  exact nx _ _ _ _ hR2 hW hS hl
set_option maxHeartbeats 1000000 in
theorem lc_copy {p : Program} {l : Launch} {e : Env} {s : State} {m : MethodId} {below : List Frame} {meth : Method} {c : Code} {b L : Nat} {xs : Nat → Int32} {D : va_G} {cy : Nat → ClassId} {B cells slots ii : Nat} {Q : State → Prop} {σ : Sg} {H : Heap} {locs : List Loc} {ls : Array Slot} (hE : LE p s m c b L xs D cy B cells slots) (hi : ii + 6 ≤ L) (hR : Rel σ) (hW : wd D cy B σ H) (hS : va_S (AB B) s.heap H locs) (hl : lv_has ls 4 (lvL b B ii)) (nx : LN p l e s m below meth c b D cy B cells slots ii Q) : W p l e room_1 s m #[Value.ref b] below meth c H locs cells slots Q (F0 m 274 ls []) := by
  obtain ⟨hx, hb, hml, hown, hts, hK, hX, hbl, hbA, hL, hcs⟩ := hE
  have hRf : 10 ≤ room_1.frames := Nat.le_of_ble_eq_true rfl
  have hRl : 350 ≤ room_1.locals := Nat.le_of_ble_eq_true rfl
  have hl : lv_has ls 4 [(3, .int (iI ((ii : Nat) : Int))), (2, .ref (B + 202)), (1, .ref (B + 0)), (0, .ref b)] := hl
  obtain ⟨a_, hv0⟩ : ∃ v : Int, v = (xs (ii + 1)).toInt := ⟨_, rfl⟩
  have rv0 : -2147483648 ≤ a_ ∧ a_ < 2147483648 := by rw [hv0]; exact iI_bd _
  obtain ⟨i_, hv1⟩ : ∃ v : Int, v = (xs (ii + 2)).toInt := ⟨_, rfl⟩
  have rv1 : -2147483648 ≤ i_ ∧ i_ < 2147483648 := by rw [hv1]; exact iI_bd _
  obtain ⟨b_, hv2⟩ : ∃ v : Int, v = (xs (ii + 3)).toInt := ⟨_, rfl⟩
  have rv2 : -2147483648 ≤ b_ ∧ b_ < 2147483648 := by rw [hv2]; exact iI_bd _
  obtain ⟨j_, hv3⟩ : ∃ v : Int, v = (xs (ii + 4)).toInt := ⟨_, rfl⟩
  have rv3 : -2147483648 ≤ j_ ∧ j_ < 2147483648 := by rw [hv3]; exact iI_bd _
  obtain ⟨n_, hv4⟩ : ∃ v : Int, v = (xs (ii + 5)).toInt := ⟨_, rfl⟩
  have rv4 : -2147483648 ≤ n_ ∧ n_ < 2147483648 := by rw [hv4]; exact iI_bd _
  refine lv_aload_n hx hb dL_law_274 rfl (lv_at hl 2 rfl) ?_
  refine lv_aload_n hx hb dL_law_275 rfl (lv_at hl 3 rfl) ?_
  refine lv_iload_n hx hb dL_law_276 rfl (lv_at hl 0 rfl) ?_
  refine zi_con hx hb dL_law_277 ?_
  refine zi_add hx hb dL_law_278 ?_
  refine lx_ld hx hb hX hbl hbA hS hv0 (by omega) (by omega) hL dL_law_279 ?_
  refine lv_aload_n hx hb dL_law_280 rfl (lv_at hl 3 rfl) ?_
  refine lv_iload_n hx hb dL_law_281 rfl (lv_at hl 0 rfl) ?_
  refine zi_con hx hb dL_law_282 ?_
  refine zi_add hx hb dL_law_283 ?_
  refine lx_ld hx hb hX hbl hbA hS hv1 (by omega) (by omega) hL dL_law_284 ?_
  refine lv_aload_n hx hb dL_law_285 rfl (lv_at hl 3 rfl) ?_
  refine lv_iload_n hx hb dL_law_286 rfl (lv_at hl 0 rfl) ?_
  refine zi_con hx hb dL_law_287 ?_
  refine zi_add hx hb dL_law_288 ?_
  refine lx_ld hx hb hX hbl hbA hS hv2 (by omega) (by omega) hL dL_law_289 ?_
  refine lv_aload_n hx hb dL_law_290 rfl (lv_at hl 3 rfl) ?_
  refine lv_iload_n hx hb dL_law_291 rfl (lv_at hl 0 rfl) ?_
  refine zi_con hx hb dL_law_292 ?_
  refine zi_add hx hb dL_law_293 ?_
  refine lx_ld hx hb hX hbl hbA hS hv3 (by omega) (by omega) hL dL_law_294 ?_
  refine lv_aload_n hx hb dL_law_295 rfl (lv_at hl 3 rfl) ?_
  refine lv_iload_n hx hb dL_law_296 rfl (lv_at hl 0 rfl) ?_
  refine zi_con hx hb dL_law_297 ?_
  refine zi_add hx hb dL_law_298 ?_
  refine lx_ld hx hb hX hbl hbA hS hv4 (by omega) (by omega) hL dL_law_299 ?_
  refine k_vi (fr := 10) (lo := 350) (r := (if ¬ (0 ≤ a_ ∧ a_ ≤ 7) ∨ ¬ (0 ≤ b_ ∧ b_ ≤ 7) then -1000001 else if σ (30 + 2 * a_.toNat) 1 = -1 ∨ σ (30 + 2 * b_.toNat) 1 = -1 then -1000011 else if ¬ σ (30 + 2 * a_.toNat) 1 = σ (30 + 2 * b_.toNat) 1 then -1000015 else if n_ < 0 ∨ ¬ (0 ≤ i_ ∧ i_ ≤ σ (30 + 2 * a_.toNat) 2 - n_) ∨ ¬ (0 ≤ j_ ∧ j_ ≤ σ (30 + 2 * b_.toNat) 2 - n_) then -1000012 else n_)) (σ' := (if ¬ (0 ≤ a_ ∧ a_ ≤ 7) ∨ ¬ (0 ≤ b_ ∧ b_ ≤ 7) then σ else if σ (30 + 2 * a_.toNat) 1 = -1 ∨ σ (30 + 2 * b_.toNat) 1 = -1 then up σ 0 15 1 else if ¬ σ (30 + 2 * a_.toNat) 1 = σ (30 + 2 * b_.toNat) 1 then up σ 0 15 5 else if n_ < 0 ∨ ¬ (0 ≤ i_ ∧ i_ ≤ σ (30 + 2 * a_.toNat) 2 - n_) ∨ ¬ (0 ≤ j_ ∧ j_ ≤ σ (30 + 2 * b_.toNat) 2 - n_) then up σ 0 15 2 else up (us σ (30 + 2 * b_.toNat + 1) (cpo j_.toNat n_.toNat (fun k => σ (30 + 2 * a_.toNat + 1) (i_.toNat + k)) (σ (30 + 2 * b_.toNat + 1)))) 0 15 0)) (As := [.int (iI a_), .int (iI i_), .int (iI b_), .int (iI j_), .int (iI n_)]) (rest := []) hx hb hml hown hts hK hRf hRl hW hS (c_X11_copy l D cy B σ a_ i_ b_ j_ n_ rv0 rv1 rv2 rv3 rv4 hR.ln hR.sz) vX11_copy ⟨w_392, w_393⟩ w_391 (by decide) e_0 rfl ⟨Nat.le_of_ble_eq_true rfl, Nat.le_of_ble_eq_true rfl⟩ hl.1 rfl (Nat.le_of_ble_eq_true rfl) hcs dL_law_300 (fun H locs hW hS => ?_)
  obtain ⟨σ1, h1, hW⟩ : ∃ σ1 : Sg, σ1 = (if ¬ (0 ≤ a_ ∧ a_ ≤ 7) ∨ ¬ (0 ≤ b_ ∧ b_ ≤ 7) then σ else if σ (30 + 2 * a_.toNat) 1 = -1 ∨ σ (30 + 2 * b_.toNat) 1 = -1 then up σ 0 15 1 else if ¬ σ (30 + 2 * a_.toNat) 1 = σ (30 + 2 * b_.toNat) 1 then up σ 0 15 5 else if n_ < 0 ∨ ¬ (0 ≤ i_ ∧ i_ ≤ σ (30 + 2 * a_.toNat) 2 - n_) ∨ ¬ (0 ≤ j_ ∧ j_ ≤ σ (30 + 2 * b_.toNat) 2 - n_) then up σ 0 15 2 else up (us σ (30 + 2 * b_.toNat + 1) (cpo j_.toNat n_.toNat (fun k => σ (30 + 2 * a_.toNat + 1) (i_.toNat + k)) (σ (30 + 2 * b_.toNat + 1)))) 0 15 0) ∧ wd D cy B σ1 H := ⟨_, rfl, hW⟩
  obtain ⟨pm0, pm1, heq, hR2⟩ := q_copy hR a_ i_ b_ j_ n_ h1
  refine lv_aload_n hx hb dL_law_303 rfl (lv_at hl 1 rfl) ?_
  refine lv_aload_n hx hb dL_law_304 rfl (lv_at hl 3 rfl) ?_
  refine lv_iload_n hx hb dL_law_305 rfl (lv_at hl 0 rfl) ?_
  refine zi_con hx hb dL_law_306 ?_
  refine zi_add hx hb dL_law_307 ?_
  refine lx_ld hx hb hX hbl hbA hS hv0 (by omega) (by omega) hL dL_law_308 ?_
  refine lv_aload_n hx hb dL_law_309 rfl (lv_at hl 3 rfl) ?_
  refine lv_iload_n hx hb dL_law_310 rfl (lv_at hl 0 rfl) ?_
  refine zi_con hx hb dL_law_311 ?_
  refine zi_add hx hb dL_law_312 ?_
  refine lx_ld hx hb hX hbl hbA hS hv1 (by omega) (by omega) hL dL_law_313 ?_
  refine lv_aload_n hx hb dL_law_314 rfl (lv_at hl 3 rfl) ?_
  refine lv_iload_n hx hb dL_law_315 rfl (lv_at hl 0 rfl) ?_
  refine zi_con hx hb dL_law_316 ?_
  refine zi_add hx hb dL_law_317 ?_
  refine lx_ld hx hb hX hbl hbA hS hv2 (by omega) (by omega) hL dL_law_318 ?_
  refine lv_aload_n hx hb dL_law_319 rfl (lv_at hl 3 rfl) ?_
  refine lv_iload_n hx hb dL_law_320 rfl (lv_at hl 0 rfl) ?_
  refine zi_con hx hb dL_law_321 ?_
  refine zi_add hx hb dL_law_322 ?_
  refine lx_ld hx hb hX hbl hbA hS hv3 (by omega) (by omega) hL dL_law_323 ?_
  refine lv_aload_n hx hb dL_law_324 rfl (lv_at hl 3 rfl) ?_
  refine lv_iload_n hx hb dL_law_325 rfl (lv_at hl 0 rfl) ?_
  refine zi_con hx hb dL_law_326 ?_
  refine zi_add hx hb dL_law_327 ?_
  refine lx_ld hx hb hX hbl hbA hS hv4 (by omega) (by omega) hL dL_law_328 ?_
  refine k_vi (fr := 10) (lo := 350) (r := (if ¬ (0 ≤ a_ ∧ a_ ≤ 7) ∨ ¬ (0 ≤ b_ ∧ b_ ≤ 7) then -1000001 else if σ1 204 a_.toNat < 0 ∨ σ1 204 b_.toNat < 0 then -1000011 else if ¬ σ1 203 a_.toNat = σ1 203 b_.toNat then -1000015 else if n_ < 0 ∨ ¬ (0 ≤ i_ ∧ i_ ≤ σ1 204 a_.toNat - n_) ∨ ¬ (0 ≤ j_ ∧ j_ ≤ σ1 204 b_.toNat - n_) then -1000012 else n_)) (σ' := (if ¬ (0 ≤ a_ ∧ a_ ≤ 7) ∨ ¬ (0 ≤ b_ ∧ b_ ≤ 7) then σ1 else if σ1 204 a_.toNat < 0 ∨ σ1 204 b_.toNat < 0 then up σ1 202 3 1 else if ¬ σ1 203 a_.toNat = σ1 203 b_.toNat then up σ1 202 3 5 else if n_ < 0 ∨ ¬ (0 ≤ i_ ∧ i_ ≤ σ1 204 a_.toNat - n_) ∨ ¬ (0 ≤ j_ ∧ j_ ≤ σ1 204 b_.toNat - n_) then up σ1 202 3 2 else up (us (us σ1 207 (cpy n_.toNat (fun x => σ1 205 (40 * a_.toNat + i_.toNat + x)) (σ1 207))) 205 (cpo (40 * b_.toNat + j_.toNat) n_.toNat (fun x => σ1 205 (40 * a_.toNat + i_.toNat + x)) (σ1 205))) 202 3 0)) (As := [.int (iI a_), .int (iI i_), .int (iI b_), .int (iI j_), .int (iI n_)]) (rest := [.int (iI (if ¬ (0 ≤ a_ ∧ a_ ≤ 7) ∨ ¬ (0 ≤ b_ ∧ b_ ≤ 7) then -1000001 else if σ (30 + 2 * a_.toNat) 1 = -1 ∨ σ (30 + 2 * b_.toNat) 1 = -1 then -1000011 else if ¬ σ (30 + 2 * a_.toNat) 1 = σ (30 + 2 * b_.toNat) 1 then -1000015 else if n_ < 0 ∨ ¬ (0 ≤ i_ ∧ i_ ≤ σ (30 + 2 * a_.toNat) 2 - n_) ∨ ¬ (0 ≤ j_ ∧ j_ ≤ σ (30 + 2 * b_.toNat) 2 - n_) then -1000012 else n_))]) hx hb hml hown hts hK hRf hRl hW hS (c_X12_copy l D cy B σ1 a_ i_ b_ j_ n_ rv0 rv1 rv2 rv3 rv4 pm0 pm1) vX12_copy ⟨w_925, w_926⟩ w_924 (by decide) e_202 rfl ⟨Nat.le_of_ble_eq_true rfl, Nat.le_of_ble_eq_true rfl⟩ hl.1 rfl (Nat.le_of_ble_eq_true rfl) hcs dL_law_329 (fun H locs hW hS => ?_)
  refine lv_icmp_eq (tgt := 1214) hx hb dL_law_332 (by decide) (fun _ => ?_) (fun hne => absurd (congrArg iI heq) hne)
  exact nx _ _ _ _ hR2 hW hS hl
set_option maxHeartbeats 1000000 in
theorem lc_drop {p : Program} {l : Launch} {e : Env} {s : State} {m : MethodId} {below : List Frame} {meth : Method} {c : Code} {b L : Nat} {xs : Nat → Int32} {D : va_G} {cy : Nat → ClassId} {B cells slots ii : Nat} {Q : State → Prop} {σ : Sg} {H : Heap} {locs : List Loc} {ls : Array Slot} (hE : LE p s m c b L xs D cy B cells slots) (hi : ii + 6 ≤ L) (hR : Rel σ) (hW : wd D cy B σ H) (hS : va_S (AB B) s.heap H locs) (hl : lv_has ls 4 (lvL b B ii)) (nx : LN p l e s m below meth c b D cy B cells slots ii Q) : W p l e room_1 s m #[Value.ref b] below meth c H locs cells slots Q (F0 m 337 ls []) := by
  obtain ⟨hx, hb, hml, hown, hts, hK, hX, hbl, hbA, hL, hcs⟩ := hE
  have hRf : 10 ≤ room_1.frames := Nat.le_of_ble_eq_true rfl
  have hRl : 350 ≤ room_1.locals := Nat.le_of_ble_eq_true rfl
  have hl : lv_has ls 4 [(3, .int (iI ((ii : Nat) : Int))), (2, .ref (B + 202)), (1, .ref (B + 0)), (0, .ref b)] := hl
  obtain ⟨r_, hv0⟩ : ∃ v : Int, v = (xs (ii + 1)).toInt := ⟨_, rfl⟩
  have rv0 : -2147483648 ≤ r_ ∧ r_ < 2147483648 := by rw [hv0]; exact iI_bd _
  refine lv_aload_n hx hb dL_law_337 rfl (lv_at hl 2 rfl) ?_
  refine lv_aload_n hx hb dL_law_338 rfl (lv_at hl 3 rfl) ?_
  refine lv_iload_n hx hb dL_law_339 rfl (lv_at hl 0 rfl) ?_
  refine zi_con hx hb dL_law_340 ?_
  refine zi_add hx hb dL_law_341 ?_
  refine lx_ld hx hb hX hbl hbA hS hv0 (by omega) (by omega) hL dL_law_342 ?_
  refine k_vi (fr := 10) (lo := 350) (r := (if ¬ (0 ≤ r_ ∧ r_ ≤ 7) then -1000001 else if σ (30 + 2 * r_.toNat) 1 = -1 then -1000011 else σ (30 + 2 * r_.toNat) 2)) (σ' := (if ¬ (0 ≤ r_ ∧ r_ ≤ 7) then σ else if σ (30 + 2 * r_.toNat) 1 = -1 then up σ 0 15 1 else up (up (up σ (30 + 2 * r_.toNat) 1 (-1)) (30 + 2 * r_.toNat) 2 0) 0 15 0)) (As := [.int (iI r_)]) (rest := []) hx hb hml hown hts hK hRf hRl hW hS (c_X11_drop l D cy B σ r_ rv0 hR.ln) vX11_drop ⟨w_399, w_400⟩ w_398 (by decide) e_0 rfl ⟨Nat.le_of_ble_eq_true rfl, Nat.le_of_ble_eq_true rfl⟩ hl.1 rfl (Nat.le_of_ble_eq_true rfl) hcs dL_law_343 (fun H locs hW hS => ?_)
  obtain ⟨σ1, h1, hW⟩ : ∃ σ1 : Sg, σ1 = (if ¬ (0 ≤ r_ ∧ r_ ≤ 7) then σ else if σ (30 + 2 * r_.toNat) 1 = -1 then up σ 0 15 1 else up (up (up σ (30 + 2 * r_.toNat) 1 (-1)) (30 + 2 * r_.toNat) 2 0) 0 15 0) ∧ wd D cy B σ1 H := ⟨_, rfl, hW⟩
  obtain ⟨pm0, heq, hR2⟩ := q_drop hR r_ h1
  refine lv_aload_n hx hb dL_law_346 rfl (lv_at hl 1 rfl) ?_
  refine lv_aload_n hx hb dL_law_347 rfl (lv_at hl 3 rfl) ?_
  refine lv_iload_n hx hb dL_law_348 rfl (lv_at hl 0 rfl) ?_
  refine zi_con hx hb dL_law_349 ?_
  refine zi_add hx hb dL_law_350 ?_
  refine lx_ld hx hb hX hbl hbA hS hv0 (by omega) (by omega) hL dL_law_351 ?_
  refine k_vi (fr := 10) (lo := 350) (r := (if ¬ (0 ≤ r_ ∧ r_ ≤ 7) then -1000001 else if σ1 204 r_.toNat < 0 then -1000011 else σ1 204 r_.toNat)) (σ' := (if ¬ (0 ≤ r_ ∧ r_ ≤ 7) then σ1 else if σ1 204 r_.toNat < 0 then up σ1 202 3 1 else up (up σ1 204 r_.toNat (-1)) 202 3 0)) (As := [.int (iI r_)]) (rest := [.int (iI (if ¬ (0 ≤ r_ ∧ r_ ≤ 7) then -1000001 else if σ (30 + 2 * r_.toNat) 1 = -1 then -1000011 else σ (30 + 2 * r_.toNat) 2))]) hx hb hml hown hts hK hRf hRl hW hS (c_X12_drop l D cy B σ1 r_ rv0 pm0) vX12_drop ⟨w_929, w_930⟩ w_928 (by decide) e_202 rfl ⟨Nat.le_of_ble_eq_true rfl, Nat.le_of_ble_eq_true rfl⟩ hl.1 rfl (Nat.le_of_ble_eq_true rfl) hcs dL_law_352 (fun H locs hW hS => ?_)
  refine lv_icmp_eq (tgt := 1214) hx hb dL_law_355 (by decide) (fun _ => ?_) (fun hne => absurd (congrArg iI heq) hne)
  exact nx _ _ _ _ hR2 hW hS hl
set_option maxHeartbeats 1000000 in
theorem lc_feed {p : Program} {l : Launch} {e : Env} {s : State} {m : MethodId} {below : List Frame} {meth : Method} {c : Code} {b L : Nat} {xs : Nat → Int32} {D : va_G} {cy : Nat → ClassId} {B cells slots ii : Nat} {Q : State → Prop} {σ : Sg} {H : Heap} {locs : List Loc} {ls : Array Slot} (hE : LE p s m c b L xs D cy B cells slots) (hi : ii + 6 ≤ L) (hR : Rel σ) (hW : wd D cy B σ H) (hS : va_S (AB B) s.heap H locs) (hl : lv_has ls 4 (lvL b B ii)) (nx : LN p l e s m below meth c b D cy B cells slots ii Q) : W p l e room_1 s m #[Value.ref b] below meth c H locs cells slots Q (F0 m 360 ls []) := by
  obtain ⟨hx, hb, hml, hown, hts, hK, hX, hbl, hbA, hL, hcs⟩ := hE
  have hRf : 10 ≤ room_1.frames := Nat.le_of_ble_eq_true rfl
  have hRl : 350 ≤ room_1.locals := Nat.le_of_ble_eq_true rfl
  have hl : lv_has ls 4 [(3, .int (iI ((ii : Nat) : Int))), (2, .ref (B + 202)), (1, .ref (B + 0)), (0, .ref b)] := hl
  obtain ⟨z_, hv0⟩ : ∃ v : Int, v = (xs (ii + 1)).toInt := ⟨_, rfl⟩
  have rv0 : -2147483648 ≤ z_ ∧ z_ < 2147483648 := by rw [hv0]; exact iI_bd _
  refine lv_aload_n hx hb dL_law_360 rfl (lv_at hl 2 rfl) ?_
  refine lv_aload_n hx hb dL_law_361 rfl (lv_at hl 3 rfl) ?_
  refine lv_iload_n hx hb dL_law_362 rfl (lv_at hl 0 rfl) ?_
  refine zi_con hx hb dL_law_363 ?_
  refine zi_add hx hb dL_law_364 ?_
  refine lx_ld hx hb hX hbl hbA hS hv0 (by omega) (by omega) hL dL_law_365 ?_
  refine k_vi (fr := 10) (lo := 350) (r := (if ¬ (0 ≤ z_ ∧ z_ ≤ 255) then -1000001 else if σ 2 1 = 100 then -1000003 else σ 2 1 + 1)) (σ' := (if ¬ (0 ≤ z_ ∧ z_ ≤ 255) then σ else if σ 2 1 = 100 then σ else up (up σ 3 (σ 2 1).toNat z_) 2 1 (σ 2 1 + 1))) (As := [.int (iI z_)]) (rest := []) hx hb hml hown hts hK hRf hRl hW hS (c_X11_feed l D cy B σ z_ rv0 hR.by2) vX11_feed ⟨w_407, w_408⟩ w_406 (by decide) e_0 rfl ⟨Nat.le_of_ble_eq_true rfl, Nat.le_of_ble_eq_true rfl⟩ hl.1 rfl (Nat.le_of_ble_eq_true rfl) hcs dL_law_366 (fun H locs hW hS => ?_)
  obtain ⟨σ1, h1, hW⟩ : ∃ σ1 : Sg, σ1 = (if ¬ (0 ≤ z_ ∧ z_ ≤ 255) then σ else if σ 2 1 = 100 then σ else up (up σ 3 (σ 2 1).toNat z_) 2 1 (σ 2 1 + 1)) ∧ wd D cy B σ1 H := ⟨_, rfl, hW⟩
  obtain ⟨pm0, heq, hR2⟩ := q_feed hR z_ h1
  refine lv_aload_n hx hb dL_law_369 rfl (lv_at hl 1 rfl) ?_
  refine lv_aload_n hx hb dL_law_370 rfl (lv_at hl 3 rfl) ?_
  refine lv_iload_n hx hb dL_law_371 rfl (lv_at hl 0 rfl) ?_
  refine zi_con hx hb dL_law_372 ?_
  refine zi_add hx hb dL_law_373 ?_
  refine lx_ld hx hb hX hbl hbA hS hv0 (by omega) (by omega) hL dL_law_374 ?_
  refine k_vi (fr := 10) (lo := 350) (r := (if ¬ (0 ≤ z_ ∧ z_ ≤ 255) then -1000001 else if σ1 202 8 = 100 then -1000003 else σ1 202 8 + 1)) (σ' := (if ¬ (0 ≤ z_ ∧ z_ ≤ 255) then σ1 else if σ1 202 8 = 100 then σ1 else up (up σ1 208 (σ1 202 8).toNat z_) 202 8 (σ1 202 8 + 1))) (As := [.int (iI z_)]) (rest := [.int (iI (if ¬ (0 ≤ z_ ∧ z_ ≤ 255) then -1000001 else if σ 2 1 = 100 then -1000003 else σ 2 1 + 1))]) hx hb hml hown hts hK hRf hRl hW hS (c_X12_feed l D cy B σ1 z_ rv0 pm0) vX12_feed ⟨w_933, w_934⟩ w_932 (by decide) e_202 rfl ⟨Nat.le_of_ble_eq_true rfl, Nat.le_of_ble_eq_true rfl⟩ hl.1 rfl (Nat.le_of_ble_eq_true rfl) hcs dL_law_375 (fun H locs hW hS => ?_)
  refine lv_icmp_eq (tgt := 1214) hx hb dL_law_378 (by decide) (fun _ => ?_) (fun hne => absurd (congrArg iI heq) hne)
  exact nx _ _ _ _ hR2 hW hS hl
set_option maxHeartbeats 1000000 in
theorem lc_realm {p : Program} {l : Launch} {e : Env} {s : State} {m : MethodId} {below : List Frame} {meth : Method} {c : Code} {b L : Nat} {xs : Nat → Int32} {D : va_G} {cy : Nat → ClassId} {B cells slots ii : Nat} {Q : State → Prop} {σ : Sg} {H : Heap} {locs : List Loc} {ls : Array Slot} (hE : LE p s m c b L xs D cy B cells slots) (hi : ii + 6 ≤ L) (hR : Rel σ) (hW : wd D cy B σ H) (hS : va_S (AB B) s.heap H locs) (hl : lv_has ls 4 (lvL b B ii)) (nx : LN p l e s m below meth c b D cy B cells slots ii Q) : W p l e room_1 s m #[Value.ref b] below meth c H locs cells slots Q (F0 m 383 ls []) := by
  obtain ⟨hx, hb, hml, hown, hts, hK, hX, hbl, hbA, hL, hcs⟩ := hE
  have hRf : 10 ≤ room_1.frames := Nat.le_of_ble_eq_true rfl
  have hRl : 350 ≤ room_1.locals := Nat.le_of_ble_eq_true rfl
  have hl : lv_has ls 4 [(3, .int (iI ((ii : Nat) : Int))), (2, .ref (B + 202)), (1, .ref (B + 0)), (0, .ref b)] := hl
  refine lv_aload_n hx hb dL_law_383 rfl (lv_at hl 2 rfl) ?_
  refine k_vi (fr := 10) (lo := 350) (r := (if rdC (σ) 2 2 = 0 then rdC (σ) 24 4 else -1000100 - rdC (σ) 2 3)) (σ' := (if rdC (σ) 2 2 = 0 then up (up (us (rdZ (σ)) 18 (tkN ((rdZ (σ)) 18) (rdC (σ) 24) (mn (rdC (σ) 24)))) 0 8 0) 0 9 0 else up (rdZ (σ)) 0 14 (rdC (σ) 2 2))) (As := []) (rest := []) hx hb hml hown hts hK hRf hRl hW hS (c_X11_realm l D cy B σ  hR.2.2.2.2.2.1.2.2 hR.tk) vX11_realm ⟨w_412, w_413⟩ w_411 (by decide) e_0 rfl ⟨Nat.le_of_ble_eq_true rfl, Nat.le_of_ble_eq_true rfl⟩ hl.1 rfl (Nat.le_of_ble_eq_true rfl) hcs dL_law_384 (fun H locs hW hS => ?_)
  obtain ⟨σ1, h1, hW⟩ : ∃ σ1 : Sg, σ1 = (if rdC (σ) 2 2 = 0 then up (up (us (rdZ (σ)) 18 (tkN ((rdZ (σ)) 18) (rdC (σ) 24) (mn (rdC (σ) 24)))) 0 8 0) 0 9 0 else up (rdZ (σ)) 0 14 (rdC (σ) 2 2)) ∧ wd D cy B σ1 H := ⟨_, rfl, hW⟩
  obtain ⟨pm0, pm1, heq, hR2⟩ := q_realm hR  h1
  refine lv_aload_n hx hb dL_law_387 rfl (lv_at hl 1 rfl) ?_
  refine k_vi (fr := 10) (lo := 350) (r := (if rdB (σ1) = true then rdS (σ1) 209 4 else -1000100 - rdS (σ1) 202 13)) (σ' := (if rdB (σ1) = true then up (up (us (up (rdS (σ1)) 202 8 0) 206 (rdS (σ1) 209)) 202 4 1) 202 18 0 else up (up (rdS (σ1)) 202 8 0) 202 9 (rdS (σ1) 202 14))) (As := []) (rest := [.int (iI (if rdC (σ) 2 2 = 0 then rdC (σ) 24 4 else -1000100 - rdC (σ) 2 3))]) hx hb hml hown hts hK hRf hRl hW hS (c_X12_realm l D cy B σ1  pm0 pm1) vX12_realm ⟨w_939, w_940⟩ w_938 (by decide) e_202 rfl ⟨Nat.le_of_ble_eq_true rfl, Nat.le_of_ble_eq_true rfl⟩ hl.1 rfl (Nat.le_of_ble_eq_true rfl) hcs dL_law_388 (fun H locs hW hS => ?_)
  refine lv_icmp_eq (tgt := 1214) hx hb dL_law_391 (by decide) (fun _ => ?_) (fun hne => absurd (congrArg iI heq) hne)
  exact nx _ _ _ _ hR2 hW hS hl
set_option maxHeartbeats 1000000 in
theorem lc_fault {p : Program} {l : Launch} {e : Env} {s : State} {m : MethodId} {below : List Frame} {meth : Method} {c : Code} {b L : Nat} {xs : Nat → Int32} {D : va_G} {cy : Nat → ClassId} {B cells slots ii : Nat} {Q : State → Prop} {σ : Sg} {H : Heap} {locs : List Loc} {ls : Array Slot} (hE : LE p s m c b L xs D cy B cells slots) (hi : ii + 6 ≤ L) (hR : Rel σ) (hW : wd D cy B σ H) (hS : va_S (AB B) s.heap H locs) (hl : lv_has ls 4 (lvL b B ii)) (nx : LN p l e s m below meth c b D cy B cells slots ii Q) : W p l e room_1 s m #[Value.ref b] below meth c H locs cells slots Q (F0 m 396 ls []) := by
  obtain ⟨hx, hb, hml, hown, hts, hK, hX, hbl, hbA, hL, hcs⟩ := hE
  have hRf : 10 ≤ room_1.frames := Nat.le_of_ble_eq_true rfl
  have hRl : 350 ≤ room_1.locals := Nat.le_of_ble_eq_true rfl
  have hl : lv_has ls 4 [(3, .int (iI ((ii : Nat) : Int))), (2, .ref (B + 202)), (1, .ref (B + 0)), (0, .ref b)] := hl
  refine lv_aload_n hx hb dL_law_396 rfl (lv_at hl 2 rfl) ?_
  refine k_vi (fr := 10) (lo := 350) (r := (σ 0 14)) (σ' := (σ)) (As := []) (rest := []) hx hb hml hown hts hK hRf hRl hW hS (c_X11_fault l D cy B σ  ) vX11_fault ⟨w_472, w_473⟩ w_471 (by decide) e_0 rfl ⟨Nat.le_of_ble_eq_true rfl, Nat.le_of_ble_eq_true rfl⟩ hl.1 rfl (Nat.le_of_ble_eq_true rfl) hcs dL_law_397 (fun H locs hW hS => ?_)
  obtain ⟨σ1, h1, hW⟩ : ∃ σ1 : Sg, σ1 = (σ) ∧ wd D cy B σ1 H := ⟨_, rfl, hW⟩
  obtain ⟨heq, hR2⟩ := q_fault hR  h1
  refine lv_aload_n hx hb dL_law_400 rfl (lv_at hl 1 rfl) ?_
  refine k_vi (fr := 10) (lo := 350) (r := (σ1 202 9)) (σ' := (σ1)) (As := []) (rest := [.int (iI (σ 0 14))]) hx hb hml hown hts hK hRf hRl hW hS (c_X12_fault l D cy B σ1  ) vX12_fault ⟨w_976, w_977⟩ w_975 (by decide) e_202 rfl ⟨Nat.le_of_ble_eq_true rfl, Nat.le_of_ble_eq_true rfl⟩ hl.1 rfl (Nat.le_of_ble_eq_true rfl) hcs dL_law_401 (fun H locs hW hS => ?_)
  refine lv_icmp_eq (tgt := 1214) hx hb dL_law_404 (by decide) (fun _ => ?_) (fun hne => absurd (congrArg iI heq) hne)
  exact nx _ _ _ _ hR2 hW hS hl
set_option maxHeartbeats 1000000 in
theorem lc_undo {p : Program} {l : Launch} {e : Env} {s : State} {m : MethodId} {below : List Frame} {meth : Method} {c : Code} {b L : Nat} {xs : Nat → Int32} {D : va_G} {cy : Nat → ClassId} {B cells slots ii : Nat} {Q : State → Prop} {σ : Sg} {H : Heap} {locs : List Loc} {ls : Array Slot} (hE : LE p s m c b L xs D cy B cells slots) (hi : ii + 6 ≤ L) (hR : Rel σ) (hW : wd D cy B σ H) (hS : va_S (AB B) s.heap H locs) (hl : lv_has ls 4 (lvL b B ii)) (nx : LN p l e s m below meth c b D cy B cells slots ii Q) : W p l e room_1 s m #[Value.ref b] below meth c H locs cells slots Q (F0 m 409 ls []) := by
  obtain ⟨hx, hb, hml, hown, hts, hK, hX, hbl, hbA, hL, hcs⟩ := hE
  have hRf : 10 ≤ room_1.frames := Nat.le_of_ble_eq_true rfl
  have hRl : 350 ≤ room_1.locals := Nat.le_of_ble_eq_true rfl
  have hl : lv_has ls 4 [(3, .int (iI ((ii : Nat) : Int))), (2, .ref (B + 202)), (1, .ref (B + 0)), (0, .ref b)] := hl
  refine lv_aload_n hx hb dL_law_409 rfl (lv_at hl 2 rfl) ?_
  refine k_vi (fr := 10) (lo := 350) (r := (if σ 0 8 = 0 then -1000002 else σ 0 8 - 1)) (σ' := (if σ 0 8 = 0 then σ else us (up (up σ 0 9 (bk (σ))) 0 8 (σ 0 8 - 1)) 18 (tkN (σ 18) (σ (58 + 6 * (bk (σ)).toNat)) (mn (σ (58 + 6 * (bk (σ)).toNat)))))) (As := []) (rest := []) hx hb hml hown hts hK hRf hRl hW hS (c_X11_undo l D cy B σ  hR.a8 hR.2.1.1.2.2 hR.be) vX11_undo ⟨w_476, w_477⟩ w_475 (by decide) e_0 rfl ⟨Nat.le_of_ble_eq_true rfl, Nat.le_of_ble_eq_true rfl⟩ hl.1 rfl (Nat.le_of_ble_eq_true rfl) hcs dL_law_410 (fun H locs hW hS => ?_)
  obtain ⟨σ1, h1, hW⟩ : ∃ σ1 : Sg, σ1 = (if σ 0 8 = 0 then σ else us (up (up σ 0 9 (bk (σ))) 0 8 (σ 0 8 - 1)) 18 (tkN (σ 18) (σ (58 + 6 * (bk (σ)).toNat)) (mn (σ (58 + 6 * (bk (σ)).toNat))))) ∧ wd D cy B σ1 H := ⟨_, rfl, hW⟩
  obtain ⟨pm0, heq, hR2⟩ := q_undo hR  h1
  refine lv_aload_n hx hb dL_law_413 rfl (lv_at hl 1 rfl) ?_
  refine k_vi (fr := 10) (lo := 350) (r := (if σ1 202 18 = 0 then -1000002 else σ1 202 18 - 1)) (σ' := (if σ1 202 18 = 0 then σ1 else us (up σ1 202 18 (σ1 202 18 - 1)) 206 (fun j => σ1 211 (48 * (σ1 202 18 - 1).toNat + j)))) (As := []) (rest := [.int (iI (if σ 0 8 = 0 then -1000002 else σ 0 8 - 1))]) hx hb hml hown hts hK hRf hRl hW hS (c_X12_undo l D cy B σ1  pm0) vX12_undo ⟨w_980, w_981⟩ w_979 (by decide) e_202 rfl ⟨Nat.le_of_ble_eq_true rfl, Nat.le_of_ble_eq_true rfl⟩ hl.1 rfl (Nat.le_of_ble_eq_true rfl) hcs dL_law_414 (fun H locs hW hS => ?_)
  refine lv_icmp_eq (tgt := 1214) hx hb dL_law_417 (by decide) (fun _ => ?_) (fun hne => absurd (congrArg iI heq) hne)
  exact nx _ _ _ _ hR2 hW hS hl
set_option maxHeartbeats 1000000 in
theorem lc_speak {p : Program} {l : Launch} {e : Env} {s : State} {m : MethodId} {below : List Frame} {meth : Method} {c : Code} {b L : Nat} {xs : Nat → Int32} {D : va_G} {cy : Nat → ClassId} {B cells slots ii : Nat} {Q : State → Prop} {σ : Sg} {H : Heap} {locs : List Loc} {ls : Array Slot} (hE : LE p s m c b L xs D cy B cells slots) (hi : ii + 6 ≤ L) (hR : Rel σ) (hW : wd D cy B σ H) (hS : va_S (AB B) s.heap H locs) (hl : lv_has ls 4 (lvL b B ii)) (nx : LN p l e s m below meth c b D cy B cells slots ii Q) : W p l e room_1 s m #[Value.ref b] below meth c H locs cells slots Q (F0 m 422 ls []) := by
  obtain ⟨hx, hb, hml, hown, hts, hK, hX, hbl, hbA, hL, hcs⟩ := hE
  have hRf : 10 ≤ room_1.frames := Nat.le_of_ble_eq_true rfl
  have hRl : 350 ≤ room_1.locals := Nat.le_of_ble_eq_true rfl
  have hl : lv_has ls 4 [(3, .int (iI ((ii : Nat) : Int))), (2, .ref (B + 202)), (1, .ref (B + 0)), (0, .ref b)] := hl
  obtain ⟨h_, hv0⟩ : ∃ v : Int, v = (xs (ii + 1)).toInt := ⟨_, rfl⟩
  have rv0 : -2147483648 ≤ h_ ∧ h_ < 2147483648 := by rw [hv0]; exact iI_bd _
  obtain ⟨w_, hv1⟩ : ∃ v : Int, v = (xs (ii + 2)).toInt := ⟨_, rfl⟩
  have rv1 : -2147483648 ≤ w_ ∧ w_ < 2147483648 := by rw [hv1]; exact iI_bd _
  obtain ⟨k_, hv2⟩ : ∃ v : Int, v = (xs (ii + 3)).toInt := ⟨_, rfl⟩
  have rv2 : -2147483648 ≤ k_ ∧ k_ < 2147483648 := by rw [hv2]; exact iI_bd _
  refine lv_aload_n hx hb dL_law_422 rfl (lv_at hl 2 rfl) ?_
  refine lv_aload_n hx hb dL_law_423 rfl (lv_at hl 3 rfl) ?_
  refine lv_iload_n hx hb dL_law_424 rfl (lv_at hl 0 rfl) ?_
  refine zi_con hx hb dL_law_425 ?_
  refine zi_add hx hb dL_law_426 ?_
  refine lx_ld hx hb hX hbl hbA hS hv0 (by omega) (by omega) hL dL_law_427 ?_
  refine lv_aload_n hx hb dL_law_428 rfl (lv_at hl 3 rfl) ?_
  refine lv_iload_n hx hb dL_law_429 rfl (lv_at hl 0 rfl) ?_
  refine zi_con hx hb dL_law_430 ?_
  refine zi_add hx hb dL_law_431 ?_
  refine lx_ld hx hb hX hbl hbA hS hv1 (by omega) (by omega) hL dL_law_432 ?_
  refine lv_aload_n hx hb dL_law_433 rfl (lv_at hl 3 rfl) ?_
  refine lv_iload_n hx hb dL_law_434 rfl (lv_at hl 0 rfl) ?_
  refine zi_con hx hb dL_law_435 ?_
  refine zi_add hx hb dL_law_436 ?_
  refine lx_ld hx hb hX hbl hbA hS hv2 (by omega) (by omega) hL dL_law_437 ?_
  refine k_vi (fr := 10) (lo := 350) (r := (if ¬ (0 ≤ h_ ∧ h_ ≤ σ 18 4 - 1) ∨ ¬ (0 ≤ w_ ∧ w_ ≤ 18) ∨ ¬ (0 ≤ k_ ∧ k_ ≤ 40) then -1000001 else if σ 18 7 = 1 then -1000002 else own (σ 18) h_.toNat)) (σ' := (if ¬ (0 ≤ h_ ∧ h_ ≤ σ 18 4 - 1) ∨ ¬ (0 ≤ w_ ∧ w_ ≤ 18) ∨ ¬ (0 ≤ k_ ∧ k_ ≤ 40) then σ else if σ 18 7 = 1 then σ else us (kU (σ)) 18 (uf (uf (uf (σ 18) (20 + h_.toNat) 1) (24 + h_.toNat) w_) (28 + h_.toNat) k_))) (As := [.int (iI h_), .int (iI w_), .int (iI k_)]) (rest := []) hx hb hml hown hts hK hRf hRl hW hS (c_X11_speak l D cy B σ h_ w_ k_ rv0 rv1 rv2 hR.o18 hR.a8 hR.2.1.1.2.2) vX11_speak ⟨w_481, w_482⟩ w_480 (by decide) e_0 rfl ⟨Nat.le_of_ble_eq_true rfl, Nat.le_of_ble_eq_true rfl⟩ hl.1 rfl (Nat.le_of_ble_eq_true rfl) hcs dL_law_438 (fun H locs hW hS => ?_)
  obtain ⟨σ1, h1, hW⟩ : ∃ σ1 : Sg, σ1 = (if ¬ (0 ≤ h_ ∧ h_ ≤ σ 18 4 - 1) ∨ ¬ (0 ≤ w_ ∧ w_ ≤ 18) ∨ ¬ (0 ≤ k_ ∧ k_ ≤ 40) then σ else if σ 18 7 = 1 then σ else us (kU (σ)) 18 (uf (uf (uf (σ 18) (20 + h_.toNat) 1) (24 + h_.toNat) w_) (28 + h_.toNat) k_)) ∧ wd D cy B σ1 H := ⟨_, rfl, hW⟩
  obtain ⟨pm0, pm1, heq, hR2⟩ := q_speak hR h_ w_ k_ h1
  refine lv_aload_n hx hb dL_law_441 rfl (lv_at hl 1 rfl) ?_
  refine lv_aload_n hx hb dL_law_442 rfl (lv_at hl 3 rfl) ?_
  refine lv_iload_n hx hb dL_law_443 rfl (lv_at hl 0 rfl) ?_
  refine zi_con hx hb dL_law_444 ?_
  refine zi_add hx hb dL_law_445 ?_
  refine lx_ld hx hb hX hbl hbA hS hv0 (by omega) (by omega) hL dL_law_446 ?_
  refine lv_aload_n hx hb dL_law_447 rfl (lv_at hl 3 rfl) ?_
  refine lv_iload_n hx hb dL_law_448 rfl (lv_at hl 0 rfl) ?_
  refine zi_con hx hb dL_law_449 ?_
  refine zi_add hx hb dL_law_450 ?_
  refine lx_ld hx hb hX hbl hbA hS hv1 (by omega) (by omega) hL dL_law_451 ?_
  refine lv_aload_n hx hb dL_law_452 rfl (lv_at hl 3 rfl) ?_
  refine lv_iload_n hx hb dL_law_453 rfl (lv_at hl 0 rfl) ?_
  refine zi_con hx hb dL_law_454 ?_
  refine zi_add hx hb dL_law_455 ?_
  refine lx_ld hx hb hX hbl hbA hS hv2 (by omega) (by omega) hL dL_law_456 ?_
  refine k_vi (fr := 10) (lo := 350) (r := (if ¬ (0 ≤ h_ ∧ h_ ≤ σ1 206 4 - 1) ∨ ¬ (0 ≤ w_ ∧ w_ ≤ 18) ∨ ¬ (0 ≤ k_ ∧ k_ ≤ 40) then -1000001 else if σ1 206 7 = 1 then -1000002 else own (σ1 206) h_.toNat)) (σ' := (if ¬ (0 ≤ h_ ∧ h_ ≤ σ1 206 4 - 1) ∨ ¬ (0 ≤ w_ ∧ w_ ≤ 18) ∨ ¬ (0 ≤ k_ ∧ k_ ≤ 40) then σ1 else if σ1 206 7 = 1 then σ1 else us (nS σ1) 206 (uf (uf (uf (σ1 206) (20 + h_.toNat) 1) (24 + h_.toNat) w_) (28 + h_.toNat) k_))) (As := [.int (iI h_), .int (iI w_), .int (iI k_)]) (rest := [.int (iI (if ¬ (0 ≤ h_ ∧ h_ ≤ σ 18 4 - 1) ∨ ¬ (0 ≤ w_ ∧ w_ ≤ 18) ∨ ¬ (0 ≤ k_ ∧ k_ ≤ 40) then -1000001 else if σ 18 7 = 1 then -1000002 else own (σ 18) h_.toNat))]) hx hb hml hown hts hK hRf hRl hW hS (c_X12_speak l D cy B σ1 h_ w_ k_ rv0 rv1 rv2 pm0 pm1) vX12_speak ⟨w_985, w_986⟩ w_984 (by decide) e_202 rfl ⟨Nat.le_of_ble_eq_true rfl, Nat.le_of_ble_eq_true rfl⟩ hl.1 rfl (Nat.le_of_ble_eq_true rfl) hcs dL_law_457 (fun H locs hW hS => ?_)
  refine lv_icmp_eq (tgt := 1214) hx hb dL_law_460 (by decide) (fun _ => ?_) (fun hne => absurd (congrArg iI heq) hne)
  exact nx _ _ _ _ hR2 hW hS hl
set_option maxHeartbeats 1000000 in
theorem lc_part {p : Program} {l : Launch} {e : Env} {s : State} {m : MethodId} {below : List Frame} {meth : Method} {c : Code} {b L : Nat} {xs : Nat → Int32} {D : va_G} {cy : Nat → ClassId} {B cells slots ii : Nat} {Q : State → Prop} {σ : Sg} {H : Heap} {locs : List Loc} {ls : Array Slot} (hE : LE p s m c b L xs D cy B cells slots) (hi : ii + 6 ≤ L) (hR : Rel σ) (hW : wd D cy B σ H) (hS : va_S (AB B) s.heap H locs) (hl : lv_has ls 4 (lvL b B ii)) (nx : LN p l e s m below meth c b D cy B cells slots ii Q) : W p l e room_1 s m #[Value.ref b] below meth c H locs cells slots Q (F0 m 465 ls []) := by
  obtain ⟨hx, hb, hml, hown, hts, hK, hX, hbl, hbA, hL, hcs⟩ := hE
  have hRf : 10 ≤ room_1.frames := Nat.le_of_ble_eq_true rfl
  have hRl : 350 ≤ room_1.locals := Nat.le_of_ble_eq_true rfl
  have hl : lv_has ls 4 [(3, .int (iI ((ii : Nat) : Int))), (2, .ref (B + 202)), (1, .ref (B + 0)), (0, .ref b)] := hl
  refine lv_aload_n hx hb dL_law_465 rfl (lv_at hl 2 rfl) ?_
  refine k_vi (fr := 10) (lo := 350) (r := (if σ 18 4 = 0 ∨ σ 18 7 = 1 then -1000002 else ((fg (shr (σ 18) (σ 18 3)) (mn (σ 18)) : Nat) : Int))) (σ' := (if σ 18 4 = 0 ∨ σ 18 7 = 1 then σ else us (us (kU (σ)) 10 (cpy (mn (σ 18)) (shr (σ 18) (σ 18 3)) (σ 10))) 18 (uf (cpo 32 (mn (σ 18)) (shr (σ 18) (σ 18 3)) (σ 18)) 7 1))) (As := []) (rest := []) hx hb hml hown hts hK hRf hRl hW hS (c_X11_part l D cy B σ  hR.o18 hR.a8 hR.2.1.1.2.2) vX11_part ⟨w_523, w_524⟩ w_522 (by decide) e_0 rfl ⟨Nat.le_of_ble_eq_true rfl, Nat.le_of_ble_eq_true rfl⟩ hl.1 rfl (Nat.le_of_ble_eq_true rfl) hcs dL_law_466 (fun H locs hW hS => ?_)
  obtain ⟨σ1, h1, hW⟩ : ∃ σ1 : Sg, σ1 = (if σ 18 4 = 0 ∨ σ 18 7 = 1 then σ else us (us (kU (σ)) 10 (cpy (mn (σ 18)) (shr (σ 18) (σ 18 3)) (σ 10))) 18 (uf (cpo 32 (mn (σ 18)) (shr (σ 18) (σ 18 3)) (σ 18)) 7 1)) ∧ wd D cy B σ1 H := ⟨_, rfl, hW⟩
  obtain ⟨pm0, pm1, pm2, heq, hR2⟩ := q_part hR  h1
  refine lv_aload_n hx hb dL_law_469 rfl (lv_at hl 1 rfl) ?_
  refine k_vi (fr := 10) (lo := 350) (r := (if σ1 206 4 = 0 ∨ σ1 206 7 = 1 then -1000002 else ((fg (shr (σ1 206) (σ1 206 3)) (mn (σ1 206)) : Nat) : Int))) (σ' := (if σ1 206 4 = 0 ∨ σ1 206 7 = 1 then σ1 else us (us (nS σ1) 210 (cpy (mn (σ1 206)) (shr (σ1 206) (σ1 206 3)) (σ1 210))) 206 (uf (cpo 32 (mn (σ1 206)) (shr (σ1 206) (σ1 206 3)) (σ1 206)) 7 1))) (As := []) (rest := [.int (iI (if σ 18 4 = 0 ∨ σ 18 7 = 1 then -1000002 else ((fg (shr (σ 18) (σ 18 3)) (mn (σ 18)) : Nat) : Int)))]) hx hb hml hown hts hK hRf hRl hW hS (c_X12_part l D cy B σ1  pm0 pm1 pm2) vX12_part ⟨w_1007, w_1008⟩ w_1006 (by decide) e_202 rfl ⟨Nat.le_of_ble_eq_true rfl, Nat.le_of_ble_eq_true rfl⟩ hl.1 rfl (Nat.le_of_ble_eq_true rfl) hcs dL_law_470 (fun H locs hW hS => ?_)
  refine lv_icmp_eq (tgt := 1214) hx hb dL_law_473 (by decide) (fun _ => ?_) (fun hne => absurd (congrArg iI heq) hne)
  exact nx _ _ _ _ hR2 hW hS hl
set_option maxHeartbeats 1000000 in
theorem lc_rule {p : Program} {l : Launch} {e : Env} {s : State} {m : MethodId} {below : List Frame} {meth : Method} {c : Code} {b L : Nat} {xs : Nat → Int32} {D : va_G} {cy : Nat → ClassId} {B cells slots ii : Nat} {Q : State → Prop} {σ : Sg} {H : Heap} {locs : List Loc} {ls : Array Slot} (hE : LE p s m c b L xs D cy B cells slots) (hi : ii + 6 ≤ L) (hR : Rel σ) (hW : wd D cy B σ H) (hS : va_S (AB B) s.heap H locs) (hl : lv_has ls 4 (lvL b B ii)) (nx : LN p l e s m below meth c b D cy B cells slots ii Q) : W p l e room_1 s m #[Value.ref b] below meth c H locs cells slots Q (F0 m 478 ls []) := by
  obtain ⟨hx, hb, hml, hown, hts, hK, hX, hbl, hbA, hL, hcs⟩ := hE
  have hRf : 10 ≤ room_1.frames := Nat.le_of_ble_eq_true rfl
  have hRl : 350 ≤ room_1.locals := Nat.le_of_ble_eq_true rfl
  have hl : lv_has ls 4 [(3, .int (iI ((ii : Nat) : Int))), (2, .ref (B + 202)), (1, .ref (B + 0)), (0, .ref b)] := hl
  obtain ⟨z_, hv0⟩ : ∃ v : Int, v = (xs (ii + 1)).toInt := ⟨_, rfl⟩
  have rv0 : -2147483648 ≤ z_ ∧ z_ < 2147483648 := by rw [hv0]; exact iI_bd _
  refine lv_aload_n hx hb dL_law_478 rfl (lv_at hl 2 rfl) ?_
  refine lv_aload_n hx hb dL_law_479 rfl (lv_at hl 3 rfl) ?_
  refine lv_iload_n hx hb dL_law_480 rfl (lv_at hl 0 rfl) ?_
  refine zi_con hx hb dL_law_481 ?_
  refine zi_add hx hb dL_law_482 ?_
  refine lx_ld hx hb hX hbl hbA hS hv0 (by omega) (by omega) hL dL_law_483 ?_
  refine k_vi (fr := 10) (lo := 350) (r := (if σ 18 4 = 0 then -1000002 else if ¬ (0 ≤ z_ ∧ z_ ≤ 3) then -1000001 else if σ 18 7 = 1 then -1000002 else σ 18 3)) (σ' := (if σ 18 4 = 0 then σ else if ¬ (0 ≤ z_ ∧ z_ ≤ 3) then σ else if σ 18 7 = 1 then σ else us (kU (σ)) 18 (uf (σ 18) 3 z_))) (As := [.int (iI z_)]) (rest := []) hx hb hml hown hts hK hRf hRl hW hS (c_X11_rule l D cy B σ z_ rv0 hR.o18 hR.a8 hR.2.1.1.2.2) vX11_rule ⟨w_555, w_556⟩ w_554 (by decide) e_0 rfl ⟨Nat.le_of_ble_eq_true rfl, Nat.le_of_ble_eq_true rfl⟩ hl.1 rfl (Nat.le_of_ble_eq_true rfl) hcs dL_law_484 (fun H locs hW hS => ?_)
  obtain ⟨σ1, h1, hW⟩ : ∃ σ1 : Sg, σ1 = (if σ 18 4 = 0 then σ else if ¬ (0 ≤ z_ ∧ z_ ≤ 3) then σ else if σ 18 7 = 1 then σ else us (kU (σ)) 18 (uf (σ 18) 3 z_)) ∧ wd D cy B σ1 H := ⟨_, rfl, hW⟩
  obtain ⟨pm0, pm1, pm2, heq, hR2⟩ := q_rule hR z_ h1
  refine lv_aload_n hx hb dL_law_487 rfl (lv_at hl 1 rfl) ?_
  refine lv_aload_n hx hb dL_law_488 rfl (lv_at hl 3 rfl) ?_
  refine lv_iload_n hx hb dL_law_489 rfl (lv_at hl 0 rfl) ?_
  refine zi_con hx hb dL_law_490 ?_
  refine zi_add hx hb dL_law_491 ?_
  refine lx_ld hx hb hX hbl hbA hS hv0 (by omega) (by omega) hL dL_law_492 ?_
  refine k_vi (fr := 10) (lo := 350) (r := (if σ1 206 4 = 0 then -1000002 else if ¬ (0 ≤ z_ ∧ z_ ≤ 3) then -1000001 else if σ1 206 7 = 1 then -1000002 else σ1 206 3)) (σ' := (if σ1 206 4 = 0 then σ1 else if ¬ (0 ≤ z_ ∧ z_ ≤ 3) then σ1 else if σ1 206 7 = 1 then σ1 else up (nS σ1) 206 3 z_)) (As := [.int (iI z_)]) (rest := [.int (iI (if σ 18 4 = 0 then -1000002 else if ¬ (0 ≤ z_ ∧ z_ ≤ 3) then -1000001 else if σ 18 7 = 1 then -1000002 else σ 18 3))]) hx hb hml hown hts hK hRf hRl hW hS (c_X12_rule l D cy B σ1 z_ rv0 pm0 pm1 pm2) vX12_rule ⟨w_1023, w_1024⟩ w_1022 (by decide) e_202 rfl ⟨Nat.le_of_ble_eq_true rfl, Nat.le_of_ble_eq_true rfl⟩ hl.1 rfl (Nat.le_of_ble_eq_true rfl) hcs dL_law_493 (fun H locs hW hS => ?_)
  refine lv_icmp_eq (tgt := 1214) hx hb dL_law_496 (by decide) (fun _ => ?_) (fun hne => absurd (congrArg iI heq) hne)
  exact nx _ _ _ _ hR2 hW hS hl
set_option maxHeartbeats 1000000 in
theorem lc_months {p : Program} {l : Launch} {e : Env} {s : State} {m : MethodId} {below : List Frame} {meth : Method} {c : Code} {b L : Nat} {xs : Nat → Int32} {D : va_G} {cy : Nat → ClassId} {B cells slots ii : Nat} {Q : State → Prop} {σ : Sg} {H : Heap} {locs : List Loc} {ls : Array Slot} (hE : LE p s m c b L xs D cy B cells slots) (hi : ii + 6 ≤ L) (hR : Rel σ) (hW : wd D cy B σ H) (hS : va_S (AB B) s.heap H locs) (hl : lv_has ls 4 (lvL b B ii)) (nx : LN p l e s m below meth c b D cy B cells slots ii Q) : W p l e room_1 s m #[Value.ref b] below meth c H locs cells slots Q (F0 m 501 ls []) := by
  obtain ⟨hx, hb, hml, hown, hts, hK, hX, hbl, hbA, hL, hcs⟩ := hE
  have hRf : 10 ≤ room_1.frames := Nat.le_of_ble_eq_true rfl
  have hRl : 350 ≤ room_1.locals := Nat.le_of_ble_eq_true rfl
  have hl : lv_has ls 4 [(3, .int (iI ((ii : Nat) : Int))), (2, .ref (B + 202)), (1, .ref (B + 0)), (0, .ref b)] := hl
  obtain ⟨z_, hv0⟩ : ∃ v : Int, v = (xs (ii + 1)).toInt := ⟨_, rfl⟩
  have rv0 : -2147483648 ≤ z_ ∧ z_ < 2147483648 := by rw [hv0]; exact iI_bd _
  refine lv_aload_n hx hb dL_law_501 rfl (lv_at hl 2 rfl) ?_
  refine lv_aload_n hx hb dL_law_502 rfl (lv_at hl 3 rfl) ?_
  refine lv_iload_n hx hb dL_law_503 rfl (lv_at hl 0 rfl) ?_
  refine zi_con hx hb dL_law_504 ?_
  refine zi_add hx hb dL_law_505 ?_
  refine lx_ld hx hb hX hbl hbA hS hv0 (by omega) (by omega) hL dL_law_506 ?_
  refine k_vi (fr := 10) (lo := 350) (r := (if σ 18 4 = 0 then -1000002 else if ¬ (1 ≤ z_ ∧ z_ ≤ 24) then -1000001 else if σ 18 7 = 0 then -1000002 else if 999 < σ 18 5 + z_ then -1000003 else itf mon z_.toNat (σ 18) 1)) (σ' := (if σ 18 4 = 0 then σ else if ¬ (1 ≤ z_ ∧ z_ ≤ 24) then σ else if σ 18 7 = 0 then σ else if 999 < σ 18 5 + z_ then σ else itr kM z_.toNat σ)) (As := [.int (iI z_)]) (rest := []) hx hb hml hown hts hK hRf hRl hW hS (c_X11_months l D cy B σ z_ rv0 hR.o18 hR.a8 hR.2.1.1.2.2 hR.m18) vX11_months ⟨w_559, w_560⟩ w_558 (by decide) e_0 rfl ⟨Nat.le_of_ble_eq_true rfl, Nat.le_of_ble_eq_true rfl⟩ hl.1 rfl (Nat.le_of_ble_eq_true rfl) hcs dL_law_507 (fun H locs hW hS => ?_)
  obtain ⟨σ1, h1, hW⟩ : ∃ σ1 : Sg, σ1 = (if σ 18 4 = 0 then σ else if ¬ (1 ≤ z_ ∧ z_ ≤ 24) then σ else if σ 18 7 = 0 then σ else if 999 < σ 18 5 + z_ then σ else itr kM z_.toNat σ) ∧ wd D cy B σ1 H := ⟨_, rfl, hW⟩
  obtain ⟨pm0, pm1, pm2, pm3, heq, hR2⟩ := q_months hR z_ h1
  refine lv_aload_n hx hb dL_law_510 rfl (lv_at hl 1 rfl) ?_
  refine lv_aload_n hx hb dL_law_511 rfl (lv_at hl 3 rfl) ?_
  refine lv_iload_n hx hb dL_law_512 rfl (lv_at hl 0 rfl) ?_
  refine zi_con hx hb dL_law_513 ?_
  refine zi_add hx hb dL_law_514 ?_
  refine lx_ld hx hb hX hbl hbA hS hv0 (by omega) (by omega) hL dL_law_515 ?_
  refine k_vi (fr := 10) (lo := 350) (r := (if σ1 206 4 = 0 then -1000002 else if ¬ (1 ≤ z_ ∧ z_ ≤ 24) then -1000001 else if σ1 206 7 = 0 then -1000002 else if 999 < σ1 206 5 + z_ then -1000003 else itf mon z_.toNat (σ1 206) 1)) (σ' := (if σ1 206 4 = 0 then σ1 else if ¬ (1 ≤ z_ ∧ z_ ≤ 24) then σ1 else if σ1 206 7 = 0 then σ1 else if 999 < σ1 206 5 + z_ then σ1 else itr mS z_.toNat σ1)) (As := [.int (iI z_)]) (rest := [.int (iI (if σ 18 4 = 0 then -1000002 else if ¬ (1 ≤ z_ ∧ z_ ≤ 24) then -1000001 else if σ 18 7 = 0 then -1000002 else if 999 < σ 18 5 + z_ then -1000003 else itf mon z_.toNat (σ 18) 1))]) hx hb hml hown hts hK hRf hRl hW hS (c_X12_months l D cy B σ1 z_ rv0 pm0 pm1 pm2 pm3) vX12_months ⟨w_1028, w_1029⟩ w_1027 (by decide) e_202 rfl ⟨Nat.le_of_ble_eq_true rfl, Nat.le_of_ble_eq_true rfl⟩ hl.1 rfl (Nat.le_of_ble_eq_true rfl) hcs dL_law_516 (fun H locs hW hS => ?_)
  refine lv_icmp_eq (tgt := 1214) hx hb dL_law_519 (by decide) (fun _ => ?_) (fun hne => absurd (congrArg iI heq) hne)
  exact nx _ _ _ _ hR2 hW hS hl
