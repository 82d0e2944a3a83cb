/-! THE CLAIM OUT OF ONE WALK OF THE LAW'S BODY. Your part is whole_start (and what it stands on); all else here is the same for every law, but numbers. -/
def R_law : String := "LovePartsLaw"
def lw_P (b : Addr) (xs : List Int32) (args : Array Value) (s : State) : Prop := args = #[.ref b] ∧ s.IntsAt b xs ∧ xs.length ≤ 384 ∧ (Jvm.Cond.and given_1 narrow_1).before args s = true
def lw_Q (_ : Array Value) (s : State) (o : Outcome) (t : State) : Prop := o = .returned (some (.int 1)) ∧ Framed s o t [] 600000 7302250
def lw_Z (below : List Frame) (a : Array Value) (s : State) : State → Prop := fun t => ∃ o, t.status = .running ∧ Ended t below o ∧ lw_Q a s o t
/-- the law's own end, with 1 on the stack, nothing written that was there before, its room as the claim has it -/
theorem lw_ret {p : Program} {l : Launch} {e : Env} {s : State} {m : MethodId} {below : List Frame} {meth : Method} {c : Code} {b : Nat} (hx : p.tables.exec = Jvm.exec) (hb : c.code = code) (hr : meth.sig.returnType = ret) (hlocks : meth.locks = false) {pc : Nat} {H : Heap} {ls : Array Slot} (hdg : decode code pc = .ok (.ireturn, 1)) : W p l e room_1 s m #[Value.ref b] below meth c H [] 600000 7302250 (lw_Z below #[Value.ref b] s) (F0 m pc ls [.int 1]) := by
  intro T hT X
  obtain ⟨fs, hret, hrun, hended, hW, hframe⟩ := X.leave (v := some (.int 1)) (hlocks := hlocks) (fun h => by rw [hr] at h; cases h)
  have hmeth' : T.vm.method? m = some meth := X.method'
  refine ⟨T.setFrames fs, ?_, .returned (some (.int 1)), hrun, hended, rfl, ⟨_, rfl⟩, hW, hframe⟩
  jvm_step X.here [X.here.top, hx, hb, hdg, hmeth', hr, ret, narrow_b1]
  (try refine ⟨rfl, ?_⟩); (try refine ⟨rfl, ?_⟩)
  first | (intro acts; rw [hret _ acts rfl rfl rfl]) | rw [hret _ _ rfl rfl rfl]
  exact Steps.refl _
/-- what holds at the law's entry: the machine, the code, the tables' words (any of lw_tbl by 'hts w (by decide +kernel)'), the script of L ints xs at the cell b, what the Statement gives of the start (any of its parts by flat_of_before) -/
def lw_At (p : Program) (s : State) (m : MethodId) (meth : Method) (c : Code) (b L : Nat) (xs : Nat → Int32) : Prop :=
  p.tables.exec = Jvm.exec ∧ c.code = code ∧ meth.sig.returnType = ret ∧ c.maxLocals = 4 ∧ s.vm.findClass R_law = some m.cls ∧ (∀ w ∈ lw_tbl, w.before #[Value.ref b] s = true) ∧ va_X b L xs s s.heap ∧ b < s.heap.size ∧ meth.locks = false ∧ (Jvm.Cond.and given_1 narrow_1).before #[Value.ref b] s = true
set_option maxHeartbeats 4000000 in
theorem whole_start {p : Program} {e : Env} {s : State} {m : MethodId} {below : List Frame} {meth : Method} {c : Code} (l : Launch) {b L : Nat} {xs : Nat → Int32} (hL : L ≤ 384) (C0 : lw_At p s m meth c b L xs) : W p l e room_1 s m #[Value.ref b] below meth c s.heap [] 0 0 (lw_Z below #[Value.ref b] s) (entryFrame m ([Value.ref b] : List Value).toArray 4) := by
  obtain ⟨hx, hb, hr, hml, hown, htsT, hX, hbl, hlocks, hgv⟩ := id C0
  have hb : c.code = cL_law := hb
  have hown : s.vm.findClass "LovePartsLaw" = some m.cls := hown
  obtain ⟨D, cy, hK, hKX⟩ := ent_K htsT hgv
  have hts : ∀ w ∈ gw, w.before #[Value.ref b] s = true := fun w h => htsT w (List.mem_filter.mp h).1
  have hRf : 10 ≤ room_1.frames := Nat.le_of_ble_eq_true rfl
  have hRl : 350 ≤ room_1.locals := Nat.le_of_ble_eq_true rfl
  obtain ⟨B, hB⟩ : ∃ B : Nat, B = s.heap.size := ⟨_, rfl⟩
  have hbA : ¬ AB B b := by show ¬ B ≤ b; omega
  have hS : va_S (AB B) s.heap s.heap [] := va_S.rf
  have hl := lv_entry ([.ref b]) (n := 4) (Nat.le_of_ble_eq_true rfl)
  rw [lg_entry_eq]
  generalize (lg_sl ([.ref b]) ++ List.replicate (4 - (lg_sl ([.ref b])).length) Slot.unset).toArray = ls at hl ⊢
  have hl : lv_has ls 4 [(0, .ref b)] := hl
  have hW : pw D B 0 (GW cy B sz0) s.heap := ⟨fun k q h => by simp [wl] at h, by omega⟩
  refine pz_new (ci := 10) (fs := [.null, .null, .null, .null, .null, .null, .null, .null, .int (iI 0), .int (iI 0), .null, .null, .null, .null, .int (iI 0), .int (iI 0)]) hx hb hts hown hK hW hS tyX11 rfl inG11 tyX11_ok w_68 ⟨w_69, w_53⟩ (fun j hj => by rcases (show j = 0 ∨ j = 1 ∨ j = 2 ∨ j = 3 ∨ j = 4 ∨ j = 5 ∨ j = 6 ∨ j = 7 ∨ j = 8 ∨ j = 9 ∨ j = 10 ∨ j = 11 ∨ j = 12 ∨ j = 13 ∨ j = 14 ∨ j = 15 by omega) with rfl | rfl | rfl | rfl | rfl | rfl | rfl | rfl | rfl | rfl | rfl | rfl | rfl | rfl | rfl | rfl <;> rfl) ⟨Nat.le_of_ble_eq_true rfl, Nat.le_of_ble_eq_true rfl⟩ dL_law_0 (fun H hW hS => ?_)
  refine lv_dup hx hb dL_law_3 rfl ?_
  refine pz_init (fr := 10) (lo := 350) (As := []) (rest := [.ref (B + 0)]) hx hb hml hown hts hK hKX hRf hRl hW hS (n_X11_init l D cy B) vX11_init w_71 rfl w_70 ⟨Nat.le_of_ble_eq_true rfl, Nat.le_of_ble_eq_true rfl⟩ hl.1 rfl (Nat.le_of_ble_eq_true rfl) ⟨Nat.le_of_ble_eq_true rfl, Nat.le_of_ble_eq_true rfl⟩ dL_law_4 (fun H locs hW hS => ?_)
  refine lv_astore_n (lv' := [(1, .ref (B + 0)), (0, .ref b)]) hx hb dL_law_7 rfl hl (by decide) rfl (fun ls hl => ?_)
  refine pz_new (ci := 11) (fs := [.null, .null, .null, .int (iI 0), .int (iI 0), .null, .null, .null, .int (iI 0), .int (iI 0), .int (iI 0), .int (iI 0), .int (iI 0), .int (iI 0), .int (iI 0), .null, .null, .null, .int (iI 0), .null, .int (iI 0), .null, .null, .null, .null, .int (iI 0)]) hx hb hts hown hK hW hS tyX12 rfl inG12 tyX12_ok w_809 ⟨w_810, w_65⟩ (fun j hj => by rcases (show j = 0 ∨ j = 1 ∨ j = 2 ∨ j = 3 ∨ j = 4 ∨ j = 5 ∨ j = 6 ∨ j = 7 ∨ j = 8 ∨ j = 9 ∨ j = 10 ∨ j = 11 ∨ j = 12 ∨ j = 13 ∨ j = 14 ∨ j = 15 ∨ j = 16 ∨ j = 17 ∨ j = 18 ∨ j = 19 ∨ j = 20 ∨ j = 21 ∨ j = 22 ∨ j = 23 ∨ j = 24 ∨ j = 25 by omega) with rfl | rfl | rfl | rfl | rfl | rfl | rfl | rfl | rfl | rfl | rfl | rfl | rfl | rfl | rfl | rfl | rfl | rfl | rfl | rfl | rfl | rfl | rfl | rfl | rfl | rfl <;> rfl) ⟨Nat.le_of_ble_eq_true rfl, Nat.le_of_ble_eq_true rfl⟩ dL_law_8 (fun H hW hS => ?_)
  refine lv_dup hx hb dL_law_11 rfl ?_
  refine pz_init (fr := 10) (lo := 350) (As := []) (rest := [.ref (B + 202)]) hx hb hml hown hts hK hKX hRf hRl hW hS (n_X12_init l D cy B) vX12_init w_812 rfl w_811 ⟨Nat.le_of_ble_eq_true rfl, Nat.le_of_ble_eq_true rfl⟩ hl.1 rfl (Nat.le_of_ble_eq_true rfl) ⟨Nat.le_of_ble_eq_true rfl, Nat.le_of_ble_eq_true rfl⟩ dL_law_12 (fun H locs hW hS => ?_)
  refine lv_astore_n (lv' := [(2, .ref (B + 202)), (1, .ref (B + 0)), (0, .ref b)]) hx hb dL_law_15 rfl hl (by decide) rfl (fun ls hl => ?_)
  have hW : wd D cy B sz0 H := hW
  refine zi_con hx hb dL_law_16 ?_
  refine lv_istore_n (lv' := [(3, .int (iI (0))), (2, .ref (B + 202)), (1, .ref (B + 0)), (0, .ref b)]) hx hb dL_law_17 rfl hl (by decide) rfl (fun ls hl => ?_)
  have Lp : ∀ (n ii : Nat) (σ : Sg) (H : Heap) (locs : List Loc) (ls : Array Slot), L + 6 - ii < n → Rel σ → wd D cy B σ H → va_S (AB B) s.heap H locs → lv_has ls 4 (lvL b B ii) → ii ≤ 400 → W p l e room_1 s m #[Value.ref b] below meth c H locs 217 4057 (lw_Z below #[Value.ref b] s) (F0 m 18 ls []) := by
    intro n
    induction n with
    | zero => intro ii σ H locs ls h; omega
    | succ n ih =>
      intro ii σ H locs ls hn hR hW hS hl h4
      have hl : lv_has ls 4 [(3, .int (iI ((ii : Nat) : Int))), (2, .ref (B + 202)), (1, .ref (B + 0)), (0, .ref b)] := hl
      refine lv_iload_n hx hb dL_law_18 rfl (lv_at hl 0 rfl) ?_
      refine lv_aload_n hx hb dL_law_19 rfl (lv_at hl 3 rfl) ?_
      refine va_slen hx hb hX hbl hbA hS dL_law_20 ?_
      rw [show Int32.ofNat L = iI (L : Int) from (iI_n L).symm]
      refine zi_bip hx hb dL_law_21 (by decide) ?_
      refine zi_sub hx hb dL_law_23 ?_
      refine zi_cgt (tgt := 1220) hx hb dL_law_24 (by decide) (by omega) (by omega) (fun c24 => ?_) (fun c24 => ?_)
      · refine zi_con hx hb dL_law_1220 ?_
        refine va_forget (fun q hq => by have h9 := hS.2.2 q hq; rw [← hB]; exact h9) ?_
        refine W.widen (k := 600000) (n := 7302250) (by omega) (by omega) ?_
        rw [show iI 1 = (1 : Int32) from by decide]
        exact lw_ret hx hb hr hlocks dL_law_1221
      · obtain ⟨v0, hv0⟩ : ∃ v : Int, v = (xs ii).toInt := ⟨_, rfl⟩
        refine lv_aload_n hx hb dL_law_27 rfl (lv_at hl 3 rfl) ?_
        refine lv_iload_n hx hb dL_law_28 rfl (lv_at hl 0 rfl) ?_
        refine lx_ld hx hb hX hbl hbA hS hv0 rfl (by omega) hL dL_law_29 ?_
        refine zi_bip hx hb dL_law_30 (by decide) ?_
        refine lv_iand hx hb dL_law_32 ?_
        generalize iI v0 &&& iI 63 = w
        have nx : LN p l e s m below meth c b D cy B 217 4057 ii (lw_Z below #[Value.ref b] s) := by
          intro σ H locs ls hR hW hS hl
          refine lv_iinc (v := iI (((ii : Nat) : Int) + 6)) (lv' := [(3, .int (iI (((ii : Nat) : Int) + 6))), (2, .ref (B + 202)), (1, .ref (B + 0)), (0, .ref b)]) hx hb dL_law_1214 hl (k := 0) rfl (iI_add _ _) (by decide) rfl (fun ls hl => ?_)
          refine lv_goto (tgt := 18) hx hb dL_law_1217 (by decide) ?_
          exact ih (ii + 6) _ _ _ _ (by omega) hR hW hS (lv_sub hl [0, 1, 2, 3] rfl) (by omega)
        have hE : LE p s m c b L xs D cy B 217 4057 := ⟨hx, hb, hml, hown, hts, hK, hX, hbl, hbA, hL, ⟨Nat.le_of_ble_eq_true rfl, Nat.le_of_ble_eq_true rfl⟩⟩
        by_cases hsw : w.toInt < 0 ∨ 34 < w.toInt
        · refine lv_tableOut (tgt := 1214) hx hb dL_law_33 hsw (by decide) ?_
          exact nx σ _ _ _ hR hW hS hl
        · have hk : w.toInt = 0 ∨ w.toInt = 1 ∨ w.toInt = 2 ∨ w.toInt = 3 ∨ w.toInt = 4 ∨ w.toInt = 5 ∨ w.toInt = 6 ∨ w.toInt = 7 ∨ w.toInt = 8 ∨ w.toInt = 9 ∨ w.toInt = 10 ∨ w.toInt = 11 ∨ w.toInt = 12 ∨ w.toInt = 13 ∨ w.toInt = 14 ∨ w.toInt = 15 ∨ w.toInt = 16 ∨ w.toInt = 17 ∨ w.toInt = 18 ∨ w.toInt = 19 ∨ w.toInt = 20 ∨ w.toInt = 21 ∨ w.toInt = 22 ∨ w.toInt = 23 ∨ w.toInt = 24 ∨ w.toInt = 25 ∨ w.toInt = 26 ∨ w.toInt = 27 ∨ w.toInt = 28 ∨ w.toInt = 29 ∨ w.toInt = 30 ∨ w.toInt = 31 ∨ w.toInt = 32 ∨ w.toInt = 33 ∨ w.toInt = 34 := by omega
          rcases hk with hk | hk | hk | hk | hk | hk | hk | hk | hk | hk | hk | hk | hk | hk | hk | hk | hk | hk | hk | hk | hk | hk | hk | hk | hk | hk | hk | hk | hk | hk | hk | hk | hk | hk | hk
          · exact lv_tableIn (off := 155) (tgt := 188) hx hb dL_law_33 (by omega) (by omega) (by rw [hk]; rfl) (by decide) (lc_row hE (by omega) hR hW hS hl nx)
          · exact lv_tableIn (off := 198) (tgt := 231) hx hb dL_law_33 (by omega) (by omega) (by rw [hk]; rfl) (by decide) (lc_set hE (by omega) hR hW hS hl nx)
          · exact lv_tableIn (off := 241) (tgt := 274) hx hb dL_law_33 (by omega) (by omega) (by rw [hk]; rfl) (by decide) (lc_copy hE (by omega) hR hW hS hl nx)
          · exact lv_tableIn (off := 304) (tgt := 337) hx hb dL_law_33 (by omega) (by omega) (by rw [hk]; rfl) (by decide) (lc_drop hE (by omega) hR hW hS hl nx)
          · exact lv_tableIn (off := 327) (tgt := 360) hx hb dL_law_33 (by omega) (by omega) (by rw [hk]; rfl) (by decide) (lc_feed hE (by omega) hR hW hS hl nx)
          · exact lv_tableIn (off := 350) (tgt := 383) hx hb dL_law_33 (by omega) (by omega) (by rw [hk]; rfl) (by decide) (lc_realm hE (by omega) hR hW hS hl nx)
          · exact lv_tableIn (off := 363) (tgt := 396) hx hb dL_law_33 (by omega) (by omega) (by rw [hk]; rfl) (by decide) (lc_fault hE (by omega) hR hW hS hl nx)
          · exact lv_tableIn (off := 376) (tgt := 409) hx hb dL_law_33 (by omega) (by omega) (by rw [hk]; rfl) (by decide) (lc_undo hE (by omega) hR hW hS hl nx)
          · exact lv_tableIn (off := 389) (tgt := 422) hx hb dL_law_33 (by omega) (by omega) (by rw [hk]; rfl) (by decide) (lc_speak hE (by omega) hR hW hS hl nx)
          · exact lv_tableIn (off := 432) (tgt := 465) hx hb dL_law_33 (by omega) (by omega) (by rw [hk]; rfl) (by decide) (lc_part hE (by omega) hR hW hS hl nx)
          · exact lv_tableIn (off := 445) (tgt := 478) hx hb dL_law_33 (by omega) (by omega) (by rw [hk]; rfl) (by decide) (lc_rule hE (by omega) hR hW hS hl nx)
          · exact lv_tableIn (off := 468) (tgt := 501) hx hb dL_law_33 (by omega) (by omega) (by rw [hk]; rfl) (by decide) (lc_months hE (by omega) hR hW hS hl nx)
          · exact lv_tableIn (off := 491) (tgt := 524) hx hb dL_law_33 (by omega) (by omega) (by rw [hk]; rfl) (by decide) (lc_letter hE (by omega) hR hW hS hl nx)
          · exact lv_tableIn (off := 524) (tgt := 557) hx hb dL_law_33 (by omega) (by omega) (by rw [hk]; rfl) (by decide) (lc_heir hE (by omega) hR hW hS hl nx)
          · exact lv_tableIn (off := 557) (tgt := 590) hx hb dL_law_33 (by omega) (by omega) (by rw [hk]; rfl) (by decide) (lc_king hE (by omega) hR hW hS hl nx)
          · exact lv_tableIn (off := 580) (tgt := 613) hx hb dL_law_33 (by omega) (by omega) (by rw [hk]; rfl) (by decide) (lc_share hE (by omega) hR hW hS hl nx)
          · exact lv_tableIn (off := 613) (tgt := 646) hx hb dL_law_33 (by omega) (by omega) (by rw [hk]; rfl) (by decide) (lc_best hE (by omega) hR hW hS hl nx)
          · exact lv_tableIn (off := 646) (tgt := 679) hx hb dL_law_33 (by omega) (by omega) (by rw [hk]; rfl) (by decide) (lc_rather hE (by omega) hR hW hS hl nx)
          · exact lv_tableIn (off := 659) (tgt := 692) hx hb dL_law_33 (by omega) (by omega) (by rw [hk]; rfl) (by decide) (lc_trueRule hE (by omega) hR hW hS hl nx)
          · exact lv_tableIn (off := 672) (tgt := 705) hx hb dL_law_33 (by omega) (by omega) (by rw [hk]; rfl) (by decide) (lc_order hE (by omega) hR hW hS hl nx)
          · exact lv_tableIn (off := 705) (tgt := 738) hx hb dL_law_33 (by omega) (by omega) (by rw [hk]; rfl) (by decide) (lc_ahead hE (by omega) hR hW hS hl nx)
          · exact lv_tableIn (off := 738) (tgt := 771) hx hb dL_law_33 (by omega) (by omega) (by rw [hk]; rfl) (by decide) (lc_down hE (by omega) hR hW hS hl nx)
          · exact lv_tableIn (off := 761) (tgt := 794) hx hb dL_law_33 (by omega) (by omega) (by rw [hk]; rfl) (by decide) (lc_loves hE (by omega) hR hW hS hl nx)
          · exact lv_tableIn (off := 824) (tgt := 857) hx hb dL_law_33 (by omega) (by omega) (by rw [hk]; rfl) (by decide) (lc_map hE (by omega) hR hW hS hl nx)
          · exact lv_tableIn (off := 857) (tgt := 890) hx hb dL_law_33 (by omega) (by omega) (by rw [hk]; rfl) (by decide) (lc_who hE (by omega) hR hW hS hl nx)
          · exact lv_tableIn (off := 900) (tgt := 933) hx hb dL_law_33 (by omega) (by omega) (by rw [hk]; rfl) (by decide) (lc_odds hE (by omega) hR hW hS hl nx)
          · exact lv_tableIn (off := 944) (tgt := 977) hx hb dL_law_33 (by omega) (by omega) (by rw [hk]; rfl) (by decide) (lc_drawn hE (by omega) hR hW hS hl nx)
          · exact lv_tableIn (off := 987) (tgt := 1020) hx hb dL_law_33 (by omega) (by omega) (by rw [hk]; rfl) (by decide) (lc_image hE (by omega) hR hW hS hl nx)
          · exact lv_tableIn (off := 1010) (tgt := 1043) hx hb dL_law_33 (by omega) (by omega) (by rw [hk]; rfl) (by decide) (lc_restore hE (by omega) hR hW hS hl nx)
          · exact lv_tableIn (off := 1033) (tgt := 1066) hx hb dL_law_33 (by omega) (by omega) (by rw [hk]; rfl) (by decide) (lc_kind hE (by omega) hR hW hS hl nx)
          · exact lv_tableIn (off := 1056) (tgt := 1089) hx hb dL_law_33 (by omega) (by omega) (by rw [hk]; rfl) (by decide) (lc_as hE (by omega) hR hW hS hl nx)
          · exact lv_tableIn (off := 1089) (tgt := 1122) hx hb dL_law_33 (by omega) (by omega) (by rw [hk]; rfl) (by decide) (lc_ask hE (by omega) hR hW hS hl nx)
          · exact lv_tableIn (off := 1122) (tgt := 1155) hx hb dL_law_33 (by omega) (by omega) (by rw [hk]; rfl) (by decide) (lc_trace hE (by omega) hR hW hS hl nx)
          · exact lv_tableIn (off := 1145) (tgt := 1178) hx hb dL_law_33 (by omega) (by omega) (by rw [hk]; rfl) (by decide) (lc_count hE (by omega) hR hW hS hl nx)
          · exact lv_tableIn (off := 1168) (tgt := 1201) hx hb dL_law_33 (by omega) (by omega) (by rw [hk]; rfl) (by decide) (lc_status hE (by omega) hR hW hS hl nx)
  refine W.widen (k := 217) (n := 4057) (by omega) (by omega) ?_
  exact Lp _ 0 sz0 _ _ _ (Nat.lt_succ_self _) Rel_sz0 hW hS (lv_sub hl [0, 1, 2, 3] rfl) (by omega)
