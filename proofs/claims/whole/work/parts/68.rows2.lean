section RwP
variable {p : Program} {l : Launch} {e : Env} {R : Room} {s : State} {m : MethodId} {args : Array Value} {below : List Frame} {meth : Method} {c : Code} {H H0 : Heap} {locs : List Loc} {cells slots : Nat} {Q : State → Prop}
variable {cc : ByteArray} {pc nL fr lo : Nat} {ls : Array Slot} {rest st : List Value} {D : va_G} {cy : Nat → ClassId} {B : Nat} {σ σ' : Sg} {own : String}
/-- a method of the class above, called as super -/
theorem k_su (hx : p.tables.exec = Jvm.exec) (hb : c.code = cc) (hml : c.maxLocals = nL) (hown : s.vm.findClass own = some m.cls) (hts : ∀ w ∈ gw, w.before args s = true) (hK : KK D cy s) (hRf : fr ≤ R.frames) (hRl : lo ≤ R.locals) (hW : wd D cy B σ H) (hS : va_S (AB B) H0 H locs) {y' : MethodName} {cc' : ByteArray} {nL' : Nat} {ret' : Option FieldType} {fr' lo' index b ci : Nat} {As fs : List Value} {r : Int} {C : String} {q : vw_C} (hM : CI l y' cc' nL' ret' fr' lo' D cy B (.ref (B + b) :: As) σ r σ') (hV : VM y' cc' nL' ret' C As.length) (h2 : Cond.instanceMethod y' ∈ gw ∧ Cond.superclass own y'.cls ∈ gw ∧ Cond.sameMethod y'.cls y'.cls y'.name y'.desc ∈ gw) (hl : Cond.methodLink own index y' ∈ gw) (hno : y'.name ≠ "<init>") (hbl : b < 217) (he : GW cy B σ b = .inr (ci, fs)) (hc : vwCl[ci]? = some q) (hfr : fr' + 1 ≤ fr ∧ 8 + (nL' + 11) + lo' ≤ lo) (hsz : ls.size = nL) (hst : st = As.reverse ++ .ref (B + b) :: rest) (hcat : (rest.map fun v => v.category).sum ≤ 8) (hcs : cells ≤ R.cells ∧ slots ≤ R.slots) (hdg : decode cc pc = .ok (.invokespecial index, 3))
    (kk : ∀ (H1 : Heap) (locs1 : List Loc), wd D cy B σ' H1 → va_S (AB B) H0 H1 locs1 → W p l e R s m args below meth c H1 locs1 cells slots Q (F0 m (pc + 3) ls (.int (iI r) :: rest))) : W p l e R s m args below meth c H locs cells slots Q (F0 m pc ls st) := by
  obtain ⟨h1, h4, h3, h6, h5⟩ := hV
  have hG : GoodIn gw (va_wsSU own index y' (.code y' cc' nL' ret' :: gw)) := gw_of (fun w hw => by
    unfold va_wsSU at hw
    rcases List.mem_append.mp hw with h | h
    · simp only [List.mem_cons, List.not_mem_nil, or_false] at h
      rcases h with rfl | rfl | rfl | rfl | rfl
      · exact hl
      · exact h2.2.2
      · exact h2.2.1
      · exact h2.1
      · rw [h1]; exact h6
    · rcases List.mem_cons.mp h with rfl | h
      · exact h5
      · exact h)
  refine va_calli (va_runSU (As := As) (rest := rest) (hK.1.1 ci q hc).2 ⟨hx, hb, hml, hown, hts⟩ hM (va_cwSU As.length hts hG rfl rfl rfl ⟨hno, h3⟩ ⟨by show fr' + 1 ≤ _; omega, by show 8 + (nL' + 11) + lo' ≤ _; omega⟩) (cPre_atV hW hK hbl he hc) rfl rfl hsz hst (lv_room hcat) hdg hcs) hS (fun q _ h => h) (fun q h => h) (fun r' u t H1 locs1 ht hvm hw hB hz hk hS1 => ?_)
  obtain ⟨rfl, rfl⟩ := hw
  exact kk H1 locs1 (by rw [← ht]; exact hB) hS1
theorem k_iY (hx : p.tables.exec = Jvm.exec) (hb : c.code = cc) (hown : s.vm.findClass own = some m.cls) (hts : ∀ w ∈ gw, w.before args s = true) (hK : KK D cy s) (hW : wd D cy B σ H) {C nm : String} {index b ci : Nat} {fs : List Value} {T : u_T} {N : Nat} (hl : Cond.classLink own index nm ∈ gw) (hcst : (C, nm) ∈ castL) (hbl : b < 217) (he : GW cy B σ b = .inr (ci, fs)) (hc : vwCl[ci]? = some (C, T, N)) (hdg : decode cc pc = .ok (.instanceof index, 3)) (k : W p l e R s m args below meth c H locs cells slots Q (F0 m (pc + 3) ls (.int (iI 1) :: rest))) : W p l e R s m args below meth c H locs cells slots Q (F0 m pc ls (.ref (B + b) :: rest)) :=
  va_instY (C := C) hx hb hown (hts _ hl) (hK.2.1 _ hcst) (va_recv hK.1 hW.1 hc (q0 := b) (by rw [wl_get hbl, he])) hdg k
theorem k_iS (hx : p.tables.exec = Jvm.exec) (hb : c.code = cc) (hown : s.vm.findClass own = some m.cls) (hts : ∀ w ∈ gw, w.before args s = true) (hK : KK D cy s) (hW : wd D cy B σ H) {C : String} {index b ci : Nat} {fs : List Value} {T : u_T} {N : Nat} (hl : Cond.classLink own index C ∈ gw) (hbl : b < 217) (he : GW cy B σ b = .inr (ci, fs)) (hc : vwCl[ci]? = some (C, T, N)) (hdg : decode cc pc = .ok (.instanceof index, 3)) (k : W p l e R s m args below meth c H locs cells slots Q (F0 m (pc + 3) ls (.int (iI 1) :: rest))) : W p l e R s m args below meth c H locs cells slots Q (F0 m pc ls (.ref (B + b) :: rest)) :=
  va_instS (nm := C) hx hb hown (hts _ hl) (hK.1.1 ci _ hc).2 (va_recv hK.1 hW.1 hc (q0 := b) (by rw [wl_get hbl, he])) hdg k
theorem k_iN (hx : p.tables.exec = Jvm.exec) (hb : c.code = cc) (hown : s.vm.findClass own = some m.cls) (hts : ∀ w ∈ gw, w.before args s = true) (hK : KK D cy s) (hW : wd D cy B σ H) {C nm : String} {index b ci : Nat} {fs : List Value} {T : u_T} {N : Nat} (hl : Cond.classLink own index nm ∈ gw) (hcst : (C, nm) ∈ ncL) (hbl : b < 217) (he : GW cy B σ b = .inr (ci, fs)) (hc : vwCl[ci]? = some (C, T, N)) (hdg : decode cc pc = .ok (.instanceof index, 3)) (k : W p l e R s m args below meth c H locs cells slots Q (F0 m (pc + 3) ls (.int (iI 0) :: rest))) : W p l e R s m args below meth c H locs cells slots Q (F0 m pc ls (.ref (B + b) :: rest)) :=
  va_instNo (C := C) hx hb hown (hts _ hl) (hK.2.2.1 _ hcst) (va_recv hK.1 hW.1 hc (q0 := b) (by rw [wl_get hbl, he])) hdg k
theorem iI_ge0 {n : Nat} (h : n < 2147483648) : ¬ iI (n : Int) < 0 := by
  intro h2
  have h3 : iI (n : Int) < iI 0 := h2
  rw [iI_lt (by omega) (by omega)] at h3
  omega
/-- System.arraycopy over ints -/
theorem k_cpy (hx : p.tables.exec = Jvm.exec) (hb : c.code = cc) (hml : c.maxLocals = nL) (hown : s.vm.findClass own = some m.cls) (hts : ∀ w ∈ gw, w.before args s = true) (hK : KK D cy s) (hRf : fr ≤ R.frames) (hRl : lo ≤ R.locals) (hW : wd D cy B σ H) (hS : va_S (AB B) H0 H locs) {index b0 b1 n0 n1 sp dp n : Nat} {f g : Nat → Int} {zs zd zn : Int} (hl : Cond.methodLink own index arraycopyName ∈ gw) (h1 : Cond.native arraycopyName ∈ gw ∧ Cond.static arraycopyName ∈ gw ∧ Cond.initialized "java/lang/System" ∈ gw) (hb0 : b0 < 217) (hb1 : b1 < 217) (he0 : GW cy B σ b0 = ivA (cy 0) n0 f) (he1 : GW cy B σ b1 = ivA (cy 0) n1 g) (hzs : zs = (sp : Int)) (hzd : zd = (dp : Int)) (hzn : zn = (n : Int)) (h4 : sp + n ≤ n0 ∧ dp + n ≤ n1 ∧ n0 < 2147483648 ∧ n1 < 2147483648) (hG : ∀ d, d < 217 → GW cy B σ' d = if d = b1 then ivA (cy 0) n1 (cpo dp n (fun k => f (sp + k)) g) else GW cy B σ d) (hfr : 1 ≤ fr ∧ (rest.map fun v => v.category).sum + (nativeFrameWords "java/lang/System" "arraycopy" 5 + 11) ≤ lo) (hsz : ls.size = nL) (hdg : decode cc pc = .ok (.invokestatic index, 3))
    (kk : ∀ (H1 : Heap) (locs1 : List Loc), wd D cy B σ' H1 → va_S (AB B) H0 H1 locs1 → W p l e R s m args below meth c H1 locs1 cells slots Q (F0 m (pc + 3) ls rest)) : W p l e R s m args below meth c H locs cells slots Q (F0 m pc ls (.int (iI zn) :: .int (iI zd) :: .ref (B + b1) :: .int (iI zs) :: .ref (B + b0) :: rest)) := by
  subst hzs; subst hzd; subst hzn
  intro T hT X
  have hc0 : H[B + b0]? = some (arrV (cy 0) n0 (fun j => .int (iI (f j)))) := by have := hW.1 b0 _ (by rw [wl_get hb0, he0]); rw [← vp_cell_i]; exact this
  have hc1 : H[B + b1]? = some (arrV (cy 0) n1 (fun j => .int (iI (g j)))) := by have := hW.1 b1 _ (by rw [wl_get hb1, he1]); rw [← vp_cell_i]; exact this
  obtain ⟨-, k0, hk0, cm0, hkk0⟩ := (hK.1.2 0 _ rfl).1 n0 (fun j => .int (iI (f j)))
  obtain ⟨-, k1, hk1, cm1, hkk1⟩ := (hK.1.2 0 _ rfl).1 n1 (fun j => .int (iI (g j)))
  have rd : ∀ i : Nat, i < n → (arrV (cy 0) n0 (fun j => .int (iI (f j)))).slots.getD (sp + i) .null = .int (iI (f (sp + i))) := fun i hi => by
    rw [Array.getD_eq_getD_getElem?, arrV_read _ _ (by omega)]
    rfl
  obtain ⟨vm', X', step⟩ := X.arraycopy hx hown (hts _ hl) (hts _ h1.1) (hts _ h1.2.1) (hts _ h1.2.2) (srcPos := iI (sp : Int)) (destPos := iI (dp : Int)) (n := iI (n : Int)) (by rw [hT]; exact hc0) (by rw [hT]; exact hc1)
    (fun _ h => by cases h) (fun _ h => by cases h) (fun h => by cases h) (fun h => by cases h) hk0 hk1 hkk0 hkk1 rfl (iI_ge0 (by omega)) (iI_ge0 (by omega)) (iI_ge0 (by omega))
    (by rw [iI_toInt (by omega), iI_toInt (by omega), arrV_size]; omega) (by rw [iI_toInt (by omega), iI_toInt (by omega), arrV_size]; omega)
    (fun vm₁ _ i hi => by
      rw [iI_clamp (by omega)] at hi ⊢
      rw [rd i hi]
      exact ⟨rfl, trivial⟩)
    (g := F0 m pc ls (.int (iI (n : Int)) :: .int (iI (dp : Int)) :: .ref (B + b1) :: .int (iI (sp : Int)) :: .ref (B + b0) :: rest)) rfl (hsz.trans hml.symm) (rest := rest) rfl (by rw [hb]; exact hdg) (by omega) (by show 2 * 0 + _ + _ ≤ _; omega)
  have e1 : copied (arrV (cy 0) n0 (fun j => .int (iI (f j)))) (arrV (cy 0) n1 (fun j => .int (iI (g j)))) (iI (sp : Int)) (iI (dp : Int)) (iI (n : Int)) = arrV (cy 0) n1 (fun j => .int (iI (cpo dp n (fun k => f (sp + k)) g j))) := by
    unfold copied
    rw [iI_clamp (by omega), iI_clamp (by omega), iI_clamp (by omega), va_copied (fun z => Value.int z) (cy 0) (cy 0) (fun j => iI (f j)) (fun j => iI (g j)) (by omega : sp + n ≤ n0)]
    congr 1
    funext k
    unfold va_cpy cpo
    split <;> rfl
  rw [e1] at X' step
  have hl1 : B + b1 < H.size := (Array.getElem?_eq_some_iff.mp hc1).1
  generalize hN : arrV (cy 0) n1 (fun j => Value.int (iI (cpo dp n (fun k => f (sp + k)) g j))) = cN at X' step
  have hheap : ((T.setVm vm').setCell (B + b1) cN).heap = H.setIfInBounds (B + b1) cN := by rw [← hT]; rfl
  have oq : ∀ q : Nat, q ≠ B + b1 → (H.setIfInBounds (B + b1) cN)[q]? = H[q]? := fun q hq => by simp [Array.getElem?_setIfInBounds, Ne.symm hq]
  have hP2 : va_P D vwCl ((wl B 217 (GW cy B σ)).set b1 (B + b1, ivA (cy 0) n1 (cpo dp n (fun k => f (sp + k)) g))) (H.setIfInBounds (B + b1) cN) := hW.1.set (wl_D B 217 (GW cy B σ)) (by rw [wl_get hb1, he1]) (by
    show (H.setIfInBounds (B + b1) cN)[B + b1]? = some (vp_cell (cy 0) (n1, .inl (fun j => iI (cpo dp n (fun k => f (sp + k)) g j))))
    rw [vp_cell_i, hN]
    simp [Array.getElem?_setIfInBounds, hl1]) oq
  obtain ⟨t, a1, b2⟩ := kk (H.setIfInBounds (B + b1) cN) _ ⟨by rw [← wl_set hb1 hG]; exact hP2, by simp; exact hW.2⟩ ⟨by simp; exact hS.1, fun q g1 g2 => by
      rw [oq q (fun e => g2 (by show B ≤ q; omega))]
      exact hS.2.1 q g1 g2, fun q hq => by
      rcases List.mem_append.mp hq with h | h
      · exact hS.2.2 q h
      · obtain ⟨z, -, hz⟩ := List.mem_map.mp h
        rw [← hz]
        show B ≤ B + b1
        omega⟩ _ hheap X'
  exact ⟨t, step t a1, b2⟩
end RwP
theorem natC {cy : Nat → ClassId} {B : Nat} {σ : Sg} {z : Int} (hz : 1 ≤ z ∧ z ≤ 5) : ∃ (ci : Nat) (q : vw_C), GW cy B σ (12 + z.toNat) = .inr (ci, []) ∧ vwCl[ci]? = some q := by
  have : z = 1 ∨ z = 2 ∨ z = 3 ∨ z = 4 ∨ z = 5 := by omega
  rcases this with rfl | rfl | rfl | rfl | rfl
  · exact ⟨3, _, rfl, rfl⟩
  · exact ⟨7, _, rfl, rfl⟩
  · exact ⟨2, _, rfl, rfl⟩
  · exact ⟨8, _, rfl, rfl⟩
  · exact ⟨1, _, rfl, rfl⟩
theorem ki_1 {p : Program} {l : Launch} {e : Env} {R : Room} {s : State} {m : MethodId} {args : Array Value} {below : List Frame} {meth : Method} {c : Code} {H : Heap} {locs : List Loc} {cells slots : Nat} {Q : State → Prop} {cc : ByteArray} {pc : Nat} {ls : Array Slot} {D : va_G} {cy : Nat → ClassId} {B : Nat} {σ : Sg} {rest : List Value} {z : Int} (hx : p.tables.exec = Jvm.exec) (hb : c.code = cc) (hown : s.vm.findClass "LoveParts" = some m.cls) (hts : ∀ w ∈ gw, w.before args s = true) (hK : KK D cy s) (hW : wd D cy B σ H) (hz : 1 ≤ z ∧ z ≤ 5) (hdg : decode cc pc = .ok (.instanceof 70, 3)) (kk : W p l e R s m args below meth c H locs cells slots Q (F0 m (pc + 3) ls (.int (iI (if (z = 1 ∨ z = 2 ∨ z = 3) then 1 else 0)) :: rest))) : W p l e R s m args below meth c H locs cells slots Q (F0 m pc ls (.ref (B + (12 + z.toNat)) :: rest)) := by
  have hk : z = 1 ∨ z = 2 ∨ z = 3 ∨ z = 4 ∨ z = 5 := by omega
  rcases hk with rfl | rfl | rfl | rfl | rfl
  · rw [show (if ((1 : Int) = 1 ∨ (1 : Int) = 2 ∨ (1 : Int) = 3) then (1 : Int) else 0) = 1 from by decide] at kk
    exact k_iS (C := "LoveParts$Plain") (b := 13) (ci := 3) hx hb hown hts hK hW w_130 (by decide) rfl rfl hdg kk
  · rw [show (if ((2 : Int) = 1 ∨ (2 : Int) = 2 ∨ (2 : Int) = 3) then (1 : Int) else 0) = 1 from by decide] at kk
    exact k_iY (C := "LoveParts$Schooled") (nm := "LoveParts$Plain") (b := 14) (ci := 7) hx hb hown hts hK hW w_130 (by decide) (by decide) rfl rfl hdg kk
  · rw [show (if ((3 : Int) = 1 ∨ (3 : Int) = 2 ∨ (3 : Int) = 3) then (1 : Int) else 0) = 1 from by decide] at kk
    exact k_iY (C := "LoveParts$Joint") (nm := "LoveParts$Plain") (b := 15) (ci := 2) hx hb hown hts hK hW w_130 (by decide) (by decide) rfl rfl hdg kk
  · rw [show (if ((4 : Int) = 1 ∨ (4 : Int) = 2 ∨ (4 : Int) = 3) then (1 : Int) else 0) = 0 from by decide] at kk
    exact k_iN (C := "LoveParts$Silent") (nm := "LoveParts$Plain") (b := 16) (ci := 8) hx hb hown hts hK hW w_130 (by decide) (by decide) rfl rfl hdg kk
  · rw [show (if ((5 : Int) = 1 ∨ (5 : Int) = 2 ∨ (5 : Int) = 3) then (1 : Int) else 0) = 0 from by decide] at kk
    exact k_iN (C := "LoveParts$Ironic") (nm := "LoveParts$Plain") (b := 17) (ci := 1) hx hb hown hts hK hW w_130 (by decide) (by decide) rfl rfl hdg kk
theorem ki_2 {p : Program} {l : Launch} {e : Env} {R : Room} {s : State} {m : MethodId} {args : Array Value} {below : List Frame} {meth : Method} {c : Code} {H : Heap} {locs : List Loc} {cells slots : Nat} {Q : State → Prop} {cc : ByteArray} {pc : Nat} {ls : Array Slot} {D : va_G} {cy : Nat → ClassId} {B : Nat} {σ : Sg} {rest : List Value} {z : Int} (hx : p.tables.exec = Jvm.exec) (hb : c.code = cc) (hown : s.vm.findClass "LoveParts" = some m.cls) (hts : ∀ w ∈ gw, w.before args s = true) (hK : KK D cy s) (hW : wd D cy B σ H) (hz : 1 ≤ z ∧ z ≤ 5) (hdg : decode cc pc = .ok (.instanceof 73, 3)) (kk : W p l e R s m args below meth c H locs cells slots Q (F0 m (pc + 3) ls (.int (iI (if (z = 2) then 1 else 0)) :: rest))) : W p l e R s m args below meth c H locs cells slots Q (F0 m pc ls (.ref (B + (12 + z.toNat)) :: rest)) := by
  have hk : z = 1 ∨ z = 2 ∨ z = 3 ∨ z = 4 ∨ z = 5 := by omega
  rcases hk with rfl | rfl | rfl | rfl | rfl
  · rw [show (if ((1 : Int) = 2) then (1 : Int) else 0) = 0 from by decide] at kk
    exact k_iN (C := "LoveParts$Plain") (nm := "LoveParts$Schooled") (b := 13) (ci := 3) hx hb hown hts hK hW w_140 (by decide) (by decide) rfl rfl hdg kk
  · rw [show (if ((2 : Int) = 2) then (1 : Int) else 0) = 1 from by decide] at kk
    exact k_iS (C := "LoveParts$Schooled") (b := 14) (ci := 7) hx hb hown hts hK hW w_140 (by decide) rfl rfl hdg kk
  · rw [show (if ((3 : Int) = 2) then (1 : Int) else 0) = 0 from by decide] at kk
    exact k_iN (C := "LoveParts$Joint") (nm := "LoveParts$Schooled") (b := 15) (ci := 2) hx hb hown hts hK hW w_140 (by decide) (by decide) rfl rfl hdg kk
  · rw [show (if ((4 : Int) = 2) then (1 : Int) else 0) = 0 from by decide] at kk
    exact k_iN (C := "LoveParts$Silent") (nm := "LoveParts$Schooled") (b := 16) (ci := 8) hx hb hown hts hK hW w_140 (by decide) (by decide) rfl rfl hdg kk
  · rw [show (if ((5 : Int) = 2) then (1 : Int) else 0) = 0 from by decide] at kk
    exact k_iN (C := "LoveParts$Ironic") (nm := "LoveParts$Schooled") (b := 17) (ci := 1) hx hb hown hts hK hW w_140 (by decide) (by decide) rfl rfl hdg kk
theorem ki_3 {p : Program} {l : Launch} {e : Env} {R : Room} {s : State} {m : MethodId} {args : Array Value} {below : List Frame} {meth : Method} {c : Code} {H : Heap} {locs : List Loc} {cells slots : Nat} {Q : State → Prop} {cc : ByteArray} {pc : Nat} {ls : Array Slot} {D : va_G} {cy : Nat → ClassId} {B : Nat} {σ : Sg} {rest : List Value} {z : Int} (hx : p.tables.exec = Jvm.exec) (hb : c.code = cc) (hown : s.vm.findClass "LoveParts" = some m.cls) (hts : ∀ w ∈ gw, w.before args s = true) (hK : KK D cy s) (hW : wd D cy B σ H) (hz : 1 ≤ z ∧ z ≤ 5) (hdg : decode cc pc = .ok (.instanceof 76, 3)) (kk : W p l e R s m args below meth c H locs cells slots Q (F0 m (pc + 3) ls (.int (iI (if (z = 3) then 1 else 0)) :: rest))) : W p l e R s m args below meth c H locs cells slots Q (F0 m pc ls (.ref (B + (12 + z.toNat)) :: rest)) := by
  have hk : z = 1 ∨ z = 2 ∨ z = 3 ∨ z = 4 ∨ z = 5 := by omega
  rcases hk with rfl | rfl | rfl | rfl | rfl
  · rw [show (if ((1 : Int) = 3) then (1 : Int) else 0) = 0 from by decide] at kk
    exact k_iN (C := "LoveParts$Plain") (nm := "LoveParts$Joint") (b := 13) (ci := 3) hx hb hown hts hK hW w_147 (by decide) (by decide) rfl rfl hdg kk
  · rw [show (if ((2 : Int) = 3) then (1 : Int) else 0) = 0 from by decide] at kk
    exact k_iN (C := "LoveParts$Schooled") (nm := "LoveParts$Joint") (b := 14) (ci := 7) hx hb hown hts hK hW w_147 (by decide) (by decide) rfl rfl hdg kk
  · rw [show (if ((3 : Int) = 3) then (1 : Int) else 0) = 1 from by decide] at kk
    exact k_iS (C := "LoveParts$Joint") (b := 15) (ci := 2) hx hb hown hts hK hW w_147 (by decide) rfl rfl hdg kk
  · rw [show (if ((4 : Int) = 3) then (1 : Int) else 0) = 0 from by decide] at kk
    exact k_iN (C := "LoveParts$Silent") (nm := "LoveParts$Joint") (b := 16) (ci := 8) hx hb hown hts hK hW w_147 (by decide) (by decide) rfl rfl hdg kk
  · rw [show (if ((5 : Int) = 3) then (1 : Int) else 0) = 0 from by decide] at kk
    exact k_iN (C := "LoveParts$Ironic") (nm := "LoveParts$Joint") (b := 17) (ci := 1) hx hb hown hts hK hW w_147 (by decide) (by decide) rfl rfl hdg kk
theorem ki_4 {p : Program} {l : Launch} {e : Env} {R : Room} {s : State} {m : MethodId} {args : Array Value} {below : List Frame} {meth : Method} {c : Code} {H : Heap} {locs : List Loc} {cells slots : Nat} {Q : State → Prop} {cc : ByteArray} {pc : Nat} {ls : Array Slot} {D : va_G} {cy : Nat → ClassId} {B : Nat} {σ : Sg} {rest : List Value} {z : Int} (hx : p.tables.exec = Jvm.exec) (hb : c.code = cc) (hown : s.vm.findClass "LoveParts" = some m.cls) (hts : ∀ w ∈ gw, w.before args s = true) (hK : KK D cy s) (hW : wd D cy B σ H) (hz : 1 ≤ z ∧ z ≤ 5) (hdg : decode cc pc = .ok (.instanceof 79, 3)) (kk : W p l e R s m args below meth c H locs cells slots Q (F0 m (pc + 3) ls (.int (iI (if (z = 4 ∨ z = 5) then 1 else 0)) :: rest))) : W p l e R s m args below meth c H locs cells slots Q (F0 m pc ls (.ref (B + (12 + z.toNat)) :: rest)) := by
  have hk : z = 1 ∨ z = 2 ∨ z = 3 ∨ z = 4 ∨ z = 5 := by omega
  rcases hk with rfl | rfl | rfl | rfl | rfl
  · rw [show (if ((1 : Int) = 4 ∨ (1 : Int) = 5) then (1 : Int) else 0) = 0 from by decide] at kk
    exact k_iN (C := "LoveParts$Plain") (nm := "LoveParts$Silent") (b := 13) (ci := 3) hx hb hown hts hK hW w_154 (by decide) (by decide) rfl rfl hdg kk
  · rw [show (if ((2 : Int) = 4 ∨ (2 : Int) = 5) then (1 : Int) else 0) = 0 from by decide] at kk
    exact k_iN (C := "LoveParts$Schooled") (nm := "LoveParts$Silent") (b := 14) (ci := 7) hx hb hown hts hK hW w_154 (by decide) (by decide) rfl rfl hdg kk
  · rw [show (if ((3 : Int) = 4 ∨ (3 : Int) = 5) then (1 : Int) else 0) = 0 from by decide] at kk
    exact k_iN (C := "LoveParts$Joint") (nm := "LoveParts$Silent") (b := 15) (ci := 2) hx hb hown hts hK hW w_154 (by decide) (by decide) rfl rfl hdg kk
  · rw [show (if ((4 : Int) = 4 ∨ (4 : Int) = 5) then (1 : Int) else 0) = 1 from by decide] at kk
    exact k_iS (C := "LoveParts$Silent") (b := 16) (ci := 8) hx hb hown hts hK hW w_154 (by decide) rfl rfl hdg kk
  · rw [show (if ((5 : Int) = 4 ∨ (5 : Int) = 5) then (1 : Int) else 0) = 1 from by decide] at kk
    exact k_iY (C := "LoveParts$Ironic") (nm := "LoveParts$Silent") (b := 17) (ci := 1) hx hb hown hts hK hW w_154 (by decide) (by decide) rfl rfl hdg kk
theorem ki_5 {p : Program} {l : Launch} {e : Env} {R : Room} {s : State} {m : MethodId} {args : Array Value} {below : List Frame} {meth : Method} {c : Code} {H : Heap} {locs : List Loc} {cells slots : Nat} {Q : State → Prop} {cc : ByteArray} {pc : Nat} {ls : Array Slot} {D : va_G} {cy : Nat → ClassId} {B : Nat} {σ : Sg} {rest : List Value} {z : Int} (hx : p.tables.exec = Jvm.exec) (hb : c.code = cc) (hown : s.vm.findClass "LoveParts" = some m.cls) (hts : ∀ w ∈ gw, w.before args s = true) (hK : KK D cy s) (hW : wd D cy B σ H) (hz : 1 ≤ z ∧ z ≤ 5) (hdg : decode cc pc = .ok (.instanceof 82, 3)) (kk : W p l e R s m args below meth c H locs cells slots Q (F0 m (pc + 3) ls (.int (iI (if (z = 5) then 1 else 0)) :: rest))) : W p l e R s m args below meth c H locs cells slots Q (F0 m pc ls (.ref (B + (12 + z.toNat)) :: rest)) := by
  have hk : z = 1 ∨ z = 2 ∨ z = 3 ∨ z = 4 ∨ z = 5 := by omega
  rcases hk with rfl | rfl | rfl | rfl | rfl
  · rw [show (if ((1 : Int) = 5) then (1 : Int) else 0) = 0 from by decide] at kk
    exact k_iN (C := "LoveParts$Plain") (nm := "LoveParts$Ironic") (b := 13) (ci := 3) hx hb hown hts hK hW w_161 (by decide) (by decide) rfl rfl hdg kk
  · rw [show (if ((2 : Int) = 5) then (1 : Int) else 0) = 0 from by decide] at kk
    exact k_iN (C := "LoveParts$Schooled") (nm := "LoveParts$Ironic") (b := 14) (ci := 7) hx hb hown hts hK hW w_161 (by decide) (by decide) rfl rfl hdg kk
  · rw [show (if ((3 : Int) = 5) then (1 : Int) else 0) = 0 from by decide] at kk
    exact k_iN (C := "LoveParts$Joint") (nm := "LoveParts$Ironic") (b := 15) (ci := 2) hx hb hown hts hK hW w_161 (by decide) (by decide) rfl rfl hdg kk
  · rw [show (if ((4 : Int) = 5) then (1 : Int) else 0) = 0 from by decide] at kk
    exact k_iN (C := "LoveParts$Silent") (nm := "LoveParts$Ironic") (b := 16) (ci := 8) hx hb hown hts hK hW w_161 (by decide) (by decide) rfl rfl hdg kk
  · rw [show (if ((5 : Int) = 5) then (1 : Int) else 0) = 1 from by decide] at kk
    exact k_iS (C := "LoveParts$Ironic") (b := 17) (ci := 1) hx hb hown hts hK hW w_161 (by decide) rfl rfl hdg kk
set_option maxHeartbeats 4000000 in
theorem k_num {p : Program} {l : Launch} {e : Env} {R : Room} {s : State} {m : MethodId} {args : Array Value} {below : List Frame} {meth : Method} {c : Code} {H H0 : Heap} {locs : List Loc} {cells slots : Nat} {Q : State → Prop} {cc : ByteArray} {pc nL fr lo : Nat} {ls : Array Slot} {D : va_G} {cy : Nat → ClassId} {B : Nat} {σ : Sg} {z : Int} (hx : p.tables.exec = Jvm.exec) (hb : c.code = cc) (hml : c.maxLocals = nL) (hown : s.vm.findClass "LoveParts" = some m.cls) (hts : ∀ w ∈ gw, w.before args s = true) (hK : KK D cy s) (hRf : fr ≤ R.frames) (hRl : lo ≤ R.locals) (hW : wd D cy B σ H) (hS : va_S (AB B) H0 H locs) (hz : 1 ≤ z ∧ z ≤ 5) (hfr : 1 ≤ fr ∧ 20 ≤ lo) (hsz : ls.size = nL) (hcs : cells ≤ R.cells ∧ slots ≤ R.slots) (hdg : decode cc pc = .ok (.invokevirtual 312, 3))
    (kk : ∀ (H1 : Heap) (locs1 : List Loc), wd D cy B σ H1 → va_S (AB B) H0 H1 locs1 → W p l e R s m args below meth c H1 locs1 cells slots Q (F0 m (pc + 3) ls [.int (iI z)])) : W p l e R s m args below meth c H locs cells slots Q (F0 m pc ls [.ref (B + (12 + z.toNat))]) := by
  have hk : z = 1 ∨ z = 2 ∨ z = 3 ∨ z = 4 ∨ z = 5 := by omega
  rcases hk with rfl | rfl | rfl | rfl | rfl
  · exact k_ai (x := ⟨"LoveParts$Nature", "number", "()I"⟩) (As := []) (rest := []) (b := 13) (ci := 3) (fs := []) hx hb hml hown hts hK hRf hRl hW hS (c_X4_number l D cy B σ) vX4_number ⟨w_723, w_722⟩ w_713 w_715 (by decide) ⟨by decide, by decide, (by decide +kernel : (parseMethodDescriptor "()I").map (fun d => d.parameters.length) = some 0)⟩ (by decide) rfl rfl ⟨by omega, by omega⟩ hsz rfl (Nat.le_of_ble_eq_true rfl) hcs hdg kk
  · exact k_ai (x := ⟨"LoveParts$Nature", "number", "()I"⟩) (As := []) (rest := []) (b := 14) (ci := 7) (fs := []) hx hb hml hown hts hK hRf hRl hW hS (c_X8_number l D cy B σ) vX8_number ⟨w_726, w_725⟩ w_713 w_715 (by decide) ⟨by decide, by decide, (by decide +kernel : (parseMethodDescriptor "()I").map (fun d => d.parameters.length) = some 0)⟩ (by decide) rfl rfl ⟨by omega, by omega⟩ hsz rfl (Nat.le_of_ble_eq_true rfl) hcs hdg kk
  · exact k_ai (x := ⟨"LoveParts$Nature", "number", "()I"⟩) (As := []) (rest := []) (b := 15) (ci := 2) (fs := []) hx hb hml hown hts hK hRf hRl hW hS (c_X2_number l D cy B σ) vX2_number ⟨w_720, w_719⟩ w_713 w_715 (by decide) ⟨by decide, by decide, (by decide +kernel : (parseMethodDescriptor "()I").map (fun d => d.parameters.length) = some 0)⟩ (by decide) rfl rfl ⟨by omega, by omega⟩ hsz rfl (Nat.le_of_ble_eq_true rfl) hcs hdg kk
  · exact k_ai (x := ⟨"LoveParts$Nature", "number", "()I"⟩) (As := []) (rest := []) (b := 16) (ci := 8) (fs := []) hx hb hml hown hts hK hRf hRl hW hS (c_X9_number l D cy B σ) vX9_number ⟨w_729, w_728⟩ w_713 w_715 (by decide) ⟨by decide, by decide, (by decide +kernel : (parseMethodDescriptor "()I").map (fun d => d.parameters.length) = some 0)⟩ (by decide) rfl rfl ⟨by omega, by omega⟩ hsz rfl (Nat.le_of_ble_eq_true rfl) hcs hdg kk
  · exact k_ai (x := ⟨"LoveParts$Nature", "number", "()I"⟩) (As := []) (rest := []) (b := 17) (ci := 1) (fs := []) hx hb hml hown hts hK hRf hRl hW hS (c_X1_number l D cy B σ) vX1_number ⟨w_717, w_716⟩ w_713 w_715 (by decide) ⟨by decide, by decide, (by decide +kernel : (parseMethodDescriptor "()I").map (fun d => d.parameters.length) = some 0)⟩ (by decide) rfl rfl ⟨by omega, by omega⟩ hsz rfl (Nat.le_of_ble_eq_true rfl) hcs hdg kk
