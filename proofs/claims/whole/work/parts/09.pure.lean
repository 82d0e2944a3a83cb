theorem sg_lt (x y : Int) : sg x y < 0 ↔ x < y := by unfold sg; repeat' split
                                                     all_goals omega
theorem sg_gt (x y : Int) : 0 < sg x y ↔ y < x := by unfold sg; repeat' split
                                                     all_goals omega
theorem sg_ge (x y : Int) : 0 ≤ sg x y ↔ y ≤ x := by unfold sg; repeat' split
                                                     all_goals omega
theorem sg_le (x y : Int) : sg x y ≤ 0 ↔ x ≤ y := by unfold sg; repeat' split
                                                     all_goals omega
theorem sg_eq (x y : Int) : sg x y = 0 ↔ x = y := by unfold sg; repeat' split
                                                     all_goals omega
theorem sg_bd (x y : Int) : -2147483648 ≤ sg x y ∧ sg x y < 2147483648 := by unfold sg; repeat' split
                                                                             all_goals omega
theorem k_ldc_w {p : Program} {l : Launch} {e : Env} {R : Room} {s : State} {m : MethodId} {args : Array Value} {below : List Frame} {meth : Method} {c : Code} {H : Heap} {locs : List Loc} {cells slots : Nat} {Q : State → Prop} {cc : ByteArray} {pc : Nat} {ls : Array Slot} {rest : List Value} {own : String} (hx : p.tables.exec = Jvm.exec) (hb : c.code = cc) (hown : s.vm.findClass own = some m.cls) (hts : ∀ w ∈ gw, w.before args s = true) {index : Nat} {v : Int} {w : Int32} (hw : w = iI v) (hl : Cond.constant own index w ∈ gw) (hdg : decode cc pc = .ok (.ldc_w index, 3))
    (kk : W p l e R s m args below meth c H locs cells slots Q (F0 m (pc + 3) ls (.int (iI v) :: rest))) : W p l e R s m args below meth c H locs cells slots Q (F0 m pc ls rest) := lv_ldcw hx hb hown (hts _ hl) hdg (by rw [hw]; exact kk)
/-! contracts whose data behind are only said to satisfy Φ -/
abbrev CIe (l : Launch) (y : MethodName) (cc : ByteArray) (nL : Nat) (ret : Option FieldType) (fr lo : Nat) (D : va_G) (cy : Nat → ClassId) (B : Nat) (av : List Value) (σ : Sg) (r : Int) (Φ : Sg → Prop) : Prop := Met l y (.code y cc nL ret :: gw) (rmm fr lo) (cPre D cy B av σ) (va_Qi (fun r' u => r' = iI r ∧ Φ u) (fun u t => wd D cy B u t.heap) (AB B)) 0 0 (AB B)
abbrev CVe (l : Launch) (y : MethodName) (cc : ByteArray) (nL : Nat) (fr lo : Nat) (D : va_G) (cy : Nat → ClassId) (B : Nat) (av : List Value) (σ : Sg) (Φ : Sg → Prop) : Prop := Met l y (.code y cc nL none :: gw) (rmm fr lo) (cPre D cy B av σ) (va_Qv (fun u => Φ u) (fun u t => wd D cy B u t.heap) (AB B)) 0 0 (AB B)
abbrev CLe (l : Launch) (y : MethodName) (cc : ByteArray) (nL : Nat) (fr lo : Nat) (D : va_G) (cy : Nat → ClassId) (B : Nat) (av : List Value) (σ : Sg) (r : Int) (Φ : Sg → Prop) : Prop := Met l y (.code y cc nL (some .long) :: gw) (rmm fr lo) (cPre D cy B av σ) (va_Ql (fun r' u => r' = lI r ∧ Φ u) (fun u t => wd D cy B u t.heap) (AB B)) 0 0 (AB B)
section CtrE
variable {l : Launch} {y : MethodName} {cc : ByteArray} {nL fr lo : Nat} {D : va_G} {cy : Nat → ClassId} {B : Nat} {av : List Value} {σ : Sg} {Φ : Sg → Prop} {r : Int}
theorem CIe_of {ty : FieldType} (hy : plainName y.cls = true) (hn : narrow ty (.int (iI r)) = .int (iI r)) (hlen : (lg_sl av).length ≤ nL)
    (body : ∀ (p : Program) (e : Env) (R : Room) (s : State) (m : MethodId) (args : Array Value) (below : List Frame) (meth : Method) (c : Code) (Q : State → Prop), p.tables.exec = Jvm.exec → c.code = cc → c.maxLocals = nL → s.vm.findClass y.cls = some m.cls → (∀ w ∈ gw, w.before args s = true) → KK D cy s → fr ≤ R.frames → lo ≤ R.locals → wd D cy B σ s.heap →
      (∀ (H : Heap) (locs : List Loc) (pc : Nat) (ls : Array Slot) (z : Int) (τ : Sg), decode cc pc = .ok (.ireturn, 1) → wd D cy B τ H → va_S (AB B) s.heap H locs → z = r ∧ Φ τ → W p l e R s m args below meth c H locs 0 0 Q (F0 m pc ls [.int (iI z)])) →
      ∀ ls, lv_has ls nL (lv_args 0 av) → W p l e R s m args below meth c s.heap [] 0 0 Q (F0 m 0 ls [])) : CIe l y cc nL (some ty) fr lo D cy B av σ r Φ := by
  refine Met.ofW (cc := cc) (maxL := nL) (ret := some ty) hy rfl ?_
  intro p e s m args below meth c s₁ Bd hml hv
  obtain ⟨rfl, hW, hK⟩ := hv
  have hts := atoms_spec (ws := .code y cc nL (some ty) :: gw) Bd.pre
  rw [lg_entry_eq]
  refine body p e _ s m _ below meth c _ Bd.exec Bd.bytes hml (findClass_of_methodNamed Bd.named) (fun w h => hts w (List.mem_cons_of_mem _ h)) hK (Nat.le_refl _) (Nat.le_refl _) hW ?_ _ (lv_entry av hlen)
  intro H locs pc ls z τ hdg hW' hS hz
  obtain ⟨rfl, hz⟩ := hz
  exact W.zret Bd.exec Bd.bytes Bd.returns hn (fun t ht hWm => ⟨⟨_, _, rfl, ⟨rfl, hz⟩, by show wd D cy B _ t.heap; rw [ht]; exact hW'⟩, hS.F ht⟩) hS.2.2 hdg Bd.notSynchronized
theorem CVe_of (hy : plainName y.cls = true) (hlen : (lg_sl av).length ≤ nL)
    (body : ∀ (p : Program) (e : Env) (R : Room) (s : State) (m : MethodId) (args : Array Value) (below : List Frame) (meth : Method) (c : Code) (Q : State → Prop), p.tables.exec = Jvm.exec → c.code = cc → c.maxLocals = nL → s.vm.findClass y.cls = some m.cls → (∀ w ∈ gw, w.before args s = true) → KK D cy s → fr ≤ R.frames → lo ≤ R.locals → wd D cy B σ s.heap →
      (∀ (H : Heap) (locs : List Loc) (pc : Nat) (ls : Array Slot) (τ : Sg), decode cc pc = .ok (.return_, 1) → wd D cy B τ H → va_S (AB B) s.heap H locs → Φ τ → W p l e R s m args below meth c H locs 0 0 Q (F0 m pc ls [])) →
      ∀ ls, lv_has ls nL (lv_args 0 av) → W p l e R s m args below meth c s.heap [] 0 0 Q (F0 m 0 ls [])) : CVe l y cc nL fr lo D cy B av σ Φ := by
  refine Met.ofW (cc := cc) (maxL := nL) (ret := none) hy rfl ?_
  intro p e s m args below meth c s₁ Bd hml hv
  obtain ⟨rfl, hW, hK⟩ := hv
  have hts := atoms_spec (ws := .code y cc nL none :: gw) Bd.pre
  rw [lg_entry_eq]
  refine body p e _ s m _ below meth c _ Bd.exec Bd.bytes hml (findClass_of_methodNamed Bd.named) (fun w h => hts w (List.mem_cons_of_mem _ h)) hK (Nat.le_refl _) (Nat.le_refl _) hW ?_ _ (lv_entry av hlen)
  intro H locs pc ls τ hdg hW' hS hz
  exact W.vret Bd.exec Bd.bytes Bd.returns (fun t ht hWm => ⟨⟨_, rfl, hz, by show wd D cy B _ t.heap; rw [ht]; exact hW'⟩, hS.F ht⟩) hS.2.2 hdg Bd.notSynchronized
theorem CLe_of (hy : plainName y.cls = true) (hlen : (lg_sl av).length ≤ nL)
    (body : ∀ (p : Program) (e : Env) (R : Room) (s : State) (m : MethodId) (args : Array Value) (below : List Frame) (meth : Method) (c : Code) (Q : State → Prop), p.tables.exec = Jvm.exec → c.code = cc → c.maxLocals = nL → s.vm.findClass y.cls = some m.cls → (∀ w ∈ gw, w.before args s = true) → KK D cy s → fr ≤ R.frames → lo ≤ R.locals → wd D cy B σ s.heap →
      (∀ (H : Heap) (locs : List Loc) (pc : Nat) (ls : Array Slot) (z : Int) (τ : Sg), decode cc pc = .ok (.lreturn, 1) → wd D cy B τ H → va_S (AB B) s.heap H locs → z = r ∧ Φ τ → W p l e R s m args below meth c H locs 0 0 Q (F0 m pc ls [.long (lI z)])) →
      ∀ ls, lv_has ls nL (lv_args 0 av) → W p l e R s m args below meth c s.heap [] 0 0 Q (F0 m 0 ls [])) : CLe l y cc nL fr lo D cy B av σ r Φ := by
  refine Met.ofW (cc := cc) (maxL := nL) (ret := some .long) hy rfl ?_
  intro p e s m args below meth c s₁ Bd hml hv
  obtain ⟨rfl, hW, hK⟩ := hv
  have hts := atoms_spec (ws := .code y cc nL (some .long) :: gw) Bd.pre
  rw [lg_entry_eq]
  refine body p e _ s m _ below meth c _ Bd.exec Bd.bytes hml (findClass_of_methodNamed Bd.named) (fun w h => hts w (List.mem_cons_of_mem _ h)) hK (Nat.le_refl _) (Nat.le_refl _) hW ?_ _ (lv_entry av hlen)
  intro H locs pc ls z τ hdg hW' hS hz
  obtain ⟨rfl, hz⟩ := hz
  exact W.lret Bd.exec Bd.bytes Bd.returns (fun t ht hWm => ⟨⟨_, _, rfl, ⟨rfl, hz⟩, by show wd D cy B _ t.heap; rw [ht]; exact hW'⟩, hS.F ht⟩) hS.2.2 hdg Bd.notSynchronized
end CtrE
section RwE
variable {p : Program} {l : Launch} {e : Env} {R : Room} {s : State} {m : MethodId} {args : Array Value} {below : List Frame} {meth : Method} {c : Code} {H H0 : Heap} {locs : List Loc} {cells slots : Nat} {Q : State → Prop}
variable {cc : ByteArray} {pc nL fr lo : Nat} {ls : Array Slot} {rest st : List Value} {D : va_G} {cy : Nat → ClassId} {B : Nat} {σ : Sg} {Φ : Sg → Prop} {own : String}
theorem k_vie (hx : p.tables.exec = Jvm.exec) (hb : c.code = cc) (hml : c.maxLocals = nL) (hown : s.vm.findClass own = some m.cls) (hts : ∀ w ∈ gw, w.before args s = true) (hK : KK D cy s) (hRf : fr ≤ R.frames) (hRl : lo ≤ R.locals) (hW : wd D cy B σ H) (hS : va_S (AB B) H0 H locs) {y' : MethodName} {cc' : ByteArray} {nL' : Nat} {ret' : Option FieldType} {fr' lo' index b ci : Nat} {As fs : List Value} {r : Int} {C : String} {T : u_T} {N : Nat} (hM : CIe l y' cc' nL' ret' fr' lo' D cy B (.ref (B + b) :: As) σ r Φ) (hV : VM y' cc' nL' ret' C As.length) (h2 : Cond.instanceMethod y' ∈ gw ∧ Cond.selects C y' y' ∈ gw) (hl : Cond.methodLink own index y' ∈ gw) (hbl : b < 217) (he : GW cy B σ b = .inr (ci, fs)) (hc : vwCl[ci]? = some (C, T, N)) (hfr : fr' + 1 ≤ fr ∧ 8 + (nL' + 11) + lo' ≤ lo) (hsz : ls.size = nL) (hst : st = As.reverse ++ .ref (B + b) :: rest) (hcat : (rest.map fun v => v.category).sum ≤ 8) (hcs : cells ≤ R.cells ∧ slots ≤ R.slots) (hdg : decode cc pc = .ok (.invokevirtual index, 3))
    (kk : ∀ (τ : Sg) (H1 : Heap) (locs1 : List Loc), Φ τ → wd D cy B τ H1 → va_S (AB B) H0 H1 locs1 → W p l e R s m args below meth c H1 locs1 cells slots Q (F0 m (pc + 3) ls (.int (iI r) :: rest))) : W p l e R s m args below meth c H locs cells slots Q (F0 m pc ls st) := by
  refine va_calli (va_runV (As := As) (rest := rest) ⟨hx, hb, hml, hown, hts⟩ hM ⟨cwB hts hV hl ⟨by omega, by omega⟩, hts _ h2.1, hts _ h2.2⟩ (cPre_atV hW hK hbl he hc) rfl rfl hsz hst (lv_room hcat) hdg hcs) hS (fun q _ h => h) (fun q h => h) (fun r' u t H1 locs1 ht hvm hw hB hz hk hS1 => ?_)
  obtain ⟨rfl, hw⟩ := hw
  exact kk u H1 locs1 hw (by rw [← ht]; exact hB) hS1
theorem k_vve (hx : p.tables.exec = Jvm.exec) (hb : c.code = cc) (hml : c.maxLocals = nL) (hown : s.vm.findClass own = some m.cls) (hts : ∀ w ∈ gw, w.before args s = true) (hK : KK D cy s) (hRf : fr ≤ R.frames) (hRl : lo ≤ R.locals) (hW : wd D cy B σ H) (hS : va_S (AB B) H0 H locs) {y' : MethodName} {cc' : ByteArray} {nL' : Nat} {fr' lo' index b ci : Nat} {As fs : List Value} {C : String} {T : u_T} {N : Nat} (hM : CVe l y' cc' nL' fr' lo' D cy B (.ref (B + b) :: As) σ Φ) (hV : VM y' cc' nL' none C As.length) (h2 : Cond.instanceMethod y' ∈ gw ∧ Cond.selects C y' y' ∈ gw) (hl : Cond.methodLink own index y' ∈ gw) (hbl : b < 217) (he : GW cy B σ b = .inr (ci, fs)) (hc : vwCl[ci]? = some (C, T, N)) (hfr : fr' + 1 ≤ fr ∧ 8 + (nL' + 11) + lo' ≤ lo) (hsz : ls.size = nL) (hst : st = As.reverse ++ .ref (B + b) :: rest) (hcat : (rest.map fun v => v.category).sum ≤ 8) (hcs : cells ≤ R.cells ∧ slots ≤ R.slots) (hdg : decode cc pc = .ok (.invokevirtual index, 3))
    (kk : ∀ (τ : Sg) (H1 : Heap) (locs1 : List Loc), Φ τ → wd D cy B τ H1 → va_S (AB B) H0 H1 locs1 → W p l e R s m args below meth c H1 locs1 cells slots Q (F0 m (pc + 3) ls rest)) : W p l e R s m args below meth c H locs cells slots Q (F0 m pc ls st) := by
  refine va_callv (va_runV (As := As) (rest := rest) ⟨hx, hb, hml, hown, hts⟩ hM ⟨cwB hts hV hl ⟨by omega, by omega⟩, hts _ h2.1, hts _ h2.2⟩ (cPre_atV hW hK hbl he hc) rfl rfl hsz hst (lv_room hcat) hdg hcs) hS (fun q _ h => h) (fun q h => h) (fun u t H1 locs1 ht hvm hw hB hz hk hS1 => ?_)
  exact kk u H1 locs1 hw (by rw [← ht]; exact hB) hS1
theorem k_vle (hx : p.tables.exec = Jvm.exec) (hb : c.code = cc) (hml : c.maxLocals = nL) (hown : s.vm.findClass own = some m.cls) (hts : ∀ w ∈ gw, w.before args s = true) (hK : KK D cy s) (hRf : fr ≤ R.frames) (hRl : lo ≤ R.locals) (hW : wd D cy B σ H) (hS : va_S (AB B) H0 H locs) {y' : MethodName} {cc' : ByteArray} {nL' : Nat} {fr' lo' index b ci : Nat} {As fs : List Value} {r : Int} {C : String} {T : u_T} {N : Nat} (hM : CLe l y' cc' nL' fr' lo' D cy B (.ref (B + b) :: As) σ r Φ) (hV : VM y' cc' nL' (some .long) C As.length) (h2 : Cond.instanceMethod y' ∈ gw ∧ Cond.selects C y' y' ∈ gw) (hl : Cond.methodLink own index y' ∈ gw) (hbl : b < 217) (he : GW cy B σ b = .inr (ci, fs)) (hc : vwCl[ci]? = some (C, T, N)) (hfr : fr' + 1 ≤ fr ∧ 8 + (nL' + 11) + lo' ≤ lo) (hsz : ls.size = nL) (hst : st = As.reverse ++ .ref (B + b) :: rest) (hcat : (rest.map fun v => v.category).sum ≤ 8) (hcs : cells ≤ R.cells ∧ slots ≤ R.slots) (hdg : decode cc pc = .ok (.invokevirtual index, 3))
    (kk : ∀ (τ : Sg) (H1 : Heap) (locs1 : List Loc), Φ τ → wd D cy B τ H1 → va_S (AB B) H0 H1 locs1 → W p l e R s m args below meth c H1 locs1 cells slots Q (F0 m (pc + 3) ls (.long (lI r) :: rest))) : W p l e R s m args below meth c H locs cells slots Q (F0 m pc ls st) := by
  refine va_calll (va_runV (As := As) (rest := rest) ⟨hx, hb, hml, hown, hts⟩ hM ⟨cwB hts hV hl ⟨by omega, by omega⟩, hts _ h2.1, hts _ h2.2⟩ (cPre_atV hW hK hbl he hc) rfl rfl hsz hst (lv_room hcat) hdg hcs) hS (fun q _ h => h) (fun q h => h) (fun r' u t H1 locs1 ht hvm hw hB hz hk hS1 => ?_)
  obtain ⟨rfl, hw⟩ := hw
  exact kk u H1 locs1 hw (by rw [← ht]; exact hB) hS1
end RwE
