section RwN
variable {p : Program} {l : Launch} {e : Env} {R : Room} {s : State} {m : MethodId} {args : Array Value} {below : List Frame} {meth : Method} {c : Code} {H H0 : Heap} {locs : List Loc} {cells slots : Nat} {Q : State → Prop}
variable {cc : ByteArray} {pc nL fr lo : Nat} {ls : Array Slot} {rest st : List Value} {D : va_G} {cy : Nat → ClassId} {B : Nat} {σ σ' : Sg} {own : String}
theorem gw_of {ws : List Cond} (h : ∀ w ∈ ws, w ∈ gw) : GoodIn gw ws := fun w hw => ⟨h w hw, good_of_word (gw_good (h w hw))⟩
/-- a method that the receiver's class has for an abstract one -/
theorem k_ai (hx : p.tables.exec = Jvm.exec) (hb : c.code = cc) (hml : c.maxLocals = nL) (hown : s.vm.findClass own = some m.cls) (hts : ∀ w ∈ gw, w.before args s = true) (hK : KK D cy s) (hRf : fr ≤ R.frames) (hRl : lo ≤ R.locals) (hW : wd D cy B σ H) (hS : va_S (AB B) H0 H locs) {x y' : MethodName} {cc' : ByteArray} {nL' : Nat} {ret' : Option FieldType} {fr' lo' index b ci : Nat} {As fs : List Value} {r : Int} {C : String} {T : u_T} {N : Nat} (hM : CI l y' cc' nL' ret' fr' lo' D cy B (.ref (B + b) :: As) σ r σ') (hV : VM y' cc' nL' ret' C As.length) (h2 : Cond.instanceMethod y' ∈ gw ∧ Cond.selects C x y' ∈ gw) (hl : Cond.methodLink own index x ∈ gw) (hsm : Cond.sameMethod x.cls x.cls x.name x.desc ∈ gw) (hz : x ∈ declL) (hxd : x.cls ≠ "java/lang/invoke/MethodHandle" ∧ x.cls ≠ "java/lang/invoke/VarHandle" ∧ (parseMethodDescriptor x.desc).map (fun d => d.parameters.length) = some As.length) (hbl : b < 217) (he : GW cy B σ b = .inr (ci, fs)) (hc : vwCl[ci]? = some (C, T, N)) (hfr : fr' + 1 ≤ fr ∧ 8 + (nL' + 11) + lo' ≤ lo) (hsz : ls.size = nL) (hst : st = As.reverse ++ .ref (B + b) :: rest) (hcat : (rest.map fun v => v.category).sum ≤ 8) (hcs : cells ≤ R.cells ∧ slots ≤ R.slots) (hdg : decode cc pc = .ok (.invokevirtual index, 3))
    (kk : ∀ (H1 : Heap) (locs1 : List Loc), wd D cy B σ' H1 → va_S (AB B) H0 H1 locs1 → W p l e R s m args below meth c H1 locs1 cells slots Q (F0 m (pc + 3) ls (.int (iI r) :: rest))) : W p l e R s m args below meth c H locs cells slots Q (F0 m pc ls st) := by
  obtain ⟨h1, h4, h3, h6, h5⟩ := hV
  have hG : GoodIn gw (va_wsU own index C x.cls x y' (.code y' cc' nL' ret' :: gw)) := gw_of (fun w hw => by
    unfold va_wsU at hw
    rcases List.mem_append.mp hw with h | h
    · simp only [List.mem_cons, List.not_mem_nil, or_false] at h
      rcases h with rfl | rfl | rfl | rfl | rfl
      · exact hl
      · exact hsm
      · exact h2.2
      · exact h2.1
      · rw [h1]; exact h6
    · rcases List.mem_cons.mp h with rfl | h
      · exact h5
      · exact h)
  refine va_calli (va_runU (As := As) (rest := rest) ⟨hx, hb, hml, hown, hts⟩ hM (va_cwA As.length hts hG rfl rfl rfl (hK.2.2.2.2.1 x hz) hxd ⟨by show fr' + 1 ≤ _; omega, by show 8 + (nL' + 11) + lo' ≤ _; omega⟩) (cPre_atV hW hK hbl he hc) rfl rfl hsz hst (lv_room hcat) hdg hcs) hS (fun q _ h => h) (fun q h => h) (fun r' u t H1 locs1 ht hvm hw hB hz hk hS1 => ?_)
  obtain ⟨rfl, rfl⟩ := hw
  exact kk H1 locs1 (by rw [← ht]; exact hB) hS1
/-- a method that overrides another one -/
theorem k_oi (hx : p.tables.exec = Jvm.exec) (hb : c.code = cc) (hml : c.maxLocals = nL) (hown : s.vm.findClass own = some m.cls) (hts : ∀ w ∈ gw, w.before args s = true) (hK : KK D cy s) (hRf : fr ≤ R.frames) (hRl : lo ≤ R.locals) (hW : wd D cy B σ H) (hS : va_S (AB B) H0 H locs) {x y' : MethodName} {cc' b0 : ByteArray} {nL' m0 : Nat} {ret' r0 : Option FieldType} {fr' lo' index b ci : Nat} {As fs : List Value} {r : Int} {C Cy : String} {T : u_T} {N : Nat} (hM : CI l y' cc' nL' ret' fr' lo' D cy B (.ref (B + b) :: As) σ r σ') (hV : VM y' cc' nL' ret' Cy As.length) (h2 : Cond.instanceMethod y' ∈ gw ∧ Cond.selects C x y' ∈ gw ∧ Cond.instanceMethod x ∈ gw ∧ Cond.code x b0 m0 r0 ∈ gw) (hl : Cond.methodLink own index x ∈ gw) (hsm : Cond.sameMethod x.cls x.cls x.name x.desc ∈ gw) (hxd : x.cls ≠ "java/lang/invoke/MethodHandle" ∧ x.cls ≠ "java/lang/invoke/VarHandle" ∧ (parseMethodDescriptor x.desc).map (fun d => d.parameters.length) = some As.length) (hbl : b < 217) (he : GW cy B σ b = .inr (ci, fs)) (hc : vwCl[ci]? = some (C, T, N)) (hfr : fr' + 1 ≤ fr ∧ 8 + (nL' + 11) + lo' ≤ lo) (hsz : ls.size = nL) (hst : st = As.reverse ++ .ref (B + b) :: rest) (hcat : (rest.map fun v => v.category).sum ≤ 8) (hcs : cells ≤ R.cells ∧ slots ≤ R.slots) (hdg : decode cc pc = .ok (.invokevirtual index, 3))
    (kk : ∀ (H1 : Heap) (locs1 : List Loc), wd D cy B σ' H1 → va_S (AB B) H0 H1 locs1 → W p l e R s m args below meth c H1 locs1 cells slots Q (F0 m (pc + 3) ls (.int (iI r) :: rest))) : W p l e R s m args below meth c H locs cells slots Q (F0 m pc ls st) := by
  obtain ⟨h1, h4, h3, h6, h5⟩ := hV
  have hG : GoodIn gw (va_wsO own index C x.cls x y' (.code y' cc' nL' ret' :: gw)) := gw_of (fun w hw => by
    unfold va_wsO at hw
    rcases List.mem_append.mp hw with h | h
    · simp only [List.mem_cons, List.not_mem_nil, or_false] at h
      rcases h with rfl | rfl | rfl | rfl | rfl | rfl
      · exact hl
      · exact hsm
      · exact h2.2.2.1
      · exact h2.2.1
      · exact h2.1
      · rw [h1]; exact h6
    · rcases List.mem_cons.mp h with rfl | h
      · exact h5
      · exact h)
  refine va_calli (va_runU (As := As) (rest := rest) ⟨hx, hb, hml, hown, hts⟩ hM (va_cwO As.length hts hG rfl rfl rfl h2.2.2.2 hxd ⟨by show fr' + 1 ≤ _; omega, by show 8 + (nL' + 11) + lo' ≤ _; omega⟩) (cPre_atV hW hK hbl he hc) rfl rfl hsz hst (lv_room hcat) hdg hcs) hS (fun q _ h => h) (fun q h => h) (fun r' u t H1 locs1 ht hvm hw hB hz hk hS1 => ?_)
  obtain ⟨rfl, rfl⟩ := hw
  exact kk H1 locs1 (by rw [← ht]; exact hB) hS1
end RwN
