/-! what the tables say beside the words that are handed on -/
def castL : List (String × String) := [("LoveParts$Joint", "LoveParts$Plain"), ("LoveParts$Schooled", "LoveParts$Plain"), ("LoveParts$Ironic", "LoveParts$Silent")]
def ncL : List (String × String) := [("LoveParts$Plain", "LoveParts$Schooled"), ("LoveParts$Plain", "LoveParts$Joint"), ("LoveParts$Plain", "LoveParts$Silent"), ("LoveParts$Plain", "LoveParts$Ironic"), ("LoveParts$Schooled", "LoveParts$Joint"), ("LoveParts$Schooled", "LoveParts$Silent"), ("LoveParts$Schooled", "LoveParts$Ironic"), ("LoveParts$Joint", "LoveParts$Schooled"), ("LoveParts$Joint", "LoveParts$Silent"), ("LoveParts$Joint", "LoveParts$Ironic"), ("LoveParts$Silent", "LoveParts$Plain"), ("LoveParts$Silent", "LoveParts$Schooled"), ("LoveParts$Silent", "LoveParts$Joint"), ("LoveParts$Silent", "LoveParts$Ironic"), ("LoveParts$Ironic", "LoveParts$Plain"), ("LoveParts$Ironic", "LoveParts$Schooled"), ("LoveParts$Ironic", "LoveParts$Joint")]
def nestL : List (String × Nat × MethodName × String) := [("LoveParts", 17, ⟨"LoveParts$Reader", "<init>", "()V"⟩, "LoveParts"), ("LoveParts", 30, ⟨"LoveParts$Trace", "<init>", "()V"⟩, "LoveParts"), ("LoveParts", 72, ⟨"LoveParts$Plain", "<init>", "()V"⟩, "LoveParts"), ("LoveParts$Plain", 1, ⟨"LoveParts$Nature", "<init>", "()V"⟩, "LoveParts"), ("LoveParts", 75, ⟨"LoveParts$Schooled", "<init>", "()V"⟩, "LoveParts"), ("LoveParts$Schooled", 1, ⟨"LoveParts$Plain", "<init>", "()V"⟩, "LoveParts"), ("LoveParts", 78, ⟨"LoveParts$Joint", "<init>", "()V"⟩, "LoveParts"), ("LoveParts$Joint", 3, ⟨"LoveParts$Plain", "<init>", "()V"⟩, "LoveParts"), ("LoveParts", 81, ⟨"LoveParts$Silent", "<init>", "()V"⟩, "LoveParts"), ("LoveParts$Silent", 1, ⟨"LoveParts$Nature", "<init>", "()V"⟩, "LoveParts"), ("LoveParts", 84, ⟨"LoveParts$Ironic", "<init>", "()V"⟩, "LoveParts"), ("LoveParts$Ironic", 1, ⟨"LoveParts$Silent", "<init>", "()V"⟩, "LoveParts"), ("LoveParts", 95, ⟨"LoveParts$Row", "<init>", "()V"⟩, "LoveParts"), ("LoveParts$Reader", 93, ⟨"LoveParts", "within", "(III)Z"⟩, "LoveParts"), ("LoveParts$Realm", 89, ⟨"LoveParts", "firstGreatest", "([II)I"⟩, "LoveParts")]
def declL : List MethodName := [⟨"LoveParts$Nature", "own", "(LLoveParts$Heir;I)I"⟩, ⟨"LoveParts$Nature", "number", "()I"⟩]
def aoL : List String := ["LoveParts$Row", "LoveParts$Nature", "LoveParts$Realm", "LoveParts$Heir"]
def wE (U : State) : Prop := (∀ q ∈ castL, va_Nw (.castable q.1 q.2) U) ∧ (∀ q ∈ ncL, va_Nc q.1 q.2 U) ∧ (∀ q ∈ nestL, va_Nw (.methodLinkNest q.1 q.2.1 q.2.2.1 q.2.2.2) U) ∧ (∀ q ∈ declL, va_Nw (.declares q) U) ∧ (∀ q ∈ aoL, va_AO q U)
theorem wE.warm {s U : State} (hW : s.WarmedH U.vm) (h : wE s) : wE U := ⟨fun q hq => va_Nw.warmC hW (h.1 q hq), fun q hq => va_Nc.moved hW.alike (h.2.1 q hq), fun q hq => va_Nw.warmM hW (h.2.2.1 q hq), fun q hq => va_Nw.warmD hW (h.2.2.2.1 q hq), fun q hq => va_AO.moved hW.alike (h.2.2.2.2 q hq)⟩
theorem wE.same {u U : State} (e : u.vm = U.vm) (h : wE u) : wE U := ⟨fun q hq => va_Nw.same rfl e (h.1 q hq), fun q hq => by have h2 := h.2.1 q hq; unfold va_Nc at h2 ⊢; rw [← e]; exact h2, fun q hq => va_Nw.same rfl e (h.2.2.1 q hq), fun q hq => va_Nw.same rfl e (h.2.2.2.1 q hq), fun q hq => va_AO.moved (by rw [e]; exact Vm.Alike.refl _) (h.2.2.2.2 q hq)⟩
def KK (D : va_G) (cy : Nat → ClassId) (U : State) : Prop := va_K D vwCl (tys cy) U ∧ wE U
theorem KK.warm {D : va_G} {cy : Nat → ClassId} {s U : State} (hW : s.WarmedH U.vm) (h : KK D cy s) : KK D cy U := ⟨va_K.moved hW.alike h.1, h.2.warm hW⟩
def cPre (D : va_G) (cy : Nat → ClassId) (B : Nat) (av : List Value) (σ : Sg) : Array Value → State → Prop := va_Pc av (fun U => wd D cy B σ U.heap ∧ KK D cy U)
theorem cPre_blind {D : va_G} {cy : Nat → ClassId} {B : Nat} {av : List Value} {σ : Sg} : FrameBlind (cPre D cy B av σ) := fun a U g mk q => ⟨q.1, q.2.1, va_K.moved (u := U) (U := U.calling g mk a) (Vm.Alike.refl U.vm) q.2.2.1, wE.same rfl q.2.2.2⟩
abbrev rmm (fr lo : Nat) : Room := { frames := fr, cells := 0, slots := 0, locals := lo }
/-- contracts: an int, nothing, a long comes back; the data behind are σ' -/
abbrev CI (l : Launch) (y : MethodName) (cc : ByteArray) (nL : Nat) (ret : Option FieldType) (fr lo : Nat) (D : va_G) (cy : Nat → ClassId) (B : Nat) (av : List Value) (σ : Sg) (r : Int) (σ' : Sg) : Prop := Met l y (.code y cc nL ret :: gw) (rmm fr lo) (cPre D cy B av σ) (va_Qi (fun r' u => r' = iI r ∧ u = σ') (fun u t => wd D cy B u t.heap) (AB B)) 0 0 (AB B)
abbrev CV (l : Launch) (y : MethodName) (cc : ByteArray) (nL : Nat) (fr lo : Nat) (D : va_G) (cy : Nat → ClassId) (B : Nat) (av : List Value) (σ : Sg) (σ' : Sg) : Prop := Met l y (.code y cc nL none :: gw) (rmm fr lo) (cPre D cy B av σ) (va_Qv (fun u => u = σ') (fun u t => wd D cy B u t.heap) (AB B)) 0 0 (AB B)
abbrev CL (l : Launch) (y : MethodName) (cc : ByteArray) (nL : Nat) (fr lo : Nat) (D : va_G) (cy : Nat → ClassId) (B : Nat) (av : List Value) (σ : Sg) (r : Int) (σ' : Sg) : Prop := Met l y (.code y cc nL (some .long) :: gw) (rmm fr lo) (cPre D cy B av σ) (va_Ql (fun r' u => r' = lI r ∧ u = σ') (fun u t => wd D cy B u t.heap) (AB B)) 0 0 (AB B)
section Ctr
variable {l : Launch} {y : MethodName} {cc : ByteArray} {nL fr lo : Nat} {D : va_G} {cy : Nat → ClassId} {B : Nat} {av : List Value} {σ σ' : Sg} {r : Int}
theorem CI_of {ty : FieldType} (hy : plainName y.cls = true) (hn : narrow ty (.int (iI r)) = .int (iI r)) (hlen : (lg_sl av).length ≤ nL)
    (body : ∀ (p : Program) (e : Env) (R : Room) (s : State) (m : MethodId) (args : Array Value) (below : List Frame) (meth : Method) (c : Code) (Q : State → Prop), p.tables.exec = Jvm.exec → c.code = cc → c.maxLocals = nL → s.vm.findClass y.cls = some m.cls → (∀ w ∈ gw, w.before args s = true) → KK D cy s → fr ≤ R.frames → lo ≤ R.locals → wd D cy B σ s.heap →
      (∀ (H : Heap) (locs : List Loc) (pc : Nat) (ls : Array Slot) (z : Int) (τ : Sg), decode cc pc = .ok (.ireturn, 1) → wd D cy B τ H → va_S (AB B) s.heap H locs → z = r ∧ τ = σ' → W p l e R s m args below meth c H locs 0 0 Q (F0 m pc ls [.int (iI z)])) →
      ∀ ls, lv_has ls nL (lv_args 0 av) → W p l e R s m args below meth c s.heap [] 0 0 Q (F0 m 0 ls [])) : CI l y cc nL (some ty) fr lo D cy B av σ r σ' := by
  refine Met.ofW (cc := cc) (maxL := nL) (ret := some ty) hy rfl ?_
  intro p e s m args below meth c s₁ Bd hml hv
  obtain ⟨rfl, hW, hK⟩ := hv
  have hts := atoms_spec (ws := .code y cc nL (some ty) :: gw) Bd.pre
  rw [lg_entry_eq]
  refine body p e _ s m _ below meth c _ Bd.exec Bd.bytes hml (findClass_of_methodNamed Bd.named) (fun w h => hts w (List.mem_cons_of_mem _ h)) hK (Nat.le_refl _) (Nat.le_refl _) hW ?_ _ (lv_entry av hlen)
  intro H locs pc ls z τ hdg hW' hS hz
  obtain ⟨rfl, rfl⟩ := hz
  exact W.zret Bd.exec Bd.bytes Bd.returns hn (fun t ht hWm => ⟨⟨_, _, rfl, ⟨rfl, rfl⟩, by show wd D cy B _ t.heap; rw [ht]; exact hW'⟩, hS.F ht⟩) hS.2.2 hdg Bd.notSynchronized
theorem CV_of (hy : plainName y.cls = true) (hlen : (lg_sl av).length ≤ nL)
    (body : ∀ (p : Program) (e : Env) (R : Room) (s : State) (m : MethodId) (args : Array Value) (below : List Frame) (meth : Method) (c : Code) (Q : State → Prop), p.tables.exec = Jvm.exec → c.code = cc → c.maxLocals = nL → s.vm.findClass y.cls = some m.cls → (∀ w ∈ gw, w.before args s = true) → KK D cy s → fr ≤ R.frames → lo ≤ R.locals → wd D cy B σ s.heap →
      (∀ (H : Heap) (locs : List Loc) (pc : Nat) (ls : Array Slot) (τ : Sg), decode cc pc = .ok (.return_, 1) → wd D cy B τ H → va_S (AB B) s.heap H locs → τ = σ' → W p l e R s m args below meth c H locs 0 0 Q (F0 m pc ls [])) →
      ∀ ls, lv_has ls nL (lv_args 0 av) → W p l e R s m args below meth c s.heap [] 0 0 Q (F0 m 0 ls [])) : CV l y cc nL fr lo D cy B av σ σ' := by
  refine Met.ofW (cc := cc) (maxL := nL) (ret := none) hy rfl ?_
  intro p e s m args below meth c s₁ Bd hml hv
  obtain ⟨rfl, hW, hK⟩ := hv
  have hts := atoms_spec (ws := .code y cc nL none :: gw) Bd.pre
  rw [lg_entry_eq]
  refine body p e _ s m _ below meth c _ Bd.exec Bd.bytes hml (findClass_of_methodNamed Bd.named) (fun w h => hts w (List.mem_cons_of_mem _ h)) hK (Nat.le_refl _) (Nat.le_refl _) hW ?_ _ (lv_entry av hlen)
  intro H locs pc ls τ hdg hW' hS hz
  subst hz
  exact W.vret Bd.exec Bd.bytes Bd.returns (fun t ht hWm => ⟨⟨_, rfl, rfl, by show wd D cy B _ t.heap; rw [ht]; exact hW'⟩, hS.F ht⟩) hS.2.2 hdg Bd.notSynchronized
theorem CL_of (hy : plainName y.cls = true) (hlen : (lg_sl av).length ≤ nL)
    (body : ∀ (p : Program) (e : Env) (R : Room) (s : State) (m : MethodId) (args : Array Value) (below : List Frame) (meth : Method) (c : Code) (Q : State → Prop), p.tables.exec = Jvm.exec → c.code = cc → c.maxLocals = nL → s.vm.findClass y.cls = some m.cls → (∀ w ∈ gw, w.before args s = true) → KK D cy s → fr ≤ R.frames → lo ≤ R.locals → wd D cy B σ s.heap →
      (∀ (H : Heap) (locs : List Loc) (pc : Nat) (ls : Array Slot) (z : Int) (τ : Sg), decode cc pc = .ok (.lreturn, 1) → wd D cy B τ H → va_S (AB B) s.heap H locs → z = r ∧ τ = σ' → W p l e R s m args below meth c H locs 0 0 Q (F0 m pc ls [.long (lI z)])) →
      ∀ ls, lv_has ls nL (lv_args 0 av) → W p l e R s m args below meth c s.heap [] 0 0 Q (F0 m 0 ls [])) : CL l y cc nL fr lo D cy B av σ r σ' := by
  refine Met.ofW (cc := cc) (maxL := nL) (ret := some .long) hy rfl ?_
  intro p e s m args below meth c s₁ Bd hml hv
  obtain ⟨rfl, hW, hK⟩ := hv
  have hts := atoms_spec (ws := .code y cc nL (some .long) :: gw) Bd.pre
  rw [lg_entry_eq]
  refine body p e _ s m _ below meth c _ Bd.exec Bd.bytes hml (findClass_of_methodNamed Bd.named) (fun w h => hts w (List.mem_cons_of_mem _ h)) hK (Nat.le_refl _) (Nat.le_refl _) hW ?_ _ (lv_entry av hlen)
  intro H locs pc ls z τ hdg hW' hS hz
  obtain ⟨rfl, rfl⟩ := hz
  exact W.lret Bd.exec Bd.bytes Bd.returns (fun t ht hWm => ⟨⟨_, _, rfl, ⟨rfl, rfl⟩, by show wd D cy B _ t.heap; rw [ht]; exact hW'⟩, hS.F ht⟩) hS.2.2 hdg Bd.notSynchronized
end Ctr
theorem nb_ite {P : Prop} {dP : Decidable P} : narrow .boolean (.int (iI (if P then 1 else 0))) = .int (iI (if P then 1 else 0)) := by by_cases h : P <;> simp only [h, if_true, if_false] <;> rfl
/-- what is the same at every call of a method -/
def VM (y : MethodName) (cc : ByteArray) (nL : Nat) (ret : Option FieldType) (C : String) (n : Nat) : Prop := y.cls = C ∧ (y.cls ≠ "java/lang/invoke/MethodHandle" ∧ y.cls ≠ "java/lang/invoke/VarHandle") ∧ (parseMethodDescriptor y.desc).map (fun d => d.parameters.length) = some n ∧ Cond.initialized C ∈ gw ∧ Cond.code y cc nL ret ∈ gw
section Rw
variable {p : Program} {l : Launch} {e : Env} {R : Room} {s : State} {m : MethodId} {args : Array Value} {below : List Frame} {meth : Method} {c : Code} {H H0 : Heap} {locs : List Loc} {cells slots : Nat} {Q : State → Prop}
variable {cc : ByteArray} {pc nL fr lo : Nat} {ls : Array Slot} {rest st : List Value} {D : va_G} {cy : Nat → ClassId} {B : Nat} {σ σ' : Sg} {own : String}
/-- getfield -/
theorem wz_get (hx : p.tables.exec = Jvm.exec) (hb : c.code = cc) (hts : ∀ w ∈ gw, w.before args s = true) (hown : s.vm.findClass own = some m.cls) (hK : KK D cy s) (hW : wd D cy B σ H) {C : String} {T : u_T} {N ci index : Nat} (b k : Nat) {fs : List Value} {v : Value} (hbl : b < 217) (he : GW cy B σ b = .inr (ci, fs)) (hc : vwCl[ci]? = some (C, T, N)) (hk : k < N) (hin : ∀ w ∈ u_ws C T N, w ∈ gw) (hlink : Cond.fieldLink own index C (T k).2.1 (T k).2.2.1 ∈ gw) (hT : (T k).1 = C) (hv : fs[k]? = some v) (hdg : decode cc pc = .ok (.getfield index, 3))
    (kk : W p l e R s m args below meth c H locs cells slots Q (F0 m (pc + 3) ls (v :: rest))) : W p l e R s m args below meth c H locs cells slots Q (F0 m pc ls (.ref (B + b) :: rest)) :=
  va_get (D := D) (cl := vwCl) hx hb hts hin hown hK.1 hW.1 b (by rw [wl_get hbl, he]) hc k hk (hts _ hlink) (by rw [hT]; exact fun _ h => h) hv hdg kk
/-- putfield -/
theorem wz_put (hx : p.tables.exec = Jvm.exec) (hb : c.code = cc) (hts : ∀ w ∈ gw, w.before args s = true) (hown : s.vm.findClass own = some m.cls) (hK : KK D cy s) (hW : wd D cy B σ H) (hS : va_S (AB B) H0 H locs) {C : String} {T : u_T} {N ci index : Nat} (b k : Nat) {fs : List Value} {v : Value} {ty : FieldType} (ty0 : Nat → FieldType) (hbl : b < 217) (he : GW cy B σ b = .inr (ci, fs)) (hc : vwCl[ci]? = some (C, T, N)) (hk : k < N) (hin : ∀ w ∈ u_ws C T N, w ∈ gw) (hty : ∀ k, k < N → parseFieldDescriptor (T k).2.2.1 = some (ty0 k)) (hnm : ∀ a, a < N → ∀ b, b < N → a ≠ b → (T a).2.1 ≠ (T b).2.1) (hlink : Cond.fieldLink own index C (T k).2.1 (T k).2.2.1 ∈ gw) (hT : (T k).1 = C ∧ (T k).2.2.2 = false ∧ k < fs.length) (hd : parseFieldDescriptor (T k).2.2.1 = some ty) (hn : narrow ty v = v ∧ fits ty v = true) (hG : ∀ d, d < 217 → GW cy B σ' d = if d = b then .inr (ci, fs.set k v) else GW cy B σ d) (hdg : decode cc pc = .ok (.putfield index, 3))
    (kk : ∀ (H1 : Heap) (locs1 : List Loc), wd D cy B σ' H1 → va_S (AB B) H0 H1 locs1 → W p l e R s m args below meth c H1 locs1 cells slots Q (F0 m (pc + 3) ls rest)) : W p l e R s m args below meth c H locs cells slots Q (F0 m pc ls (v :: .ref (B + b) :: rest)) := by
  have hap := va_apart (own := own) hts hin ty0 hty hnm hK.1 hc
  obtain ⟨r, h1, cell, q1, q2, q3, q4⟩ := hW.1 b _ (by rw [wl_get hbl, he])
  have hr : r = (C, T, N) := Option.some.inj (h1.symm.trans hc)
  subst hr
  obtain ⟨hSl, hfc, kC, hkC, hkind⟩ := hK.1.1 ci _ hc
  obtain ⟨cf, kf, fi, f, hi, hsl⟩ := hSl k hk
  have hlay := hts _ (hin _ (u_in_lay hk))
  unfold u_lay at hlay
  rw [if_neg (by rw [hT.2.1]; decide)] at hlay
  have hst := (u_facts hfc hkC (u_lays hts hin hk) hi).1
  have h6 := u_store hfc hkC hkind hlay hi hd hn.1 hn.2
  have hi' : s.fieldFound? C (T k).2.1 (T k).2.2.1 = some (cf, kf, fi, f) := by rw [← hT.1]; exact hi
  refine W.putK hx hb (f := f) ⟨hown, hts _ hlink, ⟨_, _, _, hi'⟩, hst⟩ (by rw [q2]; exact h6) q1 q3 (by rw [hsl]; exact k2_hasslot (q4 k hk)) rfl rfl hdg fun H' e1 e2 e3 => ?_
  rw [hsl] at e1 ⊢
  have hP : va_P D vwCl ((wl B 217 (GW cy B σ)).set b (B + b, .inr (ci, fs.set k v))) H' := hW.1.set (wl_D B 217 (GW cy B σ)) (by rw [wl_get hbl, he]) ⟨_, hc, t_OB.to (V := updV (vp_V fs) k v) ⟨_, e1, q2, q3, t_set q4 hap hk v⟩ (fun j _ => vp_updV_set hT.2.2 v j)⟩ e3
  exact kk H' _ ⟨by rw [← wl_set hbl hG]; exact hP, by rw [e2]; exact hW.2⟩ (hS.put e2 e3 (Nat.le_add_right B b))
/-- iaload -/
theorem wz_ald (hx : p.tables.exec = Jvm.exec) (hb : c.code = cc) (hK : KK D cy s) (hW : wd D cy B σ H) (b j : Nat) {i : Int} {n : Nat} {f : Nat → Int} (hbl : b < 217) (he : GW cy B σ b = ivA (cy 0) n f) (hi : i = (j : Int)) (hj : j < n) (hn : n < 2147483648) (hdg : decode cc pc = .ok (.iaload, 1))
    (kk : W p l e R s m args below meth c H locs cells slots Q (F0 m (pc + 1) ls (.int (iI (f j)) :: rest))) : W p l e R s m args below meth c H locs cells slots Q (F0 m pc ls (.int (iI i) :: .ref (B + b) :: rest)) := by
  subst hi
  refine va_iald (D := D) (cl := vwCl) hx hb hK.1 hW.1 b 0 (by rw [wl_get hbl, he]) rfl (iI_in hj hn) hdg ?_
  rw [iI_clamp (by omega)]
  exact kk
/-- iastore -/
theorem wz_ast (hx : p.tables.exec = Jvm.exec) (hb : c.code = cc) (hK : KK D cy s) (hW : wd D cy B σ H) (hS : va_S (AB B) H0 H locs) (b j : Nat) {i z : Int} {n : Nat} {f : Nat → Int} (hbl : b < 217) (he : GW cy B σ b = ivA (cy 0) n f) (hi : i = (j : Int)) (hj : j < n) (hn : n < 2147483648) (hG : ∀ d, d < 217 → GW cy B σ' d = if d = b then ivA (cy 0) n (uf f j z) else GW cy B σ d) (hdg : decode cc pc = .ok (.iastore, 1))
    (kk : ∀ (H1 : Heap) (locs1 : List Loc), wd D cy B σ' H1 → va_S (AB B) H0 H1 locs1 → W p l e R s m args below meth c H1 locs1 cells slots Q (F0 m (pc + 1) ls rest)) : W p l e R s m args below meth c H locs cells slots Q (F0 m pc ls (.int (iI z) :: .int (iI i) :: .ref (B + b) :: rest)) := by
  subst hi
  have hP := hW.1 b _ (by rw [wl_get hbl, he])
  refine W.iast hx hb hP ((hK.1.2 0 _ rfl).1 n (fun j => .int (iI (f j)))) (fun q => by cases q) (by show ¬ (_ ∨ (arrV _ _ _).slots.size ≤ _); rw [arrV_size]; exact iI_in hj hn) rfl rfl hdg fun H1 e1 z1 oq => ?_
  have hP2 : va_P D vwCl ((wl B 217 (GW cy B σ)).set b (B + b, ivA (cy 0) n (uf f j z))) H1 := hW.1.set (wl_D B 217 (GW cy B σ)) (by rw [wl_get hbl, he]) (by
    show H1[B + b]? = some (vp_cell _ _)
    rw [e1, iI_clamp (by omega), vp_cell_i, vp_cell_i, arrV_store]
    congr 2
    funext q
    by_cases hq : q = j
    · subst hq
      simp [updV, uf]
    · simp [updV, uf, hq]) oq
  exact kk H1 _ ⟨by rw [← wl_set hbl hG]; exact hP2, by rw [z1]; exact hW.2⟩ (hS.put z1 oq (Nat.le_add_right B b))
/-- aaload -/
theorem wz_ara (hx : p.tables.exec = Jvm.exec) (hb : c.code = cc) (hK : KK D cy s) (hW : wd D cy B σ H) (b j t0 : Nat) {i : Int} {n a : Nat} {cA : ClassId} {C : String} {f : Nat → Option Nat} (hbl : b < 217) (he : GW cy B σ b = rfA cA n f) (ht : (tys cy)[t0]? = some (cA, .object C)) (hi : i = (j : Int)) (hj : j < n) (hn : n < 2147483648) (hf : f j = some (B + a)) (hdg : decode cc pc = .ok (.aaload, 1))
    (kk : W p l e R s m args below meth c H locs cells slots Q (F0 m (pc + 1) ls (.ref (B + a) :: rest))) : W p l e R s m args below meth c H locs cells slots Q (F0 m pc ls (.int (iI i) :: .ref (B + b) :: rest)) := by
  subst hi
  refine va_aldq (D := D) (cl := vwCl) hx hb hK.1 hW.1 b t0 (by rw [wl_get hbl, he]) ht (iI_in hj hn) hdg ?_
  rw [iI_clamp (by omega), hf]
  exact kk
theorem cPre_at {av : List Value} (hW : wd D cy B σ H) (hK : KK D cy s) : PreS s H (cPre D cy B av σ) av := ⟨cPre_blind, fun U hU hWm => ⟨rfl, by rw [hU]; exact hW, hK.warm hWm⟩⟩
theorem cPre_atV {b : Nat} {av : List Value} {ci : Nat} {q : vw_C} {fs : List Value} (hW : wd D cy B σ H) (hK : KK D cy s) (hbl : b < 217) (he : GW cy B σ b = .inr (ci, fs)) (hc : vwCl[ci]? = some q) : PreV s H q.1 (B + b) (cPre D cy B (.ref (B + b) :: av) σ) av := ⟨cPre_blind, va_recv hK.1 hW.1 hc (q0 := b) (by rw [wl_get hbl, he]), fun U hU hWm => ⟨rfl, by rw [hU]; exact hW, hK.warm hWm⟩⟩
theorem cwB {y' : MethodName} {cc' : ByteArray} {nL' : Nat} {ret' : Option FieldType} {C : String} {n fr' lo' index : Nat} (hts : ∀ w ∈ gw, w.before args s = true) (hV : VM y' cc' nL' ret' C n) (hl : Cond.methodLink own index y' ∈ gw) (hR : fr' + 1 ≤ R.frames ∧ 8 + (nL' + 11) + lo' ≤ R.locals) : CallB R s args own index y' cc' nL' ret' (.code y' cc' nL' ret' :: gw) (rmm fr' lo') 0 0 n := by
  obtain ⟨h1, h2, h3, h4, h5⟩ := hV
  exact callB_of n hts (gw_GoodIn' _ h5) rfl rfl rfl (by rw [h1]; exact hts _ h4) (hts _ hl) ⟨h2.1, h2.2, h3⟩ hR
/-- calls of a method of the receiver's own class -/
theorem k_vi (hx : p.tables.exec = Jvm.exec) (hb : c.code = cc) (hml : c.maxLocals = nL) (hown : s.vm.findClass own = some m.cls) (hts : ∀ w ∈ gw, w.before args s = true) (hK : KK D cy s) (hRf : fr ≤ R.frames) (hRl : lo ≤ R.locals) (hW : wd D cy B σ H) (hS : va_S (AB B) H0 H locs) {y' : MethodName} {cc' : ByteArray} {nL' : Nat} {ret' : Option FieldType} {fr' lo' index b ci : Nat} {As fs : List Value} {r : Int} {C : String} {T : u_T} {N : Nat} (hM : CI l y' cc' nL' ret' fr' lo' D cy B (.ref (B + b) :: As) σ r σ') (hV : VM y' cc' nL' ret' C As.length) (h2 : Cond.instanceMethod y' ∈ gw ∧ Cond.selects C y' y' ∈ gw) (hl : Cond.methodLink own index y' ∈ gw) (hbl : b < 217) (he : GW cy B σ b = .inr (ci, fs)) (hc : vwCl[ci]? = some (C, T, N)) (hfr : fr' + 1 ≤ fr ∧ 8 + (nL' + 11) + lo' ≤ lo) (hsz : ls.size = nL) (hst : st = As.reverse ++ .ref (B + b) :: rest) (hcat : (rest.map fun v => v.category).sum ≤ 8) (hcs : cells ≤ R.cells ∧ slots ≤ R.slots) (hdg : decode cc pc = .ok (.invokevirtual index, 3))
    (kk : ∀ (H1 : Heap) (locs1 : List Loc), wd D cy B σ' H1 → va_S (AB B) H0 H1 locs1 → W p l e R s m args below meth c H1 locs1 cells slots Q (F0 m (pc + 3) ls (.int (iI r) :: rest))) : W p l e R s m args below meth c H locs cells slots Q (F0 m pc ls st) := by
  refine va_calli (va_runV (As := As) (rest := rest) ⟨hx, hb, hml, hown, hts⟩ hM ⟨cwB hts hV hl ⟨by omega, by omega⟩, hts _ h2.1, hts _ h2.2⟩ (cPre_atV hW hK hbl he hc) rfl rfl hsz hst (lv_room hcat) hdg hcs) hS (fun q _ h => h) (fun q h => h) (fun r' u t H1 locs1 ht hvm hw hB hz hk hS1 => ?_)
  obtain ⟨rfl, rfl⟩ := hw
  exact kk H1 locs1 (by rw [← ht]; exact hB) hS1
theorem k_vv (hx : p.tables.exec = Jvm.exec) (hb : c.code = cc) (hml : c.maxLocals = nL) (hown : s.vm.findClass own = some m.cls) (hts : ∀ w ∈ gw, w.before args s = true) (hK : KK D cy s) (hRf : fr ≤ R.frames) (hRl : lo ≤ R.locals) (hW : wd D cy B σ H) (hS : va_S (AB B) H0 H locs) {y' : MethodName} {cc' : ByteArray} {nL' : Nat} {fr' lo' index b ci : Nat} {As fs : List Value} {C : String} {T : u_T} {N : Nat} (hM : CV l y' cc' nL' fr' lo' D cy B (.ref (B + b) :: As) σ σ') (hV : VM y' cc' nL' none C As.length) (h2 : Cond.instanceMethod y' ∈ gw ∧ Cond.selects C y' y' ∈ gw) (hl : Cond.methodLink own index y' ∈ gw) (hbl : b < 217) (he : GW cy B σ b = .inr (ci, fs)) (hc : vwCl[ci]? = some (C, T, N)) (hfr : fr' + 1 ≤ fr ∧ 8 + (nL' + 11) + lo' ≤ lo) (hsz : ls.size = nL) (hst : st = As.reverse ++ .ref (B + b) :: rest) (hcat : (rest.map fun v => v.category).sum ≤ 8) (hcs : cells ≤ R.cells ∧ slots ≤ R.slots) (hdg : decode cc pc = .ok (.invokevirtual index, 3))
    (kk : ∀ (H1 : Heap) (locs1 : List Loc), wd D cy B σ' H1 → va_S (AB B) H0 H1 locs1 → W p l e R s m args below meth c H1 locs1 cells slots Q (F0 m (pc + 3) ls rest)) : W p l e R s m args below meth c H locs cells slots Q (F0 m pc ls st) := by
  refine va_callv (va_runV (As := As) (rest := rest) ⟨hx, hb, hml, hown, hts⟩ hM ⟨cwB hts hV hl ⟨by omega, by omega⟩, hts _ h2.1, hts _ h2.2⟩ (cPre_atV hW hK hbl he hc) rfl rfl hsz hst (lv_room hcat) hdg hcs) hS (fun q _ h => h) (fun q h => h) (fun u t H1 locs1 ht hvm hw hB hz hk hS1 => ?_)
  subst hw
  exact kk H1 locs1 (by rw [← ht]; exact hB) hS1
theorem k_vl (hx : p.tables.exec = Jvm.exec) (hb : c.code = cc) (hml : c.maxLocals = nL) (hown : s.vm.findClass own = some m.cls) (hts : ∀ w ∈ gw, w.before args s = true) (hK : KK D cy s) (hRf : fr ≤ R.frames) (hRl : lo ≤ R.locals) (hW : wd D cy B σ H) (hS : va_S (AB B) H0 H locs) {y' : MethodName} {cc' : ByteArray} {nL' : Nat} {fr' lo' index b ci : Nat} {As fs : List Value} {r : Int} {C : String} {T : u_T} {N : Nat} (hM : CL l y' cc' nL' fr' lo' D cy B (.ref (B + b) :: As) σ r σ') (hV : VM y' cc' nL' (some .long) C As.length) (h2 : Cond.instanceMethod y' ∈ gw ∧ Cond.selects C y' y' ∈ gw) (hl : Cond.methodLink own index y' ∈ gw) (hbl : b < 217) (he : GW cy B σ b = .inr (ci, fs)) (hc : vwCl[ci]? = some (C, T, N)) (hfr : fr' + 1 ≤ fr ∧ 8 + (nL' + 11) + lo' ≤ lo) (hsz : ls.size = nL) (hst : st = As.reverse ++ .ref (B + b) :: rest) (hcat : (rest.map fun v => v.category).sum ≤ 8) (hcs : cells ≤ R.cells ∧ slots ≤ R.slots) (hdg : decode cc pc = .ok (.invokevirtual index, 3))
    (kk : ∀ (H1 : Heap) (locs1 : List Loc), wd D cy B σ' H1 → va_S (AB B) H0 H1 locs1 → W p l e R s m args below meth c H1 locs1 cells slots Q (F0 m (pc + 3) ls (.long (lI r) :: rest))) : W p l e R s m args below meth c H locs cells slots Q (F0 m pc ls st) := by
  refine va_calll (va_runV (As := As) (rest := rest) ⟨hx, hb, hml, hown, hts⟩ hM ⟨cwB hts hV hl ⟨by omega, by omega⟩, hts _ h2.1, hts _ h2.2⟩ (cPre_atV hW hK hbl he hc) rfl rfl hsz hst (lv_room hcat) hdg hcs) hS (fun q _ h => h) (fun q h => h) (fun r' u t H1 locs1 ht hvm hw hB hz hk hS1 => ?_)
  obtain ⟨rfl, rfl⟩ := hw
  exact kk H1 locs1 (by rw [← ht]; exact hB) hS1
/-- calls of a static method -/
theorem k_si (hx : p.tables.exec = Jvm.exec) (hb : c.code = cc) (hml : c.maxLocals = nL) (hown : s.vm.findClass own = some m.cls) (hts : ∀ w ∈ gw, w.before args s = true) (hK : KK D cy s) (hRf : fr ≤ R.frames) (hRl : lo ≤ R.locals) (hW : wd D cy B σ H) (hS : va_S (AB B) H0 H locs) {y' : MethodName} {cc' : ByteArray} {nL' : Nat} {ret' : Option FieldType} {fr' lo' index : Nat} {As : List Value} {r : Int} {C : String} (hM : CI l y' cc' nL' ret' fr' lo' D cy B As σ r σ') (hV : VM y' cc' nL' ret' C As.length) (h2 : Cond.static y' ∈ gw) (hl : Cond.methodLink own index y' ∈ gw) (hfr : fr' + 1 ≤ fr ∧ 8 + (nL' + 11) + lo' ≤ lo) (hsz : ls.size = nL) (hst : st = As.reverse ++ rest) (hcat : (rest.map fun v => v.category).sum ≤ 8) (hcs : cells ≤ R.cells ∧ slots ≤ R.slots) (hdg : decode cc pc = .ok (.invokestatic index, 3))
    (kk : ∀ (H1 : Heap) (locs1 : List Loc), wd D cy B σ' H1 → va_S (AB B) H0 H1 locs1 → W p l e R s m args below meth c H1 locs1 cells slots Q (F0 m (pc + 3) ls (.int (iI r) :: rest))) : W p l e R s m args below meth c H locs cells slots Q (F0 m pc ls st) := by
  refine va_calli (va_runS (As := As) (rest := rest) ⟨hx, hb, hml, hown, hts⟩ hM ⟨cwB hts hV hl ⟨by omega, by omega⟩, hts _ h2⟩ (cPre_at hW hK) rfl rfl hsz hst (lv_room hcat) hdg hcs) hS (fun q _ h => h) (fun q h => h) (fun r' u t H1 locs1 ht hvm hw hB hz hk hS1 => ?_)
  obtain ⟨rfl, rfl⟩ := hw
  exact kk H1 locs1 (by rw [← ht]; exact hB) hS1
theorem k_sl (hx : p.tables.exec = Jvm.exec) (hb : c.code = cc) (hml : c.maxLocals = nL) (hown : s.vm.findClass own = some m.cls) (hts : ∀ w ∈ gw, w.before args s = true) (hK : KK D cy s) (hRf : fr ≤ R.frames) (hRl : lo ≤ R.locals) (hW : wd D cy B σ H) (hS : va_S (AB B) H0 H locs) {y' : MethodName} {cc' : ByteArray} {nL' : Nat} {fr' lo' index : Nat} {As : List Value} {r : Int} {C : String} (hM : CL l y' cc' nL' fr' lo' D cy B As σ r σ') (hV : VM y' cc' nL' (some .long) C As.length) (h2 : Cond.static y' ∈ gw) (hl : Cond.methodLink own index y' ∈ gw) (hfr : fr' + 1 ≤ fr ∧ 8 + (nL' + 11) + lo' ≤ lo) (hsz : ls.size = nL) (hst : st = As.reverse ++ rest) (hcat : (rest.map fun v => v.category).sum ≤ 8) (hcs : cells ≤ R.cells ∧ slots ≤ R.slots) (hdg : decode cc pc = .ok (.invokestatic index, 3))
    (kk : ∀ (H1 : Heap) (locs1 : List Loc), wd D cy B σ' H1 → va_S (AB B) H0 H1 locs1 → W p l e R s m args below meth c H1 locs1 cells slots Q (F0 m (pc + 3) ls (.long (lI r) :: rest))) : W p l e R s m args below meth c H locs cells slots Q (F0 m pc ls st) := by
  refine va_calll (va_runS (As := As) (rest := rest) ⟨hx, hb, hml, hown, hts⟩ hM ⟨cwB hts hV hl ⟨by omega, by omega⟩, hts _ h2⟩ (cPre_at hW hK) rfl rfl hsz hst (lv_room hcat) hdg hcs) hS (fun q _ h => h) (fun q h => h) (fun r' u t H1 locs1 ht hvm hw hB hz hk hS1 => ?_)
  obtain ⟨rfl, rfl⟩ := hw
  exact kk H1 locs1 (by rw [← ht]; exact hB) hS1
theorem k_sni (hx : p.tables.exec = Jvm.exec) (hb : c.code = cc) (hml : c.maxLocals = nL) (hown : s.vm.findClass own = some m.cls) (hts : ∀ w ∈ gw, w.before args s = true) (hK : KK D cy s) (hRf : fr ≤ R.frames) (hRl : lo ≤ R.locals) (hW : wd D cy B σ H) (hS : va_S (AB B) H0 H locs) {y' : MethodName} {cc' : ByteArray} {nL' : Nat} {ret' : Option FieldType} {fr' lo' index : Nat} {As : List Value} {r : Int} {C host : String} (hM : CI l y' cc' nL' ret' fr' lo' D cy B As σ r σ') (hV : VM y' cc' nL' ret' C As.length) (h2 : Cond.static y' ∈ gw) (hl : (own, index, y', host) ∈ nestL) (hfr : fr' + 1 ≤ fr ∧ 8 + (nL' + 11) + lo' ≤ lo) (hsz : ls.size = nL) (hst : st = As.reverse ++ rest) (hcat : (rest.map fun v => v.category).sum ≤ 8) (hcs : cells ≤ R.cells ∧ slots ≤ R.slots) (hdg : decode cc pc = .ok (.invokestatic index, 3))
    (kk : ∀ (H1 : Heap) (locs1 : List Loc), wd D cy B σ' H1 → va_S (AB B) H0 H1 locs1 → W p l e R s m args below meth c H1 locs1 cells slots Q (F0 m (pc + 3) ls (.int (iI r) :: rest))) : W p l e R s m args below meth c H locs cells slots Q (F0 m pc ls st) := by
  obtain ⟨h1, h4, h3, h6, h5⟩ := hV
  refine va_calli (va_runSN (As := As) (rest := rest) ⟨hx, hb, hml, hown, hts⟩ hM ⟨va_cnB As.length hts (gw_GoodIn' _ h5) rfl rfl rfl (hK.2.2.2.1 _ hl) (by rw [h1]; exact hts _ h6) ⟨h4.1, h4.2, h3⟩ ⟨by show fr' + 1 ≤ _; omega, by show 8 + (nL' + 11) + lo' ≤ _; omega⟩, hts _ h2, trivial⟩ (cPre_at hW hK) rfl rfl hsz hst (lv_room hcat) hdg hcs) hS (fun q _ h => h) (fun q h => h) (fun r' u t H1 locs1 ht hvm hw hB hz hk hS1 => ?_)
  obtain ⟨rfl, rfl⟩ := hw
  exact kk H1 locs1 (by rw [← ht]; exact hB) hS1
/-- Math.min, Math.max over ints -/
theorem k_min (hx : p.tables.exec = Jvm.exec) (hb : c.code = cc) (hml : c.maxLocals = nL) (hown : s.vm.findClass own = some m.cls) (hts : ∀ w ∈ gw, w.before args s = true) (hsz : ls.size = nL) {index : Nat} {x y : Int} (hl : Cond.methodLink own index Lib.Math.min.name ∈ gw) (h1 : Cond.static Lib.Math.min.name ∈ gw ∧ Cond.initialized "java/lang/Math" ∈ gw ∧ Cond.code Lib.Math.min.name Lib.Math.min.code 2 (some .int) ∈ gw) (hRf : 1 ≤ R.frames) (hRl : (rest.map fun v => v.category).sum + 13 ≤ R.locals) (hcs : cells ≤ R.cells ∧ slots ≤ R.slots) (hbx : -2147483648 ≤ x ∧ x < 2147483648) (hby : -2147483648 ≤ y ∧ y < 2147483648) (hdg : decode cc pc = .ok (.invokestatic index, 3))
    (kk : W p l e R s m args below meth c H locs cells slots Q (F0 m (pc + 3) ls (.int (iI (if y < x then y else x)) :: rest))) : W p l e R s m args below meth c H locs cells slots Q (F0 m pc ls (.int (iI y) :: .int (iI x) :: rest)) := by
  refine va_mmin hx hb (hml.trans hsz.symm) hown (hts _ hl) (hts _ h1.1) (hts _ h1.2.1) (hts _ h1.2.2) hRf hRl hcs.1 hcs.2 hdg ?_
  by_cases h : y < x
  · rw [if_pos ((iI_lt hby hbx).mpr h)]; rw [if_pos h] at kk; exact kk
  · rw [if_neg (fun e => h ((iI_lt hby hbx).mp e))]; rw [if_neg h] at kk; exact kk
theorem k_max (hx : p.tables.exec = Jvm.exec) (hb : c.code = cc) (hml : c.maxLocals = nL) (hown : s.vm.findClass own = some m.cls) (hts : ∀ w ∈ gw, w.before args s = true) (hsz : ls.size = nL) {index : Nat} {x y : Int} (hl : Cond.methodLink own index Lib.Math.max.name ∈ gw) (h1 : Cond.static Lib.Math.max.name ∈ gw ∧ Cond.initialized "java/lang/Math" ∈ gw ∧ Cond.code Lib.Math.max.name Lib.Math.max.code 2 (some .int) ∈ gw) (hRf : 1 ≤ R.frames) (hRl : (rest.map fun v => v.category).sum + 13 ≤ R.locals) (hcs : cells ≤ R.cells ∧ slots ≤ R.slots) (hbx : -2147483648 ≤ x ∧ x < 2147483648) (hby : -2147483648 ≤ y ∧ y < 2147483648) (hdg : decode cc pc = .ok (.invokestatic index, 3))
    (kk : W p l e R s m args below meth c H locs cells slots Q (F0 m (pc + 3) ls (.int (iI (if x < y then y else x)) :: rest))) : W p l e R s m args below meth c H locs cells slots Q (F0 m pc ls (.int (iI y) :: .int (iI x) :: rest)) := by
  refine va_mmax hx hb (hml.trans hsz.symm) hown (hts _ hl) (hts _ h1.1) (hts _ h1.2.1) (hts _ h1.2.2) hRf hRl hcs.1 hcs.2 hdg ?_
  by_cases h : x < y
  · rw [if_pos ((iI_lt hbx hby).mpr h)]; rw [if_pos h] at kk; exact kk
  · rw [if_neg (fun e => h ((iI_lt hbx hby).mp e))]; rw [if_neg h] at kk; exact kk
theorem k_ldc (hx : p.tables.exec = Jvm.exec) (hb : c.code = cc) (hown : s.vm.findClass own = some m.cls) (hts : ∀ w ∈ gw, w.before args s = true) {index : Nat} {v : Int} {w : Int32} (hw : w = iI v) (hl : Cond.constant own index w ∈ gw) (hdg : decode cc pc = .ok (.ldc index, 2))
    (kk : W p l e R s m args below meth c H locs cells slots Q (F0 m (pc + 2) ls (.int (iI v) :: rest))) : W p l e R s m args below meth c H locs cells slots Q (F0 m pc ls rest) := lv_ldc hx hb hown (hts _ hl) hdg (by rw [hw]; exact kk)
theorem k_ldc2 (hx : p.tables.exec = Jvm.exec) (hb : c.code = cc) (hown : s.vm.findClass own = some m.cls) (hts : ∀ w ∈ gw, w.before args s = true) {index : Nat} {v : Int} {w : Int64} (hw : w = lI v) (hl : Cond.constantLong own index w ∈ gw) (hdg : decode cc pc = .ok (.ldc2_w index, 3))
    (kk : W p l e R s m args below meth c H locs cells slots Q (F0 m (pc + 3) ls (.long (lI v) :: rest))) : W p l e R s m args below meth c H locs cells slots Q (F0 m pc ls rest) := lv_ldc2 hx hb hown (hts _ hl) hdg (by rw [hw]; exact kk)
end Rw
