/-! worlds that grow: n cells from B on, as the constructors make them -/
def pw (D : va_G) (B n : Nat) (G : Nat → va_E) (H : Heap) : Prop := va_P D vwCl (wl B n G) H ∧ H.size = B + n
def ug (G : Nat → va_E) (b : Nat) (e : va_E) : Nat → va_E := fun d => if d = b then e else G d
theorem ug_eq (G : Nat → va_E) (b : Nat) (e : va_E) : ug G b e b = e := if_pos rfl
theorem ug_ne (G : Nat → va_E) {b d : Nat} (e : va_E) (h : d ≠ b) : ug G b e d = G d := if_neg h
theorem wl_ext {B n : Nat} {G G' : Nat → va_E} (h : ∀ d, d < n → G' d = G d) : wl B n G' = wl B n G := by
  unfold wl
  apply List.map_congr_left
  intro c hc
  rw [h c (List.mem_range.mp hc)]
theorem wl_succ (B n : Nat) (G : Nat → va_E) : wl B (n + 1) G = wl B n G ++ [(B + n, G n)] := by
  unfold wl
  rw [List.range_succ, List.map_append]
  rfl
theorem pw_ext {D : va_G} {B n : Nat} {G G' : Nat → va_E} {H : Heap} (h : pw D B n G H) (hG : ∀ d, d < n → G' d = G d) : pw D B n G' H := ⟨by rw [wl_ext hG]; exact h.1, h.2⟩
def cast2L : List (String × String) := [("LoveParts$Plain", "LoveParts$Nature"), ("LoveParts$Schooled", "LoveParts$Nature"), ("LoveParts$Joint", "LoveParts$Nature"), ("LoveParts$Silent", "LoveParts$Nature"), ("LoveParts$Ironic", "LoveParts$Nature")]
def KX (U : State) : Prop := ∀ q ∈ cast2L, va_Nw (.castable q.1 q.2) U
theorem KX.warm {s U : State} (hW : s.WarmedH U.vm) (h : KX s) : KX U := fun q hq => va_Nw.warmC hW (h q hq)
theorem KX.same {u U : State} (e : u.vm = U.vm) (h : KX u) : KX U := fun q hq => va_Nw.same rfl e (h q hq)
def nPre (D : va_G) (cy : Nat → ClassId) (B : Nat) (av : List Value) (n : Nat) (G : Nat → va_E) : Array Value → State → Prop := va_Pc av (fun U => pw D B n G U.heap ∧ KK D cy U ∧ KX U)
theorem nPre_blind {D : va_G} {cy : Nat → ClassId} {B : Nat} {av : List Value} {n : Nat} {G : Nat → va_E} : FrameBlind (nPre D cy B av n G) := fun a U g mk q => ⟨q.1, q.2.1, ⟨va_K.moved (u := U) (U := U.calling g mk a) (Vm.Alike.refl U.vm) q.2.2.1.1, wE.same rfl q.2.2.1.2⟩, KX.same rfl q.2.2.2⟩
abbrev rmn (fr lo mc ms : Nat) : Room := { frames := fr, cells := mc, slots := ms, locals := lo }
/-- a constructor's contract: the world grows from n cells G to n' cells G' -/
abbrev CN (l : Launch) (y : MethodName) (cc : ByteArray) (nL : Nat) (fr lo mc ms : Nat) (D : va_G) (cy : Nat → ClassId) (B : Nat) (av : List Value) (n : Nat) (G : Nat → va_E) (n' : Nat) (G' : Nat → va_E) : Prop := Met l y (.code y cc nL none :: gw) (rmn fr lo mc ms) (nPre D cy B av n G) (va_Qv (fun u => u = G') (fun u t => pw D B n' u t.heap) (AB B)) mc ms (AB B)
section CtrN
variable {l : Launch} {y : MethodName} {cc : ByteArray} {nL fr lo mc ms : Nat} {D : va_G} {cy : Nat → ClassId} {B : Nat} {av : List Value} {n n' : Nat} {G G' : Nat → va_E}
theorem CN_of (hy : plainName y.cls = true) (hlen : (lg_sl av).length ≤ nL)
    (body : ∀ (p : Program) (e : Env) (R : Room) (s : State) (m : MethodId) (args : Array Value) (below : List Frame) (meth : Method) (c : Code) (Q : State → Prop), p.tables.exec = Jvm.exec → c.code = cc → c.maxLocals = nL → s.vm.findClass y.cls = some m.cls → meth.name = y.name → (∀ w ∈ gw, w.before args s = true) → KK D cy s → KX s → fr ≤ R.frames → lo ≤ R.locals → (mc ≤ R.cells ∧ ms ≤ R.slots) → pw D B n G s.heap →
      (∀ (H : Heap) (locs : List Loc) (pc : Nat) (ls : Array Slot), decode cc pc = .ok (.return_, 1) → pw D B n' G' H → va_S (AB B) s.heap H locs → W p l e R s m args below meth c H locs mc ms Q (F0 m pc ls [])) →
      ∀ ls, lv_has ls nL (lv_args 0 av) → W p l e R s m args below meth c s.heap [] 0 0 Q (F0 m 0 ls [])) : CN l y cc nL fr lo mc ms D cy B av n G n' G' := by
  refine Met.ofW (cc := cc) (maxL := nL) (ret := none) hy rfl ?_
  intro p e s m args below meth c s₁ Bd hml hv
  obtain ⟨rfl, hW, hK, hX⟩ := hv
  have hts := atoms_spec (ws := .code y cc nL none :: gw) Bd.pre
  rw [lg_entry_eq]
  refine body p e _ s m _ below meth c _ Bd.exec Bd.bytes hml (findClass_of_methodNamed Bd.named) (name_of_methodNamed Bd.named Bd.method).1 (fun w h => hts w (List.mem_cons_of_mem _ h)) hK hX (Nat.le_refl _) (Nat.le_refl _) ⟨Nat.le_refl _, Nat.le_refl _⟩ hW ?_ _ (lv_entry av hlen)
  intro H locs pc ls hdg hW' hS
  exact W.vret Bd.exec Bd.bytes Bd.returns (fun t ht hWm => ⟨⟨_, rfl, rfl, by show pw D B _ _ t.heap; rw [ht]; exact hW'⟩, hS.F ht⟩) hS.2.2 hdg Bd.notSynchronized
end CtrN
section RwG
variable {p : Program} {l : Launch} {e : Env} {R : Room} {s : State} {m : MethodId} {args : Array Value} {below : List Frame} {meth : Method} {c : Code} {H H0 : Heap} {locs : List Loc} {cells slots : Nat} {Q : State → Prop}
variable {cc : ByteArray} {pc nL fr lo : Nat} {ls : Array Slot} {rest st : List Value} {D : va_G} {cy : Nat → ClassId} {B n : Nat} {G : Nat → va_E} {own : String}
theorem AB_grow (hS : va_S (AB B) H0 H locs) {H1 : Heap} {h : Nat} (hz : H.size = h) (z1 : H1.size = h + 1) (o1 : ∀ q, q < h → H1[q]? = H[q]?) : va_S (AB B) H0 H1 locs := ⟨Nat.le_trans hS.1 (by omega), fun q g1 g2 => by rw [o1 q (by have := hS.1; omega)]; exact hS.2.1 q g1 g2, hS.2.2⟩
theorem pw_push (hW : pw D B n G H) {H1 : Heap} {e : va_E} (z1 : H1.size = B + n + 1) (o1 : ∀ q, q < B + n → H1[q]? = H[q]?) (he : va_at D vwCl (B + n, e) H1) : pw D B (n + 1) (ug G n e) H1 := by
  refine ⟨?_, by omega⟩
  intro k q hk
  obtain ⟨hk1, rfl⟩ := wl_get' hk
  by_cases hkn : k = n
  · subst hkn
    rw [ug_eq]
    exact he
  · rw [ug_ne _ _ hkn]
    have h1 := hW.1 k _ (wl_get (G := G) (show k < n by omega))
    exact va_at.kept h1 (o1 _ (by show B + k < B + n; omega))
/-- new -/
theorem pz_new (hx : p.tables.exec = Jvm.exec) (hb : c.code = cc) (hts : ∀ w ∈ gw, w.before args s = true) (hown : s.vm.findClass own = some m.cls) (hK : KK D cy s) (hW : pw D B n G H) (hS : va_S (AB B) H0 H locs) {C : String} {T : u_T} {N ci index : Nat} {fs : List Value} (ty0 : Nat → FieldType) (hc : vwCl[ci]? = some (C, T, N)) (hin : ∀ w ∈ u_ws C T N, w ∈ gw) (hty : ∀ k, k < N → parseFieldDescriptor (T k).2.2.1 = some (ty0 k)) (hcl : Cond.classLink own index C ∈ gw) (h2 : Cond.instantiable C N ∈ gw ∧ Cond.initialized C ∈ gw) (hfs : ∀ j, j < N → defaultValue (ty0 j) = vp_V fs j) (hcs : cells + 1 ≤ R.cells ∧ slots + N ≤ R.slots) (hdg : decode cc pc = .ok (.new index, 3))
    (kk : ∀ (H1 : Heap), pw D B (n + 1) (ug G n (.inr (ci, fs))) H1 → va_S (AB B) H0 H1 locs → W p l e R s m args below meth c H1 locs (cells + 1) (slots + N) Q (F0 m (pc + 3) ls (.ref (B + n) :: rest))) : W p l e R s m args below meth c H locs cells slots Q (F0 m pc ls rest) := by
  have hKn := hK.1.1 ci _ hc
  refine W.newcK hx hb hown (hts _ hcl) (hts _ h2.1) (hts _ h2.2) rfl hdg hcs.1 hcs.2 hKn.2.1 hW.2 fun H1 kC hkC e1 z1 o1 => ?_
  exact kk H1 (pw_push hW z1 o1 ⟨_, hc, (u_born ty0 hts hin hKn hkC e1 hty).to hfs⟩) (AB_grow hS hW.2 z1 o1)
/-- newarray of ints -/
theorem pz_newi (hx : p.tables.exec = Jvm.exec) (hb : c.code = cc) (hts : ∀ w ∈ gw, w.before args s = true) (hK : KK D cy s) (hW : pw D B n G H) (hS : va_S (AB B) H0 H locs) {z : Int} {N : Nat} (ha : Cond.arrayClass .int ∈ gw) (hz : z = (N : Int)) (hN : N ≤ 2000) (hcs : cells + 1 ≤ R.cells ∧ slots + N ≤ R.slots) (hdg : decode cc pc = .ok (.newarray .int, 2))
    (kk : ∀ (H1 : Heap), pw D B (n + 1) (ug G n (ivA (cy 0) N (fun _ => 0))) H1 → va_S (AB B) H0 H1 locs → W p l e R s m args below meth c H1 locs (cells + 1) (slots + N) Q (F0 m (pc + 2) ls (.ref (B + n) :: rest))) : W p l e R s m args below meth c H locs cells slots Q (F0 m pc ls (.int (iI z) :: rest)) := by
  subst hz
  refine va_newaK (atype := .int) hx hb (hts _ ha) rfl hdg rfl (iI_ge0 (by omega)) (iI_clamp (by omega)) (by show N * 4 ≤ 536870912; omega) hcs.1 hcs.2 hW.2 fun H1 cA e1 z1 o1 hAr hNm => ?_
  have hcA : cA = cy 0 := Option.some.inj (hNm.symm.trans (hK.1.2 0 _ rfl).2)
  subst hcA
  exact kk H1 (pw_push hW z1 o1 (by show H1[B + n]? = some (vp_cell (cy 0) (N, .inl (fun _ => iI 0))); rw [vp_cell_i]; exact e1)) (AB_grow hS hW.2 z1 o1)
/-- newarray of booleans -/
theorem pz_newz (hx : p.tables.exec = Jvm.exec) (hb : c.code = cc) (hts : ∀ w ∈ gw, w.before args s = true) (hK : KK D cy s) (hW : pw D B n G H) (hS : va_S (AB B) H0 H locs) {z : Int} {N : Nat} (ha : Cond.arrayClass .boolean ∈ gw) (hz : z = (N : Int)) (hN : N ≤ 2000) (hcs : cells + 1 ≤ R.cells ∧ slots + N ≤ R.slots) (hdg : decode cc pc = .ok (.newarray .boolean, 2))
    (kk : ∀ (H1 : Heap), pw D B (n + 1) (ug G n (ivA (cy 1) N (fun _ => 0))) H1 → va_S (AB B) H0 H1 locs → W p l e R s m args below meth c H1 locs (cells + 1) (slots + N) Q (F0 m (pc + 2) ls (.ref (B + n) :: rest))) : W p l e R s m args below meth c H locs cells slots Q (F0 m pc ls (.int (iI z) :: rest)) := by
  subst hz
  refine va_newaK (atype := .boolean) hx hb (hts _ ha) rfl hdg rfl (iI_ge0 (by omega)) (iI_clamp (by omega)) (by show N * 1 ≤ 536870912; omega) hcs.1 hcs.2 hW.2 fun H1 cA e1 z1 o1 hAr hNm => ?_
  have hcA : cA = cy 1 := Option.some.inj (hNm.symm.trans (hK.1.2 1 _ rfl).2)
  subst hcA
  exact kk H1 (pw_push hW z1 o1 (by show H1[B + n]? = some (vp_cell (cy 1) (N, .inl (fun _ => iI 0))); rw [vp_cell_i]; exact e1)) (AB_grow hS hW.2 z1 o1)
/-- anewarray -/
theorem pz_newq (hx : p.tables.exec = Jvm.exec) (hb : c.code = cc) (hts : ∀ w ∈ gw, w.before args s = true) (hown : s.vm.findClass own = some m.cls) (hK : KK D cy s) (hW : pw D B n G H) (hS : va_S (AB B) H0 H locs) {z : Int} {N index : Nat} {C : String} (t0 : Nat) (hC : C ∈ aoL) (ht : (tys cy)[t0]? = some (cy t0, .object C)) (hcl : Cond.classLink own index C ∈ gw) (hz : z = (N : Int)) (hN : N ≤ 2000) (hcs : cells + 1 ≤ R.cells ∧ slots + N ≤ R.slots) (hdg : decode cc pc = .ok (.anewarray index, 3))
    (kk : ∀ (H1 : Heap), pw D B (n + 1) (ug G n (rfA (cy t0) N (fun _ => none))) H1 → va_S (AB B) H0 H1 locs → W p l e R s m args below meth c H1 locs (cells + 1) (slots + N) Q (F0 m (pc + 3) ls (.ref (B + n) :: rest))) : W p l e R s m args below meth c H locs cells slots Q (F0 m pc ls (.int (iI z) :: rest)) := by
  subst hz
  have hcl2 : (iI (N : Int)).toNatClampNeg = N := iI_clamp (by omega)
  refine W.anew hx hb hown (hts _ hcl) (va_AO.use (hK.2.2.2.2.2 _ hC)) rfl hdg rfl (iI_ge0 (by omega)) (by rw [hcl2]; omega) hcs.1 (by rw [hcl2]; exact hcs.2) fun cA kA comp f1 f2 f3 f4 => ?_
  rw [hcl2]
  obtain ⟨kA2, comp2, -, -, -, k4⟩ := (hK.1.2 t0 _ ht).2
  have hcA : cA = cy t0 := Option.some.inj (f1.symm.trans k4)
  subst hcA
  generalize hH1 : H.push ({ cls := cy t0, slots := Array.replicate N .null, vm := .none } : Cell) = H1
  have z1 : H1.size = H.size + 1 := by rw [← hH1, Array.size_push]
  have e1 : H1[H.size]? = some (arrV (cy t0) N (fun _ => .null)) := by rw [← hH1, Array.getElem?_push_size, ← arrV_new]
  have o1 : ∀ q : Nat, q < H.size → H1[q]? = H[q]? := fun q hq => by rw [← hH1, Array.getElem?_push, if_neg (Nat.ne_of_lt hq)]
  rw [hW.2] at z1 e1 o1 ⊢
  exact kk H1 (pw_push hW z1 o1 (by show H1[B + n]? = some (vp_cell (cy t0) (N, .inr (.inr (.inr (.inr (fun _ => none)))))); rw [vp_cell_q]; exact e1)) (AB_grow hS hW.2 z1 o1)
/-- getfield -/
theorem pz_get (hx : p.tables.exec = Jvm.exec) (hb : c.code = cc) (hts : ∀ w ∈ gw, w.before args s = true) (hown : s.vm.findClass own = some m.cls) (hK : KK D cy s) (hW : pw D B n G H) {C : String} {T : u_T} {N ci index : Nat} (b k : Nat) {fs : List Value} {v : Value} (hbl : b < n) (he : G b = .inr (ci, fs)) (hc : vwCl[ci]? = some (C, T, N)) (hk : k < N) (hin : ∀ w ∈ u_ws C T N, w ∈ gw) (hlink : Cond.fieldLink own index C (T k).2.1 (T k).2.2.1 ∈ gw) (hT : (T k).1 = C) (hv : fs[k]? = some v) (hdg : decode cc pc = .ok (.getfield index, 3))
    (kk : W p l e R s m args below meth c H locs cells slots Q (F0 m (pc + 3) ls (v :: rest))) : W p l e R s m args below meth c H locs cells slots Q (F0 m pc ls (.ref (B + b) :: rest)) :=
  va_get (D := D) (cl := vwCl) hx hb hts hin hown hK.1 hW.1 b (by rw [wl_get hbl, he]) hc k hk (hts _ hlink) (by rw [hT]; exact fun _ h => h) hv hdg kk
theorem wl_setg {b : Nat} {e : va_E} (h : b < n) : (wl B n G).set b (B + b, e) = wl B n (ug G b e) := wl_set h (fun _ _ => rfl)
/-- putfield, not final and final -/
theorem pz_put (hx : p.tables.exec = Jvm.exec) (hb : c.code = cc) (hts : ∀ w ∈ gw, w.before args s = true) (hown : s.vm.findClass own = some m.cls) (hK : KK D cy s) (hW : pw D B n G H) (hS : va_S (AB B) H0 H locs) {C : String} {T : u_T} {N ci index : Nat} (b k : Nat) {fs : List Value} {v : Value} {ty : FieldType} (ty0 : Nat → FieldType) (hbl : b < n) (he : G b = .inr (ci, fs)) (hc : vwCl[ci]? = some (C, T, N)) (hk : k < N) (hin : ∀ w ∈ u_ws C T N, w ∈ gw) (hty : ∀ k, k < N → parseFieldDescriptor (T k).2.2.1 = some (ty0 k)) (hnm : ∀ a, a < N → ∀ b, b < N → a ≠ b → (T a).2.1 ≠ (T b).2.1) (hlink : Cond.fieldLink own index C (T k).2.1 (T k).2.2.1 ∈ gw) (hT : (T k).1 = C ∧ (T k).2.2.2 = false ∧ k < fs.length) (hd : parseFieldDescriptor (T k).2.2.1 = some ty) (hn : narrow ty v = v ∧ fits ty v = true) (hdg : decode cc pc = .ok (.putfield index, 3))
    (kk : ∀ (H1 : Heap) (locs1 : List Loc), pw D B n (ug G b (.inr (ci, fs.set k v))) H1 → va_S (AB B) H0 H1 locs1 → W p l e R s m args below meth c H1 locs1 cells slots Q (F0 m (pc + 3) ls rest)) : W p l e R s m args below meth c H locs cells slots Q (F0 m pc ls (v :: .ref (B + b) :: rest)) := by
  have hap := va_apart (own := own) hts hin ty0 hty hnm hK.1 hc
  obtain ⟨r, h1, cell, q1, q2, q3, q4⟩ := hW.1 b _ (by rw [wl_get hbl, he])
  have hr : r = (C, T, N) := Option.some.inj (h1.symm.trans hc)
  subst hr
  obtain ⟨hSl, hfc, kC, hkC, hkind⟩ := hK.1.1 ci _ hc
  obtain ⟨cf, kf, fi, f, hi, hsl⟩ := hSl k hk
  have hlay := hts _ (hin _ (u_in_lay hk))
  unfold u_lay at hlay
  rw [if_neg (by rw [hT.2.1]; decide)] at hlay
  have hst := (u_facts hfc hkC (u_lays hts hin hk) hi).1
  have h6 := u_store hfc hkC hkind hlay hi hd hn.1 hn.2
  have hi' : s.fieldFound? C (T k).2.1 (T k).2.2.1 = some (cf, kf, fi, f) := by rw [← hT.1]; exact hi
  refine W.putK hx hb (f := f) ⟨hown, hts _ hlink, ⟨_, _, _, hi'⟩, hst⟩ (by rw [q2]; exact h6) q1 q3 (by rw [hsl]; exact k2_hasslot (q4 k hk)) rfl rfl hdg fun H' e1 e2 e3 => ?_
  rw [hsl] at e1 ⊢
  have hP : va_P D vwCl ((wl B n G).set b (B + b, .inr (ci, fs.set k v))) H' := hW.1.set (wl_D B n G) (by rw [wl_get hbl, he]) ⟨_, hc, t_OB.to (V := updV (vp_V fs) k v) ⟨_, e1, q2, q3, t_set q4 hap hk v⟩ (fun j _ => vp_updV_set hT.2.2 v j)⟩ e3
  exact kk H' _ ⟨by rw [← wl_setg hbl]; exact hP, by rw [e2]; exact hW.2⟩ (hS.put e2 e3 (Nat.le_add_right B b))
theorem pz_putF (hx : p.tables.exec = Jvm.exec) (hb : c.code = cc) (hts : ∀ w ∈ gw, w.before args s = true) (hown : s.vm.findClass own = some m.cls) (hni : meth.name = "<init>") (hK : KK D cy s) (hW : pw D B n G H) (hS : va_S (AB B) H0 H locs) {C : String} {T : u_T} {N ci index : Nat} (b k : Nat) {fs : List Value} {v : Value} {ty : FieldType} (ty0 : Nat → FieldType) (hbl : b < n) (he : G b = .inr (ci, fs)) (hc : vwCl[ci]? = some (C, T, N)) (hk : k < N) (hin : ∀ w ∈ u_ws C T N, w ∈ gw) (hty : ∀ k, k < N → parseFieldDescriptor (T k).2.2.1 = some (ty0 k)) (hnm : ∀ a, a < N → ∀ b, b < N → a ≠ b → (T a).2.1 ≠ (T b).2.1) (hlink : Cond.fieldLink own index C (T k).2.1 (T k).2.2.1 ∈ gw) (hT : (T k).1 = C ∧ (T k).2.2.2 = true ∧ k < fs.length ∧ (T k).1 = own) (hd : parseFieldDescriptor (T k).2.2.1 = some ty) (hn : narrow ty v = v ∧ fits ty v = true) (hdg : decode cc pc = .ok (.putfield index, 3))
    (kk : ∀ (H1 : Heap) (locs1 : List Loc), pw D B n (ug G b (.inr (ci, fs.set k v))) H1 → va_S (AB B) H0 H1 locs1 → W p l e R s m args below meth c H1 locs1 cells slots Q (F0 m (pc + 3) ls rest)) : W p l e R s m args below meth c H locs cells slots Q (F0 m pc ls (v :: .ref (B + b) :: rest)) := by
  have hap := va_apart (own := own) hts hin ty0 hty hnm hK.1 hc
  obtain ⟨r, h1, cell, q1, q2, q3, q4⟩ := hW.1 b _ (by rw [wl_get hbl, he])
  have hr : r = (C, T, N) := Option.some.inj (h1.symm.trans hc)
  subst hr
  obtain ⟨hSl, hfc, kC, hkC, hkind⟩ := hK.1.1 ci _ hc
  obtain ⟨cf, kf, fi, f, hi, hsl⟩ := hSl k hk
  have hlay := hts _ (hin _ (u_in_lay hk))
  unfold u_lay at hlay
  rw [if_pos hT.2.1] at hlay
  have hst := (u_facts hfc hkC (u_lays hts hin hk) hi).1
  have hcf : m.cls = cf := by
    obtain ⟨_, _, c', _, _, _, -, -, hf', -, -, -, hown2, -⟩ := Cond.laysFinal_spec hlay
    have e1 : c' = cf := by have := hi.symm.trans hf'; simp at this; exact this.1.symm
    rw [hT.2.2.2] at hown2
    rw [← e1]; exact Option.some.inj (hown.symm.trans hown2)
  have h6 := u_fits hfc hkC hkind (Or.inr hlay) hi hd hn.1 hn.2
  have hi' : s.fieldFound? C (T k).2.1 (T k).2.2.1 = some (cf, kf, fi, f) := by rw [← hT.1]; exact hi
  refine W.putFinK hx hb hown (hts _ hlink) hi' hst hcf hni (by rw [q2]; exact h6) q1 q3 (by rw [hsl]; exact k2_hasslot (q4 k hk)) rfl rfl hdg fun H' e1 e2 e3 => ?_
  rw [hsl] at e1 ⊢
  have hP : va_P D vwCl ((wl B n G).set b (B + b, .inr (ci, fs.set k v))) H' := hW.1.set (wl_D B n G) (by rw [wl_get hbl, he]) ⟨_, hc, t_OB.to (V := updV (vp_V fs) k v) ⟨_, e1, q2, q3, t_set q4 hap hk v⟩ (fun j _ => vp_updV_set hT.2.2.1 v j)⟩ e3
  exact kk H' _ ⟨by rw [← wl_setg hbl]; exact hP, by rw [e2]; exact hW.2⟩ (hS.put e2 e3 (Nat.le_add_right B b))
/-- iastore -/
theorem pz_ast (hx : p.tables.exec = Jvm.exec) (hb : c.code = cc) (hK : KK D cy s) (hW : pw D B n G H) (hS : va_S (AB B) H0 H locs) (b j : Nat) {i z : Int} {N : Nat} {f : Nat → Int} (hbl : b < n) (he : G b = ivA (cy 0) N f) (hi : i = (j : Int)) (hj : j < N) (hN : N < 2147483648) (hdg : decode cc pc = .ok (.iastore, 1))
    (kk : ∀ (H1 : Heap) (locs1 : List Loc), pw D B n (ug G b (ivA (cy 0) N (uf f j z))) H1 → va_S (AB B) H0 H1 locs1 → W p l e R s m args below meth c H1 locs1 cells slots Q (F0 m (pc + 1) ls rest)) : W p l e R s m args below meth c H locs cells slots Q (F0 m pc ls (.int (iI z) :: .int (iI i) :: .ref (B + b) :: rest)) := by
  subst hi
  have hP := hW.1 b _ (by rw [wl_get hbl, he])
  refine W.iast hx hb hP ((hK.1.2 0 _ rfl).1 N (fun j => .int (iI (f j)))) (fun q => by cases q) (by show ¬ (_ ∨ (arrV _ _ _).slots.size ≤ _); rw [arrV_size]; exact iI_in hj hN) rfl rfl hdg fun H1 e1 z1 oq => ?_
  have hP2 : va_P D vwCl ((wl B n G).set b (B + b, ivA (cy 0) N (uf f j z))) H1 := hW.1.set (wl_D B n G) (by rw [wl_get hbl, he]) (by
    show H1[B + b]? = some (vp_cell _ _)
    rw [e1, iI_clamp (by omega), vp_cell_i, vp_cell_i, arrV_store]
    congr 2
    funext q
    by_cases hq : q = j
    · subst hq
      simp [updV, uf]
    · simp [updV, uf, hq]) oq
  exact kk H1 _ ⟨by rw [← wl_setg hbl]; exact hP2, by rw [z1]; exact hW.2⟩ (hS.put z1 oq (Nat.le_add_right B b))
def uo (f : Nat → Option Nat) (j v : Nat) : Nat → Option Nat := fun k => if k = j then some v else f k
/-- aastore: an object of the array's own class, or of one below it -/
theorem pz_aast (hx : p.tables.exec = Jvm.exec) (hb : c.code = cc) (hK : KK D cy s) (hX : KX s) (hW : pw D B n G H) (hS : va_S (AB B) H0 H locs) (b j v t0 ci : Nat) {i : Int} {N : Nat} {f : Nat → Option Nat} {C E : String} {T : u_T} {Nf : Nat} {vs : List Value} (hbl : b < n) (hvl : v < n) (he : G b = rfA (cy t0) N f) (ht : (tys cy)[t0]? = some (cy t0, .object E)) (hv : G v = .inr (ci, vs)) (hc : vwCl[ci]? = some (C, T, Nf)) (hCE : C = E ∨ (C, E) ∈ cast2L) (hi : i = (j : Int)) (hj : j < N) (hN : N < 2147483648) (hdg : decode cc pc = .ok (.aastore, 1))
    (kk : ∀ (H1 : Heap) (locs1 : List Loc), pw D B n (ug G b (rfA (cy t0) N (uo f j (B + v)))) H1 → va_S (AB B) H0 H1 locs1 → W p l e R s m args below meth c H1 locs1 cells slots Q (F0 m (pc + 1) ls rest)) : W p l e R s m args below meth c H locs cells slots Q (F0 m pc ls (.ref (B + v) :: .int (iI i) :: .ref (B + b) :: rest)) := by
  subst hi
  obtain ⟨r', hr', cellV, g1, g2, g3, -⟩ := hW.1 v _ (by rw [wl_get hvl, hv])
  have hcls := (hK.1.1 ci _ hc).2
  obtain ⟨kA, comp, k1, k2, k3, -⟩ := (hK.1.2 t0 _ ht).2
  obtain ⟨kE, hkE, -⟩ := Vm.findClass_spec k3
  have has : s.vm.assignable (D.1 ci) comp = true := by
    rcases hCE with h | h
    · subst h
      rw [Option.some.inj (k3.symm.trans hcls.1)]
      exact va_assign hcls
    · obtain ⟨c0, t1, f1, f2, f3⟩ := Cond.castable_spec (va_Nw.use (A := args) rfl (hX _ h))
      rw [Option.some.inj (hcls.1.symm.trans f1), Option.some.inj (k3.symm.trans f2)]
      exact f3
  obtain ⟨kC, hkC, -⟩ := hcls.2
  have hin := iI_in hj hN
  have hlt : (iI (j : Int)).toNatClampNeg < N := by rw [iI_clamp (by omega)]; exact hj
  have hPb : H[B + b]? = some (vp_cell (cy t0) (N, .inr (.inr (.inr (.inr f))))) := hW.1 b (B + b, rfA (cy t0) N f) (by rw [wl_get hbl, he])
  refine W.aast hx hb hPb (fun q h => by cases h) (fun h => by cases h) k1 k2 rfl hkE ⟨fun q => hin (Or.inl q), by show _ < (arrV _ _ _).slots.size; rw [arrV_size]; exact hlt⟩ g1 (fun q h => by rw [g3] at h; cases h) (by rw [g2]; exact hkC) (by rw [g2]; exact has) rfl rfl hdg fun H1 e1 z1 oq => ?_
  have hP2 : va_P D vwCl ((wl B n G).set b (B + b, rfA (cy t0) N (uo f j (B + v)))) H1 := hW.1.set (wl_D B n G) (by rw [wl_get hbl, he]) (by
    show H1[B + b]? = some (vp_cell _ _)
    rw [e1, iI_clamp (by omega), vp_cell_q, vp_cell_q, arrV_store]
    congr 2
    funext q
    by_cases hq : q = j
    · subst hq
      simp [updV, uo, va_rf]
    · simp [updV, uo, hq]) oq
  exact kk H1 _ ⟨by rw [← wl_setg hbl]; exact hP2, by rw [z1]; exact hW.2⟩ (hS.put z1 oq (Nat.le_add_right B b))
theorem pz_obj (hx : p.tables.exec = Jvm.exec) (hb : c.code = cc) (hml : c.maxLocals = nL) (hts : ∀ w ∈ gw, w.before args s = true) (hown : s.vm.findClass own = some m.cls) {index a : Nat} (hl : Cond.methodLink own index Lib.objectInit ∈ gw) (h2 : Cond.instanceMethod Lib.objectInit ∈ gw ∧ Cond.code Lib.objectInit ⟨#[0xb1]⟩ 1 none ∈ gw) (hR : 1 ≤ R.frames ∧ (rest.map fun v => v.category).sum + 12 ≤ R.locals) (hsz : ls.size = nL) (hdg : decode cc pc = .ok (.invokespecial index, 3))
    (kk : W p l e R s m args below meth c H locs cells slots Q (F0 m (pc + 3) ls rest)) : W p l e R s m args below meth c H locs cells slots Q (F0 m pc ls (.ref a :: rest)) :=
  W.objInit hx hb hown (hts _ hl) (hts _ h2.1) (hts _ h2.2) rfl (by show ls.size = _; rw [hml]; exact hsz) rfl hdg hR.1 (by show 2 * 0 + _ + 12 ≤ _; omega) kk
theorem nPre_at {av : List Value} (hW : pw D B n G H) (hK : KK D cy s) (hX : KX s) : PreS s H (nPre D cy B av n G) av := ⟨nPre_blind, fun U hU hWm => ⟨rfl, by rw [hU]; exact hW, hK.warm hWm, hX.warm hWm⟩⟩
/-- a constructor is called: by a plain link, and by one of a nest mate -/
theorem pz_init (hx : p.tables.exec = Jvm.exec) (hb : c.code = cc) (hml : c.maxLocals = nL) (hown : s.vm.findClass own = some m.cls) (hts : ∀ w ∈ gw, w.before args s = true) (hK : KK D cy s) (hX : KX s) (hRf : fr ≤ R.frames) (hRl : lo ≤ R.locals) (hW : pw D B n G H) (hS : va_S (AB B) H0 H locs) {y' : MethodName} {cc' : ByteArray} {nL' fr' lo' mc ms index b n' : Nat} {G' : Nat → va_E} {As : List Value} {C : String} (hM : CN l y' cc' nL' fr' lo' mc ms D cy B (.ref (B + b) :: As) n G n' G') (hV : VM y' cc' nL' none C As.length) (h2 : Cond.instanceMethod y' ∈ gw) (hy : y'.name = "<init>") (hl : Cond.methodLink own index y' ∈ gw) (hfr : fr' + 1 ≤ fr ∧ 8 + (nL' + 11) + lo' ≤ lo) (hsz : ls.size = nL) (hst : st = As.reverse ++ .ref (B + b) :: rest) (hcat : (rest.map fun v => v.category).sum ≤ 8) (hcs : cells + mc ≤ R.cells ∧ slots + ms ≤ R.slots) (hdg : decode cc pc = .ok (.invokespecial index, 3))
    (kk : ∀ (H1 : Heap) (locs1 : List Loc), pw D B n' G' H1 → va_S (AB B) H0 H1 locs1 → W p l e R s m args below meth c H1 locs1 (cells + mc) (slots + ms) Q (F0 m (pc + 3) ls rest)) : W p l e R s m args below meth c H locs cells slots Q (F0 m pc ls st) := by
  obtain ⟨h1, h4, h3, h6, h5⟩ := hV
  refine va_callv (va_runI (As := As) (rest := rest) ⟨hx, hb, hml, hown, hts⟩ hM ⟨callB_of As.length hts (gw_GoodIn' _ h5) rfl rfl rfl (by rw [h1]; exact hts _ h6) (hts _ hl) ⟨h4.1, h4.2, h3⟩ ⟨by show fr' + 1 ≤ _; omega, by show 8 + (nL' + 11) + lo' ≤ _; omega⟩, hy, hts _ h2⟩ (nPre_at hW hK hX) rfl rfl hsz hst (lv_room hcat) hdg hcs) hS (fun q _ h => h) (fun q h => h) (fun u t H1 locs1 ht hvm hw hB hz hk hS1 => ?_)
  subst hw
  exact kk H1 locs1 (by rw [← ht]; exact hB) hS1
theorem pz_initN (hx : p.tables.exec = Jvm.exec) (hb : c.code = cc) (hml : c.maxLocals = nL) (hown : s.vm.findClass own = some m.cls) (hts : ∀ w ∈ gw, w.before args s = true) (hK : KK D cy s) (hX : KX s) (hRf : fr ≤ R.frames) (hRl : lo ≤ R.locals) (hW : pw D B n G H) (hS : va_S (AB B) H0 H locs) {y' : MethodName} {cc' : ByteArray} {nL' fr' lo' mc ms index b n' : Nat} {G' : Nat → va_E} {As : List Value} {C host : String} (hM : CN l y' cc' nL' fr' lo' mc ms D cy B (.ref (B + b) :: As) n G n' G') (hV : VM y' cc' nL' none C As.length) (h2 : Cond.instanceMethod y' ∈ gw) (hy : y'.name = "<init>") (hl : (own, index, y', host) ∈ nestL) (hfr : fr' + 1 ≤ fr ∧ 8 + (nL' + 11) + lo' ≤ lo) (hsz : ls.size = nL) (hst : st = As.reverse ++ .ref (B + b) :: rest) (hcat : (rest.map fun v => v.category).sum ≤ 8) (hcs : cells + mc ≤ R.cells ∧ slots + ms ≤ R.slots) (hdg : decode cc pc = .ok (.invokespecial index, 3))
    (kk : ∀ (H1 : Heap) (locs1 : List Loc), pw D B n' G' H1 → va_S (AB B) H0 H1 locs1 → W p l e R s m args below meth c H1 locs1 (cells + mc) (slots + ms) Q (F0 m (pc + 3) ls rest)) : W p l e R s m args below meth c H locs cells slots Q (F0 m pc ls st) := by
  obtain ⟨h1, h4, h3, h6, h5⟩ := hV
  refine va_callv (va_runIN (As := As) (rest := rest) ⟨hx, hb, hml, hown, hts⟩ hM ⟨va_cnB As.length hts (gw_GoodIn' _ h5) rfl rfl rfl (hK.2.2.2.1 _ hl) (by rw [h1]; exact hts _ h6) ⟨h4.1, h4.2, h3⟩ ⟨by show fr' + 1 ≤ _; omega, by show 8 + (nL' + 11) + lo' ≤ _; omega⟩, hy, hts _ h2⟩ (nPre_at hW hK hX) rfl rfl hsz hst (lv_room hcat) hdg hcs) hS (fun q _ h => h) (fun q h => h) (fun u t H1 locs1 ht hvm hw hB hz hk hS1 => ?_)
  subst hw
  exact kk H1 locs1 (by rw [← ht]; exact hB) hS1
end RwG
