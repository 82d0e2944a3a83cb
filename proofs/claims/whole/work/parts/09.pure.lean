theorem sg_lt (x y : Int) : sg x y < 0 ↔ x < y := by unfold sg; repeat' split
                                                     all_goals omega
theorem sg_gt (x y : Int) : 0 < sg x y ↔ y < x := by unfold sg; repeat' split
                                                     all_goals omega
theorem sg_ge (x y : Int) : 0 ≤ sg x y ↔ y ≤ x := by unfold sg; repeat' split
                                                     all_goals omega
theorem sg_le (x y : Int) : sg x y ≤ 0 ↔ x ≤ y := by unfold sg; repeat' split
                                                     all_goals omega
theorem sg_eq (x y : Int) : sg x y = 0 ↔ x = y := by unfold sg; repeat' split
                                                     all_goals omega
theorem sg_bd (x y : Int) : -2147483648 ≤ sg x y ∧ sg x y < 2147483648 := by unfold sg; repeat' split
                                                                             all_goals omega
theorem k_ldc_w {p : Program} {l : Launch} {e : Env} {R : Room} {s : State} {m : MethodId} {args : Array Value} {below : List Frame} {meth : Method} {c : Code} {H : Heap} {locs : List Loc} {cells slots : Nat} {Q : State → Prop} {cc : ByteArray} {pc : Nat} {ls : Array Slot} {rest : List Value} {own : String} (hx : p.tables.exec = Jvm.exec) (hb : c.code = cc) (hown : s.vm.findClass own = some m.cls) (hts : ∀ w ∈ gw, w.before args s = true) {index : Nat} {v : Int} {w : Int32} (hw : w = iI v) (hl : Cond.constant own index w ∈ gw) (hdg : decode cc pc = .ok (.ldc_w index, 3))
    (kk : W p l e R s m args below meth c H locs cells slots Q (F0 m (pc + 3) ls (.int (iI v) :: rest))) : W p l e R s m args below meth c H locs cells slots Q (F0 m pc ls rest) := lv_ldcw hx hb hown (hts _ hl) hdg (by rw [hw]; exact kk)
