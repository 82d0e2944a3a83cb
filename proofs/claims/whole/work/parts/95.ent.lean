/-! the law's entry: what the tables say of the classes -/
theorem ent_ao {s : State} {A : Array Value} {C : String} (h : (Cond.arrayOver (.object C)).before A s = true) : ∃ c : ClassId, ArrOfT s c (.object C) ∧ va_RA s c (.object C) := by
  obtain ⟨comp, c, k, h1, h2, h3, h4, h5⟩ := Cond.arrayOver_spec h
  exact ⟨c, fun N z => ⟨(fun k h => by cases h), k, h3, comp, h4⟩, k, comp, h3, h4, h1, h5⟩
theorem ent_w {s : State} {b : Nat} (hts : ∀ w ∈ lw_tbl, w.before #[Value.ref b] s = true) (hgv : (Jvm.Cond.and given_1 narrow_1).before #[Value.ref b] s = true) : wE s ∧ KX s := by
  have hs := flat_of_before _ hgv
  have h1 : ∀ q ∈ castL, va_Nw (.castable q.1 q.2) s := (List.forall_mem_cons.mpr ⟨va_Nw.of rfl (hts _ (List.mem_of_getElem? (i := 1223) (by decide +kernel))), (List.forall_mem_cons.mpr ⟨va_Nw.of rfl (hts _ (List.mem_of_getElem? (i := 1224) (by decide +kernel))), (List.forall_mem_cons.mpr ⟨va_Nw.of rfl (hts _ (List.mem_of_getElem? (i := 1225) (by decide +kernel))), (fun _ h => absurd h List.not_mem_nil)⟩)⟩)⟩)
  have h2 : ∀ q ∈ ncL, va_Nc q.1 q.2 s := (List.forall_mem_cons.mpr ⟨va_Nc.of (hs (.not (.castable "LoveParts$Plain" "LoveParts$Schooled")) (by decide +kernel)), (List.forall_mem_cons.mpr ⟨va_Nc.of (hs (.not (.castable "LoveParts$Plain" "LoveParts$Joint")) (by decide +kernel)), (List.forall_mem_cons.mpr ⟨va_Nc.of (hs (.not (.castable "LoveParts$Plain" "LoveParts$Silent")) (by decide +kernel)), (List.forall_mem_cons.mpr ⟨va_Nc.of (hs (.not (.castable "LoveParts$Plain" "LoveParts$Ironic")) (by decide +kernel)), (List.forall_mem_cons.mpr ⟨va_Nc.of (hs (.not (.castable "LoveParts$Schooled" "LoveParts$Joint")) (by decide +kernel)), (List.forall_mem_cons.mpr ⟨va_Nc.of (hs (.not (.castable "LoveParts$Schooled" "LoveParts$Silent")) (by decide +kernel)), (List.forall_mem_cons.mpr ⟨va_Nc.of (hs (.not (.castable "LoveParts$Schooled" "LoveParts$Ironic")) (by decide +kernel)), (List.forall_mem_cons.mpr ⟨va_Nc.of (hs (.not (.castable "LoveParts$Joint" "LoveParts$Schooled")) (by decide +kernel)), (List.forall_mem_cons.mpr ⟨va_Nc.of (hs (.not (.castable "LoveParts$Joint" "LoveParts$Silent")) (by decide +kernel)), (List.forall_mem_cons.mpr ⟨va_Nc.of (hs (.not (.castable "LoveParts$Joint" "LoveParts$Ironic")) (by decide +kernel)), (List.forall_mem_cons.mpr ⟨va_Nc.of (hs (.not (.castable "LoveParts$Silent" "LoveParts$Plain")) (by decide +kernel)), (List.forall_mem_cons.mpr ⟨va_Nc.of (hs (.not (.castable "LoveParts$Silent" "LoveParts$Schooled")) (by decide +kernel)), (List.forall_mem_cons.mpr ⟨va_Nc.of (hs (.not (.castable "LoveParts$Silent" "LoveParts$Joint")) (by decide +kernel)), (List.forall_mem_cons.mpr ⟨va_Nc.of (hs (.not (.castable "LoveParts$Silent" "LoveParts$Ironic")) (by decide +kernel)), (List.forall_mem_cons.mpr ⟨va_Nc.of (hs (.not (.castable "LoveParts$Ironic" "LoveParts$Plain")) (by decide +kernel)), (List.forall_mem_cons.mpr ⟨va_Nc.of (hs (.not (.castable "LoveParts$Ironic" "LoveParts$Schooled")) (by decide +kernel)), (List.forall_mem_cons.mpr ⟨va_Nc.of (hs (.not (.castable "LoveParts$Ironic" "LoveParts$Joint")) (by decide +kernel)), (fun _ h => absurd h List.not_mem_nil)⟩)⟩)⟩)⟩)⟩)⟩)⟩)⟩)⟩)⟩)⟩)⟩)⟩)⟩)⟩)⟩)⟩)
  have h3 : ∀ q ∈ nestL, va_Nw (.methodLinkNest q.1 q.2.1 q.2.2.1 q.2.2.2) s := (List.forall_mem_cons.mpr ⟨va_Nw.of rfl (hts _ (List.mem_of_getElem? (i := 80) (by decide +kernel))), (List.forall_mem_cons.mpr ⟨va_Nw.of rfl (hts _ (List.mem_of_getElem? (i := 115) (by decide +kernel))), (List.forall_mem_cons.mpr ⟨va_Nw.of rfl (hts _ (List.mem_of_getElem? (i := 132) (by decide +kernel))), (List.forall_mem_cons.mpr ⟨va_Nw.of rfl (hts _ (List.mem_of_getElem? (i := 135) (by decide +kernel))), (List.forall_mem_cons.mpr ⟨va_Nw.of rfl (hts _ (List.mem_of_getElem? (i := 142) (by decide +kernel))), (List.forall_mem_cons.mpr ⟨va_Nw.of rfl (hts _ (List.mem_of_getElem? (i := 145) (by decide +kernel))), (List.forall_mem_cons.mpr ⟨va_Nw.of rfl (hts _ (List.mem_of_getElem? (i := 149) (by decide +kernel))), (List.forall_mem_cons.mpr ⟨va_Nw.of rfl (hts _ (List.mem_of_getElem? (i := 152) (by decide +kernel))), (List.forall_mem_cons.mpr ⟨va_Nw.of rfl (hts _ (List.mem_of_getElem? (i := 156) (by decide +kernel))), (List.forall_mem_cons.mpr ⟨va_Nw.of rfl (hts _ (List.mem_of_getElem? (i := 159) (by decide +kernel))), (List.forall_mem_cons.mpr ⟨va_Nw.of rfl (hts _ (List.mem_of_getElem? (i := 163) (by decide +kernel))), (List.forall_mem_cons.mpr ⟨va_Nw.of rfl (hts _ (List.mem_of_getElem? (i := 166) (by decide +kernel))), (List.forall_mem_cons.mpr ⟨va_Nw.of rfl (hts _ (List.mem_of_getElem? (i := 288) (by decide +kernel))), (List.forall_mem_cons.mpr ⟨va_Nw.of rfl (hts _ (List.mem_of_getElem? (i := 450) (by decide +kernel))), (List.forall_mem_cons.mpr ⟨va_Nw.of rfl (hts _ (List.mem_of_getElem? (i := 550) (by decide +kernel))), (fun _ h => absurd h List.not_mem_nil)⟩)⟩)⟩)⟩)⟩)⟩)⟩)⟩)⟩)⟩)⟩)⟩)⟩)⟩)⟩)
  have h4 : ∀ q ∈ declL, va_Nw (.declares q) s := (List.forall_mem_cons.mpr ⟨va_Nw.of rfl (hts _ (List.mem_of_getElem? (i := 493) (by decide +kernel))), (List.forall_mem_cons.mpr ⟨va_Nw.of rfl (hts _ (List.mem_of_getElem? (i := 714) (by decide +kernel))), (fun _ h => absurd h List.not_mem_nil)⟩)⟩)
  have h5 : ∀ q ∈ aoL, va_AO q s := (List.forall_mem_cons.mpr ⟨va_AO.of (hts _ (List.mem_of_getElem? (i := 77) (by decide +kernel))), (List.forall_mem_cons.mpr ⟨va_AO.of (hts _ (List.mem_of_getElem? (i := 112) (by decide +kernel))), (List.forall_mem_cons.mpr ⟨va_AO.of (hts _ (List.mem_of_getElem? (i := 129) (by decide +kernel))), (List.forall_mem_cons.mpr ⟨va_AO.of (hts _ (List.mem_of_getElem? (i := 174) (by decide +kernel))), (fun _ h => absurd h List.not_mem_nil)⟩)⟩)⟩)⟩)
  have h6 : KX s := (List.forall_mem_cons.mpr ⟨va_Nw.of rfl (hts _ (List.mem_of_getElem? (i := 1226) (by decide +kernel))), (List.forall_mem_cons.mpr ⟨va_Nw.of rfl (hts _ (List.mem_of_getElem? (i := 1227) (by decide +kernel))), (List.forall_mem_cons.mpr ⟨va_Nw.of rfl (hts _ (List.mem_of_getElem? (i := 1228) (by decide +kernel))), (List.forall_mem_cons.mpr ⟨va_Nw.of rfl (hts _ (List.mem_of_getElem? (i := 1229) (by decide +kernel))), (List.forall_mem_cons.mpr ⟨va_Nw.of rfl (hts _ (List.mem_of_getElem? (i := 1230) (by decide +kernel))), (fun _ h => absurd h List.not_mem_nil)⟩)⟩)⟩)⟩)⟩)
  exact ⟨⟨h1, h2, h3, h4, h5⟩, h6⟩
theorem ent_K {s : State} {b : Nat} (hts : ∀ w ∈ lw_tbl, w.before #[Value.ref b] s = true) (hgv : (Jvm.Cond.and given_1 narrow_1).before #[Value.ref b] s = true) : ∃ (D : va_G) (cy : Nat → ClassId), KK D cy s ∧ KX s := by
  have hg : ∀ w ∈ gw, w.before #[Value.ref b] s = true := fun w h => hts w (List.mem_filter.mp h).1
  obtain ⟨hE, hX⟩ := ent_w hts hgv
  obtain ⟨c0, i0, k0⟩ := u_known (C := RX0) (T := TX0) (N := 11) (n := 11) hg inG0 (hg _ w_175)
  obtain ⟨c1, i1, k1⟩ := u_known (C := RX1) (T := TX1) (N := 0) (n := 0) hg inG1 (hg _ w_162)
  obtain ⟨c2, i2, k2⟩ := u_known (C := RX2) (T := TX2) (N := 0) (n := 0) hg inG2 (hg _ w_148)
  obtain ⟨c3, i3, k3⟩ := u_known (C := RX4) (T := TX4) (N := 0) (n := 0) hg inG4 (hg _ w_131)
  obtain ⟨c4, i4, k4⟩ := u_known (C := RX5) (T := TX5) (N := 7) (n := 7) hg inG5 (hg _ w_79)
  obtain ⟨c5, i5, k5⟩ := u_known (C := RX6) (T := TX6) (N := 9) (n := 9) hg inG6 (hg _ w_168)
  obtain ⟨c6, i6, k6⟩ := u_known (C := RX7) (T := TX7) (N := 3) (n := 3) hg inG7 (hg _ w_287)
  obtain ⟨c7, i7, k7⟩ := u_known (C := RX8) (T := TX8) (N := 0) (n := 0) hg inG8 (hg _ w_141)
  obtain ⟨c8, i8, k8⟩ := u_known (C := RX9) (T := TX9) (N := 0) (n := 0) hg inG9 (hg _ w_155)
  obtain ⟨c9, i9, k9⟩ := u_known (C := RX10) (T := TX10) (N := 2) (n := 2) hg inG10 (hg _ w_114)
  obtain ⟨c10, i10, k10⟩ := u_known (C := RX11) (T := TX11) (N := 16) (n := 16) hg inG11 (hg _ w_69)
  obtain ⟨c11, i11, k11⟩ := u_known (C := RX12) (T := TX12) (N := 26) (n := 26) hg inG12 (hg _ w_810)
  obtain ⟨a0, g0, comp0, f0a, f0b, f0c⟩ := Cond.arrayClass_spec (hg _ w_110)
  obtain ⟨a1, g1, comp1, f1a, f1b, f1c⟩ := Cond.arrayClass_spec (hg _ w_894)
  obtain ⟨a2, r2, t2⟩ := ent_ao (C := "LoveParts$Heir") (hts _ (List.mem_of_getElem? (i := 174) (by decide +kernel)))
  obtain ⟨a3, r3, t3⟩ := ent_ao (C := "LoveParts$Nature") (hts _ (List.mem_of_getElem? (i := 112) (by decide +kernel)))
  obtain ⟨a4, r4, t4⟩ := ent_ao (C := "LoveParts$Realm") (hts _ (List.mem_of_getElem? (i := 129) (by decide +kernel)))
  obtain ⟨a5, r5, t5⟩ := ent_ao (C := "LoveParts$Row") (hts _ (List.mem_of_getElem? (i := 77) (by decide +kernel)))
  have r0 : ArrOfT s a0 .int := fun N z => ⟨(fun k h => by cases h), g0, f0b, comp0, f0c⟩
  have r1 : ArrOfT s a1 .boolean := fun N z => ⟨(fun k h => by cases h), g1, f1b, comp1, f1c⟩
  refine ⟨(fun k => if k = 0 then c0 else if k = 1 then c1 else if k = 2 then c2 else if k = 3 then c3 else if k = 4 then c4 else if k = 5 then c5 else if k = 6 then c6 else if k = 7 then c7 else if k = 8 then c8 else if k = 9 then c9 else if k = 10 then c10 else c11, fun k => if k = 0 then i0 else if k = 1 then i1 else if k = 2 then i2 else if k = 3 then i3 else if k = 4 then i4 else if k = 5 then i5 else if k = 6 then i6 else if k = 7 then i7 else if k = 8 then i8 else if k = 9 then i9 else if k = 10 then i10 else i11), fun k => if k = 0 then a0 else if k = 1 then a1 else if k = 2 then a2 else if k = 3 then a3 else if k = 4 then a4 else a5, ⟨⟨?_, ?_⟩, hE⟩, hX⟩
  · intro k q hq
    match k, hq with
    | 0, hq => cases hq; exact k0
    | 1, hq => cases hq; exact k1
    | 2, hq => cases hq; exact k2
    | 3, hq => cases hq; exact k3
    | 4, hq => cases hq; exact k4
    | 5, hq => cases hq; exact k5
    | 6, hq => cases hq; exact k6
    | 7, hq => cases hq; exact k7
    | 8, hq => cases hq; exact k8
    | 9, hq => cases hq; exact k9
    | 10, hq => cases hq; exact k10
    | 11, hq => cases hq; exact k11
    | k + 12, hq => simp [vwCl] at hq
  · intro k q hq
    match k, hq with
    | 0, hq => cases hq; exact ⟨r0, f0a⟩
    | 1, hq => cases hq; exact ⟨r1, f1a⟩
    | 2, hq => cases hq; exact ⟨r2, t2⟩
    | 3, hq => cases hq; exact ⟨r3, t3⟩
    | 4, hq => cases hq; exact ⟨r4, t4⟩
    | 5, hq => cases hq; exact ⟨r5, t5⟩
    | k + 6, hq => simp [tys] at hq
/-- the relation at the start -/
theorem sz0_z {c : Nat} (h : (¬ ((18 ≤ c ∧ c < 30) ∨ (46 ≤ c ∧ c < 202))) ∧ ¬ (30 ≤ c ∧ c < 46) ∧ c ≠ 2 ∧ c ≠ 204) : sz0 c = fun _ => 0 := by
  unfold sz0
  rw [if_neg h.1, if_neg h.2.1, if_neg h.2.2.1, if_neg h.2.2.2]
theorem Rel_sz0 : Rel sz0 := by
  have e18 : sz0 18 = f0 := by unfold sz0; rw [if_pos (by omega)]
  have e206 : sz0 206 = fun _ => 0 := sz0_z (by omega)
  have e202 : sz0 202 = fun _ => 0 := sz0_z (by omega)
  have e0 : sz0 0 = fun _ => 0 := sz0_z (by omega)
  have e214 : sz0 214 = fun _ => 0 := sz0_z (by omega)
  have f4 : f0 4 = 0 := by unfold f0; rw [if_neg (by omega)]
  refine ⟨⟨?_, Or.inl ?_, ?_, ?_, fun _ => ⟨?_, ?_, ?_⟩⟩, ⟨⟨?_, ?_, ?_⟩, ?_⟩, ?_, ?_, ⟨?_, ?_⟩, ⟨?_, ?_, ?_⟩, ⟨?_, ?_, ?_⟩⟩
  · rw [e18, e206]
    intro j hj hc
    rw [f4] at hc
    unfold f0
    rw [if_neg (by omega)]
  · rw [e206]
  · rw [e206]; dsimp only; omega
  · rw [e206, e202]; rfl
  · rw [e202]
  · rw [e214]
  · rw [e214]
  · rw [e0, e202]
  · rw [e202]; dsimp only; omega
  · rw [e0]; dsimp only; omega
  · rw [e202]; intro k hk; dsimp only at hk; omega
  · intro k hk
    left
    have e46 : sz0 (46 + 6 * k) = f0 := by unfold sz0; rw [if_pos (by omega)]
    rw [e214, e46, f4]
    exact ⟨rfl, rfl⟩
  · intro r hr
    have eo : sz0 (30 + 2 * r) = fun j => if j = 1 ∧ (30 + 2 * r) % 2 = 0 then -1 else 0 := by unfold sz0; rw [if_neg (by omega), if_pos (by omega)]
    have ei : sz0 (30 + 2 * r + 1) = fun j => if j = 1 ∧ (30 + 2 * r + 1) % 2 = 0 then -1 else 0 := by unfold sz0; rw [if_neg (by omega), if_pos (by omega)]
    have es : sz0 204 = cpy 8 (fun _ => -1) (fun _ => 0) := by unfold sz0; rw [if_neg (by omega), if_neg (by omega), if_neg (by omega), if_pos rfl]
    have e203 : sz0 203 = fun _ => 0 := sz0_z (by omega)
    have e205 : sz0 205 = fun _ => 0 := sz0_z (by omega)
    have v1 : sz0 204 r = -1 := by rw [es]; unfold cpy; rw [if_pos hr]
    have v2 : sz0 (30 + 2 * r) 1 = -1 := by rw [eo]; dsimp only; rw [if_pos (by omega)]
    have v3 : sz0 (30 + 2 * r) 2 = 0 := by rw [eo]; dsimp only; rw [if_neg (by omega)]
    have v4 : ∀ j, sz0 (30 + 2 * r + 1) j = 0 := fun j => by rw [ei]; dsimp only; rw [if_neg (by omega)]
    have v5 : ∀ j, sz0 205 j = 0 := fun j => by rw [e205]
    have v6 : sz0 203 r = 0 := by rw [e203]
    refine ⟨Or.inl ⟨v1, v2⟩, by rw [v3]; omega, by rw [v6]; omega, fun j hj => ?_⟩
    rw [v4, v5]
    omega
  · rw [e0, e202]
  · rw [e0, e202]
  · rw [show sz0 3 = fun _ => 0 from sz0_z (by omega), show sz0 208 = fun _ => 0 from sz0_z (by omega)]
  · rw [e202]; rfl
  · have e2 : sz0 2 = fun j => if j = 5 then 257 else 0 := by unfold sz0; rw [if_neg (by omega), if_neg (by omega), if_pos rfl]
    have e3 : sz0 3 = fun _ => 0 := sz0_z (by omega)
    unfold RI0
    rw [e2, e3]
    refine ⟨by show (0 : Int) ≤ 0 ∧ (0 : Int) ≤ 100; omega, by show (0 : Int) ≤ 257 ∧ (257 : Int) ≤ 300; omega, ?_, fun k _ => by dsimp only; omega⟩
    show (257 : Int) = 256 → _
    intro h; omega
  · rw [show sz0 6 = fun _ => 0 from sz0_z (by omega), show sz0 216 = fun _ => 0 from sz0_z (by omega)]
  · rw [e202, show sz0 5 = fun _ => 0 from sz0_z (by omega)]
  · rw [e202]; dsimp only; omega
