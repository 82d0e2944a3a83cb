/-! class and model side by side: what holds between two calls -/
def okM (f : Nat → Int) : Prop := okV f ∧ f 5 ≤ 999
def RA (σ : Sg) : Prop := eqR (σ 18) (σ 206) ∧ (σ 206 4 = 0 ∨ okM (σ 206)) ∧ σ 206 5 ≤ 999 ∧ σ 202 4 = (if σ 206 4 = 0 then 0 else 1) ∧ (σ 206 4 = 0 → σ 202 18 = 0 ∧ σ 214 0 = 0 ∧ σ 214 1 = 0)
def rg (s t : Sg) (k : Nat) : Nat := ((s 0 9).toNat + 24 - (t 202 18).toNat + k) % 24
def ak (t : Sg) (k : Nat) : Nat → Int := fun j => t 211 (48 * k + j)
/-- the ring of class state s, the acts of model state t -/
def RB2 (s t : Sg) : Prop := (s 0 8 = t 202 18 ∧ (0 ≤ t 202 18 ∧ t 202 18 ≤ 24) ∧ (0 ≤ s 0 9 ∧ s 0 9 ≤ 23)) ∧ ∀ k : Nat, (k : Int) < t 202 18 → eqR (s (58 + 6 * rg s t k)) (ak t k) ∧ okM (ak t k)
def RB (σ : Sg) : Prop := RB2 σ σ
def RC (σ : Sg) : Prop := ∀ k : Nat, k < 2 → (σ 214 k = 0 ∧ σ (46 + 6 * k) 4 = 0) ∨ (σ 214 k = 1 ∧ eqR (σ (46 + 6 * k)) (fun j => σ 215 (48 * k + j)) ∧ okM (fun j => σ 215 (48 * k + j)))
def RDr (σ : Sg) (r : Nat) : Prop := ((σ 204 r = -1 ∧ σ (30 + 2 * r) 1 = -1) ∨ ((0 ≤ σ 204 r ∧ σ 204 r ≤ 40) ∧ (0 ≤ σ 203 r ∧ σ 203 r ≤ 2) ∧ σ (30 + 2 * r) 1 = σ 203 r ∧ σ (30 + 2 * r) 2 = σ 204 r ∧ ∀ i : Nat, (i : Int) < σ 204 r → σ (30 + 2 * r + 1) i = σ 205 (40 * r + i))) ∧ (0 ≤ σ (30 + 2 * r) 2 ∧ σ (30 + 2 * r) 2 ≤ 40) ∧ (-1 ≤ σ 203 r ∧ σ 203 r ≤ 2) ∧ ∀ j, j < 40 → (-2147483648 ≤ σ (30 + 2 * r + 1) j ∧ σ (30 + 2 * r + 1) j < 2147483648) ∧ (-2147483648 ≤ σ 205 (40 * r + j) ∧ σ 205 (40 * r + j) < 2147483648)
def RD (σ : Sg) : Prop := ∀ r : Nat, r < 8 → RDr σ r
def RE (σ : Sg) : Prop := σ 0 15 = σ 202 3 ∧ σ 0 14 = σ 202 9
def RF (σ : Sg) : Prop := σ 3 = σ 208 ∧ σ 2 1 = σ 202 8 ∧ RI0 σ
def RG (σ : Sg) : Prop := σ 6 = σ 216 ∧ σ 5 1 = σ 202 25 ∧ (0 ≤ σ 202 25 ∧ σ 202 25 ≤ 16)
def Rel (σ : Sg) : Prop := RA σ ∧ RB σ ∧ RC σ ∧ RD σ ∧ RE σ ∧ RF σ ∧ RG σ
theorem RA_c {σ τ : Sg} (h : RA σ) (e1 : τ 18 = σ 18) (e2 : τ 206 = σ 206) (e3 : τ 202 4 = σ 202 4) (e5 : τ 202 18 = σ 202 18) (e6 : τ 214 = σ 214) : RA τ := by unfold RA; rw [e1, e2, e3, e5, e6]; exact h
theorem RB2_c {s t s' t' : Sg} (h : RB2 s t) (e1 : s' 0 8 = s 0 8) (e2 : s' 0 9 = s 0 9) (e3 : t' 202 18 = t 202 18) (e4 : t' 211 = t 211) (e5 : ∀ c, 58 ≤ c ∧ c < 202 → s' c = s c) : RB2 s' t' := by
  unfold RB2
  rw [e1, e2, e3]
  refine ⟨h.1, fun k hk => ?_⟩
  have hr : rg s' t' k = rg s t k := by unfold rg; rw [e2, e3]
  have ha : ak t' k = ak t k := by unfold ak; rw [e4]
  have hl : rg s t k < 24 := Nat.mod_lt _ (by omega)
  rw [hr, ha, e5 _ (by omega)]
  exact h.2 k hk
theorem RB_c {σ τ : Sg} (h : RB σ) (e1 : τ 0 8 = σ 0 8) (e2 : τ 0 9 = σ 0 9) (e3 : τ 202 18 = σ 202 18) (e4 : τ 211 = σ 211) (e5 : ∀ c, 58 ≤ c ∧ c < 202 → τ c = σ c) : RB τ := RB2_c h e1 e2 e3 e4 e5
theorem RC_c {σ τ : Sg} (h : RC σ) (e1 : τ 214 = σ 214) (e2 : τ 215 = σ 215) (e3 : ∀ c, 46 ≤ c ∧ c < 58 → τ c = σ c) : RC τ := by
  intro k hk
  rw [e1, e2, e3 _ (by omega)]
  exact h k hk
theorem RDr_c {σ τ : Sg} {r : Nat} (h : RDr σ r) (e1 : τ 203 r = σ 203 r) (e2 : τ 204 r = σ 204 r) (e3 : ∀ j, j < 40 → τ 205 (40 * r + j) = σ 205 (40 * r + j)) (e4 : τ (30 + 2 * r) = σ (30 + 2 * r)) (e5 : τ (30 + 2 * r + 1) = σ (30 + 2 * r + 1)) : RDr τ r := by
  obtain ⟨h1, h2, h3, h4⟩ := h
  unfold RDr
  rw [e1, e2, e4, e5]
  refine ⟨?_, h2, h3, fun j hj => ⟨(h4 j hj).1, by rw [e3 j hj]; exact (h4 j hj).2⟩⟩
  rcases h1 with h1 | ⟨a1, a2, a3, a4, a5⟩
  · exact Or.inl h1
  · exact Or.inr ⟨a1, a2, a3, a4, fun i hi => by rw [e3 i (by omega)]; exact a5 i hi⟩
theorem RD_c {σ τ : Sg} (h : RD σ) (e1 : τ 203 = σ 203) (e2 : τ 204 = σ 204) (e3 : τ 205 = σ 205) (e4 : ∀ c, 30 ≤ c ∧ c < 46 → τ c = σ c) : RD τ := fun r hr => RDr_c (h r hr) (by rw [e1]) (by rw [e2]) (fun j _ => by rw [e3]) (e4 _ (by omega)) (e4 _ (by omega))
theorem RE_c {σ τ : Sg} (h : RE σ) (e1 : τ 0 15 = σ 0 15) (e2 : τ 202 3 = σ 202 3) (e3 : τ 0 14 = σ 0 14) (e4 : τ 202 9 = σ 202 9) : RE τ := by unfold RE; rw [e1, e2, e3, e4]; exact h
theorem RF_c {σ τ : Sg} (h : RF σ) (e1 : τ 3 = σ 3) (e2 : τ 208 = σ 208) (e3 : τ 2 = σ 2) (e4 : τ 202 8 = σ 202 8) : RF τ := by
  obtain ⟨h1, h2, h3⟩ := h
  refine ⟨by rw [e1, e2]; exact h1, by rw [e3, e4]; exact h2, ?_⟩
  unfold RI0
  rw [e1, e3]
  exact h3
theorem RG_c {σ τ : Sg} (h : RG σ) (e1 : τ 6 = σ 6) (e2 : τ 216 = σ 216) (e3 : τ 5 1 = σ 5 1) (e4 : τ 202 25 = σ 202 25) : RG τ := by unfold RG; rw [e1, e2, e3, e4]; exact h
/-- what no later answer shows may change -/
theorem Rel_s {σ τ : Sg} (h : Rel σ) (hc : ∀ c, c ≠ 24 → c ≠ 9 → c ≠ 10 → c ≠ 11 → c ≠ 12 → c ≠ 207 → c ≠ 209 → c ≠ 210 → c ≠ 212 → c ≠ 213 → c ≠ 202 → c ≠ 0 → τ c = σ c) (h0 : ∀ j, j = 8 ∨ j = 9 ∨ j = 14 → τ 0 j = σ 0 j) (h2 : ∀ j, j = 4 ∨ j = 8 ∨ j = 9 ∨ j = 18 ∨ j = 25 → τ 202 j = σ 202 j) (hs : τ 0 15 = τ 202 3) : Rel τ := by
  have hd : ∀ c, c ≠ 24 ∧ c ≠ 9 ∧ c ≠ 10 ∧ c ≠ 11 ∧ c ≠ 12 ∧ c ≠ 207 ∧ c ≠ 209 ∧ c ≠ 210 ∧ c ≠ 212 ∧ c ≠ 213 ∧ c ≠ 202 ∧ c ≠ 0 → τ c = σ c := fun c h => hc c h.1 h.2.1 h.2.2.1 h.2.2.2.1 h.2.2.2.2.1 h.2.2.2.2.2.1 h.2.2.2.2.2.2.1 h.2.2.2.2.2.2.2.1 h.2.2.2.2.2.2.2.2.1 h.2.2.2.2.2.2.2.2.2.1 h.2.2.2.2.2.2.2.2.2.2.1 h.2.2.2.2.2.2.2.2.2.2.2
  obtain ⟨a, b, c, d, e, f, g⟩ := h
  refine ⟨RA_c a (hd _ (by omega)) (hd _ (by omega)) (h2 _ (by omega)) (h2 _ (by omega)) (hd _ (by omega)), RB_c b (h0 _ (by omega)) (h0 _ (by omega)) (h2 _ (by omega)) (hd _ (by omega)) (fun c hc => hd _ (by omega)), RC_c c (hd _ (by omega)) (hd _ (by omega)) (fun c hc => hd _ (by omega)), RD_c d (hd _ (by omega)) (hd _ (by omega)) (hd _ (by omega)) (fun c hc => hd _ (by omega)), ⟨hs, by rw [h0 _ (by omega), h2 _ (by omega)]; exact e.2⟩, RF_c f (hd _ (by omega)) (hd _ (by omega)) (hd _ (by omega)) (h2 _ (by omega)), RG_c g (hd _ (by omega)) (hd _ (by omega)) (by rw [hd 5 (by omega)]) (h2 _ (by omega))⟩
/-! what the calls ask for -/
theorem Rel.o206 {σ : Sg} (h : Rel σ) : σ 206 4 = 0 ∨ okV (σ 206) := h.1.2.1.imp id (fun q => q.1)
theorem Rel.e18 {σ : Sg} (h : Rel σ) : σ 18 4 = σ 206 4 := eqR_hd h.1.1 4 (by omega)
theorem Rel.o18 {σ : Sg} (h : Rel σ) : σ 18 4 = 0 ∨ okV (σ 18) := h.o206.imp (fun q => h.e18.trans q) (fun q => eqR_okV h.1.1 q)
theorem Rel.m18 {σ : Sg} (h : Rel σ) : σ 18 5 ≤ 999 := by rw [eqR_hd h.1.1 5 (by omega)]; exact h.1.2.2.1
theorem Rel.f4 {σ : Sg} (h : Rel σ) : 0 ≤ σ 206 4 ∧ σ 206 4 ≤ 4 := by rcases h.o206 with q | q; (· omega); (· have := q.1; omega)
theorem Rel.a8 {σ : Sg} (h : Rel σ) : 0 ≤ σ 0 8 ∧ σ 0 8 ≤ 24 := by have := h.2.1.1; omega
theorem Rel.ln {σ : Sg} (h : Rel σ) : ∀ k, k < 8 → -1 ≤ σ (30 + 2 * k) 1 ∧ σ (30 + 2 * k) 1 ≤ 2 := fun k hk => by have := h.2.2.2.1 k hk; unfold RDr at this; omega
theorem Rel.sz {σ : Sg} (h : Rel σ) : ∀ k, k < 8 → 0 ≤ σ (30 + 2 * k) 2 ∧ σ (30 + 2 * k) 2 ≤ 40 := fun k hk => (h.2.2.2.1 k hk).2.1
theorem Rel.bi {σ : Sg} (h : Rel σ) : ∀ k, k < 8 → ∀ j, j < 40 → -2147483648 ≤ σ (30 + 2 * k + 1) j ∧ σ (30 + 2 * k + 1) j < 2147483648 := fun k hk j hj => ((h.2.2.2.1 k hk).2.2.2 j hj).1
theorem Rel.msz {σ : Sg} (h : Rel σ) : ∀ k, k < 8 → -1 ≤ σ 204 k ∧ σ 204 k ≤ 40 := fun k hk => by have := h.2.2.2.1 k hk; unfold RDr at this; omega
theorem Rel.mla {σ : Sg} (h : Rel σ) : ∀ k, k < 8 → -1 ≤ σ 203 k ∧ σ 203 k ≤ 2 := fun k hk => (h.2.2.2.1 k hk).2.2.1
theorem Rel.mit {σ : Sg} (h : Rel σ) : ∀ k, k < 320 → -2147483648 ≤ σ 205 k ∧ σ 205 k < 2147483648 := fun k hk => by have := ((h.2.2.2.1 (k / 40) (by omega)).2.2.2 (k % 40) (by omega)).2; rw [show 40 * (k / 40) + k % 40 = k from by omega] at this; exact this
theorem Rel.by8 {σ : Sg} (h : Rel σ) : 0 ≤ σ 202 8 ∧ σ 202 8 ≤ 100 := by have h1 := h.2.2.2.2.2.1; have h2 := h1.2.2.1; have h3 := h1.2.1; omega
theorem Rel.by2 {σ : Sg} (h : Rel σ) : 0 ≤ σ 2 1 ∧ σ 2 1 ≤ 100 := by have h1 := h.2.2.2.2.2.1; have h2 := h1.2.2.1; omega
theorem Rel.mtp {σ : Sg} (h : Rel σ) : ∀ k, k < 100 → 0 ≤ σ 208 k ∧ σ 208 k ≤ 255 := by have h1 := h.2.2.2.2.2.1; rw [← h1.1]; exact h1.2.2.2.2.2
theorem Rel.tr5 {σ : Sg} (h : Rel σ) : 0 ≤ σ 5 1 ∧ σ 5 1 ≤ 16 := by have h1 := h.2.2.2.2.2.2; rw [h1.2.1]; exact h1.2.2
theorem Rel.im {σ : Sg} (h : Rel σ) : ∀ k, k < 2 → σ (46 + 6 * k) 4 = 0 ∨ okV (σ (46 + 6 * k)) := fun k hk => (h.2.2.1 k hk).imp (fun q => q.2) (fun q => eqR_okV q.2.1 q.2.2.1)
theorem Rel.kb {σ : Sg} (h : Rel σ) : ∀ k, k < 2 → σ 214 k = 0 ∨ σ 214 k = 1 := fun k hk => (h.2.2.1 k hk).imp (fun q => q.1) (fun q => q.1)
theorem Rel.tk {σ : Sg} (h : Rel σ) : rdC σ 2 2 = 0 → okV (rdC σ 24) := by
  intro h0
  have h1 := h.2.2.2.2.2.1
  rcases rd_eq (σ := σ) (τ := σ) h1.1 h1.2.1 h.by8 h.mtp with ⟨-, -, q3, q4, -⟩ | ⟨-, q2⟩
  · exact eqR_okV q3 q4
  · exact absurd h0 q2.1
theorem Rel.be {σ : Sg} (h : Rel σ) : ¬ σ 0 8 = 0 → okV (σ (58 + 6 * (bk σ).toNat)) := by
  intro h0
  obtain ⟨⟨a1, a2, a3⟩, a4⟩ := h.2.1
  have hk := a4 ((σ 202 18).toNat - 1) (by omega)
  have hr : rg σ σ ((σ 202 18).toNat - 1) = (bk σ).toNat := by unfold rg bk; split <;> omega
  rw [hr] at hk
  exact eqR_okV hk.1 hk.2.1
theorem Rel_d {σ τ : Sg} (h : Rel σ) (hD : RD τ) (hc : ∀ c, (c < 30 ∨ 46 ≤ c) → c ≠ 203 → c ≠ 204 → c ≠ 205 → c ≠ 207 → c ≠ 202 → c ≠ 0 → τ c = σ c) (h0 : ∀ j, j = 8 ∨ j = 9 ∨ j = 14 → τ 0 j = σ 0 j) (h2 : ∀ j, j = 4 ∨ j = 8 ∨ j = 9 ∨ j = 18 ∨ j = 25 → τ 202 j = σ 202 j) (hs : τ 0 15 = τ 202 3) : Rel τ := by
  have hd : ∀ c, (c < 30 ∨ 46 ≤ c) ∧ c ≠ 203 ∧ c ≠ 204 ∧ c ≠ 205 ∧ c ≠ 207 ∧ c ≠ 202 ∧ c ≠ 0 → τ c = σ c := fun c q => hc c q.1 q.2.1 q.2.2.1 q.2.2.2.1 q.2.2.2.2.1 q.2.2.2.2.2.1 q.2.2.2.2.2.2
  obtain ⟨a, b, c, d, e, f, g⟩ := h
  exact ⟨RA_c a (hd _ (by omega)) (hd _ (by omega)) (h2 _ (by omega)) (h2 _ (by omega)) (hd _ (by omega)), RB_c b (h0 _ (by omega)) (h0 _ (by omega)) (h2 _ (by omega)) (hd _ (by omega)) (fun c hc => hd _ (by omega)), RC_c c (hd _ (by omega)) (hd _ (by omega)) (fun c hc => hd _ (by omega)), hD, ⟨hs, by rw [h0 _ (by omega), h2 _ (by omega)]; exact e.2⟩, RF_c f (hd _ (by omega)) (hd _ (by omega)) (hd _ (by omega)) (h2 _ (by omega)), RG_c g (hd _ (by omega)) (hd _ (by omega)) (by rw [hd 5 (by omega)]) (h2 _ (by omega))⟩
