/-! What lasts while something else is being made: all cells but objects of class c. -/
section ZG
variable {cy : Nat → ClassId} {L L1 L2 : List Nat} {σ σ1 σ2 : Nat → va_E} {φ φ1 φ2 : Nat → Nat → Nat → Int32} {ρ ρ1 ρ2 : Nat → Nat → Int32} {a w q c : Nat}
def zG (c : Nat) (L : List Nat) (σ : Nat → va_E) (φ : Nat → Nat → Nat → Int32) (L2 : List Nat) (σ2 : Nat → va_E) (φ2 : Nat → Nat → Nat → Int32) : Prop := ∀ b ∈ L, (∀ S, σ b ≠ .inr (c, S)) → b ∈ L2 ∧ σ2 b = σ b ∧ ∀ c' i, φ2 c' i b = φ c' i b
theorem zG.rf : zG c L σ φ L σ φ := fun _ h _ => ⟨h, rfl, fun _ _ => rfl⟩
theorem zG.tr (h : zG c L σ φ L1 σ1 φ1) (h2 : zG c L1 σ1 φ1 L2 σ2 φ2) : zG c L σ φ L2 σ2 φ2 := by
  intro b hb hn
  obtain ⟨a1, a2, a3⟩ := h b hb hn
  obtain ⟨b1, b2, b3⟩ := h2 b a1 (fun S => by rw [a2]; exact hn S)
  exact ⟨b1, b2.trans a2, fun c' i => (b3 c' i).trans (a3 c' i)⟩
theorem zX.g {S : List Value} (h : zX w L σ φ ρ L1 σ1 φ1 ρ1) (hw : zT L σ w (.inr (c, S))) : zG c L σ φ L1 σ1 φ1 := by
  intro b hb hn
  have hbw : b ≠ w := fun e => hn S (by rw [e]; exact hw.2)
  obtain ⟨a1, a2, -⟩ := h.2 b hb hbw
  exact ⟨h.1 b hb, a1, a2⟩
/-- a new object, and its constructor -/
theorem zN.all (hX : ∀ w, zX w L σ φ ρ L1 σ1 φ1 ρ1) (hn : q ∉ L) (h2 : zX q L1 σ1 φ1 ρ1 L2 σ2 φ2 ρ2) {b : Nat} (hb : b ∈ L) : b ∈ L2 ∧ σ2 b = σ b ∧ ∀ c' i, φ2 c' i b = φ c' i b := by
  have hbq : b ≠ q := fun e => hn (e ▸ hb)
  obtain ⟨a1, a2, -⟩ := (hX q).2 b hb hbq
  obtain ⟨b1, b2, -⟩ := h2.2 b ((hX q).1 b hb) hbq
  exact ⟨h2.1 b ((hX q).1 b hb), b1.trans a1, fun c' i => (b2 c' i).trans (a2 c' i)⟩
theorem zN.g (hX : ∀ w, zX w L σ φ ρ L1 σ1 φ1 ρ1) (hn : q ∉ L) (h2 : zX q L1 σ1 φ1 ρ1 L2 σ2 φ2 ρ2) : zG c L σ φ L2 σ2 φ2 := fun _ hb _ => zN.all hX hn h2 hb
theorem zN.T (hX : ∀ w, zX w L σ φ ρ L1 σ1 φ1 ρ1) (hn : q ∉ L) (h2 : zX q L1 σ1 φ1 ρ1 L2 σ2 φ2 ρ2) {b : Nat} {e : va_E} (hb : zT L σ b e) : zT L2 σ2 b e := ⟨(zN.all hX hn h2 hb.1).1, (zN.all hX hn h2 hb.1).2.1.trans hb.2⟩
theorem zG.T {b : Nat} {e : va_E} (h : zG c L σ φ L1 σ1 φ1) (hb : zT L σ b e) (hn : ∀ S, e ≠ .inr (c, S)) : zT L1 σ1 b e := by
  obtain ⟨a1, a2, -⟩ := h b hb.1 (fun S => by rw [hb.2]; exact hn S)
  exact ⟨a1, a2.trans hb.2⟩
theorem zG.p {b : Nat} {e : va_E} (h : zG c L σ φ L1 σ1 φ1) (hb : zT L σ b e) (hn : ∀ S, e ≠ .inr (c, S)) (c' i : Nat) : φ1 c' i b = φ c' i b := (h b hb.1 (fun S => by rw [hb.2]; exact hn S)).2.2 c' i
theorem z_cls {c1 c : Nat} {S1 : List Value} (h : c1 ≠ c) (S : List Value) : (.inr (c1, S1) : va_E) ≠ .inr (c, S) := fun e => h (by simp only [Sum.inr.injEq, Prod.mk.injEq] at e; exact e.1)
theorem z_arr {x : ClassId × vp_A} (S : List Value) : (.inl x : va_E) ≠ .inr (c, S) := fun e => nomatch e
theorem zLand.g (h : zLand cy L σ a) (hg : zG c L σ φ L1 σ1 φ1) (hc : 0 ≠ c) : zLand cy L1 σ1 a := by
  obtain ⟨a0, a1, a2, a3, a4, a5, a6, a7, h, h0, h1, h2, h3, h4, h5, h6, h7⟩ := h
  exact ⟨a0, a1, a2, a3, a4, a5, a6, a7, hg.T h (z_cls hc), hg.T h0 z_arr, hg.T h1 z_arr, hg.T h2 z_arr, hg.T h3 z_arr, hg.T h4 z_arr, hg.T h5 z_arr, hg.T h6 z_arr, hg.T h7 z_arr⟩
theorem zWorld.g (h : zWorld cy L σ a) (hg : zG c L σ φ L1 σ1 φ1) (hc : 10 ≠ c) : zWorld cy L1 σ1 a := by
  obtain ⟨a0, a1, a2, a3, a4, a5, a6, a7, h, h0, h1, h2, h3, h4, h5, h6, h7⟩ := h
  exact ⟨a0, a1, a2, a3, a4, a5, a6, a7, hg.T h (z_cls hc), hg.T h0 z_arr, hg.T h1 z_arr, hg.T h2 z_arr, hg.T h3 z_arr, hg.T h4 z_arr, hg.T h5 z_arr, hg.T h6 z_arr, hg.T h7 z_arr⟩
theorem zLists.g (h : zLists cy L σ a) (hg : zG c L σ φ L1 σ1 φ1) (hc : 1 ≠ c) : zLists cy L1 σ1 a := by
  obtain ⟨a0, a1, a2, a3, a4, a5, a6, a7, h, h0, h1, h2, h3, h4, h5, h6, h7⟩ := h
  exact ⟨a0, a1, a2, a3, a4, a5, a6, a7, hg.T h (z_cls hc), hg.T h0 z_arr, hg.T h1 z_arr, hg.T h2 z_arr, hg.T h3 z_arr, hg.T h4 z_arr, hg.T h5 z_arr, hg.T h6 z_arr, hg.T h7 z_arr⟩
theorem zSteps.g {g : Nat → Option Nat} (h : zSteps cy L σ a g) (hg : zG c L σ φ L1 σ1 φ1) (hc : 5 ≠ c) (hc2 : 10 ≠ c) : zSteps cy L1 σ1 a g := by
  obtain ⟨a0, a1, h, h0, h1, h2⟩ := h
  refine ⟨a0, a1, hg.T h (z_cls hc), hg.T h0 z_arr, hg.T h1 z_arr, fun i hi => ?_⟩
  obtain ⟨x, hx, hx2⟩ := h2 i hi
  exact ⟨x, hx, hx2.g hg hc2⟩
theorem zWorld.at (h : zWorld cy L σ a) : ∃ S, zT L σ a (.inr (10, S)) := by
  obtain ⟨_, _, _, _, _, _, _, _, h, -⟩ := h
  exact ⟨_, h⟩
theorem zLand.at (h : zLand cy L σ a) : ∃ S, zT L σ a (.inr (0, S)) := by
  obtain ⟨_, _, _, _, _, _, _, _, h, -⟩ := h
  exact ⟨_, h⟩
theorem zLists.at (h : zLists cy L σ a) : ∃ S, zT L σ a (.inr (1, S)) := by
  obtain ⟨_, _, _, _, _, _, _, _, h, -⟩ := h
  exact ⟨_, h⟩
theorem zSteps.at {g : Nat → Option Nat} (h : zSteps cy L σ a g) : ∃ S, zT L σ a (.inr (5, S)) := by
  obtain ⟨_, _, h, -⟩ := h
  exact ⟨_, h⟩
theorem zG.o {c1 : Nat} (h : zG c L σ φ L1 σ1 φ1) (ha : ∃ S, zT L σ a (.inr (c1, S))) (hc : c1 ≠ c) (c' i : Nat) : φ1 c' i a = φ c' i a := by
  obtain ⟨S, ha⟩ := ha
  exact h.p ha (z_cls hc) c' i
theorem zWs.g {g : Nat → Option Nat} {n : Nat} (h : zWs cy L σ φ g n) (hg : zG c L σ φ L1 σ1 φ1) (hc : 10 ≠ c) : zWs cy L1 σ1 φ1 g n := by
  intro j hj
  obtain ⟨x, x1, x2, x3⟩ := h j hj
  exact ⟨x, x1, x2.g hg hc, by rw [hg.o x2.at hc, x3]⟩
/-- a STATE's cells -/
def zState (cy : Nat → ClassId) (L : List Nat) (σ : Nat → va_E) (s land world steps lists texts : Nat) (g : Nat → Option Nat) : Prop := zT L σ s (.inr (4, [.ref land, .ref world, .ref steps, .ref lists, .ref texts, .int 0, .int 0])) ∧ zLand cy L σ land ∧ zWorld cy L σ world ∧ zSteps cy L σ steps g ∧ zLists cy L σ lists ∧ zT L σ texts (zRA (cy 3) 4 (fun _ => none))
/-- its numbers when it is new -/
def zSt0 (φ : Nat → Nat → Nat → Int32) (s land world steps lists : Nat) (g : Nat → Option Nat) : Prop := φ 4 5 s = 0 ∧ φ 4 6 s = -1 ∧ φ 0 0 land = 0 ∧ φ 0 1 land = 0 ∧ (∀ i, φ 10 i world = if i = 10 then 37 else 0) ∧ φ 5 0 steps = 0 ∧ φ 5 1 steps = 0 ∧ φ 1 0 lists = 0 ∧ φ 1 1 lists = 0 ∧ φ 1 2 lists = 0 ∧ ∀ i, i < 30 → ∀ x, g i = some x → φ 10 9 x = 0
theorem zState.g {s land world steps lists texts : Nat} {g : Nat → Option Nat} (h : zState cy L σ s land world steps lists texts g) (hg : zG c L σ φ L1 σ1 φ1) (h0 : 0 ≠ c) (h1 : 1 ≠ c) (h4 : 4 ≠ c) (h5 : 5 ≠ c) (h10 : 10 ≠ c) : zState cy L1 σ1 s land world steps lists texts g := ⟨hg.T h.1 (z_cls h4), h.2.1.g hg h0, h.2.2.1.g hg h10, h.2.2.2.1.g hg h5 h10, h.2.2.2.2.1.g hg h1, hg.T h.2.2.2.2.2 z_arr⟩
theorem zSt0.g {s land world steps lists texts : Nat} {g : Nat → Option Nat} (h : zSt0 φ s land world steps lists g) (hs : zState cy L σ s land world steps lists texts g) (hg : zG c L σ φ L1 σ1 φ1) (h0 : 0 ≠ c) (h1 : 1 ≠ c) (h4 : 4 ≠ c) (h5 : 5 ≠ c) (h10 : 10 ≠ c) : zSt0 φ1 s land world steps lists g := by
  obtain ⟨p1, p2, p3, p4, p5, p6, p7, p8, p9, p10, p11⟩ := h
  obtain ⟨s1, s2, s3, s4, s5, s6⟩ := hs
  refine ⟨by rw [hg.o ⟨_, s1⟩ h4, p1], by rw [hg.o ⟨_, s1⟩ h4, p2], by rw [hg.o s2.at h0, p3], by rw [hg.o s2.at h0, p4], fun i => by rw [hg.o s3.at h10, p5], by rw [hg.o s4.at h5, p6], by rw [hg.o s4.at h5, p7], by rw [hg.o s5.at h1, p8], by rw [hg.o s5.at h1, p9], by rw [hg.o s5.at h1, p10], fun i hi x hx => ?_⟩
  obtain ⟨_, _, -, -, -, s7⟩ := s4
  obtain ⟨y, y1, y2⟩ := s7 i hi
  have hxy : x = y := Option.some.inj (hx.symm.trans y1)
  subst hxy
  rw [hg.o y2.at h10, p11 i hi x hx]
/-- a new object of class c2 that isn't of class c -/
theorem zT.fresh {S S2 : List Value} {c2 : Nat} (hX : ∀ w, zX w L σ φ ρ L1 σ1 φ1 ρ1) (hw : zT L σ w (.inr (c, S))) (hq : zT L1 σ1 q (.inr (c2, S2))) (hn : q ∉ L) : w ≠ q := fun e => hn (e ▸ hw.1)
end ZG
