/-! Rows for constructors, and the structures that they make. -/
section ZK
variable {E : zCx} {l0 : Launch} {D0 : va_G} {cy0 : Nat → ClassId} {own : String} {cc : ByteArray} {nL : Nat} {R0 : Room} {k n : Nat} {L : List Nat} {σ : Nat → va_E} {φ : Nat → Nat → Nat → Int32} {ρ : Nat → Nat → Int32} {pc : Nat} {lv : List (Nat × Value)} {st : List Value}
variable {w ci index N j0 : Nat} {S : List Value} {C : String} {T : u_T}
theorem zX.put {b : Nat} (h : zT L σ w (.inr (ci, S))) {e : va_E} : zX w L σ φ ρ L (va_up σ w e) φ ρ := ⟨fun _ h => h, fun b hb hw => ⟨va_up_ne _ _ hw, fun _ _ => rfl, rfl⟩⟩
theorem x_putr {b : Nat} {ty : FieldType} {ty0 : Nat → FieldType} (hE : zOk E l0 D0 cy0 own cc nL R0) (hI : zIn E ∧ (T j0).2.2.2 = true ∧ (T j0).1 = own ∨ (T j0).2.2.2 = false) (ha : zT L σ w (.inr (ci, S))) (hc : vwCl[ci]? = some (C, T, N)) (hin : ∀ w ∈ u_ws C T N, w ∈ gtbl) (hty : ∀ k, k < N → parseFieldDescriptor (T k).2.2.1 = some (ty0 k)) (hnm : ∀ a, a < N → ∀ b, b < N → a ≠ b → (T a).2.1 ≠ (T b).2.1) (hj : j0 < N) (hq : Cond.fieldLink own index (T j0).1 (T j0).2.1 (T j0).2.2.1 ∈ gtbl) (hS : ∃ v0, S[j0]? = some v0 ∧ (v0 = .null ∨ ∃ r, v0 = .ref r)) (hdsc : parseFieldDescriptor (T j0).2.2.1 = some ty) (hn : narrow ty (.ref b) = .ref b) (hfit : fits ty (.ref b) = true) (hd : decode cc pc = .ok (.putfield index, 3)) (kk : ∀ σ1 : Nat → va_E, zX w L σ φ ρ L σ1 φ ρ → zT L σ1 w (.inr (ci, S.set j0 (.ref b))) → zW E k n L σ1 φ ρ (pc + 3) lv st) : zW E k n L σ φ ρ pc lv (.ref b :: .ref w :: st) :=
  h_putr hE hI ha hc hin hty hnm hj hq hS hdsc hn hfit hd (kk _ (zX.put (b := b) ha) ⟨ha.1, va_up_self _ _ _⟩)
theorem x_puti {v : Int32} {ty : FieldType} {ty0 : Nat → FieldType} (hE : zOk E l0 D0 cy0 own cc nL R0) (ha : zT L σ w (.inr (ci, S))) (hc : vwCl[ci]? = some (C, T, N)) (hin : ∀ w ∈ u_ws C T N, w ∈ gtbl) (hty : ∀ k, k < N → parseFieldDescriptor (T k).2.2.1 = some (ty0 k)) (hnm : ∀ a, a < N → ∀ b, b < N → a ≠ b → (T a).2.1 ≠ (T b).2.1) (hj : j0 < N) (hq : Cond.fieldLink own index (T j0).1 (T j0).2.1 (T j0).2.2.1 ∈ gtbl) (hfin : (T j0).2.2.2 = false) (hS : S[j0]? = some (.int 0)) (hdsc : parseFieldDescriptor (T j0).2.2.1 = some ty) (hn : narrow ty (.int v) = .int v) (hfit : fits ty (.int v) = true) (hd : decode cc pc = .ok (.putfield index, 3)) (kk : ∀ φ1 : Nat → Nat → Nat → Int32, zX w L σ φ ρ L σ φ1 ρ → (∀ c i, φ1 c i w = if c = ci ∧ i = j0 then v else φ c i w) → zW E k n L σ φ1 ρ (pc + 3) lv st) : zW E k n L σ φ ρ pc lv (.int v :: .ref w :: st) := by
  refine h_puti hE ha hc hin hty hnm j0 hj hq hfin hS hdsc hn hfit hd (kk _ ⟨fun _ h => h, fun b hb hw => ⟨rfl, fun c i => ?_, rfl⟩⟩ (fun c i => ?_))
  · rw [zup, if_neg (fun h => hw h.2.2)]
  · simp [zup]
theorem x_np {atype : ArrayType} {t0 : Nat} {ty fty : FieldType} {ty0 : Nat → FieldType} {v : Int32} {N0 : Nat} {x : vp_A} (hE : zOk E l0 D0 cy0 own cc nL R0) (hI : zIn E) (hw : zT L σ w (.inr (ci, S))) (hc : vwCl[ci]? = some (C, T, N)) (hin : ∀ w ∈ u_ws C T N, w ∈ gtbl) (hty0 : ∀ k, k < N → parseFieldDescriptor (T k).2.2.1 = some (ty0 k)) (hnm : ∀ a, a < N → ∀ b, b < N → a ≠ b → (T a).2.1 ≠ (T b).2.1) (hj : j0 < N) (hq : Cond.fieldLink own index (T j0).1 (T j0).2.1 (T j0).2.2.1 ∈ gtbl) (hfin : (T j0).2.2.2 = true) (how : (T j0).1 = own) (hS : S[j0]? = some .null) (hdsc : parseFieldDescriptor (T j0).2.2.1 = some fty) (hfit : ∀ b, narrow fty (.ref b) = .ref b ∧ fits fty (.ref b) = true)
    (hty : newarray.typeOf atype = ty) (hno : ∀ C, ty ≠ .object C) (hq2 : Cond.arrayClass ty ∈ gtbl) (ht : (zcy cy0)[t0]? = some (cy0 t0, ty)) (hxc : ∀ cA : ClassId, vp_cell cA x = arrV cA N0 (fun _ => defaultValue ty)) (hsh : ∀ cA : ClassId, zsh (.inl (cA, x)) = .inl (cA, x)) (hr0 : ∀ cA : ClassId, zrI (.inl (cA, x)) = fun _ => 0) (hn : ¬ v < 0) (hN : v.toNatClampNeg = N0) (hby : N0 * componentBytes ty ≤ 536870912) (hk1 : k + 1 ≤ R0.cells) (hk2 : n + N0 ≤ R0.slots) (hd1 : decode cc pc = .ok (.newarray atype, 2)) (hd2 : decode cc (pc + 2) = .ok (.putfield index, 3))
    (kk : ∀ (q : Nat) (L1 : List Nat) (σ1 : Nat → va_E) (φ1 : Nat → Nat → Nat → Int32) (ρ1 : Nat → Nat → Int32), q ∉ L → zX w L σ φ ρ L1 σ1 φ1 ρ1 → zT L1 σ1 w (.inr (ci, S.set j0 (.ref q))) → (∀ c i, φ1 c i w = φ c i w) → zT L1 σ1 q (.inl (cy0 t0, x)) → ρ1 q = (fun _ => 0) → zW E (k + 1) (n + N0) L1 σ1 φ1 ρ1 (pc + 5) lv st) : zW E k n L σ φ ρ pc lv (.int v :: .ref w :: st) := by
  refine h_newa hE hty hno hq2 ht hxc hsh hr0 hn hN hby hk1 hk2 hd1 (fun q L1 σ1 φ1 ρ1 hqL hX hT hr => ?_)
  have hne : w ≠ q := fun h => hqL (h ▸ hw.1)
  have hw1 := (hX q).T hw hne
  refine h_putr hE (Or.inl ⟨hI, hfin, how⟩) hw1 hc hin hty0 hnm hj hq ⟨_, hS, Or.inl rfl⟩ hdsc (hfit q).1 (hfit q).2 hd2 (kk q L1 _ φ1 ρ1 hqL ((hX w).tr (zX.put (b := q) hw1)) ⟨hw1.1, va_up_self _ _ _⟩ (fun c i => ((hX q).2 w hw.1 hne).2.1 c i) ⟨hT.1, (va_up_ne _ _ hne.symm).trans hT.2⟩ hr)
end ZK
section ZD
variable {cy : Nat → ClassId} {L L1 : List Nat} {σ σ1 : Nat → va_E} {φ φ1 : Nat → Nat → Nat → Int32} {ρ ρ1 : Nat → Nat → Int32} {a w : Nat}
def zLand (cy : Nat → ClassId) (L : List Nat) (σ : Nat → va_E) (a : Nat) : Prop := ∃ a0 a1 a2 a3 a4 a5 a6 a7 : Nat, zT L σ a (.inr (0, [.int 0, .int 0, .ref a0, .ref a1, .ref a2, .ref a3, .ref a4, .ref a5, .ref a6, .ref a7])) ∧ zT L σ a0 (zIA cy 6) ∧ zT L σ a1 (zIA cy 6) ∧ zT L σ a2 (zIA cy 6) ∧ zT L σ a3 (zIA cy 6) ∧ zT L σ a4 (zIA cy 8) ∧ zT L σ a5 (zIA cy 8) ∧ zT L σ a6 (zIA cy 8) ∧ zT L σ a7 (zIA cy 8)
def zWorld (cy : Nat → ClassId) (L : List Nat) (σ : Nat → va_E) (a : Nat) : Prop := ∃ a0 a1 a2 a3 a4 a5 a6 a7 : Nat, zT L σ a (.inr (10, [.ref a0, .ref a1, .ref a2, .ref a3, .ref a4, .ref a5, .int 0, .int 0, .int 0, .int 0, .int 0, .int 0, .int 0, .ref a6, .ref a7])) ∧ zT L σ a0 (zIA cy 6) ∧ zT L σ a1 (zIA cy 6) ∧ zT L σ a2 (zIA cy 6) ∧ zT L σ a3 (zIA cy 8) ∧ zT L σ a4 (zIA cy 8) ∧ zT L σ a5 (zIA cy 8) ∧ zT L σ a6 (zIA cy 40) ∧ zT L σ a7 (zIA cy 20)
def zLists (cy : Nat → ClassId) (L : List Nat) (σ : Nat → va_E) (a : Nat) : Prop := ∃ a0 a1 a2 a3 a4 a5 a6 a7 : Nat, zT L σ a (.inr (1, [.int 0, .int 0, .int 0, .ref a0, .ref a1, .ref a2, .ref a3, .ref a4, .ref a5, .ref a6, .ref a7])) ∧ zT L σ a0 (zIA cy 6) ∧ zT L σ a1 (zIA cy 6) ∧ zT L σ a2 (zIA cy 6) ∧ zT L σ a3 (zIA cy 12) ∧ zT L σ a4 (zZA cy 12) ∧ zT L σ a5 (zZA cy 10) ∧ zT L σ a6 (zIA cy 10) ∧ zT L σ a7 (zIA cy 10)
def zSteps (cy : Nat → ClassId) (L : List Nat) (σ : Nat → va_E) (a : Nat) (g : Nat → Option Nat) : Prop := ∃ a0 a1 : Nat, zT L σ a (.inr (5, [.int 0, .int 0, .ref a0, .ref a1])) ∧ zT L σ a0 (zRA (cy 4) 30 g) ∧ zT L σ a1 (zIA cy 30) ∧ ∀ i, i < 30 → ∃ w, g i = some w ∧ zWorld cy L σ w
def zText (cy : Nat → ClassId) (L : List Nat) (σ : Nat → va_E) (a : Nat) : Prop := ∃ a0 a1 a2 a3 a4 a5 a6 a7 a8 a9 : Nat, zT L σ a (.inr (7, [.int 0, .ref a0, .ref a1, .ref a2, .ref a3, .int 0, .ref a4, .ref a5, .int 0, .ref a6, .ref a7, .ref a8, .ref a9])) ∧ zT L σ a0 (zIA cy 24) ∧ zT L σ a1 (zIA cy 72) ∧ zT L σ a2 (zIA cy 300) ∧ zT L σ a3 (zIA cy 300) ∧ zT L σ a4 (zIA cy 300) ∧ zT L σ a5 (zIA cy 300) ∧ zT L σ a6 (zIA cy 5) ∧ zT L σ a7 (zIA cy 5) ∧ zT L σ a8 (zIA cy 5) ∧ zT L σ a9 (zIA cy 5)
theorem zLand.mono (h : zLand cy L σ a) (hX : zX w L σ φ ρ L1 σ1 φ1 ρ1) (hw : ∃ c S, zT L σ w (.inr (c, S))) (ha : a ≠ w) : zLand cy L1 σ1 a := by
  obtain ⟨c, S, hw⟩ := hw
  obtain ⟨a0, a1, a2, a3, a4, a5, a6, a7, h, h0, h1, h2, h3, h4, h5, h6, h7⟩ := h
  exact ⟨a0, a1, a2, a3, a4, a5, a6, a7, hX.T h ha, hX.T h0 (zT.ne h0 hw (by simp)), hX.T h1 (zT.ne h1 hw (by simp)), hX.T h2 (zT.ne h2 hw (by simp)), hX.T h3 (zT.ne h3 hw (by simp)), hX.T h4 (zT.ne h4 hw (by simp)), hX.T h5 (zT.ne h5 hw (by simp)), hX.T h6 (zT.ne h6 hw (by simp)), hX.T h7 (zT.ne h7 hw (by simp))⟩
theorem zWorld.mono (h : zWorld cy L σ a) (hX : zX w L σ φ ρ L1 σ1 φ1 ρ1) (hw : ∃ c S, zT L σ w (.inr (c, S))) (ha : a ≠ w) : zWorld cy L1 σ1 a := by
  obtain ⟨c, S, hw⟩ := hw
  obtain ⟨a0, a1, a2, a3, a4, a5, a6, a7, h, h0, h1, h2, h3, h4, h5, h6, h7⟩ := h
  exact ⟨a0, a1, a2, a3, a4, a5, a6, a7, hX.T h ha, hX.T h0 (zT.ne h0 hw (by simp)), hX.T h1 (zT.ne h1 hw (by simp)), hX.T h2 (zT.ne h2 hw (by simp)), hX.T h3 (zT.ne h3 hw (by simp)), hX.T h4 (zT.ne h4 hw (by simp)), hX.T h5 (zT.ne h5 hw (by simp)), hX.T h6 (zT.ne h6 hw (by simp)), hX.T h7 (zT.ne h7 hw (by simp))⟩
theorem zLists.mono (h : zLists cy L σ a) (hX : zX w L σ φ ρ L1 σ1 φ1 ρ1) (hw : ∃ c S, zT L σ w (.inr (c, S))) (ha : a ≠ w) : zLists cy L1 σ1 a := by
  obtain ⟨c, S, hw⟩ := hw
  obtain ⟨a0, a1, a2, a3, a4, a5, a6, a7, h, h0, h1, h2, h3, h4, h5, h6, h7⟩ := h
  exact ⟨a0, a1, a2, a3, a4, a5, a6, a7, hX.T h ha, hX.T h0 (zT.ne h0 hw (by simp)), hX.T h1 (zT.ne h1 hw (by simp)), hX.T h2 (zT.ne h2 hw (by simp)), hX.T h3 (zT.ne h3 hw (by simp)), hX.T h4 (zT.ne h4 hw (by simp)), hX.T h5 (zT.ne h5 hw (by simp)), hX.T h6 (zT.ne h6 hw (by simp)), hX.T h7 (zT.ne h7 hw (by simp))⟩
theorem zSteps.mono {g : Nat → Option Nat} (h : zSteps cy L σ a g) (hX : zX w L σ φ ρ L1 σ1 φ1 ρ1) (hw : ∃ c S, zT L σ w (.inr (c, S)) ∧ c ≠ 10) (ha : a ≠ w) : zSteps cy L1 σ1 a g := by
  obtain ⟨c, S, hw, hc⟩ := hw
  obtain ⟨a0, a1, h, h0, h1, h2⟩ := h
  refine ⟨a0, a1, hX.T h ha, hX.T h0 (zT.ne h0 hw (by simp [zRA])), hX.T h1 (zT.ne h1 hw (by simp)), fun i hi => ?_⟩
  obtain ⟨x, hx, hx2⟩ := h2 i hi
  refine ⟨x, hx, hx2.mono hX ⟨c, S, hw⟩ ?_⟩
  obtain ⟨_, _, _, _, _, _, _, _, hx3, -⟩ := hx2
  refine zT.ne hx3 hw (fun e => hc ?_)
  simp only [Sum.inr.injEq, Prod.mk.injEq] at e
  exact e.1.symm
/-- a cell that is new is no cell of before -/
theorem zX.new {q : Nat} (hX : ∀ w, zX w L σ φ ρ L1 σ1 φ1 ρ1) (hq : q ∉ L) {b : Nat} {e : va_E} (hb : zT L σ b e) : zT L1 σ1 b e ∧ b ≠ q := ⟨(hX q).T hb (fun h => hq (h ▸ hb.1)), fun h => hq (h ▸ hb.1)⟩
theorem zLand.new (h : zLand cy L σ a) (hX : ∀ w, zX w L σ φ ρ L1 σ1 φ1 ρ1) : zLand cy L1 σ1 a := by
  obtain ⟨a0, a1, a2, a3, a4, a5, a6, a7, h, h0, h1, h2, h3, h4, h5, h6, h7⟩ := h
  have t : ∀ b e, zT L σ b e → zT L1 σ1 b e := fun b e hb => (hX (b + 1)).T hb (Nat.ne_of_lt (Nat.lt_succ_self b))
  exact ⟨a0, a1, a2, a3, a4, a5, a6, a7, t _ _ h, t _ _ h0, t _ _ h1, t _ _ h2, t _ _ h3, t _ _ h4, t _ _ h5, t _ _ h6, t _ _ h7⟩
theorem zX.all (hX : ∀ w, zX w L σ φ ρ L1 σ1 φ1 ρ1) {b : Nat} {e : va_E} (hb : zT L σ b e) : zT L1 σ1 b e := (hX (b + 1)).T hb (Nat.ne_of_lt (Nat.lt_succ_self b))
theorem zWorld.new (h : zWorld cy L σ a) (hX : ∀ w, zX w L σ φ ρ L1 σ1 φ1 ρ1) : zWorld cy L1 σ1 a := by
  obtain ⟨a0, a1, a2, a3, a4, a5, a6, a7, h, h0, h1, h2, h3, h4, h5, h6, h7⟩ := h
  exact ⟨a0, a1, a2, a3, a4, a5, a6, a7, zX.all hX h, zX.all hX h0, zX.all hX h1, zX.all hX h2, zX.all hX h3, zX.all hX h4, zX.all hX h5, zX.all hX h6, zX.all hX h7⟩
theorem zLists.new (h : zLists cy L σ a) (hX : ∀ w, zX w L σ φ ρ L1 σ1 φ1 ρ1) : zLists cy L1 σ1 a := by
  obtain ⟨a0, a1, a2, a3, a4, a5, a6, a7, h, h0, h1, h2, h3, h4, h5, h6, h7⟩ := h
  exact ⟨a0, a1, a2, a3, a4, a5, a6, a7, zX.all hX h, zX.all hX h0, zX.all hX h1, zX.all hX h2, zX.all hX h3, zX.all hX h4, zX.all hX h5, zX.all hX h6, zX.all hX h7⟩
theorem zSteps.new {g : Nat → Option Nat} (h : zSteps cy L σ a g) (hX : ∀ w, zX w L σ φ ρ L1 σ1 φ1 ρ1) : zSteps cy L1 σ1 a g := by
  obtain ⟨a0, a1, h, h0, h1, h2⟩ := h
  refine ⟨a0, a1, zX.all hX h, zX.all hX h0, zX.all hX h1, fun i hi => ?_⟩
  obtain ⟨x, hx, hx2⟩ := h2 i hi
  exact ⟨x, hx, hx2.new hX⟩
theorem zWorld.monoR (h : zWorld cy L σ a) (hX : zX w L σ φ ρ L1 σ1 φ1 ρ1) (hw : ∃ c m g, zT L σ w (zRA c m g)) : zWorld cy L1 σ1 a := by
  obtain ⟨c, m, g, hw⟩ := hw
  obtain ⟨a0, a1, a2, a3, a4, a5, a6, a7, h, h0, h1, h2, h3, h4, h5, h6, h7⟩ := h
  exact ⟨a0, a1, a2, a3, a4, a5, a6, a7, hX.T h (zT.ne h hw (by simp [zRA])), hX.T h0 (zT.ne h0 hw (by simp [zRA])), hX.T h1 (zT.ne h1 hw (by simp [zRA])), hX.T h2 (zT.ne h2 hw (by simp [zRA])), hX.T h3 (zT.ne h3 hw (by simp [zRA])), hX.T h4 (zT.ne h4 hw (by simp [zRA])), hX.T h5 (zT.ne h5 hw (by simp [zRA])), hX.T h6 (zT.ne h6 hw (by simp [zRA])), hX.T h7 (zT.ne h7 hw (by simp [zRA]))⟩
theorem zX.up {e : va_E} : zX w L σ φ ρ L (va_up σ w e) φ ρ := ⟨fun _ h => h, fun b hb hw => ⟨va_up_ne _ _ hw, fun _ _ => rfl, rfl⟩⟩
/-- a row of WORLDS, the first i of them made, each at HOUR 0 -/
def zWs (cy : Nat → ClassId) (L : List Nat) (σ : Nat → va_E) (φ : Nat → Nat → Nat → Int32) (g : Nat → Option Nat) (i : Nat) : Prop := ∀ j, j < i → ∃ x, g j = some x ∧ zWorld cy L σ x ∧ φ 10 9 x = 0
theorem zWs.next {g : Nat → Option Nat} {i q ar N0 : Nat} {L2 : List Nat} {σ2 : Nat → va_E} {φ2 : Nat → Nat → Nat → Int32} {ρ2 : Nat → Nat → Int32} {S : List Value} (h : zWs cy L σ φ g i) (hn : q ∉ L) (hX : ∀ w, zX w L σ φ ρ L1 σ1 φ1 ρ1) (hq : zT L1 σ1 q (.inr (10, S))) (hX2 : zX q L1 σ1 φ1 ρ1 L2 σ2 φ2 ρ2) (hW : zWorld cy L2 σ2 q) (h0 : φ2 10 9 q = 0) (har : zT L2 σ2 ar (zRA (cy 4) N0 g)) : zWs cy L2 (va_up σ2 ar (zRA (cy 4) N0 (va_up g i (some q)))) φ2 (va_up g i (some q)) (i + 1) := by
  intro j hj
  by_cases hji : j = i
  · subst hji
    exact ⟨q, va_up_self _ _ _, hW.monoR (φ := φ2) (ρ := ρ2) (φ1 := φ2) (ρ1 := ρ2) zX.up ⟨_, _, _, har⟩, h0⟩
  · obtain ⟨x, x1, x2, x3⟩ := h j (by omega)
    have hxL : x ∈ L := by obtain ⟨_, _, _, _, _, _, _, _, hx, -⟩ := x2; exact hx.1
    have hxq : x ≠ q := fun e => hn (e ▸ hxL)
    have hx1 := (x2.new hX).mono hX2 ⟨_, _, hq⟩ hxq
    refine ⟨x, by rw [va_up_ne _ _ hji]; exact x1, hx1.monoR (φ := φ2) (ρ := ρ2) (φ1 := φ2) (ρ1 := ρ2) zX.up ⟨_, _, _, har⟩, ?_⟩
    rw [(hX2.2 x ((hX q).1 x hxL) hxq).2.1, ((hX q).2 x hxL hxq).2.1, x3]
def zTape (cy : Nat → ClassId) (L : List Nat) (σ : Nat → va_E) (a : Nat) : Prop := ∃ a0 a1 a2 a3 : Nat, zT L σ a (.inr (6, [.int 0, .int 0, .ref a0, .ref a1, .ref a2, .ref a3])) ∧ zT L σ a0 (zIA cy 301) ∧ zT L σ a1 (zIA cy 301) ∧ zT L σ a2 (zIA cy 301) ∧ zT L σ a3 (zIA cy 300) ∧ a0 ≠ a1 ∧ a0 ≠ a2
def zReader (L : List Nat) (σ : Nat → va_E) (a t : Nat) : Prop := zT L σ a (.inr (3, [.int 0, .int 0, .ref t, .null, .int 0, .int 0, .int 0]))
def zWeather (cy : Nat → ClassId) (L : List Nat) (σ : Nat → va_E) (a s : Nat) : Prop := ∃ a0 a1 a2 a3 : Nat, zT L σ a (.inr (9, [.int 0, .ref a0, .ref a1, .int 0, .ref s, .ref a2, .ref a3, .null, .int 0, .int 0])) ∧ zT L σ a0 (zIA cy 8) ∧ zT L σ a1 (zIA cy 6) ∧ zT L σ a2 (zIA cy 96) ∧ zT L σ a3 (zIA cy 300)
def zWays (cy : Nat → ClassId) (L : List Nat) (σ : Nat → va_E) (a s : Nat) : Prop := ∃ a0 a1 : Nat, zT L σ a (.inr (8, [.ref a0, .ref a1, .ref s])) ∧ zT L σ a0 (zIA cy 6) ∧ zT L σ a1 (zIA cy 6)
def zPlanner (cy : Nat → ClassId) (L : List Nat) (σ : Nat → va_E) (a s t : Nat) : Prop := ∃ (a0 a1 a2 a3 a4 a5 a6 : Nat) (g : Nat → Option Nat), zT L σ a (.inr (2, [.int 0, .ref a0, .ref s, .ref t, .ref a1, .ref a2, .ref a3, .ref a4, .ref a5, .ref a6])) ∧ zT L σ a0 (zIA cy 5) ∧ zT L σ a1 (zRA (cy 4) 6 g) ∧ zT L σ a2 (zIA cy 5) ∧ zT L σ a3 (zIA cy 6) ∧ zT L σ a4 (zIA cy 8) ∧ zT L σ a5 (zIA cy 48) ∧ zT L σ a6 (zIA cy 64) ∧ ∀ i, i < 6 → ∃ w, g i = some w ∧ zWorld cy L σ w
end ZD
section ZQ
variable {E : zCx} {l0 : Launch} {D0 : va_G} {cy0 : Nat → ClassId} {own : String} {cc : ByteArray} {nL : Nat} {R0 : Room} {k n : Nat} {L : List Nat} {σ : Nat → va_E} {φ : Nat → Nat → Nat → Int32} {ρ : Nat → Nat → Int32} {pc : Nat} {lv : List (Nat × Value)} {st : List Value}
variable {w ci index index2 N j0 : Nat} {S : List Value} {C C2 : String} {T : u_T}
theorem x_nq {t0 : Nat} {fty : FieldType} {ty0 : Nat → FieldType} {v : Int32} {N0 : Nat} (hE : zOk E l0 D0 cy0 own cc nL R0) (hI : zIn E) (hw : zT L σ w (.inr (ci, S))) (hc : vwCl[ci]? = some (C, T, N)) (hin : ∀ w ∈ u_ws C T N, w ∈ gtbl) (hty0 : ∀ k, k < N → parseFieldDescriptor (T k).2.2.1 = some (ty0 k)) (hnm : ∀ a, a < N → ∀ b, b < N → a ≠ b → (T a).2.1 ≠ (T b).2.1) (hj : j0 < N) (hq : Cond.fieldLink own index (T j0).1 (T j0).2.1 (T j0).2.2.1 ∈ gtbl) (hfin : (T j0).2.2.2 = true) (how : (T j0).1 = own) (hS : S[j0]? = some .null) (hdsc : parseFieldDescriptor (T j0).2.2.1 = some fty) (hfit : ∀ b, narrow fty (.ref b) = .ref b ∧ fits fty (.ref b) = true)
    (hq2 : Cond.classLink own index2 C2 ∈ gtbl) (ht : (zcy cy0)[t0]? = some (cy0 t0, .object C2)) (hC : C2 = "OwnRain$Text" ∨ C2 = "OwnRain$World") (hn : ¬ v < 0) (hN : v.toNatClampNeg = N0) (hby : N0 * 4 ≤ 536870912) (hk1 : k + 1 ≤ R0.cells) (hk2 : n + N0 ≤ R0.slots) (hd1 : decode cc pc = .ok (.anewarray index2, 3)) (hd2 : decode cc (pc + 3) = .ok (.putfield index, 3))
    (kk : ∀ (q : Nat) (L1 : List Nat) (σ1 : Nat → va_E) (φ1 : Nat → Nat → Nat → Int32) (ρ1 : Nat → Nat → Int32), q ∉ L → zX w L σ φ ρ L1 σ1 φ1 ρ1 → zT L1 σ1 w (.inr (ci, S.set j0 (.ref q))) → (∀ c i, φ1 c i w = φ c i w) → zT L1 σ1 q (zRA (cy0 t0) N0 (fun _ => none)) → zW E (k + 1) (n + N0) L1 σ1 φ1 ρ1 (pc + 6) lv st) : zW E k n L σ φ ρ pc lv (.int v :: .ref w :: st) := by
  refine h_newq hE hq2 ht hC hn hN hby hk1 hk2 hd1 (fun q L1 σ1 φ1 ρ1 hqL hX hT => ?_)
  have hne : w ≠ q := fun h => hqL (h ▸ hw.1)
  have hw1 := (hX q).T hw hne
  refine h_putr hE (Or.inl ⟨hI, hfin, how⟩) hw1 hc hin hty0 hnm hj hq ⟨_, hS, Or.inl rfl⟩ hdsc (hfit q).1 (hfit q).2 hd2 (kk q L1 _ φ1 ρ1 hqL ((hX w).tr (zX.put (b := q) hw1)) ⟨hw1.1, va_up_self _ _ _⟩ (fun c i => ((hX q).2 w hw.1 hne).2.1 c i) ⟨hT.1, (va_up_ne _ _ hne.symm).trans hT.2⟩)
end ZQ
