/-! Strings and the row SHAPES, which lie there from the beginning. -/
def zlen : List Nat := [11, 166]
def zbyt : List (List Int32) := [[43, 45, 42, 47, 60, 62, 61, 35, 40, 41, 59], [115, 119, 101, 97, 116, 32, 114, 97, 105, 110, 32, 116, 97, 120, 32, 100, 114, 105, 101, 115, 32, 115, 104, 97, 114, 101, 32, 102, 105, 101, 108, 100, 32, 114, 111, 97, 100, 32, 111, 110, 101, 32, 119, 111, 114, 107, 32, 103, 111, 32, 115, 104, 97, 107, 101, 32, 115, 116, 101, 97, 108, 32, 112, 111, 117, 114, 32, 104, 111, 117, 114, 32, 110, 101, 101, 100, 115, 32, 100, 114, 111, 119, 110, 115, 32, 111, 110, 32, 98, 121, 32, 116, 111, 32, 102, 114, 111, 109, 32, 115, 117, 109, 32, 99, 111, 117, 110, 116, 32, 101, 110, 100, 32, 111, 114, 32, 97, 110, 100, 32, 110, 111, 116, 32, 97, 103, 101, 32, 119, 104, 111, 32, 102, 117, 108, 108, 32, 99, 108, 111, 117, 100, 32, 111, 108, 100, 32, 104, 101, 114, 101, 32, 104, 101, 97, 116, 32, 119, 101, 116, 32, 98, 111, 116, 104, 32]]
def zshp : List Int32 := [(-1), 0, 9, 14, 0, 999, 15, 1, 999, (-1), 0, 5, 18, 0, 5, (-1), 0, 0, (-1), 1, 99, 26, 0, 99, 16, 0, 5, (-1), 0, 7, 17, 0, 9, (-1), 0, 0, (-1), 0, 7, 18, 0, 5, (-1), 0, 0, (-1), 0, 7, 18, 0, 7, (-1), 0, 0, (-1), 0, 7, 19, 0, 7, 17, 1, 99, (-1), 1, 999, 16, 0, 5, (-1), 0, 0, (-1), 1, 30, (-1), 0, 0, (-1), 0, 0]
def zs0 : String := "+-*/<>=#();"
def zs1 : String := "sweat rain tax dries share field road one work go shake steal pour hour needs drowns on by to from sum count end or and not age who full cloud old here heat wet both "
abbrev zAx : Type := (Nat → Nat) × (Nat → Nat) × Nat
def zXt (ax : zAx) (A : Nat → Prop) (U : State) (H : Heap) : Prop := vk_S 2 zlen zbyt ax.1 ax.2.1 A U H ∧ vk_R "OwnRain$Tape" 61 zs0 (ax.1 0) U ∧ vk_R "OwnRain$Tape" 68 zs1 (ax.1 1) U ∧ va_Z "java/lang/String" "COMPACT_STRINGS" "Z" (.int 1) A U H ∧ va_Z "OwnRain" "SHAPES" "[I" (.ref ax.2.2) A U H ∧ va_T .int ax.2.2 81 (fun j => .int (zshp.getD j 0)) A U H ∧ va_Nw (.fieldLinkNest "OwnRain$Reader" 106 "OwnRain" "SHAPES" "[I" "OwnRain") U ∧ ∃ t, va_Z "jdk/internal/util/Preconditions" "SIOOBE_FORMATTER" "Ljava/util/function/BiFunction;" (va_rf t) A U H
theorem zXt.kept {ax : zAx} {A : Nat → Prop} {U : State} {H H1 : Heap} (h : zXt ax A U H) (hq : ∀ a : Nat, a < H.size → ¬ A a → H1[a]? = H[a]?) : zXt ax A U H1 := by
  obtain ⟨h1, h2, h3, h4, h5, h6, hN, t, h7⟩ := h
  exact ⟨h1.kept hq, h2, h3, h4.kept hq, h5.kept hq, h6.kept hq, hN, t, h7.kept hq⟩
theorem zXt.narrow {ax : zAx} {A B : Nat → Prop} {U : State} {H : Heap} (h : zXt ax A U H) (hAB : ∀ q, B q → A q) : zXt ax B U H := by
  obtain ⟨h1, h2, h3, h4, h5, h6, hN, t, h7⟩ := h
  exact ⟨h1.narrow hAB, h2, h3, h4.narrow hAB, h5.narrow hAB, h6.narrow hAB, hN, t, h7.narrow hAB⟩
theorem zXt.warm {ax : zAx} {A : Nat → Prop} {s U : State} {H : Heap} (hW : s.WarmedH U.vm) (h : zXt ax A s H) : zXt ax A U H := by
  obtain ⟨h1, h2, h3, h4, h5, h6, hN, t, h7⟩ := h
  exact ⟨h1.moved hW.alike, h2.warm hW, h3.warm hW, h4.moved hW.alike, h5.moved hW.alike, h6.moved hW.alike, va_Nw.warmF hW hN, t, h7.moved hW.alike⟩
theorem zXt.same {ax : zAx} {A : Nat → Prop} {s U : State} {H : Heap} (hv : U.vm = s.vm) (h : zXt ax A s H) : zXt ax A U H := by
  obtain ⟨h1, h2, h3, h4, h5, h6, hN, t, h7⟩ := h
  have hm : s.vm.Alike U.vm := by rw [hv]; exact Vm.Alike.refl s.vm
  exact ⟨h1.moved hm, h2.same hv, h3.same hv, h4.moved hm, h5.moved hm, h6.moved hm, va_Nw.same rfl hv.symm hN, t, h7.moved hm⟩
/-! The pool: L its addresses, f what lies there. -/
def zcy (cy : Nat → ClassId) : List (ClassId × FieldType) := [(cy 0, .int), (cy 1, .long), (cy 2, .boolean), (cy 3, .object "OwnRain$Text"), (cy 4, .object "OwnRain$World")]
def znests : List (String × Nat × MethodName) := [("OwnRain", 9, ⟨"OwnRain$State", "<init>", "()V"⟩), ("OwnRain$State", 11, ⟨"OwnRain$Land", "<init>", "()V"⟩), ("OwnRain$State", 20, ⟨"OwnRain$World", "<init>", "()V"⟩), ("OwnRain$Steps", 21, ⟨"OwnRain$World", "<init>", "()V"⟩), ("OwnRain$State", 34, ⟨"OwnRain$Lists", "<init>", "()V"⟩), ("OwnRain", 21, ⟨"OwnRain$Tape", "<init>", "()V"⟩), ("OwnRain$Planner", 44, ⟨"OwnRain$World", "<init>", "()V"⟩), ("OwnRain$Reader", 24, ⟨"OwnRain$Text", "<init>", "()V"⟩), ("OwnRain$Tape", 77, ⟨"OwnRain", "isWithin", "(III)Z"⟩), ("OwnRain$Reader", 118, ⟨"OwnRain", "isWithin", "(III)Z"⟩), ("OwnRain$Weather", 95, ⟨"OwnRain", "bring", "(III)I"⟩), ("OwnRain$State", 73, ⟨"OwnRain", "isWithin", "(III)Z"⟩), ("OwnRain$Planner", 69, ⟨"OwnRain", "isOf", "(II)Z"⟩)]
def zK (D : va_G) (cy : Nat → ClassId) (U : State) : Prop := va_K D vwCl (zcy cy) U ∧ (∀ q ∈ znests, va_Nw (.methodLinkNest q.1 q.2.1 q.2.2 "OwnRain") U) ∧ va_AO "OwnRain$Text" U ∧ va_AO "OwnRain$World" U
theorem zK.warm {D : va_G} {cy : Nat → ClassId} {s U : State} (hW : s.WarmedH U.vm) (h : zK D cy s) : zK D cy U := ⟨va_K.moved hW.alike h.1, fun q hq => va_Nw.warmM hW (h.2.1 q hq), va_AO.moved hW.alike h.2.2.1, va_AO.moved hW.alike h.2.2.2⟩
abbrev zIA (cy : Nat → ClassId) (n : Nat) (g : Nat → Int32) : va_E := .inl (cy 0, n, .inl g)
abbrev zJA (cy : Nat → ClassId) (n : Nat) (g : Nat → Int64) : va_E := .inl (cy 1, n, .inr (.inl g))
abbrev zZA (cy : Nat → ClassId) (n : Nat) (g : Nat → Int32) : va_E := .inl (cy 2, n, .inl g)
abbrev zRA (c : ClassId) (n : Nat) (g : Nat → Option Nat) : va_E := .inl (c, n, .inr (.inr (.inr (.inr g))))
def eJ (D : va_G) (A : Nat → Prop) (H0 : Heap) (L : List Nat) (f : Nat → va_E) (H : Heap) (locs : List Loc) : Prop := va_P D vwCl (va_pl L f) H ∧ va_D A (va_pl L f) ∧ va_S A H0 H locs
abbrev zCx : Type := Program × Launch × Env × Room × State × MethodId × Array Value × List Frame × Method × Code × va_G × (Nat → ClassId) × (Nat → Prop) × (State → Prop) × zAx
def eW (E : zCx) (k n : Nat) (L : List Nat) (f : Nat → va_E) (pc : Nat) (lv : List (Nat × Value)) (st : List Value) : Prop := match E with
  | (p, l, e, R, s, m, args, below, meth, c, D, _, A, Q, _) => ∀ (H : Heap) (locs : List Loc) (ls : Array Slot), eJ D A s.heap L f H locs → lv_has ls c.maxLocals lv → W p l e R s m args below meth c H locs k n Q (F0 m pc ls st)
abbrev zC0 : Type := Launch × va_G × (Nat → ClassId) × zAx
def zOk (E : zCx) (X0 : zC0) (own : String) (cc : ByteArray) (nL : Nat) (R0 : Room) : Prop := match E with
  | (p, l, _, R, s, m, args, _, _, c, D, cy, A, _, ax) => p.tables.exec = Jvm.exec ∧ c.code = cc ∧ c.maxLocals = nL ∧ s.vm.findClass own = some m.cls ∧ (∀ w ∈ gtbl, w.before args s = true) ∧ zK D cy s ∧ (∀ q, s.heap.size ≤ q → A q) ∧ zXt ax A s s.heap ∧ R = R0 ∧ (l, D, cy, ax) = X0
/-- within a constructor -/
def zIn (E : zCx) : Prop := match E with
  | (_, _, _, _, _, _, _, _, meth, _, _, _, _, _, _) => meth.name = "<init>"
theorem z_plget {L : List Nat} {f : Nat → va_E} {a : Nat} (h : a ∈ L) : ∃ k : Nat, (va_pl L f)[k]? = some (a, f a) := va_pl_get (X := []) (f := f) h
theorem z_plset {A : Nat → Prop} {L : List Nat} {f : Nat → va_E} {a k : Nat} {e : va_E} (hD : va_D A (va_pl L f)) (h : a ∈ L) (hk : (va_pl L f)[k]? = some (a, f a)) : (va_pl L f).set k (a, e) = va_pl L (va_up f a e) := va_pl_set (X := []) hD h hk
section ZP
variable {E : zCx} {X0 : zC0} {own : String} {cc : ByteArray} {nL : Nat} {R0 : Room} {k n : Nat} {L : List Nat} {f : Nat → va_E} {pc : Nat} {lv : List (Nat × Value)} {st : List Value}
theorem x_iconst (hE : zOk E X0 own cc nL R0) {i : Int} {v : Int32} (hd : decode cc pc = .ok (.iconst i, 1)) (hv : Int32.ofInt i = v) (kk : eW E k n L f (pc + 1) lv (.int v :: st)) : eW E k n L f pc lv st := by
  obtain ⟨p, l, e, R, s, m, args, below, meth, c, D, cy, A, Q, ax⟩ := E
  obtain ⟨hx, hb, hml, hown, hts, hK, hA, hX, rfl, rfl⟩ := hE
  intro H locs ls hJ hl
  exact lv_iconst hx hb hd hv (kk H locs ls hJ hl)
theorem x_bipush (hE : zOk E X0 own cc nL R0) {i : Int} {v : Int32} (hd : decode cc pc = .ok (.bipush i, 2)) (hv : (Int8.ofInt i).toInt32 = v) (kk : eW E k n L f (pc + 2) lv (.int v :: st)) : eW E k n L f pc lv st := by
  obtain ⟨p, l, e, R, s, m, args, below, meth, c, D, cy, A, Q, ax⟩ := E
  obtain ⟨hx, hb, hml, hown, hts, hK, hA, hX, rfl, rfl⟩ := hE
  intro H locs ls hJ hl
  exact lv_bipush hx hb hd hv (kk H locs ls hJ hl)
theorem x_sipush (hE : zOk E X0 own cc nL R0) {i : Int} {v : Int32} (hd : decode cc pc = .ok (.sipush i, 3)) (hv : (Int16.ofInt i).toInt32 = v) (kk : eW E k n L f (pc + 3) lv (.int v :: st)) : eW E k n L f pc lv st := by
  obtain ⟨p, l, e, R, s, m, args, below, meth, c, D, cy, A, Q, ax⟩ := E
  obtain ⟨hx, hb, hml, hown, hts, hK, hA, hX, rfl, rfl⟩ := hE
  intro H locs ls hJ hl
  exact lv_sipush hx hb hd hv (kk H locs ls hJ hl)
theorem x_lconst (hE : zOk E X0 own cc nL R0) {i : Fin 2} {v : Int64} (hd : decode cc pc = .ok (.lconst i, 1)) (hv : Int64.ofNat (i : Nat) = v) (kk : eW E k n L f (pc + 1) lv (.long v :: st)) : eW E k n L f pc lv st := by
  obtain ⟨p, l, e, R, s, m, args, below, meth, c, D, cy, A, Q, ax⟩ := E
  obtain ⟨hx, hb, hml, hown, hts, hK, hA, hX, rfl, rfl⟩ := hE
  intro H locs ls hJ hl
  exact lv_lconst hx hb hd hv (kk H locs ls hJ hl)
theorem x_ldc (hE : zOk E X0 own cc nL R0) {i : Nat} {v : Int32} (hq : Cond.constant own i v ∈ gtbl) (hd : decode cc pc = .ok (.ldc i, 2)) (kk : eW E k n L f (pc + 2) lv (.int v :: st)) : eW E k n L f pc lv st := by
  obtain ⟨p, l, e, R, s, m, args, below, meth, c, D, cy, A, Q, ax⟩ := E
  obtain ⟨hx, hb, hml, hown, hts, hK, hA, hX, rfl, rfl⟩ := hE
  intro H locs ls hJ hl
  exact lv_ldc hx hb hown (hts _ hq) hd (kk H locs ls hJ hl)
theorem x_ldcw (hE : zOk E X0 own cc nL R0) {i : Nat} {v : Int32} (hq : Cond.constant own i v ∈ gtbl) (hd : decode cc pc = .ok (.ldc_w i, 3)) (kk : eW E k n L f (pc + 3) lv (.int v :: st)) : eW E k n L f pc lv st := by
  obtain ⟨p, l, e, R, s, m, args, below, meth, c, D, cy, A, Q, ax⟩ := E
  obtain ⟨hx, hb, hml, hown, hts, hK, hA, hX, rfl, rfl⟩ := hE
  intro H locs ls hJ hl
  exact lv_ldcw hx hb hown (hts _ hq) hd (kk H locs ls hJ hl)
theorem x_ldc2 (hE : zOk E X0 own cc nL R0) {i : Nat} {v : Int64} (hq : Cond.constantLong own i v ∈ gtbl) (hd : decode cc pc = .ok (.ldc2_w i, 3)) (kk : eW E k n L f (pc + 3) lv (.long v :: st)) : eW E k n L f pc lv st := by
  obtain ⟨p, l, e, R, s, m, args, below, meth, c, D, cy, A, Q, ax⟩ := E
  obtain ⟨hx, hb, hml, hown, hts, hK, hA, hX, rfl, rfl⟩ := hE
  intro H locs ls hJ hl
  exact lv_ldc2 hx hb hown (hts _ hq) hd (kk H locs ls hJ hl)
theorem x_null (hE : zOk E X0 own cc nL R0) (hd : decode cc pc = .ok (.aconst_null, 1)) (kk : eW E k n L f (pc + 1) lv (.null :: st)) : eW E k n L f pc lv st := by
  obtain ⟨p, l, e, R, s, m, args, below, meth, c, D, cy, A, Q, ax⟩ := E
  obtain ⟨hx, hb, hml, hown, hts, hK, hA, hX, rfl, rfl⟩ := hE
  intro H locs ls hJ hl
  exact lv_null hx hb hd (kk H locs ls hJ hl)
theorem x_iload_n (hE : zOk E X0 own cc nL R0) {z : Fin 4} {i : Nat} {x : Int32} (hd : decode cc pc = .ok (.iload_n z, 1)) (hi : (z : Nat) = i) (hj : (i, .int x) ∈ lv) (kk : eW E k n L f (pc + 1) lv (.int x :: st)) : eW E k n L f pc lv st := by
  obtain ⟨p, l, e, R, s, m, args, below, meth, c, D, cy, A, Q, ax⟩ := E
  obtain ⟨hx, hb, hml, hown, hts, hK, hA, hX, rfl, rfl⟩ := hE
  intro H locs ls hJ hl
  exact lv_iload_n hx hb hd hi (hl.2.2 _ hj) (kk H locs ls hJ hl)
theorem x_iload (hE : zOk E X0 own cc nL R0) {i : Nat} {x : Int32} (hd : decode cc pc = .ok (.iload i, 2)) (hj : (i, .int x) ∈ lv) (kk : eW E k n L f (pc + 2) lv (.int x :: st)) : eW E k n L f pc lv st := by
  obtain ⟨p, l, e, R, s, m, args, below, meth, c, D, cy, A, Q, ax⟩ := E
  obtain ⟨hx, hb, hml, hown, hts, hK, hA, hX, rfl, rfl⟩ := hE
  intro H locs ls hJ hl
  exact lv_iload hx hb hd (hl.2.2 _ hj) (kk H locs ls hJ hl)
theorem x_lload_n (hE : zOk E X0 own cc nL R0) {z : Fin 4} {i : Nat} {x : Int64} (hd : decode cc pc = .ok (.lload_n z, 1)) (hi : (z : Nat) = i) (hj : (i, .long x) ∈ lv) (kk : eW E k n L f (pc + 1) lv (.long x :: st)) : eW E k n L f pc lv st := by
  obtain ⟨p, l, e, R, s, m, args, below, meth, c, D, cy, A, Q, ax⟩ := E
  obtain ⟨hx, hb, hml, hown, hts, hK, hA, hX, rfl, rfl⟩ := hE
  intro H locs ls hJ hl
  exact lv_lload_n hx hb hd hi (hl.2.2 _ hj) (kk H locs ls hJ hl)
theorem x_lload (hE : zOk E X0 own cc nL R0) {i : Nat} {x : Int64} (hd : decode cc pc = .ok (.lload i, 2)) (hj : (i, .long x) ∈ lv) (kk : eW E k n L f (pc + 2) lv (.long x :: st)) : eW E k n L f pc lv st := by
  obtain ⟨p, l, e, R, s, m, args, below, meth, c, D, cy, A, Q, ax⟩ := E
  obtain ⟨hx, hb, hml, hown, hts, hK, hA, hX, rfl, rfl⟩ := hE
  intro H locs ls hJ hl
  exact lv_lload hx hb hd (hl.2.2 _ hj) (kk H locs ls hJ hl)
theorem x_aload_n (hE : zOk E X0 own cc nL R0) {z : Fin 4} {i : Nat} {x : Nat} (hd : decode cc pc = .ok (.aload_n z, 1)) (hi : (z : Nat) = i) (hj : (i, .ref x) ∈ lv) (kk : eW E k n L f (pc + 1) lv (.ref x :: st)) : eW E k n L f pc lv st := by
  obtain ⟨p, l, e, R, s, m, args, below, meth, c, D, cy, A, Q, ax⟩ := E
  obtain ⟨hx, hb, hml, hown, hts, hK, hA, hX, rfl, rfl⟩ := hE
  intro H locs ls hJ hl
  exact lv_aload_n hx hb hd hi (hl.2.2 _ hj) (kk H locs ls hJ hl)
theorem x_aload (hE : zOk E X0 own cc nL R0) {i : Nat} {x : Nat} (hd : decode cc pc = .ok (.aload i, 2)) (hj : (i, .ref x) ∈ lv) (kk : eW E k n L f (pc + 2) lv (.ref x :: st)) : eW E k n L f pc lv st := by
  obtain ⟨p, l, e, R, s, m, args, below, meth, c, D, cy, A, Q, ax⟩ := E
  obtain ⟨hx, hb, hml, hown, hts, hK, hA, hX, rfl, rfl⟩ := hE
  intro H locs ls hJ hl
  exact lv_aload hx hb hd (hl.2.2 _ hj) (kk H locs ls hJ hl)
theorem x_aload_nN (hE : zOk E X0 own cc nL R0) {z : Fin 4} {i : Nat} (hd : decode cc pc = .ok (.aload_n z, 1)) (hi : (z : Nat) = i) (hj : (i, .null) ∈ lv) (kk : eW E k n L f (pc + 1) lv (.null :: st)) : eW E k n L f pc lv st := by
  obtain ⟨p, l, e, R, s, m, args, below, meth, c, D, cy, A, Q, ax⟩ := E
  obtain ⟨hx, hb, hml, hown, hts, hK, hA, hX, rfl, rfl⟩ := hE
  intro H locs ls hJ hl
  exact lv_aload_nN hx hb hd hi (hl.2.2 _ hj) (kk H locs ls hJ hl)
theorem x_istore_n (hE : zOk E X0 own cc nL R0) {z : Fin 4} {i : Nat} {x : Int32} {lv' : List (Nat × Value)} (hd : decode cc pc = .ok (.istore_n z, 1)) (hi : (z : Nat) = i) (hn : i < nL) (hl' : (i, Value.int x) :: lv.filter (fun q => !(q.1 == i) && !(q.1 + 1 == i && q.2.category == 2)) = lv') (kk : eW E k n L f (pc + 1) lv' st) : eW E k n L f pc lv (.int x :: st) := by
  obtain ⟨p, l, e, R, s, m, args, below, meth, c, D, cy, A, Q, ax⟩ := E
  obtain ⟨hx, hb, hml, hown, hts, hK, hA, hX, rfl, rfl⟩ := hE
  intro H locs ls hJ hl
  exact lv_istore_n hx hb hd hi hl (by rw [hml]; exact hn) hl' (fun ls hl => (kk H locs ls hJ hl))
theorem x_istore (hE : zOk E X0 own cc nL R0) {i : Nat} {x : Int32} {lv' : List (Nat × Value)} (hd : decode cc pc = .ok (.istore i, 2)) (hn : i < nL) (hl' : (i, Value.int x) :: lv.filter (fun q => !(q.1 == i) && !(q.1 + 1 == i && q.2.category == 2)) = lv') (kk : eW E k n L f (pc + 2) lv' st) : eW E k n L f pc lv (.int x :: st) := by
  obtain ⟨p, l, e, R, s, m, args, below, meth, c, D, cy, A, Q, ax⟩ := E
  obtain ⟨hx, hb, hml, hown, hts, hK, hA, hX, rfl, rfl⟩ := hE
  intro H locs ls hJ hl
  exact lv_istore hx hb hd hl (by rw [hml]; exact hn) hl' (fun ls hl => (kk H locs ls hJ hl))
theorem x_astore_n (hE : zOk E X0 own cc nL R0) {z : Fin 4} {i : Nat} {x : Nat} {lv' : List (Nat × Value)} (hd : decode cc pc = .ok (.astore_n z, 1)) (hi : (z : Nat) = i) (hn : i < nL) (hl' : (i, Value.ref x) :: lv.filter (fun q => !(q.1 == i) && !(q.1 + 1 == i && q.2.category == 2)) = lv') (kk : eW E k n L f (pc + 1) lv' st) : eW E k n L f pc lv (.ref x :: st) := by
  obtain ⟨p, l, e, R, s, m, args, below, meth, c, D, cy, A, Q, ax⟩ := E
  obtain ⟨hx, hb, hml, hown, hts, hK, hA, hX, rfl, rfl⟩ := hE
  intro H locs ls hJ hl
  exact lv_astore_n hx hb hd hi hl (by rw [hml]; exact hn) hl' (fun ls hl => (kk H locs ls hJ hl))
theorem x_astore (hE : zOk E X0 own cc nL R0) {i : Nat} {x : Nat} {lv' : List (Nat × Value)} (hd : decode cc pc = .ok (.astore i, 2)) (hn : i < nL) (hl' : (i, Value.ref x) :: lv.filter (fun q => !(q.1 == i) && !(q.1 + 1 == i && q.2.category == 2)) = lv') (kk : eW E k n L f (pc + 2) lv' st) : eW E k n L f pc lv (.ref x :: st) := by
  obtain ⟨p, l, e, R, s, m, args, below, meth, c, D, cy, A, Q, ax⟩ := E
  obtain ⟨hx, hb, hml, hown, hts, hK, hA, hX, rfl, rfl⟩ := hE
  intro H locs ls hJ hl
  exact lv_astore hx hb hd hl (by rw [hml]; exact hn) hl' (fun ls hl => (kk H locs ls hJ hl))
theorem x_lstore (hE : zOk E X0 own cc nL R0) {i : Nat} {x : Int64} {lv' : List (Nat × Value)} (hd : decode cc pc = .ok (.lstore i, 2)) (hn : i + 1 < nL) (hl' : (i, Value.long x) :: lv.filter (fun q => !(q.1 == i) && (!(q.1 == i + 1) && !(q.1 + 1 == i && q.2.category == 2))) = lv') (kk : eW E k n L f (pc + 2) lv' st) : eW E k n L f pc lv (.long x :: st) := by
  obtain ⟨p, l, e, R, s, m, args, below, meth, c, D, cy, A, Q, ax⟩ := E
  obtain ⟨hx, hb, hml, hown, hts, hK, hA, hX, rfl, rfl⟩ := hE
  intro H locs ls hJ hl
  exact lv_lstore hx hb hd hl (by rw [hml]; exact hn) hl' (fun ls hl => (kk H locs ls hJ hl))
theorem x_iinc (hE : zOk E X0 own cc nL R0) {i : Nat} {z : Int} {x v : Int32} {lv' : List (Nat × Value)} (hd : decode cc pc = .ok (.iinc i z, 3)) (j : Nat) (hj : lv[j]? = some (i, .int x)) (hv : x + Int32.ofInt z = v) (hn : i < nL) (hl' : (i, Value.int v) :: lv.filter (fun q => !(q.1 == i) && !(q.1 + 1 == i && q.2.category == 2)) = lv') (kk : eW E k n L f (pc + 3) lv' st) : eW E k n L f pc lv st := by
  obtain ⟨p, l, e, R, s, m, args, below, meth, c, D, cy, A, Q, ax⟩ := E
  obtain ⟨hx, hb, hml, hown, hts, hK, hA, hX, rfl, rfl⟩ := hE
  intro H locs ls hJ hl
  exact lv_iinc hx hb hd hl hj hv (by rw [hml]; exact hn) hl' (fun ls hl => (kk H locs ls hJ hl))
theorem x_iadd (hE : zOk E X0 own cc nL R0) {x y : Int32} (hd : decode cc pc = .ok (.iadd, 1)) (kk : eW E k n L f (pc + 1) lv (.int (x + y) :: st)) : eW E k n L f pc lv (.int y :: .int x :: st) := by
  obtain ⟨p, l, e, R, s, m, args, below, meth, c, D, cy, A, Q, ax⟩ := E
  obtain ⟨hx, hb, hml, hown, hts, hK, hA, hX, rfl, rfl⟩ := hE
  intro H locs ls hJ hl
  exact lv_iadd hx hb hd (kk H locs ls hJ hl)
theorem x_isub (hE : zOk E X0 own cc nL R0) {x y : Int32} (hd : decode cc pc = .ok (.isub, 1)) (kk : eW E k n L f (pc + 1) lv (.int (x - y) :: st)) : eW E k n L f pc lv (.int y :: .int x :: st) := by
  obtain ⟨p, l, e, R, s, m, args, below, meth, c, D, cy, A, Q, ax⟩ := E
  obtain ⟨hx, hb, hml, hown, hts, hK, hA, hX, rfl, rfl⟩ := hE
  intro H locs ls hJ hl
  exact lv_isub hx hb hd (kk H locs ls hJ hl)
theorem x_imul (hE : zOk E X0 own cc nL R0) {x y : Int32} (hd : decode cc pc = .ok (.imul, 1)) (kk : eW E k n L f (pc + 1) lv (.int (x * y) :: st)) : eW E k n L f pc lv (.int y :: .int x :: st) := by
  obtain ⟨p, l, e, R, s, m, args, below, meth, c, D, cy, A, Q, ax⟩ := E
  obtain ⟨hx, hb, hml, hown, hts, hK, hA, hX, rfl, rfl⟩ := hE
  intro H locs ls hJ hl
  exact lv_imul hx hb hd (kk H locs ls hJ hl)
theorem x_iand (hE : zOk E X0 own cc nL R0) {x y : Int32} (hd : decode cc pc = .ok (.iand, 1)) (kk : eW E k n L f (pc + 1) lv (.int (x &&& y) :: st)) : eW E k n L f pc lv (.int y :: .int x :: st) := by
  obtain ⟨p, l, e, R, s, m, args, below, meth, c, D, cy, A, Q, ax⟩ := E
  obtain ⟨hx, hb, hml, hown, hts, hK, hA, hX, rfl, rfl⟩ := hE
  intro H locs ls hJ hl
  exact lv_iand hx hb hd (kk H locs ls hJ hl)
theorem x_ior (hE : zOk E X0 own cc nL R0) {x y : Int32} (hd : decode cc pc = .ok (.ior, 1)) (kk : eW E k n L f (pc + 1) lv (.int (x ||| y) :: st)) : eW E k n L f pc lv (.int y :: .int x :: st) := by
  obtain ⟨p, l, e, R, s, m, args, below, meth, c, D, cy, A, Q, ax⟩ := E
  obtain ⟨hx, hb, hml, hown, hts, hK, hA, hX, rfl, rfl⟩ := hE
  intro H locs ls hJ hl
  exact lv_ior hx hb hd (kk H locs ls hJ hl)
theorem x_ixor (hE : zOk E X0 own cc nL R0) {x y : Int32} (hd : decode cc pc = .ok (.ixor, 1)) (kk : eW E k n L f (pc + 1) lv (.int (x ^^^ y) :: st)) : eW E k n L f pc lv (.int y :: .int x :: st) := by
  obtain ⟨p, l, e, R, s, m, args, below, meth, c, D, cy, A, Q, ax⟩ := E
  obtain ⟨hx, hb, hml, hown, hts, hK, hA, hX, rfl, rfl⟩ := hE
  intro H locs ls hJ hl
  exact lv_ixor hx hb hd (kk H locs ls hJ hl)
theorem x_ishl (hE : zOk E X0 own cc nL R0) {x y : Int32} (hd : decode cc pc = .ok (.ishl, 1)) (kk : eW E k n L f (pc + 1) lv (.int (x <<< (y &&& 31)) :: st)) : eW E k n L f pc lv (.int y :: .int x :: st) := by
  obtain ⟨p, l, e, R, s, m, args, below, meth, c, D, cy, A, Q, ax⟩ := E
  obtain ⟨hx, hb, hml, hown, hts, hK, hA, hX, rfl, rfl⟩ := hE
  intro H locs ls hJ hl
  exact lv_ishl hx hb hd (kk H locs ls hJ hl)
theorem x_ishr (hE : zOk E X0 own cc nL R0) {x y : Int32} (hd : decode cc pc = .ok (.ishr, 1)) (kk : eW E k n L f (pc + 1) lv (.int (x >>> (y &&& 31)) :: st)) : eW E k n L f pc lv (.int y :: .int x :: st) := by
  obtain ⟨p, l, e, R, s, m, args, below, meth, c, D, cy, A, Q, ax⟩ := E
  obtain ⟨hx, hb, hml, hown, hts, hK, hA, hX, rfl, rfl⟩ := hE
  intro H locs ls hJ hl
  exact lv_ishr hx hb hd (kk H locs ls hJ hl)
theorem x_iushr (hE : zOk E X0 own cc nL R0) {x y : Int32} (hd : decode cc pc = .ok (.iushr, 1)) (kk : eW E k n L f (pc + 1) lv (.int ((x.toUInt32 >>> (y.toUInt32 &&& Int32.toUInt32 31)).toInt32) :: st)) : eW E k n L f pc lv (.int y :: .int x :: st) := by
  obtain ⟨p, l, e, R, s, m, args, below, meth, c, D, cy, A, Q, ax⟩ := E
  obtain ⟨hx, hb, hml, hown, hts, hK, hA, hX, rfl, rfl⟩ := hE
  intro H locs ls hJ hl
  exact lv_iushr hx hb hd rfl (kk H locs ls hJ hl)
theorem x_ineg (hE : zOk E X0 own cc nL R0) {x : Int32} (hd : decode cc pc = .ok (.ineg, 1)) (kk : eW E k n L f (pc + 1) lv (.int (-x) :: st)) : eW E k n L f pc lv (.int x :: st) := by
  obtain ⟨p, l, e, R, s, m, args, below, meth, c, D, cy, A, Q, ax⟩ := E
  obtain ⟨hx, hb, hml, hown, hts, hK, hA, hX, rfl, rfl⟩ := hE
  intro H locs ls hJ hl
  exact lv_ineg hx hb hd (kk H locs ls hJ hl)
theorem x_idiv (hE : zOk E X0 own cc nL R0) {x y : Int32} (hd : decode cc pc = .ok (.idiv, 1)) (hne : ¬ y = 0) (kk : eW E k n L f (pc + 1) lv (.int (x / y) :: st)) : eW E k n L f pc lv (.int y :: .int x :: st) := by
  obtain ⟨p, l, e, R, s, m, args, below, meth, c, D, cy, A, Q, ax⟩ := E
  obtain ⟨hx, hb, hml, hown, hts, hK, hA, hX, rfl, rfl⟩ := hE
  intro H locs ls hJ hl
  exact lv_idiv hx hb hd hne (kk H locs ls hJ hl)
theorem x_irem (hE : zOk E X0 own cc nL R0) {x y : Int32} (hd : decode cc pc = .ok (.irem, 1)) (hne : ¬ y = 0) (kk : eW E k n L f (pc + 1) lv (.int (x - x / y * y) :: st)) : eW E k n L f pc lv (.int y :: .int x :: st) := by
  obtain ⟨p, l, e, R, s, m, args, below, meth, c, D, cy, A, Q, ax⟩ := E
  obtain ⟨hx, hb, hml, hown, hts, hK, hA, hX, rfl, rfl⟩ := hE
  intro H locs ls hJ hl
  exact lv_irem hx hb hd hne (kk H locs ls hJ hl)
theorem x_i2l (hE : zOk E X0 own cc nL R0) {x : Int32} {v : Int64} (hd : decode cc pc = .ok (.i2l, 1)) (hv : x.toInt64 = v) (kk : eW E k n L f (pc + 1) lv (.long v :: st)) : eW E k n L f pc lv (.int x :: st) := by
  obtain ⟨p, l, e, R, s, m, args, below, meth, c, D, cy, A, Q, ax⟩ := E
  obtain ⟨hx, hb, hml, hown, hts, hK, hA, hX, rfl, rfl⟩ := hE
  intro H locs ls hJ hl
  exact lv_i2l hx hb hd hv (kk H locs ls hJ hl)
theorem x_dup (hE : zOk E X0 own cc nL R0) {va : Value} (hd : decode cc pc = .ok (.dup, 1)) (h1 : va.category = 1) (kk : eW E k n L f (pc + 1) lv (va :: va :: st)) : eW E k n L f pc lv (va :: st) := by
  obtain ⟨p, l, e, R, s, m, args, below, meth, c, D, cy, A, Q, ax⟩ := E
  obtain ⟨hx, hb, hml, hown, hts, hK, hA, hX, rfl, rfl⟩ := hE
  intro H locs ls hJ hl
  exact lv_dup hx hb hd h1 (kk H locs ls hJ hl)
theorem x_pop (hE : zOk E X0 own cc nL R0) {va : Value} (hd : decode cc pc = .ok (.pop, 1)) (h1 : va.category = 1) (kk : eW E k n L f (pc + 1) lv st) : eW E k n L f pc lv (va :: st) := by
  obtain ⟨p, l, e, R, s, m, args, below, meth, c, D, cy, A, Q, ax⟩ := E
  obtain ⟨hx, hb, hml, hown, hts, hK, hA, hX, rfl, rfl⟩ := hE
  intro H locs ls hJ hl
  exact lv_pop hx hb hd h1 (kk H locs ls hJ hl)
theorem x_dup_x1 (hE : zOk E X0 own cc nL R0) {va vb : Value} (hd : decode cc pc = .ok (.dup_x1, 1)) (h1 : va.category = 1) (h2 : vb.category = 1) (kk : eW E k n L f (pc + 1) lv (va :: vb :: va :: st)) : eW E k n L f pc lv (va :: vb :: st) := by
  obtain ⟨p, l, e, R, s, m, args, below, meth, c, D, cy, A, Q, ax⟩ := E
  obtain ⟨hx, hb, hml, hown, hts, hK, hA, hX, rfl, rfl⟩ := hE
  intro H locs ls hJ hl
  exact lv_dup_x1 hx hb hd h1 h2 (kk H locs ls hJ hl)
theorem x_dup_x2 (hE : zOk E X0 own cc nL R0) {va vb vd : Value} (hd : decode cc pc = .ok (.dup_x2, 1)) (h1 : va.category = 1) (h2 : vb.category = 1) (h3 : vd.category = 1) (kk : eW E k n L f (pc + 1) lv (va :: vb :: vd :: va :: st)) : eW E k n L f pc lv (va :: vb :: vd :: st) := by
  obtain ⟨p, l, e, R, s, m, args, below, meth, c, D, cy, A, Q, ax⟩ := E
  obtain ⟨hx, hb, hml, hown, hts, hK, hA, hX, rfl, rfl⟩ := hE
  intro H locs ls hJ hl
  exact lv_dup_x2 hx hb hd h1 h2 h3 (kk H locs ls hJ hl)
theorem x_dup2 (hE : zOk E X0 own cc nL R0) {va vb : Value} (hd : decode cc pc = .ok (.dup2, 1)) (h1 : va.category = 1) (h2 : vb.category = 1) (kk : eW E k n L f (pc + 1) lv (va :: vb :: va :: vb :: st)) : eW E k n L f pc lv (va :: vb :: st) := by
  obtain ⟨p, l, e, R, s, m, args, below, meth, c, D, cy, A, Q, ax⟩ := E
  obtain ⟨hx, hb, hml, hown, hts, hK, hA, hX, rfl, rfl⟩ := hE
  intro H locs ls hJ hl
  exact lv_dup2_11 hx hb hd h1 h2 (kk H locs ls hJ hl)
theorem x_if_eq (hE : zOk E X0 own cc nL R0) {x : Int32} {off : Int} {tgt : Nat} (hd : decode cc pc = .ok (.ifCond .eq off, 3)) (ht : (pc : Int) + off = (tgt : Int)) (kt : x = 0 → eW E k n L f tgt lv st) (kf : ¬ (x = 0) → eW E k n L f (pc + 3) lv st) : eW E k n L f pc lv (.int x :: st) := by
  obtain ⟨p, l, e, R, s, m, args, below, meth, c, D, cy, A, Q, ax⟩ := E
  obtain ⟨hx, hb, hml, hown, hts, hK, hA, hX, rfl, rfl⟩ := hE
  intro H locs ls hJ hl
  exact lv_if_eq hx hb hd ht (fun hc => kt hc H locs ls hJ hl) (fun hc => kf hc H locs ls hJ hl)
theorem x_if_ne (hE : zOk E X0 own cc nL R0) {x : Int32} {off : Int} {tgt : Nat} (hd : decode cc pc = .ok (.ifCond .ne off, 3)) (ht : (pc : Int) + off = (tgt : Int)) (kt : x ≠ 0 → eW E k n L f tgt lv st) (kf : x = 0 → eW E k n L f (pc + 3) lv st) : eW E k n L f pc lv (.int x :: st) := by
  obtain ⟨p, l, e, R, s, m, args, below, meth, c, D, cy, A, Q, ax⟩ := E
  obtain ⟨hx, hb, hml, hown, hts, hK, hA, hX, rfl, rfl⟩ := hE
  intro H locs ls hJ hl
  exact lv_if_ne hx hb hd ht (fun hc => kt hc H locs ls hJ hl) (fun hc => kf hc H locs ls hJ hl)
theorem x_if_lt (hE : zOk E X0 own cc nL R0) {x : Int32} {off : Int} {tgt : Nat} (hd : decode cc pc = .ok (.ifCond .lt off, 3)) (ht : (pc : Int) + off = (tgt : Int)) (kt : x < 0 → eW E k n L f tgt lv st) (kf : ¬ (x < 0) → eW E k n L f (pc + 3) lv st) : eW E k n L f pc lv (.int x :: st) := by
  obtain ⟨p, l, e, R, s, m, args, below, meth, c, D, cy, A, Q, ax⟩ := E
  obtain ⟨hx, hb, hml, hown, hts, hK, hA, hX, rfl, rfl⟩ := hE
  intro H locs ls hJ hl
  exact lv_if_lt hx hb hd ht (fun hc => kt hc H locs ls hJ hl) (fun hc => kf hc H locs ls hJ hl)
theorem x_if_ge (hE : zOk E X0 own cc nL R0) {x : Int32} {off : Int} {tgt : Nat} (hd : decode cc pc = .ok (.ifCond .ge off, 3)) (ht : (pc : Int) + off = (tgt : Int)) (kt : 0 ≤ x → eW E k n L f tgt lv st) (kf : ¬ (0 ≤ x) → eW E k n L f (pc + 3) lv st) : eW E k n L f pc lv (.int x :: st) := by
  obtain ⟨p, l, e, R, s, m, args, below, meth, c, D, cy, A, Q, ax⟩ := E
  obtain ⟨hx, hb, hml, hown, hts, hK, hA, hX, rfl, rfl⟩ := hE
  intro H locs ls hJ hl
  exact lv_if_ge hx hb hd ht (fun hc => kt hc H locs ls hJ hl) (fun hc => kf hc H locs ls hJ hl)
theorem x_if_gt (hE : zOk E X0 own cc nL R0) {x : Int32} {off : Int} {tgt : Nat} (hd : decode cc pc = .ok (.ifCond .gt off, 3)) (ht : (pc : Int) + off = (tgt : Int)) (kt : 0 < x → eW E k n L f tgt lv st) (kf : ¬ (0 < x) → eW E k n L f (pc + 3) lv st) : eW E k n L f pc lv (.int x :: st) := by
  obtain ⟨p, l, e, R, s, m, args, below, meth, c, D, cy, A, Q, ax⟩ := E
  obtain ⟨hx, hb, hml, hown, hts, hK, hA, hX, rfl, rfl⟩ := hE
  intro H locs ls hJ hl
  exact lv_if_gt hx hb hd ht (fun hc => kt hc H locs ls hJ hl) (fun hc => kf hc H locs ls hJ hl)
theorem x_if_le (hE : zOk E X0 own cc nL R0) {x : Int32} {off : Int} {tgt : Nat} (hd : decode cc pc = .ok (.ifCond .le off, 3)) (ht : (pc : Int) + off = (tgt : Int)) (kt : x ≤ 0 → eW E k n L f tgt lv st) (kf : ¬ (x ≤ 0) → eW E k n L f (pc + 3) lv st) : eW E k n L f pc lv (.int x :: st) := by
  obtain ⟨p, l, e, R, s, m, args, below, meth, c, D, cy, A, Q, ax⟩ := E
  obtain ⟨hx, hb, hml, hown, hts, hK, hA, hX, rfl, rfl⟩ := hE
  intro H locs ls hJ hl
  exact lv_if_le hx hb hd ht (fun hc => kt hc H locs ls hJ hl) (fun hc => kf hc H locs ls hJ hl)
theorem x_icmp_eq (hE : zOk E X0 own cc nL R0) {x y : Int32} {off : Int} {tgt : Nat} (hd : decode cc pc = .ok (.if_icmp .eq off, 3)) (ht : (pc : Int) + off = (tgt : Int)) (kt : x = y → eW E k n L f tgt lv st) (kf : ¬ (x = y) → eW E k n L f (pc + 3) lv st) : eW E k n L f pc lv (.int y :: .int x :: st) := by
  obtain ⟨p, l, e, R, s, m, args, below, meth, c, D, cy, A, Q, ax⟩ := E
  obtain ⟨hx, hb, hml, hown, hts, hK, hA, hX, rfl, rfl⟩ := hE
  intro H locs ls hJ hl
  exact lv_icmp_eq hx hb hd ht (fun hc => kt hc H locs ls hJ hl) (fun hc => kf hc H locs ls hJ hl)
theorem x_icmp_ne (hE : zOk E X0 own cc nL R0) {x y : Int32} {off : Int} {tgt : Nat} (hd : decode cc pc = .ok (.if_icmp .ne off, 3)) (ht : (pc : Int) + off = (tgt : Int)) (kt : x ≠ y → eW E k n L f tgt lv st) (kf : x = y → eW E k n L f (pc + 3) lv st) : eW E k n L f pc lv (.int y :: .int x :: st) := by
  obtain ⟨p, l, e, R, s, m, args, below, meth, c, D, cy, A, Q, ax⟩ := E
  obtain ⟨hx, hb, hml, hown, hts, hK, hA, hX, rfl, rfl⟩ := hE
  intro H locs ls hJ hl
  exact lv_icmp_ne hx hb hd ht (fun hc => kt hc H locs ls hJ hl) (fun hc => kf hc H locs ls hJ hl)
theorem x_icmp_lt (hE : zOk E X0 own cc nL R0) {x y : Int32} {off : Int} {tgt : Nat} (hd : decode cc pc = .ok (.if_icmp .lt off, 3)) (ht : (pc : Int) + off = (tgt : Int)) (kt : x < y → eW E k n L f tgt lv st) (kf : ¬ (x < y) → eW E k n L f (pc + 3) lv st) : eW E k n L f pc lv (.int y :: .int x :: st) := by
  obtain ⟨p, l, e, R, s, m, args, below, meth, c, D, cy, A, Q, ax⟩ := E
  obtain ⟨hx, hb, hml, hown, hts, hK, hA, hX, rfl, rfl⟩ := hE
  intro H locs ls hJ hl
  exact lv_icmp_lt hx hb hd ht (fun hc => kt hc H locs ls hJ hl) (fun hc => kf hc H locs ls hJ hl)
theorem x_icmp_ge (hE : zOk E X0 own cc nL R0) {x y : Int32} {off : Int} {tgt : Nat} (hd : decode cc pc = .ok (.if_icmp .ge off, 3)) (ht : (pc : Int) + off = (tgt : Int)) (kt : y ≤ x → eW E k n L f tgt lv st) (kf : ¬ (y ≤ x) → eW E k n L f (pc + 3) lv st) : eW E k n L f pc lv (.int y :: .int x :: st) := by
  obtain ⟨p, l, e, R, s, m, args, below, meth, c, D, cy, A, Q, ax⟩ := E
  obtain ⟨hx, hb, hml, hown, hts, hK, hA, hX, rfl, rfl⟩ := hE
  intro H locs ls hJ hl
  exact lv_icmp_ge hx hb hd ht (fun hc => kt hc H locs ls hJ hl) (fun hc => kf hc H locs ls hJ hl)
theorem x_icmp_gt (hE : zOk E X0 own cc nL R0) {x y : Int32} {off : Int} {tgt : Nat} (hd : decode cc pc = .ok (.if_icmp .gt off, 3)) (ht : (pc : Int) + off = (tgt : Int)) (kt : y < x → eW E k n L f tgt lv st) (kf : ¬ (y < x) → eW E k n L f (pc + 3) lv st) : eW E k n L f pc lv (.int y :: .int x :: st) := by
  obtain ⟨p, l, e, R, s, m, args, below, meth, c, D, cy, A, Q, ax⟩ := E
  obtain ⟨hx, hb, hml, hown, hts, hK, hA, hX, rfl, rfl⟩ := hE
  intro H locs ls hJ hl
  exact lv_icmp_gt hx hb hd ht (fun hc => kt hc H locs ls hJ hl) (fun hc => kf hc H locs ls hJ hl)
theorem x_icmp_le (hE : zOk E X0 own cc nL R0) {x y : Int32} {off : Int} {tgt : Nat} (hd : decode cc pc = .ok (.if_icmp .le off, 3)) (ht : (pc : Int) + off = (tgt : Int)) (kt : x ≤ y → eW E k n L f tgt lv st) (kf : ¬ (x ≤ y) → eW E k n L f (pc + 3) lv st) : eW E k n L f pc lv (.int y :: .int x :: st) := by
  obtain ⟨p, l, e, R, s, m, args, below, meth, c, D, cy, A, Q, ax⟩ := E
  obtain ⟨hx, hb, hml, hown, hts, hK, hA, hX, rfl, rfl⟩ := hE
  intro H locs ls hJ hl
  exact lv_icmp_le hx hb hd ht (fun hc => kt hc H locs ls hJ hl) (fun hc => kf hc H locs ls hJ hl)
theorem x_goto (hE : zOk E X0 own cc nL R0) {off : Int} {tgt : Nat} (hd : decode cc pc = .ok (.goto off, 3)) (ht : (pc : Int) + off = (tgt : Int)) (kk : eW E k n L f tgt lv st) : eW E k n L f pc lv st := by
  obtain ⟨p, l, e, R, s, m, args, below, meth, c, D, cy, A, Q, ax⟩ := E
  obtain ⟨hx, hb, hml, hown, hts, hK, hA, hX, rfl, rfl⟩ := hE
  intro H locs ls hJ hl
  exact lv_goto hx hb hd ht (kk H locs ls hJ hl)
theorem x_ifnull (hE : zOk E X0 own cc nL R0) {a : Nat} {off : Int} (hd : decode cc pc = .ok (.ifnull off, 3)) (kk : eW E k n L f (pc + 3) lv st) : eW E k n L f pc lv (.ref a :: st) := by
  obtain ⟨p, l, e, R, s, m, args, below, meth, c, D, cy, A, Q, ax⟩ := E
  obtain ⟨hx, hb, hml, hown, hts, hK, hA, hX, rfl, rfl⟩ := hE
  intro H locs ls hJ hl
  exact lv_ifnull hx hb hd (kk H locs ls hJ hl)
theorem x_ifnonnull (hE : zOk E X0 own cc nL R0) {a : Nat} {off : Int} {tgt : Nat} (hd : decode cc pc = .ok (.ifnonnull off, 3)) (ht : (pc : Int) + off = (tgt : Int)) (kk : eW E k n L f tgt lv st) : eW E k n L f pc lv (.ref a :: st) := by
  obtain ⟨p, l, e, R, s, m, args, below, meth, c, D, cy, A, Q, ax⟩ := E
  obtain ⟨hx, hb, hml, hown, hts, hK, hA, hX, rfl, rfl⟩ := hE
  intro H locs ls hJ hl
  exact lv_ifnonnull hx hb hd ht (kk H locs ls hJ hl)
theorem x_tableOut (hE : zOk E X0 own cc nL R0) {dflt lo hi : Int} {offs : Array Int} {len : Nat} {x : Int32} {tgt : Nat} (hd : decode cc pc = .ok (.tableswitch dflt lo hi offs, len)) (h : x.toInt < lo ∨ hi < x.toInt) (ht : (pc : Int) + dflt = (tgt : Int)) (kk : eW E k n L f tgt lv st) : eW E k n L f pc lv (.int x :: st) := by
  obtain ⟨p, l, e, R, s, m, args, below, meth, c, D, cy, A, Q, ax⟩ := E
  obtain ⟨hx, hb, hml, hown, hts, hK, hA, hX, rfl, rfl⟩ := hE
  intro H locs ls hJ hl
  exact lv_tableOut hx hb hd h ht (kk H locs ls hJ hl)
theorem x_tableIn (hE : zOk E X0 own cc nL R0) {dflt lo hi : Int} {offs : Array Int} {len : Nat} {x : Int32} {off : Int} {tgt : Nat} (hd : decode cc pc = .ok (.tableswitch dflt lo hi offs, len)) (h1 : ¬ x.toInt < lo) (h2 : ¬ hi < x.toInt) (ho : offs[(x.toInt - lo).toNat]? = some off) (ht : (pc : Int) + off = (tgt : Int)) (kk : eW E k n L f tgt lv st) : eW E k n L f pc lv (.int x :: st) := by
  obtain ⟨p, l, e, R, s, m, args, below, meth, c, D, cy, A, Q, ax⟩ := E
  obtain ⟨hx, hb, hml, hown, hts, hK, hA, hX, rfl, rfl⟩ := hE
  intro H locs ls hJ hl
  exact lv_tableIn hx hb hd h1 h2 ho ht (kk H locs ls hJ hl)
/-- fewer locals -/
theorem x_sub {lv' : List (Nat × Value)} (hs : ∀ q ∈ lv', q ∈ lv) (kk : eW E k n L f pc lv' st) : eW E k n L f pc lv st := by
  obtain ⟨p, l, e, R, s, m, args, below, meth, c, D, cy, A, Q, ax⟩ := E
  intro H locs ls hJ hl
  exact kk H locs ls hJ ⟨hl.1, hl.2.1, fun q hq => hl.2.2 q (hs q hq)⟩
theorem x_widen {k' n' : Nat} (h1 : k ≤ k') (h2 : n ≤ n') (kk : eW E k' n' L f pc lv st) : eW E k n L f pc lv st := by
  obtain ⟨p, l, e, R, s, m, args, below, meth, c, D, cy, A, Q, ax⟩ := E
  intro H locs ls hJ hl
  exact W.widen h1 h2 (kk H locs ls hJ hl)
theorem x_ladd (hE : zOk E X0 own cc nL R0) {x y : Int64} (hd : decode cc pc = .ok (.ladd, 1)) (kk : eW E k n L f (pc + 1) lv (.long (x + y) :: st)) : eW E k n L f pc lv (.long y :: .long x :: st) := by
  obtain ⟨p, l, e, R, s, m, args, below, meth, c, D, cy, A, Q, ax⟩ := E
  obtain ⟨hx, hb, hml, hown, hts, hK, hA, hX, rfl, rfl⟩ := hE
  intro H locs ls hJ hl
  exact lv_ladd hx hb hd (kk H locs ls hJ hl)
theorem x_lsub (hE : zOk E X0 own cc nL R0) {x y : Int64} (hd : decode cc pc = .ok (.lsub, 1)) (kk : eW E k n L f (pc + 1) lv (.long (x - y) :: st)) : eW E k n L f pc lv (.long y :: .long x :: st) := by
  obtain ⟨p, l, e, R, s, m, args, below, meth, c, D, cy, A, Q, ax⟩ := E
  obtain ⟨hx, hb, hml, hown, hts, hK, hA, hX, rfl, rfl⟩ := hE
  intro H locs ls hJ hl
  exact lv_lsub hx hb hd (kk H locs ls hJ hl)
theorem x_lmul (hE : zOk E X0 own cc nL R0) {x y : Int64} (hd : decode cc pc = .ok (.lmul, 1)) (kk : eW E k n L f (pc + 1) lv (.long (x * y) :: st)) : eW E k n L f pc lv (.long y :: .long x :: st) := by
  obtain ⟨p, l, e, R, s, m, args, below, meth, c, D, cy, A, Q, ax⟩ := E
  obtain ⟨hx, hb, hml, hown, hts, hK, hA, hX, rfl, rfl⟩ := hE
  intro H locs ls hJ hl
  exact lv_lmul hx hb hd (kk H locs ls hJ hl)
theorem x_land (hE : zOk E X0 own cc nL R0) {x y : Int64} (hd : decode cc pc = .ok (.land, 1)) (kk : eW E k n L f (pc + 1) lv (.long (x &&& y) :: st)) : eW E k n L f pc lv (.long y :: .long x :: st) := by
  obtain ⟨p, l, e, R, s, m, args, below, meth, c, D, cy, A, Q, ax⟩ := E
  obtain ⟨hx, hb, hml, hown, hts, hK, hA, hX, rfl, rfl⟩ := hE
  intro H locs ls hJ hl
  exact lv_land hx hb hd (kk H locs ls hJ hl)
theorem x_lor (hE : zOk E X0 own cc nL R0) {x y : Int64} (hd : decode cc pc = .ok (.lor, 1)) (kk : eW E k n L f (pc + 1) lv (.long (x ||| y) :: st)) : eW E k n L f pc lv (.long y :: .long x :: st) := by
  obtain ⟨p, l, e, R, s, m, args, below, meth, c, D, cy, A, Q, ax⟩ := E
  obtain ⟨hx, hb, hml, hown, hts, hK, hA, hX, rfl, rfl⟩ := hE
  intro H locs ls hJ hl
  exact lv_lor hx hb hd (kk H locs ls hJ hl)
theorem x_ldiv (hE : zOk E X0 own cc nL R0) {x y : Int64} (hd : decode cc pc = .ok (.ldiv, 1)) (hne : ¬ y = 0) (kk : eW E k n L f (pc + 1) lv (.long (x / y) :: st)) : eW E k n L f pc lv (.long y :: .long x :: st) := by
  obtain ⟨p, l, e, R, s, m, args, below, meth, c, D, cy, A, Q, ax⟩ := E
  obtain ⟨hx, hb, hml, hown, hts, hK, hA, hX, rfl, rfl⟩ := hE
  intro H locs ls hJ hl
  exact lv_ldiv hx hb hd hne (kk H locs ls hJ hl)
theorem x_lrem (hE : zOk E X0 own cc nL R0) {x y : Int64} (hd : decode cc pc = .ok (.lrem, 1)) (hne : ¬ y = 0) (kk : eW E k n L f (pc + 1) lv (.long (x - x / y * y) :: st)) : eW E k n L f pc lv (.long y :: .long x :: st) := by
  obtain ⟨p, l, e, R, s, m, args, below, meth, c, D, cy, A, Q, ax⟩ := E
  obtain ⟨hx, hb, hml, hown, hts, hK, hA, hX, rfl, rfl⟩ := hE
  intro H locs ls hJ hl
  exact lv_lrem hx hb hd hne (kk H locs ls hJ hl)
theorem x_lneg (hE : zOk E X0 own cc nL R0) {x : Int64} (hd : decode cc pc = .ok (.lneg, 1)) (kk : eW E k n L f (pc + 1) lv (.long (-x) :: st)) : eW E k n L f pc lv (.long x :: st) := by
  obtain ⟨p, l, e, R, s, m, args, below, meth, c, D, cy, A, Q, ax⟩ := E
  obtain ⟨hx, hb, hml, hown, hts, hK, hA, hX, rfl, rfl⟩ := hE
  intro H locs ls hJ hl
  exact lv_lneg hx hb hd (kk H locs ls hJ hl)
theorem x_lshl (hE : zOk E X0 own cc nL R0) {x : Int64} {y : Int32} (hd : decode cc pc = .ok (.lshl, 1)) (kk : eW E k n L f (pc + 1) lv (.long (x <<< (y.toInt64 &&& 63)) :: st)) : eW E k n L f pc lv (.int y :: .long x :: st) := by
  obtain ⟨p, l, e, R, s, m, args, below, meth, c, D, cy, A, Q, ax⟩ := E
  obtain ⟨hx, hb, hml, hown, hts, hK, hA, hX, rfl, rfl⟩ := hE
  intro H locs ls hJ hl
  exact lv_lshl hx hb hd rfl (kk H locs ls hJ hl)
theorem x_lshr (hE : zOk E X0 own cc nL R0) {x : Int64} {y : Int32} (hd : decode cc pc = .ok (.lshr, 1)) (kk : eW E k n L f (pc + 1) lv (.long (x >>> (y.toInt64 &&& 63)) :: st)) : eW E k n L f pc lv (.int y :: .long x :: st) := by
  obtain ⟨p, l, e, R, s, m, args, below, meth, c, D, cy, A, Q, ax⟩ := E
  obtain ⟨hx, hb, hml, hown, hts, hK, hA, hX, rfl, rfl⟩ := hE
  intro H locs ls hJ hl
  exact lv_lshr hx hb hd rfl (kk H locs ls hJ hl)
theorem x_l2i (hE : zOk E X0 own cc nL R0) {x : Int64} (hd : decode cc pc = .ok (.l2i, 1)) (kk : eW E k n L f (pc + 1) lv (.int x.toInt32 :: st)) : eW E k n L f pc lv (.long x :: st) := by
  obtain ⟨p, l, e, R, s, m, args, below, meth, c, D, cy, A, Q, ax⟩ := E
  obtain ⟨hx, hb, hml, hown, hts, hK, hA, hX, rfl, rfl⟩ := hE
  intro H locs ls hJ hl
  exact lv_l2i hx hb hd rfl (kk H locs ls hJ hl)
theorem x_lcmp (hE : zOk E X0 own cc nL R0) {x y : Int64} (hd : decode cc pc = .ok (.lcmp, 1)) (kk : eW E k n L f (pc + 1) lv (.int (lg_cmp x y) :: st)) : eW E k n L f pc lv (.long y :: .long x :: st) := by
  obtain ⟨p, l, e, R, s, m, args, below, meth, c, D, cy, A, Q, ax⟩ := E
  obtain ⟨hx, hb, hml, hown, hts, hK, hA, hX, rfl, rfl⟩ := hE
  intro H locs ls hJ hl
  exact W.lcmp hx hb hd (kk H locs ls hJ hl)
theorem x_i2c (hE : zOk E X0 own cc nL R0) {x : Int32} (hd : decode cc pc = .ok (.i2c, 1)) (kk : eW E k n L f (pc + 1) lv (.int (x.toUInt32 % 65536).toInt32 :: st)) : eW E k n L f pc lv (.int x :: st) := by
  obtain ⟨p, l, e, R, s, m, args, below, meth, c, D, cy, A, Q, ax⟩ := E
  obtain ⟨hx, hb, hml, hown, hts, hK, hA, hX, rfl, rfl⟩ := hE
  intro H locs ls hJ hl
  exact lv_i2c hx hb hd rfl (kk H locs ls hJ hl)
theorem x_ifnullN (hE : zOk E X0 own cc nL R0) {off : Int} {tgt : Nat} (hd : decode cc pc = .ok (.ifnull off, 3)) (ht : (pc : Int) + off = (tgt : Int)) (kk : eW E k n L f tgt lv st) : eW E k n L f pc lv (.null :: st) := by
  obtain ⟨p, l, e, R, s, m, args, below, meth, c, D, cy, A, Q, ax⟩ := E
  obtain ⟨hx, hb, hml, hown, hts, hK, hA, hX, rfl, rfl⟩ := hE
  intro H locs ls hJ hl
  exact lv_ifnullN hx hb hd ht (kk H locs ls hJ hl)
theorem x_ifnonnullN (hE : zOk E X0 own cc nL R0) {off : Int} (hd : decode cc pc = .ok (.ifnonnull off, 3)) (kk : eW E k n L f (pc + 3) lv st) : eW E k n L f pc lv (.null :: st) := by
  obtain ⟨p, l, e, R, s, m, args, below, meth, c, D, cy, A, Q, ax⟩ := E
  obtain ⟨hx, hb, hml, hown, hts, hK, hA, hX, rfl, rfl⟩ := hE
  intro H locs ls hJ hl
  exact lv_ifnonnullN hx hb hd (kk H locs ls hJ hl)
theorem x_astore_nN (hE : zOk E X0 own cc nL R0) {z : Fin 4} {i : Nat} {lv' : List (Nat × Value)} (hd : decode cc pc = .ok (.astore_n z, 1)) (hi : (z : Nat) = i) (hn : i < nL) (hl' : (i, Value.null) :: lv.filter (fun q => !(q.1 == i) && !(q.1 + 1 == i && q.2.category == 2)) = lv') (kk : eW E k n L f (pc + 1) lv' st) : eW E k n L f pc lv (.null :: st) := by
  obtain ⟨p, l, e, R, s, m, args, below, meth, c, D, cy, A, Q, ax⟩ := E
  obtain ⟨hx, hb, hml, hown, hts, hK, hA, hX, rfl, rfl⟩ := hE
  intro H locs ls hJ hl
  exact lv_astore_nN hx hb hd hi hl (by rw [hml]; exact hn) hl' (fun ls hl => kk H locs ls hJ hl)
theorem x_astoreN (hE : zOk E X0 own cc nL R0) {i : Nat} {lv' : List (Nat × Value)} (hd : decode cc pc = .ok (.astore i, 2)) (hn : i < nL) (hl' : (i, Value.null) :: lv.filter (fun q => !(q.1 == i) && !(q.1 + 1 == i && q.2.category == 2)) = lv') (kk : eW E k n L f (pc + 2) lv' st) : eW E k n L f pc lv (.null :: st) := by
  obtain ⟨p, l, e, R, s, m, args, below, meth, c, D, cy, A, Q, ax⟩ := E
  obtain ⟨hx, hb, hml, hown, hts, hK, hA, hX, rfl, rfl⟩ := hE
  intro H locs ls hJ hl
  exact lv_astoreN hx hb hd hl (by rw [hml]; exact hn) hl' (fun ls hl => kk H locs ls hJ hl)
theorem x_aloadN (hE : zOk E X0 own cc nL R0) {i : Nat} (hd : decode cc pc = .ok (.aload i, 2)) (hj : (i, .null) ∈ lv) (kk : eW E k n L f (pc + 2) lv (.null :: st)) : eW E k n L f pc lv st := by
  obtain ⟨p, l, e, R, s, m, args, below, meth, c, D, cy, A, Q, ax⟩ := E
  obtain ⟨hx, hb, hml, hown, hts, hK, hA, hX, rfl, rfl⟩ := hE
  intro H locs ls hJ hl
  exact lv_aloadN hx hb hd (hl.2.2 _ hj) (kk H locs ls hJ hl)
end ZP
section ZR
variable {E : zCx} {l0 : Launch} {D0 : va_G} {cy0 : Nat → ClassId} {ax0 : zAx} {own : String} {cc : ByteArray} {nL : Nat} {R0 : Room} {k n : Nat} {L : List Nat} {f : Nat → va_E} {pc : Nat} {lv : List (Nat × Value)} {st : List Value}
variable {a ci index N j0 : Nat} {fs : List Value} {C : String} {T : u_T}
theorem h_get {v : Value} (hE : zOk E (l0, D0, cy0, ax0) own cc nL R0) (ha : a ∈ L) (hfa : f a = .inr (ci, fs)) (hc : vwCl[ci]? = some (C, T, N)) (hin : ∀ w ∈ u_ws C T N, w ∈ gtbl) (j : Nat) (hj : j < N) (hq : Cond.fieldLink own index (T j).1 (T j).2.1 (T j).2.2.1 ∈ gtbl) (hS : fs[j]? = some v) (hd : decode cc pc = .ok (.getfield index, 3)) (kk : eW E k n L f (pc + 3) lv (v :: st)) : eW E k n L f pc lv (.ref a :: st) := by
  obtain ⟨p, l, e, R, s, m, args, below, meth, c, D, cy, A, Q, ax⟩ := E
  obtain ⟨hx, hb, hml, hown, hts, hK, hA, hX, rfl, hh⟩ := hE
  cases hh
  intro H locs ls hJ hl
  obtain ⟨hP, hD, hS0⟩ := id hJ
  obtain ⟨q0, hq0⟩ := z_plget (f := f) ha
  exact va_get hx hb hts hin hown hK.1 hP q0 (by rw [← hfa]; exact hq0) hc j hj (hts _ hq) (fun x h => h) hS hd (kk H locs ls hJ hl)
theorem h_put {v : Value} {ty : FieldType} {ty0 : Nat → FieldType} (hE : zOk E (l0, D0, cy0, ax0) own cc nL R0) (hI : zIn E ∧ (T j0).2.2.2 = true ∧ (T j0).1 = own ∨ (T j0).2.2.2 = false) (ha : a ∈ L) (hfa : f a = .inr (ci, fs)) (hc : vwCl[ci]? = some (C, T, N)) (hin : ∀ w ∈ u_ws C T N, w ∈ gtbl) (hty : ∀ k, k < N → parseFieldDescriptor (T k).2.2.1 = some (ty0 k)) (hnm : ∀ a, a < N → ∀ b, b < N → a ≠ b → (T a).2.1 ≠ (T b).2.1) (hj : j0 < N) (hlen : j0 < fs.length) (hq : Cond.fieldLink own index (T j0).1 (T j0).2.1 (T j0).2.2.1 ∈ gtbl) (hdsc : parseFieldDescriptor (T j0).2.2.1 = some ty) (hn : narrow ty v = v) (hfit : fits ty v = true) (hd : decode cc pc = .ok (.putfield index, 3)) (kk : eW E k n L (va_up f a (.inr (ci, fs.set j0 v))) (pc + 3) lv st) : eW E k n L f pc lv (v :: .ref a :: st) := by
  obtain ⟨p, l, e, R, s, m, args, below, meth, c, D, cy, A, Q, ax⟩ := E
  obtain ⟨hx, hb, hml, hown, hts, hK, hA, hX, rfl, hh⟩ := hE
  cases hh
  intro H locs ls hJ hl
  obtain ⟨hP, hD, hS0⟩ := id hJ
  obtain ⟨q0, hq0⟩ := z_plget (f := f) ha
  have h9 := z_plset (e := .inr (ci, fs.set j0 v)) hD ha hq0
  rcases hI with ⟨hi1, hi2, hi3⟩ | hi
  · exact va_putF hx hb hts hin ty0 hty hnm hown hK.1 hP hD hS0 q0 (by rw [← hfa]; exact hq0) hc j0 hj (hts _ hq) (fun x h => h) hi2 hi1 hi3 hdsc hn hfit hlen hd (fun H1 locs1 hP1 hD1 hS1 => kk H1 locs1 ls ⟨h9 ▸ hP1, h9 ▸ hD1, hS1⟩ hl)
  · exact va_put hx hb hts hin ty0 hty hnm hown hK.1 hP hD hS0 q0 (by rw [← hfa]; exact hq0) hc j0 hj (hts _ hq) (fun x h => h) hi hdsc hn hfit hlen hd (fun H1 locs1 hP1 hD1 hS1 => kk H1 locs1 ls ⟨h9 ▸ hP1, h9 ▸ hD1, hS1⟩ hl)
theorem h_iald {N0 : Nat} {g : Nat → Int32} {i : Int32} (hE : zOk E (l0, D0, cy0, ax0) own cc nL R0) (ha : a ∈ L) (hfa : f a = zIA cy0 N0 g) (hi : vp_in i N0) (hd : decode cc pc = .ok (.iaload, 1)) (kk : eW E k n L f (pc + 1) lv (.int (g i.toNatClampNeg) :: st)) : eW E k n L f pc lv (.int i :: .ref a :: st) := by
  obtain ⟨p, l, e, R, s, m, args, below, meth, c, D, cy, A, Q, ax⟩ := E
  obtain ⟨hx, hb, hml, hown, hts, hK, hA, hX, rfl, hh⟩ := hE
  cases hh
  intro H locs ls hJ hl
  obtain ⟨hP, hD, hS0⟩ := id hJ
  obtain ⟨q0, hq0⟩ := z_plget (f := f) ha
  exact va_iald hx hb hK.1 hP q0 0 (by rw [hfa] at hq0; exact hq0) rfl hi hd (kk H locs ls hJ hl)
theorem h_zald {N0 : Nat} {g : Nat → Int32} {i : Int32} (hE : zOk E (l0, D0, cy0, ax0) own cc nL R0) (ha : a ∈ L) (hfa : f a = zZA cy0 N0 g) (hi : vp_in i N0) (hd : decode cc pc = .ok (.baload, 1)) (kk : eW E k n L f (pc + 1) lv (.int (g i.toNatClampNeg) :: st)) : eW E k n L f pc lv (.int i :: .ref a :: st) := by
  obtain ⟨p, l, e, R, s, m, args, below, meth, c, D, cy, A, Q, ax⟩ := E
  obtain ⟨hx, hb, hml, hown, hts, hK, hA, hX, rfl, hh⟩ := hE
  cases hh
  intro H locs ls hJ hl
  obtain ⟨hP, hD, hS0⟩ := id hJ
  obtain ⟨q0, hq0⟩ := z_plget (f := f) ha
  exact va_zald hx hb hK.1 hP q0 2 (by rw [hfa] at hq0; exact hq0) rfl hi hd (kk H locs ls hJ hl)
theorem h_lald {N0 : Nat} {g : Nat → Int64} {i : Int32} (hE : zOk E (l0, D0, cy0, ax0) own cc nL R0) (ha : a ∈ L) (hfa : f a = zJA cy0 N0 g) (hi : vp_in i N0) (hd : decode cc pc = .ok (.laload, 1)) (kk : eW E k n L f (pc + 1) lv (.long (g i.toNatClampNeg) :: st)) : eW E k n L f pc lv (.int i :: .ref a :: st) := by
  obtain ⟨p, l, e, R, s, m, args, below, meth, c, D, cy, A, Q, ax⟩ := E
  obtain ⟨hx, hb, hml, hown, hts, hK, hA, hX, rfl, hh⟩ := hE
  cases hh
  intro H locs ls hJ hl
  obtain ⟨hP, hD, hS0⟩ := id hJ
  obtain ⟨q0, hq0⟩ := z_plget (f := f) ha
  exact va_lald hx hb hK.1 hP q0 1 (by rw [hfa] at hq0; exact hq0) rfl hi hd (kk H locs ls hJ hl)
theorem h_iast {N0 : Nat} {g : Nat → Int32} {i v : Int32} (hE : zOk E (l0, D0, cy0, ax0) own cc nL R0) (ha : a ∈ L) (hfa : f a = zIA cy0 N0 g) (hi : vp_in i N0) (hd : decode cc pc = .ok (.iastore, 1)) (kk : eW E k n L (va_up f a (zIA cy0 N0 (upd g i.toNatClampNeg v))) (pc + 1) lv st) : eW E k n L f pc lv (.int v :: .int i :: .ref a :: st) := by
  obtain ⟨p, l, e, R, s, m, args, below, meth, c, D, cy, A, Q, ax⟩ := E
  obtain ⟨hx, hb, hml, hown, hts, hK, hA, hX, rfl, hh⟩ := hE
  cases hh
  intro H locs ls hJ hl
  obtain ⟨hP, hD, hS0⟩ := id hJ
  obtain ⟨q0, hq0⟩ := z_plget (f := f) ha
  have h9 := z_plset (e := .inl (cy0 0, N0, .inl (upd g i.toNatClampNeg v))) hD ha hq0
  exact va_iast hx hb hK.1 hP hD hS0 q0 0 (by rw [hfa] at hq0; exact hq0) rfl hi hd (fun H1 locs1 hP1 hD1 hS1 => kk H1 locs1 ls ⟨h9 ▸ hP1, h9 ▸ hD1, hS1⟩ hl)
theorem h_zast {N0 : Nat} {g : Nat → Int32} {i v : Int32} (hE : zOk E (l0, D0, cy0, ax0) own cc nL R0) (ha : a ∈ L) (hfa : f a = zZA cy0 N0 g) (hi : vp_in i N0) (hd : decode cc pc = .ok (.bastore, 1)) (kk : eW E k n L (va_up f a (zZA cy0 N0 (upd g i.toNatClampNeg (vp_nar .boolean v)))) (pc + 1) lv st) : eW E k n L f pc lv (.int v :: .int i :: .ref a :: st) := by
  obtain ⟨p, l, e, R, s, m, args, below, meth, c, D, cy, A, Q, ax⟩ := E
  obtain ⟨hx, hb, hml, hown, hts, hK, hA, hX, rfl, hh⟩ := hE
  cases hh
  intro H locs ls hJ hl
  obtain ⟨hP, hD, hS0⟩ := id hJ
  obtain ⟨q0, hq0⟩ := z_plget (f := f) ha
  have h9 := z_plset (e := .inl (cy0 2, N0, .inl (upd g i.toNatClampNeg (vp_nar .boolean v)))) hD ha hq0
  exact va_zast hx hb hK.1 hP hD hS0 q0 2 (by rw [hfa] at hq0; exact hq0) rfl hi hd (fun H1 locs1 hP1 hD1 hS1 => kk H1 locs1 ls ⟨h9 ▸ hP1, h9 ▸ hD1, hS1⟩ hl)
theorem h_last {N0 : Nat} {g : Nat → Int64} {i : Int32} {v : Int64} (hE : zOk E (l0, D0, cy0, ax0) own cc nL R0) (ha : a ∈ L) (hfa : f a = zJA cy0 N0 g) (hi : vp_in i N0) (hd : decode cc pc = .ok (.lastore, 1)) (kk : eW E k n L (va_up f a (zJA cy0 N0 (vp_updL g i.toNatClampNeg v))) (pc + 1) lv st) : eW E k n L f pc lv (.long v :: .int i :: .ref a :: st) := by
  obtain ⟨p, l, e, R, s, m, args, below, meth, c, D, cy, A, Q, ax⟩ := E
  obtain ⟨hx, hb, hml, hown, hts, hK, hA, hX, rfl, hh⟩ := hE
  cases hh
  intro H locs ls hJ hl
  obtain ⟨hP, hD, hS0⟩ := id hJ
  obtain ⟨q0, hq0⟩ := z_plget (f := f) ha
  have h9 := z_plset (e := .inl (cy0 1, N0, .inr (.inl (vp_updL g i.toNatClampNeg v)))) hD ha hq0
  exact va_last hx hb hK.1 hP hD hS0 q0 1 (by rw [hfa] at hq0; exact hq0) rfl hi hd (fun H1 locs1 hP1 hD1 hS1 => kk H1 locs1 ls ⟨h9 ▸ hP1, h9 ▸ hD1, hS1⟩ hl)
theorem h_aald {t0 N0 : Nat} {g : Nat → Option Nat} {i : Int32} (hE : zOk E (l0, D0, cy0, ax0) own cc nL R0) (ha : a ∈ L) (ht : t0 = 3 ∧ C = "OwnRain$Text" ∨ t0 = 4 ∧ C = "OwnRain$World") (hfa : f a = zRA (cy0 t0) N0 g) (hi : vp_in i N0) (hd : decode cc pc = .ok (.aaload, 1)) (kk : eW E k n L f (pc + 1) lv (va_rf (g i.toNatClampNeg) :: st)) : eW E k n L f pc lv (.int i :: .ref a :: st) := by
  obtain ⟨p, l, e, R, s, m, args, below, meth, c, D, cy, A, Q, ax⟩ := E
  obtain ⟨hx, hb, hml, hown, hts, hK, hA, hX, rfl, hh⟩ := hE
  cases hh
  intro H locs ls hJ hl
  obtain ⟨hP, hD, hS0⟩ := id hJ
  obtain ⟨q0, hq0⟩ := z_plget (f := f) ha
  rcases ht with ⟨rfl, rfl⟩ | ⟨rfl, rfl⟩
  · exact va_aldq hx hb hK.1 hP q0 3 (C := "OwnRain$Text") (f := g) (cA := cy0 3) (n := N0) (by rw [hfa] at hq0; exact hq0) rfl hi hd (kk H locs ls hJ hl)
  · exact va_aldq hx hb hK.1 hP q0 4 (C := "OwnRain$World") (f := g) (cA := cy0 4) (n := N0) (by rw [hfa] at hq0; exact hq0) rfl hi hd (kk H locs ls hJ hl)
theorem h_aast {t0 N0 v : Nat} {g : Nat → Option Nat} {i : Int32} (hE : zOk E (l0, D0, cy0, ax0) own cc nL R0) (ha : a ∈ L) (hfa : f a = zRA (cy0 t0) N0 g) (hv : v ∈ L) (hfv : f v = .inr (ci, fs)) (hc : vwCl[ci]? = some (C, T, N)) (ht : ∀ cy : Nat → ClassId, (zcy cy)[t0]? = some (cy t0, .object C)) (hi : vp_in i N0) (hd : decode cc pc = .ok (.aastore, 1)) (kk : eW E k n L (va_up f a (zRA (cy0 t0) N0 (va_up g i.toNatClampNeg (some v)))) (pc + 1) lv st) : eW E k n L f pc lv (.ref v :: .int i :: .ref a :: st) := by
  obtain ⟨p, l, e, R, s, m, args, below, meth, c, D, cy, A, Q, ax⟩ := E
  obtain ⟨hx, hb, hml, hown, hts, hK, hA, hX, rfl, hh⟩ := hE
  cases hh
  intro H locs ls hJ hl
  obtain ⟨hP, hD, hS0⟩ := id hJ
  obtain ⟨q0, hq0⟩ := z_plget (f := f) ha
  obtain ⟨q1, hq1⟩ := z_plget (f := f) hv
  have h9 := z_plset (e := zRA (cy0 t0) N0 (va_up g i.toNatClampNeg (some v))) hD ha hq0
  exact va_astq hx hb hK.1 hP hD hS0 q0 t0 q1 ci (r := (C, T, N)) (f := g) (cA := cy0 t0) (n := N0) (by rw [hfa] at hq0; exact hq0) (ht cy0) (by rw [← hfv]; exact hq1) hc hi hd (fun H1 locs1 hP1 hD1 hS1 => kk H1 locs1 ls ⟨h9 ▸ hP1, h9 ▸ hD1, hS1⟩ hl)
theorem h_aastN {t0 N0 : Nat} {g : Nat → Option Nat} {i : Int32} (hE : zOk E (l0, D0, cy0, ax0) own cc nL R0) (ha : a ∈ L) (hfa : f a = zRA (cy0 t0) N0 g) (ht : ∀ cy : Nat → ClassId, (zcy cy)[t0]? = some (cy t0, .object C)) (hi : vp_in i N0) (hd : decode cc pc = .ok (.aastore, 1)) (kk : eW E k n L (va_up f a (zRA (cy0 t0) N0 (va_up g i.toNatClampNeg none))) (pc + 1) lv st) : eW E k n L f pc lv (.null :: .int i :: .ref a :: st) := by
  obtain ⟨p, l, e, R, s, m, args, below, meth, c, D, cy, A, Q, ax⟩ := E
  obtain ⟨hx, hb, hml, hown, hts, hK, hA, hX, rfl, hh⟩ := hE
  cases hh
  intro H locs ls hJ hl
  obtain ⟨hP, hD, hS0⟩ := id hJ
  obtain ⟨q0, hq0⟩ := z_plget (f := f) ha
  have h9 := z_plset (e := zRA (cy0 t0) N0 (va_up g i.toNatClampNeg none)) hD ha hq0
  exact va_astqN hx hb hK.1 hP hD hS0 q0 t0 (f := g) (cA := cy0 t0) (n := N0) (by rw [hfa] at hq0; exact hq0) (ht cy0) hi hd (fun H1 locs1 hP1 hD1 hS1 => kk H1 locs1 ls ⟨h9 ▸ hP1, h9 ▸ hD1, hS1⟩ hl)
theorem h_alen {x : vp_A} {t0 : Nat} {ty : FieldType} {v : Int32} (hE : zOk E (l0, D0, cy0, ax0) own cc nL R0) (ha : a ∈ L) (hfa : f a = .inl (cy0 t0, x)) (ht : ∀ cy : Nat → ClassId, (zcy cy)[t0]? = some (cy t0, ty)) (hv : Int32.ofNat x.1 = v) (hd : decode cc pc = .ok (.arraylength, 1)) (kk : eW E k n L f (pc + 1) lv (.int v :: st)) : eW E k n L f pc lv (.ref a :: st) := by
  obtain ⟨p, l, e, R, s, m, args, below, meth, c, D, cy, A, Q, ax⟩ := E
  obtain ⟨hx, hb, hml, hown, hts, hK, hA, hX, rfl, hh⟩ := hE
  cases hh
  intro H locs ls hJ hl
  obtain ⟨hP, hD, hS0⟩ := id hJ
  obtain ⟨q0, hq0⟩ := z_plget (f := f) ha
  exact va_alen hx hb hK.1 hP q0 t0 (by rw [← hfa]; exact hq0) (ht cy0) hv hd (kk H locs ls hJ hl)
theorem h_new {ty0 : Nat → FieldType} (hE : zOk E (l0, D0, cy0, ax0) own cc nL R0) (hc : vwCl[ci]? = some (C, T, N)) (hin : ∀ w ∈ u_ws C T N, w ∈ gtbl) (hty : ∀ k, k < N → parseFieldDescriptor (T k).2.2.1 = some (ty0 k)) (hq1 : Cond.classLink own index C ∈ gtbl) (hq2 : Cond.instantiable C N ∈ gtbl) (hq3 : Cond.initialized C ∈ gtbl) (hfs : ∀ j, j < N → defaultValue (ty0 j) = vp_V fs j) (hk1 : k + 1 ≤ R0.cells) (hk2 : n + N ≤ R0.slots) (hd : decode cc pc = .ok (.new index, 3))
    (kk : ∀ q : Nat, q ∉ L → eW E (k + 1) (n + N) (L ++ [q]) (va_up f q (.inr (ci, fs))) (pc + 3) lv (.ref q :: st)) : eW E k n L f pc lv st := by
  obtain ⟨p, l, e, R, s, m, args, below, meth, c, D, cy, A, Q, ax⟩ := E
  obtain ⟨hx, hb, hml, hown, hts, hK, hA, hX, rfl, hh⟩ := hE
  cases hh
  intro H locs ls hJ hl
  obtain ⟨hP, hD, hS0⟩ := id hJ
  refine va_new hx hb hts hin ty0 hty hown (hts _ hq1) (hts _ hq2) (hts _ hq3) hK.1 hP hD hS0 hA hc hfs hk1 hk2 hd (fun q H1 hP1 hD1 hS1 => ?_)
  have hq : q ∉ L := va_pl_fresh2 (X := []) hD1
  have h9 := va_pl_push (f := f) (e := .inr (ci, fs)) hq
  exact kk q hq H1 locs ls ⟨h9 ▸ hP1, h9 ▸ hD1, hS1⟩ hl
theorem h_newa {atype : ArrayType} {t0 : Nat} {ty : FieldType} {v : Int32} {N0 : Nat} {x : vp_A} (hE : zOk E (l0, D0, cy0, ax0) own cc nL R0) (hty : newarray.typeOf atype = ty) (hno : ∀ C, ty ≠ .object C) (hq : Cond.arrayClass ty ∈ gtbl) (ht : ∀ cy : Nat → ClassId, (zcy cy)[t0]? = some (cy t0, ty)) (hxc : ∀ cA : ClassId, vp_cell cA x = arrV cA N0 (fun _ => defaultValue ty)) (hn : ¬ v < 0) (hN : v.toNatClampNeg = N0) (hby : N0 * componentBytes ty ≤ 536870912) (hk1 : k + 1 ≤ R0.cells) (hk2 : n + N0 ≤ R0.slots) (hd : decode cc pc = .ok (.newarray atype, 2))
    (kk : ∀ q : Nat, q ∉ L → eW E (k + 1) (n + N0) (L ++ [q]) (va_up f q (.inl (cy0 t0, x))) (pc + 2) lv (.ref q :: st)) : eW E k n L f pc lv (.int v :: st) := by
  obtain ⟨p, l, e, R, s, m, args, below, meth, c, D, cy, A, Q, ax⟩ := E
  obtain ⟨hx, hb, hml, hown, hts, hK, hA, hX, rfl, hh⟩ := hE
  cases hh
  intro H locs ls hJ hl
  obtain ⟨hP, hD, hS0⟩ := id hJ
  subst hty
  refine va_newa hx hb (hts _ hq) rfl hK.1 hP hD hS0 hA hxc hn hN hby hk1 hk2 hd (fun q cA H1 hK1 hP1 hD1 hS1 => ?_)
  have hq : q ∉ L := va_pl_fresh2 (X := []) hD1
  have hcA : cA = cy0 t0 := by
    have h1 := (hK1.2 5 (cA, newarray.typeOf atype) rfl).2
    have h2 := (hK.1.2 t0 _ (ht cy0)).2
    cases hty2 : newarray.typeOf atype <;> rw [hty2] at h1 h2 hno <;> first | exact absurd rfl (hno _) | exact Option.some.inj (h1.symm.trans h2)
  subst hcA
  have h9 := va_pl_push (f := f) (e := .inl (cy0 t0, x)) hq
  exact kk q hq H1 locs ls ⟨h9 ▸ hP1, h9 ▸ hD1, hS1⟩ hl
theorem h_newq {t0 : Nat} {v : Int32} {N0 : Nat} (hE : zOk E (l0, D0, cy0, ax0) own cc nL R0) (hq : Cond.classLink own index C ∈ gtbl) (ht : ∀ cy : Nat → ClassId, (zcy cy)[t0]? = some (cy t0, .object C)) (hC : C = "OwnRain$Text" ∨ C = "OwnRain$World") (hn : ¬ v < 0) (hN : v.toNatClampNeg = N0) (hby : N0 * 4 ≤ 536870912) (hk1 : k + 1 ≤ R0.cells) (hk2 : n + N0 ≤ R0.slots) (hd : decode cc pc = .ok (.anewarray index, 3))
    (kk : ∀ q : Nat, q ∉ L → eW E (k + 1) (n + N0) (L ++ [q]) (va_up f q (zRA (cy0 t0) N0 (fun _ => none))) (pc + 3) lv (.ref q :: st)) : eW E k n L f pc lv (.int v :: st) := by
  obtain ⟨p, l, e, R, s, m, args, below, meth, c, D, cy, A, Q, ax⟩ := E
  obtain ⟨hx, hb, hml, hown, hts, hK, hA, hX, rfl, hh⟩ := hE
  cases hh
  intro H locs ls hJ hl
  obtain ⟨hP, hD, hS0⟩ := id hJ
  have hAO : va_AO C s := by
    rcases hC with h | h <;> rw [h]
    · exact hK.2.2.1
    · exact hK.2.2.2
  refine va_newq hx hb hown (hts _ hq) hAO hK.1 hP hD hS0 hA hn hN hby hk1 hk2 hd (fun q cA H1 hK1 hP1 hD1 hS1 => ?_)
  have hq : q ∉ L := va_pl_fresh2 (X := []) hD1
  have hcA : cA = cy0 t0 := by
    obtain ⟨_, _, -, -, -, h1⟩ := (hK1.2 5 (cA, .object C) rfl).2
    obtain ⟨_, _, -, -, -, h2⟩ := (hK.1.2 t0 _ (ht cy0)).2
    exact Option.some.inj (h1.symm.trans h2)
  subst hcA
  have h9 := va_pl_push (f := f) (e := zRA (cy0 t0) N0 (fun _ => none)) hq
  exact kk q hq H1 locs ls ⟨h9 ▸ hP1, h9 ▸ hD1, hS1⟩ hl
end ZR
