/-! The pool: L its addresses, σ their shapes (numbers erased), φ the numbers in objects' fields (by class, place, address), ρ the numbers in arrays. -/
def zcy (cy : Nat → ClassId) : List (ClassId × FieldType) := [(cy 0, .int), (cy 1, .long), (cy 2, .boolean), (cy 3, .object "OwnRain$Text"), (cy 4, .object "OwnRain$World")]
def znests : List (String × Nat × MethodName) := [("OwnRain", 9, ⟨"OwnRain$State", "<init>", "()V"⟩), ("OwnRain$State", 11, ⟨"OwnRain$Land", "<init>", "()V"⟩), ("OwnRain$State", 20, ⟨"OwnRain$World", "<init>", "()V"⟩), ("OwnRain$Steps", 21, ⟨"OwnRain$World", "<init>", "()V"⟩), ("OwnRain$State", 34, ⟨"OwnRain$Lists", "<init>", "()V"⟩), ("OwnRain", 21, ⟨"OwnRain$Tape", "<init>", "()V"⟩), ("OwnRain$Planner", 44, ⟨"OwnRain$World", "<init>", "()V"⟩), ("OwnRain$Reader", 24, ⟨"OwnRain$Text", "<init>", "()V"⟩), ("OwnRain$Tape", 77, ⟨"OwnRain", "isWithin", "(III)Z"⟩), ("OwnRain$Reader", 118, ⟨"OwnRain", "isWithin", "(III)Z"⟩), ("OwnRain$Weather", 95, ⟨"OwnRain", "bring", "(III)I"⟩), ("OwnRain$State", 73, ⟨"OwnRain", "isWithin", "(III)Z"⟩), ("OwnRain$Planner", 69, ⟨"OwnRain", "isOf", "(II)Z"⟩)]
def zK (D : va_G) (cy : Nat → ClassId) (U : State) : Prop := va_K D vwCl (zcy cy) U ∧ (∀ q ∈ znests, va_Nw (.methodLinkNest q.1 q.2.1 q.2.2 "OwnRain") U) ∧ va_AO "OwnRain$Text" U ∧ va_AO "OwnRain$World" U
theorem zK.warm {D : va_G} {cy : Nat → ClassId} {s U : State} (hW : s.WarmedH U.vm) (h : zK D cy s) : zK D cy U := ⟨va_K.moved hW.alike h.1, fun q hq => va_Nw.warmM hW (h.2.1 q hq), va_AO.moved hW.alike h.2.2.1, va_AO.moved hW.alike h.2.2.2⟩
def zshV : Value → Value
  | .int _ => .int 0
  | .long _ => .long 0
  | v => v
def zsh : va_E → va_E
  | .inl (c, n, .inl _) => .inl (c, n, .inl (fun _ => 0))
  | .inl (c, n, .inr (.inl _)) => .inl (c, n, .inr (.inl (fun _ => 0)))
  | .inl x => .inl x
  | .inr (ci, fs) => .inr (ci, fs.map zshV)
def zfI (e : va_E) (ci k : Nat) : Int32 := match e with
  | .inr (c, fs) => if c = ci then (match fs[k]? with
    | some (.int v) => v
    | _ => 0) else 0
  | .inl _ => 0
def zrI (e : va_E) : Nat → Int32 := match e with
  | .inl (_, _, .inl g) => g
  | _ => fun _ => 0
def zPic (L : List Nat) (σ : Nat → va_E) (φ : Nat → Nat → Nat → Int32) (ρ : Nat → Nat → Int32) (f : Nat → va_E) : Prop := ∀ a ∈ L, zsh (f a) = σ a ∧ (∀ ci k, zfI (f a) ci k = φ ci k a) ∧ zrI (f a) = ρ a
def zT (L : List Nat) (σ : Nat → va_E) (a : Nat) (e : va_E) : Prop := a ∈ L ∧ σ a = e
def zup (φ : Nat → Nat → Nat → Int32) (ci k a : Nat) (v : Int32) : Nat → Nat → Nat → Int32 := fun c j b => if c = ci ∧ j = k ∧ b = a then v else φ c j b
abbrev zIA (cy : Nat → ClassId) (n : Nat) : va_E := .inl (cy 0, n, .inl (fun _ => 0))
abbrev zJA (cy : Nat → ClassId) (n : Nat) : va_E := .inl (cy 1, n, .inr (.inl (fun _ => 0)))
abbrev zZA (cy : Nat → ClassId) (n : Nat) : va_E := .inl (cy 2, n, .inl (fun _ => 0))
abbrev zRA (c : ClassId) (n : Nat) (g : Nat → Option Nat) : va_E := .inl (c, n, .inr (.inr (.inr (.inr g))))
def zJ (D : va_G) (A : Nat → Prop) (H0 : Heap) (L : List Nat) (σ : Nat → va_E) (φ : Nat → Nat → Nat → Int32) (ρ : Nat → Nat → Int32) (H : Heap) (locs : List Loc) : Prop := ∃ f, zPic L σ φ ρ f ∧ va_P D vwCl (va_pl L f) H ∧ va_D A (va_pl L f) ∧ va_S A H0 H locs
abbrev zCx : Type := Program × Launch × Env × Room × State × MethodId × Array Value × List Frame × Method × Code × va_G × (Nat → ClassId) × (Nat → Prop) × (State → Prop)
def zW (E : zCx) (k n : Nat) (L : List Nat) (σ : Nat → va_E) (φ : Nat → Nat → Nat → Int32) (ρ : Nat → Nat → Int32) (pc : Nat) (lv : List (Nat × Value)) (st : List Value) : Prop := match E with
  | (p, l, e, R, s, m, args, below, meth, c, D, _, A, Q) => ∀ (H : Heap) (locs : List Loc) (ls : Array Slot), zJ D A s.heap L σ φ ρ H locs → lv_has ls c.maxLocals lv → W p l e R s m args below meth c H locs k n Q (F0 m pc ls st)
def zOk (E : zCx) (l0 : Launch) (D0 : va_G) (cy0 : Nat → ClassId) (own : String) (cc : ByteArray) (nL : Nat) (R0 : Room) : Prop := match E with
  | (p, l, _, R, s, m, args, _, _, c, D, cy, A, _) => p.tables.exec = Jvm.exec ∧ c.code = cc ∧ c.maxLocals = nL ∧ s.vm.findClass own = some m.cls ∧ (∀ w ∈ gtbl, w.before args s = true) ∧ zK D cy s ∧ (∀ q, s.heap.size ≤ q → A q) ∧ R = R0 ∧ l = l0 ∧ D = D0 ∧ cy = cy0
/-- within a constructor -/
def zIn (E : zCx) : Prop := match E with
  | (_, _, _, _, _, _, _, _, meth, _, _, _, _, _) => meth.name = "<init>"
section ZP
variable {E : zCx} {l0 : Launch} {D0 : va_G} {cy0 : Nat → ClassId} {own : String} {cc : ByteArray} {nL : Nat} {R0 : Room} {k n : Nat} {L : List Nat} {σ : Nat → va_E} {φ : Nat → Nat → Nat → Int32} {ρ : Nat → Nat → Int32} {pc : Nat} {lv : List (Nat × Value)} {st : List Value}
theorem x_iconst (hE : zOk E l0 D0 cy0 own cc nL R0) {i : Int} {v : Int32} (hd : decode cc pc = .ok (.iconst i, 1)) (hv : Int32.ofInt i = v) (kk : zW E k n L σ φ ρ (pc + 1) lv (.int v :: st)) : zW E k n L σ φ ρ pc lv st := by
  obtain ⟨p, l, e, R, s, m, args, below, meth, c, D, cy, A, Q⟩ := E
  obtain ⟨hx, hb, hml, hown, hts, hK, hA, rfl, rfl, rfl, rfl⟩ := hE
  intro H locs ls hJ hl
  exact lv_iconst hx hb hd hv (kk H locs ls hJ hl)
theorem x_bipush (hE : zOk E l0 D0 cy0 own cc nL R0) {i : Int} {v : Int32} (hd : decode cc pc = .ok (.bipush i, 2)) (hv : (Int8.ofInt i).toInt32 = v) (kk : zW E k n L σ φ ρ (pc + 2) lv (.int v :: st)) : zW E k n L σ φ ρ pc lv st := by
  obtain ⟨p, l, e, R, s, m, args, below, meth, c, D, cy, A, Q⟩ := E
  obtain ⟨hx, hb, hml, hown, hts, hK, hA, rfl, rfl, rfl, rfl⟩ := hE
  intro H locs ls hJ hl
  exact lv_bipush hx hb hd hv (kk H locs ls hJ hl)
theorem x_sipush (hE : zOk E l0 D0 cy0 own cc nL R0) {i : Int} {v : Int32} (hd : decode cc pc = .ok (.sipush i, 3)) (hv : (Int16.ofInt i).toInt32 = v) (kk : zW E k n L σ φ ρ (pc + 3) lv (.int v :: st)) : zW E k n L σ φ ρ pc lv st := by
  obtain ⟨p, l, e, R, s, m, args, below, meth, c, D, cy, A, Q⟩ := E
  obtain ⟨hx, hb, hml, hown, hts, hK, hA, rfl, rfl, rfl, rfl⟩ := hE
  intro H locs ls hJ hl
  exact lv_sipush hx hb hd hv (kk H locs ls hJ hl)
theorem x_lconst (hE : zOk E l0 D0 cy0 own cc nL R0) {i : Fin 2} {v : Int64} (hd : decode cc pc = .ok (.lconst i, 1)) (hv : Int64.ofNat (i : Nat) = v) (kk : zW E k n L σ φ ρ (pc + 1) lv (.long v :: st)) : zW E k n L σ φ ρ pc lv st := by
  obtain ⟨p, l, e, R, s, m, args, below, meth, c, D, cy, A, Q⟩ := E
  obtain ⟨hx, hb, hml, hown, hts, hK, hA, rfl, rfl, rfl, rfl⟩ := hE
  intro H locs ls hJ hl
  exact lv_lconst hx hb hd hv (kk H locs ls hJ hl)
theorem x_ldc (hE : zOk E l0 D0 cy0 own cc nL R0) {i : Nat} {v : Int32} (hq : Cond.constant own i v ∈ gtbl) (hd : decode cc pc = .ok (.ldc i, 2)) (kk : zW E k n L σ φ ρ (pc + 2) lv (.int v :: st)) : zW E k n L σ φ ρ pc lv st := by
  obtain ⟨p, l, e, R, s, m, args, below, meth, c, D, cy, A, Q⟩ := E
  obtain ⟨hx, hb, hml, hown, hts, hK, hA, rfl, rfl, rfl, rfl⟩ := hE
  intro H locs ls hJ hl
  exact lv_ldc hx hb hown (hts _ hq) hd (kk H locs ls hJ hl)
theorem x_ldcw (hE : zOk E l0 D0 cy0 own cc nL R0) {i : Nat} {v : Int32} (hq : Cond.constant own i v ∈ gtbl) (hd : decode cc pc = .ok (.ldc_w i, 3)) (kk : zW E k n L σ φ ρ (pc + 3) lv (.int v :: st)) : zW E k n L σ φ ρ pc lv st := by
  obtain ⟨p, l, e, R, s, m, args, below, meth, c, D, cy, A, Q⟩ := E
  obtain ⟨hx, hb, hml, hown, hts, hK, hA, rfl, rfl, rfl, rfl⟩ := hE
  intro H locs ls hJ hl
  exact lv_ldcw hx hb hown (hts _ hq) hd (kk H locs ls hJ hl)
theorem x_ldc2 (hE : zOk E l0 D0 cy0 own cc nL R0) {i : Nat} {v : Int64} (hq : Cond.constantLong own i v ∈ gtbl) (hd : decode cc pc = .ok (.ldc2_w i, 3)) (kk : zW E k n L σ φ ρ (pc + 3) lv (.long v :: st)) : zW E k n L σ φ ρ pc lv st := by
  obtain ⟨p, l, e, R, s, m, args, below, meth, c, D, cy, A, Q⟩ := E
  obtain ⟨hx, hb, hml, hown, hts, hK, hA, rfl, rfl, rfl, rfl⟩ := hE
  intro H locs ls hJ hl
  exact lv_ldc2 hx hb hown (hts _ hq) hd (kk H locs ls hJ hl)
theorem x_null (hE : zOk E l0 D0 cy0 own cc nL R0) (hd : decode cc pc = .ok (.aconst_null, 1)) (kk : zW E k n L σ φ ρ (pc + 1) lv (.null :: st)) : zW E k n L σ φ ρ pc lv st := by
  obtain ⟨p, l, e, R, s, m, args, below, meth, c, D, cy, A, Q⟩ := E
  obtain ⟨hx, hb, hml, hown, hts, hK, hA, rfl, rfl, rfl, rfl⟩ := hE
  intro H locs ls hJ hl
  exact lv_null hx hb hd (kk H locs ls hJ hl)
theorem x_iload_n (hE : zOk E l0 D0 cy0 own cc nL R0) {z : Fin 4} {i : Nat} {x : Int32} (hd : decode cc pc = .ok (.iload_n z, 1)) (hi : (z : Nat) = i) (j : Nat) (hj : lv[j]? = some (i, .int x)) (kk : zW E k n L σ φ ρ (pc + 1) lv (.int x :: st)) : zW E k n L σ φ ρ pc lv st := by
  obtain ⟨p, l, e, R, s, m, args, below, meth, c, D, cy, A, Q⟩ := E
  obtain ⟨hx, hb, hml, hown, hts, hK, hA, rfl, rfl, rfl, rfl⟩ := hE
  intro H locs ls hJ hl
  exact lv_iload_n hx hb hd hi (lv_at hl j hj) (kk H locs ls hJ hl)
theorem x_iload (hE : zOk E l0 D0 cy0 own cc nL R0) {i : Nat} {x : Int32} (hd : decode cc pc = .ok (.iload i, 2)) (j : Nat) (hj : lv[j]? = some (i, .int x)) (kk : zW E k n L σ φ ρ (pc + 2) lv (.int x :: st)) : zW E k n L σ φ ρ pc lv st := by
  obtain ⟨p, l, e, R, s, m, args, below, meth, c, D, cy, A, Q⟩ := E
  obtain ⟨hx, hb, hml, hown, hts, hK, hA, rfl, rfl, rfl, rfl⟩ := hE
  intro H locs ls hJ hl
  exact lv_iload hx hb hd (lv_at hl j hj) (kk H locs ls hJ hl)
theorem x_lload_n (hE : zOk E l0 D0 cy0 own cc nL R0) {z : Fin 4} {i : Nat} {x : Int64} (hd : decode cc pc = .ok (.lload_n z, 1)) (hi : (z : Nat) = i) (j : Nat) (hj : lv[j]? = some (i, .long x)) (kk : zW E k n L σ φ ρ (pc + 1) lv (.long x :: st)) : zW E k n L σ φ ρ pc lv st := by
  obtain ⟨p, l, e, R, s, m, args, below, meth, c, D, cy, A, Q⟩ := E
  obtain ⟨hx, hb, hml, hown, hts, hK, hA, rfl, rfl, rfl, rfl⟩ := hE
  intro H locs ls hJ hl
  exact lv_lload_n hx hb hd hi (lv_at hl j hj) (kk H locs ls hJ hl)
theorem x_lload (hE : zOk E l0 D0 cy0 own cc nL R0) {i : Nat} {x : Int64} (hd : decode cc pc = .ok (.lload i, 2)) (j : Nat) (hj : lv[j]? = some (i, .long x)) (kk : zW E k n L σ φ ρ (pc + 2) lv (.long x :: st)) : zW E k n L σ φ ρ pc lv st := by
  obtain ⟨p, l, e, R, s, m, args, below, meth, c, D, cy, A, Q⟩ := E
  obtain ⟨hx, hb, hml, hown, hts, hK, hA, rfl, rfl, rfl, rfl⟩ := hE
  intro H locs ls hJ hl
  exact lv_lload hx hb hd (lv_at hl j hj) (kk H locs ls hJ hl)
theorem x_aload_n (hE : zOk E l0 D0 cy0 own cc nL R0) {z : Fin 4} {i : Nat} {x : Nat} (hd : decode cc pc = .ok (.aload_n z, 1)) (hi : (z : Nat) = i) (j : Nat) (hj : lv[j]? = some (i, .ref x)) (kk : zW E k n L σ φ ρ (pc + 1) lv (.ref x :: st)) : zW E k n L σ φ ρ pc lv st := by
  obtain ⟨p, l, e, R, s, m, args, below, meth, c, D, cy, A, Q⟩ := E
  obtain ⟨hx, hb, hml, hown, hts, hK, hA, rfl, rfl, rfl, rfl⟩ := hE
  intro H locs ls hJ hl
  exact lv_aload_n hx hb hd hi (lv_at hl j hj) (kk H locs ls hJ hl)
theorem x_aload (hE : zOk E l0 D0 cy0 own cc nL R0) {i : Nat} {x : Nat} (hd : decode cc pc = .ok (.aload i, 2)) (j : Nat) (hj : lv[j]? = some (i, .ref x)) (kk : zW E k n L σ φ ρ (pc + 2) lv (.ref x :: st)) : zW E k n L σ φ ρ pc lv st := by
  obtain ⟨p, l, e, R, s, m, args, below, meth, c, D, cy, A, Q⟩ := E
  obtain ⟨hx, hb, hml, hown, hts, hK, hA, rfl, rfl, rfl, rfl⟩ := hE
  intro H locs ls hJ hl
  exact lv_aload hx hb hd (lv_at hl j hj) (kk H locs ls hJ hl)
theorem x_aload_nN (hE : zOk E l0 D0 cy0 own cc nL R0) {z : Fin 4} {i : Nat} (hd : decode cc pc = .ok (.aload_n z, 1)) (hi : (z : Nat) = i) (j : Nat) (hj : lv[j]? = some (i, .null)) (kk : zW E k n L σ φ ρ (pc + 1) lv (.null :: st)) : zW E k n L σ φ ρ pc lv st := by
  obtain ⟨p, l, e, R, s, m, args, below, meth, c, D, cy, A, Q⟩ := E
  obtain ⟨hx, hb, hml, hown, hts, hK, hA, rfl, rfl, rfl, rfl⟩ := hE
  intro H locs ls hJ hl
  exact lv_aload_nN hx hb hd hi (lv_at hl j hj) (kk H locs ls hJ hl)
theorem x_istore_n (hE : zOk E l0 D0 cy0 own cc nL R0) {z : Fin 4} {i : Nat} {x : Int32} {lv' : List (Nat × Value)} (hd : decode cc pc = .ok (.istore_n z, 1)) (hi : (z : Nat) = i) (hn : i < nL) (hl' : (i, Value.int x) :: lv.filter (fun q => !(q.1 == i) && !(q.1 + 1 == i && q.2.category == 2)) = lv') (kk : zW E k n L σ φ ρ (pc + 1) lv' st) : zW E k n L σ φ ρ pc lv (.int x :: st) := by
  obtain ⟨p, l, e, R, s, m, args, below, meth, c, D, cy, A, Q⟩ := E
  obtain ⟨hx, hb, hml, hown, hts, hK, hA, rfl, rfl, rfl, rfl⟩ := hE
  intro H locs ls hJ hl
  exact lv_istore_n hx hb hd hi hl (by rw [hml]; exact hn) hl' (fun ls hl => (kk H locs ls hJ hl))
theorem x_istore (hE : zOk E l0 D0 cy0 own cc nL R0) {i : Nat} {x : Int32} {lv' : List (Nat × Value)} (hd : decode cc pc = .ok (.istore i, 2)) (hn : i < nL) (hl' : (i, Value.int x) :: lv.filter (fun q => !(q.1 == i) && !(q.1 + 1 == i && q.2.category == 2)) = lv') (kk : zW E k n L σ φ ρ (pc + 2) lv' st) : zW E k n L σ φ ρ pc lv (.int x :: st) := by
  obtain ⟨p, l, e, R, s, m, args, below, meth, c, D, cy, A, Q⟩ := E
  obtain ⟨hx, hb, hml, hown, hts, hK, hA, rfl, rfl, rfl, rfl⟩ := hE
  intro H locs ls hJ hl
  exact lv_istore hx hb hd hl (by rw [hml]; exact hn) hl' (fun ls hl => (kk H locs ls hJ hl))
theorem x_astore_n (hE : zOk E l0 D0 cy0 own cc nL R0) {z : Fin 4} {i : Nat} {x : Nat} {lv' : List (Nat × Value)} (hd : decode cc pc = .ok (.astore_n z, 1)) (hi : (z : Nat) = i) (hn : i < nL) (hl' : (i, Value.ref x) :: lv.filter (fun q => !(q.1 == i) && !(q.1 + 1 == i && q.2.category == 2)) = lv') (kk : zW E k n L σ φ ρ (pc + 1) lv' st) : zW E k n L σ φ ρ pc lv (.ref x :: st) := by
  obtain ⟨p, l, e, R, s, m, args, below, meth, c, D, cy, A, Q⟩ := E
  obtain ⟨hx, hb, hml, hown, hts, hK, hA, rfl, rfl, rfl, rfl⟩ := hE
  intro H locs ls hJ hl
  exact lv_astore_n hx hb hd hi hl (by rw [hml]; exact hn) hl' (fun ls hl => (kk H locs ls hJ hl))
theorem x_astore (hE : zOk E l0 D0 cy0 own cc nL R0) {i : Nat} {x : Nat} {lv' : List (Nat × Value)} (hd : decode cc pc = .ok (.astore i, 2)) (hn : i < nL) (hl' : (i, Value.ref x) :: lv.filter (fun q => !(q.1 == i) && !(q.1 + 1 == i && q.2.category == 2)) = lv') (kk : zW E k n L σ φ ρ (pc + 2) lv' st) : zW E k n L σ φ ρ pc lv (.ref x :: st) := by
  obtain ⟨p, l, e, R, s, m, args, below, meth, c, D, cy, A, Q⟩ := E
  obtain ⟨hx, hb, hml, hown, hts, hK, hA, rfl, rfl, rfl, rfl⟩ := hE
  intro H locs ls hJ hl
  exact lv_astore hx hb hd hl (by rw [hml]; exact hn) hl' (fun ls hl => (kk H locs ls hJ hl))
theorem x_lstore (hE : zOk E l0 D0 cy0 own cc nL R0) {i : Nat} {x : Int64} {lv' : List (Nat × Value)} (hd : decode cc pc = .ok (.lstore i, 2)) (hn : i + 1 < nL) (hl' : (i, Value.long x) :: lv.filter (fun q => !(q.1 == i) && (!(q.1 == i + 1) && !(q.1 + 1 == i && q.2.category == 2))) = lv') (kk : zW E k n L σ φ ρ (pc + 2) lv' st) : zW E k n L σ φ ρ pc lv (.long x :: st) := by
  obtain ⟨p, l, e, R, s, m, args, below, meth, c, D, cy, A, Q⟩ := E
  obtain ⟨hx, hb, hml, hown, hts, hK, hA, rfl, rfl, rfl, rfl⟩ := hE
  intro H locs ls hJ hl
  exact lv_lstore hx hb hd hl (by rw [hml]; exact hn) hl' (fun ls hl => (kk H locs ls hJ hl))
theorem x_iinc (hE : zOk E l0 D0 cy0 own cc nL R0) {i : Nat} {z : Int} {x v : Int32} {lv' : List (Nat × Value)} (hd : decode cc pc = .ok (.iinc i z, 3)) (j : Nat) (hj : lv[j]? = some (i, .int x)) (hv : x + Int32.ofInt z = v) (hn : i < nL) (hl' : (i, Value.int v) :: lv.filter (fun q => !(q.1 == i) && !(q.1 + 1 == i && q.2.category == 2)) = lv') (kk : zW E k n L σ φ ρ (pc + 3) lv' st) : zW E k n L σ φ ρ pc lv st := by
  obtain ⟨p, l, e, R, s, m, args, below, meth, c, D, cy, A, Q⟩ := E
  obtain ⟨hx, hb, hml, hown, hts, hK, hA, rfl, rfl, rfl, rfl⟩ := hE
  intro H locs ls hJ hl
  exact lv_iinc hx hb hd hl hj hv (by rw [hml]; exact hn) hl' (fun ls hl => (kk H locs ls hJ hl))
theorem x_iadd (hE : zOk E l0 D0 cy0 own cc nL R0) {x y : Int32} (hd : decode cc pc = .ok (.iadd, 1)) (kk : zW E k n L σ φ ρ (pc + 1) lv (.int (x + y) :: st)) : zW E k n L σ φ ρ pc lv (.int y :: .int x :: st) := by
  obtain ⟨p, l, e, R, s, m, args, below, meth, c, D, cy, A, Q⟩ := E
  obtain ⟨hx, hb, hml, hown, hts, hK, hA, rfl, rfl, rfl, rfl⟩ := hE
  intro H locs ls hJ hl
  exact lv_iadd hx hb hd (kk H locs ls hJ hl)
theorem x_isub (hE : zOk E l0 D0 cy0 own cc nL R0) {x y : Int32} (hd : decode cc pc = .ok (.isub, 1)) (kk : zW E k n L σ φ ρ (pc + 1) lv (.int (x - y) :: st)) : zW E k n L σ φ ρ pc lv (.int y :: .int x :: st) := by
  obtain ⟨p, l, e, R, s, m, args, below, meth, c, D, cy, A, Q⟩ := E
  obtain ⟨hx, hb, hml, hown, hts, hK, hA, rfl, rfl, rfl, rfl⟩ := hE
  intro H locs ls hJ hl
  exact lv_isub hx hb hd (kk H locs ls hJ hl)
theorem x_imul (hE : zOk E l0 D0 cy0 own cc nL R0) {x y : Int32} (hd : decode cc pc = .ok (.imul, 1)) (kk : zW E k n L σ φ ρ (pc + 1) lv (.int (x * y) :: st)) : zW E k n L σ φ ρ pc lv (.int y :: .int x :: st) := by
  obtain ⟨p, l, e, R, s, m, args, below, meth, c, D, cy, A, Q⟩ := E
  obtain ⟨hx, hb, hml, hown, hts, hK, hA, rfl, rfl, rfl, rfl⟩ := hE
  intro H locs ls hJ hl
  exact lv_imul hx hb hd (kk H locs ls hJ hl)
theorem x_iand (hE : zOk E l0 D0 cy0 own cc nL R0) {x y : Int32} (hd : decode cc pc = .ok (.iand, 1)) (kk : zW E k n L σ φ ρ (pc + 1) lv (.int (x &&& y) :: st)) : zW E k n L σ φ ρ pc lv (.int y :: .int x :: st) := by
  obtain ⟨p, l, e, R, s, m, args, below, meth, c, D, cy, A, Q⟩ := E
  obtain ⟨hx, hb, hml, hown, hts, hK, hA, rfl, rfl, rfl, rfl⟩ := hE
  intro H locs ls hJ hl
  exact lv_iand hx hb hd (kk H locs ls hJ hl)
theorem x_ior (hE : zOk E l0 D0 cy0 own cc nL R0) {x y : Int32} (hd : decode cc pc = .ok (.ior, 1)) (kk : zW E k n L σ φ ρ (pc + 1) lv (.int (x ||| y) :: st)) : zW E k n L σ φ ρ pc lv (.int y :: .int x :: st) := by
  obtain ⟨p, l, e, R, s, m, args, below, meth, c, D, cy, A, Q⟩ := E
  obtain ⟨hx, hb, hml, hown, hts, hK, hA, rfl, rfl, rfl, rfl⟩ := hE
  intro H locs ls hJ hl
  exact lv_ior hx hb hd (kk H locs ls hJ hl)
theorem x_ixor (hE : zOk E l0 D0 cy0 own cc nL R0) {x y : Int32} (hd : decode cc pc = .ok (.ixor, 1)) (kk : zW E k n L σ φ ρ (pc + 1) lv (.int (x ^^^ y) :: st)) : zW E k n L σ φ ρ pc lv (.int y :: .int x :: st) := by
  obtain ⟨p, l, e, R, s, m, args, below, meth, c, D, cy, A, Q⟩ := E
  obtain ⟨hx, hb, hml, hown, hts, hK, hA, rfl, rfl, rfl, rfl⟩ := hE
  intro H locs ls hJ hl
  exact lv_ixor hx hb hd (kk H locs ls hJ hl)
theorem x_ishl (hE : zOk E l0 D0 cy0 own cc nL R0) {x y : Int32} (hd : decode cc pc = .ok (.ishl, 1)) (kk : zW E k n L σ φ ρ (pc + 1) lv (.int (x <<< (y &&& 31)) :: st)) : zW E k n L σ φ ρ pc lv (.int y :: .int x :: st) := by
  obtain ⟨p, l, e, R, s, m, args, below, meth, c, D, cy, A, Q⟩ := E
  obtain ⟨hx, hb, hml, hown, hts, hK, hA, rfl, rfl, rfl, rfl⟩ := hE
  intro H locs ls hJ hl
  exact lv_ishl hx hb hd (kk H locs ls hJ hl)
theorem x_ishr (hE : zOk E l0 D0 cy0 own cc nL R0) {x y : Int32} (hd : decode cc pc = .ok (.ishr, 1)) (kk : zW E k n L σ φ ρ (pc + 1) lv (.int (x >>> (y &&& 31)) :: st)) : zW E k n L σ φ ρ pc lv (.int y :: .int x :: st) := by
  obtain ⟨p, l, e, R, s, m, args, below, meth, c, D, cy, A, Q⟩ := E
  obtain ⟨hx, hb, hml, hown, hts, hK, hA, rfl, rfl, rfl, rfl⟩ := hE
  intro H locs ls hJ hl
  exact lv_ishr hx hb hd (kk H locs ls hJ hl)
theorem x_iushr (hE : zOk E l0 D0 cy0 own cc nL R0) {x y : Int32} (hd : decode cc pc = .ok (.iushr, 1)) (kk : zW E k n L σ φ ρ (pc + 1) lv (.int ((x.toUInt32 >>> (y.toUInt32 &&& Int32.toUInt32 31)).toInt32) :: st)) : zW E k n L σ φ ρ pc lv (.int y :: .int x :: st) := by
  obtain ⟨p, l, e, R, s, m, args, below, meth, c, D, cy, A, Q⟩ := E
  obtain ⟨hx, hb, hml, hown, hts, hK, hA, rfl, rfl, rfl, rfl⟩ := hE
  intro H locs ls hJ hl
  exact lv_iushr hx hb hd rfl (kk H locs ls hJ hl)
theorem x_ineg (hE : zOk E l0 D0 cy0 own cc nL R0) {x : Int32} (hd : decode cc pc = .ok (.ineg, 1)) (kk : zW E k n L σ φ ρ (pc + 1) lv (.int (-x) :: st)) : zW E k n L σ φ ρ pc lv (.int x :: st) := by
  obtain ⟨p, l, e, R, s, m, args, below, meth, c, D, cy, A, Q⟩ := E
  obtain ⟨hx, hb, hml, hown, hts, hK, hA, rfl, rfl, rfl, rfl⟩ := hE
  intro H locs ls hJ hl
  exact lv_ineg hx hb hd (kk H locs ls hJ hl)
theorem x_idiv (hE : zOk E l0 D0 cy0 own cc nL R0) {x y : Int32} (hd : decode cc pc = .ok (.idiv, 1)) (hne : ¬ y = 0) (kk : zW E k n L σ φ ρ (pc + 1) lv (.int (x / y) :: st)) : zW E k n L σ φ ρ pc lv (.int y :: .int x :: st) := by
  obtain ⟨p, l, e, R, s, m, args, below, meth, c, D, cy, A, Q⟩ := E
  obtain ⟨hx, hb, hml, hown, hts, hK, hA, rfl, rfl, rfl, rfl⟩ := hE
  intro H locs ls hJ hl
  exact lv_idiv hx hb hd hne (kk H locs ls hJ hl)
theorem x_irem (hE : zOk E l0 D0 cy0 own cc nL R0) {x y : Int32} (hd : decode cc pc = .ok (.irem, 1)) (hne : ¬ y = 0) (kk : zW E k n L σ φ ρ (pc + 1) lv (.int (x - x / y * y) :: st)) : zW E k n L σ φ ρ pc lv (.int y :: .int x :: st) := by
  obtain ⟨p, l, e, R, s, m, args, below, meth, c, D, cy, A, Q⟩ := E
  obtain ⟨hx, hb, hml, hown, hts, hK, hA, rfl, rfl, rfl, rfl⟩ := hE
  intro H locs ls hJ hl
  exact lv_irem hx hb hd hne (kk H locs ls hJ hl)
theorem x_i2l (hE : zOk E l0 D0 cy0 own cc nL R0) {x : Int32} {v : Int64} (hd : decode cc pc = .ok (.i2l, 1)) (hv : x.toInt64 = v) (kk : zW E k n L σ φ ρ (pc + 1) lv (.long v :: st)) : zW E k n L σ φ ρ pc lv (.int x :: st) := by
  obtain ⟨p, l, e, R, s, m, args, below, meth, c, D, cy, A, Q⟩ := E
  obtain ⟨hx, hb, hml, hown, hts, hK, hA, rfl, rfl, rfl, rfl⟩ := hE
  intro H locs ls hJ hl
  exact lv_i2l hx hb hd hv (kk H locs ls hJ hl)
theorem x_dup (hE : zOk E l0 D0 cy0 own cc nL R0) {va : Value} (hd : decode cc pc = .ok (.dup, 1)) (h1 : va.category = 1) (kk : zW E k n L σ φ ρ (pc + 1) lv (va :: va :: st)) : zW E k n L σ φ ρ pc lv (va :: st) := by
  obtain ⟨p, l, e, R, s, m, args, below, meth, c, D, cy, A, Q⟩ := E
  obtain ⟨hx, hb, hml, hown, hts, hK, hA, rfl, rfl, rfl, rfl⟩ := hE
  intro H locs ls hJ hl
  exact lv_dup hx hb hd h1 (kk H locs ls hJ hl)
theorem x_pop (hE : zOk E l0 D0 cy0 own cc nL R0) {va : Value} (hd : decode cc pc = .ok (.pop, 1)) (h1 : va.category = 1) (kk : zW E k n L σ φ ρ (pc + 1) lv st) : zW E k n L σ φ ρ pc lv (va :: st) := by
  obtain ⟨p, l, e, R, s, m, args, below, meth, c, D, cy, A, Q⟩ := E
  obtain ⟨hx, hb, hml, hown, hts, hK, hA, rfl, rfl, rfl, rfl⟩ := hE
  intro H locs ls hJ hl
  exact lv_pop hx hb hd h1 (kk H locs ls hJ hl)
theorem x_dup_x1 (hE : zOk E l0 D0 cy0 own cc nL R0) {va vb : Value} (hd : decode cc pc = .ok (.dup_x1, 1)) (h1 : va.category = 1) (h2 : vb.category = 1) (kk : zW E k n L σ φ ρ (pc + 1) lv (va :: vb :: va :: st)) : zW E k n L σ φ ρ pc lv (va :: vb :: st) := by
  obtain ⟨p, l, e, R, s, m, args, below, meth, c, D, cy, A, Q⟩ := E
  obtain ⟨hx, hb, hml, hown, hts, hK, hA, rfl, rfl, rfl, rfl⟩ := hE
  intro H locs ls hJ hl
  exact lv_dup_x1 hx hb hd h1 h2 (kk H locs ls hJ hl)
theorem x_dup_x2 (hE : zOk E l0 D0 cy0 own cc nL R0) {va vb vd : Value} (hd : decode cc pc = .ok (.dup_x2, 1)) (h1 : va.category = 1) (h2 : vb.category = 1) (h3 : vd.category = 1) (kk : zW E k n L σ φ ρ (pc + 1) lv (va :: vb :: vd :: va :: st)) : zW E k n L σ φ ρ pc lv (va :: vb :: vd :: st) := by
  obtain ⟨p, l, e, R, s, m, args, below, meth, c, D, cy, A, Q⟩ := E
  obtain ⟨hx, hb, hml, hown, hts, hK, hA, rfl, rfl, rfl, rfl⟩ := hE
  intro H locs ls hJ hl
  exact lv_dup_x2 hx hb hd h1 h2 h3 (kk H locs ls hJ hl)
theorem x_dup2 (hE : zOk E l0 D0 cy0 own cc nL R0) {va vb : Value} (hd : decode cc pc = .ok (.dup2, 1)) (h1 : va.category = 1) (h2 : vb.category = 1) (kk : zW E k n L σ φ ρ (pc + 1) lv (va :: vb :: va :: vb :: st)) : zW E k n L σ φ ρ pc lv (va :: vb :: st) := by
  obtain ⟨p, l, e, R, s, m, args, below, meth, c, D, cy, A, Q⟩ := E
  obtain ⟨hx, hb, hml, hown, hts, hK, hA, rfl, rfl, rfl, rfl⟩ := hE
  intro H locs ls hJ hl
  exact lv_dup2_11 hx hb hd h1 h2 (kk H locs ls hJ hl)
theorem x_if_eq (hE : zOk E l0 D0 cy0 own cc nL R0) {x : Int32} {off : Int} {tgt : Nat} (hd : decode cc pc = .ok (.ifCond .eq off, 3)) (ht : (pc : Int) + off = (tgt : Int)) (kt : x = 0 → zW E k n L σ φ ρ tgt lv st) (kf : ¬ (x = 0) → zW E k n L σ φ ρ (pc + 3) lv st) : zW E k n L σ φ ρ pc lv (.int x :: st) := by
  obtain ⟨p, l, e, R, s, m, args, below, meth, c, D, cy, A, Q⟩ := E
  obtain ⟨hx, hb, hml, hown, hts, hK, hA, rfl, rfl, rfl, rfl⟩ := hE
  intro H locs ls hJ hl
  exact lv_if_eq hx hb hd ht (fun hc => kt hc H locs ls hJ hl) (fun hc => kf hc H locs ls hJ hl)
theorem x_if_ne (hE : zOk E l0 D0 cy0 own cc nL R0) {x : Int32} {off : Int} {tgt : Nat} (hd : decode cc pc = .ok (.ifCond .ne off, 3)) (ht : (pc : Int) + off = (tgt : Int)) (kt : x ≠ 0 → zW E k n L σ φ ρ tgt lv st) (kf : x = 0 → zW E k n L σ φ ρ (pc + 3) lv st) : zW E k n L σ φ ρ pc lv (.int x :: st) := by
  obtain ⟨p, l, e, R, s, m, args, below, meth, c, D, cy, A, Q⟩ := E
  obtain ⟨hx, hb, hml, hown, hts, hK, hA, rfl, rfl, rfl, rfl⟩ := hE
  intro H locs ls hJ hl
  exact lv_if_ne hx hb hd ht (fun hc => kt hc H locs ls hJ hl) (fun hc => kf hc H locs ls hJ hl)
theorem x_if_lt (hE : zOk E l0 D0 cy0 own cc nL R0) {x : Int32} {off : Int} {tgt : Nat} (hd : decode cc pc = .ok (.ifCond .lt off, 3)) (ht : (pc : Int) + off = (tgt : Int)) (kt : x < 0 → zW E k n L σ φ ρ tgt lv st) (kf : ¬ (x < 0) → zW E k n L σ φ ρ (pc + 3) lv st) : zW E k n L σ φ ρ pc lv (.int x :: st) := by
  obtain ⟨p, l, e, R, s, m, args, below, meth, c, D, cy, A, Q⟩ := E
  obtain ⟨hx, hb, hml, hown, hts, hK, hA, rfl, rfl, rfl, rfl⟩ := hE
  intro H locs ls hJ hl
  exact lv_if_lt hx hb hd ht (fun hc => kt hc H locs ls hJ hl) (fun hc => kf hc H locs ls hJ hl)
theorem x_if_ge (hE : zOk E l0 D0 cy0 own cc nL R0) {x : Int32} {off : Int} {tgt : Nat} (hd : decode cc pc = .ok (.ifCond .ge off, 3)) (ht : (pc : Int) + off = (tgt : Int)) (kt : 0 ≤ x → zW E k n L σ φ ρ tgt lv st) (kf : ¬ (0 ≤ x) → zW E k n L σ φ ρ (pc + 3) lv st) : zW E k n L σ φ ρ pc lv (.int x :: st) := by
  obtain ⟨p, l, e, R, s, m, args, below, meth, c, D, cy, A, Q⟩ := E
  obtain ⟨hx, hb, hml, hown, hts, hK, hA, rfl, rfl, rfl, rfl⟩ := hE
  intro H locs ls hJ hl
  exact lv_if_ge hx hb hd ht (fun hc => kt hc H locs ls hJ hl) (fun hc => kf hc H locs ls hJ hl)
theorem x_if_gt (hE : zOk E l0 D0 cy0 own cc nL R0) {x : Int32} {off : Int} {tgt : Nat} (hd : decode cc pc = .ok (.ifCond .gt off, 3)) (ht : (pc : Int) + off = (tgt : Int)) (kt : 0 < x → zW E k n L σ φ ρ tgt lv st) (kf : ¬ (0 < x) → zW E k n L σ φ ρ (pc + 3) lv st) : zW E k n L σ φ ρ pc lv (.int x :: st) := by
  obtain ⟨p, l, e, R, s, m, args, below, meth, c, D, cy, A, Q⟩ := E
  obtain ⟨hx, hb, hml, hown, hts, hK, hA, rfl, rfl, rfl, rfl⟩ := hE
  intro H locs ls hJ hl
  exact lv_if_gt hx hb hd ht (fun hc => kt hc H locs ls hJ hl) (fun hc => kf hc H locs ls hJ hl)
theorem x_if_le (hE : zOk E l0 D0 cy0 own cc nL R0) {x : Int32} {off : Int} {tgt : Nat} (hd : decode cc pc = .ok (.ifCond .le off, 3)) (ht : (pc : Int) + off = (tgt : Int)) (kt : x ≤ 0 → zW E k n L σ φ ρ tgt lv st) (kf : ¬ (x ≤ 0) → zW E k n L σ φ ρ (pc + 3) lv st) : zW E k n L σ φ ρ pc lv (.int x :: st) := by
  obtain ⟨p, l, e, R, s, m, args, below, meth, c, D, cy, A, Q⟩ := E
  obtain ⟨hx, hb, hml, hown, hts, hK, hA, rfl, rfl, rfl, rfl⟩ := hE
  intro H locs ls hJ hl
  exact lv_if_le hx hb hd ht (fun hc => kt hc H locs ls hJ hl) (fun hc => kf hc H locs ls hJ hl)
theorem x_icmp_eq (hE : zOk E l0 D0 cy0 own cc nL R0) {x y : Int32} {off : Int} {tgt : Nat} (hd : decode cc pc = .ok (.if_icmp .eq off, 3)) (ht : (pc : Int) + off = (tgt : Int)) (kt : x = y → zW E k n L σ φ ρ tgt lv st) (kf : ¬ (x = y) → zW E k n L σ φ ρ (pc + 3) lv st) : zW E k n L σ φ ρ pc lv (.int y :: .int x :: st) := by
  obtain ⟨p, l, e, R, s, m, args, below, meth, c, D, cy, A, Q⟩ := E
  obtain ⟨hx, hb, hml, hown, hts, hK, hA, rfl, rfl, rfl, rfl⟩ := hE
  intro H locs ls hJ hl
  exact lv_icmp_eq hx hb hd ht (fun hc => kt hc H locs ls hJ hl) (fun hc => kf hc H locs ls hJ hl)
theorem x_icmp_ne (hE : zOk E l0 D0 cy0 own cc nL R0) {x y : Int32} {off : Int} {tgt : Nat} (hd : decode cc pc = .ok (.if_icmp .ne off, 3)) (ht : (pc : Int) + off = (tgt : Int)) (kt : x ≠ y → zW E k n L σ φ ρ tgt lv st) (kf : x = y → zW E k n L σ φ ρ (pc + 3) lv st) : zW E k n L σ φ ρ pc lv (.int y :: .int x :: st) := by
  obtain ⟨p, l, e, R, s, m, args, below, meth, c, D, cy, A, Q⟩ := E
  obtain ⟨hx, hb, hml, hown, hts, hK, hA, rfl, rfl, rfl, rfl⟩ := hE
  intro H locs ls hJ hl
  exact lv_icmp_ne hx hb hd ht (fun hc => kt hc H locs ls hJ hl) (fun hc => kf hc H locs ls hJ hl)
theorem x_icmp_lt (hE : zOk E l0 D0 cy0 own cc nL R0) {x y : Int32} {off : Int} {tgt : Nat} (hd : decode cc pc = .ok (.if_icmp .lt off, 3)) (ht : (pc : Int) + off = (tgt : Int)) (kt : x < y → zW E k n L σ φ ρ tgt lv st) (kf : ¬ (x < y) → zW E k n L σ φ ρ (pc + 3) lv st) : zW E k n L σ φ ρ pc lv (.int y :: .int x :: st) := by
  obtain ⟨p, l, e, R, s, m, args, below, meth, c, D, cy, A, Q⟩ := E
  obtain ⟨hx, hb, hml, hown, hts, hK, hA, rfl, rfl, rfl, rfl⟩ := hE
  intro H locs ls hJ hl
  exact lv_icmp_lt hx hb hd ht (fun hc => kt hc H locs ls hJ hl) (fun hc => kf hc H locs ls hJ hl)
theorem x_icmp_ge (hE : zOk E l0 D0 cy0 own cc nL R0) {x y : Int32} {off : Int} {tgt : Nat} (hd : decode cc pc = .ok (.if_icmp .ge off, 3)) (ht : (pc : Int) + off = (tgt : Int)) (kt : y ≤ x → zW E k n L σ φ ρ tgt lv st) (kf : ¬ (y ≤ x) → zW E k n L σ φ ρ (pc + 3) lv st) : zW E k n L σ φ ρ pc lv (.int y :: .int x :: st) := by
  obtain ⟨p, l, e, R, s, m, args, below, meth, c, D, cy, A, Q⟩ := E
  obtain ⟨hx, hb, hml, hown, hts, hK, hA, rfl, rfl, rfl, rfl⟩ := hE
  intro H locs ls hJ hl
  exact lv_icmp_ge hx hb hd ht (fun hc => kt hc H locs ls hJ hl) (fun hc => kf hc H locs ls hJ hl)
theorem x_icmp_gt (hE : zOk E l0 D0 cy0 own cc nL R0) {x y : Int32} {off : Int} {tgt : Nat} (hd : decode cc pc = .ok (.if_icmp .gt off, 3)) (ht : (pc : Int) + off = (tgt : Int)) (kt : y < x → zW E k n L σ φ ρ tgt lv st) (kf : ¬ (y < x) → zW E k n L σ φ ρ (pc + 3) lv st) : zW E k n L σ φ ρ pc lv (.int y :: .int x :: st) := by
  obtain ⟨p, l, e, R, s, m, args, below, meth, c, D, cy, A, Q⟩ := E
  obtain ⟨hx, hb, hml, hown, hts, hK, hA, rfl, rfl, rfl, rfl⟩ := hE
  intro H locs ls hJ hl
  exact lv_icmp_gt hx hb hd ht (fun hc => kt hc H locs ls hJ hl) (fun hc => kf hc H locs ls hJ hl)
theorem x_icmp_le (hE : zOk E l0 D0 cy0 own cc nL R0) {x y : Int32} {off : Int} {tgt : Nat} (hd : decode cc pc = .ok (.if_icmp .le off, 3)) (ht : (pc : Int) + off = (tgt : Int)) (kt : x ≤ y → zW E k n L σ φ ρ tgt lv st) (kf : ¬ (x ≤ y) → zW E k n L σ φ ρ (pc + 3) lv st) : zW E k n L σ φ ρ pc lv (.int y :: .int x :: st) := by
  obtain ⟨p, l, e, R, s, m, args, below, meth, c, D, cy, A, Q⟩ := E
  obtain ⟨hx, hb, hml, hown, hts, hK, hA, rfl, rfl, rfl, rfl⟩ := hE
  intro H locs ls hJ hl
  exact lv_icmp_le hx hb hd ht (fun hc => kt hc H locs ls hJ hl) (fun hc => kf hc H locs ls hJ hl)
theorem x_goto (hE : zOk E l0 D0 cy0 own cc nL R0) {off : Int} {tgt : Nat} (hd : decode cc pc = .ok (.goto off, 3)) (ht : (pc : Int) + off = (tgt : Int)) (kk : zW E k n L σ φ ρ tgt lv st) : zW E k n L σ φ ρ pc lv st := by
  obtain ⟨p, l, e, R, s, m, args, below, meth, c, D, cy, A, Q⟩ := E
  obtain ⟨hx, hb, hml, hown, hts, hK, hA, rfl, rfl, rfl, rfl⟩ := hE
  intro H locs ls hJ hl
  exact lv_goto hx hb hd ht (kk H locs ls hJ hl)
theorem x_ifnull (hE : zOk E l0 D0 cy0 own cc nL R0) {a : Nat} {off : Int} (hd : decode cc pc = .ok (.ifnull off, 3)) (kk : zW E k n L σ φ ρ (pc + 3) lv st) : zW E k n L σ φ ρ pc lv (.ref a :: st) := by
  obtain ⟨p, l, e, R, s, m, args, below, meth, c, D, cy, A, Q⟩ := E
  obtain ⟨hx, hb, hml, hown, hts, hK, hA, rfl, rfl, rfl, rfl⟩ := hE
  intro H locs ls hJ hl
  exact lv_ifnull hx hb hd (kk H locs ls hJ hl)
theorem x_ifnonnull (hE : zOk E l0 D0 cy0 own cc nL R0) {a : Nat} {off : Int} {tgt : Nat} (hd : decode cc pc = .ok (.ifnonnull off, 3)) (ht : (pc : Int) + off = (tgt : Int)) (kk : zW E k n L σ φ ρ tgt lv st) : zW E k n L σ φ ρ pc lv (.ref a :: st) := by
  obtain ⟨p, l, e, R, s, m, args, below, meth, c, D, cy, A, Q⟩ := E
  obtain ⟨hx, hb, hml, hown, hts, hK, hA, rfl, rfl, rfl, rfl⟩ := hE
  intro H locs ls hJ hl
  exact lv_ifnonnull hx hb hd ht (kk H locs ls hJ hl)
theorem x_tableOut (hE : zOk E l0 D0 cy0 own cc nL R0) {dflt lo hi : Int} {offs : Array Int} {len : Nat} {x : Int32} {tgt : Nat} (hd : decode cc pc = .ok (.tableswitch dflt lo hi offs, len)) (h : x.toInt < lo ∨ hi < x.toInt) (ht : (pc : Int) + dflt = (tgt : Int)) (kk : zW E k n L σ φ ρ tgt lv st) : zW E k n L σ φ ρ pc lv (.int x :: st) := by
  obtain ⟨p, l, e, R, s, m, args, below, meth, c, D, cy, A, Q⟩ := E
  obtain ⟨hx, hb, hml, hown, hts, hK, hA, rfl, rfl, rfl, rfl⟩ := hE
  intro H locs ls hJ hl
  exact lv_tableOut hx hb hd h ht (kk H locs ls hJ hl)
theorem x_tableIn (hE : zOk E l0 D0 cy0 own cc nL R0) {dflt lo hi : Int} {offs : Array Int} {len : Nat} {x : Int32} {off : Int} {tgt : Nat} (hd : decode cc pc = .ok (.tableswitch dflt lo hi offs, len)) (h1 : ¬ x.toInt < lo) (h2 : ¬ hi < x.toInt) (ho : offs[(x.toInt - lo).toNat]? = some off) (ht : (pc : Int) + off = (tgt : Int)) (kk : zW E k n L σ φ ρ tgt lv st) : zW E k n L σ φ ρ pc lv (.int x :: st) := by
  obtain ⟨p, l, e, R, s, m, args, below, meth, c, D, cy, A, Q⟩ := E
  obtain ⟨hx, hb, hml, hown, hts, hK, hA, rfl, rfl, rfl, rfl⟩ := hE
  intro H locs ls hJ hl
  exact lv_tableIn hx hb hd h1 h2 ho ht (kk H locs ls hJ hl)
/-- fewer locals -/
theorem x_sub {lv' : List (Nat × Value)} (hs : ∀ q ∈ lv', q ∈ lv) (kk : zW E k n L σ φ ρ pc lv' st) : zW E k n L σ φ ρ pc lv st := by
  obtain ⟨p, l, e, R, s, m, args, below, meth, c, D, cy, A, Q⟩ := E
  intro H locs ls hJ hl
  exact kk H locs ls hJ ⟨hl.1, hl.2.1, fun q hq => hl.2.2 q (hs q hq)⟩
theorem x_widen {k' n' : Nat} (h1 : k ≤ k') (h2 : n ≤ n') (kk : zW E k' n' L σ φ ρ pc lv st) : zW E k n L σ φ ρ pc lv st := by
  obtain ⟨p, l, e, R, s, m, args, below, meth, c, D, cy, A, Q⟩ := E
  intro H locs ls hJ hl
  exact W.widen h1 h2 (kk H locs ls hJ hl)
end ZP
