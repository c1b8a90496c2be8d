/-! Strings and the row SHAPES, which lie there from the beginning. -/
def zlen : List Nat := [11, 166]
def zbyt : List (List Int32) := [[43, 45, 42, 47, 60, 62, 61, 35, 40, 41, 59], [115, 119, 101, 97, 116, 32, 114, 97, 105, 110, 32, 116, 97, 120, 32, 100, 114, 105, 101, 115, 32, 115, 104, 97, 114, 101, 32, 102, 105, 101, 108, 100, 32, 114, 111, 97, 100, 32, 111, 110, 101, 32, 119, 111, 114, 107, 32, 103, 111, 32, 115, 104, 97, 107, 101, 32, 115, 116, 101, 97, 108, 32, 112, 111, 117, 114, 32, 104, 111, 117, 114, 32, 110, 101, 101, 100, 115, 32, 100, 114, 111, 119, 110, 115, 32, 111, 110, 32, 98, 121, 32, 116, 111, 32, 102, 114, 111, 109, 32, 115, 117, 109, 32, 99, 111, 117, 110, 116, 32, 101, 110, 100, 32, 111, 114, 32, 97, 110, 100, 32, 110, 111, 116, 32, 97, 103, 101, 32, 119, 104, 111, 32, 102, 117, 108, 108, 32, 99, 108, 111, 117, 100, 32, 111, 108, 100, 32, 104, 101, 114, 101, 32, 104, 101, 97, 116, 32, 119, 101, 116, 32, 98, 111, 116, 104, 32]]
def zshp : List Int32 := [(-1), 0, 9, 14, 0, 999, 15, 1, 999, (-1), 0, 5, 18, 0, 5, (-1), 0, 0, (-1), 1, 99, 26, 0, 99, 16, 0, 5, (-1), 0, 7, 17, 0, 9, (-1), 0, 0, (-1), 0, 7, 18, 0, 5, (-1), 0, 0, (-1), 0, 7, 18, 0, 7, (-1), 0, 0, (-1), 0, 7, 19, 0, 7, 17, 1, 99, (-1), 1, 999, 16, 0, 5, (-1), 0, 0, (-1), 1, 30, (-1), 0, 0, (-1), 0, 0]
def zs0 : String := "+-*/<>=#();"
def zs1 : String := "sweat rain tax dries share field road one work go shake steal pour hour needs drowns on by to from sum count end or and not age who full cloud old here heat wet both "
abbrev zAx : Type := (Nat → Nat) × (Nat → Nat) × Nat
def zXt (ax : zAx) (A : Nat → Prop) (U : State) (H : Heap) : Prop := vk_S 2 zlen zbyt ax.1 ax.2.1 A U H ∧ vk_R "OwnRain$Tape" 61 zs0 (ax.1 0) U ∧ vk_R "OwnRain$Tape" 68 zs1 (ax.1 1) U ∧ va_Z "java/lang/String" "COMPACT_STRINGS" "Z" (.int 1) A U H ∧ va_Z "OwnRain" "SHAPES" "[I" (.ref ax.2.2) A U H ∧ va_T .int ax.2.2 81 (fun j => .int (zshp.getD j 0)) A U H ∧ va_Nw (.fieldLinkNest "OwnRain$Reader" 106 "OwnRain" "SHAPES" "[I" "OwnRain") U ∧ ∃ t, va_Z "jdk/internal/util/Preconditions" "SIOOBE_FORMATTER" "Ljava/util/function/BiFunction;" (va_rf t) A U H
theorem zXt.kept {ax : zAx} {A : Nat → Prop} {U : State} {H H1 : Heap} (h : zXt ax A U H) (hq : ∀ a : Nat, a < H.size → ¬ A a → H1[a]? = H[a]?) : zXt ax A U H1 := by
  obtain ⟨h1, h2, h3, h4, h5, h6, hN, t, h7⟩ := h
  exact ⟨h1.kept hq, h2, h3, h4.kept hq, h5.kept hq, h6.kept hq, hN, t, h7.kept hq⟩
theorem zXt.narrow {ax : zAx} {A B : Nat → Prop} {U : State} {H : Heap} (h : zXt ax A U H) (hAB : ∀ q, B q → A q) : zXt ax B U H := by
  obtain ⟨h1, h2, h3, h4, h5, h6, hN, t, h7⟩ := h
  exact ⟨h1.narrow hAB, h2, h3, h4.narrow hAB, h5.narrow hAB, h6.narrow hAB, hN, t, h7.narrow hAB⟩
theorem zXt.warm {ax : zAx} {A : Nat → Prop} {s U : State} {H : Heap} (hW : s.WarmedH U.vm) (h : zXt ax A s H) : zXt ax A U H := by
  obtain ⟨h1, h2, h3, h4, h5, h6, hN, t, h7⟩ := h
  exact ⟨h1.moved hW.alike, h2.warm hW, h3.warm hW, h4.moved hW.alike, h5.moved hW.alike, h6.moved hW.alike, va_Nw.warmF hW hN, t, h7.moved hW.alike⟩
theorem zXt.same {ax : zAx} {A : Nat → Prop} {s U : State} {H : Heap} (hv : U.vm = s.vm) (h : zXt ax A s H) : zXt ax A U H := by
  obtain ⟨h1, h2, h3, h4, h5, h6, hN, t, h7⟩ := h
  have hm : s.vm.Alike U.vm := by rw [hv]; exact Vm.Alike.refl s.vm
  exact ⟨h1.moved hm, h2.same hv, h3.same hv, h4.moved hm, h5.moved hm, h6.moved hm, va_Nw.same rfl hv.symm hN, t, h7.moved hm⟩
/-! The pool: L its addresses, f what lies there. -/
def zcy (cy : Nat → ClassId) : List (ClassId × FieldType) := [(cy 0, .int), (cy 1, .long), (cy 2, .boolean), (cy 3, .object "OwnRain$Text"), (cy 4, .object "OwnRain$World")]
def znests : List (String × Nat × MethodName) := [("OwnRain", 9, ⟨"OwnRain$State", "<init>", "()V"⟩), ("OwnRain$State", 11, ⟨"OwnRain$Land", "<init>", "()V"⟩), ("OwnRain$State", 20, ⟨"OwnRain$World", "<init>", "()V"⟩), ("OwnRain$Steps", 21, ⟨"OwnRain$World", "<init>", "()V"⟩), ("OwnRain$State", 34, ⟨"OwnRain$Lists", "<init>", "()V"⟩), ("OwnRain", 21, ⟨"OwnRain$Tape", "<init>", "()V"⟩), ("OwnRain$Planner", 44, ⟨"OwnRain$World", "<init>", "()V"⟩), ("OwnRain$Reader", 24, ⟨"OwnRain$Text", "<init>", "()V"⟩), ("OwnRain$Tape", 77, ⟨"OwnRain", "isWithin", "(III)Z"⟩), ("OwnRain$Reader", 118, ⟨"OwnRain", "isWithin", "(III)Z"⟩), ("OwnRain$Weather", 95, ⟨"OwnRain", "bring", "(III)I"⟩), ("OwnRain$State", 73, ⟨"OwnRain", "isWithin", "(III)Z"⟩), ("OwnRain$Planner", 69, ⟨"OwnRain", "isOf", "(II)Z"⟩)]
def zK (D : va_G) (cy : Nat → ClassId) (U : State) : Prop := va_K D vwCl (zcy cy) U ∧ (∀ q ∈ znests, va_Nw (.methodLinkNest q.1 q.2.1 q.2.2 "OwnRain") U) ∧ va_AO "OwnRain$Text" U ∧ va_AO "OwnRain$World" U
theorem zK.warm {D : va_G} {cy : Nat → ClassId} {s U : State} (hW : s.WarmedH U.vm) (h : zK D cy s) : zK D cy U := ⟨va_K.moved hW.alike h.1, fun q hq => va_Nw.warmM hW (h.2.1 q hq), va_AO.moved hW.alike h.2.2.1, va_AO.moved hW.alike h.2.2.2⟩
abbrev zIA (cy : Nat → ClassId) (n : Nat) (g : Nat → Int32) : va_E := .inl (cy 0, n, .inl g)
abbrev zJA (cy : Nat → ClassId) (n : Nat) (g : Nat → Int64) : va_E := .inl (cy 1, n, .inr (.inl g))
abbrev zZA (cy : Nat → ClassId) (n : Nat) (g : Nat → Int32) : va_E := .inl (cy 2, n, .inl g)
abbrev zRA (c : ClassId) (n : Nat) (g : Nat → Option Nat) : va_E := .inl (c, n, .inr (.inr (.inr (.inr g))))
def eJ (D : va_G) (A : Nat → Prop) (H0 : Heap) (L : List Nat) (f : Nat → va_E) (H : Heap) (locs : List Loc) : Prop := va_P D vwCl (va_pl L f) H ∧ va_D A (va_pl L f) ∧ va_S A H0 H locs
/-! The ghost: what a method has gone through, in whole numbers alone (a reference: its address; null: -1). -/
abbrev g_V : Type := Nat × Int
abbrev g_H : Type := List Nat × (Nat → Nat → Int)
abbrev g_C : Type := Nat × (Nat → Int) × List g_V × g_H
abbrev g_E : Type := MethodName → ByteArray → List (Nat × Int) → g_H → Option g_V → g_H → Prop
def g_vi (v : Value) : Int := match v with
  | .int x => x.toInt
  | .long x => x.toInt
  | .ref a => (a : Int)
  | _ => -1
def g_vt (v : Value) : g_V := (v.category, g_vi v)
/-- what lies at a place -/
def g_cell (e : va_E) (j : Nat) : Int := match e with
  | .inr (_, fs) => g_vi (fs.getD j .null)
  | .inl (_, _, .inl g) => (g j).toInt
  | .inl (_, _, .inr (.inl g)) => (g j).toInt
  | .inl (_, _, .inr (.inr (.inr (.inr g)))) => g_vi (va_rf (g j))
  | _ => 0
/-- what lies there from the beginning -/
def g_sp (ax : zAx) (a j : Nat) : Int := if a = ax.2.2 then (zshp.getD j 0).toInt else 0
/-- the law and the JDK's own tell no steps -/
def g_triv (own : String) : Bool := own == "OwnRainLaw" || own == "java/lang/String" || own == "java/lang/StringLatin1" || own == "jdk/internal/util/Preconditions"
/-- the first place of a sign -/
def ixE (c : Int32) (v : Int) : Prop := (v = -1 ∨ (0 ≤ v ∧ v ≤ 10 ∧ (zbyt.getD 0 []).getD v.toNat 0 = c.toInt8.toInt32)) ∧ (0 ≤ c.toInt → c.toInt ≤ 255 → ∀ k : Nat, k < 11 → (v = -1 ∨ (k : Int) < v) → (zbyt.getD 0 []).getD k 0 ≠ c.toInt8.toInt32)
def g_of (ax : zAx) (L : List Nat) (f : Nat → va_E) : Nat → Nat → Int := fun a j => if a ∈ L then g_cell (f a) j else g_sp ax a j
def g_up (g : Nat → Nat → Int) (a j : Nat) (v : Int) : Nat → Nat → Int := fun b i => if i = j ∧ b = a then v else g b i
def g_upr (g : Nat → Nat → Int) (a : Nat) (d : Nat → Int) : Nat → Nat → Int := fun b i => if b = a then d i else g b i
def g_cpy (g : Nat → Nat → Int) (s sp d dp n : Nat) : Nat → Nat → Int := fun b i => if b = d ∧ dp ≤ i ∧ i < dp + n then g s (sp + (i - dp)) else g b i
/-- what waits on the stack, from the top -/
def g_t (st : List g_V) (i : Nat) : Int := (st.getD i (1, 0)).2
/-- the field's number by its link, and how wide it is -/
def g_fr (own : String) (idx j cat : Nat) : Prop := ∃ (ci : Nat) (C : String) (T : u_T) (N : Nat), vwCl[ci]? = some (C, T, N) ∧ j < N ∧ Cond.fieldLink own idx (T j).1 (T j).2.1 (T j).2.2.1 ∈ gtbl ∧ cat = (if (T j).2.2.1 = "J" then 2 else 1)
def g_lay : Nat → List g_V → List (Nat × Int)
  | _, [] => []
  | i, v :: vs => (i, v.2) :: g_lay (if v.1 = 2 then i + 2 else i + 1) vs
def g_push (r : Option g_V) (st : List g_V) : List g_V := match r with
  | some v => v :: st
  | none => st
/-- a state knows one code of each method -/
theorem g_cdu {y : MethodName} {b b' : ByteArray} {nb nb' : Nat} {ret ret' : Option FieldType} {args : Array Value} {s : State} (h : (Cond.code y b nb ret).before args s = true) (h' : (Cond.code y b' nb' ret').before args s = true) : b' = b := by
  unfold Cond.before Cond.holds at h h'
  simp only [Cond.value, beq_iff_eq] at h h'
  cases hm : (s.methodNamed? y).bind s.vm.method? with
  | none => rw [hm] at h; cases h
  | some meth =>
    rw [hm] at h h'
    simp only [Option.map_some, Option.some.injEq, Bool.and_eq_true] at h h'
    have h1 := h.1.1.1
    have h2 := h'.1.1.1
    cases hc : meth.code with
    | none => rw [hc] at h1; cases h1
    | some c =>
      rw [hc] at h1 h2
      simp only [Option.any_some, Bool.and_eq_true, decide_eq_true_eq] at h1 h2
      exact h2.1.1.1.symm.trans h1.1.1.1
/-- a call of one's own methods -/
def g_call (CE : g_E) (own : String) (idx pc : Nat) (ρ : Nat → Int) (st : List g_V) (h : g_H) (c' : g_C) : Prop := ∃ (y : MethodName) (b : ByteArray) (nb : Nat) (ret : Option FieldType) (av st0 : List g_V) (r : Option g_V) (h' : g_H), (Cond.methodLink own idx y ∈ gtbl ∨ (own, idx, y) ∈ znests) ∧ Cond.code y b nb ret ∈ gtbl ∧ (∀ b' nb' ret', Cond.code y b' nb' ret' ∈ gtbl → b' = b) ∧ (parseMethodDescriptor y.desc).map (fun d => d.parameters.length) = some av.length ∧ st = av.reverse ++ st0 ∧ CE y b (g_lay 0 av) h r h' ∧ c' = (pc + 3, ρ, g_push r st0, h')
def g_callV (CE : g_E) (own : String) (idx pc : Nat) (ρ : Nat → Int) (st : List g_V) (h : g_H) (c' : g_C) : Prop := ∃ (y : MethodName) (b : ByteArray) (nb : Nat) (ret : Option FieldType) (a : Int) (av st0 : List g_V) (r : Option g_V) (h' : g_H), (Cond.methodLink own idx y ∈ gtbl ∨ (own, idx, y) ∈ znests) ∧ Cond.code y b nb ret ∈ gtbl ∧ (∀ b' nb' ret', Cond.code y b' nb' ret' ∈ gtbl → b' = b) ∧ (parseMethodDescriptor y.desc).map (fun d => d.parameters.length) = some av.length ∧ st = av.reverse ++ (1, a) :: st0 ∧ (∃ w : Nat, a = (w : Int) ∧ w ∈ h.1) ∧ CE y b (g_lay 0 ((1, a) :: av)) h r h' ∧ c' = (pc + 3, ρ, g_push r st0, h')
def g_callI (CE : g_E) (own : String) (idx pc : Nat) (ρ : Nat → Int) (st : List g_V) (h : g_H) (c' : g_C) : Prop := ∃ (y : MethodName) (b : ByteArray) (nb : Nat) (ret : Option FieldType) (a : Int) (av st0 : List g_V) (r : Option g_V) (h' : g_H), (Cond.methodLink own idx y ∈ gtbl ∨ (own, idx, y) ∈ znests) ∧ Cond.code y b nb ret ∈ gtbl ∧ (∀ b' nb' ret', Cond.code y b' nb' ret' ∈ gtbl → b' = b) ∧ (parseMethodDescriptor y.desc).map (fun d => d.parameters.length) = some av.length ∧ st = av.reverse ++ (1, a) :: st0 ∧ CE y b (g_lay 0 ((1, a) :: av)) h r h' ∧ c' = (pc + 3, ρ, g_push r st0, h')
/-- a call on one of the two strings -/
def g_str (own : String) (ax : zAx) (idx pc : Nat) (ρ : Nat → Int) (st : List g_V) (h : g_H) (c' : g_C) : Prop := own = "OwnRain$Tape" ∧ ∃ i, i < 2 ∧ ((Cond.methodLink own idx ⟨"java/lang/String", "length", "()I"⟩ ∈ gtbl ∧ g_t st 0 = ax.1 i ∧ c' = (pc + 3, ρ, (1, (Int32.ofNat (zlen.getD i 0)).toInt) :: st.drop 1, h)) ∨ (Cond.methodLink own idx ⟨"java/lang/String", "charAt", "(I)C"⟩ ∈ gtbl ∧ g_t st 1 = ax.1 i ∧ c' = (pc + 3, ρ, (1, ((zbyt.getD i []).getD (g_t st 0).toNat 0 &&& 255).toInt) :: st.drop 2, h)) ∨ (i = 0 ∧ Cond.methodLink own idx ⟨"java/lang/String", "indexOf", "(I)I"⟩ ∈ gtbl ∧ g_t st 1 = ax.1 i ∧ ∃ v : Int, ixE (Int32.ofInt (g_t st 0)) v ∧ c' = (pc + 3, ρ, (1, (Int32.ofInt v).toInt) :: st.drop 2, h)))
/-- numbers of 32 and 64 bits -/
def g_i (z : Int) : Int := if -2147483648 ≤ z ∧ z ≤ 2147483647 then z else z.bmod 4294967296
def g_l (z : Int) : Int := if -9223372036854775808 ≤ z ∧ z ≤ 9223372036854775807 then z else z.bmod 18446744073709551616
def g_i8 (z : Int) : Int := if -128 ≤ z ∧ z ≤ 127 then z else ((Int8.ofInt z).toInt32).toInt
def g_i16 (z : Int) : Int := if -32768 ≤ z ∧ z ≤ 32767 then z else ((Int16.ofInt z).toInt32).toInt
def g_in (own : String) (ax : zAx) (CE : g_E) (i : Instr) (len : Nat) (c c' : g_C) : Prop := match c with
  | (pc, ρ, st, L, g) => match i with
    | .iconst z => c' = (pc + len, ρ, (1, g_i z) :: st, L, g)
    | .bipush z => c' = (pc + len, ρ, (1, g_i8 z) :: st, L, g)
    | .sipush z => c' = (pc + len, ρ, (1, g_i16 z) :: st, L, g)
    | .lconst z => c' = (pc + len, ρ, (2, ((z : Nat) : Int)) :: st, L, g)
    | .ldc k => (∃ v, Cond.constant own k v ∈ gtbl ∧ c' = (pc + len, ρ, (1, v.toInt) :: st, L, g)) ∨ (own = "OwnRain$Tape" ∧ ∃ j, (k = 61 ∧ j = 0 ∨ k = 68 ∧ j = 1) ∧ c' = (pc + len, ρ, (1, (ax.1 j : Int)) :: st, L, g))
    | .ldc_w k => ∃ v, Cond.constant own k v ∈ gtbl ∧ c' = (pc + len, ρ, (1, v.toInt) :: st, L, g)
    | .ldc2_w k => ∃ v, Cond.constantLong own k v ∈ gtbl ∧ c' = (pc + len, ρ, (2, v.toInt) :: st, L, g)
    | .aconst_null => c' = (pc + len, ρ, (1, -1) :: st, L, g)
    | .iload_n z => c' = (pc + len, ρ, (1, ρ (z : Nat)) :: st, L, g)
    | .aload_n z => c' = (pc + len, ρ, (1, ρ (z : Nat)) :: st, L, g)
    | .lload_n z => c' = (pc + len, ρ, (2, ρ (z : Nat)) :: st, L, g)
    | .iload z => c' = (pc + len, ρ, (1, ρ z) :: st, L, g)
    | .aload z => c' = (pc + len, ρ, (1, ρ z) :: st, L, g)
    | .lload z => c' = (pc + len, ρ, (2, ρ z) :: st, L, g)
    | .istore_n z => c' = (pc + len, va_up ρ (z : Nat) (g_t st 0), st.drop 1, L, g)
    | .astore_n z => c' = (pc + len, va_up ρ (z : Nat) (g_t st 0), st.drop 1, L, g)
    | .istore z => c' = (pc + len, va_up ρ z (g_t st 0), st.drop 1, L, g)
    | .astore z => c' = (pc + len, va_up ρ z (g_t st 0), st.drop 1, L, g)
    | .lstore z => c' = (pc + len, va_up ρ z (g_t st 0), st.drop 1, L, g)
    | .iinc k z => c' = (pc + len, va_up ρ k (g_i (ρ k + z)), st, L, g)
    | .iadd => c' = (pc + len, ρ, (1, g_i (g_t st 1 + g_t st 0)) :: st.drop 2, L, g)
    | .isub => c' = (pc + len, ρ, (1, g_i (g_t st 1 - g_t st 0)) :: st.drop 2, L, g)
    | .imul => c' = (pc + len, ρ, (1, g_i (g_t st 1 * g_t st 0)) :: st.drop 2, L, g)
    | .iand => c' = (pc + len, ρ, (1, (Int32.ofInt (g_t st 1) &&& Int32.ofInt (g_t st 0)).toInt) :: st.drop 2, L, g)
    | .ior => c' = (pc + len, ρ, (1, (Int32.ofInt (g_t st 1) ||| Int32.ofInt (g_t st 0)).toInt) :: st.drop 2, L, g)
    | .ixor => c' = (pc + len, ρ, (1, (Int32.ofInt (g_t st 1) ^^^ Int32.ofInt (g_t st 0)).toInt) :: st.drop 2, L, g)
    | .ishl => c' = (pc + len, ρ, (1, (Int32.ofInt (g_t st 1) <<< (Int32.ofInt (g_t st 0) &&& 31)).toInt) :: st.drop 2, L, g)
    | .ishr => c' = (pc + len, ρ, (1, (Int32.ofInt (g_t st 1) >>> (Int32.ofInt (g_t st 0) &&& 31)).toInt) :: st.drop 2, L, g)
    | .iushr => c' = (pc + len, ρ, (1, (((Int32.ofInt (g_t st 1)).toUInt32 >>> ((Int32.ofInt (g_t st 0)).toUInt32 &&& Int32.toUInt32 31)).toInt32).toInt) :: st.drop 2, L, g)
    | .idiv => c' = (pc + len, ρ, (1, g_i ((g_t st 1).tdiv (g_t st 0))) :: st.drop 2, L, g)
    | .irem => c' = (pc + len, ρ, (1, (g_t st 1).tmod (g_t st 0)) :: st.drop 2, L, g)
    | .ineg => c' = (pc + len, ρ, (1, g_i (-g_t st 0)) :: st.drop 1, L, g)
    | .ladd => c' = (pc + len, ρ, (2, g_l (g_t st 1 + g_t st 0)) :: st.drop 2, L, g)
    | .lsub => c' = (pc + len, ρ, (2, g_l (g_t st 1 - g_t st 0)) :: st.drop 2, L, g)
    | .lmul => c' = (pc + len, ρ, (2, g_l (g_t st 1 * g_t st 0)) :: st.drop 2, L, g)
    | .land => c' = (pc + len, ρ, (2, (Int64.ofInt (g_t st 1) &&& Int64.ofInt (g_t st 0)).toInt) :: st.drop 2, L, g)
    | .lor => c' = (pc + len, ρ, (2, (Int64.ofInt (g_t st 1) ||| Int64.ofInt (g_t st 0)).toInt) :: st.drop 2, L, g)
    | .ldiv => c' = (pc + len, ρ, (2, g_l ((g_t st 1).tdiv (g_t st 0))) :: st.drop 2, L, g)
    | .lrem => c' = (pc + len, ρ, (2, (g_t st 1).tmod (g_t st 0)) :: st.drop 2, L, g)
    | .lneg => c' = (pc + len, ρ, (2, g_l (-g_t st 0)) :: st.drop 1, L, g)
    | .lshl => c' = (pc + len, ρ, (2, (Int64.ofInt (g_t st 1) <<< ((Int32.ofInt (g_t st 0)).toInt64 &&& 63)).toInt) :: st.drop 2, L, g)
    | .lshr => c' = (pc + len, ρ, (2, (Int64.ofInt (g_t st 1) >>> ((Int32.ofInt (g_t st 0)).toInt64 &&& 63)).toInt) :: st.drop 2, L, g)
    | .i2l => c' = (pc + len, ρ, (2, g_t st 0) :: st.drop 1, L, g)
    | .l2i => c' = (pc + len, ρ, (1, g_i (g_t st 0)) :: st.drop 1, L, g)
    | .i2c => c' = (pc + len, ρ, (1, (((Int32.ofInt (g_t st 0)).toUInt32 % 65536).toInt32).toInt) :: st.drop 1, L, g)
    | .lcmp => c' = (pc + len, ρ, (1, (if g_t st 0 < g_t st 1 then 1 else if g_t st 1 = g_t st 0 then 0 else -1)) :: st.drop 2, L, g)
    | .dup => c' = (pc + len, ρ, st.getD 0 (1, 0) :: st, L, g)
    | .pop => c' = (pc + len, ρ, st.drop 1, L, g)
    | .dup_x1 => c' = (pc + len, ρ, st.getD 0 (1, 0) :: st.getD 1 (1, 0) :: st.getD 0 (1, 0) :: st.drop 2, L, g)
    | .dup_x2 => c' = (pc + len, ρ, st.getD 0 (1, 0) :: st.getD 1 (1, 0) :: st.getD 2 (1, 0) :: st.getD 0 (1, 0) :: st.drop 3, L, g)
    | .dup2 => c' = (pc + len, ρ, st.getD 0 (1, 0) :: st.getD 1 (1, 0) :: st.getD 0 (1, 0) :: st.getD 1 (1, 0) :: st.drop 2, L, g)
    | .ifCond .eq off => c' = (if g_t st 0 = 0 then ((pc : Int) + off).toNat else pc + len, ρ, st.drop 1, L, g)
    | .ifCond .ne off => c' = (if g_t st 0 = 0 then pc + len else ((pc : Int) + off).toNat, ρ, st.drop 1, L, g)
    | .ifCond .lt off => c' = (if g_t st 0 < 0 then ((pc : Int) + off).toNat else pc + len, ρ, st.drop 1, L, g)
    | .ifCond .ge off => c' = (if 0 ≤ g_t st 0 then ((pc : Int) + off).toNat else pc + len, ρ, st.drop 1, L, g)
    | .ifCond .gt off => c' = (if 0 < g_t st 0 then ((pc : Int) + off).toNat else pc + len, ρ, st.drop 1, L, g)
    | .ifCond .le off => c' = (if g_t st 0 ≤ 0 then ((pc : Int) + off).toNat else pc + len, ρ, st.drop 1, L, g)
    | .if_icmp .eq off => c' = (if g_t st 1 = g_t st 0 then ((pc : Int) + off).toNat else pc + len, ρ, st.drop 2, L, g)
    | .if_icmp .ne off => c' = (if g_t st 1 = g_t st 0 then pc + len else ((pc : Int) + off).toNat, ρ, st.drop 2, L, g)
    | .if_icmp .lt off => c' = (if g_t st 1 < g_t st 0 then ((pc : Int) + off).toNat else pc + len, ρ, st.drop 2, L, g)
    | .if_icmp .ge off => c' = (if g_t st 0 ≤ g_t st 1 then ((pc : Int) + off).toNat else pc + len, ρ, st.drop 2, L, g)
    | .if_icmp .gt off => c' = (if g_t st 0 < g_t st 1 then ((pc : Int) + off).toNat else pc + len, ρ, st.drop 2, L, g)
    | .if_icmp .le off => c' = (if g_t st 1 ≤ g_t st 0 then ((pc : Int) + off).toNat else pc + len, ρ, st.drop 2, L, g)
    | .goto off => c' = (((pc : Int) + off).toNat, ρ, st, L, g)
    | .ifnull off => c' = (if g_t st 0 = -1 then ((pc : Int) + off).toNat else pc + len, ρ, st.drop 1, L, g)
    | .ifnonnull off => c' = (if g_t st 0 = -1 then pc + len else ((pc : Int) + off).toNat, ρ, st.drop 1, L, g)
    | .tableswitch dflt lo hi offs => c' = (if g_t st 0 < lo ∨ hi < g_t st 0 then ((pc : Int) + dflt).toNat else ((pc : Int) + offs.getD (g_t st 0 - lo).toNat 0).toNat, ρ, st.drop 1, L, g)
    | .getfield idx => ∃ j cat, g_fr own idx j cat ∧ c' = (pc + len, ρ, (cat, g (g_t st 0).toNat j) :: st.drop 1, L, g)
    | .putfield idx => ∃ j cat, g_fr own idx j cat ∧ c' = (pc + len, ρ, st.drop 2, L, g_up g (g_t st 1).toNat j (g_t st 0))
    | .getstatic idx => own = "OwnRain$Reader" ∧ idx = 106 ∧ c' = (pc + len, ρ, (1, (ax.2.2 : Int)) :: st, L, g)
    | .iaload => c' = (pc + len, ρ, (1, g (g_t st 1).toNat (g_t st 0).toNat) :: st.drop 2, L, g)
    | .baload => c' = (pc + len, ρ, (1, g (g_t st 1).toNat (g_t st 0).toNat) :: st.drop 2, L, g)
    | .aaload => c' = (pc + len, ρ, (1, g (g_t st 1).toNat (g_t st 0).toNat) :: st.drop 2, L, g)
    | .laload => c' = (pc + len, ρ, (2, g (g_t st 1).toNat (g_t st 0).toNat) :: st.drop 2, L, g)
    | .iastore => c' = (pc + len, ρ, st.drop 3, L, g_up g (g_t st 2).toNat (g_t st 1).toNat (g_t st 0))
    | .aastore => c' = (pc + len, ρ, st.drop 3, L, g_up g (g_t st 2).toNat (g_t st 1).toNat (g_t st 0))
    | .lastore => c' = (pc + len, ρ, st.drop 3, L, g_up g (g_t st 2).toNat (g_t st 1).toNat (g_t st 0))
    | .bastore => c' = (pc + len, ρ, st.drop 3, L, g_up g (g_t st 2).toNat (g_t st 1).toNat (vp_nar .boolean (Int32.ofInt (g_t st 0))).toInt)
    | .arraylength => ∃ v, c' = (pc + len, ρ, (1, v) :: st.drop 1, L, g)
    | .new idx => ∃ (q ci N : Nat) (C : String) (T : u_T) (ty0 : Nat → FieldType) (d : Nat → Int), q ∉ L ∧ q ≠ ax.2.2 ∧ q ≠ ax.1 0 ∧ q ≠ ax.1 1 ∧ vwCl[ci]? = some (C, T, N) ∧ Cond.classLink own idx C ∈ gtbl ∧ (∀ j, j < N → parseFieldDescriptor (T j).2.2.1 = some (ty0 j) ∧ d j = g_vi (defaultValue (ty0 j))) ∧ c' = (pc + len, ρ, (1, (q : Int)) :: st, L ++ [q], g_upr g q d)
    | .newarray _ => ∃ q : Nat, q ∉ L ∧ q ≠ ax.2.2 ∧ q ≠ ax.1 0 ∧ q ≠ ax.1 1 ∧ c' = (pc + len, ρ, (1, (q : Int)) :: st.drop 1, L ++ [q], g_upr g q (fun _ => 0))
    | .anewarray _ => ∃ q : Nat, q ∉ L ∧ q ≠ ax.2.2 ∧ q ≠ ax.1 0 ∧ q ≠ ax.1 1 ∧ c' = (pc + len, ρ, (1, (q : Int)) :: st.drop 1, L ++ [q], g_upr g q (fun _ => -1))
    | .invokevirtual idx => g_callV CE own idx pc ρ st (L, g) c' ∨ g_str own ax idx pc ρ st (L, g) c'
    | .invokespecial idx => g_callI CE own idx pc ρ st (L, g) c' ∨ (Cond.methodLink own idx objectInit ∈ gtbl ∧ c' = (pc + len, ρ, st.drop 1, L, g))
    | .invokestatic idx => g_call CE own idx pc ρ st (L, g) c' ∨ (Cond.methodLink own idx arraycopyName ∈ gtbl ∧ c' = (pc + len, ρ, st.drop 5, L, g_cpy g (g_t st 4).toNat (g_t st 3).toNat (g_t st 2).toNat (g_t st 1).toNat (g_t st 0).toNat)) ∨ (Cond.methodLink own idx Lib.Math.min.name ∈ gtbl ∧ c' = (pc + len, ρ, (1, min (g_t st 1) (g_t st 0)) :: st.drop 2, L, g)) ∨ (Cond.methodLink own idx Lib.Math.max.name ∈ gtbl ∧ c' = (pc + len, ρ, (1, max (g_t st 1) (g_t st 0)) :: st.drop 2, L, g))
    | .ireturn => False
    | .lreturn => False
    | .areturn => False
    | .return_ => False
    | _ => True
/-- a step; the law's own steps tell nothing -/
def g_st (own : String) (ax : zAx) (CE : g_E) (cc : ByteArray) (c c' : g_C) : Prop := g_triv own = true ∨ ∃ i len, decode cc c.1 = .ok (i, len) ∧ g_in own ax CE i len c c'
def g_re (own : String) (ax : zAx) (CE : g_E) (cc : ByteArray) (c0 c : g_C) : Prop := ∀ P : g_C → Prop, P c0 → (∀ c1 c2, P c1 → g_st own ax CE cc c1 c2 → P c2) → P c
/-- at a return -/
def g_rt (cc : ByteArray) (c : g_C) (r : Option g_V) (h : g_H) : Prop := ((∃ len, decode cc c.1 = .ok (.return_, len)) ∧ r = none ∨ (∃ len, decode cc c.1 = .ok (.ireturn, len) ∨ decode cc c.1 = .ok (.lreturn, len) ∨ decode cc c.1 = .ok (.areturn, len)) ∧ r = some (c.2.2.1.getD 0 (1, 0))) ∧ h = c.2.2.2
def g_bd (ax : zAx) (CE : g_E) (y : MethodName) (cc : ByteArray) (as : List (Nat × Int)) (h : g_H) (r : Option g_V) (h' : g_H) : Prop := ∃ (ρ : Nat → Int) (c : g_C), (∀ q ∈ as, ρ q.1 = q.2) ∧ g_re y.cls ax CE cc (0, ρ, [], h) c ∧ g_rt cc c r h'
/-- what a call did: the least that is closed under calls -/
def g_ex (ax : zAx) : g_E := fun y cc as h r h' => ∀ CE : g_E, (∀ y cc as h r h', g_bd ax CE y cc as h r h' → CE y cc as h r h') → CE y cc as h r h'
theorem g_call_mono {CE CE' : g_E} (hm : ∀ y cc as h r h', CE y cc as h r h' → CE' y cc as h r h') {own : String} {idx pc : Nat} {ρ : Nat → Int} {st : List g_V} {h : g_H} {c' : g_C} (hc : g_call CE own idx pc ρ st h c') : g_call CE' own idx pc ρ st h c' := by
  obtain ⟨y, b, nb, ret, av, st0, r, h', h1, h2, hu, h3, h4, h5, h6⟩ := hc
  exact ⟨y, b, nb, ret, av, st0, r, h', h1, h2, hu, h3, h4, hm _ _ _ _ _ _ h5, h6⟩
theorem g_callV_mono {CE CE' : g_E} (hm : ∀ y cc as h r h', CE y cc as h r h' → CE' y cc as h r h') {own : String} {idx pc : Nat} {ρ : Nat → Int} {st : List g_V} {h : g_H} {c' : g_C} (hc : g_callV CE own idx pc ρ st h c') : g_callV CE' own idx pc ρ st h c' := by
  obtain ⟨y, b, nb, ret, a, av, st0, r, h', h1, h2, hu, h3, h4, h7, h5, h6⟩ := hc
  exact ⟨y, b, nb, ret, a, av, st0, r, h', h1, h2, hu, h3, h4, h7, hm _ _ _ _ _ _ h5, h6⟩
theorem g_callI_mono {CE CE' : g_E} (hm : ∀ y cc as h r h', CE y cc as h r h' → CE' y cc as h r h') {own : String} {idx pc : Nat} {ρ : Nat → Int} {st : List g_V} {h : g_H} {c' : g_C} (hc : g_callI CE own idx pc ρ st h c') : g_callI CE' own idx pc ρ st h c' := by
  obtain ⟨y, b, nb, ret, a, av, st0, r, h', h1, h2, hu, h3, h4, h5, h6⟩ := hc
  exact ⟨y, b, nb, ret, a, av, st0, r, h', h1, h2, hu, h3, h4, hm _ _ _ _ _ _ h5, h6⟩
theorem g_in_mono {CE CE' : g_E} (hm : ∀ y cc as h r h', CE y cc as h r h' → CE' y cc as h r h') {own : String} {ax : zAx} {i : Instr} {len : Nat} {c c' : g_C} (h : g_in own ax CE i len c c') : g_in own ax CE' i len c c' := by
  obtain ⟨pc, ρ, st, L, g⟩ := c
  cases i <;> first | exact h | skip
  case ifCond k off => cases k <;> exact h
  case if_icmp k off => cases k <;> exact h
  case invokevirtual idx =>
    rcases h with h | h
    · exact Or.inl (g_callV_mono hm h)
    · exact Or.inr h
  case invokespecial idx =>
    rcases h with h | h
    · exact Or.inl (g_callI_mono hm h)
    · exact Or.inr h
  case invokestatic idx =>
    rcases h with h | h
    · exact Or.inl (g_call_mono hm h)
    · exact Or.inr h
theorem g_st_mono {CE CE' : g_E} (hm : ∀ y cc as h r h', CE y cc as h r h' → CE' y cc as h r h') {own : String} {ax : zAx} {cc : ByteArray} {c c' : g_C} (h : g_st own ax CE cc c c') : g_st own ax CE' cc c c' := by
  rcases h with h | ⟨i, len, h1, h2⟩
  · exact Or.inl h
  · exact Or.inr ⟨i, len, h1, g_in_mono hm h2⟩
theorem g_bd_mono {CE CE' : g_E} (hm : ∀ y cc as h r h', CE y cc as h r h' → CE' y cc as h r h') {ax : zAx} {y : MethodName} {cc : ByteArray} {as : List (Nat × Int)} {h : g_H} {r : Option g_V} {h' : g_H} (hb : g_bd ax CE y cc as h r h') : g_bd ax CE' y cc as h r h' := by
  obtain ⟨ρ, c, h1, h2, h3⟩ := hb
  exact ⟨ρ, c, h1, fun P p0 ps => h2 P p0 (fun c1 c2 hp hs => ps c1 c2 hp (g_st_mono hm hs)), h3⟩
theorem g_ex_fold {ax : zAx} {y : MethodName} {cc : ByteArray} {as : List (Nat × Int)} {h : g_H} {r : Option g_V} {h' : g_H} (hb : g_bd ax (g_ex ax) y cc as h r h') : g_ex ax y cc as h r h' := by
  intro CE hc
  exact hc _ _ _ _ _ _ (g_bd_mono (fun y cc as h r h' hx => hx CE hc) hb)
theorem g_ex_un {ax : zAx} {y : MethodName} {cc : ByteArray} {as : List (Nat × Int)} {h : g_H} {r : Option g_V} {h' : g_H} (hx : g_ex ax y cc as h r h') : g_bd ax (g_ex ax) y cc as h r h' := hx (fun y cc as h r h' => g_bd ax (g_ex ax) y cc as h r h') (fun _ _ _ _ _ _ hb => g_bd_mono (fun _ _ _ _ _ _ h => g_ex_fold h) hb)
theorem g_lay_args (av : List Value) : ∀ i, g_lay i (av.map g_vt) = (lv_args i av).map (fun q => (q.1, g_vi q.2)) := by
  induction av with
  | nil => intro i; rfl
  | cons v vs ih =>
    intro i
    show (i, g_vi v) :: g_lay (if v.category = 2 then i + 2 else i + 1) (vs.map g_vt) = _
    rw [ih]
    rfl
theorem g_lay0 {av : List Value} : g_lay 0 (av.map g_vt) = (lv_args 0 av).map (fun q => (q.1, g_vi q.2)) := g_lay_args av 0
/-- writing a cell of the pool -/
theorem g_of_up {ax : zAx} {L : List Nat} {f : Nat → va_E} {a : Nat} {e : va_E} {j : Nat} {v : Int} (ha : a ∈ L) (h : ∀ i, g_cell e i = if i = j then v else g_cell (f a) i) : g_of ax L (va_up f a e) = g_up (g_of ax L f) a j v := by
  funext b i
  unfold g_of g_up
  by_cases hb : b = a
  · subst hb
    rw [if_pos ha, va_up_self, h]
    by_cases hi : i = j
    · rw [if_pos hi, if_pos ⟨hi, rfl⟩]
    · rw [if_neg hi, if_neg (fun h => hi h.1)]
      exact (if_pos ha).symm
  · rw [va_up_ne _ _ hb, if_neg (fun h : i = j ∧ b = a => hb h.2)]
theorem g_of_in {ax : zAx} {L : List Nat} {f : Nat → va_E} {a : Nat} (ha : a ∈ L) (j : Nat) : g_of ax L f a j = g_cell (f a) j := if_pos ha
theorem g_of_new {ax : zAx} {L : List Nat} {f : Nat → va_E} {q : Nat} {e : va_E} : g_of ax (L ++ [q]) (va_up f q e) = g_upr (g_of ax L f) q (g_cell e) := by
  funext b i
  unfold g_of g_upr
  by_cases hb : b = q
  · subst hb
    rw [if_pos (List.mem_append_right _ (List.mem_singleton.mpr rfl)), va_up_self, if_pos rfl]
  · rw [va_up_ne _ _ hb, if_neg hb]
    by_cases hL : b ∈ L
    · rw [if_pos (List.mem_append_left _ hL)]
      exact (if_pos hL).symm
    · rw [if_neg (fun h => by
        rcases List.mem_append.mp h with h | h
        · exact hL h
        · exact hb (List.mem_singleton.mp h))]
      exact (if_neg hL).symm
theorem g_i_b (z : Int) : g_i z = z.bmod (2 ^ 32) := by
  unfold g_i
  split
  · rename_i h
    exact (Int.bmod_eq_of_le (by omega) (by omega)).symm
  · rfl
theorem g_l_b (z : Int) : g_l z = z.bmod (2 ^ 64) := by
  unfold g_l
  split
  · rename_i h
    exact (Int.bmod_eq_of_le (by omega) (by omega)).symm
  · rfl
theorem g_i_of (z : Int) : g_i z = (Int32.ofInt z).toInt := by rw [g_i_b, Int32.toInt_ofInt]
theorem g_i8_of (z : Int) : g_i8 z = ((Int8.ofInt z).toInt32).toInt := by
  unfold g_i8
  split
  · rename_i h
    rw [Int8.toInt_toInt32, Int8.toInt_ofInt_of_le (by omega) (by omega)]
  · rfl
theorem g_i16_of (z : Int) : g_i16 z = ((Int16.ofInt z).toInt32).toInt := by
  unfold g_i16
  split
  · rename_i h
    rw [Int16.toInt_toInt32, Int16.toInt_ofInt_of_le (by omega) (by omega)]
  · rfl
theorem g_i_add (x y : Int32) : g_i (x.toInt + y.toInt) = (x + y).toInt := by rw [g_i_b, Int32.toInt_add]
theorem g_i_sub (x y : Int32) : g_i (x.toInt - y.toInt) = (x - y).toInt := by rw [g_i_b, Int32.toInt_sub]
theorem g_i_mul (x y : Int32) : g_i (x.toInt * y.toInt) = (x * y).toInt := by rw [g_i_b, Int32.toInt_mul]
theorem g_i_div (x y : Int32) : g_i (x.toInt.tdiv y.toInt) = (x / y).toInt := by rw [g_i_b, Int32.toInt_div]
theorem g_i_neg (x : Int32) : g_i (-x.toInt) = (-x).toInt := by rw [g_i_b, Int32.toInt_neg]
theorem g_i_rem (x y : Int32) : x.toInt.tmod y.toInt = (x - x / y * y).toInt := by
  have h3 := Int32.le_toInt x
  have h4 := Int32.toInt_lt x
  rw [Int32.toInt_sub, Int32.toInt_mul, Int32.toInt_div, Int.bmod_mul_bmod, Int.sub_bmod_bmod, Int.mul_comm, ← Int.tmod_def]
  have h5 : (x.toInt.tmod y.toInt).natAbs = x.toInt.natAbs % y.toInt.natAbs := Int.natAbs_tmod ..
  have h6 := Nat.mod_le x.toInt.natAbs y.toInt.natAbs
  have h7 : 0 ≤ x.toInt → 0 ≤ x.toInt.tmod y.toInt := Int.tmod_nonneg _
  have h8 : x.toInt < 0 → x.toInt.tmod y.toInt ≤ 0 := fun h => by
    have h9 := Int.tmod_nonneg (a := -x.toInt) y.toInt (by omega)
    rw [Int.neg_tmod] at h9
    omega
  exact (Int.bmod_eq_of_le (by omega) (by omega)).symm
theorem g_l_rem (x y : Int64) : x.toInt.tmod y.toInt = (x - x / y * y).toInt := by
  have h3 := Int64.le_toInt x
  have h4 := Int64.toInt_lt x
  rw [Int64.toInt_sub, Int64.toInt_mul, Int64.toInt_div, Int.bmod_mul_bmod, Int.sub_bmod_bmod, Int.mul_comm, ← Int.tmod_def]
  have h5 : (x.toInt.tmod y.toInt).natAbs = x.toInt.natAbs % y.toInt.natAbs := Int.natAbs_tmod ..
  have h6 := Nat.mod_le x.toInt.natAbs y.toInt.natAbs
  have h7 : 0 ≤ x.toInt → 0 ≤ x.toInt.tmod y.toInt := Int.tmod_nonneg _
  have h8 : x.toInt < 0 → x.toInt.tmod y.toInt ≤ 0 := fun h => by
    have h9 := Int.tmod_nonneg (a := -x.toInt) y.toInt (by omega)
    rw [Int.neg_tmod] at h9
    omega
  exact (Int.bmod_eq_of_le (by omega) (by omega)).symm
theorem g_lc : ∀ i : Fin 2, (Int64.ofNat (i : Nat)).toInt = ((i : Nat) : Int) := by decide
theorem g_i_inc (x : Int32) (z : Int) : g_i (x.toInt + z) = (x + Int32.ofInt z).toInt := by rw [g_i_b, Int32.toInt_add, Int32.toInt_ofInt, Int.add_bmod_bmod]
theorem g_l_add (x y : Int64) : g_l (x.toInt + y.toInt) = (x + y).toInt := by rw [g_l_b, Int64.toInt_add]
theorem g_l_sub (x y : Int64) : g_l (x.toInt - y.toInt) = (x - y).toInt := by rw [g_l_b, Int64.toInt_sub]
theorem g_l_mul (x y : Int64) : g_l (x.toInt * y.toInt) = (x * y).toInt := by rw [g_l_b, Int64.toInt_mul]
theorem g_l_div (x y : Int64) : g_l (x.toInt.tdiv y.toInt) = (x / y).toInt := by rw [g_l_b, Int64.toInt_div]
theorem g_l_neg (x : Int64) : g_l (-x.toInt) = (-x).toInt := by rw [g_l_b, Int64.toInt_neg]
theorem g_l_i (x : Int64) : g_i x.toInt = x.toInt32.toInt := by rw [g_i_b, Int64.toInt_toInt32]
theorem g_l_cmp (x y : Int64) : (if y.toInt < x.toInt then (1 : Int) else if x.toInt = y.toInt then 0 else -1) = (lg_cmp x y).toInt := by
  unfold lg_cmp
  simp only [gt_iff_lt, Int64.lt_iff_toInt_lt, ← Int64.toInt_inj]
  split
  · rfl
  · split <;> rfl
theorem g_eq0 {x : Int32} : x.toInt = 0 ↔ x = 0 := by rw [← Int32.toInt_inj]; exact Iff.rfl
theorem g_lt0 {x : Int32} : x.toInt < 0 ↔ x < 0 := by rw [Int32.lt_iff_toInt_lt]; exact Iff.rfl
theorem g_ge0 {x : Int32} : 0 ≤ x.toInt ↔ 0 ≤ x := by rw [Int32.le_iff_toInt_le]; exact Iff.rfl
theorem g_gt0 {x : Int32} : 0 < x.toInt ↔ 0 < x := by rw [Int32.lt_iff_toInt_lt]; exact Iff.rfl
theorem g_le0 {x : Int32} : x.toInt ≤ 0 ↔ x ≤ 0 := by rw [Int32.le_iff_toInt_le]; exact Iff.rfl
theorem g_eqi {x y : Int32} : x.toInt = y.toInt ↔ x = y := Int32.toInt_inj
theorem g_lti {x y : Int32} : x.toInt < y.toInt ↔ x < y := Int32.lt_iff_toInt_lt.symm
theorem g_lei {x y : Int32} : x.toInt ≤ y.toInt ↔ x ≤ y := Int32.le_iff_toInt_le.symm
theorem g_up_s (g : Nat → Nat → Int) (a j : Nat) (v : Int) : g_up g a j v a j = v := if_pos ⟨rfl, rfl⟩
theorem g_up_a {g : Nat → Nat → Int} {a j : Nat} {v : Int} {b i : Nat} (h : b ≠ a) : g_up g a j v b i = g b i := if_neg (fun e => h e.2)
theorem g_up_j {g : Nat → Nat → Int} {a j : Nat} {v : Int} {b i : Nat} (h : i ≠ j) : g_up g a j v b i = g b i := if_neg (fun e => h e.1)
abbrev zCx : Type := Program × Launch × Env × Room × State × MethodId × Array Value × List Frame × Method × Code × va_G × (Nat → ClassId) × (Nat → Prop) × ((State → Prop) × (g_C → Prop)) × zAx
/-! The ghost beside the rows. -/
def g_ok (P : g_C → Prop) (ax : zAx) (L : List Nat) (f : Nat → va_E) (pc : Nat) (lv : List (Nat × Value)) (st : List Value) (ρ : Nat → Int) : Prop := (∀ q ∈ lv, ρ q.1 = g_vi q.2) ∧ P (pc, ρ, st.map g_vt, L, g_of ax L f)
def g_cl (P : g_C → Prop) (own : String) (ax : zAx) (cc : ByteArray) : Prop := ∀ c1 c2, P c1 → g_st own ax (g_ex ax) cc c1 c2 → P c2
theorem g_nx {P : g_C → Prop} {A0 : Prop} {own : String} {ax : zAx} {cc : ByteArray} {L L' : List Nat} {f f' : Nat → va_E} {pc pc' : Nat} {lv : List (Nat × Value)} {st st' : List Value} {ρ : Nat → Int} {i : Instr} {len : Nat} (hA : A0 ∧ g_cl P own ax cc) (hG : g_ok P ax L f pc lv st ρ) (hd : decode cc pc = .ok (i, len)) (hs : g_in own ax (g_ex ax) i len (pc, ρ, st.map g_vt, L, g_of ax L f) (pc', ρ, st'.map g_vt, L', g_of ax L' f')) : g_ok P ax L' f' pc' lv st' ρ := ⟨hG.1, hA.2 _ _ hG.2 (Or.inr ⟨i, len, hd, hs⟩)⟩
theorem g_put {lv lv' : List (Nat × Value)} {ρ : Nat → Int} {i : Nat} {v : Value} {t : Nat × Value → Bool} (h : ∀ q ∈ lv, ρ q.1 = g_vi q.2) (hl' : (i, v) :: lv.filter (fun q => !(q.1 == i) && t q) = lv') : ∀ q ∈ lv', va_up ρ i (g_vi v) q.1 = g_vi q.2 := by
  intro q hq
  rw [← hl'] at hq
  rcases List.mem_cons.mp hq with rfl | hq
  · exact va_up_self _ _ _
  · obtain ⟨h1, h2⟩ := List.mem_filter.mp hq
    have h3 : q.1 ≠ i := fun e => by simp [e] at h2
    rw [va_up_ne _ _ h3]
    exact h q h1
theorem g_nxp {P : g_C → Prop} {A0 : Prop} {own : String} {ax : zAx} {cc : ByteArray} {L : List Nat} {f : Nat → va_E} {pc pc' : Nat} {lv lv' : List (Nat × Value)} {st st' : List Value} {ρ : Nat → Int} {i : Instr} {len k : Nat} {v : Value} {t : Nat × Value → Bool} (hA : A0 ∧ g_cl P own ax cc) (hG : g_ok P ax L f pc lv st ρ) (hd : decode cc pc = .ok (i, len)) (hl' : (k, v) :: lv.filter (fun q => !(q.1 == k) && t q) = lv') (hs : g_in own ax (g_ex ax) i len (pc, ρ, st.map g_vt, L, g_of ax L f) (pc', va_up ρ k (g_vi v), st'.map g_vt, L, g_of ax L f)) : g_ok P ax L f pc' lv' st' (va_up ρ k (g_vi v)) := ⟨g_put hG.1 hl', hA.2 _ _ hG.2 (Or.inr ⟨i, len, hd, hs⟩)⟩
theorem g_apart {ax : zAx} {A : Nat → Prop} {U : State} {H : Heap} (hX : zXt ax A U H) : ¬ A ax.2.2 ∧ ¬ A (ax.1 0) ∧ ¬ A (ax.1 1) := by
  obtain ⟨h1, -, -, -, -, ⟨c, -, -, -, -, -, -, h6⟩, -⟩ := hX
  obtain ⟨c0, -, -, -, k0⟩ := (h1.1 0 (by decide)).1
  obtain ⟨c1, -, -, -, k1⟩ := (h1.1 1 (by decide)).1
  exact ⟨h6, k0, k1⟩
theorem g_inA {A : Nat → Prop} {L : List Nat} {f : Nat → va_E} (hD : va_D A (va_pl L f)) {a : Nat} (ha : a ∈ L) : A a := by
  obtain ⟨k, hk⟩ := va_pl_get (X := []) (f := f) ha
  exact hD.2 k _ hk
theorem g_cat_rf (r : Option Nat) : (va_rf r).category = 1 := by
  cases r <;> rfl
def eW (E : zCx) (k n : Nat) (L : List Nat) (f : Nat → va_E) (pc : Nat) (lv : List (Nat × Value)) (st : List Value) : Prop := match E with
  | (p, l, e, R, s, m, args, below, meth, c, D, _, A, Q, ax) => ∀ (H : Heap) (locs : List Loc) (ls : Array Slot) (ρ : Nat → Int), eJ D A s.heap L f H locs → lv_has ls c.maxLocals lv → g_ok Q.2 ax L f pc lv st ρ → W p l e R s m args below meth c H locs k n Q.1 (F0 m pc ls st)
abbrev zC0 : Type := Launch × va_G × (Nat → ClassId) × zAx
def zOk (E : zCx) (X0 : zC0) (own : String) (cc : ByteArray) (nL : Nat) (R0 : Room) : Prop := match E with
  | (p, l, _, R, s, m, args, _, _, c, D, cy, A, Q, ax) => p.tables.exec = Jvm.exec ∧ c.code = cc ∧ c.maxLocals = nL ∧ s.vm.findClass own = some m.cls ∧ (∀ w ∈ gtbl, w.before args s = true) ∧ zK D cy s ∧ ((∀ q, s.heap.size ≤ q → A q) ∧ g_cl Q.2 own ax cc) ∧ zXt ax A s s.heap ∧ R = R0 ∧ (l, D, cy, ax) = X0
/-- within a constructor -/
def zIn (E : zCx) : Prop := match E with
  | (_, _, _, _, _, _, _, _, meth, _, _, _, _, _, _) => meth.name = "<init>"
theorem z_plget {L : List Nat} {f : Nat → va_E} {a : Nat} (h : a ∈ L) : ∃ k : Nat, (va_pl L f)[k]? = some (a, f a) := va_pl_get (X := []) (f := f) h
theorem z_plset {A : Nat → Prop} {L : List Nat} {f : Nat → va_E} {a k : Nat} {e : va_E} (hD : va_D A (va_pl L f)) (h : a ∈ L) (hk : (va_pl L f)[k]? = some (a, f a)) : (va_pl L f).set k (a, e) = va_pl L (va_up f a e) := va_pl_set (X := []) hD h hk
section ZP
variable {E : zCx} {X0 : zC0} {own : String} {cc : ByteArray} {nL : Nat} {R0 : Room} {k n : Nat} {L : List Nat} {f : Nat → va_E} {pc : Nat} {lv : List (Nat × Value)} {st : List Value}
theorem x_iconst (hE : zOk E X0 own cc nL R0) {i : Int} {v : Int32} (hd : decode cc pc = .ok (.iconst i, 1)) (hv : Int32.ofInt i = v) (kk : eW E k n L f (pc + 1) lv (.int v :: st)) : eW E k n L f pc lv st := by
  obtain ⟨p, l, e, R, s, m, args, below, meth, c, D, cy, A, Q, ax⟩ := E
  obtain ⟨hx, hb, hml, hown, hts, hK, hA, hX, rfl, rfl⟩ := hE
  intro H locs ls ρ hJ hl hG
  exact lv_iconst hx hb hd hv (kk H locs ls ρ hJ hl (g_nx hA hG hd (by subst hv; simp [g_in, g_vt, g_vi, g_t, Value.category, g_i_of])))
theorem x_bipush (hE : zOk E X0 own cc nL R0) {i : Int} {v : Int32} (hd : decode cc pc = .ok (.bipush i, 2)) (hv : (Int8.ofInt i).toInt32 = v) (kk : eW E k n L f (pc + 2) lv (.int v :: st)) : eW E k n L f pc lv st := by
  obtain ⟨p, l, e, R, s, m, args, below, meth, c, D, cy, A, Q, ax⟩ := E
  obtain ⟨hx, hb, hml, hown, hts, hK, hA, hX, rfl, rfl⟩ := hE
  intro H locs ls ρ hJ hl hG
  exact lv_bipush hx hb hd hv (kk H locs ls ρ hJ hl (g_nx hA hG hd (by subst hv; simp [g_in, g_vt, g_vi, g_t, Value.category, g_i8_of])))
theorem x_sipush (hE : zOk E X0 own cc nL R0) {i : Int} {v : Int32} (hd : decode cc pc = .ok (.sipush i, 3)) (hv : (Int16.ofInt i).toInt32 = v) (kk : eW E k n L f (pc + 3) lv (.int v :: st)) : eW E k n L f pc lv st := by
  obtain ⟨p, l, e, R, s, m, args, below, meth, c, D, cy, A, Q, ax⟩ := E
  obtain ⟨hx, hb, hml, hown, hts, hK, hA, hX, rfl, rfl⟩ := hE
  intro H locs ls ρ hJ hl hG
  exact lv_sipush hx hb hd hv (kk H locs ls ρ hJ hl (g_nx hA hG hd (by subst hv; simp [g_in, g_vt, g_vi, g_t, Value.category, g_i16_of])))
theorem x_lconst (hE : zOk E X0 own cc nL R0) {i : Fin 2} {v : Int64} (hd : decode cc pc = .ok (.lconst i, 1)) (hv : Int64.ofNat (i : Nat) = v) (kk : eW E k n L f (pc + 1) lv (.long v :: st)) : eW E k n L f pc lv st := by
  obtain ⟨p, l, e, R, s, m, args, below, meth, c, D, cy, A, Q, ax⟩ := E
  obtain ⟨hx, hb, hml, hown, hts, hK, hA, hX, rfl, rfl⟩ := hE
  intro H locs ls ρ hJ hl hG
  exact lv_lconst hx hb hd hv (kk H locs ls ρ hJ hl (g_nx hA hG hd (by subst hv; show (_, _, (2, (Int64.ofNat (i : Nat)).toInt) :: _, _, _) = _; rw [g_lc])))
theorem x_ldc (hE : zOk E X0 own cc nL R0) {i : Nat} {v : Int32} (hq : Cond.constant own i v ∈ gtbl) (hd : decode cc pc = .ok (.ldc i, 2)) (kk : eW E k n L f (pc + 2) lv (.int v :: st)) : eW E k n L f pc lv st := by
  obtain ⟨p, l, e, R, s, m, args, below, meth, c, D, cy, A, Q, ax⟩ := E
  obtain ⟨hx, hb, hml, hown, hts, hK, hA, hX, rfl, rfl⟩ := hE
  intro H locs ls ρ hJ hl hG
  exact lv_ldc hx hb hown (hts _ hq) hd (kk H locs ls ρ hJ hl (g_nx hA hG hd (Or.inl ⟨v, hq, rfl⟩)))
theorem x_ldcw (hE : zOk E X0 own cc nL R0) {i : Nat} {v : Int32} (hq : Cond.constant own i v ∈ gtbl) (hd : decode cc pc = .ok (.ldc_w i, 3)) (kk : eW E k n L f (pc + 3) lv (.int v :: st)) : eW E k n L f pc lv st := by
  obtain ⟨p, l, e, R, s, m, args, below, meth, c, D, cy, A, Q, ax⟩ := E
  obtain ⟨hx, hb, hml, hown, hts, hK, hA, hX, rfl, rfl⟩ := hE
  intro H locs ls ρ hJ hl hG
  exact lv_ldcw hx hb hown (hts _ hq) hd (kk H locs ls ρ hJ hl (g_nx hA hG hd ⟨v, hq, rfl⟩))
theorem x_ldc2 (hE : zOk E X0 own cc nL R0) {i : Nat} {v : Int64} (hq : Cond.constantLong own i v ∈ gtbl) (hd : decode cc pc = .ok (.ldc2_w i, 3)) (kk : eW E k n L f (pc + 3) lv (.long v :: st)) : eW E k n L f pc lv st := by
  obtain ⟨p, l, e, R, s, m, args, below, meth, c, D, cy, A, Q, ax⟩ := E
  obtain ⟨hx, hb, hml, hown, hts, hK, hA, hX, rfl, rfl⟩ := hE
  intro H locs ls ρ hJ hl hG
  exact lv_ldc2 hx hb hown (hts _ hq) hd (kk H locs ls ρ hJ hl (g_nx hA hG hd ⟨v, hq, rfl⟩))
theorem x_null (hE : zOk E X0 own cc nL R0) (hd : decode cc pc = .ok (.aconst_null, 1)) (kk : eW E k n L f (pc + 1) lv (.null :: st)) : eW E k n L f pc lv st := by
  obtain ⟨p, l, e, R, s, m, args, below, meth, c, D, cy, A, Q, ax⟩ := E
  obtain ⟨hx, hb, hml, hown, hts, hK, hA, hX, rfl, rfl⟩ := hE
  intro H locs ls ρ hJ hl hG
  exact lv_null hx hb hd (kk H locs ls ρ hJ hl (g_nx hA hG hd rfl))
theorem x_iload_n (hE : zOk E X0 own cc nL R0) {z : Fin 4} {i : Nat} {x : Int32} (hd : decode cc pc = .ok (.iload_n z, 1)) (hi : (z : Nat) = i) (hj : (i, .int x) ∈ lv) (kk : eW E k n L f (pc + 1) lv (.int x :: st)) : eW E k n L f pc lv st := by
  obtain ⟨p, l, e, R, s, m, args, below, meth, c, D, cy, A, Q, ax⟩ := E
  obtain ⟨hx, hb, hml, hown, hts, hK, hA, hX, rfl, rfl⟩ := hE
  intro H locs ls ρ hJ hl hG
  exact lv_iload_n hx hb hd hi (hl.2.2 _ hj) (kk H locs ls ρ hJ hl (g_nx hA hG hd (by have h9 := hG.1 _ hj; subst hi; dsimp only at h9; simp [g_in, g_vt, g_vi, g_t, Value.category, h9])))
theorem x_iload (hE : zOk E X0 own cc nL R0) {i : Nat} {x : Int32} (hd : decode cc pc = .ok (.iload i, 2)) (hj : (i, .int x) ∈ lv) (kk : eW E k n L f (pc + 2) lv (.int x :: st)) : eW E k n L f pc lv st := by
  obtain ⟨p, l, e, R, s, m, args, below, meth, c, D, cy, A, Q, ax⟩ := E
  obtain ⟨hx, hb, hml, hown, hts, hK, hA, hX, rfl, rfl⟩ := hE
  intro H locs ls ρ hJ hl hG
  exact lv_iload hx hb hd (hl.2.2 _ hj) (kk H locs ls ρ hJ hl (g_nx hA hG hd (by have h9 := hG.1 _ hj; dsimp only at h9; simp [g_in, g_vt, g_vi, g_t, Value.category, h9])))
theorem x_lload_n (hE : zOk E X0 own cc nL R0) {z : Fin 4} {i : Nat} {x : Int64} (hd : decode cc pc = .ok (.lload_n z, 1)) (hi : (z : Nat) = i) (hj : (i, .long x) ∈ lv) (kk : eW E k n L f (pc + 1) lv (.long x :: st)) : eW E k n L f pc lv st := by
  obtain ⟨p, l, e, R, s, m, args, below, meth, c, D, cy, A, Q, ax⟩ := E
  obtain ⟨hx, hb, hml, hown, hts, hK, hA, hX, rfl, rfl⟩ := hE
  intro H locs ls ρ hJ hl hG
  exact lv_lload_n hx hb hd hi (hl.2.2 _ hj) (kk H locs ls ρ hJ hl (g_nx hA hG hd (by have h9 := hG.1 _ hj; subst hi; dsimp only at h9; simp [g_in, g_vt, g_vi, g_t, Value.category, h9])))
theorem x_lload (hE : zOk E X0 own cc nL R0) {i : Nat} {x : Int64} (hd : decode cc pc = .ok (.lload i, 2)) (hj : (i, .long x) ∈ lv) (kk : eW E k n L f (pc + 2) lv (.long x :: st)) : eW E k n L f pc lv st := by
  obtain ⟨p, l, e, R, s, m, args, below, meth, c, D, cy, A, Q, ax⟩ := E
  obtain ⟨hx, hb, hml, hown, hts, hK, hA, hX, rfl, rfl⟩ := hE
  intro H locs ls ρ hJ hl hG
  exact lv_lload hx hb hd (hl.2.2 _ hj) (kk H locs ls ρ hJ hl (g_nx hA hG hd (by have h9 := hG.1 _ hj; dsimp only at h9; simp [g_in, g_vt, g_vi, g_t, Value.category, h9])))
theorem x_aload_n (hE : zOk E X0 own cc nL R0) {z : Fin 4} {i : Nat} {x : Nat} (hd : decode cc pc = .ok (.aload_n z, 1)) (hi : (z : Nat) = i) (hj : (i, .ref x) ∈ lv) (kk : eW E k n L f (pc + 1) lv (.ref x :: st)) : eW E k n L f pc lv st := by
  obtain ⟨p, l, e, R, s, m, args, below, meth, c, D, cy, A, Q, ax⟩ := E
  obtain ⟨hx, hb, hml, hown, hts, hK, hA, hX, rfl, rfl⟩ := hE
  intro H locs ls ρ hJ hl hG
  exact lv_aload_n hx hb hd hi (hl.2.2 _ hj) (kk H locs ls ρ hJ hl (g_nx hA hG hd (by have h9 := hG.1 _ hj; subst hi; dsimp only at h9; simp [g_in, g_vt, g_vi, g_t, Value.category, h9])))
theorem x_aload (hE : zOk E X0 own cc nL R0) {i : Nat} {x : Nat} (hd : decode cc pc = .ok (.aload i, 2)) (hj : (i, .ref x) ∈ lv) (kk : eW E k n L f (pc + 2) lv (.ref x :: st)) : eW E k n L f pc lv st := by
  obtain ⟨p, l, e, R, s, m, args, below, meth, c, D, cy, A, Q, ax⟩ := E
  obtain ⟨hx, hb, hml, hown, hts, hK, hA, hX, rfl, rfl⟩ := hE
  intro H locs ls ρ hJ hl hG
  exact lv_aload hx hb hd (hl.2.2 _ hj) (kk H locs ls ρ hJ hl (g_nx hA hG hd (by have h9 := hG.1 _ hj; dsimp only at h9; simp [g_in, g_vt, g_vi, g_t, Value.category, h9])))
theorem x_aload_nN (hE : zOk E X0 own cc nL R0) {z : Fin 4} {i : Nat} (hd : decode cc pc = .ok (.aload_n z, 1)) (hi : (z : Nat) = i) (hj : (i, .null) ∈ lv) (kk : eW E k n L f (pc + 1) lv (.null :: st)) : eW E k n L f pc lv st := by
  obtain ⟨p, l, e, R, s, m, args, below, meth, c, D, cy, A, Q, ax⟩ := E
  obtain ⟨hx, hb, hml, hown, hts, hK, hA, hX, rfl, rfl⟩ := hE
  intro H locs ls ρ hJ hl hG
  exact lv_aload_nN hx hb hd hi (hl.2.2 _ hj) (kk H locs ls ρ hJ hl (g_nx hA hG hd (by have h9 := hG.1 _ hj; subst hi; dsimp only at h9; simp [g_in, g_vt, g_vi, g_t, Value.category, h9])))
theorem x_istore_n (hE : zOk E X0 own cc nL R0) {z : Fin 4} {i : Nat} {x : Int32} {lv' : List (Nat × Value)} (hd : decode cc pc = .ok (.istore_n z, 1)) (hi : (z : Nat) = i) (hn : i < nL) (hl' : (i, Value.int x) :: lv.filter (fun q => !(q.1 == i) && !(q.1 + 1 == i && q.2.category == 2)) = lv') (kk : eW E k n L f (pc + 1) lv' st) : eW E k n L f pc lv (.int x :: st) := by
  obtain ⟨p, l, e, R, s, m, args, below, meth, c, D, cy, A, Q, ax⟩ := E
  obtain ⟨hx, hb, hml, hown, hts, hK, hA, hX, rfl, rfl⟩ := hE
  intro H locs ls ρ hJ hl hG
  exact lv_istore_n hx hb hd hi hl (by rw [hml]; exact hn) hl' (fun ls hl => (kk H locs ls (va_up ρ i (g_vi (Value.int x))) hJ hl (g_nxp hA hG hd hl' (by subst hi; simp [g_in, g_vt, g_vi, g_t, Value.category]))))
theorem x_istore (hE : zOk E X0 own cc nL R0) {i : Nat} {x : Int32} {lv' : List (Nat × Value)} (hd : decode cc pc = .ok (.istore i, 2)) (hn : i < nL) (hl' : (i, Value.int x) :: lv.filter (fun q => !(q.1 == i) && !(q.1 + 1 == i && q.2.category == 2)) = lv') (kk : eW E k n L f (pc + 2) lv' st) : eW E k n L f pc lv (.int x :: st) := by
  obtain ⟨p, l, e, R, s, m, args, below, meth, c, D, cy, A, Q, ax⟩ := E
  obtain ⟨hx, hb, hml, hown, hts, hK, hA, hX, rfl, rfl⟩ := hE
  intro H locs ls ρ hJ hl hG
  exact lv_istore hx hb hd hl (by rw [hml]; exact hn) hl' (fun ls hl => (kk H locs ls (va_up ρ i (g_vi (Value.int x))) hJ hl (g_nxp hA hG hd hl' (by simp [g_in, g_vt, g_vi, g_t, Value.category]))))
theorem x_astore_n (hE : zOk E X0 own cc nL R0) {z : Fin 4} {i : Nat} {x : Nat} {lv' : List (Nat × Value)} (hd : decode cc pc = .ok (.astore_n z, 1)) (hi : (z : Nat) = i) (hn : i < nL) (hl' : (i, Value.ref x) :: lv.filter (fun q => !(q.1 == i) && !(q.1 + 1 == i && q.2.category == 2)) = lv') (kk : eW E k n L f (pc + 1) lv' st) : eW E k n L f pc lv (.ref x :: st) := by
  obtain ⟨p, l, e, R, s, m, args, below, meth, c, D, cy, A, Q, ax⟩ := E
  obtain ⟨hx, hb, hml, hown, hts, hK, hA, hX, rfl, rfl⟩ := hE
  intro H locs ls ρ hJ hl hG
  exact lv_astore_n hx hb hd hi hl (by rw [hml]; exact hn) hl' (fun ls hl => (kk H locs ls (va_up ρ i (g_vi (Value.ref x))) hJ hl (g_nxp hA hG hd hl' (by subst hi; simp [g_in, g_vt, g_vi, g_t, Value.category]))))
theorem x_astore (hE : zOk E X0 own cc nL R0) {i : Nat} {x : Nat} {lv' : List (Nat × Value)} (hd : decode cc pc = .ok (.astore i, 2)) (hn : i < nL) (hl' : (i, Value.ref x) :: lv.filter (fun q => !(q.1 == i) && !(q.1 + 1 == i && q.2.category == 2)) = lv') (kk : eW E k n L f (pc + 2) lv' st) : eW E k n L f pc lv (.ref x :: st) := by
  obtain ⟨p, l, e, R, s, m, args, below, meth, c, D, cy, A, Q, ax⟩ := E
  obtain ⟨hx, hb, hml, hown, hts, hK, hA, hX, rfl, rfl⟩ := hE
  intro H locs ls ρ hJ hl hG
  exact lv_astore hx hb hd hl (by rw [hml]; exact hn) hl' (fun ls hl => (kk H locs ls (va_up ρ i (g_vi (Value.ref x))) hJ hl (g_nxp hA hG hd hl' (by simp [g_in, g_vt, g_vi, g_t, Value.category]))))
theorem x_lstore (hE : zOk E X0 own cc nL R0) {i : Nat} {x : Int64} {lv' : List (Nat × Value)} (hd : decode cc pc = .ok (.lstore i, 2)) (hn : i + 1 < nL) (hl' : (i, Value.long x) :: lv.filter (fun q => !(q.1 == i) && (!(q.1 == i + 1) && !(q.1 + 1 == i && q.2.category == 2))) = lv') (kk : eW E k n L f (pc + 2) lv' st) : eW E k n L f pc lv (.long x :: st) := by
  obtain ⟨p, l, e, R, s, m, args, below, meth, c, D, cy, A, Q, ax⟩ := E
  obtain ⟨hx, hb, hml, hown, hts, hK, hA, hX, rfl, rfl⟩ := hE
  intro H locs ls ρ hJ hl hG
  exact lv_lstore hx hb hd hl (by rw [hml]; exact hn) hl' (fun ls hl => (kk H locs ls (va_up ρ i (g_vi (Value.long x))) hJ hl (g_nxp hA hG hd hl' (by simp [g_in, g_vt, g_vi, g_t, Value.category]))))
theorem x_iinc (hE : zOk E X0 own cc nL R0) {i : Nat} {z : Int} {x v : Int32} {lv' : List (Nat × Value)} (hd : decode cc pc = .ok (.iinc i z, 3)) (j : Nat) (hj : lv[j]? = some (i, .int x)) (hv : x + Int32.ofInt z = v) (hn : i < nL) (hl' : (i, Value.int v) :: lv.filter (fun q => !(q.1 == i) && !(q.1 + 1 == i && q.2.category == 2)) = lv') (kk : eW E k n L f (pc + 3) lv' st) : eW E k n L f pc lv st := by
  obtain ⟨p, l, e, R, s, m, args, below, meth, c, D, cy, A, Q, ax⟩ := E
  obtain ⟨hx, hb, hml, hown, hts, hK, hA, hX, rfl, rfl⟩ := hE
  intro H locs ls ρ hJ hl hG
  exact lv_iinc hx hb hd hl hj hv (by rw [hml]; exact hn) hl' (fun ls hl => (kk H locs ls (va_up ρ i (g_vi (Value.int v))) hJ hl (g_nxp hA hG hd hl' (by have h9 := hG.1 _ (List.mem_of_getElem? hj); dsimp only [g_vi] at h9; subst hv; simp [g_in, g_vt, g_vi, g_t, Value.category, h9, g_i_inc]))))
theorem x_iadd (hE : zOk E X0 own cc nL R0) {x y : Int32} (hd : decode cc pc = .ok (.iadd, 1)) (kk : eW E k n L f (pc + 1) lv (.int (x + y) :: st)) : eW E k n L f pc lv (.int y :: .int x :: st) := by
  obtain ⟨p, l, e, R, s, m, args, below, meth, c, D, cy, A, Q, ax⟩ := E
  obtain ⟨hx, hb, hml, hown, hts, hK, hA, hX, rfl, rfl⟩ := hE
  intro H locs ls ρ hJ hl hG
  exact lv_iadd hx hb hd (kk H locs ls ρ hJ hl (g_nx hA hG hd (by simp [g_in, g_vt, g_vi, g_t, Value.category, g_i_add])))
theorem x_isub (hE : zOk E X0 own cc nL R0) {x y : Int32} (hd : decode cc pc = .ok (.isub, 1)) (kk : eW E k n L f (pc + 1) lv (.int (x - y) :: st)) : eW E k n L f pc lv (.int y :: .int x :: st) := by
  obtain ⟨p, l, e, R, s, m, args, below, meth, c, D, cy, A, Q, ax⟩ := E
  obtain ⟨hx, hb, hml, hown, hts, hK, hA, hX, rfl, rfl⟩ := hE
  intro H locs ls ρ hJ hl hG
  exact lv_isub hx hb hd (kk H locs ls ρ hJ hl (g_nx hA hG hd (by simp [g_in, g_vt, g_vi, g_t, Value.category, g_i_sub])))
theorem x_imul (hE : zOk E X0 own cc nL R0) {x y : Int32} (hd : decode cc pc = .ok (.imul, 1)) (kk : eW E k n L f (pc + 1) lv (.int (x * y) :: st)) : eW E k n L f pc lv (.int y :: .int x :: st) := by
  obtain ⟨p, l, e, R, s, m, args, below, meth, c, D, cy, A, Q, ax⟩ := E
  obtain ⟨hx, hb, hml, hown, hts, hK, hA, hX, rfl, rfl⟩ := hE
  intro H locs ls ρ hJ hl hG
  exact lv_imul hx hb hd (kk H locs ls ρ hJ hl (g_nx hA hG hd (by simp [g_in, g_vt, g_vi, g_t, Value.category, g_i_mul])))
theorem x_iand (hE : zOk E X0 own cc nL R0) {x y : Int32} (hd : decode cc pc = .ok (.iand, 1)) (kk : eW E k n L f (pc + 1) lv (.int (x &&& y) :: st)) : eW E k n L f pc lv (.int y :: .int x :: st) := by
  obtain ⟨p, l, e, R, s, m, args, below, meth, c, D, cy, A, Q, ax⟩ := E
  obtain ⟨hx, hb, hml, hown, hts, hK, hA, hX, rfl, rfl⟩ := hE
  intro H locs ls ρ hJ hl hG
  exact lv_iand hx hb hd (kk H locs ls ρ hJ hl (g_nx hA hG hd (by simp [g_in, g_vt, g_vi, g_t, Value.category, Int32.ofInt_toInt, Int64.ofInt_toInt])))
theorem x_ior (hE : zOk E X0 own cc nL R0) {x y : Int32} (hd : decode cc pc = .ok (.ior, 1)) (kk : eW E k n L f (pc + 1) lv (.int (x ||| y) :: st)) : eW E k n L f pc lv (.int y :: .int x :: st) := by
  obtain ⟨p, l, e, R, s, m, args, below, meth, c, D, cy, A, Q, ax⟩ := E
  obtain ⟨hx, hb, hml, hown, hts, hK, hA, hX, rfl, rfl⟩ := hE
  intro H locs ls ρ hJ hl hG
  exact lv_ior hx hb hd (kk H locs ls ρ hJ hl (g_nx hA hG hd (by simp [g_in, g_vt, g_vi, g_t, Value.category, Int32.ofInt_toInt, Int64.ofInt_toInt])))
theorem x_ixor (hE : zOk E X0 own cc nL R0) {x y : Int32} (hd : decode cc pc = .ok (.ixor, 1)) (kk : eW E k n L f (pc + 1) lv (.int (x ^^^ y) :: st)) : eW E k n L f pc lv (.int y :: .int x :: st) := by
  obtain ⟨p, l, e, R, s, m, args, below, meth, c, D, cy, A, Q, ax⟩ := E
  obtain ⟨hx, hb, hml, hown, hts, hK, hA, hX, rfl, rfl⟩ := hE
  intro H locs ls ρ hJ hl hG
  exact lv_ixor hx hb hd (kk H locs ls ρ hJ hl (g_nx hA hG hd (by simp [g_in, g_vt, g_vi, g_t, Value.category, Int32.ofInt_toInt, Int64.ofInt_toInt])))
theorem x_ishl (hE : zOk E X0 own cc nL R0) {x y : Int32} (hd : decode cc pc = .ok (.ishl, 1)) (kk : eW E k n L f (pc + 1) lv (.int (x <<< (y &&& 31)) :: st)) : eW E k n L f pc lv (.int y :: .int x :: st) := by
  obtain ⟨p, l, e, R, s, m, args, below, meth, c, D, cy, A, Q, ax⟩ := E
  obtain ⟨hx, hb, hml, hown, hts, hK, hA, hX, rfl, rfl⟩ := hE
  intro H locs ls ρ hJ hl hG
  exact lv_ishl hx hb hd (kk H locs ls ρ hJ hl (g_nx hA hG hd (by simp [g_in, g_vt, g_vi, g_t, Value.category, Int32.ofInt_toInt, Int64.ofInt_toInt])))
theorem x_ishr (hE : zOk E X0 own cc nL R0) {x y : Int32} (hd : decode cc pc = .ok (.ishr, 1)) (kk : eW E k n L f (pc + 1) lv (.int (x >>> (y &&& 31)) :: st)) : eW E k n L f pc lv (.int y :: .int x :: st) := by
  obtain ⟨p, l, e, R, s, m, args, below, meth, c, D, cy, A, Q, ax⟩ := E
  obtain ⟨hx, hb, hml, hown, hts, hK, hA, hX, rfl, rfl⟩ := hE
  intro H locs ls ρ hJ hl hG
  exact lv_ishr hx hb hd (kk H locs ls ρ hJ hl (g_nx hA hG hd (by simp [g_in, g_vt, g_vi, g_t, Value.category, Int32.ofInt_toInt, Int64.ofInt_toInt])))
theorem x_iushr (hE : zOk E X0 own cc nL R0) {x y : Int32} (hd : decode cc pc = .ok (.iushr, 1)) (kk : eW E k n L f (pc + 1) lv (.int ((x.toUInt32 >>> (y.toUInt32 &&& Int32.toUInt32 31)).toInt32) :: st)) : eW E k n L f pc lv (.int y :: .int x :: st) := by
  obtain ⟨p, l, e, R, s, m, args, below, meth, c, D, cy, A, Q, ax⟩ := E
  obtain ⟨hx, hb, hml, hown, hts, hK, hA, hX, rfl, rfl⟩ := hE
  intro H locs ls ρ hJ hl hG
  exact lv_iushr hx hb hd rfl (kk H locs ls ρ hJ hl (g_nx hA hG hd (by simp [g_in, g_vt, g_vi, g_t, Value.category, Int32.ofInt_toInt, Int64.ofInt_toInt])))
theorem x_ineg (hE : zOk E X0 own cc nL R0) {x : Int32} (hd : decode cc pc = .ok (.ineg, 1)) (kk : eW E k n L f (pc + 1) lv (.int (-x) :: st)) : eW E k n L f pc lv (.int x :: st) := by
  obtain ⟨p, l, e, R, s, m, args, below, meth, c, D, cy, A, Q, ax⟩ := E
  obtain ⟨hx, hb, hml, hown, hts, hK, hA, hX, rfl, rfl⟩ := hE
  intro H locs ls ρ hJ hl hG
  exact lv_ineg hx hb hd (kk H locs ls ρ hJ hl (g_nx hA hG hd (by simp [g_in, g_vt, g_vi, g_t, Value.category, g_i_neg])))
theorem x_idiv (hE : zOk E X0 own cc nL R0) {x y : Int32} (hd : decode cc pc = .ok (.idiv, 1)) (hne : ¬ y = 0) (kk : eW E k n L f (pc + 1) lv (.int (x / y) :: st)) : eW E k n L f pc lv (.int y :: .int x :: st) := by
  obtain ⟨p, l, e, R, s, m, args, below, meth, c, D, cy, A, Q, ax⟩ := E
  obtain ⟨hx, hb, hml, hown, hts, hK, hA, hX, rfl, rfl⟩ := hE
  intro H locs ls ρ hJ hl hG
  exact lv_idiv hx hb hd hne (kk H locs ls ρ hJ hl (g_nx hA hG hd (by simp [g_in, g_vt, g_vi, g_t, Value.category, g_i_div])))
theorem x_irem (hE : zOk E X0 own cc nL R0) {x y : Int32} (hd : decode cc pc = .ok (.irem, 1)) (hne : ¬ y = 0) (kk : eW E k n L f (pc + 1) lv (.int (x - x / y * y) :: st)) : eW E k n L f pc lv (.int y :: .int x :: st) := by
  obtain ⟨p, l, e, R, s, m, args, below, meth, c, D, cy, A, Q, ax⟩ := E
  obtain ⟨hx, hb, hml, hown, hts, hK, hA, hX, rfl, rfl⟩ := hE
  intro H locs ls ρ hJ hl hG
  exact lv_irem hx hb hd hne (kk H locs ls ρ hJ hl (g_nx hA hG hd (by simp [g_in, g_vt, g_vi, g_t, Value.category, g_i_rem])))
theorem x_i2l (hE : zOk E X0 own cc nL R0) {x : Int32} {v : Int64} (hd : decode cc pc = .ok (.i2l, 1)) (hv : x.toInt64 = v) (kk : eW E k n L f (pc + 1) lv (.long v :: st)) : eW E k n L f pc lv (.int x :: st) := by
  obtain ⟨p, l, e, R, s, m, args, below, meth, c, D, cy, A, Q, ax⟩ := E
  obtain ⟨hx, hb, hml, hown, hts, hK, hA, hX, rfl, rfl⟩ := hE
  intro H locs ls ρ hJ hl hG
  exact lv_i2l hx hb hd hv (kk H locs ls ρ hJ hl (g_nx hA hG hd (by subst hv; simp [g_in, g_vt, g_vi, g_t, Value.category])))
theorem x_dup (hE : zOk E X0 own cc nL R0) {va : Value} (hd : decode cc pc = .ok (.dup, 1)) (h1 : va.category = 1) (kk : eW E k n L f (pc + 1) lv (va :: va :: st)) : eW E k n L f pc lv (va :: st) := by
  obtain ⟨p, l, e, R, s, m, args, below, meth, c, D, cy, A, Q, ax⟩ := E
  obtain ⟨hx, hb, hml, hown, hts, hK, hA, hX, rfl, rfl⟩ := hE
  intro H locs ls ρ hJ hl hG
  exact lv_dup hx hb hd h1 (kk H locs ls ρ hJ hl (g_nx hA hG hd (by simp [g_in, g_vt, g_vi, g_t, Value.category])))
theorem x_pop (hE : zOk E X0 own cc nL R0) {va : Value} (hd : decode cc pc = .ok (.pop, 1)) (h1 : va.category = 1) (kk : eW E k n L f (pc + 1) lv st) : eW E k n L f pc lv (va :: st) := by
  obtain ⟨p, l, e, R, s, m, args, below, meth, c, D, cy, A, Q, ax⟩ := E
  obtain ⟨hx, hb, hml, hown, hts, hK, hA, hX, rfl, rfl⟩ := hE
  intro H locs ls ρ hJ hl hG
  exact lv_pop hx hb hd h1 (kk H locs ls ρ hJ hl (g_nx hA hG hd (by simp [g_in, g_vt, g_vi, g_t, Value.category])))
theorem x_dup_x1 (hE : zOk E X0 own cc nL R0) {va vb : Value} (hd : decode cc pc = .ok (.dup_x1, 1)) (h1 : va.category = 1) (h2 : vb.category = 1) (kk : eW E k n L f (pc + 1) lv (va :: vb :: va :: st)) : eW E k n L f pc lv (va :: vb :: st) := by
  obtain ⟨p, l, e, R, s, m, args, below, meth, c, D, cy, A, Q, ax⟩ := E
  obtain ⟨hx, hb, hml, hown, hts, hK, hA, hX, rfl, rfl⟩ := hE
  intro H locs ls ρ hJ hl hG
  exact lv_dup_x1 hx hb hd h1 h2 (kk H locs ls ρ hJ hl (g_nx hA hG hd (by simp [g_in, g_vt, g_vi, g_t, Value.category])))
theorem x_dup_x2 (hE : zOk E X0 own cc nL R0) {va vb vd : Value} (hd : decode cc pc = .ok (.dup_x2, 1)) (h1 : va.category = 1) (h2 : vb.category = 1) (h3 : vd.category = 1) (kk : eW E k n L f (pc + 1) lv (va :: vb :: vd :: va :: st)) : eW E k n L f pc lv (va :: vb :: vd :: st) := by
  obtain ⟨p, l, e, R, s, m, args, below, meth, c, D, cy, A, Q, ax⟩ := E
  obtain ⟨hx, hb, hml, hown, hts, hK, hA, hX, rfl, rfl⟩ := hE
  intro H locs ls ρ hJ hl hG
  exact lv_dup_x2 hx hb hd h1 h2 h3 (kk H locs ls ρ hJ hl (g_nx hA hG hd (by simp [g_in, g_vt, g_vi, g_t, Value.category])))
theorem x_dup2 (hE : zOk E X0 own cc nL R0) {va vb : Value} (hd : decode cc pc = .ok (.dup2, 1)) (h1 : va.category = 1) (h2 : vb.category = 1) (kk : eW E k n L f (pc + 1) lv (va :: vb :: va :: vb :: st)) : eW E k n L f pc lv (va :: vb :: st) := by
  obtain ⟨p, l, e, R, s, m, args, below, meth, c, D, cy, A, Q, ax⟩ := E
  obtain ⟨hx, hb, hml, hown, hts, hK, hA, hX, rfl, rfl⟩ := hE
  intro H locs ls ρ hJ hl hG
  exact lv_dup2_11 hx hb hd h1 h2 (kk H locs ls ρ hJ hl (g_nx hA hG hd (by simp [g_in, g_vt, g_vi, g_t, Value.category])))
theorem x_if_eq (hE : zOk E X0 own cc nL R0) {x : Int32} {off : Int} {tgt : Nat} (hd : decode cc pc = .ok (.ifCond .eq off, 3)) (ht : (pc : Int) + off = (tgt : Int)) (kt : x = 0 → eW E k n L f tgt lv st) (kf : ¬ (x = 0) → eW E k n L f (pc + 3) lv st) : eW E k n L f pc lv (.int x :: st) := by
  obtain ⟨p, l, e, R, s, m, args, below, meth, c, D, cy, A, Q, ax⟩ := E
  obtain ⟨hx, hb, hml, hown, hts, hK, hA, hX, rfl, rfl⟩ := hE
  intro H locs ls ρ hJ hl hG
  exact lv_if_eq hx hb hd ht (fun hc => kt hc H locs ls ρ hJ hl (g_nx hA hG hd (by simp only [g_in, g_t, g_vt, g_vi, List.map_cons, List.getD_cons_zero, List.getD_cons_succ]; rw [if_pos (g_eq0.mpr hc), ht]; rfl))) (fun hc => kf hc H locs ls ρ hJ hl (g_nx hA hG hd (by simp only [g_in, g_t, g_vt, g_vi, List.map_cons, List.getD_cons_zero, List.getD_cons_succ]; rw [if_neg (fun h => hc (g_eq0.mp h))]; rfl)))
theorem x_if_ne (hE : zOk E X0 own cc nL R0) {x : Int32} {off : Int} {tgt : Nat} (hd : decode cc pc = .ok (.ifCond .ne off, 3)) (ht : (pc : Int) + off = (tgt : Int)) (kt : x ≠ 0 → eW E k n L f tgt lv st) (kf : x = 0 → eW E k n L f (pc + 3) lv st) : eW E k n L f pc lv (.int x :: st) := by
  obtain ⟨p, l, e, R, s, m, args, below, meth, c, D, cy, A, Q, ax⟩ := E
  obtain ⟨hx, hb, hml, hown, hts, hK, hA, hX, rfl, rfl⟩ := hE
  intro H locs ls ρ hJ hl hG
  exact lv_if_ne hx hb hd ht (fun hc => kt hc H locs ls ρ hJ hl (g_nx hA hG hd (by simp only [g_in, g_t, g_vt, g_vi, List.map_cons, List.getD_cons_zero, List.getD_cons_succ]; rw [if_neg (fun h => hc (g_eq0.mp h)), ht]; rfl))) (fun hc => kf hc H locs ls ρ hJ hl (g_nx hA hG hd (by simp only [g_in, g_t, g_vt, g_vi, List.map_cons, List.getD_cons_zero, List.getD_cons_succ]; rw [if_pos (g_eq0.mpr hc)]; rfl)))
theorem x_if_lt (hE : zOk E X0 own cc nL R0) {x : Int32} {off : Int} {tgt : Nat} (hd : decode cc pc = .ok (.ifCond .lt off, 3)) (ht : (pc : Int) + off = (tgt : Int)) (kt : x < 0 → eW E k n L f tgt lv st) (kf : ¬ (x < 0) → eW E k n L f (pc + 3) lv st) : eW E k n L f pc lv (.int x :: st) := by
  obtain ⟨p, l, e, R, s, m, args, below, meth, c, D, cy, A, Q, ax⟩ := E
  obtain ⟨hx, hb, hml, hown, hts, hK, hA, hX, rfl, rfl⟩ := hE
  intro H locs ls ρ hJ hl hG
  exact lv_if_lt hx hb hd ht (fun hc => kt hc H locs ls ρ hJ hl (g_nx hA hG hd (by simp only [g_in, g_t, g_vt, g_vi, List.map_cons, List.getD_cons_zero, List.getD_cons_succ]; rw [if_pos (g_lt0.mpr hc), ht]; rfl))) (fun hc => kf hc H locs ls ρ hJ hl (g_nx hA hG hd (by simp only [g_in, g_t, g_vt, g_vi, List.map_cons, List.getD_cons_zero, List.getD_cons_succ]; rw [if_neg (fun h => hc (g_lt0.mp h))]; rfl)))
theorem x_if_ge (hE : zOk E X0 own cc nL R0) {x : Int32} {off : Int} {tgt : Nat} (hd : decode cc pc = .ok (.ifCond .ge off, 3)) (ht : (pc : Int) + off = (tgt : Int)) (kt : 0 ≤ x → eW E k n L f tgt lv st) (kf : ¬ (0 ≤ x) → eW E k n L f (pc + 3) lv st) : eW E k n L f pc lv (.int x :: st) := by
  obtain ⟨p, l, e, R, s, m, args, below, meth, c, D, cy, A, Q, ax⟩ := E
  obtain ⟨hx, hb, hml, hown, hts, hK, hA, hX, rfl, rfl⟩ := hE
  intro H locs ls ρ hJ hl hG
  exact lv_if_ge hx hb hd ht (fun hc => kt hc H locs ls ρ hJ hl (g_nx hA hG hd (by simp only [g_in, g_t, g_vt, g_vi, List.map_cons, List.getD_cons_zero, List.getD_cons_succ]; rw [if_pos (g_ge0.mpr hc), ht]; rfl))) (fun hc => kf hc H locs ls ρ hJ hl (g_nx hA hG hd (by simp only [g_in, g_t, g_vt, g_vi, List.map_cons, List.getD_cons_zero, List.getD_cons_succ]; rw [if_neg (fun h => hc (g_ge0.mp h))]; rfl)))
theorem x_if_gt (hE : zOk E X0 own cc nL R0) {x : Int32} {off : Int} {tgt : Nat} (hd : decode cc pc = .ok (.ifCond .gt off, 3)) (ht : (pc : Int) + off = (tgt : Int)) (kt : 0 < x → eW E k n L f tgt lv st) (kf : ¬ (0 < x) → eW E k n L f (pc + 3) lv st) : eW E k n L f pc lv (.int x :: st) := by
  obtain ⟨p, l, e, R, s, m, args, below, meth, c, D, cy, A, Q, ax⟩ := E
  obtain ⟨hx, hb, hml, hown, hts, hK, hA, hX, rfl, rfl⟩ := hE
  intro H locs ls ρ hJ hl hG
  exact lv_if_gt hx hb hd ht (fun hc => kt hc H locs ls ρ hJ hl (g_nx hA hG hd (by simp only [g_in, g_t, g_vt, g_vi, List.map_cons, List.getD_cons_zero, List.getD_cons_succ]; rw [if_pos (g_gt0.mpr hc), ht]; rfl))) (fun hc => kf hc H locs ls ρ hJ hl (g_nx hA hG hd (by simp only [g_in, g_t, g_vt, g_vi, List.map_cons, List.getD_cons_zero, List.getD_cons_succ]; rw [if_neg (fun h => hc (g_gt0.mp h))]; rfl)))
theorem x_if_le (hE : zOk E X0 own cc nL R0) {x : Int32} {off : Int} {tgt : Nat} (hd : decode cc pc = .ok (.ifCond .le off, 3)) (ht : (pc : Int) + off = (tgt : Int)) (kt : x ≤ 0 → eW E k n L f tgt lv st) (kf : ¬ (x ≤ 0) → eW E k n L f (pc + 3) lv st) : eW E k n L f pc lv (.int x :: st) := by
  obtain ⟨p, l, e, R, s, m, args, below, meth, c, D, cy, A, Q, ax⟩ := E
  obtain ⟨hx, hb, hml, hown, hts, hK, hA, hX, rfl, rfl⟩ := hE
  intro H locs ls ρ hJ hl hG
  exact lv_if_le hx hb hd ht (fun hc => kt hc H locs ls ρ hJ hl (g_nx hA hG hd (by simp only [g_in, g_t, g_vt, g_vi, List.map_cons, List.getD_cons_zero, List.getD_cons_succ]; rw [if_pos (g_le0.mpr hc), ht]; rfl))) (fun hc => kf hc H locs ls ρ hJ hl (g_nx hA hG hd (by simp only [g_in, g_t, g_vt, g_vi, List.map_cons, List.getD_cons_zero, List.getD_cons_succ]; rw [if_neg (fun h => hc (g_le0.mp h))]; rfl)))
theorem x_icmp_eq (hE : zOk E X0 own cc nL R0) {x y : Int32} {off : Int} {tgt : Nat} (hd : decode cc pc = .ok (.if_icmp .eq off, 3)) (ht : (pc : Int) + off = (tgt : Int)) (kt : x = y → eW E k n L f tgt lv st) (kf : ¬ (x = y) → eW E k n L f (pc + 3) lv st) : eW E k n L f pc lv (.int y :: .int x :: st) := by
  obtain ⟨p, l, e, R, s, m, args, below, meth, c, D, cy, A, Q, ax⟩ := E
  obtain ⟨hx, hb, hml, hown, hts, hK, hA, hX, rfl, rfl⟩ := hE
  intro H locs ls ρ hJ hl hG
  exact lv_icmp_eq hx hb hd ht (fun hc => kt hc H locs ls ρ hJ hl (g_nx hA hG hd (by simp only [g_in, g_t, g_vt, g_vi, List.map_cons, List.getD_cons_zero, List.getD_cons_succ]; rw [if_pos (g_eqi.mpr hc), ht]; rfl))) (fun hc => kf hc H locs ls ρ hJ hl (g_nx hA hG hd (by simp only [g_in, g_t, g_vt, g_vi, List.map_cons, List.getD_cons_zero, List.getD_cons_succ]; rw [if_neg (fun h => hc (g_eqi.mp h))]; rfl)))
theorem x_icmp_ne (hE : zOk E X0 own cc nL R0) {x y : Int32} {off : Int} {tgt : Nat} (hd : decode cc pc = .ok (.if_icmp .ne off, 3)) (ht : (pc : Int) + off = (tgt : Int)) (kt : x ≠ y → eW E k n L f tgt lv st) (kf : x = y → eW E k n L f (pc + 3) lv st) : eW E k n L f pc lv (.int y :: .int x :: st) := by
  obtain ⟨p, l, e, R, s, m, args, below, meth, c, D, cy, A, Q, ax⟩ := E
  obtain ⟨hx, hb, hml, hown, hts, hK, hA, hX, rfl, rfl⟩ := hE
  intro H locs ls ρ hJ hl hG
  exact lv_icmp_ne hx hb hd ht (fun hc => kt hc H locs ls ρ hJ hl (g_nx hA hG hd (by simp only [g_in, g_t, g_vt, g_vi, List.map_cons, List.getD_cons_zero, List.getD_cons_succ]; rw [if_neg (fun h => hc (g_eqi.mp h)), ht]; rfl))) (fun hc => kf hc H locs ls ρ hJ hl (g_nx hA hG hd (by simp only [g_in, g_t, g_vt, g_vi, List.map_cons, List.getD_cons_zero, List.getD_cons_succ]; rw [if_pos (g_eqi.mpr hc)]; rfl)))
theorem x_icmp_lt (hE : zOk E X0 own cc nL R0) {x y : Int32} {off : Int} {tgt : Nat} (hd : decode cc pc = .ok (.if_icmp .lt off, 3)) (ht : (pc : Int) + off = (tgt : Int)) (kt : x < y → eW E k n L f tgt lv st) (kf : ¬ (x < y) → eW E k n L f (pc + 3) lv st) : eW E k n L f pc lv (.int y :: .int x :: st) := by
  obtain ⟨p, l, e, R, s, m, args, below, meth, c, D, cy, A, Q, ax⟩ := E
  obtain ⟨hx, hb, hml, hown, hts, hK, hA, hX, rfl, rfl⟩ := hE
  intro H locs ls ρ hJ hl hG
  exact lv_icmp_lt hx hb hd ht (fun hc => kt hc H locs ls ρ hJ hl (g_nx hA hG hd (by simp only [g_in, g_t, g_vt, g_vi, List.map_cons, List.getD_cons_zero, List.getD_cons_succ]; rw [if_pos (g_lti.mpr hc), ht]; rfl))) (fun hc => kf hc H locs ls ρ hJ hl (g_nx hA hG hd (by simp only [g_in, g_t, g_vt, g_vi, List.map_cons, List.getD_cons_zero, List.getD_cons_succ]; rw [if_neg (fun h => hc (g_lti.mp h))]; rfl)))
theorem x_icmp_ge (hE : zOk E X0 own cc nL R0) {x y : Int32} {off : Int} {tgt : Nat} (hd : decode cc pc = .ok (.if_icmp .ge off, 3)) (ht : (pc : Int) + off = (tgt : Int)) (kt : y ≤ x → eW E k n L f tgt lv st) (kf : ¬ (y ≤ x) → eW E k n L f (pc + 3) lv st) : eW E k n L f pc lv (.int y :: .int x :: st) := by
  obtain ⟨p, l, e, R, s, m, args, below, meth, c, D, cy, A, Q, ax⟩ := E
  obtain ⟨hx, hb, hml, hown, hts, hK, hA, hX, rfl, rfl⟩ := hE
  intro H locs ls ρ hJ hl hG
  exact lv_icmp_ge hx hb hd ht (fun hc => kt hc H locs ls ρ hJ hl (g_nx hA hG hd (by simp only [g_in, g_t, g_vt, g_vi, List.map_cons, List.getD_cons_zero, List.getD_cons_succ]; rw [if_pos (g_lei.mpr hc), ht]; rfl))) (fun hc => kf hc H locs ls ρ hJ hl (g_nx hA hG hd (by simp only [g_in, g_t, g_vt, g_vi, List.map_cons, List.getD_cons_zero, List.getD_cons_succ]; rw [if_neg (fun h => hc (g_lei.mp h))]; rfl)))
theorem x_icmp_gt (hE : zOk E X0 own cc nL R0) {x y : Int32} {off : Int} {tgt : Nat} (hd : decode cc pc = .ok (.if_icmp .gt off, 3)) (ht : (pc : Int) + off = (tgt : Int)) (kt : y < x → eW E k n L f tgt lv st) (kf : ¬ (y < x) → eW E k n L f (pc + 3) lv st) : eW E k n L f pc lv (.int y :: .int x :: st) := by
  obtain ⟨p, l, e, R, s, m, args, below, meth, c, D, cy, A, Q, ax⟩ := E
  obtain ⟨hx, hb, hml, hown, hts, hK, hA, hX, rfl, rfl⟩ := hE
  intro H locs ls ρ hJ hl hG
  exact lv_icmp_gt hx hb hd ht (fun hc => kt hc H locs ls ρ hJ hl (g_nx hA hG hd (by simp only [g_in, g_t, g_vt, g_vi, List.map_cons, List.getD_cons_zero, List.getD_cons_succ]; rw [if_pos (g_lti.mpr hc), ht]; rfl))) (fun hc => kf hc H locs ls ρ hJ hl (g_nx hA hG hd (by simp only [g_in, g_t, g_vt, g_vi, List.map_cons, List.getD_cons_zero, List.getD_cons_succ]; rw [if_neg (fun h => hc (g_lti.mp h))]; rfl)))
theorem x_icmp_le (hE : zOk E X0 own cc nL R0) {x y : Int32} {off : Int} {tgt : Nat} (hd : decode cc pc = .ok (.if_icmp .le off, 3)) (ht : (pc : Int) + off = (tgt : Int)) (kt : x ≤ y → eW E k n L f tgt lv st) (kf : ¬ (x ≤ y) → eW E k n L f (pc + 3) lv st) : eW E k n L f pc lv (.int y :: .int x :: st) := by
  obtain ⟨p, l, e, R, s, m, args, below, meth, c, D, cy, A, Q, ax⟩ := E
  obtain ⟨hx, hb, hml, hown, hts, hK, hA, hX, rfl, rfl⟩ := hE
  intro H locs ls ρ hJ hl hG
  exact lv_icmp_le hx hb hd ht (fun hc => kt hc H locs ls ρ hJ hl (g_nx hA hG hd (by simp only [g_in, g_t, g_vt, g_vi, List.map_cons, List.getD_cons_zero, List.getD_cons_succ]; rw [if_pos (g_lei.mpr hc), ht]; rfl))) (fun hc => kf hc H locs ls ρ hJ hl (g_nx hA hG hd (by simp only [g_in, g_t, g_vt, g_vi, List.map_cons, List.getD_cons_zero, List.getD_cons_succ]; rw [if_neg (fun h => hc (g_lei.mp h))]; rfl)))
theorem x_goto (hE : zOk E X0 own cc nL R0) {off : Int} {tgt : Nat} (hd : decode cc pc = .ok (.goto off, 3)) (ht : (pc : Int) + off = (tgt : Int)) (kk : eW E k n L f tgt lv st) : eW E k n L f pc lv st := by
  obtain ⟨p, l, e, R, s, m, args, below, meth, c, D, cy, A, Q, ax⟩ := E
  obtain ⟨hx, hb, hml, hown, hts, hK, hA, hX, rfl, rfl⟩ := hE
  intro H locs ls ρ hJ hl hG
  exact lv_goto hx hb hd ht (kk H locs ls ρ hJ hl (g_nx hA hG hd (by simp only [g_in]; rw [ht]; rfl)))
theorem x_ifnull (hE : zOk E X0 own cc nL R0) {a : Nat} {off : Int} (hd : decode cc pc = .ok (.ifnull off, 3)) (kk : eW E k n L f (pc + 3) lv st) : eW E k n L f pc lv (.ref a :: st) := by
  obtain ⟨p, l, e, R, s, m, args, below, meth, c, D, cy, A, Q, ax⟩ := E
  obtain ⟨hx, hb, hml, hown, hts, hK, hA, hX, rfl, rfl⟩ := hE
  intro H locs ls ρ hJ hl hG
  exact lv_ifnull hx hb hd (kk H locs ls ρ hJ hl (g_nx hA hG hd (by simp only [g_in, g_t, g_vt, g_vi, List.map_cons, List.getD_cons_zero, List.getD_cons_succ]; rw [if_neg (by omega)]; rfl)))
theorem x_ifnonnull (hE : zOk E X0 own cc nL R0) {a : Nat} {off : Int} {tgt : Nat} (hd : decode cc pc = .ok (.ifnonnull off, 3)) (ht : (pc : Int) + off = (tgt : Int)) (kk : eW E k n L f tgt lv st) : eW E k n L f pc lv (.ref a :: st) := by
  obtain ⟨p, l, e, R, s, m, args, below, meth, c, D, cy, A, Q, ax⟩ := E
  obtain ⟨hx, hb, hml, hown, hts, hK, hA, hX, rfl, rfl⟩ := hE
  intro H locs ls ρ hJ hl hG
  exact lv_ifnonnull hx hb hd ht (kk H locs ls ρ hJ hl (g_nx hA hG hd (by simp only [g_in, g_t, g_vt, g_vi, List.map_cons, List.getD_cons_zero, List.getD_cons_succ]; rw [if_neg (by omega), ht]; rfl)))
theorem x_tableOut (hE : zOk E X0 own cc nL R0) {dflt lo hi : Int} {offs : Array Int} {len : Nat} {x : Int32} {tgt : Nat} (hd : decode cc pc = .ok (.tableswitch dflt lo hi offs, len)) (h : x.toInt < lo ∨ hi < x.toInt) (ht : (pc : Int) + dflt = (tgt : Int)) (kk : eW E k n L f tgt lv st) : eW E k n L f pc lv (.int x :: st) := by
  obtain ⟨p, l, e, R, s, m, args, below, meth, c, D, cy, A, Q, ax⟩ := E
  obtain ⟨hx, hb, hml, hown, hts, hK, hA, hX, rfl, rfl⟩ := hE
  intro H locs ls ρ hJ hl hG
  exact lv_tableOut hx hb hd h ht (kk H locs ls ρ hJ hl (g_nx hA hG hd (by simp only [g_in, g_t, g_vt, g_vi, List.map_cons, List.getD_cons_zero, List.getD_cons_succ]; rw [if_pos h, ht]; rfl)))
theorem x_tableIn (hE : zOk E X0 own cc nL R0) {dflt lo hi : Int} {offs : Array Int} {len : Nat} {x : Int32} {off : Int} {tgt : Nat} (hd : decode cc pc = .ok (.tableswitch dflt lo hi offs, len)) (h1 : ¬ x.toInt < lo) (h2 : ¬ hi < x.toInt) (ho : offs[(x.toInt - lo).toNat]? = some off) (ht : (pc : Int) + off = (tgt : Int)) (kk : eW E k n L f tgt lv st) : eW E k n L f pc lv (.int x :: st) := by
  obtain ⟨p, l, e, R, s, m, args, below, meth, c, D, cy, A, Q, ax⟩ := E
  obtain ⟨hx, hb, hml, hown, hts, hK, hA, hX, rfl, rfl⟩ := hE
  intro H locs ls ρ hJ hl hG
  exact lv_tableIn hx hb hd h1 h2 ho ht (kk H locs ls ρ hJ hl (g_nx hA hG hd (by simp only [g_in, g_t, g_vt, g_vi, List.map_cons, List.getD_cons_zero, List.getD_cons_succ]; rw [if_neg (fun h => h.elim h1 h2), Array.getD_eq_getD_getElem?, ho]; simp only [Option.getD_some]; rw [ht]; rfl)))
/-- fewer locals -/
theorem x_sub {lv' : List (Nat × Value)} (hs : ∀ q ∈ lv', q ∈ lv) (kk : eW E k n L f pc lv' st) : eW E k n L f pc lv st := by
  obtain ⟨p, l, e, R, s, m, args, below, meth, c, D, cy, A, Q, ax⟩ := E
  intro H locs ls ρ hJ hl hG
  exact kk H locs ls ρ hJ ⟨hl.1, hl.2.1, fun q hq => hl.2.2 q (hs q hq)⟩ ⟨fun q hq => hG.1 q (hs q hq), hG.2⟩
theorem x_widen {k' n' : Nat} (h1 : k ≤ k') (h2 : n ≤ n') (kk : eW E k' n' L f pc lv st) : eW E k n L f pc lv st := by
  obtain ⟨p, l, e, R, s, m, args, below, meth, c, D, cy, A, Q, ax⟩ := E
  intro H locs ls ρ hJ hl hG
  exact W.widen h1 h2 (kk H locs ls ρ hJ hl hG)
theorem x_ladd (hE : zOk E X0 own cc nL R0) {x y : Int64} (hd : decode cc pc = .ok (.ladd, 1)) (kk : eW E k n L f (pc + 1) lv (.long (x + y) :: st)) : eW E k n L f pc lv (.long y :: .long x :: st) := by
  obtain ⟨p, l, e, R, s, m, args, below, meth, c, D, cy, A, Q, ax⟩ := E
  obtain ⟨hx, hb, hml, hown, hts, hK, hA, hX, rfl, rfl⟩ := hE
  intro H locs ls ρ hJ hl hG
  exact lv_ladd hx hb hd (kk H locs ls ρ hJ hl (g_nx hA hG hd (by simp [g_in, g_vt, g_vi, g_t, Value.category, g_l_add])))
theorem x_lsub (hE : zOk E X0 own cc nL R0) {x y : Int64} (hd : decode cc pc = .ok (.lsub, 1)) (kk : eW E k n L f (pc + 1) lv (.long (x - y) :: st)) : eW E k n L f pc lv (.long y :: .long x :: st) := by
  obtain ⟨p, l, e, R, s, m, args, below, meth, c, D, cy, A, Q, ax⟩ := E
  obtain ⟨hx, hb, hml, hown, hts, hK, hA, hX, rfl, rfl⟩ := hE
  intro H locs ls ρ hJ hl hG
  exact lv_lsub hx hb hd (kk H locs ls ρ hJ hl (g_nx hA hG hd (by simp [g_in, g_vt, g_vi, g_t, Value.category, g_l_sub])))
theorem x_lmul (hE : zOk E X0 own cc nL R0) {x y : Int64} (hd : decode cc pc = .ok (.lmul, 1)) (kk : eW E k n L f (pc + 1) lv (.long (x * y) :: st)) : eW E k n L f pc lv (.long y :: .long x :: st) := by
  obtain ⟨p, l, e, R, s, m, args, below, meth, c, D, cy, A, Q, ax⟩ := E
  obtain ⟨hx, hb, hml, hown, hts, hK, hA, hX, rfl, rfl⟩ := hE
  intro H locs ls ρ hJ hl hG
  exact lv_lmul hx hb hd (kk H locs ls ρ hJ hl (g_nx hA hG hd (by simp [g_in, g_vt, g_vi, g_t, Value.category, g_l_mul])))
theorem x_land (hE : zOk E X0 own cc nL R0) {x y : Int64} (hd : decode cc pc = .ok (.land, 1)) (kk : eW E k n L f (pc + 1) lv (.long (x &&& y) :: st)) : eW E k n L f pc lv (.long y :: .long x :: st) := by
  obtain ⟨p, l, e, R, s, m, args, below, meth, c, D, cy, A, Q, ax⟩ := E
  obtain ⟨hx, hb, hml, hown, hts, hK, hA, hX, rfl, rfl⟩ := hE
  intro H locs ls ρ hJ hl hG
  exact lv_land hx hb hd (kk H locs ls ρ hJ hl (g_nx hA hG hd (by simp [g_in, g_vt, g_vi, g_t, Value.category, Int32.ofInt_toInt, Int64.ofInt_toInt])))
theorem x_lor (hE : zOk E X0 own cc nL R0) {x y : Int64} (hd : decode cc pc = .ok (.lor, 1)) (kk : eW E k n L f (pc + 1) lv (.long (x ||| y) :: st)) : eW E k n L f pc lv (.long y :: .long x :: st) := by
  obtain ⟨p, l, e, R, s, m, args, below, meth, c, D, cy, A, Q, ax⟩ := E
  obtain ⟨hx, hb, hml, hown, hts, hK, hA, hX, rfl, rfl⟩ := hE
  intro H locs ls ρ hJ hl hG
  exact lv_lor hx hb hd (kk H locs ls ρ hJ hl (g_nx hA hG hd (by simp [g_in, g_vt, g_vi, g_t, Value.category, Int32.ofInt_toInt, Int64.ofInt_toInt])))
theorem x_ldiv (hE : zOk E X0 own cc nL R0) {x y : Int64} (hd : decode cc pc = .ok (.ldiv, 1)) (hne : ¬ y = 0) (kk : eW E k n L f (pc + 1) lv (.long (x / y) :: st)) : eW E k n L f pc lv (.long y :: .long x :: st) := by
  obtain ⟨p, l, e, R, s, m, args, below, meth, c, D, cy, A, Q, ax⟩ := E
  obtain ⟨hx, hb, hml, hown, hts, hK, hA, hX, rfl, rfl⟩ := hE
  intro H locs ls ρ hJ hl hG
  exact lv_ldiv hx hb hd hne (kk H locs ls ρ hJ hl (g_nx hA hG hd (by simp [g_in, g_vt, g_vi, g_t, Value.category, g_l_div])))
theorem x_lrem (hE : zOk E X0 own cc nL R0) {x y : Int64} (hd : decode cc pc = .ok (.lrem, 1)) (hne : ¬ y = 0) (kk : eW E k n L f (pc + 1) lv (.long (x - x / y * y) :: st)) : eW E k n L f pc lv (.long y :: .long x :: st) := by
  obtain ⟨p, l, e, R, s, m, args, below, meth, c, D, cy, A, Q, ax⟩ := E
  obtain ⟨hx, hb, hml, hown, hts, hK, hA, hX, rfl, rfl⟩ := hE
  intro H locs ls ρ hJ hl hG
  exact lv_lrem hx hb hd hne (kk H locs ls ρ hJ hl (g_nx hA hG hd (by simp [g_in, g_vt, g_vi, g_t, Value.category, g_l_rem])))
theorem x_lneg (hE : zOk E X0 own cc nL R0) {x : Int64} (hd : decode cc pc = .ok (.lneg, 1)) (kk : eW E k n L f (pc + 1) lv (.long (-x) :: st)) : eW E k n L f pc lv (.long x :: st) := by
  obtain ⟨p, l, e, R, s, m, args, below, meth, c, D, cy, A, Q, ax⟩ := E
  obtain ⟨hx, hb, hml, hown, hts, hK, hA, hX, rfl, rfl⟩ := hE
  intro H locs ls ρ hJ hl hG
  exact lv_lneg hx hb hd (kk H locs ls ρ hJ hl (g_nx hA hG hd (by simp [g_in, g_vt, g_vi, g_t, Value.category, g_l_neg])))
theorem x_lshl (hE : zOk E X0 own cc nL R0) {x : Int64} {y : Int32} (hd : decode cc pc = .ok (.lshl, 1)) (kk : eW E k n L f (pc + 1) lv (.long (x <<< (y.toInt64 &&& 63)) :: st)) : eW E k n L f pc lv (.int y :: .long x :: st) := by
  obtain ⟨p, l, e, R, s, m, args, below, meth, c, D, cy, A, Q, ax⟩ := E
  obtain ⟨hx, hb, hml, hown, hts, hK, hA, hX, rfl, rfl⟩ := hE
  intro H locs ls ρ hJ hl hG
  exact lv_lshl hx hb hd rfl (kk H locs ls ρ hJ hl (g_nx hA hG hd (by simp [g_in, g_vt, g_vi, g_t, Value.category, Int32.ofInt_toInt, Int64.ofInt_toInt])))
theorem x_lshr (hE : zOk E X0 own cc nL R0) {x : Int64} {y : Int32} (hd : decode cc pc = .ok (.lshr, 1)) (kk : eW E k n L f (pc + 1) lv (.long (x >>> (y.toInt64 &&& 63)) :: st)) : eW E k n L f pc lv (.int y :: .long x :: st) := by
  obtain ⟨p, l, e, R, s, m, args, below, meth, c, D, cy, A, Q, ax⟩ := E
  obtain ⟨hx, hb, hml, hown, hts, hK, hA, hX, rfl, rfl⟩ := hE
  intro H locs ls ρ hJ hl hG
  exact lv_lshr hx hb hd rfl (kk H locs ls ρ hJ hl (g_nx hA hG hd (by simp [g_in, g_vt, g_vi, g_t, Value.category, Int32.ofInt_toInt, Int64.ofInt_toInt])))
theorem x_l2i (hE : zOk E X0 own cc nL R0) {x : Int64} (hd : decode cc pc = .ok (.l2i, 1)) (kk : eW E k n L f (pc + 1) lv (.int x.toInt32 :: st)) : eW E k n L f pc lv (.long x :: st) := by
  obtain ⟨p, l, e, R, s, m, args, below, meth, c, D, cy, A, Q, ax⟩ := E
  obtain ⟨hx, hb, hml, hown, hts, hK, hA, hX, rfl, rfl⟩ := hE
  intro H locs ls ρ hJ hl hG
  exact lv_l2i hx hb hd rfl (kk H locs ls ρ hJ hl (g_nx hA hG hd (by simp [g_in, g_vt, g_vi, g_t, Value.category, g_l_i])))
theorem x_lcmp (hE : zOk E X0 own cc nL R0) {x y : Int64} (hd : decode cc pc = .ok (.lcmp, 1)) (kk : eW E k n L f (pc + 1) lv (.int (lg_cmp x y) :: st)) : eW E k n L f pc lv (.long y :: .long x :: st) := by
  obtain ⟨p, l, e, R, s, m, args, below, meth, c, D, cy, A, Q, ax⟩ := E
  obtain ⟨hx, hb, hml, hown, hts, hK, hA, hX, rfl, rfl⟩ := hE
  intro H locs ls ρ hJ hl hG
  exact W.lcmp hx hb hd (kk H locs ls ρ hJ hl (g_nx hA hG hd (by simp [g_in, g_vt, g_vi, g_t, Value.category, g_l_cmp])))
theorem x_i2c (hE : zOk E X0 own cc nL R0) {x : Int32} (hd : decode cc pc = .ok (.i2c, 1)) (kk : eW E k n L f (pc + 1) lv (.int (x.toUInt32 % 65536).toInt32 :: st)) : eW E k n L f pc lv (.int x :: st) := by
  obtain ⟨p, l, e, R, s, m, args, below, meth, c, D, cy, A, Q, ax⟩ := E
  obtain ⟨hx, hb, hml, hown, hts, hK, hA, hX, rfl, rfl⟩ := hE
  intro H locs ls ρ hJ hl hG
  exact lv_i2c hx hb hd rfl (kk H locs ls ρ hJ hl (g_nx hA hG hd (by simp [g_in, g_vt, g_vi, g_t, Value.category, Int32.ofInt_toInt, Int64.ofInt_toInt])))
theorem x_ifnullN (hE : zOk E X0 own cc nL R0) {off : Int} {tgt : Nat} (hd : decode cc pc = .ok (.ifnull off, 3)) (ht : (pc : Int) + off = (tgt : Int)) (kk : eW E k n L f tgt lv st) : eW E k n L f pc lv (.null :: st) := by
  obtain ⟨p, l, e, R, s, m, args, below, meth, c, D, cy, A, Q, ax⟩ := E
  obtain ⟨hx, hb, hml, hown, hts, hK, hA, hX, rfl, rfl⟩ := hE
  intro H locs ls ρ hJ hl hG
  exact lv_ifnullN hx hb hd ht (kk H locs ls ρ hJ hl (g_nx hA hG hd (by simp only [g_in, g_t, g_vt, g_vi, List.map_cons, List.getD_cons_zero, List.getD_cons_succ]; rw [if_pos trivial, ht]; rfl)))
theorem x_ifnonnullN (hE : zOk E X0 own cc nL R0) {off : Int} (hd : decode cc pc = .ok (.ifnonnull off, 3)) (kk : eW E k n L f (pc + 3) lv st) : eW E k n L f pc lv (.null :: st) := by
  obtain ⟨p, l, e, R, s, m, args, below, meth, c, D, cy, A, Q, ax⟩ := E
  obtain ⟨hx, hb, hml, hown, hts, hK, hA, hX, rfl, rfl⟩ := hE
  intro H locs ls ρ hJ hl hG
  exact lv_ifnonnullN hx hb hd (kk H locs ls ρ hJ hl (g_nx hA hG hd (by simp only [g_in, g_t, g_vt, g_vi, List.map_cons, List.getD_cons_zero, List.getD_cons_succ]; rw [if_pos trivial]; rfl)))
theorem x_astore_nN (hE : zOk E X0 own cc nL R0) {z : Fin 4} {i : Nat} {lv' : List (Nat × Value)} (hd : decode cc pc = .ok (.astore_n z, 1)) (hi : (z : Nat) = i) (hn : i < nL) (hl' : (i, Value.null) :: lv.filter (fun q => !(q.1 == i) && !(q.1 + 1 == i && q.2.category == 2)) = lv') (kk : eW E k n L f (pc + 1) lv' st) : eW E k n L f pc lv (.null :: st) := by
  obtain ⟨p, l, e, R, s, m, args, below, meth, c, D, cy, A, Q, ax⟩ := E
  obtain ⟨hx, hb, hml, hown, hts, hK, hA, hX, rfl, rfl⟩ := hE
  intro H locs ls ρ hJ hl hG
  exact lv_astore_nN hx hb hd hi hl (by rw [hml]; exact hn) hl' (fun ls hl => kk H locs ls (va_up ρ i (g_vi (Value.null))) hJ hl (g_nxp hA hG hd hl' (by subst hi; simp [g_in, g_vt, g_vi, g_t, Value.category])))
theorem x_astoreN (hE : zOk E X0 own cc nL R0) {i : Nat} {lv' : List (Nat × Value)} (hd : decode cc pc = .ok (.astore i, 2)) (hn : i < nL) (hl' : (i, Value.null) :: lv.filter (fun q => !(q.1 == i) && !(q.1 + 1 == i && q.2.category == 2)) = lv') (kk : eW E k n L f (pc + 2) lv' st) : eW E k n L f pc lv (.null :: st) := by
  obtain ⟨p, l, e, R, s, m, args, below, meth, c, D, cy, A, Q, ax⟩ := E
  obtain ⟨hx, hb, hml, hown, hts, hK, hA, hX, rfl, rfl⟩ := hE
  intro H locs ls ρ hJ hl hG
  exact lv_astoreN hx hb hd hl (by rw [hml]; exact hn) hl' (fun ls hl => kk H locs ls (va_up ρ i (g_vi (Value.null))) hJ hl (g_nxp hA hG hd hl' (by simp [g_in, g_vt, g_vi, g_t, Value.category])))
theorem x_aloadN (hE : zOk E X0 own cc nL R0) {i : Nat} (hd : decode cc pc = .ok (.aload i, 2)) (hj : (i, .null) ∈ lv) (kk : eW E k n L f (pc + 2) lv (.null :: st)) : eW E k n L f pc lv st := by
  obtain ⟨p, l, e, R, s, m, args, below, meth, c, D, cy, A, Q, ax⟩ := E
  obtain ⟨hx, hb, hml, hown, hts, hK, hA, hX, rfl, rfl⟩ := hE
  intro H locs ls ρ hJ hl hG
  exact lv_aloadN hx hb hd (hl.2.2 _ hj) (kk H locs ls ρ hJ hl (g_nx hA hG hd (by have h9 := hG.1 _ hj; dsimp only at h9; simp [g_in, g_vt, g_vi, g_t, Value.category, h9])))
end ZP
section ZR
variable {E : zCx} {l0 : Launch} {D0 : va_G} {cy0 : Nat → ClassId} {ax0 : zAx} {own : String} {cc : ByteArray} {nL : Nat} {R0 : Room} {k n : Nat} {L : List Nat} {f : Nat → va_E} {pc : Nat} {lv : List (Nat × Value)} {st : List Value}
variable {a ci index N j0 : Nat} {fs : List Value} {C : String} {T : u_T}
theorem h_get {v : Value} (hE : zOk E (l0, D0, cy0, ax0) own cc nL R0) (ha : a ∈ L) (hfa : f a = .inr (ci, fs)) (hc : vwCl[ci]? = some (C, T, N)) (hin : ∀ w ∈ u_ws C T N, w ∈ gtbl) (j : Nat) (hj : j < N) (hq : Cond.fieldLink own index (T j).1 (T j).2.1 (T j).2.2.1 ∈ gtbl) (hS : fs[j]? = some v) (hcv : v.category = (if (T j).2.2.1 = "J" then 2 else 1)) (hd : decode cc pc = .ok (.getfield index, 3)) (kk : eW E k n L f (pc + 3) lv (v :: st)) : eW E k n L f pc lv (.ref a :: st) := by
  obtain ⟨p, l, e, R, s, m, args, below, meth, c, D, cy, A, Q, ax⟩ := E
  obtain ⟨hx, hb, hml, hown, hts, hK, hA, hX, rfl, hh⟩ := hE
  cases hh
  intro H locs ls ρ hJ hl hG
  obtain ⟨hP, hD, hS0⟩ := id hJ
  obtain ⟨q0, hq0⟩ := z_plget (f := f) ha
  exact va_get hx hb hts hin hown hK.1 hP q0 (by rw [← hfa]; exact hq0) hc j hj (hts _ hq) (fun x h => h) hS hd (kk H locs ls ρ hJ hl (g_nx hA hG hd ⟨j, _, ⟨ci, C, T, N, hc, hj, hq, rfl⟩, by
    rw [← hcv]
    show (_, _, (v.category, g_vi v) :: _, _, _) = (_, _, (v.category, g_of ax0 L f a j) :: _, _, _)
    rw [g_of_in ha, hfa]
    show _ = (_, _, (v.category, g_vi (fs.getD j .null)) :: _, _, _)
    rw [List.getD_eq_getElem?_getD, hS]
    rfl⟩))
theorem h_put {v : Value} {ty : FieldType} {ty0 : Nat → FieldType} (hE : zOk E (l0, D0, cy0, ax0) own cc nL R0) (hI : zIn E ∧ (T j0).2.2.2 = true ∧ (T j0).1 = own ∨ (T j0).2.2.2 = false) (ha : a ∈ L) (hfa : f a = .inr (ci, fs)) (hc : vwCl[ci]? = some (C, T, N)) (hin : ∀ w ∈ u_ws C T N, w ∈ gtbl) (hty : ∀ k, k < N → parseFieldDescriptor (T k).2.2.1 = some (ty0 k)) (hnm : ∀ a, a < N → ∀ b, b < N → a ≠ b → (T a).2.1 ≠ (T b).2.1) (hj : j0 < N) (hlen : j0 < fs.length) (hq : Cond.fieldLink own index (T j0).1 (T j0).2.1 (T j0).2.2.1 ∈ gtbl) (hdsc : parseFieldDescriptor (T j0).2.2.1 = some ty) (hn : narrow ty v = v) (hfit : fits ty v = true) (hd : decode cc pc = .ok (.putfield index, 3)) (kk : eW E k n L (va_up f a (.inr (ci, fs.set j0 v))) (pc + 3) lv st) : eW E k n L f pc lv (v :: .ref a :: st) := by
  obtain ⟨p, l, e, R, s, m, args, below, meth, c, D, cy, A, Q, ax⟩ := E
  obtain ⟨hx, hb, hml, hown, hts, hK, hA, hX, rfl, hh⟩ := hE
  cases hh
  intro H locs ls ρ hJ hl hG
  obtain ⟨hP, hD, hS0⟩ := id hJ
  obtain ⟨q0, hq0⟩ := z_plget (f := f) ha
  have h9 := z_plset (e := .inr (ci, fs.set j0 v)) hD ha hq0
  have hG2 := (g_nx (lv := lv) (st := v :: .ref a :: st) (st' := st) (f' := va_up f a (.inr (ci, fs.set j0 v))) (pc' := pc + 3) hA hG hd ⟨j0, _, ⟨ci, C, T, N, hc, hj, hq, rfl⟩, by
      show (_, _, _, _, g_of ax0 L (va_up f a (.inr (ci, fs.set j0 v)))) = (_, _, _, _, g_up (g_of ax0 L f) a j0 (g_vi v))
      have h8 : ∀ i, g_cell (.inr (ci, fs.set j0 v)) i = if i = j0 then g_vi v else g_cell (f a) i := by
        intro i
        rw [hfa]
        show g_vi ((fs.set j0 v).getD i .null) = if i = j0 then g_vi v else g_vi (fs.getD i .null)
        rw [List.getD_eq_getElem?_getD, List.getD_eq_getElem?_getD]
        by_cases hi0 : i = j0
        · rw [if_pos hi0, hi0, List.getElem?_set_self hlen]
          rfl
        · rw [if_neg hi0, List.getElem?_set_ne (Ne.symm hi0)]
      rw [g_of_up ha h8]
      rfl⟩)
  rcases hI with ⟨hi1, hi2, hi3⟩ | hi
  · exact va_putF hx hb hts hin ty0 hty hnm hown hK.1 hP hD hS0 q0 (by rw [← hfa]; exact hq0) hc j0 hj (hts _ hq) (fun x h => h) hi2 hi1 hi3 hdsc hn hfit hlen hd (fun H1 locs1 hP1 hD1 hS1 => kk H1 locs1 ls ρ ⟨h9 ▸ hP1, h9 ▸ hD1, hS1⟩ hl hG2)
  · exact va_put hx hb hts hin ty0 hty hnm hown hK.1 hP hD hS0 q0 (by rw [← hfa]; exact hq0) hc j0 hj (hts _ hq) (fun x h => h) hi hdsc hn hfit hlen hd (fun H1 locs1 hP1 hD1 hS1 => kk H1 locs1 ls ρ ⟨h9 ▸ hP1, h9 ▸ hD1, hS1⟩ hl hG2)
theorem h_iald {N0 : Nat} {g : Nat → Int32} {i : Int32} (hE : zOk E (l0, D0, cy0, ax0) own cc nL R0) (ha : a ∈ L) (hfa : f a = zIA cy0 N0 g) (hi : vp_in i N0) (hd : decode cc pc = .ok (.iaload, 1)) (kk : eW E k n L f (pc + 1) lv (.int (g i.toNatClampNeg) :: st)) : eW E k n L f pc lv (.int i :: .ref a :: st) := by
  obtain ⟨p, l, e, R, s, m, args, below, meth, c, D, cy, A, Q, ax⟩ := E
  obtain ⟨hx, hb, hml, hown, hts, hK, hA, hX, rfl, hh⟩ := hE
  cases hh
  intro H locs ls ρ hJ hl hG
  obtain ⟨hP, hD, hS0⟩ := id hJ
  obtain ⟨q0, hq0⟩ := z_plget (f := f) ha
  exact va_iald hx hb hK.1 hP q0 0 (by rw [hfa] at hq0; exact hq0) rfl hi hd (kk H locs ls ρ hJ hl (g_nx hA hG hd (by
    show (_, _, (1, (g i.toNatClampNeg).toInt) :: _, _, _) = (_, _, (1, g_of ax0 L f a i.toInt.toNat) :: _, _, _)
    rw [g_of_in ha, hfa]
    rfl)))
theorem h_zald {N0 : Nat} {g : Nat → Int32} {i : Int32} (hE : zOk E (l0, D0, cy0, ax0) own cc nL R0) (ha : a ∈ L) (hfa : f a = zZA cy0 N0 g) (hi : vp_in i N0) (hd : decode cc pc = .ok (.baload, 1)) (kk : eW E k n L f (pc + 1) lv (.int (g i.toNatClampNeg) :: st)) : eW E k n L f pc lv (.int i :: .ref a :: st) := by
  obtain ⟨p, l, e, R, s, m, args, below, meth, c, D, cy, A, Q, ax⟩ := E
  obtain ⟨hx, hb, hml, hown, hts, hK, hA, hX, rfl, hh⟩ := hE
  cases hh
  intro H locs ls ρ hJ hl hG
  obtain ⟨hP, hD, hS0⟩ := id hJ
  obtain ⟨q0, hq0⟩ := z_plget (f := f) ha
  exact va_zald hx hb hK.1 hP q0 2 (by rw [hfa] at hq0; exact hq0) rfl hi hd (kk H locs ls ρ hJ hl (g_nx hA hG hd (by
    show (_, _, (1, (g i.toNatClampNeg).toInt) :: _, _, _) = (_, _, (1, g_of ax0 L f a i.toInt.toNat) :: _, _, _)
    rw [g_of_in ha, hfa]
    rfl)))
theorem h_lald {N0 : Nat} {g : Nat → Int64} {i : Int32} (hE : zOk E (l0, D0, cy0, ax0) own cc nL R0) (ha : a ∈ L) (hfa : f a = zJA cy0 N0 g) (hi : vp_in i N0) (hd : decode cc pc = .ok (.laload, 1)) (kk : eW E k n L f (pc + 1) lv (.long (g i.toNatClampNeg) :: st)) : eW E k n L f pc lv (.int i :: .ref a :: st) := by
  obtain ⟨p, l, e, R, s, m, args, below, meth, c, D, cy, A, Q, ax⟩ := E
  obtain ⟨hx, hb, hml, hown, hts, hK, hA, hX, rfl, hh⟩ := hE
  cases hh
  intro H locs ls ρ hJ hl hG
  obtain ⟨hP, hD, hS0⟩ := id hJ
  obtain ⟨q0, hq0⟩ := z_plget (f := f) ha
  exact va_lald hx hb hK.1 hP q0 1 (by rw [hfa] at hq0; exact hq0) rfl hi hd (kk H locs ls ρ hJ hl (g_nx hA hG hd (by
    show (_, _, (2, (g i.toNatClampNeg).toInt) :: _, _, _) = (_, _, (2, g_of ax0 L f a i.toInt.toNat) :: _, _, _)
    rw [g_of_in ha, hfa]
    rfl)))
theorem h_iast {N0 : Nat} {g : Nat → Int32} {i v : Int32} (hE : zOk E (l0, D0, cy0, ax0) own cc nL R0) (ha : a ∈ L) (hfa : f a = zIA cy0 N0 g) (hi : vp_in i N0) (hd : decode cc pc = .ok (.iastore, 1)) (kk : eW E k n L (va_up f a (zIA cy0 N0 (upd g i.toNatClampNeg v))) (pc + 1) lv st) : eW E k n L f pc lv (.int v :: .int i :: .ref a :: st) := by
  obtain ⟨p, l, e, R, s, m, args, below, meth, c, D, cy, A, Q, ax⟩ := E
  obtain ⟨hx, hb, hml, hown, hts, hK, hA, hX, rfl, hh⟩ := hE
  cases hh
  intro H locs ls ρ hJ hl hG
  obtain ⟨hP, hD, hS0⟩ := id hJ
  obtain ⟨q0, hq0⟩ := z_plget (f := f) ha
  have h9 := z_plset (e := .inl (cy0 0, N0, .inl (upd g i.toNatClampNeg v))) hD ha hq0
  have h8 : ∀ k, g_cell (zIA cy0 N0 (upd g i.toNatClampNeg v)) k = if k = i.toInt.toNat then v.toInt else g_cell (f a) k := by
    intro k
    rw [hfa]
    show _ = if k = i.toNatClampNeg then _ else _
    by_cases hk0 : k = i.toNatClampNeg
    · rw [if_pos hk0, hk0]
      simp [g_cell, zIA, zZA, zJA, zRA, upd, va_rf, g_vi]
    · rw [if_neg hk0]
      simp [g_cell, zIA, zZA, zJA, zRA, upd, hk0]
  have hG2 := g_nx (lv := lv) (st := .int v :: .int i :: .ref a :: st) (st' := st) (f' := va_up f a (zIA cy0 N0 (upd g i.toNatClampNeg v))) (pc' := pc + 1) hA hG hd (by
    show (_, _, _, _, g_of ax0 L (va_up f a (zIA cy0 N0 (upd g i.toNatClampNeg v)))) = (_, _, _, _, g_up (g_of ax0 L f) a i.toInt.toNat v.toInt)
    rw [g_of_up ha h8]
    rfl)
  exact va_iast hx hb hK.1 hP hD hS0 q0 0 (by rw [hfa] at hq0; exact hq0) rfl hi hd (fun H1 locs1 hP1 hD1 hS1 => kk H1 locs1 ls ρ ⟨h9 ▸ hP1, h9 ▸ hD1, hS1⟩ hl hG2)
theorem h_zast {N0 : Nat} {g : Nat → Int32} {i v : Int32} (hE : zOk E (l0, D0, cy0, ax0) own cc nL R0) (ha : a ∈ L) (hfa : f a = zZA cy0 N0 g) (hi : vp_in i N0) (hd : decode cc pc = .ok (.bastore, 1)) (kk : eW E k n L (va_up f a (zZA cy0 N0 (upd g i.toNatClampNeg (vp_nar .boolean v)))) (pc + 1) lv st) : eW E k n L f pc lv (.int v :: .int i :: .ref a :: st) := by
  obtain ⟨p, l, e, R, s, m, args, below, meth, c, D, cy, A, Q, ax⟩ := E
  obtain ⟨hx, hb, hml, hown, hts, hK, hA, hX, rfl, hh⟩ := hE
  cases hh
  intro H locs ls ρ hJ hl hG
  obtain ⟨hP, hD, hS0⟩ := id hJ
  obtain ⟨q0, hq0⟩ := z_plget (f := f) ha
  have h9 := z_plset (e := .inl (cy0 2, N0, .inl (upd g i.toNatClampNeg (vp_nar .boolean v)))) hD ha hq0
  have h8 : ∀ k, g_cell (zZA cy0 N0 (upd g i.toNatClampNeg (vp_nar .boolean v))) k = if k = i.toInt.toNat then (vp_nar .boolean v).toInt else g_cell (f a) k := by
    intro k
    rw [hfa]
    show _ = if k = i.toNatClampNeg then _ else _
    by_cases hk0 : k = i.toNatClampNeg
    · rw [if_pos hk0, hk0]
      simp [g_cell, zIA, zZA, zJA, zRA, upd, va_rf, g_vi]
    · rw [if_neg hk0]
      simp [g_cell, zIA, zZA, zJA, zRA, upd, hk0]
  have hG2 := g_nx (lv := lv) (st := .int v :: .int i :: .ref a :: st) (st' := st) (f' := va_up f a (zZA cy0 N0 (upd g i.toNatClampNeg (vp_nar .boolean v)))) (pc' := pc + 1) hA hG hd (by
    show (_, _, _, _, g_of ax0 L (va_up f a (zZA cy0 N0 (upd g i.toNatClampNeg (vp_nar .boolean v))))) = (_, _, _, _, g_up (g_of ax0 L f) a i.toInt.toNat (vp_nar .boolean (Int32.ofInt v.toInt)).toInt)
    rw [Int32.ofInt_toInt, g_of_up ha h8]
    rfl)
  exact va_zast hx hb hK.1 hP hD hS0 q0 2 (by rw [hfa] at hq0; exact hq0) rfl hi hd (fun H1 locs1 hP1 hD1 hS1 => kk H1 locs1 ls ρ ⟨h9 ▸ hP1, h9 ▸ hD1, hS1⟩ hl hG2)
theorem h_last {N0 : Nat} {g : Nat → Int64} {i : Int32} {v : Int64} (hE : zOk E (l0, D0, cy0, ax0) own cc nL R0) (ha : a ∈ L) (hfa : f a = zJA cy0 N0 g) (hi : vp_in i N0) (hd : decode cc pc = .ok (.lastore, 1)) (kk : eW E k n L (va_up f a (zJA cy0 N0 (vp_updL g i.toNatClampNeg v))) (pc + 1) lv st) : eW E k n L f pc lv (.long v :: .int i :: .ref a :: st) := by
  obtain ⟨p, l, e, R, s, m, args, below, meth, c, D, cy, A, Q, ax⟩ := E
  obtain ⟨hx, hb, hml, hown, hts, hK, hA, hX, rfl, hh⟩ := hE
  cases hh
  intro H locs ls ρ hJ hl hG
  obtain ⟨hP, hD, hS0⟩ := id hJ
  obtain ⟨q0, hq0⟩ := z_plget (f := f) ha
  have h9 := z_plset (e := .inl (cy0 1, N0, .inr (.inl (vp_updL g i.toNatClampNeg v)))) hD ha hq0
  have h8 : ∀ k, g_cell (zJA cy0 N0 (vp_updL g i.toNatClampNeg v)) k = if k = i.toInt.toNat then v.toInt else g_cell (f a) k := by
    intro k
    rw [hfa]
    show _ = if k = i.toNatClampNeg then _ else _
    by_cases hk0 : k = i.toNatClampNeg
    · rw [if_pos hk0, hk0]
      simp [g_cell, zIA, zZA, zJA, zRA, vp_updL, va_rf, g_vi]
    · rw [if_neg hk0]
      simp [g_cell, zIA, zZA, zJA, zRA, vp_updL, hk0]
  have hG2 := g_nx (lv := lv) (st := .long v :: .int i :: .ref a :: st) (st' := st) (f' := va_up f a (zJA cy0 N0 (vp_updL g i.toNatClampNeg v))) (pc' := pc + 1) hA hG hd (by
    show (_, _, _, _, g_of ax0 L (va_up f a (zJA cy0 N0 (vp_updL g i.toNatClampNeg v)))) = (_, _, _, _, g_up (g_of ax0 L f) a i.toInt.toNat v.toInt)
    rw [g_of_up ha h8]
    rfl)
  exact va_last hx hb hK.1 hP hD hS0 q0 1 (by rw [hfa] at hq0; exact hq0) rfl hi hd (fun H1 locs1 hP1 hD1 hS1 => kk H1 locs1 ls ρ ⟨h9 ▸ hP1, h9 ▸ hD1, hS1⟩ hl hG2)
theorem h_aald {t0 N0 : Nat} {g : Nat → Option Nat} {i : Int32} (hE : zOk E (l0, D0, cy0, ax0) own cc nL R0) (ha : a ∈ L) (ht : t0 = 3 ∧ C = "OwnRain$Text" ∨ t0 = 4 ∧ C = "OwnRain$World") (hfa : f a = zRA (cy0 t0) N0 g) (hi : vp_in i N0) (hd : decode cc pc = .ok (.aaload, 1)) (kk : eW E k n L f (pc + 1) lv (va_rf (g i.toNatClampNeg) :: st)) : eW E k n L f pc lv (.int i :: .ref a :: st) := by
  obtain ⟨p, l, e, R, s, m, args, below, meth, c, D, cy, A, Q, ax⟩ := E
  obtain ⟨hx, hb, hml, hown, hts, hK, hA, hX, rfl, hh⟩ := hE
  cases hh
  intro H locs ls ρ hJ hl hG
  obtain ⟨hP, hD, hS0⟩ := id hJ
  obtain ⟨q0, hq0⟩ := z_plget (f := f) ha
  have hG2 := g_nx (lv := lv) (st := .int i :: .ref a :: st) (st' := va_rf (g i.toNatClampNeg) :: st) (f' := f) (L' := L) (pc' := pc + 1) hA hG hd (by
    show (_, _, ((va_rf (g i.toNatClampNeg)).category, g_vi (va_rf (g i.toNatClampNeg))) :: _, _, _) = (_, _, (1, g_of ax0 L f a i.toInt.toNat) :: _, _, _)
    rw [g_of_in ha, hfa, g_cat_rf]
    rfl)
  rcases ht with ⟨rfl, rfl⟩ | ⟨rfl, rfl⟩
  · exact va_aldq hx hb hK.1 hP q0 3 (C := "OwnRain$Text") (f := g) (cA := cy0 3) (n := N0) (by rw [hfa] at hq0; exact hq0) rfl hi hd (kk H locs ls ρ hJ hl hG2)
  · exact va_aldq hx hb hK.1 hP q0 4 (C := "OwnRain$World") (f := g) (cA := cy0 4) (n := N0) (by rw [hfa] at hq0; exact hq0) rfl hi hd (kk H locs ls ρ hJ hl hG2)
theorem h_aast {t0 N0 v : Nat} {g : Nat → Option Nat} {i : Int32} (hE : zOk E (l0, D0, cy0, ax0) own cc nL R0) (ha : a ∈ L) (hfa : f a = zRA (cy0 t0) N0 g) (hv : v ∈ L) (hfv : f v = .inr (ci, fs)) (hc : vwCl[ci]? = some (C, T, N)) (ht : ∀ cy : Nat → ClassId, (zcy cy)[t0]? = some (cy t0, .object C)) (hi : vp_in i N0) (hd : decode cc pc = .ok (.aastore, 1)) (kk : eW E k n L (va_up f a (zRA (cy0 t0) N0 (va_up g i.toNatClampNeg (some v)))) (pc + 1) lv st) : eW E k n L f pc lv (.ref v :: .int i :: .ref a :: st) := by
  obtain ⟨p, l, e, R, s, m, args, below, meth, c, D, cy, A, Q, ax⟩ := E
  obtain ⟨hx, hb, hml, hown, hts, hK, hA, hX, rfl, hh⟩ := hE
  cases hh
  intro H locs ls ρ hJ hl hG
  obtain ⟨hP, hD, hS0⟩ := id hJ
  obtain ⟨q0, hq0⟩ := z_plget (f := f) ha
  obtain ⟨q1, hq1⟩ := z_plget (f := f) hv
  have h9 := z_plset (e := zRA (cy0 t0) N0 (va_up g i.toNatClampNeg (some v))) hD ha hq0
  have h8 : ∀ k, g_cell (zRA (cy0 t0) N0 (va_up g i.toNatClampNeg (some v))) k = if k = i.toInt.toNat then (v : Int) else g_cell (f a) k := by
    intro k
    rw [hfa]
    show _ = if k = i.toNatClampNeg then _ else _
    by_cases hk0 : k = i.toNatClampNeg
    · rw [if_pos hk0, hk0]
      simp [g_cell, zIA, zZA, zJA, zRA, va_up, va_rf, g_vi]
    · rw [if_neg hk0]
      simp [g_cell, zIA, zZA, zJA, zRA, va_up, hk0]
  have hG2 := g_nx (lv := lv) (st := .ref v :: .int i :: .ref a :: st) (st' := st) (f' := va_up f a (zRA (cy0 t0) N0 (va_up g i.toNatClampNeg (some v)))) (pc' := pc + 1) hA hG hd (by
    show (_, _, _, _, g_of ax0 L (va_up f a (zRA (cy0 t0) N0 (va_up g i.toNatClampNeg (some v))))) = (_, _, _, _, g_up (g_of ax0 L f) a i.toInt.toNat (v : Int))
    rw [g_of_up ha h8]
    rfl)
  exact va_astq hx hb hK.1 hP hD hS0 q0 t0 q1 ci (r := (C, T, N)) (f := g) (cA := cy0 t0) (n := N0) (by rw [hfa] at hq0; exact hq0) (ht cy0) (by rw [← hfv]; exact hq1) hc hi hd (fun H1 locs1 hP1 hD1 hS1 => kk H1 locs1 ls ρ ⟨h9 ▸ hP1, h9 ▸ hD1, hS1⟩ hl hG2)
theorem h_aastN {t0 N0 : Nat} {g : Nat → Option Nat} {i : Int32} (hE : zOk E (l0, D0, cy0, ax0) own cc nL R0) (ha : a ∈ L) (hfa : f a = zRA (cy0 t0) N0 g) (ht : ∀ cy : Nat → ClassId, (zcy cy)[t0]? = some (cy t0, .object C)) (hi : vp_in i N0) (hd : decode cc pc = .ok (.aastore, 1)) (kk : eW E k n L (va_up f a (zRA (cy0 t0) N0 (va_up g i.toNatClampNeg none))) (pc + 1) lv st) : eW E k n L f pc lv (.null :: .int i :: .ref a :: st) := by
  obtain ⟨p, l, e, R, s, m, args, below, meth, c, D, cy, A, Q, ax⟩ := E
  obtain ⟨hx, hb, hml, hown, hts, hK, hA, hX, rfl, hh⟩ := hE
  cases hh
  intro H locs ls ρ hJ hl hG
  obtain ⟨hP, hD, hS0⟩ := id hJ
  obtain ⟨q0, hq0⟩ := z_plget (f := f) ha
  have h9 := z_plset (e := zRA (cy0 t0) N0 (va_up g i.toNatClampNeg none)) hD ha hq0
  have h8 : ∀ k, g_cell (zRA (cy0 t0) N0 (va_up g i.toNatClampNeg none)) k = if k = i.toInt.toNat then (-1) else g_cell (f a) k := by
    intro k
    rw [hfa]
    show _ = if k = i.toNatClampNeg then _ else _
    by_cases hk0 : k = i.toNatClampNeg
    · rw [if_pos hk0, hk0]
      simp [g_cell, zIA, zZA, zJA, zRA, va_up, va_rf, g_vi]
    · rw [if_neg hk0]
      simp [g_cell, zIA, zZA, zJA, zRA, va_up, hk0]
  have hG2 := g_nx (lv := lv) (st := .null :: .int i :: .ref a :: st) (st' := st) (f' := va_up f a (zRA (cy0 t0) N0 (va_up g i.toNatClampNeg none))) (pc' := pc + 1) hA hG hd (by
    show (_, _, _, _, g_of ax0 L (va_up f a (zRA (cy0 t0) N0 (va_up g i.toNatClampNeg none)))) = (_, _, _, _, g_up (g_of ax0 L f) a i.toInt.toNat (-1))
    rw [g_of_up ha h8]
    rfl)
  exact va_astqN hx hb hK.1 hP hD hS0 q0 t0 (f := g) (cA := cy0 t0) (n := N0) (by rw [hfa] at hq0; exact hq0) (ht cy0) hi hd (fun H1 locs1 hP1 hD1 hS1 => kk H1 locs1 ls ρ ⟨h9 ▸ hP1, h9 ▸ hD1, hS1⟩ hl hG2)
theorem h_alen {x : vp_A} {t0 : Nat} {ty : FieldType} {v : Int32} (hE : zOk E (l0, D0, cy0, ax0) own cc nL R0) (ha : a ∈ L) (hfa : f a = .inl (cy0 t0, x)) (ht : ∀ cy : Nat → ClassId, (zcy cy)[t0]? = some (cy t0, ty)) (hv : Int32.ofNat x.1 = v) (hd : decode cc pc = .ok (.arraylength, 1)) (kk : eW E k n L f (pc + 1) lv (.int v :: st)) : eW E k n L f pc lv (.ref a :: st) := by
  obtain ⟨p, l, e, R, s, m, args, below, meth, c, D, cy, A, Q, ax⟩ := E
  obtain ⟨hx, hb, hml, hown, hts, hK, hA, hX, rfl, hh⟩ := hE
  cases hh
  intro H locs ls ρ hJ hl hG
  obtain ⟨hP, hD, hS0⟩ := id hJ
  obtain ⟨q0, hq0⟩ := z_plget (f := f) ha
  exact va_alen hx hb hK.1 hP q0 t0 (by rw [← hfa]; exact hq0) (ht cy0) hv hd (kk H locs ls ρ hJ hl (g_nx hA hG hd ⟨v.toInt, rfl⟩))
theorem h_new {ty0 : Nat → FieldType} (hE : zOk E (l0, D0, cy0, ax0) own cc nL R0) (hc : vwCl[ci]? = some (C, T, N)) (hin : ∀ w ∈ u_ws C T N, w ∈ gtbl) (hty : ∀ k, k < N → parseFieldDescriptor (T k).2.2.1 = some (ty0 k)) (hq1 : Cond.classLink own index C ∈ gtbl) (hq2 : Cond.instantiable C N ∈ gtbl) (hq3 : Cond.initialized C ∈ gtbl) (hfs : ∀ j, j < N → defaultValue (ty0 j) = vp_V fs j) (hk1 : k + 1 ≤ R0.cells) (hk2 : n + N ≤ R0.slots) (hd : decode cc pc = .ok (.new index, 3))
    (kk : ∀ q : Nat, q ∉ L → eW E (k + 1) (n + N) (L ++ [q]) (va_up f q (.inr (ci, fs))) (pc + 3) lv (.ref q :: st)) : eW E k n L f pc lv st := by
  obtain ⟨p, l, e, R, s, m, args, below, meth, c, D, cy, A, Q, ax⟩ := E
  obtain ⟨hx, hb, hml, hown, hts, hK, hA, hX, rfl, hh⟩ := hE
  cases hh
  intro H locs ls ρ hJ hl hG
  obtain ⟨hP, hD, hS0⟩ := id hJ
  refine va_new hx hb hts hin ty0 hty hown (hts _ hq1) (hts _ hq2) (hts _ hq3) hK.1 hP hD hS0 hA.1 hc hfs hk1 hk2 hd (fun q H1 hP1 hD1 hS1 => ?_)
  have hq : q ∉ L := va_pl_fresh2 (X := []) hD1
  have h9 := va_pl_push (f := f) (e := .inr (ci, fs)) hq
  obtain ⟨a0, a1, a2⟩ := g_apart hX
  have hA1 : A q := g_inA (h9 ▸ hD1) (List.mem_append_right L (List.mem_singleton.mpr rfl))
  have n0 : q ≠ ax0.2.2 := fun h => a0 (h ▸ hA1)
  have n1 : q ≠ ax0.1 0 := fun h => a1 (h ▸ hA1)
  have n2 : q ≠ ax0.1 1 := fun h => a2 (h ▸ hA1)
  exact kk q hq H1 locs ls ρ ⟨h9 ▸ hP1, h9 ▸ hD1, hS1⟩ hl (g_nx hA hG hd ⟨q, ci, N, C, T, ty0, g_cell (.inr (ci, fs)), hq, n0, n1, n2, hc, hq1, fun j hj => ⟨hty j hj, by rw [hfs j hj]; rfl⟩, by rw [g_of_new]; rfl⟩)
theorem h_newa {atype : ArrayType} {t0 : Nat} {ty : FieldType} {v : Int32} {N0 : Nat} {x : vp_A} (hE : zOk E (l0, D0, cy0, ax0) own cc nL R0) (hty : newarray.typeOf atype = ty) (hno : ∀ C, ty ≠ .object C) (hq : Cond.arrayClass ty ∈ gtbl) (ht : ∀ cy : Nat → ClassId, (zcy cy)[t0]? = some (cy t0, ty)) (hxc : ∀ cA : ClassId, vp_cell cA x = arrV cA N0 (fun _ => defaultValue ty)) (hn : ¬ v < 0) (hN : v.toNatClampNeg = N0) (hby : N0 * componentBytes ty ≤ 536870912) (hk1 : k + 1 ≤ R0.cells) (hk2 : n + N0 ≤ R0.slots) (hd : decode cc pc = .ok (.newarray atype, 2))
    (kk : ∀ q : Nat, q ∉ L → eW E (k + 1) (n + N0) (L ++ [q]) (va_up f q (.inl (cy0 t0, x))) (pc + 2) lv (.ref q :: st)) (hz : ∀ c : ClassId, g_cell (.inl (c, x)) = fun _ => 0 := by intro c; funext j; rfl) : eW E k n L f pc lv (.int v :: st) := by
  obtain ⟨p, l, e, R, s, m, args, below, meth, c, D, cy, A, Q, ax⟩ := E
  obtain ⟨hx, hb, hml, hown, hts, hK, hA, hX, rfl, hh⟩ := hE
  cases hh
  intro H locs ls ρ hJ hl hG
  obtain ⟨hP, hD, hS0⟩ := id hJ
  subst hty
  refine va_newa hx hb (hts _ hq) rfl hK.1 hP hD hS0 hA.1 hxc hn hN hby hk1 hk2 hd (fun q cA H1 hK1 hP1 hD1 hS1 => ?_)
  have hq : q ∉ L := va_pl_fresh2 (X := []) hD1
  have hcA : cA = cy0 t0 := by
    have h1 := (hK1.2 5 (cA, newarray.typeOf atype) rfl).2
    have h2 := (hK.1.2 t0 _ (ht cy0)).2
    cases hty2 : newarray.typeOf atype <;> rw [hty2] at h1 h2 hno <;> first | exact absurd rfl (hno _) | exact Option.some.inj (h1.symm.trans h2)
  subst hcA
  have h9 := va_pl_push (f := f) (e := .inl (cy0 t0, x)) hq
  obtain ⟨a0, a1, a2⟩ := g_apart hX
  have hA1 : A q := g_inA (h9 ▸ hD1) (List.mem_append_right L (List.mem_singleton.mpr rfl))
  have n0 : q ≠ ax0.2.2 := fun h => a0 (h ▸ hA1)
  have n1 : q ≠ ax0.1 0 := fun h => a1 (h ▸ hA1)
  have n2 : q ≠ ax0.1 1 := fun h => a2 (h ▸ hA1)
  exact kk q hq H1 locs ls ρ ⟨h9 ▸ hP1, h9 ▸ hD1, hS1⟩ hl (g_nx hA hG hd ⟨q, hq, n0, n1, n2, by rw [g_of_new, hz]; rfl⟩)
theorem h_newq {t0 : Nat} {v : Int32} {N0 : Nat} (hE : zOk E (l0, D0, cy0, ax0) own cc nL R0) (hq : Cond.classLink own index C ∈ gtbl) (ht : ∀ cy : Nat → ClassId, (zcy cy)[t0]? = some (cy t0, .object C)) (hC : C = "OwnRain$Text" ∨ C = "OwnRain$World") (hn : ¬ v < 0) (hN : v.toNatClampNeg = N0) (hby : N0 * 4 ≤ 536870912) (hk1 : k + 1 ≤ R0.cells) (hk2 : n + N0 ≤ R0.slots) (hd : decode cc pc = .ok (.anewarray index, 3))
    (kk : ∀ q : Nat, q ∉ L → eW E (k + 1) (n + N0) (L ++ [q]) (va_up f q (zRA (cy0 t0) N0 (fun _ => none))) (pc + 3) lv (.ref q :: st)) : eW E k n L f pc lv (.int v :: st) := by
  obtain ⟨p, l, e, R, s, m, args, below, meth, c, D, cy, A, Q, ax⟩ := E
  obtain ⟨hx, hb, hml, hown, hts, hK, hA, hX, rfl, hh⟩ := hE
  cases hh
  intro H locs ls ρ hJ hl hG
  obtain ⟨hP, hD, hS0⟩ := id hJ
  have hAO : va_AO C s := by
    rcases hC with h | h <;> rw [h]
    · exact hK.2.2.1
    · exact hK.2.2.2
  refine va_newq hx hb hown (hts _ hq) hAO hK.1 hP hD hS0 hA.1 hn hN hby hk1 hk2 hd (fun q cA H1 hK1 hP1 hD1 hS1 => ?_)
  have hq : q ∉ L := va_pl_fresh2 (X := []) hD1
  have hcA : cA = cy0 t0 := by
    obtain ⟨_, _, -, -, -, h1⟩ := (hK1.2 5 (cA, .object C) rfl).2
    obtain ⟨_, _, -, -, -, h2⟩ := (hK.1.2 t0 _ (ht cy0)).2
    exact Option.some.inj (h1.symm.trans h2)
  subst hcA
  have h9 := va_pl_push (f := f) (e := zRA (cy0 t0) N0 (fun _ => none)) hq
  obtain ⟨a0, a1, a2⟩ := g_apart hX
  have hA1 : A q := g_inA (h9 ▸ hD1) (List.mem_append_right L (List.mem_singleton.mpr rfl))
  have n0 : q ≠ ax0.2.2 := fun h => a0 (h ▸ hA1)
  have n1 : q ≠ ax0.1 0 := fun h => a1 (h ▸ hA1)
  have n2 : q ≠ ax0.1 1 := fun h => a2 (h ▸ hA1)
  exact kk q hq H1 locs ls ρ ⟨h9 ▸ hP1, h9 ▸ hD1, hS1⟩ hl (g_nx hA hG hd ⟨q, hq, n0, n1, n2, by rw [g_of_new]; rfl⟩)
end ZR
