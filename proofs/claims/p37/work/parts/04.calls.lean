/-! Contracts over pools, and calls. The tag t: 0 an int comes back, 1 a long, 2 a reference, 3 nothing, 4 a reference or null. -/
def zrm (d mc ms : Nat) : Room := { frames := d, cells := mc, slots := ms, locals := 60 * d }
def zA (L : List Nat) (sz : Nat) : Nat → Prop := fun q => q ∈ L ∨ sz ≤ q
abbrev eS : Type := List Nat × (Nat → va_E)
def ePre (X0 : zC0) (av : List Value) (sz : Nat) (L : List Nat) (f : Nat → va_E) : Array Value → State → Prop := va_Pc av (fun U => U.heap.size = sz ∧ zK X0.2.1 X0.2.2.1 U ∧ zXt X0.2.2.2 (zA L sz) U U.heap ∧ va_P X0.2.1 vwCl (va_pl L f) U.heap ∧ va_D (fun _ => True) (va_pl L f))
def eB (D : va_G) (A : Nat → Prop) (u : eS) (t : State) : Prop := va_P D vwCl (va_pl u.1 u.2) t.heap ∧ va_D A (va_pl u.1 u.2)
def eQ (t : Nat) (D : va_G) (A : Nat → Prop) (post : Option Value → eS → Prop) : Array Value → State → Outcome → State → Prop := match t with
  | 0 => va_Qi (fun r u => post (some (.int r)) u) (eB D A) A
  | 1 => va_Ql (fun r u => post (some (.long r)) u) (eB D A) A
  | 2 => va_Qr (fun u : Nat × eS => post (some (.ref u.1)) u.2) (fun u a t => u.1 = a ∧ eB D A u.2 t) A
  | 3 => va_Qv (fun u => post none u) (eB D A) A
  | _ => va_Qq (fun r u => post (some (va_rf r)) u) (eB D A) A
def eM (X0 : zC0) (t : Nat) (y : MethodName) (cc : ByteArray) (nL : Nat) (ret : Option FieldType) (rm : Room) (av : List Value) (L : List Nat) (f : Nat → va_E) (post : Option Value → eS → Prop) : Prop := ∀ sz, Met X0.1 y (Cond.code y cc nL ret :: gtbl) rm (ePre X0 av sz L f) (eQ t X0.2.1 (zA L sz) post) rm.cells rm.slots (zA L sz)
/-- what a return asks for -/
def eRet (E : zCx) (t : Nat) (cc : ByteArray) (ret : Option FieldType) (rm : Room) (post : Option Value → eS → Prop) : Prop := match t with
  | 0 => ∀ (k n : Nat) (L : List Nat) (f : Nat → va_E) (pc : Nat) (lv : List (Nat × Value)) (v : Int32), k ≤ rm.cells → n ≤ rm.slots → decode cc pc = .ok (.ireturn, 1) → (∀ ft, ret = some ft → narrow ft (.int v) = .int v) → post (some (.int v)) (L, f) → eW E k n L f pc lv [.int v]
  | 1 => ∀ (k n : Nat) (L : List Nat) (f : Nat → va_E) (pc : Nat) (lv : List (Nat × Value)) (v : Int64), k ≤ rm.cells → n ≤ rm.slots → decode cc pc = .ok (.lreturn, 1) → post (some (.long v)) (L, f) → eW E k n L f pc lv [.long v]
  | 2 => ∀ (k n : Nat) (L : List Nat) (f : Nat → va_E) (pc : Nat) (lv : List (Nat × Value)) (v : Nat), k ≤ rm.cells → n ≤ rm.slots → decode cc pc = .ok (.areturn, 1) → post (some (.ref v)) (L, f) → eW E k n L f pc lv [.ref v]
  | 3 => ∀ (k n : Nat) (L : List Nat) (f : Nat → va_E) (pc : Nat) (lv : List (Nat × Value)), k ≤ rm.cells → n ≤ rm.slots → decode cc pc = .ok (.return_, 1) → post none (L, f) → eW E k n L f pc lv []
  | _ => ∀ (k n : Nat) (L : List Nat) (f : Nat → va_E) (pc : Nat) (lv : List (Nat × Value)) (v : Option Nat), k ≤ rm.cells → n ≤ rm.slots → decode cc pc = .ok (.areturn, 1) → post (some (va_rf v)) (L, f) → eW E k n L f pc lv [va_rf v]
/-- the tag fits what the method's head says -/
def eRt (t : Nat) (ret : Option FieldType) : Prop := match t with
  | 0 => ∃ ft, ret = some ft
  | 1 => ret = some .long
  | 3 => ret = none
  | _ => ∃ ft, ret = some ft ∧ ((∃ n, ft = .object n) ∨ ∃ u, ft = .array u)
theorem zD_self {L : List Nat} {f : Nat → va_E} {sz : Nat} (h : va_D (fun _ => True) (va_pl L f)) : va_D (zA L sz) (va_pl L f) := by
  refine ⟨h.1, fun k q hk => Or.inl ?_⟩
  have h2 := List.mem_of_getElem? hk
  obtain ⟨a, ha, rfl⟩ := List.mem_map.mp h2
  exact ha
theorem eM.mk {X0 : zC0} {t : Nat} {y : MethodName} {cc : ByteArray} {nL : Nat} {ret : Option FieldType} {rm : Room} {av : List Value} {L : List Nat} {f : Nat → va_E} {post : Option Value → eS → Prop} (hrt : eRt t ret) (hy : plainName y.cls = true) (hlen : (lg_sl av).length ≤ nL) (body : ∀ E : zCx, zOk E X0 y.cls cc nL rm → (y.name = "<init>" → zIn E) → eRet E t cc ret rm post → eW E 0 0 L f 0 (lv_args 0 av) []) : eM X0 t y cc nL ret rm av L f post := by
  obtain ⟨l, D, cy, ax⟩ := X0
  intro sz
  refine Met.ofW (cc := cc) (maxL := nL) (ret := ret) hy rfl ?_
  intro p e s m args below meth c s₁ B hml hv
  obtain ⟨rfl, rfl, hK, hX, hP, hD⟩ := hv
  have hx := B.exec
  have hb := B.bytes
  have hr := B.returns
  have hts := atoms_spec (ws := Cond.code y cc nL ret :: gtbl) B.pre
  have hlocks := B.notSynchronized
  have hin : meth.name = y.name := (name_of_methodNamed B.named B.method).1
  have hl := lv_entry av (n := nL) hlen
  rw [lg_entry_eq]
  refine body (p, l, e, rm, s, m, av.toArray, below, meth, c, D, cy, zA L s.heap.size, MQ below (eQ t D (zA L s.heap.size) post) av.toArray s rm.cells rm.slots (zA L s.heap.size), ax) ⟨hx, hb, hml, findClass_of_methodNamed B.named, fun w hw => hts w (List.mem_cons_of_mem _ hw), hK, fun q h => Or.inr h, hX, rfl, rfl⟩ (fun h => hin.trans h) ?_ s.heap [] _ ⟨hP, zD_self hD, va_S.rf⟩ (by rw [hml]; exact hl)
  match t, hrt with
  | 0, ⟨ft, hft⟩ =>
    intro k n L' f' pc lv v hk hn hd hnar hpost H locs ls hJ hl
    obtain ⟨hP', hD', hS'⟩ := hJ
    refine W.widen hk hn ?_
    exact W.zret hx hb (hr.trans hft) (hnar ft hft) (fun t ht hW => ⟨⟨v, (L', f'), rfl, hpost, by rw [ht]; exact hP', hD'⟩, hS'.F ht⟩) hS'.2.2 hd
  | 1, hft =>
    intro k n L' f' pc lv v hk hn hd hpost H locs ls hJ hl
    obtain ⟨hP', hD', hS'⟩ := hJ
    refine W.widen hk hn ?_
    exact W.lret hx hb (hr.trans hft) (fun t ht hW => ⟨⟨v, (L', f'), rfl, hpost, by rw [ht]; exact hP', hD'⟩, hS'.F ht⟩) hS'.2.2 hd
  | 2, ⟨ft, hft, hft2⟩ =>
    intro k n L' f' pc lv v hk hn hd hpost H locs ls hJ hl
    obtain ⟨hP', hD', hS'⟩ := hJ
    refine W.widen hk hn ?_
    exact W.aret hx hb (hr.trans hft) hft2 (Or.inr ⟨v, rfl⟩) (fun t ht hW => ⟨⟨(v, (L', f')), v, rfl, hpost, rfl, by rw [ht]; exact hP', hD'⟩, hS'.F ht⟩) hS'.2.2 hd
  | 3, hft =>
    intro k n L' f' pc lv hk hn hd hpost H locs ls hJ hl
    obtain ⟨hP', hD', hS'⟩ := hJ
    refine W.widen hk hn ?_
    exact W.vret hx hb (hr.trans hft) (fun t ht hW => ⟨⟨(L', f'), rfl, hpost, by rw [ht]; exact hP', hD'⟩, hS'.F ht⟩) hS'.2.2 hd
  | t + 4, ⟨ft, hft, hft2⟩ =>
    intro k n L' f' pc lv v hk hn hd hpost H locs ls hJ hl
    obtain ⟨hP', hD', hS'⟩ := hJ
    refine W.widen hk hn ?_
    refine W.aret hx hb (hr.trans hft) hft2 ?_ (fun t ht hW => ⟨⟨v, (L', f'), rfl, hpost, by rw [ht]; exact hP', hD'⟩, hS'.F ht⟩) hS'.2.2 hd
    cases v with
    | none => exact Or.inl rfl
    | some b => exact Or.inr ⟨b, rfl⟩
def eRun (E : zCx) (k n mc ms : Nat) (L : List Nat) (f : Nat → va_E) (pc : Nat) (lv : List (Nat × Value)) (stk st : List Value) (Qc : Nat → State → Outcome → State → Prop) : Prop := match E with
  | (p, l, e, R, s, m, args, below, meth, c, D, _, A, _, _) => ∀ (H : Heap) (locs : List Loc) (ls : Array Slot), eJ D A s.heap L f H locs → lv_has ls c.maxLocals lv → va_Run p l e R s m args below meth c H locs k n mc ms (F0 m pc ls stk) st (Qc H.size) (zA L H.size)
section ZC
variable {E : zCx} {X0 : zC0} {own : String} {cc : ByteArray} {nL : Nat} {R0 : Room} {k n : Nat} {L : List Nat} {f : Nat → va_E} {pc : Nat} {lv : List (Nat × Value)} {st stk : List Value}
variable {y : MethodName} {b : ByteArray} {nb index a t : Nat} {ret : Option FieldType} {rm : Room} {av : List Value} {post : Option Value → eS → Prop}
theorem ePre_blind {sz : Nat} : FrameBlind (ePre X0 av sz L f) := by
  intro a U g mk h
  obtain ⟨h1, h2, ⟨k1, k2, k3, k4⟩, h3, h4⟩ := h
  exact ⟨h1, h2, ⟨va_K.moved (u := U) (U := U.calling g mk a) (Vm.Alike.refl U.vm) k1, fun q hq => va_Nw.same rfl (u := U) (U := U.calling g mk a) rfl (k2 q hq), va_AO.moved (u := U) (U := U.calling g mk a) (Vm.Alike.refl U.vm) k3, va_AO.moved (u := U) (U := U.calling g mk a) (Vm.Alike.refl U.vm) k4⟩, zXt.same (s := U) (U := U.calling g mk a) rfl h3, h4⟩
theorem zD_all {A : Nat → Prop} {f : Nat → va_E} (h : va_D A (va_pl L f)) : va_D (fun _ => True) (va_pl L f) := h.weaken (fun _ _ _ _ => trivial)
theorem zA_sub {A : Nat → Prop} {f : Nat → va_E} {H0 H : Heap} {locs : List Loc} (hD : va_D A (va_pl L f)) (hS : va_S A H0 H locs) (hA : ∀ q, H0.size ≤ q → A q) (q : Nat) (h : zA L H.size q) : A q := by
  rcases h with h | h
  · obtain ⟨k, hk⟩ := z_plget (f := f) h
    exact hD.2 k _ hk
  · exact hA q (Nat.le_trans hS.1 h)
theorem zXt_at {ax : zAx} {A : Nat → Prop} {s U : State} {H : Heap} {locs : List Loc} (hX : zXt ax A s s.heap) (hD : va_D A (va_pl L f)) (hS : va_S A s.heap H locs) (hA : ∀ q, s.heap.size ≤ q → A q) (hU : U.heap = H) (hW : s.WarmedH U.vm) : zXt ax (zA L H.size) U U.heap := by
  rw [hU]
  exact ((hX.kept hS.2.1).narrow (zA_sub hD hS hA)).warm hW
theorem r_V {ci N : Nat} {fs : List Value} {C : String} {T : u_T} (hE : zOk E X0 own cc nL R0) (hM : eM X0 t y b nb ret rm (.ref a :: av) L f post) (hq1 : Cond.methodLink own index y ∈ gtbl) (hq2 : Cond.instanceMethod y ∈ gtbl) (hq3 : Cond.selects C y y ∈ gtbl) (hq4 : Cond.initialized y.cls ∈ gtbl) (hq5 : Cond.code y b nb ret ∈ gtbl) (ha : a ∈ L) (hfa : f a = .inr (ci, fs)) (hc : vwCl[ci]? = some (C, T, N)) (hy : y.cls ≠ "java/lang/invoke/MethodHandle" ∧ y.cls ≠ "java/lang/invoke/VarHandle" ∧ (parseMethodDescriptor y.desc).map (fun d => d.parameters.length) = some av.length) (hR : rm.frames + 1 ≤ R0.frames ∧ 8 + (nb + 11) + rm.locals ≤ R0.locals) (hk : k + rm.cells ≤ R0.cells ∧ n + rm.slots ≤ R0.slots) (hst : stk = av.reverse ++ .ref a :: st) (hcat : (st.map fun v => v.category).sum ≤ 8) (hd : decode cc pc = .ok (.invokevirtual index, 3)) : eRun E k n rm.cells rm.slots L f pc lv stk st (fun sz => eQ t X0.2.1 (zA L sz) post (Value.ref a :: av).toArray) := by
  obtain ⟨p, l, e, R, s, m, args, below, meth, c, D, cy, A, Q, ax⟩ := E
  obtain ⟨hx, hb, hml, hown, hts, hK, hA, hX, rfl, rfl⟩ := hE
  intro H locs ls hJ hl
  obtain ⟨hP, hD, hS0⟩ := id hJ
  obtain ⟨q0, hq0⟩ := z_plget (f := f) ha
  exact va_runV ⟨hx, hb, hml, hown, hts⟩ (hM H.size) ⟨callB_of av.length hts (gin hq5) rfl rfl rfl (hts _ hq4) (hts _ hq1) hy hR, hts _ hq2, hts _ hq3⟩ ⟨ePre_blind, va_recv hK.1 hP hc (q0 := q0) (by rw [← hfa]; exact hq0), fun U hU hW => ⟨rfl, by rw [hU], hK.warm hW, zXt_at hX hD hS0 hA hU hW, by rw [hU]; exact hP, zD_all hD⟩⟩ rfl rfl (hl.1.trans hml) hst (lv_room hcat) hd hk
theorem r_S (hE : zOk E X0 own cc nL R0) (hM : eM X0 t y b nb ret rm av L f post) (hq1 : Cond.methodLink own index y ∈ gtbl) (hq2 : Cond.static y ∈ gtbl) (hq4 : Cond.initialized y.cls ∈ gtbl) (hq5 : Cond.code y b nb ret ∈ gtbl) (hy : y.cls ≠ "java/lang/invoke/MethodHandle" ∧ y.cls ≠ "java/lang/invoke/VarHandle" ∧ (parseMethodDescriptor y.desc).map (fun d => d.parameters.length) = some av.length) (hR : rm.frames + 1 ≤ R0.frames ∧ 8 + (nb + 11) + rm.locals ≤ R0.locals) (hk : k + rm.cells ≤ R0.cells ∧ n + rm.slots ≤ R0.slots) (hst : stk = av.reverse ++ st) (hcat : (st.map fun v => v.category).sum ≤ 8) (hd : decode cc pc = .ok (.invokestatic index, 3)) : eRun E k n rm.cells rm.slots L f pc lv stk st (fun sz => eQ t X0.2.1 (zA L sz) post av.toArray) := by
  obtain ⟨p, l, e, R, s, m, args, below, meth, c, D, cy, A, Q, ax⟩ := E
  obtain ⟨hx, hb, hml, hown, hts, hK, hA, hX, rfl, rfl⟩ := hE
  intro H locs ls hJ hl
  obtain ⟨hP, hD, hS0⟩ := id hJ
  exact va_runS ⟨hx, hb, hml, hown, hts⟩ (hM H.size) ⟨callB_of av.length hts (gin hq5) rfl rfl rfl (hts _ hq4) (hts _ hq1) hy hR, hts _ hq2⟩ ⟨ePre_blind, fun U hU hW => ⟨rfl, by rw [hU], hK.warm hW, zXt_at hX hD hS0 hA hU hW, by rw [hU]; exact hP, zD_all hD⟩⟩ rfl rfl (hl.1.trans hml) hst (lv_room hcat) hd hk
theorem r_SN (hE : zOk E X0 own cc nL R0) (hM : eM X0 t y b nb ret rm av L f post) (hq1 : (own, index, y) ∈ znests) (hq2 : Cond.static y ∈ gtbl) (hq4 : Cond.initialized y.cls ∈ gtbl) (hq5 : Cond.code y b nb ret ∈ gtbl) (hy : y.cls ≠ "java/lang/invoke/MethodHandle" ∧ y.cls ≠ "java/lang/invoke/VarHandle" ∧ (parseMethodDescriptor y.desc).map (fun d => d.parameters.length) = some av.length) (hR : rm.frames + 1 ≤ R0.frames ∧ 8 + (nb + 11) + rm.locals ≤ R0.locals) (hk : k + rm.cells ≤ R0.cells ∧ n + rm.slots ≤ R0.slots) (hst : stk = av.reverse ++ st) (hcat : (st.map fun v => v.category).sum ≤ 8) (hd : decode cc pc = .ok (.invokestatic index, 3)) : eRun E k n rm.cells rm.slots L f pc lv stk st (fun sz => eQ t X0.2.1 (zA L sz) post av.toArray) := by
  obtain ⟨p, l, e, R, s, m, args, below, meth, c, D, cy, A, Q, ax⟩ := E
  obtain ⟨hx, hb, hml, hown, hts, hK, hA, hX, rfl, rfl⟩ := hE
  intro H locs ls hJ hl
  obtain ⟨hP, hD, hS0⟩ := id hJ
  exact va_runSN ⟨hx, hb, hml, hown, hts⟩ (hM H.size) ⟨va_cnB av.length hts (gin hq5) rfl rfl rfl (hK.2.1 _ hq1) (hts _ hq4) hy hR, hts _ hq2, trivial⟩ ⟨ePre_blind, fun U hU hW => ⟨rfl, by rw [hU], hK.warm hW, zXt_at hX hD hS0 hA hU hW, by rw [hU]; exact hP, zD_all hD⟩⟩ rfl rfl (hl.1.trans hml) hst (lv_room hcat) hd hk
theorem r_I (hE : zOk E X0 own cc nL R0) (hM : eM X0 t y b nb none rm (.ref a :: av) L f post) (hq1 : Cond.methodLink own index y ∈ gtbl) (hq2 : Cond.instanceMethod y ∈ gtbl) (hq4 : Cond.initialized y.cls ∈ gtbl) (hq5 : Cond.code y b nb none ∈ gtbl) (hi : y.name = "<init>") (hy : y.cls ≠ "java/lang/invoke/MethodHandle" ∧ y.cls ≠ "java/lang/invoke/VarHandle" ∧ (parseMethodDescriptor y.desc).map (fun d => d.parameters.length) = some av.length) (hR : rm.frames + 1 ≤ R0.frames ∧ 8 + (nb + 11) + rm.locals ≤ R0.locals) (hk : k + rm.cells ≤ R0.cells ∧ n + rm.slots ≤ R0.slots) (hst : stk = av.reverse ++ .ref a :: st) (hcat : (st.map fun v => v.category).sum ≤ 8) (hd : decode cc pc = .ok (.invokespecial index, 3)) : eRun E k n rm.cells rm.slots L f pc lv stk st (fun sz => eQ t X0.2.1 (zA L sz) post (Value.ref a :: av).toArray) := by
  obtain ⟨p, l, e, R, s, m, args, below, meth, c, D, cy, A, Q, ax⟩ := E
  obtain ⟨hx, hb, hml, hown, hts, hK, hA, hX, rfl, rfl⟩ := hE
  intro H locs ls hJ hl
  obtain ⟨hP, hD, hS0⟩ := id hJ
  exact va_runI ⟨hx, hb, hml, hown, hts⟩ (hM H.size) ⟨callB_of av.length hts (gin hq5) rfl rfl rfl (hts _ hq4) (hts _ hq1) hy hR, hi, hts _ hq2⟩ ⟨ePre_blind, fun U hU hW => ⟨rfl, by rw [hU], hK.warm hW, zXt_at hX hD hS0 hA hU hW, by rw [hU]; exact hP, zD_all hD⟩⟩ rfl rfl (hl.1.trans hml) hst (lv_room hcat) hd hk
theorem r_IN (hE : zOk E X0 own cc nL R0) (hM : eM X0 t y b nb none rm (.ref a :: av) L f post) (hq1 : (own, index, y) ∈ znests) (hq2 : Cond.instanceMethod y ∈ gtbl) (hq4 : Cond.initialized y.cls ∈ gtbl) (hq5 : Cond.code y b nb none ∈ gtbl) (hi : y.name = "<init>") (hy : y.cls ≠ "java/lang/invoke/MethodHandle" ∧ y.cls ≠ "java/lang/invoke/VarHandle" ∧ (parseMethodDescriptor y.desc).map (fun d => d.parameters.length) = some av.length) (hR : rm.frames + 1 ≤ R0.frames ∧ 8 + (nb + 11) + rm.locals ≤ R0.locals) (hk : k + rm.cells ≤ R0.cells ∧ n + rm.slots ≤ R0.slots) (hst : stk = av.reverse ++ .ref a :: st) (hcat : (st.map fun v => v.category).sum ≤ 8) (hd : decode cc pc = .ok (.invokespecial index, 3)) : eRun E k n rm.cells rm.slots L f pc lv stk st (fun sz => eQ t X0.2.1 (zA L sz) post (Value.ref a :: av).toArray) := by
  obtain ⟨p, l, e, R, s, m, args, below, meth, c, D, cy, A, Q, ax⟩ := E
  obtain ⟨hx, hb, hml, hown, hts, hK, hA, hX, rfl, rfl⟩ := hE
  intro H locs ls hJ hl
  obtain ⟨hP, hD, hS0⟩ := id hJ
  exact va_runIN ⟨hx, hb, hml, hown, hts⟩ (hM H.size) ⟨va_cnB av.length hts (gin hq5) rfl rfl rfl (hK.2.1 _ hq1) (hts _ hq4) hy hR, hi, hts _ hq2⟩ ⟨ePre_blind, fun U hU hW => ⟨rfl, by rw [hU], hK.warm hW, zXt_at hX hD hS0 hA hU hW, by rw [hU]; exact hP, zD_all hD⟩⟩ rfl rfl (hl.1.trans hml) hst (lv_room hcat) hd hk
variable {mc ms : Nat} {aa : Array Value}
def ePush (r : Option Value) (st : List Value) : List Value := match r with
  | some v => v :: st
  | none => st
/-- how what comes back looks by its tag -/
def eTag (t : Nat) (r : Option Value) : Prop := match t with
  | 0 => ∃ x, r = some (.int x)
  | 1 => ∃ x, r = some (.long x)
  | 2 => ∃ a, r = some (.ref a)
  | 3 => r = none
  | _ => ∃ a, r = some (va_rf a)
theorem c_all (hE : zOk E X0 own cc nL R0) (hr : eRun E k n mc ms L f pc lv stk st (fun sz => eQ t X0.2.1 (zA L sz) post aa)) (kk : ∀ (r : Option Value) (L' : List Nat) (f' : Nat → va_E), eTag t r → post r (L', f') → eW E (k + mc) (n + ms) L' f' (pc + 3) lv (ePush r st)) : eW E k n L f pc lv stk := by
  obtain ⟨p, l, e, R, s, m, args, below, meth, c, D, cy, A, Q, ax⟩ := E
  obtain ⟨hx, hb, hml, hown, hts, hK, hA, hX, rfl, rfl⟩ := hE
  intro H locs ls hJ hl
  obtain ⟨hP, hD, hS0⟩ := id hJ
  have hr1 := hr H locs ls hJ hl
  match t with
  | 0 =>
    refine va_calli (a := aa) (post := fun r u => post (some (.int r)) u) hr1 hS0 (fun q _ h => zA_sub hD hS0 hA q h) (fun q h => zA_sub hD hS0 hA q h) (fun r u t H1 locs1 ht hvm hw hB hz1 hk1 hS1 => ?_)
    exact kk _ u.1 u.2 ⟨r, rfl⟩ hw H1 locs1 ls ⟨by rw [← ht]; exact hB.1, hB.2.weaken (fun _ _ _ h => zA_sub hD hS0 hA _ h), hS1⟩ hl
  | 1 =>
    refine va_calll (a := aa) (post := fun r u => post (some (.long r)) u) hr1 hS0 (fun q _ h => zA_sub hD hS0 hA q h) (fun q h => zA_sub hD hS0 hA q h) (fun r u t H1 locs1 ht hvm hw hB hz1 hk1 hS1 => ?_)
    exact kk _ u.1 u.2 ⟨r, rfl⟩ hw H1 locs1 ls ⟨by rw [← ht]; exact hB.1, hB.2.weaken (fun _ _ _ h => zA_sub hD hS0 hA _ h), hS1⟩ hl
  | 2 =>
    refine va_callr (a := aa) (post := fun u : Nat × eS => post (some (.ref u.1)) u.2) hr1 hS0 (fun q _ h => zA_sub hD hS0 hA q h) (fun q h => zA_sub hD hS0 hA q h) (fun u ra t H1 locs1 ht hvm hw hB hz1 hk1 hS1 => ?_)
    obtain ⟨rfl, hB1, hB2⟩ := hB
    exact kk _ u.2.1 u.2.2 ⟨u.1, rfl⟩ hw H1 locs1 ls ⟨by rw [← ht]; exact hB1, hB2.weaken (fun _ _ _ h => zA_sub hD hS0 hA _ h), hS1⟩ hl
  | 3 =>
    refine va_callv (a := aa) (post := fun u => post none u) hr1 hS0 (fun q _ h => zA_sub hD hS0 hA q h) (fun q h => zA_sub hD hS0 hA q h) (fun u t H1 locs1 ht hvm hw hB hz1 hk1 hS1 => ?_)
    exact kk _ u.1 u.2 rfl hw H1 locs1 ls ⟨by rw [← ht]; exact hB.1, hB.2.weaken (fun _ _ _ h => zA_sub hD hS0 hA _ h), hS1⟩ hl
  | t + 4 =>
    refine va_callq (a := aa) (post := fun r u => post (some (va_rf r)) u) hr1 hS0 (fun q _ h => zA_sub hD hS0 hA q h) (fun q h => zA_sub hD hS0 hA q h) (fun r u t H1 locs1 ht hvm hw hB hz1 hk1 hS1 => ?_)
    exact kk _ u.1 u.2 ⟨r, rfl⟩ hw H1 locs1 ls ⟨by rw [← ht]; exact hB.1, hB.2.weaken (fun _ _ _ h => zA_sub hD hS0 hA _ h), hS1⟩ hl
theorem x_objinit (hE : zOk E X0 own cc nL R0) (hq : Cond.methodLink own index objectInit ∈ gtbl) (hq2 : Cond.instanceMethod objectInit ∈ gtbl) (hq3 : Cond.code objectInit ⟨#[0xb1]⟩ 1 none ∈ gtbl) (hd : decode cc pc = .ok (.invokespecial index, 3)) (h1 : 1 ≤ R0.frames) (h2 : (st.map fun v => v.category).sum + 12 ≤ R0.locals) (kk : eW E k n L f (pc + 3) lv st) : eW E k n L f pc lv (.ref a :: st) := by
  obtain ⟨p, l, e, R, s, m, args, below, meth, c, D, cy, A, Q, ax⟩ := E
  obtain ⟨hx, hb, hml, hown, hts, hK, hA, hX, rfl, rfl⟩ := hE
  intro H locs ls hJ hl
  refine W.objInit hx hb hown (hts _ hq) (hts _ hq2) (hts _ hq3) rfl hl.1 rfl hd h1 (by simpa [JFrame.monitorRoom] using h2) (kk H locs ls hJ hl)
end ZC
section ZC2
variable {E : zCx} {l0 : Launch} {D0 : va_G} {cy0 : Nat → ClassId} {ax0 : zAx} {own : String} {cc : ByteArray} {nL : Nat} {R0 : Room} {k n : Nat} {L : List Nat} {f : Nat → va_E} {pc index a : Nat} {lv : List (Nat × Value)} {st : List Value}
theorem h_copy {a0 N0 N1 : Nat} {g0 g1 : Nat → Int32} {sp dp z : Int32} (hE : zOk E (l0, D0, cy0, ax0) own cc nL R0) (hq1 : Cond.methodLink own index arraycopyName ∈ gtbl) (hq2 : Cond.native arraycopyName ∈ gtbl) (hq3 : Cond.static arraycopyName ∈ gtbl) (hq4 : Cond.initialized "java/lang/System" ∈ gtbl) (ha0 : a0 ∈ L) (hf0 : f a0 = zIA cy0 N0 g0) (ha : a ∈ L) (hfa : f a = zIA cy0 N1 g1) (h1 : ¬ sp < 0) (h2 : ¬ dp < 0) (h3 : ¬ z < 0) (h4 : sp.toNatClampNeg + z.toNatClampNeg ≤ N0) (h5 : dp.toNatClampNeg + z.toNatClampNeg ≤ N1) (hf1 : 1 ≤ R0.frames) (hf2 : (st.map fun v => v.category).sum + (nativeFrameWords "java/lang/System" "arraycopy" 5 + 11) ≤ R0.locals) (hd : decode cc pc = .ok (.invokestatic index, 3)) (kk : eW E k n L (va_up f a (zIA cy0 N1 (va_cpy g0 g1 sp.toNatClampNeg dp.toNatClampNeg z.toNatClampNeg))) (pc + 3) lv st) : eW E k n L f pc lv (.int z :: .int dp :: .ref a :: .int sp :: .ref a0 :: st) := by
  obtain ⟨p, l, e, R, s, m, args, below, meth, c, D, cy, A, Q, ax⟩ := E
  obtain ⟨hx, hb, hml, hown, hts, hK, hA, hX, rfl, hh⟩ := hE
  cases hh
  intro H locs ls hJ hl
  obtain ⟨hP, hD, hS0⟩ := id hJ
  obtain ⟨q1, hq1'⟩ := z_plget (f := f) ha
  obtain ⟨q0, hq0'⟩ := z_plget (f := f) ha0
  have h9 := z_plset (e := .inl (cy0 0, N1, .inl (va_cpy g0 g1 sp.toNatClampNeg dp.toNatClampNeg z.toNatClampNeg))) hD ha hq1'
  exact va_copyi hx hb hl.1.symm hown (hts _ hq1) (hts _ hq2) (hts _ hq3) (hts _ hq4) hK.1 hP hD hS0 q0 q1 0 0 (by rw [hf0] at hq0'; exact hq0') (by rw [hfa] at hq1'; exact hq1') rfl rfl rfl h1 h2 h3 h4 h5 (fun _ _ => rfl) hf1 hf2 hd (fun H1 locs1 hP1 hD1 hS1 => kk H1 locs1 ls ⟨h9 ▸ hP1, h9 ▸ hD1, hS1⟩ hl)
end ZC2
