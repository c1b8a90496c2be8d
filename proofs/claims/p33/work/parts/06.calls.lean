/-! Contracts over pools, and calls. -/
def zrm (d mc ms : Nat) : Room := { frames := d, cells := mc, slots := ms, locals := 60 * d }
def zA (L : List Nat) (sz : Nat) : Nat → Prop := fun q => q ∈ L ∨ sz ≤ q
abbrev zS : Type := List Nat × (Nat → va_E) × (Nat → Nat → Nat → Int32) × (Nat → Nat → Int32)
def zPre (D : va_G) (cy : Nat → ClassId) (av : List Value) (sz : Nat) (L : List Nat) (σ : Nat → va_E) (φ : Nat → Nat → Nat → Int32) (ρ : Nat → Nat → Int32) : Array Value → State → Prop := va_Pc av (fun U => U.heap.size = sz ∧ zK D cy U ∧ ∃ f, zPic L σ φ ρ f ∧ va_P D vwCl (va_pl L f) U.heap ∧ va_D (fun _ => True) (va_pl L f))
def zB (D : va_G) (A : Nat → Prop) (u : zS) (t : State) : Prop := ∃ f, zPic u.1 u.2.1 u.2.2.1 u.2.2.2 f ∧ va_P D vwCl (va_pl u.1 f) t.heap ∧ va_D A (va_pl u.1 f)
def zMI (l : Launch) (D : va_G) (cy : Nat → ClassId) (y : MethodName) (cc : ByteArray) (nL : Nat) (ret : FieldType) (rm : Room) (av : List Value) (L : List Nat) (σ : Nat → va_E) (φ : Nat → Nat → Nat → Int32) (ρ : Nat → Nat → Int32) (post : Int32 → zS → Prop) : Prop := ∀ sz, Met l y (Cond.code y cc nL (some ret) :: gtbl) rm (zPre D cy av sz L σ φ ρ) (va_Qi post (zB D (zA L sz)) (zA L sz)) rm.cells rm.slots (zA L sz)
def zMV (l : Launch) (D : va_G) (cy : Nat → ClassId) (y : MethodName) (cc : ByteArray) (nL : Nat) (rm : Room) (av : List Value) (L : List Nat) (σ : Nat → va_E) (φ : Nat → Nat → Nat → Int32) (ρ : Nat → Nat → Int32) (post : zS → Prop) : Prop := ∀ sz, Met l y (Cond.code y cc nL none :: gtbl) rm (zPre D cy av sz L σ φ ρ) (va_Qv post (zB D (zA L sz)) (zA L sz)) rm.cells rm.slots (zA L sz)
def zML (l : Launch) (D : va_G) (cy : Nat → ClassId) (y : MethodName) (cc : ByteArray) (nL : Nat) (rm : Room) (av : List Value) (L : List Nat) (σ : Nat → va_E) (φ : Nat → Nat → Nat → Int32) (ρ : Nat → Nat → Int32) (post : Int64 → zS → Prop) : Prop := ∀ sz, Met l y (Cond.code y cc nL (some .long) :: gtbl) rm (zPre D cy av sz L σ φ ρ) (va_Ql post (zB D (zA L sz)) (zA L sz)) rm.cells rm.slots (zA L sz)
def zMR (l : Launch) (D : va_G) (cy : Nat → ClassId) (y : MethodName) (cc : ByteArray) (nL : Nat) (ret : FieldType) (rm : Room) (av : List Value) (L : List Nat) (σ : Nat → va_E) (φ : Nat → Nat → Nat → Int32) (ρ : Nat → Nat → Int32) (post : Nat → zS → Prop) : Prop := ∀ sz, Met l y (Cond.code y cc nL (some ret) :: gtbl) rm (zPre D cy av sz L σ φ ρ) (va_Qr (fun u : Nat × zS => post u.1 u.2) (fun u a t => u.1 = a ∧ zB D (zA L sz) u.2 t) (zA L sz)) rm.cells rm.slots (zA L sz)
def zRI (E : zCx) (cc : ByteArray) (ret : FieldType) (rm : Room) (post : Int32 → zS → Prop) : Prop := ∀ (k n : Nat) (L : List Nat) (σ : Nat → va_E) (φ : Nat → Nat → Nat → Int32) (ρ : Nat → Nat → Int32) (pc : Nat) (lv : List (Nat × Value)) (v : Int32), k ≤ rm.cells → n ≤ rm.slots → decode cc pc = .ok (.ireturn, 1) → narrow ret (.int v) = .int v → post v (L, σ, φ, ρ) → zW E k n L σ φ ρ pc lv [.int v]
def zRL (E : zCx) (cc : ByteArray) (rm : Room) (post : Int64 → zS → Prop) : Prop := ∀ (k n : Nat) (L : List Nat) (σ : Nat → va_E) (φ : Nat → Nat → Nat → Int32) (ρ : Nat → Nat → Int32) (pc : Nat) (lv : List (Nat × Value)) (v : Int64), k ≤ rm.cells → n ≤ rm.slots → decode cc pc = .ok (.lreturn, 1) → post v (L, σ, φ, ρ) → zW E k n L σ φ ρ pc lv [.long v]
def zRV (E : zCx) (cc : ByteArray) (rm : Room) (post : zS → Prop) : Prop := ∀ (k n : Nat) (L : List Nat) (σ : Nat → va_E) (φ : Nat → Nat → Nat → Int32) (ρ : Nat → Nat → Int32) (pc : Nat) (lv : List (Nat × Value)), k ≤ rm.cells → n ≤ rm.slots → decode cc pc = .ok (.return_, 1) → post (L, σ, φ, ρ) → zW E k n L σ φ ρ pc lv []
def zRR (E : zCx) (cc : ByteArray) (rm : Room) (post : Nat → zS → Prop) : Prop := ∀ (k n : Nat) (L : List Nat) (σ : Nat → va_E) (φ : Nat → Nat → Nat → Int32) (ρ : Nat → Nat → Int32) (pc : Nat) (lv : List (Nat × Value)) (v : Nat), k ≤ rm.cells → n ≤ rm.slots → decode cc pc = .ok (.areturn, 1) → post v (L, σ, φ, ρ) → zW E k n L σ φ ρ pc lv [.ref v]
section ZM
variable {l : Launch} {D : va_G} {cy : Nat → ClassId} {y : MethodName} {cc : ByteArray} {nL : Nat} {ret : FieldType} {rm : Room} {av : List Value} {L : List Nat} {σ : Nat → va_E} {φ : Nat → Nat → Nat → Int32} {ρ : Nat → Nat → Int32}
theorem zD_self {f : Nat → va_E} {sz : Nat} (h : va_D (fun _ => True) (va_pl L f)) : va_D (zA L sz) (va_pl L f) := by
  refine ⟨h.1, fun k q hk => Or.inl ?_⟩
  have h2 := List.mem_of_getElem? hk
  obtain ⟨a, ha, rfl⟩ := List.mem_map.mp h2
  exact ha
theorem zMI.mk {post : Int32 → zS → Prop} (hy : plainName y.cls = true) (hlen : (lg_sl av).length ≤ nL) (body : ∀ E : zCx, zOk E l D cy y.cls cc nL rm → zRI E cc ret rm post → zW E 0 0 L σ φ ρ 0 (lv_args 0 av) []) : zMI l D cy y cc nL ret rm av L σ φ ρ post := by
  intro sz
  refine Met.ofW (cc := cc) (maxL := nL) (ret := some ret) hy rfl ?_
  intro p e s m args below meth c s₁ B hml hv
  obtain ⟨rfl, rfl, hK, f, hf, hP, hD⟩ := hv
  have hx := B.exec
  have hb := B.bytes
  have hr := B.returns
  have hts := atoms_spec (ws := Cond.code y cc nL (some ret) :: gtbl) B.pre
  have hlocks := B.notSynchronized
  have hl := lv_entry av (n := nL) hlen
  rw [lg_entry_eq]
  refine body (p, l, e, rm, s, m, av.toArray, below, meth, c, D, cy, zA L s.heap.size, MQ below (va_Qi post (zB D (zA L s.heap.size)) (zA L s.heap.size)) av.toArray s rm.cells rm.slots (zA L s.heap.size)) ⟨hx, hb, hml, findClass_of_methodNamed B.named, fun w hw => hts w (List.mem_cons_of_mem _ hw), hK, fun q h => Or.inr h, rfl, rfl, rfl, rfl⟩ ?_ s.heap [] _ ⟨f, hf, hP, zD_self hD, va_S.rf⟩ (by rw [hml]; exact hl)
  intro k n L' σ' φ' ρ' pc lv v hk hn hd hnar hpost H locs ls hJ hl
  obtain ⟨f', hf', hP', hD', hS'⟩ := hJ
  refine W.widen hk hn ?_
  exact W.zret hx hb hr hnar (fun t ht hW => ⟨⟨v, (L', σ', φ', ρ'), rfl, hpost, f', hf', by rw [ht]; exact hP', hD'⟩, hS'.F ht⟩) hS'.2.2 hd
theorem zML.mk {post : Int64 → zS → Prop} (hy : plainName y.cls = true) (hlen : (lg_sl av).length ≤ nL) (body : ∀ E : zCx, zOk E l D cy y.cls cc nL rm → zRL E cc rm post → zW E 0 0 L σ φ ρ 0 (lv_args 0 av) []) : zML l D cy y cc nL rm av L σ φ ρ post := by
  intro sz
  refine Met.ofW (cc := cc) (maxL := nL) (ret := some .long) hy rfl ?_
  intro p e s m args below meth c s₁ B hml hv
  obtain ⟨rfl, rfl, hK, f, hf, hP, hD⟩ := hv
  have hx := B.exec
  have hb := B.bytes
  have hr := B.returns
  have hts := atoms_spec (ws := Cond.code y cc nL (some .long) :: gtbl) B.pre
  have hlocks := B.notSynchronized
  have hl := lv_entry av (n := nL) hlen
  rw [lg_entry_eq]
  refine body (p, l, e, rm, s, m, av.toArray, below, meth, c, D, cy, zA L s.heap.size, MQ below (va_Ql post (zB D (zA L s.heap.size)) (zA L s.heap.size)) av.toArray s rm.cells rm.slots (zA L s.heap.size)) ⟨hx, hb, hml, findClass_of_methodNamed B.named, fun w hw => hts w (List.mem_cons_of_mem _ hw), hK, fun q h => Or.inr h, rfl, rfl, rfl, rfl⟩ ?_ s.heap [] _ ⟨f, hf, hP, zD_self hD, va_S.rf⟩ (by rw [hml]; exact hl)
  intro k n L' σ' φ' ρ' pc lv v hk hn hd hpost H locs ls hJ hl
  obtain ⟨f', hf', hP', hD', hS'⟩ := hJ
  refine W.widen hk hn ?_
  exact W.lret hx hb hr (fun t ht hW => ⟨⟨v, (L', σ', φ', ρ'), rfl, hpost, f', hf', by rw [ht]; exact hP', hD'⟩, hS'.F ht⟩) hS'.2.2 hd
theorem zMV.mk {post : zS → Prop} (hy : plainName y.cls = true) (hlen : (lg_sl av).length ≤ nL) (body : ∀ E : zCx, zOk E l D cy y.cls cc nL rm → (y.name = "<init>" → zIn E) → zRV E cc rm post → zW E 0 0 L σ φ ρ 0 (lv_args 0 av) []) : zMV l D cy y cc nL rm av L σ φ ρ post := by
  intro sz
  refine Met.ofW (cc := cc) (maxL := nL) (ret := none) hy rfl ?_
  intro p e s m args below meth c s₁ B hml hv
  obtain ⟨rfl, rfl, hK, f, hf, hP, hD⟩ := hv
  have hx := B.exec
  have hb := B.bytes
  have hr := B.returns
  have hts := atoms_spec (ws := Cond.code y cc nL none :: gtbl) B.pre
  have hlocks := B.notSynchronized
  have hin : meth.name = y.name := (name_of_methodNamed B.named B.method).1
  have hl := lv_entry av (n := nL) hlen
  rw [lg_entry_eq]
  refine body (p, l, e, rm, s, m, av.toArray, below, meth, c, D, cy, zA L s.heap.size, MQ below (va_Qv post (zB D (zA L s.heap.size)) (zA L s.heap.size)) av.toArray s rm.cells rm.slots (zA L s.heap.size)) ⟨hx, hb, hml, findClass_of_methodNamed B.named, fun w hw => hts w (List.mem_cons_of_mem _ hw), hK, fun q h => Or.inr h, rfl, rfl, rfl, rfl⟩ (fun h => hin.trans h) ?_ s.heap [] _ ⟨f, hf, hP, zD_self hD, va_S.rf⟩ (by rw [hml]; exact hl)
  intro k n L' σ' φ' ρ' pc lv hk hn hd hpost H locs ls hJ hl
  obtain ⟨f', hf', hP', hD', hS'⟩ := hJ
  refine W.widen hk hn ?_
  exact W.vret hx hb hr (fun t ht hW => ⟨⟨(L', σ', φ', ρ'), rfl, hpost, f', hf', by rw [ht]; exact hP', hD'⟩, hS'.F ht⟩) hS'.2.2 hd
theorem zMR.mk {post : Nat → zS → Prop} (hy : plainName y.cls = true) (hlen : (lg_sl av).length ≤ nL) (hrt : (∃ n, ret = .object n) ∨ ∃ t, ret = .array t) (body : ∀ E : zCx, zOk E l D cy y.cls cc nL rm → zRR E cc rm post → zW E 0 0 L σ φ ρ 0 (lv_args 0 av) []) : zMR l D cy y cc nL ret rm av L σ φ ρ post := by
  intro sz
  refine Met.ofW (cc := cc) (maxL := nL) (ret := some ret) hy rfl ?_
  intro p e s m args below meth c s₁ B hml hv
  obtain ⟨rfl, rfl, hK, f, hf, hP, hD⟩ := hv
  have hx := B.exec
  have hb := B.bytes
  have hr := B.returns
  have hts := atoms_spec (ws := Cond.code y cc nL (some ret) :: gtbl) B.pre
  have hlocks := B.notSynchronized
  have hl := lv_entry av (n := nL) hlen
  rw [lg_entry_eq]
  refine body (p, l, e, rm, s, m, av.toArray, below, meth, c, D, cy, zA L s.heap.size, MQ below (va_Qr (fun u : Nat × zS => post u.1 u.2) (fun u a t => u.1 = a ∧ zB D (zA L s.heap.size) u.2 t) (zA L s.heap.size)) av.toArray s rm.cells rm.slots (zA L s.heap.size)) ⟨hx, hb, hml, findClass_of_methodNamed B.named, fun w hw => hts w (List.mem_cons_of_mem _ hw), hK, fun q h => Or.inr h, rfl, rfl, rfl, rfl⟩ ?_ s.heap [] _ ⟨f, hf, hP, zD_self hD, va_S.rf⟩ (by rw [hml]; exact hl)
  intro k n L' σ' φ' ρ' pc lv v hk hn hd hpost H locs ls hJ hl
  obtain ⟨f', hf', hP', hD', hS'⟩ := hJ
  refine W.widen hk hn ?_
  exact W.aret hx hb hr hrt (Or.inr ⟨v, rfl⟩) (fun t ht hW => ⟨⟨(v, (L', σ', φ', ρ')), v, rfl, hpost, rfl, f', hf', by rw [ht]; exact hP', hD'⟩, hS'.F ht⟩) hS'.2.2 hd
end ZM
def zRun (E : zCx) (k n mc ms : Nat) (L : List Nat) (σ : Nat → va_E) (φ : Nat → Nat → Nat → Int32) (ρ : Nat → Nat → Int32) (pc : Nat) (lv : List (Nat × Value)) (stk st : List Value) (Qc : Nat → State → Outcome → State → Prop) : Prop := match E with
  | (p, l, e, R, s, m, args, below, meth, c, D, _, A, _) => ∀ (H : Heap) (locs : List Loc) (ls : Array Slot), zJ D A s.heap L σ φ ρ H locs → lv_has ls c.maxLocals lv → va_Run p l e R s m args below meth c H locs k n mc ms (F0 m pc ls stk) st (Qc H.size) (zA L H.size)
section ZC
variable {E : zCx} {l0 : Launch} {D0 : va_G} {cy0 : Nat → ClassId} {own : String} {cc : ByteArray} {nL : Nat} {R0 : Room} {k n : Nat} {L : List Nat} {σ : Nat → va_E} {φ : Nat → Nat → Nat → Int32} {ρ : Nat → Nat → Int32} {pc : Nat} {lv : List (Nat × Value)} {st stk : List Value}
variable {y : MethodName} {b : ByteArray} {nb index a : Nat} {ret : Option FieldType} {rm : Room} {av : List Value} {Qc : Nat → Array Value → State → Outcome → State → Prop}
theorem zPre_blind {sz : Nat} : FrameBlind (zPre D0 cy0 av sz L σ φ ρ) := by
  intro a U g mk h
  obtain ⟨h1, h2, ⟨k1, k2, k3, k4⟩, h4⟩ := h
  exact ⟨h1, h2, ⟨va_K.moved (u := U) (U := U.calling g mk a) (Vm.Alike.refl U.vm) k1, fun q hq => va_Nw.same rfl (u := U) (U := U.calling g mk a) rfl (k2 q hq), va_AO.moved (u := U) (U := U.calling g mk a) (Vm.Alike.refl U.vm) k3, va_AO.moved (u := U) (U := U.calling g mk a) (Vm.Alike.refl U.vm) k4⟩, h4⟩
theorem zD_all {A : Nat → Prop} {f : Nat → va_E} (h : va_D A (va_pl L f)) : va_D (fun _ => True) (va_pl L f) := h.weaken (fun _ _ _ _ => trivial)
theorem zA_sub {A : Nat → Prop} {f : Nat → va_E} {H0 H : Heap} {locs : List Loc} (hD : va_D A (va_pl L f)) (hS : va_S A H0 H locs) (hA : ∀ q, H0.size ≤ q → A q) (q : Nat) (h : zA L H.size q) : A q := by
  rcases h with h | h
  · obtain ⟨k, hk⟩ := z_plget (f := f) h
    exact hD.2 k _ hk
  · exact hA q (Nat.le_trans hS.1 h)
theorem r_V {ci N : Nat} {S : List Value} {C : String} {T : u_T} (hE : zOk E l0 D0 cy0 own cc nL R0) (hM : ∀ sz, Met l0 y (Cond.code y b nb ret :: gtbl) rm (zPre D0 cy0 (.ref a :: av) sz L σ φ ρ) (Qc sz) rm.cells rm.slots (zA L sz)) (hq1 : Cond.methodLink own index y ∈ gtbl) (hq2 : Cond.instanceMethod y ∈ gtbl) (hq3 : Cond.selects C y y ∈ gtbl) (hq4 : Cond.initialized y.cls ∈ gtbl) (hq5 : Cond.code y b nb ret ∈ gtbl) (ha : zT L σ a (.inr (ci, S))) (hc : vwCl[ci]? = some (C, T, N)) (hy : y.cls ≠ "java/lang/invoke/MethodHandle" ∧ y.cls ≠ "java/lang/invoke/VarHandle" ∧ (parseMethodDescriptor y.desc).map (fun d => d.parameters.length) = some av.length) (hR : rm.frames + 1 ≤ R0.frames ∧ 8 + (nb + 11) + rm.locals ≤ R0.locals) (hk : k + rm.cells ≤ R0.cells ∧ n + rm.slots ≤ R0.slots) (hst : stk = av.reverse ++ .ref a :: st) (hcat : (st.map fun v => v.category).sum ≤ 8) (hd : decode cc pc = .ok (.invokevirtual index, 3)) : zRun E k n rm.cells rm.slots L σ φ ρ pc lv stk st (fun sz => Qc sz (Value.ref a :: av).toArray) := by
  obtain ⟨p, l, e, R, s, m, args, below, meth, c, D, cy, A, Q⟩ := E
  obtain ⟨hx, hb, hml, hown, hts, hK, hA, rfl, rfl, rfl, rfl⟩ := hE
  intro H locs ls hJ hl
  obtain ⟨f, hf, hP, hD, hS0⟩ := id hJ
  obtain ⟨fs, e1, -⟩ := zsh_inr ((hf a ha.1).1.trans ha.2)
  obtain ⟨q0, hq0⟩ := z_plget (f := f) ha.1
  exact va_runV ⟨hx, hb, hml, hown, hts⟩ (hM H.size) ⟨callB_of av.length hts (gin hq5) rfl rfl rfl (hts _ hq4) (hts _ hq1) hy hR, hts _ hq2, hts _ hq3⟩ ⟨zPre_blind, va_recv hK.1 hP hc (q0 := q0) (by rw [← e1]; exact hq0), fun U hU hW => ⟨rfl, by rw [hU], hK.warm hW, f, hf, by rw [hU]; exact hP, zD_all hD⟩⟩ rfl rfl (hl.1.trans hml) hst (lv_room hcat) hd hk
theorem r_S (hE : zOk E l0 D0 cy0 own cc nL R0) (hM : ∀ sz, Met l0 y (Cond.code y b nb ret :: gtbl) rm (zPre D0 cy0 av sz L σ φ ρ) (Qc sz) rm.cells rm.slots (zA L sz)) (hq1 : Cond.methodLink own index y ∈ gtbl) (hq2 : Cond.static y ∈ gtbl) (hq4 : Cond.initialized y.cls ∈ gtbl) (hq5 : Cond.code y b nb ret ∈ gtbl) (hy : y.cls ≠ "java/lang/invoke/MethodHandle" ∧ y.cls ≠ "java/lang/invoke/VarHandle" ∧ (parseMethodDescriptor y.desc).map (fun d => d.parameters.length) = some av.length) (hR : rm.frames + 1 ≤ R0.frames ∧ 8 + (nb + 11) + rm.locals ≤ R0.locals) (hk : k + rm.cells ≤ R0.cells ∧ n + rm.slots ≤ R0.slots) (hst : stk = av.reverse ++ st) (hcat : (st.map fun v => v.category).sum ≤ 8) (hd : decode cc pc = .ok (.invokestatic index, 3)) : zRun E k n rm.cells rm.slots L σ φ ρ pc lv stk st (fun sz => Qc sz av.toArray) := by
  obtain ⟨p, l, e, R, s, m, args, below, meth, c, D, cy, A, Q⟩ := E
  obtain ⟨hx, hb, hml, hown, hts, hK, hA, rfl, rfl, rfl, rfl⟩ := hE
  intro H locs ls hJ hl
  obtain ⟨f, hf, hP, hD, hS0⟩ := id hJ
  exact va_runS ⟨hx, hb, hml, hown, hts⟩ (hM H.size) ⟨callB_of av.length hts (gin hq5) rfl rfl rfl (hts _ hq4) (hts _ hq1) hy hR, hts _ hq2⟩ ⟨zPre_blind, fun U hU hW => ⟨rfl, by rw [hU], hK.warm hW, f, hf, by rw [hU]; exact hP, zD_all hD⟩⟩ rfl rfl (hl.1.trans hml) hst (lv_room hcat) hd hk
theorem r_SN (hE : zOk E l0 D0 cy0 own cc nL R0) (hM : ∀ sz, Met l0 y (Cond.code y b nb ret :: gtbl) rm (zPre D0 cy0 av sz L σ φ ρ) (Qc sz) rm.cells rm.slots (zA L sz)) (hq1 : (own, index, y) ∈ znests) (hq2 : Cond.static y ∈ gtbl) (hq4 : Cond.initialized y.cls ∈ gtbl) (hq5 : Cond.code y b nb ret ∈ gtbl) (hy : y.cls ≠ "java/lang/invoke/MethodHandle" ∧ y.cls ≠ "java/lang/invoke/VarHandle" ∧ (parseMethodDescriptor y.desc).map (fun d => d.parameters.length) = some av.length) (hR : rm.frames + 1 ≤ R0.frames ∧ 8 + (nb + 11) + rm.locals ≤ R0.locals) (hk : k + rm.cells ≤ R0.cells ∧ n + rm.slots ≤ R0.slots) (hst : stk = av.reverse ++ st) (hcat : (st.map fun v => v.category).sum ≤ 8) (hd : decode cc pc = .ok (.invokestatic index, 3)) : zRun E k n rm.cells rm.slots L σ φ ρ pc lv stk st (fun sz => Qc sz av.toArray) := by
  obtain ⟨p, l, e, R, s, m, args, below, meth, c, D, cy, A, Q⟩ := E
  obtain ⟨hx, hb, hml, hown, hts, hK, hA, rfl, rfl, rfl, rfl⟩ := hE
  intro H locs ls hJ hl
  obtain ⟨f, hf, hP, hD, hS0⟩ := id hJ
  exact va_runSN ⟨hx, hb, hml, hown, hts⟩ (hM H.size) ⟨va_cnB av.length hts (gin hq5) rfl rfl rfl (hK.2.1 _ hq1) (hts _ hq4) hy hR, hts _ hq2, trivial⟩ ⟨zPre_blind, fun U hU hW => ⟨rfl, by rw [hU], hK.warm hW, f, hf, by rw [hU]; exact hP, zD_all hD⟩⟩ rfl rfl (hl.1.trans hml) hst (lv_room hcat) hd hk
theorem r_I (hE : zOk E l0 D0 cy0 own cc nL R0) (hM : ∀ sz, Met l0 y (Cond.code y b nb none :: gtbl) rm (zPre D0 cy0 (.ref a :: av) sz L σ φ ρ) (Qc sz) rm.cells rm.slots (zA L sz)) (hq1 : Cond.methodLink own index y ∈ gtbl) (hq2 : Cond.instanceMethod y ∈ gtbl) (hq4 : Cond.initialized y.cls ∈ gtbl) (hq5 : Cond.code y b nb none ∈ gtbl) (hi : y.name = "<init>") (hy : y.cls ≠ "java/lang/invoke/MethodHandle" ∧ y.cls ≠ "java/lang/invoke/VarHandle" ∧ (parseMethodDescriptor y.desc).map (fun d => d.parameters.length) = some av.length) (hR : rm.frames + 1 ≤ R0.frames ∧ 8 + (nb + 11) + rm.locals ≤ R0.locals) (hk : k + rm.cells ≤ R0.cells ∧ n + rm.slots ≤ R0.slots) (hst : stk = av.reverse ++ .ref a :: st) (hcat : (st.map fun v => v.category).sum ≤ 8) (hd : decode cc pc = .ok (.invokespecial index, 3)) : zRun E k n rm.cells rm.slots L σ φ ρ pc lv stk st (fun sz => Qc sz (Value.ref a :: av).toArray) := by
  obtain ⟨p, l, e, R, s, m, args, below, meth, c, D, cy, A, Q⟩ := E
  obtain ⟨hx, hb, hml, hown, hts, hK, hA, rfl, rfl, rfl, rfl⟩ := hE
  intro H locs ls hJ hl
  obtain ⟨f, hf, hP, hD, hS0⟩ := id hJ
  exact va_runI ⟨hx, hb, hml, hown, hts⟩ (hM H.size) ⟨callB_of av.length hts (gin hq5) rfl rfl rfl (hts _ hq4) (hts _ hq1) hy hR, hi, hts _ hq2⟩ ⟨zPre_blind, fun U hU hW => ⟨rfl, by rw [hU], hK.warm hW, f, hf, by rw [hU]; exact hP, zD_all hD⟩⟩ rfl rfl (hl.1.trans hml) hst (lv_room hcat) hd hk
theorem r_IN (hE : zOk E l0 D0 cy0 own cc nL R0) (hM : ∀ sz, Met l0 y (Cond.code y b nb none :: gtbl) rm (zPre D0 cy0 (.ref a :: av) sz L σ φ ρ) (Qc sz) rm.cells rm.slots (zA L sz)) (hq1 : (own, index, y) ∈ znests) (hq2 : Cond.instanceMethod y ∈ gtbl) (hq4 : Cond.initialized y.cls ∈ gtbl) (hq5 : Cond.code y b nb none ∈ gtbl) (hi : y.name = "<init>") (hy : y.cls ≠ "java/lang/invoke/MethodHandle" ∧ y.cls ≠ "java/lang/invoke/VarHandle" ∧ (parseMethodDescriptor y.desc).map (fun d => d.parameters.length) = some av.length) (hR : rm.frames + 1 ≤ R0.frames ∧ 8 + (nb + 11) + rm.locals ≤ R0.locals) (hk : k + rm.cells ≤ R0.cells ∧ n + rm.slots ≤ R0.slots) (hst : stk = av.reverse ++ .ref a :: st) (hcat : (st.map fun v => v.category).sum ≤ 8) (hd : decode cc pc = .ok (.invokespecial index, 3)) : zRun E k n rm.cells rm.slots L σ φ ρ pc lv stk st (fun sz => Qc sz (Value.ref a :: av).toArray) := by
  obtain ⟨p, l, e, R, s, m, args, below, meth, c, D, cy, A, Q⟩ := E
  obtain ⟨hx, hb, hml, hown, hts, hK, hA, rfl, rfl, rfl, rfl⟩ := hE
  intro H locs ls hJ hl
  obtain ⟨f, hf, hP, hD, hS0⟩ := id hJ
  exact va_runIN ⟨hx, hb, hml, hown, hts⟩ (hM H.size) ⟨va_cnB av.length hts (gin hq5) rfl rfl rfl (hK.2.1 _ hq1) (hts _ hq4) hy hR, hi, hts _ hq2⟩ ⟨zPre_blind, fun U hU hW => ⟨rfl, by rw [hU], hK.warm hW, f, hf, by rw [hU]; exact hP, zD_all hD⟩⟩ rfl rfl (hl.1.trans hml) hst (lv_room hcat) hd hk
variable {mc ms : Nat} {aa : Array Value}
theorem c_i {post : Int32 → zS → Prop} (hE : zOk E l0 D0 cy0 own cc nL R0) (hr : zRun E k n mc ms L σ φ ρ pc lv stk st (fun sz => va_Qi post (zB D0 (zA L sz)) (zA L sz) aa)) (kk : ∀ (r : Int32) (L' : List Nat) (σ' : Nat → va_E) (φ' : Nat → Nat → Nat → Int32) (ρ' : Nat → Nat → Int32), post r (L', σ', φ', ρ') → zW E (k + mc) (n + ms) L' σ' φ' ρ' (pc + 3) lv (.int r :: st)) : zW E k n L σ φ ρ pc lv stk := by
  obtain ⟨p, l, e, R, s, m, args, below, meth, c, D, cy, A, Q⟩ := E
  obtain ⟨hx, hb, hml, hown, hts, hK, hA, rfl, rfl, rfl, rfl⟩ := hE
  intro H locs ls hJ hl
  obtain ⟨f, hf, hP, hD, hS0⟩ := id hJ
  refine va_calli (hr H locs ls hJ hl) hS0 (fun q _ h => zA_sub hD hS0 hA q h) (fun q h => zA_sub hD hS0 hA q h) (fun r u t H1 locs1 ht hvm hw hB hz1 hk1 hS1 => ?_)
  obtain ⟨f1, hf1, hP1, hD1⟩ := hB
  exact kk r u.1 u.2.1 u.2.2.1 u.2.2.2 hw H1 locs1 ls ⟨f1, hf1, by rw [← ht]; exact hP1, hD1.weaken (fun _ _ _ h => zA_sub hD hS0 hA _ h), hS1⟩ hl
theorem c_l {post : Int64 → zS → Prop} (hE : zOk E l0 D0 cy0 own cc nL R0) (hr : zRun E k n mc ms L σ φ ρ pc lv stk st (fun sz => va_Ql post (zB D0 (zA L sz)) (zA L sz) aa)) (kk : ∀ (r : Int64) (L' : List Nat) (σ' : Nat → va_E) (φ' : Nat → Nat → Nat → Int32) (ρ' : Nat → Nat → Int32), post r (L', σ', φ', ρ') → zW E (k + mc) (n + ms) L' σ' φ' ρ' (pc + 3) lv (.long r :: st)) : zW E k n L σ φ ρ pc lv stk := by
  obtain ⟨p, l, e, R, s, m, args, below, meth, c, D, cy, A, Q⟩ := E
  obtain ⟨hx, hb, hml, hown, hts, hK, hA, rfl, rfl, rfl, rfl⟩ := hE
  intro H locs ls hJ hl
  obtain ⟨f, hf, hP, hD, hS0⟩ := id hJ
  refine va_calll (hr H locs ls hJ hl) hS0 (fun q _ h => zA_sub hD hS0 hA q h) (fun q h => zA_sub hD hS0 hA q h) (fun r u t H1 locs1 ht hvm hw hB hz1 hk1 hS1 => ?_)
  obtain ⟨f1, hf1, hP1, hD1⟩ := hB
  exact kk r u.1 u.2.1 u.2.2.1 u.2.2.2 hw H1 locs1 ls ⟨f1, hf1, by rw [← ht]; exact hP1, hD1.weaken (fun _ _ _ h => zA_sub hD hS0 hA _ h), hS1⟩ hl
theorem c_v {post : zS → Prop} (hE : zOk E l0 D0 cy0 own cc nL R0) (hr : zRun E k n mc ms L σ φ ρ pc lv stk st (fun sz => va_Qv post (zB D0 (zA L sz)) (zA L sz) aa)) (kk : ∀ (L' : List Nat) (σ' : Nat → va_E) (φ' : Nat → Nat → Nat → Int32) (ρ' : Nat → Nat → Int32), post (L', σ', φ', ρ') → zW E (k + mc) (n + ms) L' σ' φ' ρ' (pc + 3) lv st) : zW E k n L σ φ ρ pc lv stk := by
  obtain ⟨p, l, e, R, s, m, args, below, meth, c, D, cy, A, Q⟩ := E
  obtain ⟨hx, hb, hml, hown, hts, hK, hA, rfl, rfl, rfl, rfl⟩ := hE
  intro H locs ls hJ hl
  obtain ⟨f, hf, hP, hD, hS0⟩ := id hJ
  refine va_callv (hr H locs ls hJ hl) hS0 (fun q _ h => zA_sub hD hS0 hA q h) (fun q h => zA_sub hD hS0 hA q h) (fun u t H1 locs1 ht hvm hw hB hz1 hk1 hS1 => ?_)
  obtain ⟨f1, hf1, hP1, hD1⟩ := hB
  exact kk u.1 u.2.1 u.2.2.1 u.2.2.2 hw H1 locs1 ls ⟨f1, hf1, by rw [← ht]; exact hP1, hD1.weaken (fun _ _ _ h => zA_sub hD hS0 hA _ h), hS1⟩ hl
theorem c_r {post : Nat → zS → Prop} (hE : zOk E l0 D0 cy0 own cc nL R0) (hr : zRun E k n mc ms L σ φ ρ pc lv stk st (fun sz => va_Qr (fun u : Nat × zS => post u.1 u.2) (fun u a t => u.1 = a ∧ zB D0 (zA L sz) u.2 t) (zA L sz) aa)) (kk : ∀ (r : Nat) (L' : List Nat) (σ' : Nat → va_E) (φ' : Nat → Nat → Nat → Int32) (ρ' : Nat → Nat → Int32), post r (L', σ', φ', ρ') → zW E (k + mc) (n + ms) L' σ' φ' ρ' (pc + 3) lv (.ref r :: st)) : zW E k n L σ φ ρ pc lv stk := by
  obtain ⟨p, l, e, R, s, m, args, below, meth, c, D, cy, A, Q⟩ := E
  obtain ⟨hx, hb, hml, hown, hts, hK, hA, rfl, rfl, rfl, rfl⟩ := hE
  intro H locs ls hJ hl
  obtain ⟨f, hf, hP, hD, hS0⟩ := id hJ
  refine va_callr (hr H locs ls hJ hl) hS0 (fun q _ h => zA_sub hD hS0 hA q h) (fun q h => zA_sub hD hS0 hA q h) (fun u ra t H1 locs1 ht hvm hw hB hz1 hk1 hS1 => ?_)
  obtain ⟨rfl, f1, hf1, hP1, hD1⟩ := hB
  exact kk u.1 u.2.1 u.2.2.1 u.2.2.2.1 u.2.2.2.2 hw H1 locs1 ls ⟨f1, hf1, by rw [← ht]; exact hP1, hD1.weaken (fun _ _ _ h => zA_sub hD hS0 hA _ h), hS1⟩ hl
/-- what answers and changes nothing -/
abbrev zpu (L : List Nat) (σ : Nat → va_E) (φ : Nat → Nat → Nat → Int32) (ρ : Nat → Nat → Int32) (P : Int32 → Prop) : Int32 → zS → Prop := fun r u => u = (L, σ, φ, ρ) ∧ P r
/-- what leaves shapes as they are -/
abbrev zsa (L : List Nat) (σ : Nat → va_E) (P : Int32 → (Nat → Nat → Nat → Int32) → (Nat → Nat → Int32) → Prop) : Int32 → zS → Prop := fun r u => u.1 = L ∧ u.2.1 = σ ∧ P r u.2.2.1 u.2.2.2
abbrev zsv (L : List Nat) (σ : Nat → va_E) (P : (Nat → Nat → Nat → Int32) → (Nat → Nat → Int32) → Prop) : zS → Prop := fun u => u.1 = L ∧ u.2.1 = σ ∧ P u.2.2.1 u.2.2.2
abbrev zsr (L : List Nat) (σ : Nat → va_E) (P : Nat → (Nat → Nat → Nat → Int32) → (Nat → Nat → Int32) → Prop) : Nat → zS → Prop := fun r u => u.1 = L ∧ u.2.1 = σ ∧ P r u.2.2.1 u.2.2.2
theorem c_ip {P : Int32 → Prop} (hE : zOk E l0 D0 cy0 own cc nL R0) (hr : zRun E k n mc ms L σ φ ρ pc lv stk st (fun sz => va_Qi (zpu L σ φ ρ P) (zB D0 (zA L sz)) (zA L sz) aa)) (kk : ∀ r : Int32, P r → zW E (k + mc) (n + ms) L σ φ ρ (pc + 3) lv (.int r :: st)) : zW E k n L σ φ ρ pc lv stk := by
  refine c_i hE hr (fun r L' σ' φ' ρ' h => ?_)
  obtain ⟨h1, h2⟩ := h
  cases h1
  exact kk r h2
theorem c_is {P : Int32 → (Nat → Nat → Nat → Int32) → (Nat → Nat → Int32) → Prop} (hE : zOk E l0 D0 cy0 own cc nL R0) (hr : zRun E k n mc ms L σ φ ρ pc lv stk st (fun sz => va_Qi (zsa L σ P) (zB D0 (zA L sz)) (zA L sz) aa)) (kk : ∀ (r : Int32) (φ' : Nat → Nat → Nat → Int32) (ρ' : Nat → Nat → Int32), P r φ' ρ' → zW E (k + mc) (n + ms) L σ φ' ρ' (pc + 3) lv (.int r :: st)) : zW E k n L σ φ ρ pc lv stk := by
  refine c_i hE hr (fun r L' σ' φ' ρ' h => ?_)
  obtain ⟨h1, h2, h3⟩ := h
  dsimp only at h1 h2 h3
  subst h1 h2
  exact kk r φ' ρ' h3
theorem c_vs {P : (Nat → Nat → Nat → Int32) → (Nat → Nat → Int32) → Prop} (hE : zOk E l0 D0 cy0 own cc nL R0) (hr : zRun E k n mc ms L σ φ ρ pc lv stk st (fun sz => va_Qv (zsv L σ P) (zB D0 (zA L sz)) (zA L sz) aa)) (kk : ∀ (φ' : Nat → Nat → Nat → Int32) (ρ' : Nat → Nat → Int32), P φ' ρ' → zW E (k + mc) (n + ms) L σ φ' ρ' (pc + 3) lv st) : zW E k n L σ φ ρ pc lv stk := by
  refine c_v hE hr (fun L' σ' φ' ρ' h => ?_)
  obtain ⟨h1, h2, h3⟩ := h
  dsimp only at h1 h2 h3
  subst h1 h2
  exact kk φ' ρ' h3
theorem c_rs {P : Nat → (Nat → Nat → Nat → Int32) → (Nat → Nat → Int32) → Prop} (hE : zOk E l0 D0 cy0 own cc nL R0) (hr : zRun E k n mc ms L σ φ ρ pc lv stk st (fun sz => va_Qr (fun u : Nat × zS => zsr L σ P u.1 u.2) (fun u a t => u.1 = a ∧ zB D0 (zA L sz) u.2 t) (zA L sz) aa)) (kk : ∀ (r : Nat) (φ' : Nat → Nat → Nat → Int32) (ρ' : Nat → Nat → Int32), P r φ' ρ' → zW E (k + mc) (n + ms) L σ φ' ρ' (pc + 3) lv (.ref r :: st)) : zW E k n L σ φ ρ pc lv stk := by
  refine c_r (post := zsr L σ P) hE hr (fun r L' σ' φ' ρ' h => ?_)
  obtain ⟨h1, h2, h3⟩ := h
  dsimp only at h1 h2 h3
  subst h1 h2
  exact kk r φ' ρ' h3
theorem x_objinit (hE : zOk E l0 D0 cy0 own cc nL R0) (hq : Cond.methodLink own index objectInit ∈ gtbl) (hq2 : Cond.instanceMethod objectInit ∈ gtbl) (hq3 : Cond.code objectInit ⟨#[0xb1]⟩ 1 none ∈ gtbl) (hd : decode cc pc = .ok (.invokespecial index, 3)) (h1 : 1 ≤ R0.frames) (h2 : (st.map fun v => v.category).sum + 12 ≤ R0.locals) (kk : zW E k n L σ φ ρ (pc + 3) lv st) : zW E k n L σ φ ρ pc lv (.ref a :: st) := by
  obtain ⟨p, l, e, R, s, m, args, below, meth, c, D, cy, A, Q⟩ := E
  obtain ⟨hx, hb, hml, hown, hts, hK, hA, rfl, rfl, rfl, rfl⟩ := hE
  intro H locs ls hJ hl
  refine W.objInit hx hb hown (hts _ hq) (hts _ hq2) (hts _ hq3) rfl hl.1 rfl hd h1 (by simpa [JFrame.monitorRoom] using h2) (kk H locs ls hJ hl)
theorem x_min {x z : Int32} (hE : zOk E l0 D0 cy0 own cc nL R0) (hq1 : Cond.methodLink own index Lib.Math.min.name ∈ gtbl) (hq2 : Cond.static Lib.Math.min.name ∈ gtbl) (hq3 : Cond.initialized "java/lang/Math" ∈ gtbl) (hq4 : Cond.code Lib.Math.min.name Lib.Math.min.code 2 (some .int) ∈ gtbl) (h1 : 1 ≤ R0.frames) (h2 : (st.map fun v => v.category).sum + 13 ≤ R0.locals) (h3 : k ≤ R0.cells) (h4 : n ≤ R0.slots) (hd : decode cc pc = .ok (.invokestatic index, 3)) (kk : zW E k n L σ φ ρ (pc + 3) lv (.int (if z < x then z else x) :: st)) : zW E k n L σ φ ρ pc lv (.int z :: .int x :: st) := by
  obtain ⟨p, l, e, R, s, m, args, below, meth, c, D, cy, A, Q⟩ := E
  obtain ⟨hx, hb, hml, hown, hts, hK, hA, rfl, rfl, rfl, rfl⟩ := hE
  intro H locs ls hJ hl
  exact va_mmin hx hb hl.1.symm hown (hts _ hq1) (hts _ hq2) (hts _ hq3) (hts _ hq4) h1 h2 h3 h4 hd (kk H locs ls hJ hl)
theorem x_max {x z : Int32} (hE : zOk E l0 D0 cy0 own cc nL R0) (hq1 : Cond.methodLink own index Lib.Math.max.name ∈ gtbl) (hq2 : Cond.static Lib.Math.max.name ∈ gtbl) (hq3 : Cond.initialized "java/lang/Math" ∈ gtbl) (hq4 : Cond.code Lib.Math.max.name Lib.Math.max.code 2 (some .int) ∈ gtbl) (h1 : 1 ≤ R0.frames) (h2 : (st.map fun v => v.category).sum + 13 ≤ R0.locals) (h3 : k ≤ R0.cells) (h4 : n ≤ R0.slots) (hd : decode cc pc = .ok (.invokestatic index, 3)) (kk : zW E k n L σ φ ρ (pc + 3) lv (.int (if x < z then z else x) :: st)) : zW E k n L σ φ ρ pc lv (.int z :: .int x :: st) := by
  obtain ⟨p, l, e, R, s, m, args, below, meth, c, D, cy, A, Q⟩ := E
  obtain ⟨hx, hb, hml, hown, hts, hK, hA, rfl, rfl, rfl, rfl⟩ := hE
  intro H locs ls hJ hl
  exact va_mmax hx hb hl.1.symm hown (hts _ hq1) (hts _ hq2) (hts _ hq3) (hts _ hq4) h1 h2 h3 h4 hd (kk H locs ls hJ hl)
theorem h_copy {a0 N0 N1 : Nat} {sp dp z : Int32} (hE : zOk E l0 D0 cy0 own cc nL R0) (hq1 : Cond.methodLink own index arraycopyName ∈ gtbl) (hq2 : Cond.native arraycopyName ∈ gtbl) (hq3 : Cond.static arraycopyName ∈ gtbl) (hq4 : Cond.initialized "java/lang/System" ∈ gtbl) (ha0 : zT L σ a0 (zIA cy0 N0)) (ha : zT L σ a (zIA cy0 N1)) (h1 : ¬ sp < 0) (h2 : ¬ dp < 0) (h3 : ¬ z < 0) (h4 : sp.toNatClampNeg + z.toNatClampNeg ≤ N0) (h5 : dp.toNatClampNeg + z.toNatClampNeg ≤ N1) (hf1 : 1 ≤ R0.frames) (hf2 : (st.map fun v => v.category).sum + (nativeFrameWords "java/lang/System" "arraycopy" 5 + 11) ≤ R0.locals) (hd : decode cc pc = .ok (.invokestatic index, 3)) (kk : zW E k n L σ φ (va_up ρ a (va_cpy (ρ a0) (ρ a) sp.toNatClampNeg dp.toNatClampNeg z.toNatClampNeg)) (pc + 3) lv st) : zW E k n L σ φ ρ pc lv (.int z :: .int dp :: .ref a :: .int sp :: .ref a0 :: st) := by
  obtain ⟨p, l, e, R, s, m, args, below, meth, c, D, cy, A, Q⟩ := E
  obtain ⟨hx, hb, hml, hown, hts, hK, hA, rfl, rfl, rfl, rfl⟩ := hE
  intro H locs ls hJ hl
  obtain ⟨f, hf, hP, hD, hS0⟩ := id hJ
  obtain ⟨g1, -, g3⟩ := hf a ha.1
  have e1 := zsh_ia (g1.trans ha.2)
  rw [g3] at e1
  obtain ⟨g4, -, g5⟩ := hf a0 ha0.1
  have e2 := zsh_ia (g4.trans ha0.2)
  rw [g5] at e2
  obtain ⟨q1, hq1'⟩ := z_plget (f := f) ha.1
  obtain ⟨q0, hq0'⟩ := z_plget (f := f) ha0.1
  have h9 := z_plset (e := .inl (cy 0, N1, .inl (va_cpy (ρ a0) (ρ a) sp.toNatClampNeg dp.toNatClampNeg z.toNatClampNeg))) hD ha.1 hq1'
  exact va_copyi hx hb hl.1.symm hown (hts _ hq1) (hts _ hq2) (hts _ hq3) (hts _ hq4) hK.1 hP hD hS0 q0 q1 0 0 (by rw [← e2]; exact hq0') (by rw [← e1]; exact hq1') rfl rfl rfl h1 h2 h3 h4 h5 (fun _ _ => rfl) hf1 hf2 hd (fun H1 locs1 hP1 hD1 hS1 => kk H1 locs1 ls ⟨_, z_row hf ha, h9 ▸ hP1, h9 ▸ hD1, hS1⟩ hl)
end ZC
