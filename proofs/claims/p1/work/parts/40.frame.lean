/-! The law's own rows: the script, and calls with a part of the pool. -/
theorem z_Pm {D : va_G} {ws : va_W} {H : Heap} : va_P D vwCl ws H ↔ ∀ q ∈ ws, va_at D vwCl q H := by
  constructor
  · intro h q hq
    obtain ⟨k, hk⟩ := List.getElem?_of_mem hq
    exact h k q hk
  · intro h k q hk
    exact h q (List.mem_of_getElem? hk)
theorem z_Dm {A : Nat → Prop} {L : List Nat} {f : Nat → va_E} : va_D A (va_pl L f) ↔ L.Nodup ∧ ∀ a ∈ L, A a := by
  constructor
  · intro h
    refine ⟨?_, fun a ha => ?_⟩
    · rw [List.nodup_iff_pairwise_ne, List.pairwise_iff_getElem]
      intro i j hi hj hij e
      have h1 : (va_pl L f)[i]? = some (L[i], f L[i]) := by simp [va_pl, hi]
      have h2 : (va_pl L f)[j]? = some (L[j], f L[j]) := by simp [va_pl, hj]
      have := h.1 i j _ _ h1 h2 e
      omega
    · obtain ⟨k, hk⟩ := z_plget (f := f) ha
      exact h.2 k _ hk
  · intro h
    refine ⟨fun i j p q hi hj e => ?_, fun k q hk => ?_⟩
    · simp only [va_pl, List.getElem?_map, Option.map_eq_some_iff] at hi hj
      obtain ⟨a, ha, rfl⟩ := hi
      obtain ⟨b, hb, rfl⟩ := hj
      have e' : a = b := e
      subst e'
      obtain ⟨hi', ha'⟩ := List.getElem?_eq_some_iff.mp ha
      exact (List.getElem?_inj hi' h.1).mp (ha.trans hb.symm)
    · have h2 := List.mem_of_getElem? hk
      obtain ⟨a, ha, rfl⟩ := List.mem_map.mp h2
      exact h.2 a ha
theorem z_plm {L : List Nat} {f : Nat → va_E} {q : Nat × va_E} : q ∈ va_pl L f ↔ ∃ a ∈ L, (a, f a) = q := List.mem_map
def zSc (E : zCx) (b N : Nat) (xs : Nat → Int32) : Prop := match E with
  | (_, _, _, _, s, _, _, _, _, _, _, _, A, _) => va_X b N xs s s.heap ∧ b < s.heap.size ∧ ¬ A b
section ZS
variable {E : zCx} {l0 : Launch} {D0 : va_G} {cy0 : Nat → ClassId} {own : String} {cc : ByteArray} {nL : Nat} {R0 : Room} {k n : Nat} {L : List Nat} {σ : Nat → va_E} {φ : Nat → Nat → Nat → Int32} {ρ : Nat → Nat → Int32} {pc : Nat} {lv : List (Nat × Value)} {st stk : List Value} {b N : Nat} {xs : Nat → Int32}
theorem s_ld {i : Int32} {iN : Nat} (hE : zOk E l0 D0 cy0 own cc nL R0) (hs : zSc E b N xs) (hi : i.toNatClampNeg = iN) (h0 : ¬ i < 0) (hlt : iN < N) (hd : decode cc pc = .ok (.iaload, 1)) (kk : zW E k n L σ φ ρ (pc + 1) lv (.int (xs iN) :: st)) : zW E k n L σ φ ρ pc lv (.int i :: .ref b :: st) := by
  obtain ⟨p, l, e, R, s, m, args, below, meth, c, D, cy, A, Q⟩ := E
  obtain ⟨hx, hb, hml, hown, hts, hK, hA, rfl, rfl, rfl, rfl⟩ := hE
  intro H locs ls hJ hl
  obtain ⟨f, hf, hP, hD, hS0⟩ := id hJ
  refine va_sld hx hb hs.1 hs.2.1 hs.2.2 hS0 (z_in hi h0 hlt) hd ?_
  rw [hi]
  exact kk H locs ls hJ hl
theorem s_len (hE : zOk E l0 D0 cy0 own cc nL R0) (hs : zSc E b N xs) (hd : decode cc pc = .ok (.arraylength, 1)) (kk : zW E k n L σ φ ρ (pc + 1) lv (.int (nI N) :: st)) : zW E k n L σ φ ρ pc lv (.ref b :: st) := by
  obtain ⟨p, l, e, R, s, m, args, below, meth, c, D, cy, A, Q⟩ := E
  obtain ⟨hx, hb, hml, hown, hts, hK, hA, rfl, rfl, rfl, rfl⟩ := hE
  intro H locs ls hJ hl
  obtain ⟨f, hf, hP, hD, hS0⟩ := id hJ
  exact va_slen hx hb hs.1 hs.2.1 hs.2.2 hS0 hd (kk H locs ls hJ hl)
theorem x_lcmp {x y : Int64} (hE : zOk E l0 D0 cy0 own cc nL R0) (hd : decode cc pc = .ok (.lcmp, 1)) (kk : zW E k n L σ φ ρ (pc + 1) lv (.int (lg_cmp x y) :: st)) : zW E k n L σ φ ρ pc lv (.long y :: .long x :: st) := by
  obtain ⟨p, l, e, R, s, m, args, below, meth, c, D, cy, A, Q⟩ := E
  obtain ⟨hx, hb, hml, hown, hts, hK, hA, rfl, rfl, rfl, rfl⟩ := hE
  intro H locs ls hJ hl
  exact W.lcmp hx hb hd (kk H locs ls hJ hl)
end ZS
section ZF2
variable {E : zCx} {l0 : Launch} {D0 : va_G} {cy0 : Nat → ClassId} {own : String} {cc : ByteArray} {nL : Nat} {R0 : Room} {k n : Nat} {La Lb : List Nat} {σ : Nat → va_E} {φ : Nat → Nat → Nat → Int32} {ρ : Nat → Nat → Int32} {pc : Nat} {lv : List (Nat × Value)} {st stk : List Value}
variable {y : MethodName} {b : ByteArray} {nb index a : Nat} {ret : Option FieldType} {rm : Room} {av : List Value} {Qc : Nat → Array Value → State → Outcome → State → Prop}
def zRunA (E : zCx) (k n mc ms : Nat) (La Lb : List Nat) (σ : Nat → va_E) (φ : Nat → Nat → Nat → Int32) (ρ : Nat → Nat → Int32) (pc : Nat) (lv : List (Nat × Value)) (stk st : List Value) (Qc : Nat → State → Outcome → State → Prop) : Prop := match E with
  | (p, l, e, R, s, m, args, below, meth, c, D, _, A, _) => ∀ (H : Heap) (locs : List Loc) (ls : Array Slot), zJ D A s.heap (La ++ Lb) σ φ ρ H locs → lv_has ls c.maxLocals lv → va_Run p l e R s m args below meth c H locs k n mc ms (F0 m pc ls stk) st (Qc H.size) (zA La H.size)
theorem zP_left {D : va_G} {f : Nat → va_E} {H : Heap} (h : va_P D vwCl (va_pl (La ++ Lb) f) H) : va_P D vwCl (va_pl La f) H := z_Pm.mpr (fun q hq => by
  obtain ⟨x, hx, rfl⟩ := z_plm.mp hq
  exact z_Pm.mp h _ (z_plm.mpr ⟨x, List.mem_append_left _ hx, rfl⟩))
theorem zP_right {D : va_G} {f : Nat → va_E} {H : Heap} (h : va_P D vwCl (va_pl (La ++ Lb) f) H) : va_P D vwCl (va_pl Lb f) H := z_Pm.mpr (fun q hq => by
  obtain ⟨x, hx, rfl⟩ := z_plm.mp hq
  exact z_Pm.mp h _ (z_plm.mpr ⟨x, List.mem_append_right _ hx, rfl⟩))
theorem zPic_left {f : Nat → va_E} (h : zPic (La ++ Lb) σ φ ρ f) : zPic La σ φ ρ f := fun x hx => h x (List.mem_append_left _ hx)
theorem zPic_right {f : Nat → va_E} (h : zPic (La ++ Lb) σ φ ρ f) : zPic Lb σ φ ρ f := fun x hx => h x (List.mem_append_right _ hx)
theorem zD_left {A : Nat → Prop} {f : Nat → va_E} (h : va_D A (va_pl (La ++ Lb) f)) : va_D A (va_pl La f) := z_Dm.mpr ⟨(List.nodup_append.mp (z_Dm.mp h).1).1, fun x hx => (z_Dm.mp h).2 x (List.mem_append_left _ hx)⟩
theorem zD_right {A : Nat → Prop} {f : Nat → va_E} (h : va_D A (va_pl (La ++ Lb) f)) : va_D A (va_pl Lb f) := z_Dm.mpr ⟨(List.nodup_append.mp (z_Dm.mp h).1).2.1, fun x hx => (z_Dm.mp h).2 x (List.mem_append_right _ hx)⟩
theorem r_VA {ci N : Nat} {S : List Value} {C : String} {T : u_T} (hE : zOk E l0 D0 cy0 own cc nL R0) (hM : ∀ sz, Met l0 y (Cond.code y b nb ret :: gtbl) rm (zPre D0 cy0 (.ref a :: av) sz La σ φ ρ) (Qc sz) rm.cells rm.slots (zA La sz)) (hq1 : Cond.methodLink own index y ∈ gtbl) (hq2 : Cond.instanceMethod y ∈ gtbl) (hq3 : Cond.selects C y y ∈ gtbl) (hq4 : Cond.initialized y.cls ∈ gtbl) (hq5 : Cond.code y b nb ret ∈ gtbl) (ha : zT La σ a (.inr (ci, S))) (hc : vwCl[ci]? = some (C, T, N)) (hy : y.cls ≠ "java/lang/invoke/MethodHandle" ∧ y.cls ≠ "java/lang/invoke/VarHandle" ∧ (parseMethodDescriptor y.desc).map (fun d => d.parameters.length) = some av.length) (hR : rm.frames + 1 ≤ R0.frames ∧ 8 + (nb + 11) + rm.locals ≤ R0.locals) (hk : k + rm.cells ≤ R0.cells ∧ n + rm.slots ≤ R0.slots) (hst : stk = av.reverse ++ .ref a :: st) (hcat : (st.map fun v => v.category).sum ≤ 8) (hd : decode cc pc = .ok (.invokevirtual index, 3)) : zRunA E k n rm.cells rm.slots La Lb σ φ ρ pc lv stk st (fun sz => Qc sz (Value.ref a :: av).toArray) := by
  obtain ⟨p, l, e, R, s, m, args, below, meth, c, D, cy, A, Q⟩ := E
  obtain ⟨hx, hb, hml, hown, hts, hK, hA, rfl, rfl, rfl, rfl⟩ := hE
  intro H locs ls hJ hl
  obtain ⟨f, hf, hP, hD, hS0⟩ := id hJ
  obtain ⟨fs, e1, -⟩ := zsh_inr ((zPic_left hf a ha.1).1.trans ha.2)
  obtain ⟨q0, hq0⟩ := z_plget (f := f) ha.1
  exact va_runV ⟨hx, hb, hml, hown, hts⟩ (hM H.size) ⟨callB_of av.length hts (gin hq5) rfl rfl rfl (hts _ hq4) (hts _ hq1) hy hR, hts _ hq2, hts _ hq3⟩ ⟨zPre_blind, va_recv hK.1 (zP_left hP) hc (q0 := q0) (by rw [← e1]; exact hq0), fun U hU hW => ⟨rfl, by rw [hU], hK.warm hW, f, zPic_left hf, by rw [hU]; exact zP_left hP, zD_all (zD_left hD)⟩⟩ rfl rfl (hl.1.trans hml) hst (lv_room hcat) hd hk
variable {mc ms : Nat} {aa : Array Value}
/-- what isn't in the part that the call had stays as it was -/
theorem zKeep {D : va_G} {A : Nat → Prop} {f : Nat → va_E} {H H1 : Heap} (hP : va_P D vwCl (va_pl (La ++ Lb) f) H) (hD : va_D A (va_pl (La ++ Lb) f)) (hk1 : ∀ q : Nat, q < H.size → ¬ zA La H.size q → H1[q]? = H[q]?) : va_P D vwCl (va_pl Lb f) H1 := by
  refine (zP_right hP).kept (fun j q hj => ?_)
  have hm := List.mem_of_getElem? hj
  obtain ⟨x, hx, rfl⟩ := z_plm.mp hm
  have hlt : x < H.size := (z_Pm.mp hP _ (z_plm.mpr ⟨x, List.mem_append_right _ hx, rfl⟩)).lt
  refine hk1 x hlt (fun h => ?_)
  rcases h with h | h
  · exact (List.nodup_append.mp (z_Dm.mp hD).1).2.2 x h x hx rfl
  · omega
theorem c_iK {post : Int32 → zS → Prop} (hE : zOk E l0 D0 cy0 own cc nL R0) (hr : zRunA E k n mc ms La Lb σ φ ρ pc lv stk st (fun sz => va_Qi post (zB D0 (zA La sz)) (zA La sz) aa)) (kk : ∀ (r : Int32) (u : zS), post r u → zW E (k + mc) (n + ms) Lb σ φ ρ (pc + 3) lv (.int r :: st)) : zW E k n (La ++ Lb) σ φ ρ pc lv stk := by
  obtain ⟨p, l, e, R, s, m, args, below, meth, c, D, cy, A, Q⟩ := E
  obtain ⟨hx, hb, hml, hown, hts, hK, hA, rfl, rfl, rfl, rfl⟩ := hE
  intro H locs ls hJ hl
  obtain ⟨f, hf, hP, hD, hS0⟩ := id hJ
  refine va_calli (hr H locs ls hJ hl) hS0 (fun q _ h => zA_sub (zD_left hD) hS0 hA q h) (fun q h => zA_sub (zD_left hD) hS0 hA q h) (fun r u t H1 locs1 ht hvm hw hB hz1 hk1 hS1 => ?_)
  exact kk r u hw H1 locs1 ls ⟨f, zPic_right hf, zKeep hP hD hk1, zD_right hD, hS1⟩ hl
theorem c_lK {post : Int64 → zS → Prop} (hE : zOk E l0 D0 cy0 own cc nL R0) (hr : zRunA E k n mc ms La Lb σ φ ρ pc lv stk st (fun sz => va_Ql post (zB D0 (zA La sz)) (zA La sz) aa)) (kk : ∀ (r : Int64) (u : zS), post r u → zW E (k + mc) (n + ms) Lb σ φ ρ (pc + 3) lv (.long r :: st)) : zW E k n (La ++ Lb) σ φ ρ pc lv stk := by
  obtain ⟨p, l, e, R, s, m, args, below, meth, c, D, cy, A, Q⟩ := E
  obtain ⟨hx, hb, hml, hown, hts, hK, hA, rfl, rfl, rfl, rfl⟩ := hE
  intro H locs ls hJ hl
  obtain ⟨f, hf, hP, hD, hS0⟩ := id hJ
  refine va_calll (hr H locs ls hJ hl) hS0 (fun q _ h => zA_sub (zD_left hD) hS0 hA q h) (fun q h => zA_sub (zD_left hD) hS0 hA q h) (fun r u t H1 locs1 ht hvm hw hB hz1 hk1 hS1 => ?_)
  exact kk r u hw H1 locs1 ls ⟨f, zPic_right hf, zKeep hP hD hk1, zD_right hD, hS1⟩ hl
/-- a constructor's call with its own object alone (the pool's last): what it made comes behind the rest -/
theorem c_vF {post : zS → Prop} {q : Nat} (hE : zOk E l0 D0 cy0 own cc nL R0) (hM : ∀ sz, Met l0 y (Cond.code y b nb none :: gtbl) rm (zPre D0 cy0 (.ref q :: av) sz [q] σ φ ρ) (va_Qv post (zB D0 (zA [q] sz)) (zA [q] sz)) rm.cells rm.slots (zA [q] sz)) (hq1 : Cond.methodLink own index y ∈ gtbl) (hq2 : Cond.instanceMethod y ∈ gtbl) (hq4 : Cond.initialized y.cls ∈ gtbl) (hq5 : Cond.code y b nb none ∈ gtbl) (hi : y.name = "<init>") (hy : y.cls ≠ "java/lang/invoke/MethodHandle" ∧ y.cls ≠ "java/lang/invoke/VarHandle" ∧ (parseMethodDescriptor y.desc).map (fun d => d.parameters.length) = some av.length) (hR : rm.frames + 1 ≤ R0.frames ∧ 8 + (nb + 11) + rm.locals ≤ R0.locals) (hk : k + rm.cells ≤ R0.cells ∧ n + rm.slots ≤ R0.slots) (hst : stk = av.reverse ++ .ref q :: st) (hcat : (st.map fun v => v.category).sum ≤ 8) (hd : decode cc pc = .ok (.invokespecial index, 3))
    (kk : ∀ (Lb : List Nat) (σ1 σ' : Nat → va_E) (φ1 φ' : Nat → Nat → Nat → Int32) (ρ1 ρ' : Nat → Nat → Int32), post (Lb, σ', φ', ρ') → (∀ x ∈ La, x ∉ Lb) → (∀ x ∈ La, σ1 x = σ x ∧ (∀ c i, φ1 c i x = φ c i x) ∧ ρ1 x = ρ x) → (∀ x ∈ Lb, σ1 x = σ' x ∧ (∀ c i, φ1 c i x = φ' c i x) ∧ ρ1 x = ρ' x) → zW E (k + rm.cells) (n + rm.slots) (La ++ Lb) σ1 φ1 ρ1 (pc + 3) lv st) : zW E k n (La ++ [q]) σ φ ρ pc lv stk := by
  obtain ⟨p, l, e, R, s, m, args, below, meth, c, D, cy, A, Q⟩ := E
  obtain ⟨hx, hb, hml, hown, hts, hK, hA, rfl, rfl, rfl, rfl⟩ := hE
  intro H locs ls hJ hl
  obtain ⟨f, hf, hP, hD, hS0⟩ := id hJ
  refine va_callv (va_runI ⟨hx, hb, hml, hown, hts⟩ (hM H.size) ⟨callB_of av.length hts (gin hq5) rfl rfl rfl (hts _ hq4) (hts _ hq1) hy hR, hi, hts _ hq2⟩ ⟨zPre_blind, fun U hU hW => ⟨rfl, by rw [hU], hK.warm hW, f, zPic_right hf, by rw [hU]; exact zP_right hP, zD_all (zD_right hD)⟩⟩ rfl rfl (hl.1.trans hml) hst (lv_room hcat) hd hk) hS0 (fun q _ h => zA_sub (zD_right hD) hS0 hA q h) (fun q h => zA_sub (zD_right hD) hS0 hA q h) (fun u t H1 locs1 ht hvm hw hB hz1 hk1 hS1 => ?_)
  obtain ⟨f1, hf1, hP1, hD1⟩ := hB
  have hlt : ∀ x ∈ La, x < H.size := fun x hxL => (z_Pm.mp hP _ (z_plm.mpr ⟨x, List.mem_append_left _ hxL, rfl⟩)).lt
  have hnq : ∀ x ∈ La, ¬ zA [q] H.size x := by
    intro x hxL h
    rcases h with h | h
    · exact (List.nodup_append.mp (z_Dm.mp hD).1).2.2 x hxL x h rfl
    · have := hlt x hxL; omega
  have hdis : ∀ x ∈ La, x ∉ u.1 := fun x hxL hxu => hnq x hxL ((z_Dm.mp hD1).2 x hxu)
  generalize hg : (fun x => if x ∈ La then f x else f1 x) = f2
  have hg1 : ∀ x ∈ La, f2 x = f x := fun x hxL => by rw [← hg]; simp [hxL]
  have hg2 : ∀ x ∈ u.1, f2 x = f1 x := fun x hxu => by rw [← hg]; simp [show x ∉ La from fun h => hdis x h hxu]
  refine kk u.1 (fun x => zsh (f2 x)) u.2.1 (fun c i x => zfI (f2 x) c i) u.2.2.1 (fun x => zrI (f2 x)) u.2.2.2 hw hdis (fun x hxL => ?_) (fun x hxu => ?_) H1 locs1 ls ⟨f2, fun x _ => ⟨rfl, fun _ _ => rfl, rfl⟩, ?_, ?_, hS1⟩ hl
  · obtain ⟨a1, a2, a3⟩ := hf x (List.mem_append_left _ hxL)
    rw [hg1 x hxL]
    exact ⟨a1, a2, a3⟩
  · obtain ⟨a1, a2, a3⟩ := hf1 x hxu
    rw [hg2 x hxu]
    exact ⟨a1, a2, a3⟩
  · refine z_Pm.mpr (fun z hz => ?_)
    obtain ⟨x, hxL, rfl⟩ := z_plm.mp hz
    rcases List.mem_append.mp hxL with h | h
    · have h3 := z_Pm.mp hP _ (z_plm.mpr ⟨x, List.mem_append_left _ h, rfl⟩)
      rw [hg1 x h]
      exact h3.kept (hk1 x (hlt x h) (hnq x h))
    · rw [hg2 x h]
      have h3 := z_Pm.mp hP1 _ (z_plm.mpr ⟨x, h, rfl⟩)
      rw [ht] at h3
      exact h3
  · refine z_Dm.mpr ⟨List.nodup_append.mpr ⟨(z_Dm.mp (zD_left hD)).1, (z_Dm.mp hD1).1, fun x hx y hy e => hdis x hx (e ▸ hy)⟩, fun x hxL => ?_⟩
    rcases List.mem_append.mp hxL with h | h
    · exact (z_Dm.mp hD).2 x (List.mem_append_left _ h)
    · exact zA_sub (zD_right hD) hS0 hA x ((z_Dm.mp hD1).2 x h)
end ZF2
