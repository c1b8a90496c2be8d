theorem zOR.eq {cy : Nat → ClassId} {L : List Nat} {σ σ1 : Nat → va_E} {φ φ1 : Nat → Nat → Nat → Int32} {x : Nat} (h : zOR cy L σ φ x) (hs : ∀ b ∈ L, σ1 b = σ b ∧ ∀ c i, φ1 c i b = φ c i b) : zOR cy L σ1 φ1 x := by
  have hg : zG 99 L σ φ L σ1 φ1 := fun b hb _ => ⟨hb, (hs b hb).1, (hs b hb).2⟩
  obtain ⟨now, kept, tape, reader, weather, planner, ways, la, wo, sp, li, te, g, la', wo', sp', li', te', g', hx, hs, hs0, hk, hk0, htp, htp0, hrd, hrd0, hrd1, hwe, hwe0, hpl, hwy⟩ := h
  refine ⟨now, kept, tape, reader, weather, planner, ways, la, wo, sp, li, te, g, la', wo', sp', li', te', g', hg.T hx (z_cls (by decide)), hs.g hg (by decide) (by decide) (by decide) (by decide) (by decide), hs0.g hs hg (by decide) (by decide) (by decide) (by decide) (by decide), hk.g hg (by decide) (by decide) (by decide) (by decide) (by decide), hk0.g hk hg (by decide) (by decide) (by decide) (by decide) (by decide), htp.g hg (by decide), ?_, hrd.g hg (by decide), ?_, ?_, hwe.g hg (by decide), ?_, hpl.g hg (by decide) (by decide), hwy.g hg (by decide)⟩
  · rw [hg.o htp.at (by decide), htp0]
  · rw [hg.o ⟨_, hrd⟩ (by decide), hrd0]
  · rw [hg.o ⟨_, hrd⟩ (by decide), hrd1]
  · rw [hg.o hwe.at (by decide), hwe0]
theorem zModel.eq {cy : Nat → ClassId} {L : List Nat} {σ σ1 : Nat → va_E} {m : Nat} {r : Nat → Nat} (h : zModel cy L σ m r) (hs : ∀ b ∈ L, σ1 b = σ b) : zModel cy L σ1 m r := by
  have t : ∀ b e, zT L σ b e → zT L σ1 b e := fun b e hb => ⟨hb.1, (hs b hb.1).trans hb.2⟩
  unfold zModel at h ⊢
  obtain ⟨h0, h_0, h_1, h_2, h_3, h_15, h_16, h_22, h_25, h_26, h_27, h_28, h_29, h_32, h_33, h_34, h_39, h_41, h_42, h_43, h_44, h_45, h_46, h_47, h_48, h_49, h_50, h_51, h_52, hn⟩ := h
  exact ⟨t _ _ h0, t _ _ h_0, t _ _ h_1, t _ _ h_2, t _ _ h_3, t _ _ h_15, t _ _ h_16, t _ _ h_22, t _ _ h_25, t _ _ h_26, t _ _ h_27, t _ _ h_28, t _ _ h_29, t _ _ h_32, t _ _ h_33, t _ _ h_34, t _ _ h_39, t _ _ h_41, t _ _ h_42, t _ _ h_43, t _ _ h_44, t _ _ h_45, t _ _ h_46, t _ _ h_47, t _ _ h_48, t _ _ h_49, t _ _ h_50, t _ _ h_51, t _ _ h_52, hn⟩
section ZE
variable {E : zCx} {l0 : Launch} {D0 : va_G} {cy0 : Nat → ClassId} {own : String} {cc : ByteArray} {nL : Nat} {R0 : Room} {k n : Nat} {L : List Nat} {σ : Nat → va_E} {φ : Nat → Nat → Nat → Int32} {ρ : Nat → Nat → Int32} {pc : Nat} {lv : List (Nat × Value)} {st : List Value} {ci index N : Nat} {C : String} {T : u_T}
theorem h_newE {fs : List Value} {ty0 : Nat → FieldType} (hE : zOk E l0 D0 cy0 own cc nL R0) (hc : vwCl[ci]? = some (C, T, N)) (hin : ∀ w ∈ u_ws C T N, w ∈ gtbl) (hty : ∀ k, k < N → parseFieldDescriptor (T k).2.2.1 = some (ty0 k)) (hq1 : Cond.classLink own index C ∈ gtbl) (hq2 : Cond.instantiable C N ∈ gtbl) (hq3 : Cond.initialized C ∈ gtbl) (hfs : ∀ j, j < N → defaultValue (ty0 j) = vp_V fs j) (hsh : fs.map zshV = fs) (h0 : ∀ c i, zfI (.inr (ci, fs)) c i = 0) (hk1 : k + 1 ≤ R0.cells) (hk2 : n + N ≤ R0.slots) (hd : decode cc pc = .ok (.new index, 3))
    (kk : ∀ (q : Nat) (σ1 : Nat → va_E) (φ1 : Nat → Nat → Nat → Int32) (ρ1 : Nat → Nat → Int32), q ∉ L → (∀ b ∈ L, σ1 b = σ b ∧ ∀ c i, φ1 c i b = φ c i b) → σ1 q = .inr (ci, fs) → (∀ c i, φ1 c i q = 0) → zW E (k + 1) (n + N) (L ++ [q]) σ1 φ1 ρ1 (pc + 3) lv (.ref q :: st)) : zW E k n L σ φ ρ pc lv st := by
  obtain ⟨p, l, e, R, s, m, args, below, meth, c, D, cy, A, Q⟩ := E
  obtain ⟨hx, hb, hml, hown, hts, hK, hA, rfl, rfl, rfl, rfl⟩ := hE
  intro H locs ls hJ hl
  obtain ⟨f, hf, hP, hD, hS0⟩ := id hJ
  refine va_new hx hb hts hin ty0 hty hown (hts _ hq1) (hts _ hq2) (hts _ hq3) hK.1 hP hD hS0 hA hc hfs hk1 hk2 hd (fun q H1 hP1 hD1 hS1 => ?_)
  have hq : q ∉ L := va_pl_fresh2 (X := []) hD1
  have h9 := va_pl_push (f := f) (e := .inr (ci, fs)) hq
  have hzx := z_pushX (w := q) (σ := σ) (φ := φ) (ρ := ρ) (e := .inr (ci, fs)) hq
  refine kk q _ _ _ hq (fun b hb => ⟨(hzx.2 b hb (fun h => hq (h ▸ hb))).1, (hzx.2 b hb (fun h => hq (h ▸ hb))).2.1⟩) ?_ (fun c i => ?_) H1 locs ls ⟨_, z_push hf hq, h9 ▸ hP1, h9 ▸ hD1, hS1⟩ hl
  · rw [va_up_self]
    show Sum.inr (ci, fs.map zshV) = _
    rw [hsh]
  · simp [h0]
end ZE
set_option maxHeartbeats 4000000 in
set_option maxRecDepth 100000 in
/-- the tables' words at the law's start -/
theorem z_known {s : State} {args : Array Value} (hts : ∀ w ∈ lw_tbl, w.before args s = true) : ∃ (D : va_G) (cy : Nat → ClassId), zK D cy s := by
  have htg : ∀ w ∈ gtbl, w.before args s = true := fun w hw => hts w (List.mem_filter.mp hw).1
  have hk : ∀ k : Nat, ∃ q : ClassId × (Nat → Nat), ∀ r : vw_C, vwCl[k]? = some r → u_Kn s r.1 r.2.1 r.2.2 q.1 q.2 := by
    intro k
    match k with
    | 0 =>
      obtain ⟨c, j, h⟩ := u_known (C := RX0) (T := TX0) (N := 10) (n := 10) htg inZX0 (htg (.instantiable RX0 10) q149)
      exact ⟨(c, j), fun r hr => by cases hr; exact h⟩
    | 1 =>
      obtain ⟨c, j, h⟩ := u_known (C := RX1) (T := TX1) (N := 11) (n := 11) htg inZX1 (htg (.instantiable RX1 11) q313)
      exact ⟨(c, j), fun r hr => by cases hr; exact h⟩
    | 2 =>
      obtain ⟨c, j, h⟩ := u_known (C := RX2) (T := TX2) (N := 10) (n := 10) htg inZX2 (htg (.instantiable RX2 10) q498)
      exact ⟨(c, j), fun r hr => by cases hr; exact h⟩
    | 3 =>
      obtain ⟨c, j, h⟩ := u_known (C := RX3) (T := TX3) (N := 7) (n := 7) htg inZX3 (htg (.instantiable RX3 7) q427)
      exact ⟨(c, j), fun r hr => by cases hr; exact h⟩
    | 4 =>
      obtain ⟨c, j, h⟩ := u_known (C := RX4) (T := TX4) (N := 7) (n := 7) htg inZX4 (htg (.instantiable RX4 7) q143)
      exact ⟨(c, j), fun r hr => by cases hr; exact h⟩
    | 5 =>
      obtain ⟨c, j, h⟩ := u_known (C := RX5) (T := TX5) (N := 4) (n := 4) htg inZX5 (htg (.instantiable RX5 4) q289)
      exact ⟨(c, j), fun r hr => by cases hr; exact h⟩
    | 6 =>
      obtain ⟨c, j, h⟩ := u_known (C := RX6) (T := TX6) (N := 6) (n := 6) htg inZX6 (htg (.instantiable RX6 6) q396)
      exact ⟨(c, j), fun r hr => by cases hr; exact h⟩
    | 7 =>
      obtain ⟨c, j, h⟩ := u_known (C := RX7) (T := TX7) (N := 13) (n := 13) htg inZX7 (htg (.instantiable RX7 13) q638)
      exact ⟨(c, j), fun r hr => by cases hr; exact h⟩
    | 8 =>
      obtain ⟨c, j, h⟩ := u_known (C := RX8) (T := TX8) (N := 3) (n := 3) htg inZX8 (htg (.instantiable RX8 3) q540)
      exact ⟨(c, j), fun r hr => by cases hr; exact h⟩
    | 9 =>
      obtain ⟨c, j, h⟩ := u_known (C := RX9) (T := TX9) (N := 10) (n := 10) htg inZX9 (htg (.instantiable RX9 10) q457)
      exact ⟨(c, j), fun r hr => by cases hr; exact h⟩
    | 10 =>
      obtain ⟨c, j, h⟩ := u_known (C := RX10) (T := TX10) (N := 15) (n := 15) htg inZX10 (htg (.instantiable RX10 15) q209)
      exact ⟨(c, j), fun r hr => by cases hr; exact h⟩
    | 11 =>
      obtain ⟨c, j, h⟩ := u_known (C := RX11) (T := TX11) (N := 7) (n := 7) htg inZX11 (htg (.instantiable RX11 7) q135)
      exact ⟨(c, j), fun r hr => by cases hr; exact h⟩
    | 12 =>
      obtain ⟨c, j, h⟩ := u_known (C := RX12) (T := TX12) (N := 53) (n := 53) htg inZX12 (htg (.instantiable RX12 53) q1386)
      exact ⟨(c, j), fun r hr => by cases hr; exact h⟩
    | k + 13 => exact ⟨(0, fun _ => 0), fun r hr => by simp [vwCl] at hr⟩
  obtain ⟨F, hF⟩ := Classical.axiomOfChoice hk
  obtain ⟨cI, kI, mI, aI, bI, dI⟩ := Cond.arrayClass_spec (htg (.arrayClass .int) q207)
  obtain ⟨cJ, kJ, mJ, aJ, bJ, dJ⟩ := Cond.arrayClass_spec (htg (.arrayClass .long) q1295)
  obtain ⟨cZ, kZ, mZ, aZ, bZ, dZ⟩ := Cond.arrayClass_spec (htg (.arrayClass .boolean) q358)
  have oT := hts (.arrayOver (.object "OwnRain$Text")) (List.mem_of_getElem? (i := 360) (by decide +kernel))
  obtain ⟨mT, cT, kT, eT, gT, bT, dT, aT⟩ := Cond.arrayOver_spec oT
  have oW := hts (.arrayOver (.object "OwnRain$World")) (List.mem_of_getElem? (i := 295) (by decide +kernel))
  obtain ⟨mW, cW, kW, eW, gW, bW, dW, aW⟩ := Cond.arrayOver_spec oW
  refine ⟨(fun k => (F k).1, fun k => (F k).2), (fun i => if i = 0 then cI else if i = 1 then cJ else if i = 2 then cZ else if i = 3 then cT else cW), ⟨fun c q hq => hF c q hq, fun k q hq => ?_⟩, ?_, va_AO.of oT, va_AO.of oW⟩
  · match k with
    | 0 => cases hq; exact ⟨fun n z => ⟨(fun k h => by cases h), kI, bI, mI, dI⟩, aI⟩
    | 1 => cases hq; exact ⟨fun n z => ⟨(fun k h => by cases h), kJ, bJ, mJ, dJ⟩, aJ⟩
    | 2 => cases hq; exact ⟨fun n z => ⟨(fun k h => by cases h), kZ, bZ, mZ, dZ⟩, aZ⟩
    | 3 => cases hq; exact ⟨fun n z => ⟨(fun k h => by cases h), kT, bT, mT, dT⟩, kT, mT, bT, dT, eT, aT⟩
    | 4 => cases hq; exact ⟨fun n z => ⟨(fun k h => by cases h), kW, bW, mW, dW⟩, kW, mW, bW, dW, eW, aW⟩
    | k + 5 => simp [zcy] at hq
  · unfold znests
    exact List.forall_mem_cons.mpr ⟨va_Nw.of rfl (hts _ (List.mem_of_getElem? (i := 144) (by decide +kernel))), List.forall_mem_cons.mpr ⟨va_Nw.of rfl (hts _ (List.mem_of_getElem? (i := 150) (by decide +kernel))), List.forall_mem_cons.mpr ⟨va_Nw.of rfl (hts _ (List.mem_of_getElem? (i := 210) (by decide +kernel))), List.forall_mem_cons.mpr ⟨va_Nw.of rfl (hts _ (List.mem_of_getElem? (i := 296) (by decide +kernel))), List.forall_mem_cons.mpr ⟨va_Nw.of rfl (hts _ (List.mem_of_getElem? (i := 314) (by decide +kernel))), List.forall_mem_cons.mpr ⟨va_Nw.of rfl (hts _ (List.mem_of_getElem? (i := 397) (by decide +kernel))), List.forall_mem_cons.mpr ⟨va_Nw.of rfl (hts _ (List.mem_of_getElem? (i := 504) (by decide +kernel))), List.forall_mem_cons.mpr ⟨va_Nw.of rfl (hts _ (List.mem_of_getElem? (i := 639) (by decide +kernel))), List.forall_mem_cons.mpr ⟨va_Nw.of rfl (hts _ (List.mem_of_getElem? (i := 710) (by decide +kernel))), List.forall_mem_cons.mpr ⟨va_Nw.of rfl (hts _ (List.mem_of_getElem? (i := 884) (by decide +kernel))), List.forall_mem_cons.mpr ⟨va_Nw.of rfl (hts _ (List.mem_of_getElem? (i := 999) (by decide +kernel))), List.forall_mem_cons.mpr ⟨va_Nw.of rfl (hts _ (List.mem_of_getElem? (i := 1068) (by decide +kernel))), List.forall_mem_cons.mpr ⟨va_Nw.of rfl (hts _ (List.mem_of_getElem? (i := 1182) (by decide +kernel))), fun _ h => absurd h List.not_mem_nil⟩⟩⟩⟩⟩⟩⟩⟩⟩⟩⟩⟩⟩
