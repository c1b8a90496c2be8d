/-! Contracts as data, and calls. -/
def slN : List EV → Nat
  | [] => 0
  | v :: vs => (if v.1 == 1 then 2 else 1) + slN vs
/-- a cell that nobody has read yet -/
def mat1 (lv : EL) (st : List EV) (k : Nat) (ix : EX) (G : EG) : Option EG := if Nat.ble 40 k && scA lv st G && scE G.1.length ix then (if (zkd k).1 == 2 && inb G k ix then l01 (addM (frG G (max (hull k G.1 ix).1 (abB G k).1) (min (hull k G.1 ix).2.1 (abB G k).2)) k ix (xi G.1.length)) k ix else if (zkd k).1 == 1 && ix.2.isEmpty && decide (0 ≤ ix.1) then (match (zkd k).2.2[ix.1.toNat]? with
  | some d => if d.1 == 0 then some (addM (frG G d.2.1 d.2.2) k ix (xi G.1.length)) else none
  | none => none) else none) else none
def matW (lv : EL) (st av : List EV) : List (Nat × Nat × EX) → List EX → EG → Option EG
  | [], _, G => some G
  | b :: bs, w, G => match lookB 0 [] av G w b with
    | some e => matW lv st av bs (w ++ [e]) G
    | none => if b.1 == 2 then (match mat1 lv st b.2.1 (sub 0 w b.2.2) G with
      | some G' => (match gM G' b.2.1 (sub 0 w b.2.2) with
        | some e => matW lv st av bs (w ++ [e]) G'
        | none => none)
      | none => none) else none
section MA
variable {K : Nat → Nat} {B : Int} {L : List Nat} {f : Nat → va_E} {ν : Nat → Int} {μ : Nat → Nat} {lv : EL} {st : List EV} {G : EG} {lvc : List (Nat × Value)} {stc : List Value} {X : EC}
theorem mat1_ok (h : Wd X K B L f ν μ lv st G lvc stc) {k : Nat} {ix : EX} {G' : EG} (hm : mat1 lv st k ix G = some G') : ∃ ν', Wd X K B L f ν' μ lv st G' lvc stc := by
  unfold mat1 at hm
  split at hm
  · rename_i hc
    simp only [Bool.and_eq_true, Nat.ble_eq] at hc
    obtain ⟨⟨h40, hsc⟩, hse⟩ := hc
    have h0 : k ≠ 0 := by omega
    split at hm
    · rename_i hz
      simp only [Bool.and_eq_true, beq_iff_eq] at hz
      obtain ⟨hz, hin⟩ := hz
      obtain ⟨b, hb, hk⟩ := h.1.2.2.1.1 k h40 (by rw [hz]; decide)
      have hcok := h.1.1 b hb
      rw [hk] at hcok
      unfold cok at hcok
      rw [hz] at hcok
      obtain ⟨g, hf, hbd⟩ := hcok
      obtain ⟨i1, i2, i3, i4, i5⟩ := inb_ok h hin
      have hx := hbd (xv ν ix).toNat (by omega)
      obtain ⟨x1, x2, x3⟩ := hull_ok (k := k) h.2.2.2.1.1 (e := ix) hx
      have ha := abB_ok h (j := (xv ν ix).toNat) (x := g (xv ν ix).toNat) hb hk (by omega) (by rw [hf]; rfl)
      have hw2 := h.fr hsc (z := (g (xv ν ix).toNat).toInt) (lo := max (hull k G.1 ix).1 (abB G k).1) (hi := min (hull k G.1 ix).2.1 (abB G k).2) (by omega) (by omega)
      have hix := xv_upd (ν := ν) hse (g (xv ν ix).toNat).toInt
      have hw3 := hw2.aM (kk := k) (e := ix) (v := xi G.1.length) h0 (fun b' hb' hk' => by
        have : b' = b := h.uni hb' hb (hk'.trans hk.symm) (by rw [hk']; exact h40)
        rw [this, hix, xv_i, va_up_self, hf]
        exact ⟨i1, rfl⟩)
      obtain ⟨G2, e2, hw4⟩ := l01_ok hw3 ix hb hk ⟨_, _, _, hf⟩
      rw [e2] at hm
      cases hm
      exact ⟨_, hw4⟩
    · split at hm
      · rename_i hz
        simp only [Bool.and_eq_true, beq_iff_eq, decide_eq_true_eq] at hz
        obtain ⟨⟨hz, hce⟩, hpos⟩ := hz
        split at hm
        · rename_i d hd
          split at hm
          · rename_i hd0
            cases hm
            obtain ⟨b, hb, hk⟩ := h.1.2.2.1.1 k h40 (by rw [hz]; decide)
            have hcok := h.1.1 b hb
            rw [hk] at hcok
            unfold cok at hcok
            rw [hz] at hcok
            obtain ⟨fs, hf, hlen, hfd⟩ := hcok
            obtain ⟨v, hv, hfk⟩ := hfd _ d hd
            obtain ⟨td, lo, hi⟩ := d
            have htd : td = 0 := by simpa using hd0
            subst htd
            obtain ⟨x, rfl, hx1, hx2⟩ := hfk
            have hw2 := h.fr hsc (z := x.toInt) hx1 hx2
            have hxc : ∀ ν : Nat → Int, xv ν ix = ix.1 := fun ν => xv_cst hce
            refine ⟨_, hw2.aM (kk := k) (e := ix) (v := xi G.1.length) h0 (fun b' hb' hk' => ?_)⟩
            have : b' = b := h.uni hb' hb (hk'.trans hk.symm) (by rw [hk']; exact h40)
            rw [this, hxc, xv_i, va_up_self, cval_f hf, hv]
            exact ⟨hpos, rfl⟩
          · cases hm
        · cases hm
      · cases hm
  · cases hm
theorem matW_ok {av : List EV} : ∀ (bs : List (Nat × Nat × EX)) (w : List EX) {G : EG} {ν : Nat → Int} {G' : EG}, Wd X K B L f ν μ lv st G lvc stc → matW lv st av bs w G = some G' → ∃ ν', Wd X K B L f ν' μ lv st G' lvc stc := by
  intro bs
  induction bs with
  | nil =>
    intro w G ν G' h hm
    cases hm
    exact ⟨ν, h⟩
  | cons b bs ih =>
    intro w G ν G' h hm
    unfold matW at hm
    split at hm
    · exact ih _ h hm
    · split at hm
      · split at hm
        · rename_i G1 hG1
          obtain ⟨ν1, h1⟩ := mat1_ok h hG1
          split at hm
          · exact ih _ h1 hm
          · cases hm
        · cases hm
      · cases hm
end MA
/-- beginning, what may be written, cases of the end, frames, cells, slots, tag -/
abbrev CT : Type := TP × List (Nat × Nat) × List TP × Nat × Nat × Nat × Nat
abbrev MT : Type := MethodName × ByteArray × Nat × Option FieldType
/-- what a method gives back -/
def cpost (cy : Nat → ClassId) (c : CT) (K : Nat → Nat) (B : Int) (L : List Nat) (f : Nat → va_E) (ν : Nat → Int) (μ : Nat → Nat) : Option Value → eS → Prop := fun r u => ∃ C ∈ c.2.2.1, ∃ (K' : Nat → Nat) (B' : Int) (νc : Nat → Int) (μc : Nat → Nat), hok cy K' B' u.1 u.2 ∧ extC c.2.1 K B L f K' B' u.1 u.2 ∧ gok K' B' u.1 u.2 C.2.2.1 νc μc ∧ (∀ i, i < c.1.2.2.1.1.length → νc i = ν i) ∧ (∀ i, i < c.1.2.2.1.2.2.2.1.length → μc i = μ i) ∧ C.2.1.map (cv νc μc) = r.toList
def CM (X0 : zC0) (m : MT) (c : CT) : Prop := ∀ (K : Nat → Nat) (B : Int) (L : List Nat) (f : Nat → va_E) (ν : Nat → Int) (μ : Nat → Nat), hok X0.2.2.1 K B L f → gok K B L f c.1.2.2.1 ν μ → eM X0 c.2.2.2.2.2.2 m.1 m.2.1 m.2.2.1 m.2.2.2 (zrm c.2.2.2.1 c.2.2.2.2.1 c.2.2.2.2.2.1) (c.1.2.1.map (cv ν μ)) L f (cpost X0.2.2.1 c K B L f ν μ)
/-- where a call leads: 0 a method of an object of class ci, 1 static, 2 static of a nest mate -/
def lkOk (own : String) (idx mode ci na : Nat) (m : MT) : Prop := (Cond.initialized m.1.cls ∈ gtbl ∧ Cond.code m.1 m.2.1 m.2.2.1 m.2.2.2 ∈ gtbl ∧ m.1.cls ≠ "java/lang/invoke/MethodHandle" ∧ m.1.cls ≠ "java/lang/invoke/VarHandle" ∧ m.2.2.1 ≤ 41) ∧ match mode with
  | 0 => Cond.methodLink own idx m.1 ∈ gtbl ∧ Cond.instanceMethod m.1 ∈ gtbl ∧ (∃ C T N, vwCl[ci]? = some (C, T, N) ∧ Cond.selects C m.1 m.1 ∈ gtbl) ∧ (parseMethodDescriptor m.1.desc).map (fun d => d.parameters.length + 1) = some na
  | 1 => Cond.methodLink own idx m.1 ∈ gtbl ∧ Cond.static m.1 ∈ gtbl ∧ (parseMethodDescriptor m.1.desc).map (fun d => d.parameters.length) = some na
  | 2 => (own, idx, m.1) ∈ znests ∧ Cond.static m.1 ∈ gtbl ∧ (parseMethodDescriptor m.1.desc).map (fun d => d.parameters.length) = some na
  | _ => False
def impL (mods : List (Nat × Nat)) (r : Nat) (w : List EX) (ρ : List Nat) (pc : Nat) (lv : EL) (st : List EV) (G : EG) : List TP → Option (List EP)
  | [] => some []
  | C :: Cs => match impC mods r w ρ C pc lv st G, impL mods r w ρ pc lv st G Cs with
    | some a, some b => some (a ++ b)
    | _, _ => none
theorem impL_ok {mods : List (Nat × Nat)} {r : Nat} {w : List EX} {ρ : List Nat} {pc : Nat} {lv : EL} {st : List EV} {G : EG} : ∀ (Cs : List TP) {rs : List EP}, impL mods r w ρ pc lv st G Cs = some rs → ∀ C ∈ Cs, ∃ ra, impC mods r w ρ C pc lv st G = some ra ∧ ∀ p ∈ ra, p ∈ rs := by
  intro Cs
  induction Cs with
  | nil => intro rs _ C hC; cases hC
  | cons A Cs ih =>
    intro rs h C hC
    unfold impL at h
    split at h
    · rename_i a b ha hb
      cases h
      rcases List.mem_cons.mp hC with rfl | hC
      · exact ⟨a, ha, fun p hp => List.mem_append_left _ hp⟩
      · obtain ⟨ra, h1, h2⟩ := ih hb C hC
        exact ⟨ra, h1, fun p hp => List.mem_append_right _ (h2 p hp)⟩
    · cases h
/-- the receiver is there, of class ci -/
def recOk (mode ci : Nat) (av : List EV) (G : EG) : Bool := if mode == 0 then (match av with
  | (t, r, _) :: _ => t == 2 && (match G.2.2.2.1[r]? with
    | some k => (zkd k).1 == 1 && (zkd k).2.1 == ci
    | none => false)
  | [] => false) else true
/-- a call by one contract; ci: the receiver's class -/
def callC (mods : List (Nat × Nat)) (d mode ci na : Nat) (c : CT) (pc : Nat) (lv : EL) (st : List EV) (G : EG) : Option (Nat × Nat × List EP) :=
  match matW lv st (st.take na).reverse c.1.2.2.2.1 [] G with
  | some G1 => (match mT 0 0 c.1 [] (st.take na).reverse G1 with
    | some q => if c.1.1.isEmpty && Nat.ble na st.length && Nat.ble (slN (st.drop na)) 8 && c.2.1.all (fun p => mIn mods p.1 p.2) && Nat.ble (c.2.2.2.1 + 1) d && recOk mode ci (st.take na).reverse G1 then (match impL c.2.1 c.1.2.2.1.2.2.2.1.length q.1 q.2 (pc + 3) lv (st.drop na) G1 c.2.2.1 with
        | some rs => some (c.2.2.2.2.1, c.2.2.2.2.2.1, rs)
        | none => none) else none
    | none => none)
  | none => none
section CL
variable {E : zCx} {X0 : zC0} {own : String} {cc : ByteArray} {nL : Nat} {R0 : Room} {k n : Nat} {K : Nat → Nat} {B : Int} {L : List Nat} {f : Nat → va_E} {ν : Nat → Int} {μ : Nat → Nat} {lv : EL} {st : List EV} {G : EG} {lvc : List (Nat × Value)} {stc : List Value} {ln pc idx : Nat} {X : EC}
theorem cat_sum (ν : Nat → Int) (μ : Nat → Nat) : ∀ (l : List EV), ((l.map (cv ν μ)).map fun v => v.category).sum ≤ slN l := by
  intro l
  induction l with
  | nil => exact Nat.le_refl _
  | cons v l ih =>
    have hc := cat_cv ν μ v
    have h2 : (cv ν μ v).category ≤ (if v.1 == 1 then 2 else 1) := by
      rw [← hc]
      have h3 : (cv ν μ v).category = 1 ∨ (cv ν μ v).category = 2 := by
        cases cv ν μ v <;> first | exact Or.inl rfl | exact Or.inr rfl
      rcases h3 with h3 | h3 <;> rw [h3] <;> exact Nat.le_of_ble_eq_true rfl
    simp only [List.map_cons, List.sum_cons, slN]
    omega
theorem callC_ok {mods : List (Nat × Nat)} {d cells slots mode ci na dk dn : Nat} {m : MT} {c : CT} {rs : List EP} {i : Instr} (hE : zOk E X0 own cc nL (zrm d cells slots)) (hX1 : X.1 = X0.2.2.1) (hX : X.2.1 = mods) (hM : CM X0 m c) (hlk : lkOk own idx mode ci na m) (hi : i = (if mode = 0 then .invokevirtual idx else .invokestatic idx)) (hd : decode cc pc = .ok (i, 3)) (h : Wd X K B L f ν μ lv st G lvc stc) (hs : callC mods d mode ci na c pc lv st G = some (dk, dn, rs)) (hk1 : k + dk ≤ cells) (hn1 : n + dn ≤ slots) (kk : AllS E (k + dk) (n + dn) X rs) : eW E k n L f pc lvc stc := by
  unfold callC at hs
  split at hs
  · rename_i G1 hG1
    obtain ⟨ν1, h1⟩ := matW_ok _ _ h hG1
    split at hs
    · rename_i q hq
      split at hs
      · rename_i hc
        simp only [Bool.and_eq_true, Nat.ble_eq, List.all_eq_true] at hc
        obtain ⟨⟨⟨⟨⟨hpe, hna⟩, hst4⟩, hmods⟩, hdd⟩, hrec⟩ := hc
        split at hs
        · rename_i rs' hrs
          cases hs
          have hsub : ∀ p ∈ c.2.1, p ∈ X.2.1 := fun p hp => by rw [hX]; exact mIn_ok (hmods p hp)
          -- the arguments as a state of their own
          have hwa : Wd X K B L f ν1 μ [] (st.take na).reverse G1 [] ((st.take na).reverse.map (cv ν1 μ)) := ⟨h1.1, h1.2.1, h1.2.2.1, h1.2.2.2.1, rfl, rfl⟩
          obtain ⟨a1, -, a3⟩ := mOk_ok hwa (mT_ok hq)
          have hstc : stc = ((st.take na).reverse.map (cv ν1 μ)).reverse ++ (st.drop na).map (cv ν1 μ) := by
            rw [h1.2.2.2.2.2, ← List.map_reverse, List.reverse_reverse, ← List.map_append, List.take_append_drop]
          have hw' : Wd X K B L f ν1 μ lv (st.drop na) G1 lvc ((st.drop na).map (cv ν1 μ)) := ⟨h1.1, h1.2.1, h1.2.2.1, h1.2.2.2.1, h1.2.2.2.2.1, rfl⟩
          have hm := hM K B L f (nuw 0 q.1 ν1) (mur 0 q.2 μ) (by rw [← hX1]; exact h1.1) a1
          rw [← a3] at hm
          have hcat : (((st.drop na).map (cv ν1 μ)).map fun v => v.category).sum ≤ 8 := by
            have := cat_sum ν1 μ (st.drop na)
            omega
          have hlen : ((st.take na).reverse.map (cv ν1 μ)).length = na := by
            rw [List.length_map, List.length_reverse, List.length_take]
            omega
          have hR : (zrm c.2.2.2.1 c.2.2.2.2.1 c.2.2.2.2.2.1).frames + 1 ≤ (zrm d cells slots).frames ∧ 8 + (m.2.2.1 + 11) + (zrm c.2.2.2.1 c.2.2.2.2.1 c.2.2.2.2.2.1).locals ≤ (zrm d cells slots).locals := by
            have := hlk.1.2.2.2.2
            refine ⟨hdd, ?_⟩
            show 8 + (m.2.2.1 + 11) + 60 * c.2.2.2.1 ≤ 60 * d
            omega
          -- what comes behind
          have hkk : ∀ (aa : Array Value), eRun E k n (zrm c.2.2.2.1 c.2.2.2.2.1 c.2.2.2.2.2.1).cells (zrm c.2.2.2.1 c.2.2.2.2.1 c.2.2.2.2.2.1).slots L f pc lvc stc ((st.drop na).map (cv ν1 μ)) (fun sz => eQ c.2.2.2.2.2.2 X0.2.1 (zA L sz) (cpost X0.2.2.1 c K B L f (nuw 0 q.1 ν1) (mur 0 q.2 μ)) aa) → eW E k n L f pc lvc stc := fun aa hrun => by
            refine c_all hE hrun (fun r L' f' htag hpost => ?_)
            obtain ⟨C, hC, K', B', νc, μc, p1, p2, p3, p4, p5, p6⟩ := hpost
            obtain ⟨ra, hra, hin⟩ := impL_ok _ hrs C hC
            have hwn : wsok q.1 ν1 νc := fun j e hj => by
              have hjl := (List.getElem?_eq_some_iff.mp hj).1
              have hm9 := mT_ok hq
              unfold mOk at hm9
              simp only [Bool.and_eq_true, beq_iff_eq] at hm9
              have hl9 := hm9.1.1.1.1.1.1.1.1.1
              rw [p4 j (by rw [hl9]; omega)]
              unfold nuw
              rw [if_neg (by omega), Nat.sub_zero, List.getD_eq_getElem?_getD, hj]
              rfl
            have hmr : ∀ j, j < c.1.2.2.1.2.2.2.1.length → μc j = μ (q.2.getD j 0) := fun j hj => by
              rw [p5 j hj]
              unfold mur idR
              rw [if_neg (by simp), Nat.sub_zero]
            obtain ⟨p, hp, hpc, ν2, μ2, hw2⟩ := imp_ok hw' (by rw [hX1]; exact p1) p2 hsub p3 hwn hmr hra
            have hgo := kk K' B' L' f' p (hin p hp) ν2 μ2 lvc _ hw2
            rw [hpc, p6] at hgo
            cases r with
            | none => exact hgo
            | some v => exact hgo
          obtain ⟨⟨l1, l2, l3, l4, l5⟩, l6⟩ := hlk
          match mode, hi, hrec, l6 with
          | 0, hi, hrec, l6 =>
            obtain ⟨v1, v2, ⟨C, T, N, v3, v4⟩, v5⟩ := l6
            have hi' : i = .invokevirtual idx := by rw [hi]; rfl
            rw [hi'] at hd
            cases hav : (st.take na).reverse with
            | nil =>
              rw [hav] at hrec
              cases hrec
            | cons v0 av0 =>
              rw [hav] at hrec hm hlen hstc
              have hrec' : ((v0.1 == 2) && (match G1.2.2.2.1[v0.2.1]? with
                | some k => (zkd k).1 == 1 && (zkd k).2.1 == ci
                | none => false)) = true := hrec
              simp only [Bool.and_eq_true, beq_iff_eq] at hrec'
              obtain ⟨ht2, hrk⟩ := hrec'
              split at hrk
              · rename_i kr hkr
                simp only [Bool.and_eq_true, beq_iff_eq] at hrk
                obtain ⟨b1, b2⟩ := h1.ref hkr
                have hcok := h1.1.1 _ b1
                rw [b2] at hcok
                unfold cok at hcok
                rw [hrk.1] at hcok
                obtain ⟨fs, hf, -⟩ := hcok
                rw [hrk.2] at hf
                rw [List.map_cons, cv2 ht2] at hm hlen hstc
                refine hkk _ (r_V hE hm v1 v2 v4 l1 l2 b1 hf v3 ⟨l3, l4, ?_⟩ hR ⟨hk1, hn1⟩ ?_ hcat hd)
                · rw [List.length_cons] at hlen
                  cases hpd : parseMethodDescriptor m.1.desc with
                  | none => rw [hpd] at v5; cases v5
                  | some dd =>
                    rw [hpd] at v5
                    have : dd.parameters.length + 1 = na := Option.some.inj v5
                    show some dd.parameters.length = some _
                    congr 1
                    omega
                · rw [hstc, List.reverse_cons, List.append_assoc]
                  rfl
              · cases hrk
          | 1, hi, hrec, l6 =>
            obtain ⟨v1, v2, v5⟩ := l6
            have hi' : i = .invokestatic idx := by rw [hi]; rfl
            rw [hi'] at hd
            exact hkk _ (r_S hE hm v1 v2 l1 l2 ⟨l3, l4, by rw [v5, hlen]⟩ hR ⟨hk1, hn1⟩ hstc hcat hd)
          | 2, hi, hrec, l6 =>
            obtain ⟨v1, v2, v5⟩ := l6
            have hi' : i = .invokestatic idx := by rw [hi]; rfl
            rw [hi'] at hd
            exact hkk _ (r_SN hE hm v1 v2 l1 l2 ⟨l3, l4, by rw [v5, hlen]⟩ hR ⟨hk1, hn1⟩ hstc hcat hd)
          | mode + 3, hi, hrec, l6 => exact absurd l6 id
        · cases hs
      · cases hs
    · cases hs
  · cases hs
end CL
