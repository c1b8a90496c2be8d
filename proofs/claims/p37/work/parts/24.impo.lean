/-! What a call brings: the callee's ids are put in place by terms. -/
def fillI (lv : EL) (st : List EV) (mem : List ((Nat × EX) × EX)) (env : EN) : List (Nat × Nat × EX) → List EX → EG → Option (List EX × EG)
  | [], ws, G => some (ws, G)
  | b :: bs, ws, G => match (if b.1 == 2 && scE ws.length b.2.2 && (b.2.1 == 0 || (Nat.ble 40 b.2.1 && !((zkd b.2.1).1 == 0))) && mem.any (fun q => q == ((b.2.1, b.2.2), (0, [(1, ws.length)]))) then gM G b.2.1 (sub 0 ws b.2.2) else none) with
    | some e => fillI lv st mem env bs (ws ++ [e]) G
    | none => (match env[ws.length]? with
      | some bd => if scA lv st G && ws.all (scE G.1.length) then fillI lv st mem env bs (ws ++ [xi G.1.length]) (frG G bd.1 bd.2) else none
      | none => none)
def asGq (G : EG) (e : EX) : Option EG := if decide (0 ≤ lb G.1 e) then some G else asG G e
def asGqs (G : EG) : List EX → Option EG
  | [] => some G
  | e :: es => match asGq G e with
    | some G' => asGqs G' es
    | none => none
def asNes (G : EG) : List EX → Option EG
  | [] => some G
  | e :: es => match asNe G e with
    | some G' => asNes G' es
    | none => none
def bndF (ws : List EX) : Nat → EN → List EX
  | _, [] => []
  | i, q :: es => sub 0 ws (-q.1, [(1, i)]) :: sub 0 ws (q.2, [(-1, i)]) :: bndF ws (i + 1) es
def addMs (ws : List EX) (G : EG) : List ((Nat × EX) × EX) → EG
  | [] => G
  | q :: qs => addMs ws (match gM G q.1.1 (sub 0 ws q.1.2) with
    | some _ => G
    | none => addM G q.1.1 (sub 0 ws q.1.2) (sub 0 ws q.2)) qs
def addAs (G : EG) : List (Nat × Int × Int) → EG
  | [] => G
  | q :: qs => addAs (addA G q) qs
/-- every id of the case is there -/
def scT (n : Nat) (C : TP) : Bool := C.2.1.all (fun v => scE n v.2.2) && C.2.2.1.2.1.all (scE n) && C.2.2.1.2.2.1.all (scE n) && C.2.2.1.2.2.2.2.1.all (fun q => scE n q.1.2 && scE n q.2)
def retV (r : Nat) (ρ : List Nat) (nr : Nat) (ws : List EX) : List EV → List EV
  | [] => []
  | v :: _ => [(v.1, if Nat.blt v.2.1 r then ρ.getD v.2.1 0 else nr, sub 0 ws v.2.2)]
def impC (mods : List (Nat × Nat)) (r : Nat) (w : List EX) (ρ : List Nat) (C : TP) (pc : Nat) (lv : EL) (st : List EV) (G : EG) : Option (List EP) := match fillI lv st C.2.2.1.2.2.2.2.1 C.2.2.1.1 C.2.2.2.1 w (aftG mods G) with
  | none => none
  | some p => if p.1.length == C.2.2.1.1.length && scT p.1.length C && Nat.ble C.2.1.length 1 then (match asGqs p.2 (bndF p.1 0 C.2.2.1.1) with
    | none => some []
    | some G2 => (match asGqs G2 (C.2.2.1.2.1.map (sub 0 p.1)) with
      | none => some []
      | some G3 => (match asNes G3 (C.2.2.1.2.2.1.map (sub 0 p.1)) with
        | none => some []
        | some G4 => (match C.2.2.1.2.2.2.1.drop r with
          | [] => if C.2.1.all (fun v => !(v.1 == 2) || Nat.blt v.2.1 r) then some [(pc, lv, retV r ρ 0 p.1 C.2.1 ++ st, addAs (addMs p.1 G4 C.2.2.1.2.2.2.2.1) C.2.2.1.2.2.2.2.2.1)] else none
          | [k] => if scA lv st (addAs (addMs p.1 G4 C.2.2.1.2.2.2.2.1) C.2.2.1.2.2.2.2.2.1) && C.2.1.all (fun v => scE (addAs (addMs p.1 G4 C.2.2.1.2.2.2.2.1) C.2.2.1.2.2.2.2.2.1).1.length (sub 0 p.1 v.2.2) && Nat.ble v.2.1 r) && ρ.all (fun a => Nat.blt a G.2.2.2.1.length) && Nat.ble r ρ.length then some [(pc, lv, retV r ρ (addAs (addMs p.1 G4 C.2.2.1.2.2.2.2.1) C.2.2.1.2.2.2.2.2.1).2.2.2.1.length p.1 C.2.1 ++ st, frR (addAs (addMs p.1 G4 C.2.2.1.2.2.2.2.1) C.2.2.1.2.2.2.2.2.1) k)] else none
          | _ => none)))) else none
section IM
variable {K : Nat → Nat} {B : Int} {L : List Nat} {f : Nat → va_E} {ν νc : Nat → Int} {μ μc : Nat → Nat} {lv : EL} {st : List EV} {G : EG} {lvc : List (Nat × Value)} {stc : List Value} {X : EC}
/-- the terms mean the callee's numbers -/
def wsok (ws : List EX) (ν νc : Nat → Int) : Prop := ∀ (i : Nat) (e : EX), ws[i]? = some e → xv ν e = νc i
theorem wsok_sub {ws : List EX} (h : wsok ws ν νc) {e : EX} (hs : scE ws.length e = true) : xv ν (sub 0 ws e) = xv νc e := by
  rw [sub_v]
  unfold xv
  congr 1
  unfold scE at hs
  generalize e.2 = ts at hs
  induction ts with
  | nil => rfl
  | cons t ts ih =>
    simp only [List.all_cons, Bool.and_eq_true, Nat.blt_eq] at hs
    simp only [xvT]
    rw [ih hs.2]
    congr 2
    unfold nuw
    rw [if_neg (by omega), Nat.sub_zero, List.getD_eq_getElem?_getD, List.getElem?_eq_getElem hs.1]
    exact h t.2 _ (List.getElem?_eq_getElem hs.1)
theorem wsok_app {ws : List EX} (h : wsok ws ν νc) {e : EX} (he : xv ν e = νc ws.length) : wsok (ws ++ [e]) ν νc := by
  intro i e' hi
  by_cases hl : i < ws.length
  · rw [List.getElem?_append_left hl] at hi
    exact h i e' hi
  · have hil : i < (ws ++ [e]).length := (List.getElem?_eq_some_iff.mp hi).1
    simp only [List.length_append, List.length_cons, List.length_nil] at hil
    have e1 : i = ws.length := by omega
    subst e1
    simp at hi
    rw [← hi]
    exact he
theorem wsok_fr {ws : List EX} (h : wsok ws ν νc) {n : Nat} (hs : ws.all (scE n) = true) (z : Int) : wsok ws (va_up ν n z) νc := by
  intro i e hi
  rw [xv_upd (List.all_eq_true.mp hs e (List.mem_of_getElem? hi))]
  exact h i e hi
theorem fillI_ok {C : EG} (hc : gok K B L f C νc μc) {p : List EX × EG} : ∀ (bs : List (Nat × Nat × EX)) (ws : List EX) {G : EG} {ν : Nat → Int}, Wd X K B L f ν μ lv st G lvc stc → wsok ws ν νc → fillI lv st C.2.2.2.2.1 C.1 bs ws G = some p → ∃ ν', Wd X K B L f ν' μ lv st p.2 lvc stc ∧ wsok p.1 ν' νc ∧ p.2.2.2.2.1 = G.2.2.2.1 := by
  intro bs
  induction bs with
  | nil =>
    intro ws G ν hw hs hp
    cases hp
    exact ⟨ν, hw, hs, rfl⟩
  | cons b bs ih =>
    intro ws G ν hw hs hp
    unfold fillI at hp
    split at hp
    · rename_i e he
      split at he
      · rename_i hcnd
        simp only [Bool.and_eq_true, Bool.or_eq_true, beq_iff_eq, List.any_eq_true, Nat.ble_eq, Bool.not_eq_true', beq_eq_false_iff_ne] at hcnd
        obtain ⟨⟨⟨h2, hsc⟩, hk⟩, q, hq, hqe⟩ := hcnd
        have hm := hc.2.2.2.2.1 q hq
        rw [hqe] at hm
        refine ih (ws ++ [e]) hw (wsok_app hs ?_) hp
        have hix := wsok_sub hs hsc
        have h3 := gM_mok hw he
        unfold mok at hm h3
        dsimp only at hm h3
        have hid : xv νc (0, [(1, ws.length)]) = νc ws.length := by simp [xv, xvT]
        rcases hk with hk | ⟨hk, hz⟩
        · rw [if_pos hk] at hm h3
          rw [← h3, hm, hid]
        · rw [if_neg (by omega)] at hm h3
          obtain ⟨b2, hb2, hkb2⟩ := hw.1.2.2.1.1 b.2.1 hk hz
          have a1 := (hm b2 hb2 hkb2).2
          have a2 := (h3 b2 hb2 hkb2).2
          rw [hix, a1, hid] at a2
          exact (Option.some.inj a2).symm
      · cases he
    · split at hp
      · rename_i bd hbd
        split at hp
        · rename_i hcnd
          simp only [Bool.and_eq_true] at hcnd
          have hb := hc.1 ws.length
          have e1 : ebd C.1 ws.length = bd := by
            unfold ebd
            rw [List.getD_eq_getElem?_getD, hbd]
            rfl
          rw [e1] at hb
          have hw2 := hw.fr hcnd.1 (z := νc ws.length) hb.1 hb.2
          obtain ⟨ν', a1, a2, a3⟩ := ih (ws ++ [xi G.1.length]) (G := frG G bd.1 bd.2) hw2 (wsok_app (wsok_fr hs hcnd.2 _) (by rw [xv_i, va_up_self])) hp
          exact ⟨ν', a1, a2, a3⟩
        · cases hp
      · cases hp
theorem asGq_ok (h : Wd X K B L f ν μ lv st G lvc stc) {e : EX} (he : 0 ≤ xv ν e) : ∃ G', asGq G e = some G' ∧ Wd X K B L f ν μ lv st G' lvc stc ∧ G'.2.2.2.1 = G.2.2.2.1 := by
  unfold asGq
  split
  · exact ⟨G, rfl, h, rfl⟩
  · obtain ⟨G', h1, h2⟩ := h.as1 he
    refine ⟨G', h1, h2, ?_⟩
    unfold asG at h1
    split at h1
    · cases h1
      rfl
    · cases h1
theorem asGqs_ok : ∀ (es : List EX) {G : EG}, Wd X K B L f ν μ lv st G lvc stc → (∀ e ∈ es, 0 ≤ xv ν e) → ∃ G', asGqs G es = some G' ∧ Wd X K B L f ν μ lv st G' lvc stc ∧ G'.2.2.2.1 = G.2.2.2.1 := by
  intro es
  induction es with
  | nil => intro G h _; exact ⟨G, rfl, h, rfl⟩
  | cons e es ih =>
    intro G h he
    obtain ⟨G1, h1, h2, h5⟩ := asGq_ok h (he e List.mem_cons_self)
    obtain ⟨G2, h3, h4, h6⟩ := ih h2 (fun x hx => he x (List.mem_cons_of_mem _ hx))
    exact ⟨G2, by unfold asGqs; rw [h1]; exact h3, h4, h6.trans h5⟩
theorem asNes_ok : ∀ (es : List EX) {G : EG}, Wd X K B L f ν μ lv st G lvc stc → (∀ e ∈ es, xv ν e ≠ 0) → ∃ G', asNes G es = some G' ∧ Wd X K B L f ν μ lv st G' lvc stc ∧ G'.2.2.2.1 = G.2.2.2.1 := by
  intro es
  induction es with
  | nil => intro G h _; exact ⟨G, rfl, h, rfl⟩
  | cons e es ih =>
    intro G h he
    obtain ⟨G1, h1, h2⟩ := h.ane (he e List.mem_cons_self)
    obtain ⟨G2, h3, h4, h6⟩ := ih h2 (fun x hx => he x (List.mem_cons_of_mem _ hx))
    refine ⟨G2, by unfold asNes; rw [h1]; exact h3, h4, h6.trans ?_⟩
    unfold asNe at h1
    split at h1
    · unfold asG at h1
      split at h1
      · cases h1; rfl
      · cases h1
    · split at h1
      · unfold asG at h1
        split at h1
        · cases h1; rfl
        · cases h1
      · cases h1; rfl
theorem bndF_ok {ws : List EX} (hs : wsok ws ν νc) {C : EN} (hc : eok C νc) : ∀ (es : EN) (i : Nat), (∀ j q, es[j]? = some q → C[i + j]? = some q) → i + es.length ≤ ws.length → ∀ e ∈ bndF ws i es, 0 ≤ xv ν e := by
  intro es
  induction es with
  | nil => intro i _ _ e he; cases he
  | cons q es ih =>
    intro i hes hlen e he
    simp only [List.length_cons] at hlen
    have h1 := hc i
    have h2 := hes 0 q rfl
    have e1 : ebd C i = q := by
      unfold ebd
      rw [List.getD_eq_getElem?_getD, show i = i + 0 from rfl, h2]
      rfl
    rw [e1] at h1
    unfold bndF at he
    rcases List.mem_cons.mp he with rfl | he
    · rw [wsok_sub hs (by simp [scE]; omega)]
      simp only [xv, xvT]
      omega
    · rcases List.mem_cons.mp he with rfl | he
      · rw [wsok_sub hs (by simp [scE]; omega)]
        simp only [xv, xvT]
        omega
      · refine ih (i + 1) (fun j q hj => ?_) (by omega) e he
        have := hes (j + 1) q (by simpa using hj)
        rw [show i + 1 + j = i + (j + 1) from by omega]
        exact this
theorem aM0_ok (h : Wd X K B L f ν μ lv st G lvc stc) {k : Nat} {e v : EX} (hm : mok K B L f ν ((k, e), v)) : Wd X K B L f ν μ lv st (addM G k e v) lvc stc := by
  obtain ⟨hh, hx, hi, ⟨g1, g2, g3, g4, g5, g6, g7⟩, hl, ht⟩ := h
  refine ⟨hh, hx, ?_, ⟨g1, g2, g3, g4, fun q hq => ?_, g6, g7⟩, hl, ht⟩
  · obtain ⟨cy, mods, L0, f0, K0, n0, ν0, r0, μ0⟩ := X
    exact hi
  · rcases List.mem_cons.mp hq with rfl | hq
    · exact hm
    · exact g5 q hq
theorem addMs_ok {ws : List EX} (hs : wsok ws ν νc) : ∀ (qs : List ((Nat × EX) × EX)) {G : EG}, Wd X K B L f ν μ lv st G lvc stc → (∀ q ∈ qs, mok K B L f νc q ∧ scE ws.length q.1.2 = true ∧ scE ws.length q.2 = true) → Wd X K B L f ν μ lv st (addMs ws G qs) lvc stc ∧ (addMs ws G qs).1 = G.1 ∧ (addMs ws G qs).2.2.2.1 = G.2.2.2.1 := by
  intro qs
  induction qs with
  | nil => intro G h _; exact ⟨h, rfl, rfl⟩
  | cons q qs ih =>
    intro G h hq
    obtain ⟨h1, h2, h3⟩ := hq q List.mem_cons_self
    unfold addMs
    have hq' := fun x hx => hq x (List.mem_cons_of_mem _ hx)
    split
    · exact ih h hq'
    · refine ih (aM0_ok h ?_) hq'
      unfold mok at h1 ⊢
      dsimp only
      rw [wsok_sub hs h2, wsok_sub hs h3]
      exact h1
theorem addAs_ok : ∀ (qs : List (Nat × Int × Int)) {G : EG}, Wd X K B L f ν μ lv st G lvc stc → (∀ q ∈ qs, abok K L f q) → Wd X K B L f ν μ lv st (addAs G qs) lvc stc ∧ (addAs G qs).1 = G.1 ∧ (addAs G qs).2.2.2.1 = G.2.2.2.1 := by
  intro qs
  induction qs with
  | nil => intro G h _; exact ⟨h, rfl, rfl⟩
  | cons q qs ih =>
    intro G h hq
    unfold addAs
    refine ih (G := addA G q) ?_ (fun x hx => hq x (List.mem_cons_of_mem _ hx))
    obtain ⟨hh, hx, hi, ⟨g1, g2, g3, g4, g5, g6, g7⟩, hl, ht⟩ := h
    refine ⟨hh, hx, ?_, ⟨g1, g2, g3, g4, g5, fun q' hq' => ?_, g7⟩, hl, ht⟩
    · obtain ⟨cy, mods, L0, f0, K0, n0, ν0, r0, μ0⟩ := X
      exact hi
    · rcases List.mem_cons.mp hq' with rfl | hq'
      · exact hq _ List.mem_cons_self
      · exact g6 q' hq'
theorem imp_ok {K0 : Nat → Nat} {B0 : Int} {L0 : List Nat} {f0 : Nat → va_E} {mods : List (Nat × Nat)} {r pc : Nat} {w : List EX} {ρ : List Nat} {C : TP} {rs : List EP} (h : Wd X K0 B0 L0 f0 ν μ lv st G lvc stc) (hh : hok X.1 K B L f) (hY : extC mods K0 B0 L0 f0 K B L f) (hsub : ∀ q ∈ mods, q ∈ X.2.1) (hc : gok K B L f C.2.2.1 νc μc) (hn : wsok w ν νc) (hr : ∀ i, i < r → μc i = μ (ρ.getD i 0)) (hs : impC mods r w ρ C pc lv st G = some rs) : ∃ p ∈ rs, p.1 = pc ∧ ∃ ν' μ', Wd X K B L f ν' μ' p.2.1 p.2.2.1 p.2.2.2 lvc (C.2.1.map (cv νc μc) ++ stc) := by
  have h1 := aft_ok h hh hY hsub
  unfold impC at hs
  split at hs
  · cases hs
  · rename_i p hp
    split at hs
    · rename_i hcnd
      simp only [Bool.and_eq_true, beq_iff_eq, Nat.ble_eq] at hcnd
      obtain ⟨⟨hlen, hsc⟩, h1l⟩ := hcnd
      unfold scT at hsc
      simp only [Bool.and_eq_true, List.all_eq_true] at hsc
      obtain ⟨⟨⟨s1, s2⟩, s3⟩, s4⟩ := hsc
      obtain ⟨ν1, w1, w2, w3⟩ := fillI_ok hc _ w h1 hn hp
      obtain ⟨G2, e2, w4, w5⟩ := asGqs_ok (bndF p.1 0 C.2.2.1.1) w1 (bndF_ok w2 hc.1 _ 0 (fun j q hj => by rw [Nat.zero_add]; exact hj) (by omega))
      rw [e2] at hs
      dsimp only at hs
      obtain ⟨G3, e3, w6, w7⟩ := asGqs_ok (C.2.2.1.2.1.map (sub 0 p.1)) w4 (fun e he => by
        obtain ⟨s, hs1, rfl⟩ := List.mem_map.mp he
        rw [wsok_sub w2 (s2 s hs1)]
        exact hc.2.1 s hs1)
      rw [e3] at hs
      dsimp only at hs
      obtain ⟨G4, e4, w8, w9⟩ := asNes_ok (C.2.2.1.2.2.1.map (sub 0 p.1)) w6 (fun e he => by
        obtain ⟨s, hs1, rfl⟩ := List.mem_map.mp he
        rw [wsok_sub w2 (s3 s hs1)]
        exact hc.2.2.1 s hs1)
      rw [e4] at hs
      dsimp only at hs
      obtain ⟨w10, w11, w12⟩ := addMs_ok w2 C.2.2.1.2.2.2.2.1 w8 (fun q hq => ⟨hc.2.2.2.2.1 q hq, (s4 q hq).1, (s4 q hq).2⟩)
      obtain ⟨w13, w14, w15⟩ := addAs_ok C.2.2.1.2.2.2.2.2.1 w10 hc.2.2.2.2.2.1
      have hkd : (addAs (addMs p.1 G4 C.2.2.1.2.2.2.2.1) C.2.2.1.2.2.2.2.2.1).2.2.2.1.length = G.2.2.2.1.length := by
        rw [w15, w12, w9, w7, w5, w3]
        rfl
      have hval : ∀ (v : EV) (μ' : Nat → Nat) (i : Nat), v ∈ C.2.1 → (v.1 = 2 → μ' i = μc v.2.1) → cv ν1 μ' (v.1, i, sub 0 p.1 v.2.2) = cv νc μc v := fun v μ' i hv hi => by
        obtain ⟨t, a, e⟩ := v
        have he := wsok_sub w2 (s1 _ hv)
        match t with
        | 0 =>
          rw [cv0 rfl, cv0 rfl]
          show Value.int (Int32.ofInt (xv ν1 (sub 0 p.1 e))) = Value.int (Int32.ofInt (xv νc e))
          rw [he]
        | 1 =>
          rw [cv1 rfl, cv1 rfl]
          show Value.long (Int64.ofInt (xv ν1 (sub 0 p.1 e))) = Value.long (Int64.ofInt (xv νc e))
          rw [he]
        | 2 =>
          rw [cv2 rfl, cv2 rfl]
          exact congrArg Value.ref (hi rfl)
        | t + 3 => rfl
      split at hs
      · split at hs
        · rename_i hno
          simp only [List.all_eq_true, Bool.or_eq_true, Bool.not_eq_true', beq_eq_false_iff_ne, Nat.blt_eq] at hno
          cases hs
          refine ⟨_, List.mem_singleton.mpr rfl, rfl, ν1, μ, ?_⟩
          show Wd X K B L f ν1 μ lv (retV r ρ 0 p.1 C.2.1 ++ st) _ lvc _
          match hst : C.2.1, h1l with
          | [], _ => exact w13
          | [v], _ =>
            have hv : v ∈ C.2.1 := by rw [hst]; exact List.mem_singleton.mpr rfl
            have := w13.push (v.1, if Nat.blt v.2.1 r then ρ.getD v.2.1 0 else 0, sub 0 p.1 v.2.2)
            rw [hval v μ _ hv (fun h2 => by
              rcases hno v hv with h3 | h3
              · exact absurd h2 h3
              · rw [if_pos (by simpa using h3)]
                exact (hr _ h3).symm)] at this
            exact this
        · cases hs
      · rename_i kn hdr
        split at hs
        · rename_i hcn
          simp only [Bool.and_eq_true, List.all_eq_true, Nat.blt_eq, Nat.ble_eq] at hcn
          obtain ⟨⟨⟨c1, c2⟩, c3⟩, c4⟩ := hcn
          cases hs
          have hkr : C.2.2.1.2.2.2.1[r]? = some kn := by
            have : (C.2.2.1.2.2.2.1.drop r)[0]? = some kn := by rw [hdr]; rfl
            rw [List.getElem?_drop, Nat.add_zero] at this
            exact this
          obtain ⟨m1, m2⟩ := hc.2.2.2.1 r kn hkr
          have w16 := w13.frR c1 m1 m2
          refine ⟨_, List.mem_singleton.mpr rfl, rfl, ν1, va_up μ (addAs (addMs p.1 G4 C.2.2.1.2.2.2.2.1) C.2.2.1.2.2.2.2.2.1).2.2.2.1.length (μc r), ?_⟩
          show Wd X K B L f ν1 _ lv (retV r ρ _ p.1 C.2.1 ++ st) _ lvc _
          match hst : C.2.1, h1l with
          | [], _ => exact w16
          | [v], _ =>
            have hv : v ∈ C.2.1 := by rw [hst]; exact List.mem_singleton.mpr rfl
            have := w16.push (v.1, if Nat.blt v.2.1 r then ρ.getD v.2.1 0 else (addAs (addMs p.1 G4 C.2.2.1.2.2.2.2.1) C.2.2.1.2.2.2.2.2.1).2.2.2.1.length, sub 0 p.1 v.2.2)
            rw [hval v _ _ hv (fun h2 => by
              by_cases hvr : v.2.1 < r
              · rw [if_pos (by simpa using hvr), va_up_ne]
                · exact (hr _ hvr).symm
                · rw [hkd]
                  have hlt : v.2.1 < ρ.length := by omega
                  · have h5 := c3 ρ[v.2.1] (List.getElem_mem hlt)
                    rw [List.getD_eq_getElem?_getD, List.getElem?_eq_getElem hlt]
                    show ρ[v.2.1] ≠ _
                    omega
              · have h6 := (c2 v hv).2
                have h7 : v.2.1 = r := by omega
                rw [if_neg (by simpa using hvr), va_up_self, h7])] at this
            exact this
        · cases hs
      · cases hs
    · cases hs
end IM
