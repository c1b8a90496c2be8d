/-! Templates: ids below n0, references below r0 are given; the rest is put in place by terms w, references ρ. -/
abbrev TP : Type := EL × List EV × EG × List (Nat × Nat × EX) × List (Nat × Nat)
def idR (r0 : Nat) (ρ : List Nat) (i : Nat) : Nat := if Nat.blt i r0 then i else ρ.getD (i - r0) 0
def mur (r0 : Nat) (ρ : List Nat) (μ : Nat → Nat) : Nat → Nat := fun i => μ (idR r0 ρ i)
def vEq (n0 r0 : Nat) (w : List EX) (ρ : List Nat) (G : EG) (v u : EV) : Bool := v.1 == u.1 && (if v.1 == 0 || v.1 == 1 then eqv G.1 G.2.1 (sub n0 w v.2.2) u.2.2 else if v.1 == 2 then idR r0 ρ v.2.1 == u.2.1 else true)
def notz (G : EG) (e : EX) : Bool := ge0 G.1 G.2.1 (xk e (-1)) || ge0 G.1 G.2.1 (xk (xsc (-1) e) (-1)) || G.2.2.1.any (fun s => s == e) || G.2.2.1.any (fun s => s == xsc (-1) e)
def bndOk (n0 : Nat) (w : List EX) (G : EG) : Nat → EN → Bool
  | _, [] => true
  | i, q :: es => ge2 G.1 G.2.1 (sub n0 w (-q.1, [(1, i)])) && ge2 G.1 G.2.1 (sub n0 w (q.2, [(-1, i)])) && bndOk n0 w G (i + 1) es
def kdOk (r0 : Nat) (ρ : List Nat) (G : EG) : Nat → List Nat → Bool
  | _, [] => true
  | i, k :: ks => (match G.2.2.2.1[idR r0 ρ i]? with
    | some k' => k' == k
    | none => false) && kdOk r0 ρ G (i + 1) ks
def memOk (n0 : Nat) (w : List EX) (G : EG) (q : (Nat × EX) × EX) : Bool := match gM G q.1.1 (sub n0 w q.1.2) with
  | some e => eqv G.1 G.2.1 (sub n0 w q.2) e
  | none => false
def abOk (G : EG) (q : Nat × Int × Int) : Bool := (zkd q.1).1 == 2 && (match srcB G q.1 with
  | some b => decide (q.2.1 ≤ b.1) && decide (b.2 ≤ q.2.2)
  | none => false)
def lvOk (n0 r0 : Nat) (w : List EX) (ρ : List Nat) (G : EG) (lv : EL) (q : Nat × EV) : Bool := match gL lv q.1 with
  | some u => vEq n0 r0 w ρ G q.2 u
  | none => false
def stOk (n0 r0 : Nat) (w : List EX) (ρ : List Nat) (G : EG) : List EV → List EV → Bool
  | [], [] => true
  | v :: vs, u :: us => vEq n0 r0 w ρ G v u && stOk n0 r0 w ρ G vs us
  | _, _ => false
def mOk (n0 r0 : Nat) (w : List EX) (ρ : List Nat) (T : TP) (lv : EL) (st : List EV) (G : EG) : Bool :=
  T.2.2.1.1.length == n0 + w.length && bndOk n0 w G 0 T.2.2.1.1 && T.2.2.1.2.1.all (fun s => ge2 G.1 G.2.1 (sub n0 w s)) && T.2.2.1.2.2.1.all (fun s => notz G (sub n0 w s)) && kdOk r0 ρ G 0 T.2.2.1.2.2.2.1 && T.2.2.1.2.2.2.2.1.all (memOk n0 w G) && T.2.2.1.2.2.2.2.2.1.all (abOk G) && T.2.2.1.2.2.2.2.2.2.isEmpty && T.1.all (lvOk n0 r0 w ρ G lv) && stOk n0 r0 w ρ G T.2.1 st
section TM
variable {K : Nat → Nat} {B : Int} {L : List Nat} {f : Nat → va_E} {ν : Nat → Int} {μ : Nat → Nat} {lv : EL} {st : List EV} {G : EG} {lvc : List (Nat × Value)} {stc : List Value} {X : EC} {n0 r0 : Nat} {w : List EX} {ρ : List Nat}
theorem gM_mok (h : Wd X K B L f ν μ lv st G lvc stc) {k : Nat} {e v : EX} (hg : gM G k e = some v) : mok K B L f ν ((k, e), v) := by
  unfold gM at hg
  cases hf : G.2.2.2.2.1.find? (fun q => q.1.1 == k && q.1.2 == e) with
  | none => rw [hf] at hg; cases hg
  | some q =>
    rw [hf] at hg
    have h1 := List.find?_some hf
    have h2 := List.mem_of_find?_eq_some hf
    simp only [Bool.and_eq_true, beq_iff_eq] at h1
    simp only [Option.map_some, Option.some.injEq] at hg
    have h3 := h.2.2.2.1.2.2.2.2.1 q h2
    obtain ⟨⟨q1, q2⟩, q3⟩ := q
    obtain ⟨rfl, rfl⟩ := h1
    rw [← hg]
    exact h3
theorem bndOk_ok (h : Wd X K B L f ν μ lv st G lvc stc) : ∀ (es : EN) (i : Nat), bndOk n0 w G i es = true → ∀ (j : Nat) (q : Int × Int), es[j]? = some q → q.1 ≤ nuw n0 w ν (i + j) ∧ nuw n0 w ν (i + j) ≤ q.2 := by
  intro es
  induction es with
  | nil => intro i _ j q hq; cases hq
  | cons a es ih =>
    intro i hb j q hq
    unfold bndOk at hb
    simp only [Bool.and_eq_true] at hb
    match j with
    | 0 =>
      have hq' : a = q := by simpa using hq
      subst hq'
      have h1 := ge2_ok h.2.2.2.1.1 h.2.2.2.1.2.1 hb.1.1
      have h2 := ge2_ok h.2.2.2.1.1 h.2.2.2.1.2.1 hb.1.2
      rw [sub_v] at h1 h2
      simp only [xv, xvT] at h1 h2
      show a.1 ≤ nuw n0 w ν i ∧ nuw n0 w ν i ≤ a.2
      omega
    | j + 1 =>
      have := ih (i + 1) hb.2 j q (by simpa using hq)
      have e : i + 1 + j = i + (j + 1) := by omega
      rw [e] at this
      exact this
theorem kdOk_ok (h : Wd X K B L f ν μ lv st G lvc stc) : ∀ (ks : List Nat) (i : Nat), kdOk r0 ρ G i ks = true → ∀ (j k : Nat), ks[j]? = some k → mur r0 ρ μ (i + j) ∈ L ∧ K (mur r0 ρ μ (i + j)) = k := by
  intro ks
  induction ks with
  | nil => intro i _ j k hk; cases hk
  | cons a ks ih =>
    intro i hb j k hk
    unfold kdOk at hb
    simp only [Bool.and_eq_true] at hb
    match j with
    | 0 =>
      have hk' : a = k := by simpa using hk
      subst hk'
      have h1 := hb.1
      split at h1
      · rename_i k' hk'
        have e : k' = a := by simpa using h1
        subst e
        exact h.ref hk'
      · cases h1
    | j + 1 =>
      have := ih (i + 1) hb.2 j k (by simpa using hk)
      have e : i + 1 + j = i + (j + 1) := by omega
      rw [e] at this
      exact this
theorem vEq_ok (h : Wd X K B L f ν μ lv st G lvc stc) {v u : EV} (hv : vEq n0 r0 w ρ G v u = true) : cv (nuw n0 w ν) (mur r0 ρ μ) v = cv ν μ u := by
  obtain ⟨t, r, e⟩ := v
  obtain ⟨t2, r2, e2⟩ := u
  unfold vEq at hv
  simp only [Bool.and_eq_true, beq_iff_eq] at hv
  obtain ⟨rfl, hv⟩ := hv
  match t with
  | 0 =>
    have h1 := eqv_ok h.2.2.2.1.1 h.2.2.2.1.2.1 (show eqv G.1 G.2.1 (sub n0 w e) e2 = true from hv)
    rw [sub_v] at h1
    rw [cv0 rfl, cv0 rfl]
    show Value.int (Int32.ofInt (xv _ e)) = Value.int (Int32.ofInt (xv ν e2))
    rw [h1]
  | 1 =>
    have h1 := eqv_ok h.2.2.2.1.1 h.2.2.2.1.2.1 (show eqv G.1 G.2.1 (sub n0 w e) e2 = true from hv)
    rw [sub_v] at h1
    rw [cv1 rfl, cv1 rfl]
    show Value.long (Int64.ofInt (xv _ e)) = Value.long (Int64.ofInt (xv ν e2))
    rw [h1]
  | 2 =>
    have h1 : idR r0 ρ r = r2 := by
      have : (idR r0 ρ r == r2) = true := hv
      simpa using this
    rw [cv2 rfl, cv2 rfl]
    show Value.ref (μ (idR r0 ρ r)) = Value.ref (μ r2)
    rw [h1]
  | t + 3 => rfl
theorem stOk_ok (h : Wd X K B L f ν μ lv st G lvc stc) : ∀ (vs us : List EV), stOk n0 r0 w ρ G vs us = true → us.map (cv ν μ) = vs.map (cv (nuw n0 w ν) (mur r0 ρ μ)) := by
  intro vs
  induction vs with
  | nil =>
    intro us hu
    cases us with
    | nil => rfl
    | cons u us => cases hu
  | cons v vs ih =>
    intro us hu
    cases us with
    | nil => cases hu
    | cons u us =>
      unfold stOk at hu
      simp only [Bool.and_eq_true] at hu
      simp only [List.map_cons]
      rw [ih us hu.2, vEq_ok h hu.1]
theorem mOk_ok (h : Wd X K B L f ν μ lv st G lvc stc) {T : TP} (hm : mOk n0 r0 w ρ T lv st G = true) : gok K B L f T.2.2.1 (nuw n0 w ν) (mur r0 ρ μ) ∧ (∀ q ∈ T.1, (q.1, cv (nuw n0 w ν) (mur r0 ρ μ) q.2) ∈ lvc) ∧ stc = T.2.1.map (cv (nuw n0 w ν) (mur r0 ρ μ)) := by
  unfold mOk at hm
  simp only [Bool.and_eq_true, beq_iff_eq, List.all_eq_true] at hm
  obtain ⟨⟨⟨⟨⟨⟨⟨⟨⟨m0, m1⟩, m2⟩, m3⟩, m4⟩, m5⟩, m6⟩, m7⟩, m8⟩, m9⟩ := hm
  refine ⟨⟨fun i => ?_, fun s hs => ?_, fun s hs => ?_, fun i k hk => ?_, fun q hq => ?_, fun q hq => ?_, fun q hq => ?_⟩, fun q hq => ?_, ?_⟩
  · unfold ebd
    rw [List.getD_eq_getElem?_getD]
    cases hq : T.2.2.1.1[i]? with
    | some q =>
      have := bndOk_ok h _ 0 m1 i q hq
      rw [Nat.zero_add] at this
      exact this
    | none =>
      have hlen : T.2.2.1.1.length ≤ i := by simpa using hq
      have e : nuw n0 w ν i = 0 := by
        unfold nuw
        rw [if_neg (by omega), List.getD_eq_getElem?_getD, List.getElem?_eq_none (by omega)]
        rfl
      rw [e]
      exact ⟨by decide, by decide⟩
  · have := ge2_ok h.2.2.2.1.1 h.2.2.2.1.2.1 (m2 s hs)
    rw [sub_v] at this
    exact this
  · have h1 := m3 s hs
    rw [← sub_v]
    unfold notz at h1
    simp only [Bool.or_eq_true, List.any_eq_true, beq_iff_eq] at h1
    rcases h1 with ((h1 | h1) | ⟨s', hs', h1⟩) | ⟨s', hs', h1⟩
    · have := ge0_ok h.2.2.2.1.1 h.2.2.2.1.2.1 h1
      rw [xv_k] at this
      omega
    · have := ge0_ok h.2.2.2.1.1 h.2.2.2.1.2.1 h1
      rw [xv_k, xv_sc] at this
      omega
    · have := h.2.2.2.1.2.2.1 s' hs'
      rw [h1] at this
      exact this
    · have := h.2.2.2.1.2.2.1 s' hs'
      rw [h1, xv_sc] at this
      omega
  · have := kdOk_ok h _ 0 m4 i k hk
    rw [Nat.zero_add] at this
    exact this
  · have h1 := m5 q hq
    unfold memOk at h1
    split at h1
    · rename_i e he
      have h2 := eqv_ok h.2.2.2.1.1 h.2.2.2.1.2.1 h1
      have h3 := gM_mok h he
      rw [sub_v] at h2
      unfold mok at h3 ⊢
      dsimp only at h3
      rw [sub_v, ← h2] at h3
      exact h3
    · cases h1
  · have h1 := m6 q hq
    unfold abOk at h1
    simp only [Bool.and_eq_true, beq_iff_eq] at h1
    obtain ⟨hz, h1⟩ := h1
    split at h1
    · rename_i bb hbb
      simp only [Bool.and_eq_true, decide_eq_true_eq] at h1
      intro b hb hkb i hi
      have hcok := h.1.1 b hb
      rw [hkb] at hcok
      unfold cok at hcok
      rw [hz] at hcok
      obtain ⟨g, hf, -⟩ := hcok
      have h2 := srcB_ok h hb hkb hz rfl hf hbb i hi
      exact ⟨(g i).toInt, by rw [hf]; rfl, by omega, by omega⟩
    · cases h1
  · have h1 : T.2.2.1.2.2.2.2.2.2 = [] := List.isEmpty_iff.mp m7
    rw [h1] at hq
    cases hq
  · have h1 := m8 q hq
    unfold lvOk at h1
    split at h1
    · rename_i u hu
      rw [vEq_ok h h1]
      exact h.loc hu
    · cases h1
  · rw [h.2.2.2.2.2]
    exact stOk_ok h _ _ m9
end TM
/-- where the terms are found -/
def lookB (n0 : Nat) (lv : EL) (st : List EV) (G : EG) (w : List EX) (b : Nat × Nat × EX) : Option EX := match b.1 with
  | 0 => (gL lv b.2.1).map (fun v => v.2.2)
  | 1 => (st[b.2.1]?).map (fun v => v.2.2)
  | _ => gM G b.2.1 (sub n0 w b.2.2)
def wOf (n0 : Nat) (lv : EL) (st : List EV) (G : EG) : List (Nat × Nat × EX) → List EX → Option (List EX)
  | [], w => some w
  | b :: bs, w => match lookB n0 lv st G w b with
    | some e => wOf n0 lv st G bs (w ++ [e])
    | none => none
def rOf (lv : EL) (st : List EV) : List (Nat × Nat) → Option (List Nat)
  | [] => some []
  | b :: bs => match (if b.1 == 0 then gL lv b.2 else st[b.2]?), rOf lv st bs with
    | some v, some l => some (v.2.1 :: l)
    | _, _ => none
/-- the state is one of the template's -/
def mT (n0 r0 : Nat) (T : TP) (lv : EL) (st : List EV) (G : EG) : Option (List EX × List Nat) := match wOf n0 lv st G T.2.2.2.1 [], rOf lv st T.2.2.2.2 with
  | some w, some ρ => if mOk n0 r0 w ρ T lv st G then some (w, ρ) else none
  | _, _ => none
theorem mT_ok {n0 r0 : Nat} {T : TP} {lv : EL} {st : List EV} {G : EG} {q : List EX × List Nat} (h : mT n0 r0 T lv st G = some q) : mOk n0 r0 q.1 q.2 T lv st G = true := by
  unfold mT at h
  split at h
  · split at h
    · rename_i hm
      cases h
      exact hm
    · cases h
  · cases h
