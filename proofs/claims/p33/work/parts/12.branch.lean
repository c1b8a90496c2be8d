/-! Branches. What a condition of a term says: terms that are 0 or more; or that it isn't 0. -/
def cndT (c : ClassFile.Cond) (e : EX) : List EX × Bool := match c with
  | .eq => ([e, xsc (-1) e], false)
  | .ne => ([], true)
  | .lt => ([xk (xsc (-1) e) (-1)], false)
  | .ge => ([e], false)
  | .gt => ([xk e (-1)], false)
  | .le => ([xsc (-1) e], false)
def cndF (c : ClassFile.Cond) (e : EX) : List EX × Bool := match c with
  | .eq => ([], true)
  | .ne => ([e, xsc (-1) e], false)
  | .lt => ([e], false)
  | .ge => ([xk (xsc (-1) e) (-1)], false)
  | .gt => ([xsc (-1) e], false)
  | .le => ([xk e (-1)], false)
def asG (G : EG) (e : EX) : Option EG := match asm (G.1, G.2.1) e with
  | some p => some (p.1, p.2, G.2.2)
  | none => none
def asGs (G : EG) : List EX → Option EG
  | [] => some G
  | e :: es => match asG G e with
    | some G' => asGs G' es
    | none => none
def asNe (G : EG) (e : EX) : Option EG := if decide (lb G.1 e = 0) then asG G (xk e (-1)) else if decide (ub G.1 e = 0) then asG G (xk (xsc (-1) e) (-1)) else some (G.1, G.2.1, e :: G.2.2.1, G.2.2.2)
def asC (G : EG) (e : EX) (c : List EX × Bool) : Option EG := if c.2 then asNe G e else asGs G c.1
section BR
variable {X : EC} {K : Nat → Nat} {B : Int} {L : List Nat} {f : Nat → va_E} {ν : Nat → Int} {μ : Nat → Nat} {lv : EL} {st : List EV} {G : EG} {lvc : List (Nat × Value)} {stc : List Value}
theorem Wd.as1 (h : Wd X K B L f ν μ lv st G lvc stc) {e : EX} (he : 0 ≤ xv ν e) : ∃ G', asG G e = some G' ∧ Wd X K B L f ν μ lv st G' lvc stc := by
  obtain ⟨hh, hx, hi, ⟨g1, g2, g3, g4, g5, g6, g7⟩, hl, ht⟩ := h
  obtain ⟨p, hp, p1, p2, p3⟩ := asm_ok (p := (G.1, G.2.1)) g1 g2 he
  refine ⟨(p.1, p.2, G.2.2), by unfold asG; rw [hp], hh, hx, ?_, ⟨p1, p2, g3, g4, g5, g6, g7⟩, hl, ht⟩
  obtain ⟨cy, mods, L0, f0, K0, n0, ν0, r0, μ0⟩ := X
  exact ⟨by show n0 ≤ p.1.length; rw [p3]; exact hi.1, hi.2⟩
theorem Wd.ass : ∀ (es : List EX) {G : EG}, Wd X K B L f ν μ lv st G lvc stc → (∀ e ∈ es, 0 ≤ xv ν e) → ∃ G', asGs G es = some G' ∧ Wd X K B L f ν μ lv st G' lvc stc := by
  intro es
  induction es with
  | nil => intro G h _; exact ⟨G, rfl, h⟩
  | cons e es ih =>
    intro G h he
    obtain ⟨G1, h1, h2⟩ := h.as1 (he e List.mem_cons_self)
    obtain ⟨G2, h3, h4⟩ := ih h2 (fun x hx => he x (List.mem_cons_of_mem _ hx))
    exact ⟨G2, by unfold asGs; rw [h1]; exact h3, h4⟩
theorem Wd.ane (h : Wd X K B L f ν μ lv st G lvc stc) {e : EX} (he : xv ν e ≠ 0) : ∃ G', asNe G e = some G' ∧ Wd X K B L f ν μ lv st G' lvc stc := by
  have hl := lb_ok h.2.2.2.1.1 e
  have hu := ub_ok h.2.2.2.1.1 e
  unfold asNe
  split
  · rename_i hc
    have := of_decide_eq_true hc
    exact h.as1 (by rw [xv_k]; omega)
  · split
    · rename_i hc
      have := of_decide_eq_true hc
      exact h.as1 (by rw [xv_k, xv_sc]; omega)
    · obtain ⟨hh, hx, hi, ⟨g1, g2, g3, g4, g5, g6, g7⟩, hl, ht⟩ := h
      refine ⟨_, rfl, hh, hx, ?_, ⟨g1, g2, fun s hs => ?_, g4, g5, g6, g7⟩, hl, ht⟩
      · obtain ⟨cy, mods, L0, f0, K0, n0, ν0, r0, μ0⟩ := X
        exact hi
      · rcases List.mem_cons.mp hs with rfl | hs
        · exact he
        · exact g3 s hs
/-- what a condition means of a number -/
def cm (c : ClassFile.Cond) (z : Int) : Prop := match c with
  | .eq => z = 0
  | .ne => z ≠ 0
  | .lt => z < 0
  | .ge => 0 ≤ z
  | .gt => 0 < z
  | .le => z ≤ 0
theorem Wd.cT (h : Wd X K B L f ν μ lv st G lvc stc) {c : ClassFile.Cond} {e : EX} (hc : cm c (xv ν e)) : ∃ G', asC G e (cndT c e) = some G' ∧ Wd X K B L f ν μ lv st G' lvc stc := by
  cases c <;> simp only [cm] at hc <;> simp only [asC, cndT, if_true, Bool.false_eq_true, if_false]
  · refine h.ass _ (fun x hx => ?_)
    simp only [List.mem_cons, List.not_mem_nil, or_false] at hx
    rcases hx with rfl | rfl
    · omega
    · rw [xv_sc]; omega
  · exact h.ane hc
  · refine h.ass _ (fun x hx => ?_)
    simp only [List.mem_cons, List.not_mem_nil, or_false] at hx
    subst hx
    rw [xv_k, xv_sc]; omega
  · refine h.ass _ (fun x hx => ?_)
    simp only [List.mem_cons, List.not_mem_nil, or_false] at hx
    subst hx
    exact hc
  · refine h.ass _ (fun x hx => ?_)
    simp only [List.mem_cons, List.not_mem_nil, or_false] at hx
    subst hx
    rw [xv_k]; omega
  · refine h.ass _ (fun x hx => ?_)
    simp only [List.mem_cons, List.not_mem_nil, or_false] at hx
    subst hx
    rw [xv_sc]; omega
theorem Wd.cF (h : Wd X K B L f ν μ lv st G lvc stc) {c : ClassFile.Cond} {e : EX} (hc : ¬ cm c (xv ν e)) : ∃ G', asC G e (cndF c e) = some G' ∧ Wd X K B L f ν μ lv st G' lvc stc := by
  cases c <;> simp only [cm] at hc <;> simp only [asC, cndF, if_true, Bool.false_eq_true, if_false]
  · exact h.ane hc
  · have hc' : xv ν e = 0 := Classical.not_not.mp hc
    refine h.ass _ (fun x hx => ?_)
    simp only [List.mem_cons, List.not_mem_nil, or_false] at hx
    rcases hx with rfl | rfl
    · omega
    · rw [xv_sc]; omega
  · refine h.ass _ (fun x hx => ?_)
    simp only [List.mem_cons, List.not_mem_nil, or_false] at hx
    subst hx
    omega
  · refine h.ass _ (fun x hx => ?_)
    simp only [List.mem_cons, List.not_mem_nil, or_false] at hx
    subst hx
    rw [xv_k, xv_sc]; omega
  · refine h.ass _ (fun x hx => ?_)
    simp only [List.mem_cons, List.not_mem_nil, or_false] at hx
    subst hx
    rw [xv_sc]; omega
  · refine h.ass _ (fun x hx => ?_)
    simp only [List.mem_cons, List.not_mem_nil, or_false] at hx
    subst hx
    rw [xv_k]; omega
end BR
def opl {α : Type} (o : Option α) : List α := match o with
  | some a => [a]
  | none => []
def opm (pc : Nat) (lv : EL) (st : List EV) (o : Option EG) : List EP := match o with
  | some G => [(pc, lv, st, G)]
  | none => []
def rg32 (G : EG) (e : EX) : Bool := decide (-2147483648 ≤ lb G.1 e) && decide (ub G.1 e ≤ 2147483647)
def rg64 (G : EG) (e : EX) : Bool := decide (-9223372036854775808 ≤ lb G.1 e) && decide (ub G.1 e ≤ 9223372036854775807)
/-- branches; lcmp takes the branch behind it with it (i2, l2) -/
def sB (i : Instr) (ln : Nat) (i2 : Option (Instr × Nat)) (pc : Nat) (lv : EL) (st : List EV) (G : EG) : Option (List EP) := match i, st with
  | .ifCond c off, (tx, _, x) :: st' => if tx == 0 && ln == 3 && rg32 G x && decide (0 ≤ (pc : Int) + off) then some (opm ((pc : Int) + off).toNat lv st' (asC G x (cndT c x)) ++ opm (pc + 3) lv st' (asC G x (cndF c x))) else none
  | .if_icmp c off, (ty, _, y) :: (tx, _, x) :: st' => if ty == 0 && tx == 0 && ln == 3 && rg32 G x && rg32 G y && decide (0 ≤ (pc : Int) + off) then some (opm ((pc : Int) + off).toNat lv st' (asC G (xsub x y) (cndT c (xsub x y))) ++ opm (pc + 3) lv st' (asC G (xsub x y) (cndF c (xsub x y)))) else none
  | .lcmp, (ty, _, y) :: (tx, _, x) :: st' => (match i2 with
    | some (.ifCond c off, l2) => if ty == 1 && tx == 1 && ln == 1 && l2 == 3 && rg64 G x && rg64 G y && decide (0 ≤ (pc : Int) + 1 + off) then some (opm ((pc : Int) + 1 + off).toNat lv st' (asC G (xsub x y) (cndT c (xsub x y))) ++ opm (pc + 4) lv st' (asC G (xsub x y) (cndF c (xsub x y)))) else none
    | _ => none)
  | .ifnull off, (t, _, _) :: st' => if t == 2 && ln == 3 then some [(pc + 3, lv, st', G)] else if t == 3 && ln == 3 && decide (0 ≤ (pc : Int) + off) then some [(((pc : Int) + off).toNat, lv, st', G)] else none
  | .ifnonnull off, (t, _, _) :: st' => if t == 3 && ln == 3 then some [(pc + 3, lv, st', G)] else if t == 2 && ln == 3 && decide (0 ≤ (pc : Int) + off) then some [(((pc : Int) + off).toNat, lv, st', G)] else none
  | .tableswitch df lo hi offs, (tx, _, x) :: st' => if tx == 0 && rg32 G x && decide (0 ≤ (pc : Int) + df) && offs.toList.all (fun o => decide (0 ≤ (pc : Int) + o)) && decide ((offs.toList.length : Int) = hi - lo + 1) then some (opm ((pc : Int) + df).toNat lv st' (asG G (xk (xsc (-1) x) (lo - 1))) ++ (opm ((pc : Int) + df).toNat lv st' (asG G (xk x (-hi - 1))) ++ (List.range offs.toList.length).flatMap (fun j => opm ((pc : Int) + offs.toList.getD j 0).toNat lv st' (asGs G [xk x (-(lo + j)), xk (xsc (-1) x) (lo + j)])))) else none
  | _, _ => none
