/-! Branches. What a condition of a term says: terms that are 0 or more; or that it isn't 0. -/
def cndT (c : ClassFile.Cond) (e : EX) : List EX × Bool := match c with
  | .eq => ([e, xsc (-1) e], false)
  | .ne => ([], true)
  | .lt => ([xk (xsc (-1) e) (-1)], false)
  | .ge => ([e], false)
  | .gt => ([xk e (-1)], false)
  | .le => ([xsc (-1) e], false)
def cndF (c : ClassFile.Cond) (e : EX) : List EX × Bool := match c with
  | .eq => ([], true)
  | .ne => ([e, xsc (-1) e], false)
  | .lt => ([e], false)
  | .ge => ([xk (xsc (-1) e) (-1)], false)
  | .gt => ([xsc (-1) e], false)
  | .le => ([xk e (-1)], false)
def asG (G : EG) (e : EX) : Option EG := match asm (G.1, G.2.1) e with
  | some p => some (p.1, p.2, G.2.2)
  | none => none
def asGs (G : EG) : List EX → Option EG
  | [] => some G
  | e :: es => match asG G e with
    | some G' => asGs G' es
    | none => none
def asNe (G : EG) (e : EX) : Option EG := if decide (lb G.1 e = 0) then asG G (xk e (-1)) else if decide (ub G.1 e = 0) then asG G (xk (xsc (-1) e) (-1)) else some (G.1, G.2.1, e :: G.2.2.1, G.2.2.2)
def asC (G : EG) (e : EX) (c : List EX × Bool) : Option EG := if c.2 then asNe G e else asGs G c.1
section BR
variable {X : EC} {K : Nat → Nat} {B : Int} {L : List Nat} {f : Nat → va_E} {ν : Nat → Int} {μ : Nat → Nat} {lv : EL} {st : List EV} {G : EG} {lvc : List (Nat × Value)} {stc : List Value}
theorem Wd.as1 (h : Wd X K B L f ν μ lv st G lvc stc) {e : EX} (he : 0 ≤ xv ν e) : ∃ G', asG G e = some G' ∧ Wd X K B L f ν μ lv st G' lvc stc := by
  obtain ⟨hh, hx, hi, ⟨g1, g2, g3, g4, g5, g6, g7⟩, hl, ht⟩ := h
  obtain ⟨p, hp, p1, p2, p3⟩ := asm_ok (p := (G.1, G.2.1)) g1 g2 he
  refine ⟨(p.1, p.2, G.2.2), by unfold asG; rw [hp], hh, hx, ?_, ⟨p1, p2, g3, g4, g5, g6, g7⟩, hl, ht⟩
  obtain ⟨cy, mods, L0, f0, K0, n0, ν0, r0, μ0⟩ := X
  exact ⟨by show n0 ≤ p.1.length; rw [p3]; exact hi.1, hi.2⟩
theorem Wd.ass : ∀ (es : List EX) {G : EG}, Wd X K B L f ν μ lv st G lvc stc → (∀ e ∈ es, 0 ≤ xv ν e) → ∃ G', asGs G es = some G' ∧ Wd X K B L f ν μ lv st G' lvc stc := by
  intro es
  induction es with
  | nil => intro G h _; exact ⟨G, rfl, h⟩
  | cons e es ih =>
    intro G h he
    obtain ⟨G1, h1, h2⟩ := h.as1 (he e List.mem_cons_self)
    obtain ⟨G2, h3, h4⟩ := ih h2 (fun x hx => he x (List.mem_cons_of_mem _ hx))
    exact ⟨G2, by unfold asGs; rw [h1]; exact h3, h4⟩
theorem Wd.ane (h : Wd X K B L f ν μ lv st G lvc stc) {e : EX} (he : xv ν e ≠ 0) : ∃ G', asNe G e = some G' ∧ Wd X K B L f ν μ lv st G' lvc stc := by
  have hl := lb_ok h.2.2.2.1.1 e
  have hu := ub_ok h.2.2.2.1.1 e
  unfold asNe
  split
  · rename_i hc
    have := of_decide_eq_true hc
    exact h.as1 (by rw [xv_k]; omega)
  · split
    · rename_i hc
      have := of_decide_eq_true hc
      exact h.as1 (by rw [xv_k, xv_sc]; omega)
    · obtain ⟨hh, hx, hi, ⟨g1, g2, g3, g4, g5, g6, g7⟩, hl, ht⟩ := h
      refine ⟨_, rfl, hh, hx, ?_, ⟨g1, g2, fun s hs => ?_, g4, g5, g6, g7⟩, hl, ht⟩
      · obtain ⟨cy, mods, L0, f0, K0, n0, ν0, r0, μ0⟩ := X
        exact hi
      · rcases List.mem_cons.mp hs with rfl | hs
        · exact he
        · exact g3 s hs
/-- what a condition means of a number -/
def cm (c : ClassFile.Cond) (z : Int) : Prop := match c with
  | .eq => z = 0
  | .ne => z ≠ 0
  | .lt => z < 0
  | .ge => 0 ≤ z
  | .gt => 0 < z
  | .le => z ≤ 0
theorem Wd.cT (h : Wd X K B L f ν μ lv st G lvc stc) {c : ClassFile.Cond} {e : EX} (hc : cm c (xv ν e)) : ∃ G', asC G e (cndT c e) = some G' ∧ Wd X K B L f ν μ lv st G' lvc stc := by
  cases c <;> simp only [cm] at hc <;> simp only [asC, cndT, if_true, Bool.false_eq_true, if_false]
  · refine h.ass _ (fun x hx => ?_)
    simp only [List.mem_cons, List.not_mem_nil, or_false] at hx
    rcases hx with rfl | rfl
    · omega
    · rw [xv_sc]; omega
  · exact h.ane hc
  · refine h.ass _ (fun x hx => ?_)
    simp only [List.mem_cons, List.not_mem_nil, or_false] at hx
    subst hx
    rw [xv_k, xv_sc]; omega
  · refine h.ass _ (fun x hx => ?_)
    simp only [List.mem_cons, List.not_mem_nil, or_false] at hx
    subst hx
    exact hc
  · refine h.ass _ (fun x hx => ?_)
    simp only [List.mem_cons, List.not_mem_nil, or_false] at hx
    subst hx
    rw [xv_k]; omega
  · refine h.ass _ (fun x hx => ?_)
    simp only [List.mem_cons, List.not_mem_nil, or_false] at hx
    subst hx
    rw [xv_sc]; omega
theorem Wd.cF (h : Wd X K B L f ν μ lv st G lvc stc) {c : ClassFile.Cond} {e : EX} (hc : ¬ cm c (xv ν e)) : ∃ G', asC G e (cndF c e) = some G' ∧ Wd X K B L f ν μ lv st G' lvc stc := by
  cases c <;> simp only [cm] at hc <;> simp only [asC, cndF, if_true, Bool.false_eq_true, if_false]
  · exact h.ane hc
  · have hc' : xv ν e = 0 := Classical.not_not.mp hc
    refine h.ass _ (fun x hx => ?_)
    simp only [List.mem_cons, List.not_mem_nil, or_false] at hx
    rcases hx with rfl | rfl
    · omega
    · rw [xv_sc]; omega
  · refine h.ass _ (fun x hx => ?_)
    simp only [List.mem_cons, List.not_mem_nil, or_false] at hx
    subst hx
    omega
  · refine h.ass _ (fun x hx => ?_)
    simp only [List.mem_cons, List.not_mem_nil, or_false] at hx
    subst hx
    rw [xv_k, xv_sc]; omega
  · refine h.ass _ (fun x hx => ?_)
    simp only [List.mem_cons, List.not_mem_nil, or_false] at hx
    subst hx
    rw [xv_sc]; omega
  · refine h.ass _ (fun x hx => ?_)
    simp only [List.mem_cons, List.not_mem_nil, or_false] at hx
    subst hx
    rw [xv_k]; omega
end BR
def opl {α : Type} (o : Option α) : List α := match o with
  | some a => [a]
  | none => []
def opm (pc : Nat) (lv : EL) (st : List EV) (o : Option EG) : List EP := match o with
  | some G => [(pc, lv, st, G)]
  | none => []
def rg32 (G : EG) (e : EX) : Bool := decide (-2147483648 ≤ lb G.1 e) && decide (ub G.1 e ≤ 2147483647)
def rg64 (G : EG) (e : EX) : Bool := decide (-9223372036854775808 ≤ lb G.1 e) && decide (ub G.1 e ≤ 9223372036854775807)
/-- branches; lcmp takes the branch behind it with it (i2, l2) -/
def sB (i : Instr) (ln : Nat) (i2 : Option (Instr × Nat)) (pc : Nat) (lv : EL) (st : List EV) (G : EG) : Option (List EP) := match i, st with
  | .ifCond c off, (tx, _, x) :: st' => if tx == 0 && ln == 3 && rg32 G x && decide (0 ≤ (pc : Int) + off) then some (opm ((pc : Int) + off).toNat lv st' (asC G x (cndT c x)) ++ opm (pc + 3) lv st' (asC G x (cndF c x))) else none
  | .if_icmp c off, (ty, _, y) :: (tx, _, x) :: st' => if ty == 0 && tx == 0 && ln == 3 && rg32 G x && rg32 G y && decide (0 ≤ (pc : Int) + off) then some (opm ((pc : Int) + off).toNat lv st' (asC G (xsub x y) (cndT c (xsub x y))) ++ opm (pc + 3) lv st' (asC G (xsub x y) (cndF c (xsub x y)))) else none
  | .lcmp, (ty, _, y) :: (tx, _, x) :: st' => (match i2 with
    | some (.ifCond c off, l2) => if ty == 1 && tx == 1 && ln == 1 && l2 == 3 && rg64 G x && rg64 G y && decide (0 ≤ (pc : Int) + 1 + off) then some (opm ((pc : Int) + 1 + off).toNat lv st' (asC G (xsub x y) (cndT c (xsub x y))) ++ opm (pc + 4) lv st' (asC G (xsub x y) (cndF c (xsub x y)))) else none
    | _ => none)
  | .ifnull off, (t, _, _) :: st' => if t == 2 && ln == 3 then some [(pc + 3, lv, st', G)] else if t == 3 && ln == 3 && decide (0 ≤ (pc : Int) + off) then some [(((pc : Int) + off).toNat, lv, st', G)] else none
  | .ifnonnull off, (t, _, _) :: st' => if t == 3 && ln == 3 then some [(pc + 3, lv, st', G)] else if t == 2 && ln == 3 && decide (0 ≤ (pc : Int) + off) then some [(((pc : Int) + off).toNat, lv, st', G)] else none
  | .tableswitch df lo hi offs, (tx, _, x) :: st' => if tx == 0 && rg32 G x && decide (0 ≤ (pc : Int) + df) && offs.toList.all (fun o => decide (0 ≤ (pc : Int) + o)) && decide ((offs.toList.length : Int) = hi - lo + 1) then some (opm ((pc : Int) + df).toNat lv st' (asG G (xk (xsc (-1) x) (lo - 1))) ++ (opm ((pc : Int) + df).toNat lv st' (asG G (xk x (-hi - 1))) ++ (List.range offs.toList.length).flatMap (fun j => opm ((pc : Int) + offs.toList.getD j 0).toNat lv st' (asGs G [xk x (-(lo + j)), xk (xsc (-1) x) (lo + j)])))) else none
  | _, _ => none
theorem lg_cmp_i (x y : Int64) : (lg_cmp x y).toInt = if x.toInt < y.toInt then -1 else if x.toInt = y.toInt then 0 else 1 := by
  unfold lg_cmp
  simp only [gt_iff_lt, Int64.lt_iff_toInt_lt, ← Int64.toInt_inj]
  by_cases h1 : y.toInt < x.toInt
  · rw [if_pos h1, if_neg (by omega), if_neg (by omega)]
    rfl
  · rw [if_neg h1]
    by_cases h2 : x.toInt = y.toInt
    · rw [if_pos h2, if_neg (by omega), if_pos h2]
      rfl
    · rw [if_neg h2, if_pos (by omega)]
      rfl
section BK
variable {E : zCx} {X0 : zC0} {own : String} {cc : ByteArray} {nL : Nat} {R0 : Room} {k n : Nat} {X : EC} {K : Nat → Nat} {B : Int} {L : List Nat} {f : Nat → va_E} {ν : Nat → Int} {μ : Nat → Nat} {lv : EL} {st : List EV} {G : EG} {lvc : List (Nat × Value)} {stc : List Value} {i : Instr} {ln pc : Nat}
theorem x_ifc {x : Int32} {c : ClassFile.Cond} {off : Int} {tgt : Nat} {s : List Value} (hE : zOk E X0 own cc nL R0) (hd : decode cc pc = .ok (.ifCond c off, 3)) (ht : (pc : Int) + off = (tgt : Int)) (kt : cm c x.toInt → eW E k n L f tgt lvc s) (kf : ¬ cm c x.toInt → eW E k n L f (pc + 3) lvc s) : eW E k n L f pc lvc (.int x :: s) := by
  have e0 : (0 : Int32).toInt = 0 := rfl
  cases c
  · exact x_if_eq hE hd ht (fun h => kt ((fa_eq x 0).mp h)) (fun h => kf (fun h2 => h ((fa_eq x 0).mpr h2)))
  · exact x_if_ne hE hd ht (fun h => kt (fun h2 => h ((fa_eq x 0).mpr h2))) (fun h => kf (fun h2 => h2 ((fa_eq x 0).mp h)))
  · exact x_if_lt hE hd ht (fun h => kt ((fa_lt x 0).mp h)) (fun h => kf (fun h2 => h ((fa_lt x 0).mpr h2)))
  · exact x_if_ge hE hd ht (fun h => kt ((fa_le 0 x).mp h)) (fun h => kf (fun h2 => h ((fa_le 0 x).mpr h2)))
  · exact x_if_gt hE hd ht (fun h => kt ((fa_lt 0 x).mp h)) (fun h => kf (fun h2 => h ((fa_lt 0 x).mpr h2)))
  · exact x_if_le hE hd ht (fun h => kt ((fa_le x 0).mp h)) (fun h => kf (fun h2 => h ((fa_le x 0).mpr h2)))
theorem x_icc {x y : Int32} {c : ClassFile.Cond} {off : Int} {tgt : Nat} {s : List Value} (hE : zOk E X0 own cc nL R0) (hd : decode cc pc = .ok (.if_icmp c off, 3)) (ht : (pc : Int) + off = (tgt : Int)) (kt : cm c (x.toInt - y.toInt) → eW E k n L f tgt lvc s) (kf : ¬ cm c (x.toInt - y.toInt) → eW E k n L f (pc + 3) lvc s) : eW E k n L f pc lvc (.int y :: .int x :: s) := by
  cases c
  · exact x_icmp_eq hE hd ht (fun h => kt (by have := (fa_eq x y).mp h; show _ = _; omega)) (fun h => kf (fun h2 => h ((fa_eq x y).mpr (by have h3 : x.toInt - y.toInt = 0 := h2; omega))))
  · exact x_icmp_ne hE hd ht (fun h => kt (fun h2 => h ((fa_eq x y).mpr (by have h3 : x.toInt - y.toInt = 0 := h2; omega)))) (fun h => kf (fun h2 => h2 (by have := (fa_eq x y).mp h; show x.toInt - y.toInt = 0; omega)))
  · exact x_icmp_lt hE hd ht (fun h => kt (by have := (fa_lt x y).mp h; show x.toInt - y.toInt < 0; omega)) (fun h => kf (fun h2 => h ((fa_lt x y).mpr (by have h3 : x.toInt - y.toInt < 0 := h2; omega))))
  · exact x_icmp_ge hE hd ht (fun h => kt (by have := (fa_le y x).mp h; show 0 ≤ x.toInt - y.toInt; omega)) (fun h => kf (fun h2 => h ((fa_le y x).mpr (by have h3 : 0 ≤ x.toInt - y.toInt := h2; omega))))
  · exact x_icmp_gt hE hd ht (fun h => kt (by have := (fa_lt y x).mp h; show 0 < x.toInt - y.toInt; omega)) (fun h => kf (fun h2 => h ((fa_lt y x).mpr (by have h3 : 0 < x.toInt - y.toInt := h2; omega))))
  · exact x_icmp_le hE hd ht (fun h => kt (by have := (fa_le x y).mp h; show x.toInt - y.toInt ≤ 0; omega)) (fun h => kf (fun h2 => h ((fa_le x y).mpr (by have h3 : x.toInt - y.toInt ≤ 0 := h2; omega))))
theorem rg32_ok (h : eok G.1 ν) {e : EX} (hr : rg32 G e = true) : (Int32.ofInt (xv ν e)).toInt = xv ν e := by
  unfold rg32 at hr
  simp only [Bool.and_eq_true, decide_eq_true_eq] at hr
  have := lb_ok h e
  have := ub_ok h e
  exact i32i (by omega) (by omega)
theorem rg64_ok (h : eok G.1 ν) {e : EX} (hr : rg64 G e = true) : (Int64.ofInt (xv ν e)).toInt = xv ν e := by
  unfold rg64 at hr
  simp only [Bool.and_eq_true, decide_eq_true_eq] at hr
  have := lb_ok h e
  have := ub_ok h e
  exact Int64.toInt_ofInt_of_le (by omega) (by omega)
theorem opm_mem {p : Nat} {lv : EL} {st : List EV} {o : Option EG} {G' : EG} (h : o = some G') : (p, lv, st, G') ∈ opm p lv st o := by
  rw [h]
  exact List.mem_singleton.mpr rfl
theorem cm_cmp {c : ClassFile.Cond} {x y : Int64} : cm c (lg_cmp x y).toInt ↔ cm c (x.toInt - y.toInt) := by
  rw [lg_cmp_i]
  cases c <;> simp only [cm] <;> (split <;> (try split)) <;> constructor <;> intro h <;> (try omega)
/-- every way on is good: so is this -/
def Alls (E : zCx) (k n : Nat) (X : EC) (K : Nat → Nat) (B : Int) (L : List Nat) (f : Nat → va_E) (rs : List EP) : Prop := ∀ r ∈ rs, ∀ (ν : Nat → Int) (μ : Nat → Nat) (lvc : List (Nat × Value)) (stc : List Value), Wd X K B L f ν μ r.2.1 r.2.2.1 r.2.2.2 lvc stc → eW E k n L f r.1 lvc stc
theorem sB_ok {i2 : Option (Instr × Nat)} {rs : List EP} (hE : zOk E X0 own cc nL R0) (hd : decode cc pc = .ok (i, ln)) (hd2 : ∀ q, i2 = some q → decode cc (pc + 1) = .ok q) (h : Wd X K B L f ν μ lv st G lvc stc) (hs : sB i ln i2 pc lv st G = some rs) (kk : Alls E k n X K B L f rs) : eW E k n L f pc lvc stc := by
  unfold sB at hs
  split at hs
  · rename_i c off tx rx x st'
    split at hs
    · rename_i hc
      simp only [Bool.and_eq_true, beq_iff_eq, decide_eq_true_eq] at hc
      obtain ⟨⟨⟨rfl, rfl⟩, hr⟩, ht⟩ := hc
      cases hs
      obtain ⟨s1, rfl, hw⟩ := h.pop
      rw [cv0 rfl]
      have e1 := rg32_ok hw.2.2.2.1.1 hr
      refine x_ifc (tgt := ((pc : Int) + off).toNat) hE hd (by omega) (fun hcm => ?_) (fun hcm => ?_)
      · rw [e1] at hcm
        obtain ⟨G', g1, g2⟩ := hw.cT hcm
        exact kk _ (List.mem_append_left _ (opm_mem g1)) _ _ _ _ g2
      · rw [e1] at hcm
        obtain ⟨G', g1, g2⟩ := hw.cF hcm
        exact kk _ (List.mem_append_right _ (opm_mem g1)) _ _ _ _ g2
    · cases hs
  · rename_i c off ty ry y tx rx x st'
    split at hs
    · rename_i hc
      simp only [Bool.and_eq_true, beq_iff_eq, decide_eq_true_eq] at hc
      obtain ⟨⟨⟨⟨⟨rfl, rfl⟩, rfl⟩, hr⟩, hr2⟩, ht⟩ := hc
      cases hs
      obtain ⟨s1, rfl, hw1⟩ := h.pop
      obtain ⟨s2, rfl, hw⟩ := hw1.pop
      rw [cv0 rfl, cv0 rfl]
      have e1 := rg32_ok hw.2.2.2.1.1 hr
      have e2 := rg32_ok hw.2.2.2.1.1 hr2
      refine x_icc (tgt := ((pc : Int) + off).toNat) hE hd (by omega) (fun hcm => ?_) (fun hcm => ?_)
      · have hcm' : cm c (xv ν (xsub x y)) := by
          rw [xv_sub, ← e1, ← e2]
          exact hcm
        obtain ⟨G', g1, g2⟩ := hw.cT hcm'
        exact kk _ (List.mem_append_left _ (opm_mem g1)) _ _ _ _ g2
      · have hcm' : ¬ cm c (xv ν (xsub x y)) := by
          rw [xv_sub, ← e1, ← e2]
          exact hcm
        obtain ⟨G', g1, g2⟩ := hw.cF hcm'
        exact kk _ (List.mem_append_right _ (opm_mem g1)) _ _ _ _ g2
    · cases hs
  · rename_i ty ry y tx rx x st'
    split at hs
    · rename_i c off l2
      split at hs
      · rename_i hc
        simp only [Bool.and_eq_true, beq_iff_eq, decide_eq_true_eq] at hc
        obtain ⟨⟨⟨⟨⟨⟨rfl, rfl⟩, rfl⟩, rfl⟩, hr⟩, hr2⟩, ht⟩ := hc
        cases hs
        obtain ⟨s1, rfl, hw1⟩ := h.pop
        obtain ⟨s2, rfl, hw⟩ := hw1.pop
        rw [cv1 rfl, cv1 rfl]
        have e1 := rg64_ok hw.2.2.2.1.1 hr
        have e2 := rg64_ok hw.2.2.2.1.1 hr2
        refine x_lcmp hE hd ?_
        refine x_ifc (tgt := ((pc : Int) + 1 + off).toNat) hE (hd2 _ rfl) (by omega) (fun hcm => ?_) (fun hcm => ?_)
        · have hcm' : cm c (xv ν (xsub x y)) := by
            rw [xv_sub, ← e1, ← e2]
            exact cm_cmp.mp hcm
          obtain ⟨G', g1, g2⟩ := hw.cT hcm'
          exact kk _ (List.mem_append_left _ (opm_mem g1)) _ _ _ _ g2
        · have hcm' : ¬ cm c (xv ν (xsub x y)) := by
            rw [xv_sub, ← e1, ← e2]
            exact fun h9 => hcm (cm_cmp.mpr h9)
          obtain ⟨G', g1, g2⟩ := hw.cF hcm'
          exact kk _ (List.mem_append_right _ (opm_mem g1)) _ _ _ _ g2
      · cases hs
    · cases hs
  · rename_i off t r0 e0 st'
    obtain ⟨s1, rfl, hw⟩ := h.pop
    split at hs
    · rename_i hc
      simp only [Bool.and_eq_true, beq_iff_eq] at hc
      obtain ⟨rfl, rfl⟩ := hc
      cases hs
      rw [cv2 rfl]
      exact x_ifnull hE hd (kk _ (List.mem_singleton.mpr rfl) _ _ _ _ hw)
    · split at hs
      · rename_i hc
        simp only [Bool.and_eq_true, beq_iff_eq, decide_eq_true_eq] at hc
        obtain ⟨⟨rfl, rfl⟩, ht⟩ := hc
        cases hs
        rw [cv3 rfl]
        exact x_ifnullN (tgt := ((pc : Int) + off).toNat) hE hd (by omega) (kk _ (List.mem_singleton.mpr rfl) _ _ _ _ hw)
      · cases hs
  · rename_i off t r0 e0 st'
    obtain ⟨s1, rfl, hw⟩ := h.pop
    split at hs
    · rename_i hc
      simp only [Bool.and_eq_true, beq_iff_eq] at hc
      obtain ⟨rfl, rfl⟩ := hc
      cases hs
      rw [cv3 rfl]
      exact x_ifnonnullN hE hd (kk _ (List.mem_singleton.mpr rfl) _ _ _ _ hw)
    · split at hs
      · rename_i hc
        simp only [Bool.and_eq_true, beq_iff_eq, decide_eq_true_eq] at hc
        obtain ⟨⟨rfl, rfl⟩, ht⟩ := hc
        cases hs
        rw [cv2 rfl]
        exact x_ifnonnull (tgt := ((pc : Int) + off).toNat) hE hd (by omega) (kk _ (List.mem_singleton.mpr rfl) _ _ _ _ hw)
      · cases hs
  · rename_i df lo hi offs tx rx x st'
    split at hs
    · rename_i hc
      simp only [Bool.and_eq_true, beq_iff_eq, decide_eq_true_eq, List.all_eq_true] at hc
      obtain ⟨⟨⟨⟨rfl, hr⟩, ht⟩, hof⟩, hlen⟩ := hc
      cases hs
      obtain ⟨s1, rfl, hw⟩ := h.pop
      rw [cv0 rfl]
      have e1 := rg32_ok hw.2.2.2.1.1 hr
      by_cases h1 : xv ν x < lo
      · refine x_tableOut (tgt := ((pc : Int) + df).toNat) hE hd (Or.inl (by rw [e1]; exact h1)) (by omega) ?_
        obtain ⟨G', g1, g2⟩ := hw.as1 (e := xk (xsc (-1) x) (lo - 1)) (by rw [xv_k, xv_sc]; omega)
        exact kk _ (List.mem_append_left _ (opm_mem g1)) _ _ _ _ g2
      · by_cases h2 : hi < xv ν x
        · refine x_tableOut (tgt := ((pc : Int) + df).toNat) hE hd (Or.inr (by rw [e1]; exact h2)) (by omega) ?_
          obtain ⟨G', g1, g2⟩ := hw.as1 (e := xk x (-hi - 1)) (by rw [xv_k]; omega)
          exact kk _ (List.mem_append_right _ (List.mem_append_left _ (opm_mem g1))) _ _ _ _ g2
        · obtain ⟨j, hj⟩ : ∃ j : Nat, xv ν x = lo + j := ⟨(xv ν x - lo).toNat, by omega⟩
          have hjl : j < offs.toList.length := by omega
          have hoff : offs[j]? = some (offs.toList.getD j 0) := by
            rw [← Array.getElem?_toList, List.getD_eq_getElem?_getD, List.getElem?_eq_getElem hjl]
            rfl
          have hpos := hof (offs.toList.getD j 0) (by
            rw [List.getD_eq_getElem?_getD, List.getElem?_eq_getElem hjl]
            exact List.getElem_mem hjl)
          refine x_tableIn (off := offs.toList.getD j 0) (tgt := ((pc : Int) + offs.toList.getD j 0).toNat) hE hd (by rw [e1]; exact h1) (by rw [e1]; exact h2) (by
            rw [e1, hj]
            have : (lo + (j : Int) - lo).toNat = j := by omega
            rw [this]
            exact hoff) (by omega) ?_
          obtain ⟨G', g1, g2⟩ := hw.ass [xk x (-(lo + j)), xk (xsc (-1) x) (lo + j)] (fun z hz => by
            simp only [List.mem_cons, List.not_mem_nil, or_false] at hz
            rcases hz with rfl | rfl
            · rw [xv_k]; omega
            · rw [xv_k, xv_sc]; omega)
          exact kk _ (List.mem_append_right _ (List.mem_append_right _ (List.mem_flatMap.mpr ⟨j, List.mem_range.mpr hjl, opm_mem g1⟩))) _ _ _ _ g2
    · cases hs
  · cases hs
end BK
