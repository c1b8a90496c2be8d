/-! The check of one method. -/
/-- a stretch of several instructions, proved by hand -/
abbrev MAC : Type := EL → List EV → EG → Option (Nat × Nat × List EP)
/-- instructions, fields, calls, constants, contracts, contracts by place, the contract itself, whether it gives back a boolean, locals, cuts -/
abbrev DT : Type := (Nat → Option (Instr × Nat)) × (Nat → Option EF) × (Nat → Option (Nat × Nat × Nat × Nat)) × (Nat → Option Int) × (Nat → Option Int) × (Nat → Option (Nat × CT)) × (Nat → List Nat) × CT × Bool × Nat × (Nat → Option MAC) × List (Nat × TP × EX × Nat × Nat)
def dIns (D : DT) := D.1
def dFt (D : DT) := D.2.1
def dLt (D : DT) := D.2.2.1
def dKt (D : DT) := D.2.2.2.1
def dKl (D : DT) := D.2.2.2.2.1
def dCon (D : DT) := D.2.2.2.2.2.1
def dCand (D : DT) := D.2.2.2.2.2.2.1
def dC (D : DT) : CT := D.2.2.2.2.2.2.2.1
def dRb (D : DT) : Bool := D.2.2.2.2.2.2.2.2.1
def dNL (D : DT) : Nat := D.2.2.2.2.2.2.2.2.2.1
def dMac (D : DT) : Nat → Option MAC := D.2.2.2.2.2.2.2.2.2.2.1
def dCuts (D : DT) : List (Nat × TP × EX × Nat × Nat) := D.2.2.2.2.2.2.2.2.2.2.2
def dMods (D : DT) : List (Nat × Nat) := (dC D).2.1
def dN0 (D : DT) : Nat := (dC D).1.2.2.1.1.length
def dR0 (D : DT) : Nat := (dC D).1.2.2.1.2.2.2.1.length
def zro (r : Option (List EP)) : Option (Nat × Nat × List EP) := match r with
  | some rs => some (0, 0, rs)
  | none => none
def one (r : Option EP) : Option (Nat × Nat × List EP) := match r with
  | some p => some (0, 0, [p])
  | none => none
def sMul (ln pc : Nat) (lv : EL) (st : List EV) (G : EG) : Option EP := match st with
  | (ty, _, y) :: (tx, _, x) :: st' => if ty == 1 && tx == 1 && ln == 1 && y.2.isEmpty && x.2.isEmpty && decide (-9223372036854775808 ≤ x.1 * y.1) && decide (x.1 * y.1 ≤ 9223372036854775807) then some (pc + 1, lv, (1, 0, xc (x.1 * y.1)) :: st', G) else none
  | _ => none
def sLdc (D : DT) (i : Instr) (ln pc : Nat) (lv : EL) (st : List EV) (G : EG) : Option EP := match i with
  | .ldc idx => (match dKt D idx with
    | some v => if ln == 2 then some (pc + 2, lv, (0, 0, xc v) :: st, G) else none
    | none => none)
  | .ldc_w idx => (match dKt D idx with
    | some v => if ln == 3 then some (pc + 3, lv, (0, 0, xc v) :: st, G) else none
    | none => none)
  | .ldc2_w idx => (match dKl D idx with
    | some v => if ln == 3 then some (pc + 3, lv, (1, 0, xc v) :: st, G) else none
    | none => none)
  | _ => none
/-- one of the cases fits -/
def retC (D : DT) (lv : EL) (st : List EV) (G : EG) : Bool := (dC D).2.2.1.any (fun C => C.1.isEmpty && (mT (dN0 D) (dR0 D) C lv st G).isSome)
def sRet (D : DT) (i : Instr) (ln : Nat) (lv : EL) (st : List EV) (G : EG) : Bool := match i, st with
  | .ireturn, [v] => ln == 1 && (dC D).2.2.2.2.2.2 == 0 && v.1 == 0 && (!(dRb D) || (ge0 G.1 G.2.1 v.2.2 && ge0 G.1 G.2.1 (xk (xsc (-1) v.2.2) 1) && rg32 G v.2.2)) && retC D lv st G
  | .lreturn, [v] => ln == 1 && (dC D).2.2.2.2.2.2 == 1 && v.1 == 1 && retC D lv st G
  | .areturn, [v] => ln == 1 && (((dC D).2.2.2.2.2.2 == 2 && v.1 == 2) || ((dC D).2.2.2.2.2.2 == 4 && (v.1 == 2 || v.1 == 3))) && retC D lv st G
  | .return_, [] => ln == 1 && (dC D).2.2.2.2.2.2 == 3 && retC D lv st G
  | _, _ => false
def fst1 {α β : Type} (g : α → Option β) : List α → Option β
  | [] => none
  | a :: as => match g a with
    | some b => some b
    | none => fst1 g as
theorem fst1_ok {α β : Type} {g : α → Option β} : ∀ (l : List α) {b : β}, fst1 g l = some b → ∃ a ∈ l, g a = some b := by
  intro l
  induction l with
  | nil => intro b h; cases h
  | cons a as ih =>
    intro b h
    unfold fst1 at h
    split at h
    · rename_i b' hb
      cases h
      exact ⟨a, List.mem_cons_self, hb⟩
    · obtain ⟨x, hx, hx2⟩ := ih h
      exact ⟨x, List.mem_cons_of_mem _ hx, hx2⟩
/-- Math.max, Math.min -/
def sMM (mx : Bool) (ln pc : Nat) (lv : EL) (st : List EV) (G : EG) : Option (List EP) := match st with
  | (ty, _, y) :: (tx, _, x) :: st' => if ty == 0 && tx == 0 && ln == 3 && rg32 G x && rg32 G y && Nat.ble (slN st') 8 then some (if mx then opm (pc + 3) lv ((0, 0, y) :: st') (asG G (xk (xsub y x) (-1))) ++ opm (pc + 3) lv ((0, 0, x) :: st') (asG G (xsub x y)) else opm (pc + 3) lv ((0, 0, y) :: st') (asG G (xk (xsub x y) (-1))) ++ opm (pc + 3) lv ((0, 0, x) :: st') (asG G (xsub y x))) else none
  | _ => none
def sCall (D : DT) (sm : Bool) (idx ln pc : Nat) (lv : EL) (st : List EV) (G : EG) : Option (Nat × Nat × List EP) := match dLt D idx with
  | some (mode, mi, ci, na) => if mode == 9 && sm then zro (sCpy (dMods D) ln pc lv st G) else if mode == 7 && sm then zro (sMM true ln pc lv st G) else if mode == 8 && sm then zro (sMM false ln pc lv st G) else if ln == 3 && ((mode == 0 && !sm) || ((mode == 1 || mode == 2) && sm)) then fst1 (fun j => match dCon D j with
    | some q => if q.1 == mi then callC (dMods D) (dC D).2.2.2.1 mode ci na q.2 pc lv st G else none
    | none => none) (dCand D pc) else none
  | none => none
def pur (D : DT) (i : Instr) (ln pc : Nat) (lv : EL) (st : List EV) (G : EG) : Option EP := match sC i ln pc lv st G with
  | some r => some r
  | none => (match sL i ln pc lv st G with
    | some r => some r
    | none => (match sS i ln pc (dNL D) lv st G with
      | some r => some r
      | none => (match sA i ln pc lv st G with
        | some r => some r
        | none => (match sU i ln pc lv st G with
          | some r => some r
          | none => (match sK i ln pc lv st G with
            | some r => some r
            | none => sLdc D i ln pc lv st G)))))
def stepA0 (D : DT) (pc : Nat) (lv : EL) (st : List EV) (G : EG) : Option (Nat × Nat × List EP) := match dIns D pc with
  | none => none
  | some (i, ln) => match i with
    | .getfield idx => zro (sGet (dFt D) idx ln pc lv st G)
    | .putfield idx => zro (sPut (dMods D) (dFt D) idx ln pc lv st G)
    | .iaload => zro (sIld ln pc lv st G)
    | .baload => zro (sZld ln pc lv st G)
    | .laload => zro (sJld ln pc lv st G)
    | .aaload => zro (sRld ln pc lv st G)
    | .arraylength => zro (sLen ln pc lv st G)
    | .iastore => zro (sIst (dMods D) ln pc lv st G)
    | .bastore => zro (arr2 (dMods D) 3 0 ln pc lv st G)
    | .lastore => zro (arr2 (dMods D) 4 1 ln pc lv st G)
    | .aastore => zro (sRst (dMods D) ln pc lv st G)
    | .invokevirtual idx => sCall D false idx ln pc lv st G
    | .invokestatic idx => sCall D true idx ln pc lv st G
    | .newarray a => sNew (.newarray a) ln pc lv st G
    | .ifCond c off => zro (sB (.ifCond c off) ln none pc lv st G)
    | .if_icmp c off => zro (sB (.if_icmp c off) ln none pc lv st G)
    | .lcmp => zro (sB .lcmp ln (dIns D (pc + 1)) pc lv st G)
    | .ifnull off => zro (sB (.ifnull off) ln none pc lv st G)
    | .ifnonnull off => zro (sB (.ifnonnull off) ln none pc lv st G)
    | .tableswitch a b c e => zro (sB (.tableswitch a b c e) ln none pc lv st G)
    | .lmul => (match sMul ln pc lv st G with
      | some r => some (0, 0, [r])
      | none => one (sLL .lmul ln pc lv st G))
    | .ladd => one (sLL .ladd ln pc lv st G)
    | .lsub => one (sLL .lsub ln pc lv st G)
    | .land => one (sLL .land ln pc lv st G)
    | .lor => one (sLL .lor ln pc lv st G)
    | .ldiv => one (sLL .ldiv ln pc lv st G)
    | .lrem => one (sLL .lrem ln pc lv st G)
    | .lshl => one (sLL .lshl ln pc lv st G)
    | .lshr => one (sLL .lshr ln pc lv st G)
    | .ireturn => if sRet D .ireturn ln lv st G then some (0, 0, []) else none
    | .lreturn => if sRet D .lreturn ln lv st G then some (0, 0, []) else none
    | .areturn => if sRet D .areturn ln lv st G then some (0, 0, []) else none
    | .return_ => if sRet D .return_ ln lv st G then some (0, 0, []) else none
    | i => one (pur D i ln pc lv st G)
def stepA (D : DT) (pc : Nat) (lv : EL) (st : List EV) (G : EG) : Option (Nat × Nat × List EP) := match dMac D pc with
  | some m => m lv st G
  | none => stepA0 D pc lv st G
/-- what a stretch brings is so -/
def macOk (E : zCx) (X : EC) (D : DT) (pc : Nat) (m : MAC) : Prop := ∀ (k n : Nat) (K : Nat → Nat) (B : Int) (L : List Nat) (f : Nat → va_E) (ν : Nat → Int) (μ : Nat → Nat) (lv : EL) (st : List EV) (G : EG) (lvc : List (Nat × Value)) (stc : List Value) (dk dn : Nat) (rs : List EP), Wd X K B L f ν μ lv st G lvc stc → m lv st G = some (dk, dn, rs) → k + dk ≤ (dC D).2.2.2.2.1 → n + dn ≤ (dC D).2.2.2.2.2.1 → AllS E (k + dk) (n + dn) X rs → eW E k n L f pc lvc stc
def cutAt (D : DT) (pc : Nat) : Option (Nat × TP × EX × Nat × Nat) := (dCuts D).find? (fun q => q.1 == pc)
/-- the state comes to a cut, and the rank falls -/
def cutOk (D : DT) (q : Nat × TP × EX × Nat × Nat) (k n : Nat) (rk : Option EX) (p : EP) : Bool := match mT (dN0 D) (dR0 D) q.2.1 p.2.1 p.2.2.1 p.2.2.2 with
  | some s => Nat.ble k q.2.2.2.1 && Nat.ble n q.2.2.2.2 && (match rk with
    | none => true
    | some e => ge2 p.2.2.2.1 p.2.2.2.2.1 (xk (xsub e (sub (dN0 D) s.1 q.2.2.1)) (-1)))
  | none => false
def runS (D : DT) : Nat → Nat → Nat → Option EX → EP → Bool
  | 0, _, _, _, _ => false
  | F + 1, k, n, rk, p => match stepA D p.1 p.2.1 p.2.2.1 p.2.2.2 with
    | none => false
    | some s => Nat.ble (k + s.1) (dC D).2.2.2.2.1 && Nat.ble (n + s.2.1) (dC D).2.2.2.2.2.1 && s.2.2.all (fun r => match cutAt D r.1 with
      | some q => cutOk D q (k + s.1) (n + s.2.1) rk r
      | none => runS D F (k + s.1) (n + s.2.1) rk r)
/-- what the tables say is so -/
def dOk (X0 : zC0) (own : String) (cc : ByteArray) (mt : Nat → MT) (D : DT) : Prop := (∀ pc q, dIns D pc = some q → decode cc pc = .ok q) ∧ (∀ idx e, dFt D idx = some e → fldOk own idx e) ∧ (∀ idx mode mi ci na, dLt D idx = some (mode, mi, ci, na) → (mode ≤ 2 → lkOk own idx mode ci na (mt mi)) ∧ (mode = 9 → Cond.methodLink own idx arraycopyName ∈ gtbl) ∧ (mode = 7 → Cond.methodLink own idx Lib.Math.max.name ∈ gtbl) ∧ (mode = 8 → Cond.methodLink own idx Lib.Math.min.name ∈ gtbl)) ∧ (∀ idx v, dKt D idx = some v → Cond.constant own idx (Int32.ofInt v) ∈ gtbl) ∧ (∀ idx v, dKl D idx = some v → Cond.constantLong own idx (Int64.ofInt v) ∈ gtbl) ∧ (∀ j mi c, dCon D j = some (mi, c) → CM X0 (mt mi) c) ∧ Cond.arrayClass .int ∈ gtbl ∧ Cond.arrayClass .long ∈ gtbl ∧ Cond.native arraycopyName ∈ gtbl ∧ Cond.static arraycopyName ∈ gtbl ∧ Cond.initialized "java/lang/System" ∈ gtbl ∧ nativeFrameWords "java/lang/System" "arraycopy" 5 + 11 ≤ 60 ∧ (Cond.static Lib.Math.max.name ∈ gtbl ∧ Cond.static Lib.Math.min.name ∈ gtbl ∧ Cond.initialized "java/lang/Math" ∈ gtbl ∧ Cond.code Lib.Math.max.name Lib.Math.max.code 2 (some .int) ∈ gtbl ∧ Cond.code Lib.Math.min.name Lib.Math.min.code 2 (some .int) ∈ gtbl)
section RU
variable {E : zCx} {l0 : Launch} {D0 : va_G} {cy0 : Nat → ClassId} {ax0 : zAx} {own : String} {cc : ByteArray} {mt : Nat → MT} {D : DT} {k n : Nat} {K : Nat → Nat} {B : Int} {L : List Nat} {f : Nat → va_E} {ν : Nat → Int} {μ : Nat → Nat} {lv : EL} {st : List EV} {G : EG} {lvc : List (Nat × Value)} {stc : List Value} {pc : Nat} {X : EC}
theorem Fwd_go {r : EP} (h : Fwd E k n X K B L f pc lvc stc r) (kk : AllS E k n X [r]) : eW E k n L f pc lvc stc := by
  obtain ⟨ν', μ', lvc', stc', h1, h2⟩ := h
  exact h2 (kk K B L f r (List.mem_singleton.mpr rfl) ν' μ' lvc' stc' h1)
theorem zro_e {r : Option (List EP)} {dk dn : Nat} {rs : List EP} (h : zro r = some (dk, dn, rs)) : r = some rs ∧ dk = 0 ∧ dn = 0 := by
  cases r with
  | none => cases h
  | some x => cases h; exact ⟨rfl, rfl, rfl⟩
theorem one_e {r : Option EP} {dk dn : Nat} {rs : List EP} (h : one r = some (dk, dn, rs)) : ∃ p, r = some p ∧ rs = [p] ∧ dk = 0 ∧ dn = 0 := by
  cases r with
  | none => cases h
  | some x => cases h; exact ⟨x, rfl, rfl, rfl, rfl⟩
theorem sMul_ok {X0 : zC0} {nL : Nat} {R0 : Room} {ln : Nat} {r : EP} (hE : zOk E X0 own cc nL R0) (hd : decode cc pc = .ok (.lmul, ln)) (h : Wd X K B L f ν μ lv st G lvc stc) (hs : sMul ln pc lv st G = some r) : Fwd E k n X K B L f pc lvc stc r := by
  unfold sMul at hs
  split at hs
  · rename_i ty ry y tx rx x st'
    split at hs
    · rename_i hc
      simp only [Bool.and_eq_true, beq_iff_eq, decide_eq_true_eq] at hc
      obtain ⟨⟨⟨⟨⟨⟨rfl, rfl⟩, rfl⟩, hy⟩, hx⟩, h1⟩, h2⟩ := hc
      cases hs
      obtain ⟨s1, rfl, hw1⟩ := h.pop
      obtain ⟨s2, rfl, hw⟩ := hw1.pop
      refine ⟨ν, μ, lvc, _, hw.push (1, 0, xc (x.1 * y.1)), fun kk => ?_⟩
      rw [cv1 rfl] at kk
      rw [cv1 rfl, cv1 rfl]
      refine x_lmul hE hd ?_
      have e : Int64.ofInt (xv ν x) * Int64.ofInt (xv ν y) = Int64.ofInt (xv ν (xc (x.1 * y.1))) := by
        rw [xv_c, xv_cst hx, xv_cst hy, Int64.ofInt_mul]
      show eW E k n L f (pc + 1) lvc (.long (Int64.ofInt (xv ν x) * Int64.ofInt (xv ν y)) :: s2)
      rw [e]
      exact kk
    · cases hs
  · cases hs
end RU
