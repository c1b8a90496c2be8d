/-! Steps that don't touch the heap. -/
def gL (lv : EL) (i : Nat) : Option EV := (lv.find? (fun q => q.1 == i)).map (fun q => q.2)
theorem gL_ok {lv : EL} {i : Nat} {v : EV} (h : gL lv i = some v) : (i, v) ∈ lv := by
  unfold gL at h
  cases hf : lv.find? (fun q => q.1 == i) with
  | none => rw [hf] at h; cases h
  | some q =>
    rw [hf] at h
    have h1 := List.find?_some hf
    have h2 := List.mem_of_find?_eq_some hf
    simp at h1 h
    rw [← h1, ← h]
    exact h2
def pL (lv : EL) (i : Nat) (v : EV) : EL := (i, v) :: lv.filter (fun q => !(q.1 == i) && !(q.1 + 1 == i && q.2.1 == 1))
def pLL (lv : EL) (i : Nat) (v : EV) : EL := (i, v) :: lv.filter (fun q => !(q.1 == i) && (!(q.1 == i + 1) && !(q.1 + 1 == i && q.2.1 == 1)))
theorem cat_cv (ν : Nat → Int) (μ : Nat → Nat) (v : EV) : ((cv ν μ v).category == 2) = (v.1 == 1) := by
  obtain ⟨t, i, e⟩ := v
  match t with
  | 0 => rfl
  | 1 => rfl
  | 2 => rfl
  | t + 3 => rfl
theorem pL_map (ν : Nat → Int) (μ : Nat → Nat) (lv : EL) (i : Nat) (v : EV) : (i, cv ν μ v) :: (lv.map (cl ν μ)).filter (fun q => !(q.1 == i) && !(q.1 + 1 == i && q.2.category == 2)) = (pL lv i v).map (cl ν μ) := by
  unfold pL
  rw [List.map_cons, List.filter_map]
  congr 2
  exact List.filter_congr (fun q _ => by simp only [Function.comp, cl, cat_cv])
theorem pLL_map (ν : Nat → Int) (μ : Nat → Nat) (lv : EL) (i : Nat) (v : EV) : (i, cv ν μ v) :: (lv.map (cl ν μ)).filter (fun q => !(q.1 == i) && (!(q.1 == i + 1) && !(q.1 + 1 == i && q.2.category == 2))) = (pLL lv i v).map (cl ν μ) := by
  unfold pLL
  rw [List.map_cons, List.filter_map]
  congr 2
  exact List.filter_congr (fun q _ => by simp only [Function.comp, cl, cat_cv])
def mk32 (lv : EL) (st : List EV) (G : EG) (e : EX) : Option (EG × EX) := if decide (-2147483648 ≤ lb G.1 e) && decide (ub G.1 e ≤ 2147483647) then some (G, e) else if scA lv st G then some (frG G (-2147483648) 2147483647, xi G.1.length) else none
def frV (lv : EL) (st : List EV) (G : EG) (lo hi : Int) : Option (EG × EX) := if scA lv st G then some (frG G lo hi, xi G.1.length) else none
section PU
variable {X : EC} {K : Nat → Nat} {B : Int} {L : List Nat} {f : Nat → va_E} {ν : Nat → Int} {μ : Nat → Nat} {lv : EL} {st : List EV} {G G' : EG} {lvc : List (Nat × Value)} {stc : List Value} {e e' : EX}
theorem Wd.push (h : Wd X K B L f ν μ lv st G lvc stc) (v : EV) : Wd X K B L f ν μ lv (v :: st) G lvc (cv ν μ v :: stc) := by
  obtain ⟨h1, h2, h3, h4, h5, h6⟩ := h
  exact ⟨h1, h2, h3, h4, h5, by rw [h6]; rfl⟩
theorem Wd.pop {v : EV} (h : Wd X K B L f ν μ lv (v :: st) G lvc stc) : ∃ stc', stc = cv ν μ v :: stc' ∧ Wd X K B L f ν μ lv st G lvc stc' := by
  obtain ⟨h1, h2, h3, h4, h5, h6⟩ := h
  exact ⟨st.map (cv ν μ), h6, h1, h2, h3, h4, h5, rfl⟩
theorem Wd.loc (h : Wd X K B L f ν μ lv st G lvc stc) {i : Nat} {v : EV} (hv : gL lv i = some v) : (i, cv ν μ v) ∈ lvc := by
  rw [h.2.2.2.2.1]
  exact List.mem_map.mpr ⟨(i, v), gL_ok hv, rfl⟩
theorem Wd.pL (h : Wd X K B L f ν μ lv st G lvc stc) (i : Nat) (v : EV) : Wd X K B L f ν μ (pL lv i v) st G ((i, cv ν μ v) :: lvc.filter (fun q => !(q.1 == i) && !(q.1 + 1 == i && q.2.category == 2))) stc := by
  obtain ⟨h1, h2, h3, h4, h5, h6⟩ := h
  exact ⟨h1, h2, h3, h4, by rw [h5, pL_map], h6⟩
theorem Wd.pLL (h : Wd X K B L f ν μ lv st G lvc stc) (i : Nat) (v : EV) : Wd X K B L f ν μ (pLL lv i v) st G ((i, cv ν μ v) :: lvc.filter (fun q => !(q.1 == i) && (!(q.1 == i + 1) && !(q.1 + 1 == i && q.2.category == 2)))) stc := by
  obtain ⟨h1, h2, h3, h4, h5, h6⟩ := h
  exact ⟨h1, h2, h3, h4, by rw [h5, pLL_map], h6⟩
theorem frV_ok (h : Wd X K B L f ν μ lv st G lvc stc) {lo hi : Int} (hf : frV lv st G lo hi = some (G', e')) (x : Int32) (h1 : lo ≤ x.toInt) (h2 : x.toInt ≤ hi) : ∃ ν', Wd X K B L f ν' μ lv st G' lvc stc ∧ Int32.ofInt (xv ν' e') = x := by
  unfold frV at hf
  split at hf
  · rename_i hs
    cases hf
    refine ⟨_, h.fr hs h1 h2, ?_⟩
    rw [xv_i, va_up_self, Int32.ofInt_toInt]
  · cases hf
theorem frL_ok (h : Wd X K B L f ν μ lv st G lvc stc) (hf : frV lv st G (-9223372036854775808) 9223372036854775807 = some (G', e')) (x : Int64) : ∃ ν', Wd X K B L f ν' μ lv st G' lvc stc ∧ Int64.ofInt (xv ν' e') = x := by
  unfold frV at hf
  split at hf
  · rename_i hs
    cases hf
    have h1 := Int64.le_toInt x
    have h2 := Int64.toInt_lt x
    refine ⟨_, h.fr hs (z := x.toInt) (by omega) (by omega), ?_⟩
    rw [xv_i, va_up_self, Int64.ofInt_toInt]
  · cases hf
theorem i32r (x : Int32) : (-2147483648 : Int) ≤ x.toInt ∧ x.toInt ≤ 2147483647 := by
  have h1 := Int32.le_toInt x
  have h2 := Int32.toInt_lt x
  omega
theorem i32i {z : Int} (h1 : -2147483648 ≤ z) (h2 : z ≤ 2147483647) : (Int32.ofInt z).toInt = z := Int32.toInt_ofInt_of_le (by omega) (by omega)
theorem mk32_ok (h : Wd X K B L f ν μ lv st G lvc stc) (hf : mk32 lv st G e = some (G', e')) : ∃ ν', Wd X K B L f ν' μ lv st G' lvc stc ∧ Int32.ofInt (xv ν' e') = Int32.ofInt (xv ν e) := by
  unfold mk32 at hf
  split at hf
  · cases hf
    exact ⟨ν, h, rfl⟩
  · exact frV_ok h (by unfold frV; exact hf) _ (i32r _).1 (i32r _).2
end PU
abbrev EP : Type := Nat × EL × List EV × EG
def nxt (pc : Nat) (lv : EL) (st : List EV) (r : Option (EG × EX)) (t : Nat) : Option EP := match r with
  | some q => some (pc, lv, (t, 0, q.2) :: st, q.1)
  | none => none
/-- constants -/
def sC (i : Instr) (ln pc : Nat) (lv : EL) (st : List EV) (G : EG) : Option EP := match i with
  | .iconst v => if ln == 1 && decide (-2147483648 ≤ v) && decide (v ≤ 2147483647) then some (pc + 1, lv, (0, 0, xc v) :: st, G) else none
  | .bipush v => if ln == 2 && decide (-128 ≤ v) && decide (v ≤ 127) then some (pc + 2, lv, (0, 0, xc v) :: st, G) else none
  | .sipush v => if ln == 3 && decide (-32768 ≤ v) && decide (v ≤ 32767) then some (pc + 3, lv, (0, 0, xc v) :: st, G) else none
  | .lconst v => if ln == 1 then some (pc + 1, lv, (1, 0, xc (v : Nat)) :: st, G) else none
  | .aconst_null => if ln == 1 then some (pc + 1, lv, (3, 0, xc 0) :: st, G) else none
  | _ => none
/-- loads -/
def ldv (t : Nat) (pc ln i : Nat) (lv : EL) (st : List EV) (G : EG) : Option EP := match gL lv i with
  | some v => if v.1 == t then some (pc + ln, lv, v :: st, G) else none
  | none => none
def ldr (pc ln i : Nat) (lv : EL) (st : List EV) (G : EG) : Option EP := match gL lv i with
  | some v => if v.1 == 2 || v.1 == 3 then some (pc + ln, lv, v :: st, G) else none
  | none => none
def sL (i : Instr) (ln pc : Nat) (lv : EL) (st : List EV) (G : EG) : Option EP := match i with
  | .iload_n z => if ln == 1 then ldv 0 pc 1 z lv st G else none
  | .iload z => if ln == 2 then ldv 0 pc 2 z lv st G else none
  | .lload_n z => if ln == 1 then ldv 1 pc 1 z lv st G else none
  | .lload z => if ln == 2 then ldv 1 pc 2 z lv st G else none
  | .aload_n z => if ln == 1 then ldr pc 1 z lv st G else none
  | .aload z => if ln == 2 then ldr pc 2 z lv st G else none
  | _ => none
/-- stores -/
def stv (t : Nat) (pc ln i nL : Nat) (lv : EL) (st : List EV) (G : EG) : Option EP := match st with
  | v :: st' => if v.1 == t && Nat.blt i nL then some (pc + ln, pL lv i v, st', G) else none
  | [] => none
def str (pc ln i nL : Nat) (lv : EL) (st : List EV) (G : EG) : Option EP := match st with
  | v :: st' => if (v.1 == 2 || v.1 == 3) && Nat.blt i nL then some (pc + ln, pL lv i v, st', G) else none
  | [] => none
def sS (i : Instr) (ln pc nL : Nat) (lv : EL) (st : List EV) (G : EG) : Option EP := match i with
  | .istore_n z => if ln == 1 then stv 0 pc 1 z nL lv st G else none
  | .istore z => if ln == 2 then stv 0 pc 2 z nL lv st G else none
  | .astore_n z => if ln == 1 then str pc 1 z nL lv st G else none
  | .astore z => if ln == 2 then str pc 2 z nL lv st G else none
  | .lstore z => (match st with
    | v :: st' => if ln == 2 && v.1 == 1 && Nat.blt (z + 1) nL then some (pc + 2, pLL lv z v, st', G) else none
    | [] => none)
  | .iinc z c => (match gL lv z with
    | some v => if ln == 3 && v.1 == 0 && Nat.blt z nL then (match mk32 lv st G (xk v.2.2 c) with
      | some q => some (pc + 3, pL lv z (0, 0, q.2), st, q.1)
      | none => none) else none
    | none => none)
  | _ => none
def p2 (u : Int) : Int := if u ≤ 1 then 1 else if u ≤ 3 then 3 else if u ≤ 7 then 7 else if u ≤ 15 then 15 else if u ≤ 31 then 31 else if u ≤ 63 then 63 else if u ≤ 127 then 127 else if u ≤ 255 then 255 else 2147483647
/-- two ints -/
def sA (i : Instr) (ln pc : Nat) (lv : EL) (st : List EV) (G : EG) : Option EP := match st with
  | (ty, _, y) :: (tx, _, x) :: st' => if ty == 0 && tx == 0 && ln == 1 then (match i with
    | .iadd => nxt (pc + 1) lv st' (mk32 lv st' G (xadd x y)) 0
    | .isub => nxt (pc + 1) lv st' (mk32 lv st' G (xsub x y)) 0
    | .imul => if x.2.isEmpty then nxt (pc + 1) lv st' (mk32 lv st' G (xsc x.1 y)) 0 else if y.2.isEmpty then nxt (pc + 1) lv st' (mk32 lv st' G (xsc y.1 x)) 0 else nxt (pc + 1) lv st' (frV lv st' G (-2147483648) 2147483647) 0
    | .iand => if decide (0 ≤ lb G.1 y) && decide (ub G.1 y ≤ 2147483647) then nxt (pc + 1) lv st' (frV lv st' G 0 (ub G.1 y)) 0 else nxt (pc + 1) lv st' (frV lv st' G (-2147483648) 2147483647) 0
    | .ior => if decide (0 ≤ lb G.1 x) && decide (0 ≤ lb G.1 y) && decide (ub G.1 x ≤ 255) && decide (ub G.1 y ≤ 255) then nxt (pc + 1) lv st' (frV lv st' G 0 (p2 (max (ub G.1 x) (ub G.1 y)))) 0 else nxt (pc + 1) lv st' (frV lv st' G (-2147483648) 2147483647) 0
    | .ishl => if x == (1, []) && decide (0 ≤ lb G.1 y) && decide (ub G.1 y ≤ 30) then nxt (pc + 1) lv st' (frV lv st' G 0 (2 ^ (ub G.1 y).toNat)) 0 else nxt (pc + 1) lv st' (frV lv st' G (-2147483648) 2147483647) 0
    | .ixor => nxt (pc + 1) lv st' (frV lv st' G (-2147483648) 2147483647) 0
    | .ishr => nxt (pc + 1) lv st' (frV lv st' G (-2147483648) 2147483647) 0
    | .iushr => nxt (pc + 1) lv st' (frV lv st' G (-2147483648) 2147483647) 0
    | .idiv => if decide (-2147483648 ≤ lb G.1 y) && decide (ub G.1 y ≤ 2147483647) && (decide (1 ≤ lb G.1 y) || decide (ub G.1 y ≤ -1) || G.2.2.1.any (fun s => s == y)) then nxt (pc + 1) lv st' (frV lv st' G (-2147483648) 2147483647) 0 else none
    | .irem => if decide (1 ≤ lb G.1 y) && decide (ub G.1 y ≤ 2147483647) then (if decide (0 ≤ lb G.1 x) && decide (ub G.1 x ≤ 2147483647) then nxt (pc + 1) lv st' (frV lv st' G 0 (ub G.1 y - 1)) 0 else nxt (pc + 1) lv st' (frV lv st' G (-2147483648) 2147483647) 0) else if decide (-2147483648 ≤ lb G.1 y) && decide (ub G.1 y ≤ 2147483647) && G.2.2.1.any (fun s => s == y) then nxt (pc + 1) lv st' (frV lv st' G (-2147483648) 2147483647) 0 else none
    | _ => none) else none
  | _ => none
/-- one number -/
def sU (i : Instr) (ln pc : Nat) (lv : EL) (st : List EV) (G : EG) : Option EP := match st with
  | (tx, _, x) :: st' => (match i with
    | .ineg => if tx == 0 && ln == 1 then nxt (pc + 1) lv st' (mk32 lv st' G (xsc (-1) x)) 0 else none
    | .i2l => if tx == 0 && ln == 1 && decide (-2147483648 ≤ lb G.1 x) && decide (ub G.1 x ≤ 2147483647) then some (pc + 1, lv, (1, 0, x) :: st', G) else none
    | .l2i => if tx == 1 && ln == 1 then nxt (pc + 1) lv st' (frV lv st' G (-2147483648) 2147483647) 0 else none
    | .i2c => if tx == 0 && ln == 1 then nxt (pc + 1) lv st' (frV lv st' G (-2147483648) 2147483647) 0 else none
    | .lneg => if tx == 1 && ln == 1 then nxt (pc + 1) lv st' (frV lv st' G (-9223372036854775808) 9223372036854775807) 1 else none
    | _ => none)
  | _ => none
/-- two longs -/
def sLL (i : Instr) (ln pc : Nat) (lv : EL) (st : List EV) (G : EG) : Option EP := match st with
  | (ty, _, y) :: (tx, _, _) :: st' => if tx == 1 && ln == 1 then (match i with
    | .ladd => if ty == 1 then nxt (pc + 1) lv st' (frV lv st' G (-9223372036854775808) 9223372036854775807) 1 else none
    | .lsub => if ty == 1 then nxt (pc + 1) lv st' (frV lv st' G (-9223372036854775808) 9223372036854775807) 1 else none
    | .lmul => if ty == 1 then nxt (pc + 1) lv st' (frV lv st' G (-9223372036854775808) 9223372036854775807) 1 else none
    | .land => if ty == 1 then nxt (pc + 1) lv st' (frV lv st' G (-9223372036854775808) 9223372036854775807) 1 else none
    | .lor => if ty == 1 then nxt (pc + 1) lv st' (frV lv st' G (-9223372036854775808) 9223372036854775807) 1 else none
    | .ldiv => if ty == 1 && decide (-9223372036854775808 ≤ lb G.1 y) && decide (ub G.1 y ≤ 9223372036854775807) && (decide (1 ≤ lb G.1 y) || G.2.2.1.any (fun s => s == y)) then nxt (pc + 1) lv st' (frV lv st' G (-9223372036854775808) 9223372036854775807) 1 else none
    | .lrem => if ty == 1 && decide (-9223372036854775808 ≤ lb G.1 y) && decide (ub G.1 y ≤ 9223372036854775807) && (decide (1 ≤ lb G.1 y) || G.2.2.1.any (fun s => s == y)) then nxt (pc + 1) lv st' (frV lv st' G (-9223372036854775808) 9223372036854775807) 1 else none
    | .lshl => if ty == 0 then nxt (pc + 1) lv st' (frV lv st' G (-9223372036854775808) 9223372036854775807) 1 else none
    | .lshr => if ty == 0 then nxt (pc + 1) lv st' (frV lv st' G (-9223372036854775808) 9223372036854775807) 1 else none
    | _ => none) else none
  | _ => none
/-- the stack itself, and goto -/
def sK (i : Instr) (ln pc : Nat) (lv : EL) (st : List EV) (G : EG) : Option EP := match i, st with
  | .dup, a :: st' => if ln == 1 && !(a.1 == 1) then some (pc + 1, lv, a :: a :: st', G) else none
  | .pop, a :: st' => if ln == 1 && !(a.1 == 1) then some (pc + 1, lv, st', G) else none
  | .dup_x1, a :: b :: st' => if ln == 1 && !(a.1 == 1) && !(b.1 == 1) then some (pc + 1, lv, a :: b :: a :: st', G) else none
  | .dup_x2, a :: b :: c :: st' => if ln == 1 && !(a.1 == 1) && !(b.1 == 1) && !(c.1 == 1) then some (pc + 1, lv, a :: b :: c :: a :: st', G) else none
  | .dup2, a :: b :: st' => if ln == 1 && !(a.1 == 1) && !(b.1 == 1) then some (pc + 1, lv, a :: b :: a :: b :: st', G) else none
  | .goto off, st => if ln == 3 && decide (0 ≤ (pc : Int) + off) then some (((pc : Int) + off).toNat, lv, st, G) else none
  | _, _ => none
