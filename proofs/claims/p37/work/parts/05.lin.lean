/-! Linear terms c + a·ν i + .., bounds of ids, what follows from them. -/
abbrev EX : Type := Int × List (Int × Nat)
abbrev EN : Type := List (Int × Int)
def xvT (ν : Nat → Int) : List (Int × Nat) → Int
  | [] => 0
  | t :: ts => t.1 * ν t.2 + xvT ν ts
def xv (ν : Nat → Int) (e : EX) : Int := e.1 + xvT ν e.2
def xc (c : Int) : EX := (c, [])
def xi (i : Nat) : EX := (0, [(1, i)])
def insT (a : Int) (i : Nat) : List (Int × Nat) → List (Int × Nat)
  | [] => [(a, i)]
  | t :: ts => if t.2 == i then (if t.1 + a == 0 then ts else (t.1 + a, i) :: ts) else t :: insT a i ts
def addT : List (Int × Nat) → List (Int × Nat) → List (Int × Nat)
  | [], ys => ys
  | t :: ts, ys => insT t.1 t.2 (addT ts ys)
def xadd (x y : EX) : EX := (x.1 + y.1, addT x.2 y.2)
def xsc (a : Int) (x : EX) : EX := if a == 0 then (0, []) else (a * x.1, x.2.map (fun t => (a * t.1, t.2)))
def xsub (x y : EX) : EX := xadd x (xsc (-1) y)
def xk (x : EX) (c : Int) : EX := (x.1 + c, x.2)
section XL
variable {ν : Nat → Int} {env : EN} {iq : List EX}
theorem insT_v (a : Int) (i : Nat) (ts : List (Int × Nat)) : xvT ν (insT a i ts) = a * ν i + xvT ν ts := by
  induction ts with
  | nil => rfl
  | cons t ts ih =>
    unfold insT
    split
    · rename_i h
      have h' : t.2 = i := by simpa using h
      split
      · rename_i h2
        have h2' : t.1 + a = 0 := by simpa using h2
        have : t.1 = -a := by omega
        simp only [xvT, h', this]
        rw [Int.neg_mul]; omega
      · simp only [xvT, h', Int.add_mul]; omega
    · simp only [xvT, ih]; omega
theorem addT_v (xs ys : List (Int × Nat)) : xvT ν (addT xs ys) = xvT ν xs + xvT ν ys := by
  induction xs with
  | nil => simp [addT, xvT]
  | cons t ts ih => simp only [addT, insT_v, ih, xvT]; omega
theorem xv_add (x y : EX) : xv ν (xadd x y) = xv ν x + xv ν y := by
  simp only [xv, xadd, addT_v]; omega
theorem xvT_sc (a : Int) (ts : List (Int × Nat)) : xvT ν (ts.map (fun t => (a * t.1, t.2))) = a * xvT ν ts := by
  induction ts with
  | nil => simp [xvT]
  | cons t ts ih => simp only [List.map_cons, xvT, ih, Int.mul_add, Int.mul_assoc]
theorem xv_sc (a : Int) (x : EX) : xv ν (xsc a x) = a * xv ν x := by
  unfold xsc
  split
  · rename_i h
    have : a = 0 := by simpa using h
    simp [xv, xvT, this]
  · simp only [xv, xvT_sc, Int.mul_add]
theorem xv_sub (x y : EX) : xv ν (xsub x y) = xv ν x - xv ν y := by
  rw [xsub, xv_add, xv_sc]; omega
theorem xv_c (c : Int) : xv ν (xc c) = c := by simp [xv, xc, xvT]
theorem xv_i (i : Nat) : xv ν (xi i) = ν i := by simp [xv, xi, xvT]
theorem xv_k (x : EX) (c : Int) : xv ν (xk x c) = xv ν x + c := by simp only [xv, xk]; omega
def ebd (env : EN) (i : Nat) : Int × Int := env.getD i (-9223372036854775808, 9223372036854775807)
def eok (env : EN) (ν : Nat → Int) : Prop := ∀ i, (ebd env i).1 ≤ ν i ∧ ν i ≤ (ebd env i).2
def tlb (env : EN) (t : Int × Nat) : Int := if 0 ≤ t.1 then t.1 * (ebd env t.2).1 else t.1 * (ebd env t.2).2
def tub (env : EN) (t : Int × Nat) : Int := if 0 ≤ t.1 then t.1 * (ebd env t.2).2 else t.1 * (ebd env t.2).1
def lbT (env : EN) : List (Int × Nat) → Int
  | [] => 0
  | t :: ts => tlb env t + lbT env ts
def ubT (env : EN) : List (Int × Nat) → Int
  | [] => 0
  | t :: ts => tub env t + ubT env ts
def lb (env : EN) (e : EX) : Int := e.1 + lbT env e.2
def ub (env : EN) (e : EX) : Int := e.1 + ubT env e.2
theorem tb_ok (h : eok env ν) (t : Int × Nat) : tlb env t ≤ t.1 * ν t.2 ∧ t.1 * ν t.2 ≤ tub env t := by
  obtain ⟨h1, h2⟩ := h t.2
  unfold tlb tub
  split
  · rename_i h0
    exact ⟨Int.mul_le_mul_of_nonneg_left h1 h0, Int.mul_le_mul_of_nonneg_left h2 h0⟩
  · rename_i h0
    exact ⟨Int.mul_le_mul_of_nonpos_left (by omega) h2, Int.mul_le_mul_of_nonpos_left (by omega) h1⟩
theorem bT_ok (h : eok env ν) (ts : List (Int × Nat)) : lbT env ts ≤ xvT ν ts ∧ xvT ν ts ≤ ubT env ts := by
  induction ts with
  | nil => exact ⟨Int.le_refl _, Int.le_refl _⟩
  | cons t ts ih =>
    have := tb_ok h t
    simp only [lbT, ubT, xvT]
    omega
theorem lb_ok (h : eok env ν) (e : EX) : lb env e ≤ xv ν e := by
  have := bT_ok h e.2
  unfold lb xv; omega
theorem ub_ok (h : eok env ν) (e : EX) : xv ν e ≤ ub env e := by
  have := bT_ok h e.2
  unfold ub xv; omega
/-- e is 0 or more -/
def ge0 (env : EN) (iq : List EX) (e : EX) : Bool := decide (0 ≤ lb env e) || iq.any (fun s => decide (0 ≤ lb env (xsub e s)))
theorem ge0_ok (h : eok env ν) (hq : ∀ s ∈ iq, 0 ≤ xv ν s) {e : EX} (hg : ge0 env iq e = true) : 0 ≤ xv ν e := by
  unfold ge0 at hg
  rcases Bool.or_eq_true_iff.mp hg with h1 | h1
  · have := lb_ok h e
    have := of_decide_eq_true h1
    omega
  · obtain ⟨s, hs, h2⟩ := List.any_eq_true.mp h1
    have h3 := lb_ok h (xsub e s)
    have h4 := of_decide_eq_true h2
    rw [xv_sub] at h3
    have := hq s hs
    omega
def eqv (env : EN) (iq : List EX) (x y : EX) : Bool := x == y || (ge0 env iq (xsub x y) && ge0 env iq (xsub y x))
theorem eqv_ok (h : eok env ν) (hq : ∀ s ∈ iq, 0 ≤ xv ν s) {x y : EX} (hg : eqv env iq x y = true) : xv ν x = xv ν y := by
  unfold eqv at hg
  rcases Bool.or_eq_true_iff.mp hg with h1 | h1
  · have : x = y := by simpa using h1
    rw [this]
  · obtain ⟨h2, h3⟩ := Bool.and_eq_true_iff.mp h1
    have a1 := ge0_ok h hq h2
    have a2 := ge0_ok h hq h3
    rw [xv_sub] at a1 a2
    omega
/-- id i lies between lo and hi, too -/
def tight (env : EN) (i : Nat) (lo hi : Int) : EN := env.set i (max (ebd env i).1 lo, min (ebd env i).2 hi)
theorem tight_ok (h : eok env ν) {i : Nat} {lo hi : Int} (h1 : lo ≤ ν i) (h2 : ν i ≤ hi) : eok (tight env i lo hi) ν := by
  intro j
  have hj := h j
  unfold tight ebd at *
  by_cases hji : j = i
  · subst hji
    by_cases hl : j < env.length
    · simp only [List.getD_eq_getElem?_getD, List.getElem?_set_self hl, Option.getD_some]
      simp only [List.getD_eq_getElem?_getD] at hj
      omega
    · rw [List.set_eq_of_length_le (by omega)]
      exact hj
  · simp only [List.getD_eq_getElem?_getD, List.getElem?_set_ne (Ne.symm hji)]
    simp only [List.getD_eq_getElem?_getD] at hj
    exact hj
/-- e ≥ 0, seen by its term t: u is the most of e -/
def tight1 (env : EN) (u : Int) (t : Int × Nat) : EN :=
  if 0 < t.1 then tight env t.2 (-((u - tub env t) / t.1)) (ebd env t.2).2 else if t.1 < 0 then tight env t.2 (ebd env t.2).1 ((u - tub env t) / (-t.1)) else env
theorem tight1_ok (h : eok env ν) {u : Int} {t : Int × Nat} (hu : 0 ≤ t.1 * ν t.2 + (u - tub env t)) : eok (tight1 env u t) ν := by
  unfold tight1
  split
  · rename_i h0
    refine tight_ok h ?_ (h t.2).2
    generalize u - tub env t = r at hu
    have h1 := Int.mul_ediv_add_emod r t.1
    have h2 := Int.emod_lt_of_pos r h0
    have h3 : 0 < t.1 * (ν t.2 + r / t.1 + 1) := by
      rw [Int.mul_add, Int.mul_add]; omega
    have := Int.pos_of_mul_pos_right h3 (by omega)
    omega
  · split
    · rename_i h0 h1
      refine tight_ok h (h t.2).1 ?_
      generalize u - tub env t = r at hu
      have h4 : (-t.1) * ν t.2 ≤ r := by rw [Int.neg_mul]; omega
      rw [Int.le_ediv_iff_mul_le (by omega), Int.mul_comm]
      exact h4
    · exact h
theorem ubT_mem (h : eok env ν) {ts : List (Int × Nat)} {t : Int × Nat} (ht : t ∈ ts) : xvT ν ts ≤ t.1 * ν t.2 + (ubT env ts - tub env t) := by
  induction ts with
  | nil => cases ht
  | cons a ts ih =>
    simp only [xvT, ubT]
    rcases List.mem_cons.mp ht with rfl | h2
    · have := (bT_ok h ts).2
      omega
    · have := ih h2
      have := (tb_ok h a).2
      omega
def asmL (e : EX) : List (Int × Nat) → EN → EN
  | [], env => env
  | t :: ts, env => asmL e ts (tight1 env (ub env e) t)
theorem asmL_ok {e : EX} (he : 0 ≤ xv ν e) : ∀ (ts : List (Int × Nat)) (env : EN), (∀ t ∈ ts, t ∈ e.2) → eok env ν → eok (asmL e ts env) ν := by
  intro ts
  induction ts with
  | nil => intro env _ h; exact h
  | cons t ts ih =>
    intro env hs h
    refine ih _ (fun x hx => hs x (List.mem_cons_of_mem _ hx)) (tight1_ok h ?_)
    have := ubT_mem h (hs t List.mem_cons_self)
    unfold ub
    unfold xv at he
    omega
theorem tight1_len (env : EN) (u : Int) (t : Int × Nat) : (tight1 env u t).length = env.length := by
  unfold tight1 tight
  split
  · simp
  · split <;> simp
theorem asmL_len (e : EX) : ∀ (ts : List (Int × Nat)) (env : EN), (asmL e ts env).length = env.length := by
  intro ts
  induction ts with
  | nil => intro env; rfl
  | cons t ts ih => intro env; rw [asmL, ih, tight1_len]
/-- together with what is known: where one id is left -/
def asm2 (e : EX) : List EX → EN → EN
  | [], env => env
  | s :: ss, env => asm2 e ss (match (xadd e s).2 with
    | [t] => tight1 env (ub env (xadd e s)) t
    | _ => env)
theorem asm2_len (e : EX) : ∀ (ss : List EX) (env : EN), (asm2 e ss env).length = env.length := by
  intro ss
  induction ss with
  | nil => intro env; rfl
  | cons s ss ih =>
    intro env
    rw [asm2, ih]
    split
    · rw [tight1_len]
    · rfl
theorem asm2_ok {e : EX} (he : 0 ≤ xv ν e) : ∀ (ss : List EX) (env : EN), (∀ s ∈ ss, 0 ≤ xv ν s) → eok env ν → eok (asm2 e ss env) ν := by
  intro ss
  induction ss with
  | nil => intro env _ h; exact h
  | cons s ss ih =>
    intro env hs h
    refine ih _ (fun x hx => hs x (List.mem_cons_of_mem _ hx)) ?_
    split
    · rename_i t ht
      refine tight1_ok h ?_
      have h1 : t ∈ (xadd e s).2 := by rw [ht]; exact List.mem_singleton.mpr rfl
      have h2 := ubT_mem h h1
      have h3 := xv_add (ν := ν) e s
      have h4 := hs s List.mem_cons_self
      unfold ub
      unfold xv at h3 he h4
      omega
    · exact h
/-- e ≥ 0 is taken up; none: it can't be -/
def asm (p : EN × List EX) (e : EX) : Option (EN × List EX) := if decide (ub p.1 e < 0) || p.2.any (fun s => decide (ub p.1 (xadd e s) < 0)) then none else some (asm2 e p.2 (asmL e e.2 p.1), if e.2.length ≤ 1 then p.2 else e :: p.2)
theorem asm_ok {p : EN × List EX} {e : EX} (h : eok p.1 ν) (hq : ∀ s ∈ p.2, 0 ≤ xv ν s) (he : 0 ≤ xv ν e) : ∃ r, asm p e = some r ∧ eok r.1 ν ∧ (∀ s ∈ r.2, 0 ≤ xv ν s) ∧ r.1.length = p.1.length := by
  unfold asm
  split
  · rename_i hd
    exfalso
    rcases Bool.or_eq_true_iff.mp hd with h1 | h1
    · have := of_decide_eq_true h1
      have := ub_ok h e
      omega
    · obtain ⟨s, hs, h2⟩ := List.any_eq_true.mp h1
      have h3 := of_decide_eq_true h2
      have h4 := ub_ok h (xadd e s)
      rw [xv_add] at h4
      have := hq s hs
      omega
  · refine ⟨_, rfl, asm2_ok he _ _ hq (asmL_ok he _ _ (fun _ ht => ht) h), fun s hs => ?_, by rw [asm2_len, asmL_len]⟩
    split at hs
    · exact hq s hs
    · rcases List.mem_cons.mp hs with rfl | h2
      · exact he
      · exact hq s h2
/-- by two known ones -/
def ge2 (env : EN) (iq : List EX) (e : EX) : Bool := ge0 env iq e || iq.any (fun s => ge0 env iq (xsub e s))
theorem ge2_ok (h : eok env ν) (hq : ∀ s ∈ iq, 0 ≤ xv ν s) {e : EX} (hg : ge2 env iq e = true) : 0 ≤ xv ν e := by
  unfold ge2 at hg
  rcases Bool.or_eq_true_iff.mp hg with h1 | h1
  · exact ge0_ok h hq h1
  · obtain ⟨s, hs, h2⟩ := List.any_eq_true.mp h1
    have h3 := ge0_ok h hq h2
    rw [xv_sub] at h3
    have := hq s hs
    omega
/-- ids below n alone -/
def scE (n : Nat) (e : EX) : Bool := e.2.all (fun t => Nat.blt t.2 n)
theorem xv_upd {n : Nat} {e : EX} (h : scE n e = true) (z : Int) : xv (va_up ν n z) e = xv ν e := by
  unfold xv
  congr 1
  unfold scE at h
  generalize e.2 = ts at h
  induction ts with
  | nil => rfl
  | cons t ts ih =>
    simp only [List.all_cons, Bool.and_eq_true] at h
    simp only [xvT, ih h.2]
    have : t.2 < n := by
      have h9 := h.1
      simp [Nat.blt] at h9
      omega
    rw [va_up_ne _ _ (by omega)]
theorem eok_fresh (h : eok env ν) {lo hi z : Int} (h1 : lo ≤ z) (h2 : z ≤ hi) : eok (env ++ [(lo, hi)]) (va_up ν env.length z) := by
  intro j
  unfold ebd
  by_cases hj : j = env.length
  · subst hj
    rw [va_up_self]
    simp [h1, h2]
  · rw [va_up_ne _ _ hj]
    have := h j
    unfold ebd at this
    by_cases hl : j < env.length
    · simp only [List.getD_eq_getElem?_getD, List.getElem?_append_left hl]
      simp only [List.getD_eq_getElem?_getD] at this
      exact this
    · simp only [List.getD_eq_getElem?_getD] at this ⊢
      rw [List.getElem?_eq_none (by omega)] at this
      rw [List.getElem?_eq_none (by simp; omega)]
      exact this
/-- ids from n0 on are put in place by terms -/
def subT (n0 : Nat) (w : List EX) : List (Int × Nat) → EX
  | [] => (0, [])
  | t :: ts => xadd (xsc t.1 (if t.2 < n0 then xi t.2 else w.getD (t.2 - n0) (0, []))) (subT n0 w ts)
def sub (n0 : Nat) (w : List EX) (e : EX) : EX := xk (subT n0 w e.2) e.1
def nuw (n0 : Nat) (w : List EX) (ν : Nat → Int) : Nat → Int := fun i => if i < n0 then ν i else xv ν (w.getD (i - n0) (0, []))
theorem sub_v (n0 : Nat) (w : List EX) (e : EX) : xv ν (sub n0 w e) = xv (nuw n0 w ν) e := by
  rw [sub, xv_k]
  have : ∀ ts, xv ν (subT n0 w ts) = xvT (nuw n0 w ν) ts := by
    intro ts
    induction ts with
    | nil => rfl
    | cons t ts ih =>
      rw [subT, xv_add, xv_sc, ih, xvT]
      congr 2
      unfold nuw
      split
      · rw [xv_i]
      · rfl
  rw [this, xv]; omega
end XL
