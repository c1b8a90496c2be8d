/-! TEXTS on tokens: what the class reads by methods and the reference by a pile. tk: the tokens as the class numbers them; vl: their numbers; dr, sh: the law is of drying, of shares. -/
def u_own (t : Int) : Bool := decide (t = 8) || (decide (26 ≤ t) && decide (t ≤ 30))
def u_nam (t : Int) : Bool := u_own t || decide (t = 13) || (decide (31 ≤ t) && decide (t ≤ 34))
def u_ok (sh own : Bool) (t : Int) : Bool := if u_own t then own else !(decide (t = 34)) || sh
def u_cmp (t : Int) : Bool := decide (t = 44) || decide (t = 45) || decide (t = 46) || decide (t = 47) || decide (t = 51) || decide (t = 52)
def u_b (o : Option (Int × Nat)) (X : Nat → Option (Int × Nat)) : Option (Int × Nat) := match o with
  | some (c, j) => if c = 0 then X j else some (c, j)
  | none => none
/-- by methods: 0 one, 1 a product, 2 its rest, 3 a sum, 4 its rest, 5 an ask, 6 asks and-ed, 7 their rest, 8 or-ed, 9 their rest -/
def uP (tk vl : Nat → Int) (sh : Bool) : Nat → Nat → Nat → Bool → Nat → Option (Int × Nat)
  | 0, _, _, _, _ => none
  | n + 1, tag, d, own, i => match tag with
    | 0 => if tk i = 53 then (if vl i ≤ 9999 then some (0, i + 1) else some (2, i))
      else if u_nam (tk i) = true then (if u_ok sh own (tk i) = true then some (0, i + 1) else some (5, i))
      else if tk i = 48 then (if 8 ≤ d then some (3, i) else u_b (uP tk vl sh n 3 (d + 1) own (i + 1)) (fun j => if tk j = 49 then some (0, j + 1) else some (1, j)))
      else if tk i = 41 then (if 8 ≤ d then some (3, i) else uP tk vl sh n 0 (d + 1) own (i + 1))
      else if tk i = 20 then (if 8 ≤ d then some (3, i) else u_b (uP tk vl sh n 3 (d + 1) true (i + 1)) (fun j => if tk j = 22 then some (0, j + 1) else some (1, j)))
      else if tk i = 21 then (if 8 ≤ d then some (3, i) else u_b (uP tk vl sh n 8 (d + 1) true (i + 1)) (fun j => if tk j = 22 then some (0, j + 1) else some (1, j)))
      else some (1, i)
    | 1 => u_b (uP tk vl sh n 0 d own i) (fun j => uP tk vl sh n 2 d own j)
    | 2 => if tk i = 42 ∨ tk i = 43 then u_b (uP tk vl sh n 0 d own (i + 1)) (fun j => uP tk vl sh n 2 d own j) else some (0, i)
    | 3 => u_b (uP tk vl sh n 1 d own i) (fun j => uP tk vl sh n 4 d own j)
    | 4 => if tk i = 40 ∨ tk i = 41 then u_b (uP tk vl sh n 1 d own (i + 1)) (fun j => uP tk vl sh n 4 d own j) else some (0, i)
    | 5 => if tk i = 25 then (if 8 ≤ d then some (3, i) else uP tk vl sh n 5 (d + 1) true (i + 1))
      else u_b (uP tk vl sh n 3 d true i) (fun j => if u_cmp (tk j) = true then uP tk vl sh n 3 d true (j + 1) else some (1, j))
    | 6 => u_b (uP tk vl sh n 5 d true i) (fun j => uP tk vl sh n 7 d true j)
    | 7 => if tk i = 24 then u_b (uP tk vl sh n 5 d true (i + 1)) (fun j => uP tk vl sh n 7 d true j) else some (0, i)
    | 8 => u_b (uP tk vl sh n 6 d true i) (fun j => uP tk vl sh n 9 d true j)
    | _ => if tk i = 23 then u_b (uP tk vl sh n 6 d true (i + 1)) (fun j => uP tk vl sh n 9 d true j) else some (0, i)
/-! The pile. -/
def u_rank (o : Int) : Int := if 40 ≤ o then 0 else if o = 22 then 1 else if o = 21 then 2 else if o = 20 then 3 else if 10 ≤ o then 4 else if o = 2 then 7 else if 5 ≤ o then 6 else 5
def u_set (least : Int) : List Int → Int → List Int × Int
  | [], o => ([], o)
  | x :: xs, o => if least ≤ u_rank x then u_set least xs (if x = 2 ∨ x = 20 then o - 1 else o) else (x :: xs, o)
def u_open : List Int → Int
  | [] => -1
  | x :: xs => if 40 ≤ x then x else u_open xs
def u_isc : List Int → Bool
  | [] => false
  | x :: xs => if 4 < u_rank x then u_isc xs else decide (u_rank x = 4)
def u_ask (p : List Int) : Bool := decide (u_open p = 42) && (match p with
  | [] => false
  | x :: _ => decide (x = 42) || (decide (1 ≤ u_rank x) && decide (u_rank x ≤ 3)))
def u_cod (t : Int) : Int := if t = 44 then 10 else if t = 51 then 11 else if t = 45 then 12 else if t = 52 then 13 else if t = 46 then 14 else if t = 47 then 15 else -1
def u_btw (t : Int) (p : List Int) : Int := if t = 40 then 3 else if t = 41 then 4 else if t = 42 then 5 else if t = 43 then 6 else if u_open p ≠ 42 then -1 else if u_isc p = false then u_cod t else if t = 24 then 21 else if t = 23 then 22 else -1
def u_end (t : Int) (p : List Int) : Bool := (decide (u_open p = 40) && decide (t = 49)) || (decide (u_open p = 41) && decide (t = 22)) || (decide (u_open p = 42) && decide (t = 22) && u_isc p)
def u_isOf (dr sh : Bool) (m : Int) (t : Int) : Bool := if u_own t then (!dr || decide (0 < m)) else !(decide (t = 34)) || sh
def uR (tk vl : Nat → Int) (dr sh : Bool) : Nat → Nat → List Int → Int → Int → Bool → Option (Int × Nat)
  | 0, _, _, _, _, _ => none
  | n + 1, i, p, o, m, true =>
    if 0 ≤ u_btw (tk i) p then uR tk vl dr sh n (i + 1) (u_btw (tk i) p :: (u_set (u_rank (u_btw (tk i) p)) p o).1) (u_set (u_rank (u_btw (tk i) p)) p o).2 m false
    else if u_end (tk i) p = true then uR tk vl dr sh n (i + 1) (u_set 7 (u_set 1 p o).1.tail ((u_set 1 p o).2 - 1)).1 (u_set 7 (u_set 1 p o).1.tail ((u_set 1 p o).2 - 1)).2 (if 41 ≤ u_open p then m - 1 else m) true
    else if 0 ≤ u_open p then some (1, i) else some (0, i)
  | n + 1, i, p, o, m, false =>
    if tk i = 53 ∧ 9999 < vl i then some (2, i)
    else if u_nam (tk i) = true ∧ u_isOf dr sh m (tk i) = false then some (5, i)
    else if tk i = 53 ∨ u_nam (tk i) = true then uR tk vl dr sh n (i + 1) (u_set 7 p o).1 (u_set 7 p o).2 m true
    else if tk i = 48 then (if o = 8 then some (3, i) else uR tk vl dr sh n (i + 1) (40 :: p) (o + 1) m false)
    else if tk i = 41 then (if o = 8 then some (3, i) else uR tk vl dr sh n (i + 1) (2 :: p) (o + 1) m false)
    else if tk i = 20 then (if o = 8 then some (3, i) else uR tk vl dr sh n (i + 1) (41 :: p) (o + 1) (m + 1) false)
    else if tk i = 21 then (if o = 8 then some (3, i) else uR tk vl dr sh n (i + 1) (42 :: p) (o + 1) (m + 1) false)
    else if tk i = 25 ∧ u_ask p = true then (if o = 8 then some (3, i) else uR tk vl dr sh n (i + 1) (20 :: p) (o + 1) m false)
    else some (1, i)
/-! Both alike. -/
section US
variable {tk vl : Nat → Int} {dr sh : Bool}
def RR (tk vl : Nat → Int) (dr sh : Bool) (i : Nat) (p : List Int) (o m : Int) (w : Bool) (res : Int × Nat) : Prop := ∃ F, uR tk vl dr sh F i p o m w = some res
theorem u_set_nil (l o : Int) : u_set l [] o = ([], o) := rfl
theorem u_set_stop {l : Int} {p : List Int} {o : Int} (h : ∀ x, p.head? = some x → u_rank x < l) : u_set l p o = (p, o) := by
  cases p with
  | nil => rfl
  | cons x xs =>
    have := h x rfl
    unfold u_set
    rw [if_neg (by omega)]
theorem u_set_pop {l x : Int} {p : List Int} {o : Int} (h : l ≤ u_rank x) (h2 : x ≠ 2) (h20 : x ≠ 20) : u_set l (x :: p) o = u_set l p o := by
  show (if l ≤ u_rank x then u_set l p (if x = 2 ∨ x = 20 then o - 1 else o) else (x :: p, o)) = _
  rw [if_pos h, if_neg (by omega)]
theorem u_set_pop1 {l x : Int} {p : List Int} {o : Int} (h : l ≤ u_rank x) (h2 : x = 2 ∨ x = 20) : u_set l (x :: p) o = u_set l p (o - 1) := by
  show (if l ≤ u_rank x then u_set l p (if x = 2 ∨ x = 20 then o - 1 else o) else (x :: p, o)) = _
  rw [if_pos h, if_pos h2]
/-- signs between numbers -/
def okA (A : List Int) : Prop := ∀ x ∈ A, 3 ≤ x ∧ x ≤ 6
def okB (A : List Int) : Prop := ∀ x ∈ A, 5 ≤ x ∧ x ≤ 6
theorem rk_A {x : Int} (h : 3 ≤ x ∧ x ≤ 6) : 5 ≤ u_rank x ∧ u_rank x ≤ 6 := by
  unfold u_rank
  repeat' split <;> omega
theorem rk_B {x : Int} (h : 5 ≤ x ∧ x ≤ 6) : u_rank x = 6 := by
  unfold u_rank
  repeat' split <;> omega
theorem rk_C {x : Int} (h : 10 ≤ x ∧ x ≤ 15) : u_rank x = 4 := by
  unfold u_rank
  repeat' split <;> omega
theorem u_set_A {l : Int} (hl : l ≤ 5) : ∀ {A : List Int} {Q : List Int} {o : Int}, okA A → u_set l (A ++ Q) o = u_set l Q o := by
  intro A
  induction A with
  | nil => intro Q o _; rfl
  | cons x A ih =>
    intro Q o h
    have hx := h x (List.mem_cons_self ..)
    have hr := rk_A hx
    rw [List.cons_append, u_set_pop (by omega) (by omega) (by omega)]
    exact ih (fun y hy => h y (List.mem_cons_of_mem _ hy))
theorem u_set_B : ∀ {A : List Int} {Q : List Int} {o : Int}, okB A → u_set 6 (A ++ Q) o = u_set 6 Q o := by
  intro A
  induction A with
  | nil => intro Q o _; rfl
  | cons x A ih =>
    intro Q o h
    have hx := h x (List.mem_cons_self ..)
    have hr := rk_B hx
    rw [List.cons_append, u_set_pop (by omega) (by omega) (by omega)]
    exact ih (fun y hy => h y (List.mem_cons_of_mem _ hy))
theorem u_set_N {l : Int} (hl : l ≤ 3) : ∀ (q : Nat) {Q : List Int} {o : Int}, u_set l (List.replicate q 20 ++ Q) (o + q) = u_set l Q o := by
  intro q
  induction q with
  | zero => intro Q o; simp
  | succ q ih =>
    intro Q o
    rw [List.replicate_succ, List.cons_append, u_set_pop1 (by rw [show u_rank 20 = 3 from by decide]; exact hl) (Or.inr rfl)]
    have := ih (Q := Q) (o := o)
    rw [show o + ((q + 1 : Nat) : Int) - 1 = o + q by omega]
    exact this
theorem u_set_M : ∀ (k : Nat) {Q : List Int} {o : Int}, u_set 7 (List.replicate k 2 ++ Q) o = u_set 7 Q (o - k) := by
  intro k
  induction k with
  | zero => intro Q o; simp
  | succ q ih =>
    intro Q o
    rw [List.replicate_succ, List.cons_append, u_set_pop1 (by decide) (Or.inl rfl), ih]
    congr 1
    omega
theorem u_open_A : ∀ {A Q : List Int}, okA A → u_open (A ++ Q) = u_open Q := by
  intro A
  induction A with
  | nil => intro Q _; rfl
  | cons x A ih =>
    intro Q h
    have hx := h x (List.mem_cons_self ..)
    show (if 40 ≤ x then x else u_open (A ++ Q)) = _
    rw [if_neg (by omega)]
    exact ih (fun y hy => h y (List.mem_cons_of_mem _ hy))
theorem u_open_M : ∀ (k : Nat) {Q : List Int}, u_open (List.replicate k 2 ++ Q) = u_open Q := by
  intro k
  induction k with
  | zero => intro Q; rfl
  | succ q ih => intro Q; exact ih
theorem u_open_N : ∀ (k : Nat) {Q : List Int}, u_open (List.replicate k 20 ++ Q) = u_open Q := by
  intro k
  induction k with
  | zero => intro Q; rfl
  | succ q ih => intro Q; exact ih
theorem u_isc_A : ∀ {A Q : List Int}, okA A → u_isc (A ++ Q) = u_isc Q := by
  intro A
  induction A with
  | nil => intro Q _; rfl
  | cons x A ih =>
    intro Q h
    have hx := rk_A (h x (List.mem_cons_self ..))
    show (if 4 < u_rank x then u_isc (A ++ Q) else decide (u_rank x = 4)) = _
    rw [if_pos (by omega)]
    exact ih (fun y hy => h y (List.mem_cons_of_mem _ hy))
theorem u_isc_lo {Q : List Int} (h : ∀ x, Q.head? = some x → u_rank x ≤ 3) : u_isc Q = false := by
  cases Q with
  | nil => rfl
  | cons x Q =>
    have := h x rfl
    show (if 4 < u_rank x then u_isc Q else decide (u_rank x = 4)) = false
    rw [if_neg (by omega)]
    simp
    omega
/-! One step. -/
theorem r_bt {i : Nat} {p : List Int} {o m : Int} {res : Int × Nat} (h : 0 ≤ u_btw (tk i) p) (hr : RR tk vl dr sh (i + 1) (u_btw (tk i) p :: (u_set (u_rank (u_btw (tk i) p)) p o).1) (u_set (u_rank (u_btw (tk i) p)) p o).2 m false res) : RR tk vl dr sh i p o m true res := by
  obtain ⟨F, hF⟩ := hr
  refine ⟨F + 1, ?_⟩
  unfold uR
  rw [if_pos h]
  exact hF
theorem r_sh {i : Nat} {p : List Int} {o m : Int} {res : Int × Nat} (h : ¬ 0 ≤ u_btw (tk i) p) (he : u_end (tk i) p = true) (hr : RR tk vl dr sh (i + 1) (u_set 7 (u_set 1 p o).1.tail ((u_set 1 p o).2 - 1)).1 (u_set 7 (u_set 1 p o).1.tail ((u_set 1 p o).2 - 1)).2 (if 41 ≤ u_open p then m - 1 else m) true res) : RR tk vl dr sh i p o m true res := by
  obtain ⟨F, hF⟩ := hr
  refine ⟨F + 1, ?_⟩
  unfold uR
  rw [if_neg h, if_pos he]
  exact hF
theorem r_no {i : Nat} {p : List Int} {o m : Int} (h : ¬ 0 ≤ u_btw (tk i) p) (he : u_end (tk i) p = false) : RR tk vl dr sh i p o m true (if 0 ≤ u_open p then (1, i) else (0, i)) := by
  refine ⟨1, ?_⟩
  unfold uR
  rw [if_neg h, he, if_neg (by decide)]
  split <;> rfl
theorem r_big {i : Nat} {p : List Int} {o m : Int} (h : tk i = 53) (hv : 9999 < vl i) : RR tk vl dr sh i p o m false (2, i) := by
  refine ⟨1, ?_⟩
  unfold uR
  rw [if_pos ⟨h, hv⟩]
theorem r_nam {i : Nat} {p : List Int} {o m : Int} (h : u_nam (tk i) = true) (h53 : tk i ≠ 53) (hv : u_isOf dr sh m (tk i) = false) : RR tk vl dr sh i p o m false (5, i) := by
  refine ⟨1, ?_⟩
  unfold uR
  rw [if_neg (fun hh => h53 hh.1), if_pos ⟨h, hv⟩]
theorem r_val {i : Nat} {p : List Int} {o m : Int} {res : Int × Nat} (h : (tk i = 53 ∧ vl i ≤ 9999 ∧ u_nam (tk i) = false) ∨ (tk i ≠ 53 ∧ u_nam (tk i) = true ∧ u_isOf dr sh m (tk i) = true)) (hr : RR tk vl dr sh (i + 1) (u_set 7 p o).1 (u_set 7 p o).2 m true res) : RR tk vl dr sh i p o m false res := by
  obtain ⟨F, hF⟩ := hr
  refine ⟨F + 1, ?_⟩
  unfold uR
  rcases h with ⟨h1, h2, h3⟩ | ⟨h1, h2, h3⟩
  · rw [if_neg (by omega), if_neg (fun hh => by rw [h3] at hh; cases hh.1), if_pos (Or.inl h1)]
    exact hF
  · rw [if_neg (fun hh => h1 hh.1), if_neg (fun hh => by rw [h3] at hh; cases hh.2), if_pos (Or.inr h2)]
    exact hF
/-- nothing that is a value -/
def nov (t : Int) : Prop := t ≠ 53 ∧ u_nam t = false
theorem nov_of {t : Int} (h : t = 48 ∨ t = 41 ∨ t = 20 ∨ t = 21 ∨ t = 25) : nov t := by
  rcases h with rfl | rfl | rfl | rfl | rfl <;> exact ⟨by decide, by decide⟩
theorem r_opn {i : Nat} {p : List Int} {o m : Int} {res : Int × Nat} {x : Int} (h : (tk i = 48 ∧ x = 40) ∨ (tk i = 41 ∧ x = 2) ∨ (tk i = 20 ∧ x = 41) ∨ (tk i = 21 ∧ x = 42) ∨ (tk i = 25 ∧ x = 20 ∧ u_ask p = true)) (hr : if o = 8 then res = (3, i) else RR tk vl dr sh (i + 1) (x :: p) (o + 1) (if 41 ≤ x then m + 1 else m) false res) : RR tk vl dr sh i p o m false res := by
  have hn : nov (tk i) := nov_of (by omega)
  by_cases ho : o = 8
  · rw [if_pos ho] at hr
    refine ⟨1, ?_⟩
    unfold uR
    rw [hr, if_neg (fun hh => hn.1 hh.1), if_neg (fun hh => by rw [hn.2] at hh; cases hh.1), if_neg (fun hh => by rcases hh with hh | hh; exact hn.1 hh; rw [hn.2] at hh; cases hh)]
    rcases h with ⟨h, rfl⟩ | ⟨h, rfl⟩ | ⟨h, rfl⟩ | ⟨h, rfl⟩ | ⟨h, rfl, ha⟩
    · rw [if_pos h, if_pos ho]
    · rw [if_neg (by omega), if_pos h, if_pos ho]
    · rw [if_neg (by omega), if_neg (by omega), if_pos h, if_pos ho]
    · rw [if_neg (by omega), if_neg (by omega), if_neg (by omega), if_pos h, if_pos ho]
    · rw [if_neg (by omega), if_neg (by omega), if_neg (by omega), if_neg (by omega), if_pos ⟨h, ha⟩, if_pos ho]
  · rw [if_neg ho] at hr
    obtain ⟨F, hF⟩ := hr
    refine ⟨F + 1, ?_⟩
    unfold uR
    rw [if_neg (fun hh => hn.1 hh.1), if_neg (fun hh => by rw [hn.2] at hh; cases hh.1), if_neg (fun hh => by rcases hh with hh | hh; exact hn.1 hh; rw [hn.2] at hh; cases hh)]
    rcases h with ⟨h, rfl⟩ | ⟨h, rfl⟩ | ⟨h, rfl⟩ | ⟨h, rfl⟩ | ⟨h, rfl, ha⟩
    · rw [if_pos h, if_neg ho]
      exact hF
    · rw [if_neg (by omega), if_pos h, if_neg ho]
      exact hF
    · rw [if_neg (by omega), if_neg (by omega), if_pos h, if_neg ho]
      exact hF
    · rw [if_neg (by omega), if_neg (by omega), if_neg (by omega), if_pos h, if_neg ho]
      exact hF
    · rw [if_neg (by omega), if_neg (by omega), if_neg (by omega), if_neg (by omega), if_pos ⟨h, ha⟩, if_neg ho]
      exact hF
theorem r_els {i : Nat} {p : List Int} {o m : Int} (hn : nov (tk i)) (h1 : tk i ≠ 48) (h2 : tk i ≠ 41) (h3 : tk i ≠ 20) (h4 : tk i ≠ 21) (h5 : ¬ (tk i = 25 ∧ u_ask p = true)) : RR tk vl dr sh i p o m false (1, i) := by
  refine ⟨1, ?_⟩
  unfold uR
  rw [if_neg (fun hh => hn.1 hh.1), if_neg (fun hh => by rw [hn.2] at hh; cases hh.1), if_neg (fun hh => by rcases hh with hh | hh; exact hn.1 hh; rw [hn.2] at hh; cases hh), if_neg h1, if_neg h2, if_neg h3, if_neg h4, if_neg h5]
end US
