/-! The pile does what the methods do. -/
section US
variable {tk vl : Nat → Int} {dr sh : Bool}
def hdr (Q : List Int) (l : Int) : Prop := ∀ x, Q.head? = some x → u_rank x ≤ l
def okS (S : List Int) (q : Nat) : Prop := ∃ (A : List Int) (x : Int), okA A ∧ (10 ≤ x ∧ x ≤ 15) ∧ S = A ++ x :: List.replicate q 20
theorem hdr_c {x l : Int} {Q : List Int} (h : u_rank x ≤ l) : hdr (x :: Q) l := fun y hy => by
  have e : x = y := Option.some.inj hy
  rw [← e]
  exact h
theorem hdr_m {Q : List Int} {l l' : Int} (h : hdr Q l) (hl : l ≤ l') : hdr Q l' := fun x hx => Int.le_trans (h x hx) hl
theorem u_set_hd {l : Int} {Q : List Int} {o : Int} {l' : Int} (h : hdr Q l') (hl : l' < l) : u_set l Q o = (Q, o) := u_set_stop (fun x hx => by have := h x hx; omega)
theorem u_set_S {l : Int} (hl : l ≤ 3) {S : List Int} {q : Nat} (h : okS S q) {Q : List Int} {o : Int} : u_set l (S ++ Q) (o + q) = u_set l Q o := by
  obtain ⟨A, x, hA, hx, rfl⟩ := h
  have hr := rk_C hx
  rw [List.append_assoc, u_set_A (by omega) hA, List.cons_append, u_set_pop (by omega) (by omega) (by omega), u_set_N hl]
theorem u_open_S {S : List Int} {q : Nat} (h : okS S q) {Q : List Int} : u_open (S ++ Q) = u_open Q := by
  obtain ⟨A, x, hA, hx, rfl⟩ := h
  rw [List.append_assoc, u_open_A hA, List.cons_append]
  show (if 40 ≤ x then x else u_open (List.replicate q 20 ++ Q)) = _
  rw [if_neg (by omega), u_open_N]
theorem u_isc_S {S : List Int} {q : Nat} (h : okS S q) {Q : List Int} : u_isc (S ++ Q) = true := by
  obtain ⟨A, x, hA, hx, rfl⟩ := h
  have hr := rk_C hx
  rw [List.append_assoc, u_isc_A hA, List.cons_append]
  show (if 4 < u_rank x then u_isc (List.replicate q 20 ++ Q) else decide (u_rank x = 4)) = true
  rw [if_neg (by omega)]
  simp [hr]
theorem ask_of {Q : List Int} (ho : u_open Q = 42) (hh : hdr Q 3) : u_ask Q = true := by
  unfold u_ask
  rw [ho]
  cases Q with
  | nil => cases ho
  | cons x Q =>
    have h1 := hh x rfl
    have h2 : (if 40 ≤ x then x else u_open Q) = 42 := ho
    by_cases hx : 40 ≤ x
    · rw [if_pos hx] at h2
      subst h2
      rfl
    · have h3 : 1 ≤ u_rank x := by
        unfold u_rank
        rw [if_neg hx]
        repeat' split <;> omega
      simp [h1, h3]
/-- no sign between numbers -/
def noA (t : Int) : Prop := t ≠ 40 ∧ t ≠ 41 ∧ t ≠ 42 ∧ t ≠ 43
theorem bt_A {t : Int} (h : noA t) {p : List Int} (ho : u_open p ≠ 42) : u_btw t p = -1 := by
  obtain ⟨h1, h2, h3, h4⟩ := h
  unfold u_btw
  rw [if_neg h1, if_neg h2, if_neg h3, if_neg h4, if_pos ho]
theorem bt_C {t : Int} (h : noA t) {p : List Int} (ho : u_open p = 42) (hi : u_isc p = false) : u_btw t p = u_cod t := by
  obtain ⟨h1, h2, h3, h4⟩ := h
  unfold u_btw
  rw [if_neg h1, if_neg h2, if_neg h3, if_neg h4, if_neg (fun h => h ho), if_pos hi]
theorem bt_D {t : Int} (h : noA t) {p : List Int} (ho : u_open p = 42) (hi : u_isc p = true) : u_btw t p = if t = 24 then 21 else if t = 23 then 22 else -1 := by
  obtain ⟨h1, h2, h3, h4⟩ := h
  unfold u_btw
  rw [if_neg h1, if_neg h2, if_neg h3, if_neg h4, if_neg (fun h => h ho), hi, if_neg (by decide)]
theorem cod_y {t : Int} (h : u_cmp t = true) : 10 ≤ u_cod t ∧ u_cod t ≤ 15 := by
  unfold u_cmp at h
  simp only [Bool.or_eq_true, decide_eq_true_eq] at h
  unfold u_cod
  repeat' split <;> omega
theorem cod_n {t : Int} (h : u_cmp t ≠ true) : u_cod t = -1 := by
  unfold u_cmp at h
  simp only [ne_eq, Bool.or_eq_true, decide_eq_true_eq] at h
  unfold u_cod
  repeat' split <;> omega
theorem cmp_noA {t : Int} (h : u_cmp t = true) : noA t := by
  unfold u_cmp at h
  simp only [Bool.or_eq_true, decide_eq_true_eq] at h
  unfold noA
  omega
/-- what a part of a law leaves: with c = 0 one goes on, else it is the end -/
def Con (c : Int) (j : Nat) (cont goal : Int × Nat → Prop) : Prop := (c = 0 → ∀ res, cont res → goal res) ∧ (c ≠ 0 → goal (c, j))
theorem Con.no {c : Int} {j : Nat} {cont goal : Int × Nat → Prop} (hc : c ≠ 0) (h : goal (c, j)) : Con c j cont goal := ⟨fun h0 => absurd h0 hc, fun _ => h⟩
theorem Con.yes {j : Nat} {cont goal : Int × Nat → Prop} (h : ∀ res, cont res → goal res) : Con 0 j cont goal := ⟨fun _ => h, fun h0 => absurd rfl h0⟩
def S0 (tk vl : Nat → Int) (dr sh : Bool) (f : Nat) : Prop := ∀ (d : Nat) (own : Bool) (i : Nat) (c : Int) (j : Nat), uP tk vl sh f 0 d own i = some (c, j) → d ≤ 8 → ∀ (k : Nat) (P : List Int) (m : Int), hdr P 6 → 0 ≤ m → own = (!dr || decide (0 < m)) → (tk i ≠ 25 ∨ u_ask (List.replicate k 2 ++ P) = false) → Con c j (fun res => RR tk vl dr sh j P ((d : Int) - k) m true res) (fun res => RR tk vl dr sh i (List.replicate k 2 ++ P) d m false res)
def S1 (tk vl : Nat → Int) (dr sh : Bool) (f : Nat) : Prop := ∀ (d : Nat) (own : Bool) (i : Nat) (c : Int) (j : Nat), uP tk vl sh f 1 d own i = some (c, j) → d ≤ 8 → ∀ (Q : List Int) (m : Int), hdr Q 5 → 0 ≤ m → own = (!dr || decide (0 < m)) → (tk i ≠ 25 ∨ u_ask Q = false) → (c = 0 → tk j ≠ 42 ∧ tk j ≠ 43) ∧ Con c j (fun res => ∀ B, okB B → RR tk vl dr sh j (B ++ Q) d m true res) (fun res => RR tk vl dr sh i Q d m false res)
def S2 (tk vl : Nat → Int) (dr sh : Bool) (f : Nat) : Prop := ∀ (d : Nat) (own : Bool) (i : Nat) (c : Int) (j : Nat), uP tk vl sh f 2 d own i = some (c, j) → d ≤ 8 → ∀ (Q : List Int) (m : Int), hdr Q 5 → 0 ≤ m → own = (!dr || decide (0 < m)) → (c = 0 → tk j ≠ 42 ∧ tk j ≠ 43) ∧ ∀ B, okB B → Con c j (fun res => ∀ B, okB B → RR tk vl dr sh j (B ++ Q) d m true res) (fun res => RR tk vl dr sh i (B ++ Q) d m true res)
def S3 (tk vl : Nat → Int) (dr sh : Bool) (f : Nat) : Prop := ∀ (d : Nat) (own : Bool) (i : Nat) (c : Int) (j : Nat), uP tk vl sh f 3 d own i = some (c, j) → d ≤ 8 → ∀ (Q : List Int) (m : Int), hdr Q 4 → 0 ≤ m → own = (!dr || decide (0 < m)) → (tk i ≠ 25 ∨ u_ask Q = false) → (c = 0 → noA (tk j)) ∧ Con c j (fun res => ∀ A, okA A → RR tk vl dr sh j (A ++ Q) d m true res) (fun res => RR tk vl dr sh i Q d m false res)
def S4 (tk vl : Nat → Int) (dr sh : Bool) (f : Nat) : Prop := ∀ (d : Nat) (own : Bool) (i : Nat) (c : Int) (j : Nat), uP tk vl sh f 4 d own i = some (c, j) → (tk i ≠ 42 ∧ tk i ≠ 43) → d ≤ 8 → ∀ (Q : List Int) (m : Int), hdr Q 4 → 0 ≤ m → own = (!dr || decide (0 < m)) → (c = 0 → noA (tk j)) ∧ ∀ A, okA A → Con c j (fun res => ∀ A, okA A → RR tk vl dr sh j (A ++ Q) d m true res) (fun res => RR tk vl dr sh i (A ++ Q) d m true res)
def S5 (tk vl : Nat → Int) (dr sh : Bool) (f : Nat) : Prop := ∀ (d : Nat) (own : Bool) (i : Nat) (c : Int) (j : Nat), uP tk vl sh f 5 d own i = some (c, j) → d ≤ 8 → ∀ (Q : List Int) (m : Int), hdr Q 3 → u_open Q = 42 → 0 < m → (c = 0 → noA (tk j)) ∧ Con c j (fun res => ∀ S q, okS S q → RR tk vl dr sh j (S ++ Q) ((d : Int) + q) m true res) (fun res => RR tk vl dr sh i Q d m false res)
def S6 (tk vl : Nat → Int) (dr sh : Bool) (f : Nat) : Prop := ∀ (d : Nat) (own : Bool) (i : Nat) (c : Int) (j : Nat), uP tk vl sh f 6 d own i = some (c, j) → d ≤ 8 → ∀ (Q : List Int) (m : Int), hdr Q 1 → u_open Q = 42 → 0 < m → (c = 0 → noA (tk j) ∧ tk j ≠ 24) ∧ Con c j (fun res => ∀ S q X, okS S q → (X = [] ∨ X = [21]) → RR tk vl dr sh j (S ++ (X ++ Q)) ((d : Int) + q) m true res) (fun res => RR tk vl dr sh i Q d m false res)
def S7 (tk vl : Nat → Int) (dr sh : Bool) (f : Nat) : Prop := ∀ (d : Nat) (own : Bool) (i : Nat) (c : Int) (j : Nat), uP tk vl sh f 7 d own i = some (c, j) → noA (tk i) → d ≤ 8 → ∀ (Q : List Int) (m : Int), hdr Q 1 → u_open Q = 42 → 0 < m → (c = 0 → noA (tk j) ∧ tk j ≠ 24) ∧ ∀ S q X, okS S q → (X = [] ∨ X = [21]) → Con c j (fun res => ∀ S q X, okS S q → (X = [] ∨ X = [21]) → RR tk vl dr sh j (S ++ (X ++ Q)) ((d : Int) + q) m true res) (fun res => RR tk vl dr sh i (S ++ (X ++ Q)) ((d : Int) + q) m true res)
def S8 (tk vl : Nat → Int) (dr sh : Bool) (f : Nat) : Prop := ∀ (d : Nat) (own : Bool) (i : Nat) (c : Int) (j : Nat), uP tk vl sh f 8 d own i = some (c, j) → d ≤ 8 → ∀ (Q : List Int) (m : Int), 0 < m → (c = 0 → noA (tk j) ∧ tk j ≠ 24 ∧ tk j ≠ 23) ∧ Con c j (fun res => ∀ S q X Y, okS S q → (X = [] ∨ X = [21]) → (Y = [] ∨ Y = [22]) → RR tk vl dr sh j (S ++ (X ++ (Y ++ 42 :: Q))) ((d : Int) + q) m true res) (fun res => RR tk vl dr sh i (42 :: Q) d m false res)
def S9 (tk vl : Nat → Int) (dr sh : Bool) (f : Nat) : Prop := ∀ (d : Nat) (own : Bool) (i : Nat) (c : Int) (j : Nat), uP tk vl sh f 9 d own i = some (c, j) → noA (tk i) ∧ tk i ≠ 24 → d ≤ 8 → ∀ (Q : List Int) (m : Int), 0 < m → (c = 0 → noA (tk j) ∧ tk j ≠ 24 ∧ tk j ≠ 23) ∧ ∀ S q X Y, okS S q → (X = [] ∨ X = [21]) → (Y = [] ∨ Y = [22]) → Con c j (fun res => ∀ S q X Y, okS S q → (X = [] ∨ X = [21]) → (Y = [] ∨ Y = [22]) → RR tk vl dr sh j (S ++ (X ++ (Y ++ 42 :: Q))) ((d : Int) + q) m true res) (fun res => RR tk vl dr sh i (S ++ (X ++ (Y ++ 42 :: Q))) ((d : Int) + q) m true res)
/-- the piles' ranks -/
theorem open_XY {S X Y Q : List Int} {q : Nat} (hS : okS S q) (hX : X = [] ∨ X = [21]) (hY : Y = [] ∨ Y = [22]) : u_open (S ++ (X ++ (Y ++ 42 :: Q))) = 42 ∧ u_isc (S ++ (X ++ (Y ++ 42 :: Q))) = true := by
  refine ⟨?_, u_isc_S hS⟩
  rw [u_open_S hS]
  rcases hX with rfl | rfl <;> rcases hY with rfl | rfl <;> rfl
theorem set1_XY {S X Y Q : List Int} {q : Nat} {o : Int} (hS : okS S q) (hX : X = [] ∨ X = [21]) (hY : Y = [] ∨ Y = [22]) : u_set 1 (S ++ (X ++ (Y ++ 42 :: Q))) (o + q) = (42 :: Q, o) := by
  rw [u_set_S (by decide) hS]
  have h42 : u_set 1 (42 :: Q) o = (42 :: Q, o) := u_set_hd (hdr_c (by decide : u_rank 42 ≤ 0)) (by decide)
  have h22 : ∀ Z, u_set 1 (22 :: Z) o = u_set 1 Z o := fun Z => u_set_pop (by decide) (by decide) (by decide)
  have h21 : ∀ Z, u_set 1 (21 :: Z) o = u_set 1 Z o := fun Z => u_set_pop (by decide) (by decide) (by decide)
  rcases hX with rfl | rfl <;> rcases hY with rfl | rfl
  · exact h42
  · exact (h22 _).trans h42
  · exact (h21 _).trans h42
  · exact (h21 _).trans ((h22 _).trans h42)
/-- what is open is shut -/
theorem shut_ok {x : Int} {k : Nat} {P p : List Int} {d : Nat} {o m : Int} {j : Nat} {res : Int × Nat} (hP : hdr P 6) (hs : u_set 1 p o = (x :: (List.replicate k 2 ++ P), (d : Int) + 1)) (hop : u_open p = x) (hb : ¬ 0 ≤ u_btw (tk j) p) (he : u_end (tk j) p = true) (hr : RR tk vl dr sh (j + 1) P ((d : Int) - k) (if 41 ≤ x then m - 1 else m) true res) : RR tk vl dr sh j p o m true res := by
  refine r_sh hb he ?_
  rw [hs, hop]
  show RR tk vl dr sh (j + 1) (u_set 7 (List.replicate k 2 ++ P) ((d : Int) + 1 - 1)).1 (u_set 7 (List.replicate k 2 ++ P) ((d : Int) + 1 - 1)).2 _ true res
  rw [u_set_M, u_set_hd hP (by decide), show (d : Int) + 1 - 1 - k = (d : Int) - k by omega]
  exact hr
theorem ask_c {x : Int} {Q : List Int} (h : (40 ≤ x ∧ x ≠ 42) ∨ 4 ≤ u_rank x) (hx : x ≠ 42) : u_ask (x :: Q) = false := by
  unfold u_ask
  rcases h with h | h
  · have e : u_open (x :: Q) = x := if_pos h.1
    rw [e]
    simp [hx]
  · have e : decide (u_rank x ≤ 3) = false := by simp; omega
    simp [hx, e]
theorem uSim : ∀ f : Nat, S0 tk vl dr sh f ∧ S1 tk vl dr sh f ∧ S2 tk vl dr sh f ∧ S3 tk vl dr sh f ∧ S4 tk vl dr sh f ∧ S5 tk vl dr sh f ∧ S6 tk vl dr sh f ∧ S7 tk vl dr sh f ∧ S8 tk vl dr sh f ∧ S9 tk vl dr sh f := by
  intro f
  induction f with
  | zero => refine ⟨?_, ?_, ?_, ?_, ?_, ?_, ?_, ?_, ?_, ?_⟩ <;> (intro d own i c j h; cases h)
  | succ f ih =>
    obtain ⟨i0, i1, i2, i3, i4, i5, i6, i7, i8, i9⟩ := ih
    refine ⟨?_, ?_, ?_, ?_, ?_, ?_, ?_, ?_, ?_, ?_⟩
    · -- one
      intro d own i c j h hd k P m hP hm how hask
      rw [uP0] at h
      split at h
      · rename_i h53
        split at h
        · rename_i hv
          obtain ⟨rfl, rfl⟩ := Prod.mk.inj (Option.some.inj h)
          refine Con.yes (fun res hres => ?_)
          refine r_val (Or.inl ⟨h53, hv, by rw [h53]; rfl⟩) ?_
          rw [u_set_M, u_set_hd hP (by decide)]
          exact hres
        · rename_i hv
          obtain ⟨rfl, rfl⟩ := Prod.mk.inj (Option.some.inj h)
          exact Con.no (by decide) (r_big h53 (by omega))
      · rename_i h53
        split at h
        · rename_i hn
          have hio : u_ok sh own (tk i) = u_isOf dr sh m (tk i) := by
            unfold u_ok u_isOf
            rw [how]
          rw [hio] at h
          split at h
          · rename_i hk
            obtain ⟨rfl, rfl⟩ := Prod.mk.inj (Option.some.inj h)
            refine Con.yes (fun res hres => ?_)
            refine r_val (Or.inr ⟨h53, hn, hk⟩) ?_
            rw [u_set_M, u_set_hd hP (by decide)]
            exact hres
          · rename_i hk
            obtain ⟨rfl, rfl⟩ := Prod.mk.inj (Option.some.inj h)
            exact Con.no (by decide) (r_nam hn h53 (by simpa using hk))
        · rename_i hn
          have hnov : nov (tk i) := ⟨h53, by simpa using hn⟩
          split at h
          · rename_i h48
            split at h
            · rename_i hd8
              obtain ⟨rfl, rfl⟩ := Prod.mk.inj (Option.some.inj h)
              exact Con.no (by decide) (r_opn (Or.inl ⟨h48, rfl⟩) (by rw [if_pos (by omega)]))
            · rename_i hd8
              have key := i3 (d + 1) own (i + 1)
              rcases u_b_cs h with ⟨j1, hp, h⟩ | ⟨hc, h⟩
              · try dsimp only at h
                obtain ⟨hA, hC⟩ := key 0 j1 hp (by omega) (40 :: (List.replicate k 2 ++ P)) m (hdr_c (by decide)) hm how (Or.inr (ask_c (Or.inl (by decide)) (by decide)))
                have hnA := hA rfl
                have hgo : ∀ res, (∀ A, okA A → RR tk vl dr sh j1 (A ++ 40 :: (List.replicate k 2 ++ P)) ((d : Int) + 1) m true res) → RR tk vl dr sh i (List.replicate k 2 ++ P) d m false res := fun res hr => r_opn (Or.inl ⟨h48, rfl⟩) (by
                  rw [if_neg (by omega), if_neg (by decide)]
                  exact hC.1 rfl res (fun A hA => by rw [show ((d + 1 : Nat) : Int) = (d : Int) + 1 by omega]; exact hr A hA))
                split at h
                · rename_i h49
                  obtain ⟨rfl, rfl⟩ := Prod.mk.inj (Option.some.inj h)
                  refine Con.yes (fun res hres => hgo res (fun A hA => ?_))
                  have ho : u_open (A ++ 40 :: (List.replicate k 2 ++ P)) = 40 := by rw [u_open_A hA]; rfl
                  refine shut_ok (k := k) (d := d) hP (by rw [u_set_A (by decide) hA]; exact u_set_hd (hdr_c (by decide : u_rank 40 ≤ 0)) (by decide)) ho (by rw [bt_A hnA (by rw [ho]; decide)]; decide) (by unfold u_end; rw [ho, h49]; rfl) ?_
                  exact hres
                · rename_i h49
                  obtain ⟨rfl, rfl⟩ := Prod.mk.inj (Option.some.inj h)
                  refine Con.no (by decide) (hgo _ (fun A hA => ?_))
                  have ho : u_open (A ++ 40 :: (List.replicate k 2 ++ P)) = 40 := by rw [u_open_A hA]; rfl
                  have := r_no (tk := tk) (vl := vl) (dr := dr) (sh := sh) (i := j1) (p := A ++ 40 :: (List.replicate k 2 ++ P)) (o := (d : Int) + 1) (m := m) (by rw [bt_A hnA (by rw [ho]; decide)]; decide) (by unfold u_end; rw [ho]; simp [h49])
                  rw [ho] at this
                  exact this
              · obtain ⟨-, hC⟩ := key c j h (by omega) (40 :: (List.replicate k 2 ++ P)) m (hdr_c (by decide)) hm how (Or.inr (ask_c (Or.inl (by decide)) (by decide)))
                refine Con.no hc (r_opn (Or.inl ⟨h48, rfl⟩) ?_)
                rw [if_neg (by omega), if_neg (by decide)]
                have := hC.2 hc
                rw [show ((d + 1 : Nat) : Int) = (d : Int) + 1 by omega] at this
                exact this
          · rename_i h48
            split at h
            · rename_i h41
              split at h
              · rename_i hd8
                obtain ⟨rfl, rfl⟩ := Prod.mk.inj (Option.some.inj h)
                exact Con.no (by decide) (r_opn (Or.inr (Or.inl ⟨h41, rfl⟩)) (by rw [if_pos (by omega)]))
              · rename_i hd8
                have hC := i0 (d + 1) own (i + 1) c j h (by omega) (k + 1) P m hP hm how (Or.inr (ask_c (Or.inr (by decide)) (by decide)))
                have e1 : ((d + 1 : Nat) : Int) = (d : Int) + 1 := by omega
                have e2 : ((d + 1 : Nat) : Int) - ((k + 1 : Nat) : Int) = (d : Int) - k := by omega
                rw [e2] at hC
                refine ⟨fun hc res hres => ?_, fun hc => ?_⟩
                · refine r_opn (Or.inr (Or.inl ⟨h41, rfl⟩)) ?_
                  rw [if_neg (by omega), if_neg (by decide)]
                  have := hC.1 hc res hres
                  rw [e1] at this
                  exact this
                · refine r_opn (Or.inr (Or.inl ⟨h41, rfl⟩)) ?_
                  rw [if_neg (by omega), if_neg (by decide)]
                  have := hC.2 hc
                  rw [e1] at this
                  exact this
            · rename_i h41
              split at h
              · rename_i h20
                split at h
                · rename_i hd8
                  obtain ⟨rfl, rfl⟩ := Prod.mk.inj (Option.some.inj h)
                  exact Con.no (by decide) (r_opn (Or.inr (Or.inr (Or.inl ⟨h20, rfl⟩))) (by rw [if_pos (by omega)]))
                · rename_i hd8
                  have key := fun c j hh => i3 (d + 1) true (i + 1) c j hh (by omega) (41 :: (List.replicate k 2 ++ P)) (m + 1) (hdr_c (by decide)) (by omega) (by simp; right; omega) (Or.inr (ask_c (Or.inl (by decide)) (by decide)))
                  rcases u_b_cs h with ⟨j1, hp, h⟩ | ⟨hc, h⟩
                  · try dsimp only at h
                    obtain ⟨hA, hC⟩ := key 0 j1 hp
                    have hnA := hA rfl
                    have hgo : ∀ res, (∀ A, okA A → RR tk vl dr sh j1 (A ++ 41 :: (List.replicate k 2 ++ P)) ((d : Int) + 1) (m + 1) true res) → RR tk vl dr sh i (List.replicate k 2 ++ P) d m false res := fun res hr => r_opn (Or.inr (Or.inr (Or.inl ⟨h20, rfl⟩))) (by
                      rw [if_neg (by omega), if_pos (by decide)]
                      exact hC.1 rfl res (fun A hA => by rw [show ((d + 1 : Nat) : Int) = (d : Int) + 1 by omega]; exact hr A hA))
                    split at h
                    · rename_i h22
                      obtain ⟨rfl, rfl⟩ := Prod.mk.inj (Option.some.inj h)
                      refine Con.yes (fun res hres => hgo res (fun A hA => ?_))
                      have ho : u_open (A ++ 41 :: (List.replicate k 2 ++ P)) = 41 := by rw [u_open_A hA]; rfl
                      refine shut_ok (k := k) (d := d) hP (by rw [u_set_A (by decide) hA]; exact u_set_hd (hdr_c (by decide : u_rank 41 ≤ 0)) (by decide)) ho (by rw [bt_A hnA (by rw [ho]; decide)]; decide) (by unfold u_end; rw [ho, h22]; rfl) ?_
                      rw [if_pos (by decide), show m + 1 - 1 = m by omega]
                      exact hres
                    · rename_i h22
                      obtain ⟨rfl, rfl⟩ := Prod.mk.inj (Option.some.inj h)
                      refine Con.no (by decide) (hgo _ (fun A hA => ?_))
                      have ho : u_open (A ++ 41 :: (List.replicate k 2 ++ P)) = 41 := by rw [u_open_A hA]; rfl
                      have := r_no (tk := tk) (vl := vl) (dr := dr) (sh := sh) (i := j1) (p := A ++ 41 :: (List.replicate k 2 ++ P)) (o := (d : Int) + 1) (m := m + 1) (by rw [bt_A hnA (by rw [ho]; decide)]; decide) (by unfold u_end; rw [ho]; simp [h22])
                      rw [ho] at this
                      exact this
                  · obtain ⟨-, hC⟩ := key c j h
                    refine Con.no hc (r_opn (Or.inr (Or.inr (Or.inl ⟨h20, rfl⟩))) ?_)
                    rw [if_neg (by omega), if_pos (by decide)]
                    have := hC.2 hc
                    rw [show ((d + 1 : Nat) : Int) = (d : Int) + 1 by omega] at this
                    exact this
              · rename_i h20
                split at h
                · rename_i h21
                  split at h
                  · rename_i hd8
                    obtain ⟨rfl, rfl⟩ := Prod.mk.inj (Option.some.inj h)
                    exact Con.no (by decide) (r_opn (Or.inr (Or.inr (Or.inr (Or.inl ⟨h21, rfl⟩)))) (by rw [if_pos (by omega)]))
                  · rename_i hd8
                    have key := fun c j hh => i8 (d + 1) true (i + 1) c j hh (by omega) (List.replicate k 2 ++ P) (m + 1) (by omega)
                    rcases u_b_cs h with ⟨j1, hp, h⟩ | ⟨hc, h⟩
                    · try dsimp only at h
                      obtain ⟨hA, hC⟩ := key 0 j1 hp
                      obtain ⟨hnA, n24, n23⟩ := hA rfl
                      have hgo : ∀ res, (∀ S q X Y, okS S q → (X = [] ∨ X = [21]) → (Y = [] ∨ Y = [22]) → RR tk vl dr sh j1 (S ++ (X ++ (Y ++ 42 :: (List.replicate k 2 ++ P)))) ((d : Int) + 1 + q) (m + 1) true res) → RR tk vl dr sh i (List.replicate k 2 ++ P) d m false res := fun res hr => r_opn (Or.inr (Or.inr (Or.inr (Or.inl ⟨h21, rfl⟩)))) (by
                        rw [if_neg (by omega), if_pos (by decide)]
                        exact hC.1 rfl res (fun S q X Y h1 h2 h3 => by rw [show ((d + 1 : Nat) : Int) = (d : Int) + 1 by omega]; exact hr S q X Y h1 h2 h3))
                      have nb : ∀ {S q X Y}, okS S q → (X = [] ∨ X = [21]) → (Y = [] ∨ Y = [22]) → ¬ 0 ≤ u_btw (tk j1) (S ++ (X ++ (Y ++ 42 :: (List.replicate k 2 ++ P)))) := fun h1 h2 h3 => by
                        obtain ⟨e1, e2⟩ := open_XY (Q := List.replicate k 2 ++ P) h1 h2 h3
                        rw [bt_D hnA e1 e2, if_neg n24, if_neg n23]
                        decide
                      split at h
                      · rename_i h22
                        obtain ⟨rfl, rfl⟩ := Prod.mk.inj (Option.some.inj h)
                        refine Con.yes (fun res hres => hgo res (fun S q X Y h1 h2 h3 => ?_))
                        obtain ⟨e1, e2⟩ := open_XY (Q := List.replicate k 2 ++ P) h1 h2 h3
                        refine shut_ok (k := k) (d := d) (x := 42) hP (set1_XY h1 h2 h3) e1 (nb h1 h2 h3) (by unfold u_end; rw [e1, e2, h22]; rfl) ?_
                        rw [if_pos (by decide), show m + 1 - 1 = m by omega]
                        exact hres
                      · rename_i h22
                        obtain ⟨rfl, rfl⟩ := Prod.mk.inj (Option.some.inj h)
                        refine Con.no (by decide) (hgo _ (fun S q X Y h1 h2 h3 => ?_))
                        obtain ⟨e1, e2⟩ := open_XY (Q := List.replicate k 2 ++ P) h1 h2 h3
                        have := r_no (tk := tk) (vl := vl) (dr := dr) (sh := sh) (i := j1) (p := S ++ (X ++ (Y ++ 42 :: (List.replicate k 2 ++ P)))) (o := (d : Int) + 1 + q) (m := m + 1) (nb h1 h2 h3) (by unfold u_end; rw [e1]; simp [h22])
                        rw [e1] at this
                        exact this
                    · obtain ⟨-, hC⟩ := key c j h
                      refine Con.no hc (r_opn (Or.inr (Or.inr (Or.inr (Or.inl ⟨h21, rfl⟩)))) ?_)
                      rw [if_neg (by omega), if_pos (by decide)]
                      have := hC.2 hc
                      rw [show ((d + 1 : Nat) : Int) = (d : Int) + 1 by omega] at this
                      exact this
                · rename_i h21
                  obtain ⟨rfl, rfl⟩ := Prod.mk.inj (Option.some.inj h)
                  refine Con.no (by decide) ?_
                  refine r_els hnov h48 h41 h20 h21 (fun h25 => ?_)
                  rcases hask with h | h
                  · exact h h25.1
                  · rw [h] at h25
                    cases h25.2
    · -- a product
      intro d own i c j h hd Q m hQ hm how hask
      rw [uP1] at h
      have key := fun c j hh => i0 d own i c j hh hd 0 Q m (hdr_m hQ (by decide)) hm how hask
      rcases u_b_cs h with ⟨j1, hp, h⟩ | ⟨hc, h⟩
      · try dsimp only at h
        have hC := key 0 j1 hp
        obtain ⟨h1, h2⟩ := i2 d own j1 c j h hd Q m hQ hm how
        have h3 := h2 [] (fun x hx => absurd hx List.not_mem_nil)
        refine ⟨h1, fun hc res hres => ?_, fun hc => ?_⟩
        · have := hC.1 rfl res (by rw [show (d : Int) - ((0 : Nat) : Int) = d by omega]; exact h3.1 hc res hres)
          exact this
        · have := hC.1 rfl (c, j) (by rw [show (d : Int) - ((0 : Nat) : Int) = d by omega]; exact h3.2 hc)
          exact this
      · exact ⟨fun e => absurd e hc, Con.no hc ((key c j h).2 hc)⟩
    · -- its rest
      intro d own i c j h hd Q m hQ hm how
      rw [uP2] at h
      split at h
      · rename_i ht
        have hb : u_btw (tk i) = fun _ => (if tk i = 42 then 5 else 6) := by
          funext p
          unfold u_btw
          rcases ht with e | e <;> rw [e] <;> rfl
        generalize hx : (if tk i = 42 then (5 : Int) else 6) = x at hb
        have hx56 : 5 ≤ x ∧ x ≤ 6 := by rw [← hx]; split <;> omega
        have hr6 := rk_B hx56
        have hgo : ∀ B, okB B → ∀ res, RR tk vl dr sh (i + 1) (x :: Q) d m false res → RR tk vl dr sh i (B ++ Q) d m true res := fun B hB res hr => by
          refine r_bt (by rw [hb]; show 0 ≤ x; omega) ?_
          rw [hb]
          show RR tk vl dr sh (i + 1) (x :: (u_set (u_rank x) (B ++ Q) d).1) (u_set (u_rank x) (B ++ Q) d).2 m false res
          rw [hr6, u_set_B hB, u_set_hd hQ (by decide)]
          exact hr
        have key := fun c j hh => i0 d own (i + 1) c j hh hd 0 (x :: Q) m (hdr_c (by omega)) hm how (Or.inr (ask_c (Or.inr (by omega)) (by omega)))
        rcases u_b_cs h with ⟨j1, hp, h⟩ | ⟨hc, h⟩
        · try dsimp only at h
          have hC := key 0 j1 hp
          obtain ⟨h1, h2⟩ := i2 d own j1 c j h hd Q m hQ hm how
          have h3 := h2 [x] (fun y hy => by rw [List.mem_singleton.mp hy]; exact hx56)
          refine ⟨h1, fun B hB => ⟨fun hc res hres => hgo B hB res ?_, fun hc => hgo B hB _ ?_⟩⟩
          · exact hC.1 rfl res (by rw [show (d : Int) - ((0 : Nat) : Int) = d by omega]; exact h3.1 hc res hres)
          · exact hC.1 rfl (c, j) (by rw [show (d : Int) - ((0 : Nat) : Int) = d by omega]; exact h3.2 hc)
        · exact ⟨fun e => absurd e hc, fun B hB => Con.no hc (hgo B hB _ ((key c j h).2 hc))⟩
      · rename_i ht
        obtain ⟨rfl, rfl⟩ := Prod.mk.inj (Option.some.inj h)
        exact ⟨fun _ => ⟨fun e => ht (Or.inl e), fun e => ht (Or.inr e)⟩, fun B hB => Con.yes (fun res hres => hres B hB)⟩
    · -- a sum
      intro d own i c j h hd Q m hQ hm how hask
      rw [uP3] at h
      have key := fun c j hh => i1 d own i c j hh hd Q m (hdr_m hQ (by decide)) hm how hask
      rcases u_b_cs h with ⟨j1, hp, h⟩ | ⟨hc, h⟩
      · try dsimp only at h
        obtain ⟨t1, hC⟩ := key 0 j1 hp
        obtain ⟨h1, h2⟩ := i4 d own j1 c j h (t1 rfl) hd Q m hQ hm how
        refine ⟨h1, fun hc res hres => ?_, fun hc => ?_⟩
        · exact hC.1 rfl res (fun B hB => (h2 B (fun x hx => ⟨by have := hB x hx; omega, by have := hB x hx; omega⟩)).1 hc res hres)
        · exact hC.1 rfl (c, j) (fun B hB => (h2 B (fun x hx => ⟨by have := hB x hx; omega, by have := hB x hx; omega⟩)).2 hc)
      · exact ⟨fun e => absurd e hc, Con.no hc ((key c j h).2.2 hc)⟩
    · -- its rest
      intro d own i c j h ht0 hd Q m hQ hm how
      rw [uP4] at h
      split at h
      · rename_i ht
        have hb : u_btw (tk i) = fun _ => (if tk i = 40 then 3 else 4) := by
          funext p
          unfold u_btw
          rcases ht with e | e <;> rw [e] <;> rfl
        generalize hx : (if tk i = 40 then (3 : Int) else 4) = x at hb
        have hx34 : 3 ≤ x ∧ x ≤ 4 := by rw [← hx]; split <;> omega
        have hr5 : u_rank x = 5 := by rcases (show x = 3 ∨ x = 4 by omega) with rfl | rfl <;> rfl
        have hgo : ∀ A, okA A → ∀ res, RR tk vl dr sh (i + 1) (x :: Q) d m false res → RR tk vl dr sh i (A ++ Q) d m true res := fun A hA res hr => by
          refine r_bt (by rw [hb]; show 0 ≤ x; omega) ?_
          rw [hb]
          show RR tk vl dr sh (i + 1) (x :: (u_set (u_rank x) (A ++ Q) d).1) (u_set (u_rank x) (A ++ Q) d).2 m false res
          rw [hr5, u_set_A (by decide) hA, u_set_hd hQ (by decide)]
          exact hr
        have key := fun c j hh => i1 d own (i + 1) c j hh hd (x :: Q) m (hdr_c (by omega)) hm how (Or.inr (ask_c (Or.inr (by omega)) (by omega)))
        rcases u_b_cs h with ⟨j1, hp, h⟩ | ⟨hc, h⟩
        · try dsimp only at h
          obtain ⟨t1, hC⟩ := key 0 j1 hp
          obtain ⟨h1, h2⟩ := i4 d own j1 c j h (t1 rfl) hd Q m hQ hm how
          have hBx : ∀ B, okB B → okA (B ++ [x]) := fun B hB y hy => by
            rcases List.mem_append.mp hy with hy | hy
            · have := hB y hy; omega
            · rw [List.mem_singleton.mp hy]; omega
          refine ⟨h1, fun A hA => ⟨fun hc res hres => hgo A hA res ?_, fun hc => hgo A hA _ ?_⟩⟩
          · exact hC.1 rfl res (fun B hB => by have := (h2 (B ++ [x]) (hBx B hB)).1 hc res hres; rw [List.append_assoc] at this; exact this)
          · exact hC.1 rfl (c, j) (fun B hB => by have := (h2 (B ++ [x]) (hBx B hB)).2 hc; rw [List.append_assoc] at this; exact this)
        · exact ⟨fun e => absurd e hc, fun A hA => Con.no hc (hgo A hA _ ((key c j h).2.2 hc))⟩
      · rename_i ht
        obtain ⟨rfl, rfl⟩ := Prod.mk.inj (Option.some.inj h)
        exact ⟨fun _ => ⟨fun e => ht (Or.inl e), fun e => ht (Or.inr e), ht0.1, ht0.2⟩, fun A hA => Con.yes (fun res hres => hres A hA)⟩
    · -- an ask
      intro d own i c j h hd Q m hQ hop hm
      rw [uP5] at h
      have how : true = (!dr || decide (0 < m)) := by simp [hm]
      split at h
      · rename_i h25
        split at h
        · rename_i hd8
          obtain ⟨rfl, rfl⟩ := Prod.mk.inj (Option.some.inj h)
          exact ⟨fun e => absurd e (by decide), Con.no (by decide) (r_opn (Or.inr (Or.inr (Or.inr (Or.inr ⟨h25, rfl, ask_of hop hQ⟩)))) (by rw [if_pos (by omega)]))⟩
        · rename_i hd8
          obtain ⟨h1, hC⟩ := i5 (d + 1) true (i + 1) c j h (by omega) (20 :: Q) m (hdr_c (by decide)) hop hm
          have e1 : ((d + 1 : Nat) : Int) = (d : Int) + 1 := by omega
          refine ⟨h1, fun hc res hres => r_opn (Or.inr (Or.inr (Or.inr (Or.inr ⟨h25, rfl, ask_of hop hQ⟩)))) ?_, fun hc => r_opn (Or.inr (Or.inr (Or.inr (Or.inr ⟨h25, rfl, ask_of hop hQ⟩)))) ?_⟩
          · rw [if_neg (by omega), if_neg (by decide)]
            have := hC.1 hc res (fun S q hS => by
              obtain ⟨A, x, hA, hx, rfl⟩ := hS
              have := hres (A ++ x :: List.replicate (q + 1) 20) (q + 1) ⟨A, x, hA, hx, rfl⟩
              rw [show A ++ x :: List.replicate q 20 ++ 20 :: Q = A ++ x :: List.replicate (q + 1) 20 ++ Q by rw [List.replicate_succ', List.append_assoc, List.append_assoc, List.cons_append, List.cons_append, List.append_assoc]; rfl, show ((d + 1 : Nat) : Int) + (q : Int) = (d : Int) + ((q + 1 : Nat) : Int) by omega]
              exact this)
            rw [e1] at this
            exact this
          · rw [if_neg (by omega), if_neg (by decide)]
            have := hC.2 hc
            rw [e1] at this
            exact this
      · rename_i h25
        have key := fun c j hh => i3 d true i c j hh hd Q m (hdr_m hQ (by decide)) (by omega) how (Or.inl h25)
        rcases u_b_cs h with ⟨j1, hp, h⟩ | ⟨hc, h⟩
        · try dsimp only at h
          obtain ⟨t1, hC⟩ := key 0 j1 hp
          have hnA := t1 rfl
          have hoA : ∀ {A}, okA A → u_open (A ++ Q) = 42 := fun hA => (u_open_A hA).trans hop
          have hiA : ∀ {A}, okA A → u_isc (A ++ Q) = false := fun hA => (u_isc_A hA).trans (u_isc_lo hQ)
          split at h
          · rename_i hcmp
            have hx := cod_y hcmp
            have hr4 := rk_C hx
            have hgo : ∀ A, okA A → ∀ res, RR tk vl dr sh (j1 + 1) (u_cod (tk j1) :: Q) d m false res → RR tk vl dr sh j1 (A ++ Q) d m true res := fun A hA res hr => by
              have hb := bt_C hnA (hoA hA) (hiA hA)
              refine r_bt (by rw [hb]; omega) ?_
              rw [hb, hr4, u_set_A (by decide) hA, u_set_hd hQ (by decide)]
              exact hr
            obtain ⟨h1, h2⟩ := i3 d true (j1 + 1) c j h hd (u_cod (tk j1) :: Q) m (hdr_c (by omega)) (by omega) how (Or.inr (ask_c (Or.inr (by omega)) (by omega)))
            refine ⟨h1, fun hc res hres => hC.1 rfl res (fun A hA => hgo A hA res (h2.1 hc res (fun A2 hA2 => ?_))), fun hc => hC.1 rfl (c, j) (fun A hA => hgo A hA _ (h2.2 hc))⟩
            have := hres (A2 ++ u_cod (tk j1) :: List.replicate 0 20) 0 ⟨A2, _, hA2, hx, rfl⟩
            rw [show (d : Int) + ((0 : Nat) : Int) = d by omega, List.append_assoc] at this
            exact this
          · rename_i hcmp
            obtain ⟨rfl, rfl⟩ := Prod.mk.inj (Option.some.inj h)
            refine ⟨fun e => absurd e (by decide), Con.no (by decide) (hC.1 rfl _ (fun A hA => ?_))⟩
            have hb := bt_C hnA (hoA hA) (hiA hA)
            have := r_no (tk := tk) (vl := vl) (dr := dr) (sh := sh) (i := j1) (p := A ++ Q) (o := (d : Int)) (m := m) (by rw [hb, cod_n hcmp]; decide) (by unfold u_end; rw [hoA hA, hiA hA]; simp)
            rw [hoA hA] at this
            exact this
        · exact ⟨fun e => absurd e hc, Con.no hc ((key c j h).2.2 hc)⟩
    · -- asks and-ed
      intro d own i c j h hd Q m hQ hop hm
      rw [uP6] at h
      have key := fun c j hh => i5 d true i c j hh hd Q m (hdr_m hQ (by decide)) hop hm
      rcases u_b_cs h with ⟨j1, hp, h⟩ | ⟨hc, h⟩
      · try dsimp only at h
        obtain ⟨t1, hC⟩ := key 0 j1 hp
        obtain ⟨h1, h2⟩ := i7 d true j1 c j h (t1 rfl) hd Q m hQ hop hm
        exact ⟨h1, fun hc res hres => hC.1 rfl res (fun S q hS => (h2 S q [] hS (Or.inl rfl)).1 hc res hres), fun hc => hC.1 rfl (c, j) (fun S q hS => (h2 S q [] hS (Or.inl rfl)).2 hc)⟩
      · exact ⟨fun e => absurd e hc, Con.no hc ((key c j h).2.2 hc)⟩
    · -- their rest
      intro d own i c j h hnA hd Q m hQ hop hm
      rw [uP7] at h
      split at h
      · rename_i ht
        have hgo : ∀ S q X, okS S q → (X = [] ∨ X = [21]) → ∀ res, RR tk vl dr sh (i + 1) (21 :: Q) d m false res → RR tk vl dr sh i (S ++ (X ++ Q)) ((d : Int) + q) m true res := fun S q X hS hX res hr => by
          have ho : u_open (S ++ (X ++ Q)) = 42 := by
            rw [u_open_S hS]
            rcases hX with rfl | rfl
            · exact hop
            · exact hop
          have hb := bt_D hnA ho (u_isc_S hS)
          rw [if_pos ht] at hb
          refine r_bt (by rw [hb]; decide) ?_
          rw [hb, show u_rank 21 = 2 from rfl, u_set_S (by decide) hS]
          have e : u_set 2 (X ++ Q) (d : Int) = (Q, (d : Int)) := by
            rcases hX with rfl | rfl
            · exact u_set_hd hQ (by decide)
            · exact (u_set_pop (by decide) (by decide) (by decide)).trans (u_set_hd hQ (by decide))
          rw [e]
          exact hr
        have key := fun c j hh => i5 d true (i + 1) c j hh hd (21 :: Q) m (hdr_c (by decide)) hop hm
        rcases u_b_cs h with ⟨j1, hp, h⟩ | ⟨hc, h⟩
        · try dsimp only at h
          obtain ⟨t1, hC⟩ := key 0 j1 hp
          obtain ⟨h1, h2⟩ := i7 d true j1 c j h (t1 rfl) hd Q m hQ hop hm
          exact ⟨h1, fun S q X hS hX => ⟨fun hc res hres => hgo S q X hS hX res (hC.1 rfl res (fun S' q' hS' => (h2 S' q' [21] hS' (Or.inr rfl)).1 hc res hres)), fun hc => hgo S q X hS hX _ (hC.1 rfl (c, j) (fun S' q' hS' => (h2 S' q' [21] hS' (Or.inr rfl)).2 hc))⟩⟩
        · exact ⟨fun e => absurd e hc, fun S q X hS hX => Con.no hc (hgo S q X hS hX _ ((key c j h).2.2 hc))⟩
      · rename_i ht
        obtain ⟨rfl, rfl⟩ := Prod.mk.inj (Option.some.inj h)
        exact ⟨fun _ => ⟨hnA, ht⟩, fun S q X hS hX => Con.yes (fun res hres => hres S q X hS hX)⟩
    · -- or-ed
      intro d own i c j h hd Q m hm
      rw [uP8] at h
      have key := fun c j hh => i6 d true i c j hh hd (42 :: Q) m (hdr_c (by decide)) rfl hm
      rcases u_b_cs h with ⟨j1, hp, h⟩ | ⟨hc, h⟩
      · try dsimp only at h
        obtain ⟨t1, hC⟩ := key 0 j1 hp
        obtain ⟨h1, h2⟩ := i9 d true j1 c j h (t1 rfl) hd Q m hm
        exact ⟨h1, fun hc res hres => hC.1 rfl res (fun S q X hS hX => (h2 S q X [] hS hX (Or.inl rfl)).1 hc res hres), fun hc => hC.1 rfl (c, j) (fun S q X hS hX => (h2 S q X [] hS hX (Or.inl rfl)).2 hc)⟩
      · exact ⟨fun e => absurd e hc, Con.no hc ((key c j h).2.2 hc)⟩
    · -- their rest
      intro d own i c j h hnA hd Q m hm
      rw [uP9] at h
      split at h
      · rename_i ht
        have hgo : ∀ S q X Y, okS S q → (X = [] ∨ X = [21]) → (Y = [] ∨ Y = [22]) → ∀ res, RR tk vl dr sh (i + 1) (22 :: 42 :: Q) d m false res → RR tk vl dr sh i (S ++ (X ++ (Y ++ 42 :: Q))) ((d : Int) + q) m true res := fun S q X Y hS hX hY res hr => by
          obtain ⟨ho, hi⟩ := open_XY (Q := Q) hS hX hY
          have hb := bt_D hnA.1 ho hi
          rw [if_neg hnA.2, if_pos ht] at hb
          refine r_bt (by rw [hb]; decide) ?_
          rw [hb, show u_rank 22 = 1 from rfl, set1_XY hS hX hY]
          exact hr
        have key := fun c j hh => i6 d true (i + 1) c j hh hd (22 :: 42 :: Q) m (hdr_c (by decide)) rfl hm
        rcases u_b_cs h with ⟨j1, hp, h⟩ | ⟨hc, h⟩
        · try dsimp only at h
          obtain ⟨t1, hC⟩ := key 0 j1 hp
          obtain ⟨h1, h2⟩ := i9 d true j1 c j h (t1 rfl) hd Q m hm
          exact ⟨h1, fun S q X Y hS hX hY => ⟨fun hc res hres => hgo S q X Y hS hX hY res (hC.1 rfl res (fun S' q' X' hS' hX' => (h2 S' q' X' [22] hS' hX' (Or.inr rfl)).1 hc res hres)), fun hc => hgo S q X Y hS hX hY _ (hC.1 rfl (c, j) (fun S' q' X' hS' hX' => (h2 S' q' X' [22] hS' hX' (Or.inr rfl)).2 hc))⟩⟩
        · exact ⟨fun e => absurd e hc, fun S q X Y hS hX hY => Con.no hc (hgo S q X Y hS hX hY _ ((key c j h).2.2 hc))⟩
      · rename_i ht
        obtain ⟨rfl, rfl⟩ := Prod.mk.inj (Option.some.inj h)
        exact ⟨fun _ => ⟨hnA.1, hnA.2, ht⟩, fun S q X Y hS hX hY => Con.yes (fun res hres => hres S q X Y hS hX hY)⟩
/-- a law's sum: both come to the same end -/
theorem uSum {own : Bool} {i : Nat} {c : Int} {j f : Nat} (h : uP tk vl sh f 3 0 own i = some (c, j)) (how : own = !dr) : RR tk vl dr sh i [] 0 0 false (c, j) := by
  obtain ⟨-, -, -, h3, -⟩ := uSim (tk := tk) (vl := vl) (dr := dr) (sh := sh) f
  obtain ⟨h1, h2⟩ := h3 0 own i c j h (by decide) [] 0 (fun x hx => by cases hx) (by decide) (by rw [how]; simp) (Or.inr rfl)
  by_cases hc : c = 0
  · subst hc
    refine h2.1 rfl _ (fun A hA => ?_)
    have hnA := h1 rfl
    have ho : u_open (A ++ []) = -1 := (u_open_A hA).trans rfl
    have := r_no (tk := tk) (vl := vl) (dr := dr) (sh := sh) (i := j) (p := A ++ []) (o := 0) (m := 0) (by rw [bt_A hnA (by rw [ho]; decide)]; decide) (by unfold u_end; rw [ho]; simp)
    rw [ho] at this
    exact this
  · exact h2.2 hc
end US
