/-! What goes on if nothing is wrong. -/
theorem u_b0 {j : Nat} {X : Nat → Option (Int × Nat)} : u_b (some (0, j)) X = X j := rfl
theorem u_bn {c : Int} {j : Nat} {X : Nat → Option (Int × Nat)} (h : c ≠ 0) : u_b (some (c, j)) X = some (c, j) := if_neg h
theorem u_b_cs {o : Option (Int × Nat)} {X : Nat → Option (Int × Nat)} {c : Int} {j : Nat} (h : u_b o X = some (c, j)) : (∃ j1, o = some (0, j1) ∧ X j1 = some (c, j)) ∨ (c ≠ 0 ∧ o = some (c, j)) := by
  cases o with
  | none => cases h
  | some q =>
    obtain ⟨c1, j1⟩ := q
    by_cases hc : c1 = 0
    · subst hc
      exact Or.inl ⟨j1, rfl, h⟩
    · rw [u_bn hc] at h
      obtain ⟨rfl, rfl⟩ := Prod.mk.inj (Option.some.inj h)
      exact Or.inr ⟨hc, rfl⟩
section UB
variable {tk vl : Nat → Int} {sh : Bool}
theorem uP0 {n d : Nat} {own : Bool} {i : Nat} : uP tk vl sh (n + 1) 0 d own i = if tk i = 53 then (if vl i ≤ 9999 then some (0, i + 1) else some (2, i))
      else if u_nam (tk i) = true then (if u_ok sh own (tk i) = true then some (0, i + 1) else some (5, i))
      else if tk i = 48 then (if 8 ≤ d then some (3, i) else u_b (uP tk vl sh n 3 (d + 1) own (i + 1)) (fun j => if tk j = 49 then some (0, j + 1) else some (1, j)))
      else if tk i = 41 then (if 8 ≤ d then some (3, i) else uP tk vl sh n 0 (d + 1) own (i + 1))
      else if tk i = 20 then (if 8 ≤ d then some (3, i) else u_b (uP tk vl sh n 3 (d + 1) true (i + 1)) (fun j => if tk j = 22 then some (0, j + 1) else some (1, j)))
      else if tk i = 21 then (if 8 ≤ d then some (3, i) else u_b (uP tk vl sh n 8 (d + 1) true (i + 1)) (fun j => if tk j = 22 then some (0, j + 1) else some (1, j)))
      else some (1, i) := by
  rfl
theorem uP1 {n d : Nat} {own : Bool} {i : Nat} : uP tk vl sh (n + 1) 1 d own i = u_b (uP tk vl sh n 0 d own i) (fun j => uP tk vl sh n 2 d own j) := by
  rfl
theorem uP2 {n d : Nat} {own : Bool} {i : Nat} : uP tk vl sh (n + 1) 2 d own i = if tk i = 42 ∨ tk i = 43 then u_b (uP tk vl sh n 0 d own (i + 1)) (fun j => uP tk vl sh n 2 d own j) else some (0, i) := by
  rfl
theorem uP3 {n d : Nat} {own : Bool} {i : Nat} : uP tk vl sh (n + 1) 3 d own i = u_b (uP tk vl sh n 1 d own i) (fun j => uP tk vl sh n 4 d own j) := by
  rfl
theorem uP4 {n d : Nat} {own : Bool} {i : Nat} : uP tk vl sh (n + 1) 4 d own i = if tk i = 40 ∨ tk i = 41 then u_b (uP tk vl sh n 1 d own (i + 1)) (fun j => uP tk vl sh n 4 d own j) else some (0, i) := by
  rfl
theorem uP5 {n d : Nat} {own : Bool} {i : Nat} : uP tk vl sh (n + 1) 5 d own i = if tk i = 25 then (if 8 ≤ d then some (3, i) else uP tk vl sh n 5 (d + 1) true (i + 1)) else u_b (uP tk vl sh n 3 d true i) (fun j => if u_cmp (tk j) = true then uP tk vl sh n 3 d true (j + 1) else some (1, j)) := by
  rfl
theorem uP6 {n d : Nat} {own : Bool} {i : Nat} : uP tk vl sh (n + 1) 6 d own i = u_b (uP tk vl sh n 5 d true i) (fun j => uP tk vl sh n 7 d true j) := by
  rfl
theorem uP7 {n d : Nat} {own : Bool} {i : Nat} : uP tk vl sh (n + 1) 7 d own i = if tk i = 24 then u_b (uP tk vl sh n 5 d true (i + 1)) (fun j => uP tk vl sh n 7 d true j) else some (0, i) := by
  rfl
theorem uP8 {n d : Nat} {own : Bool} {i : Nat} : uP tk vl sh (n + 1) 8 d own i = u_b (uP tk vl sh n 6 d true i) (fun j => uP tk vl sh n 9 d true j) := by
  rfl
theorem uP9 {n d : Nat} {own : Bool} {i : Nat} : uP tk vl sh (n + 1) 9 d own i = if tk i = 23 then u_b (uP tk vl sh n 6 d true (i + 1)) (fun j => uP tk vl sh n 9 d true j) else some (0, i) := by
  rfl
theorem uP10 {n t d : Nat} {own : Bool} {i : Nat} : uP tk vl sh (n + 1) (t + 10) d own i = if tk i = 23 then u_b (uP tk vl sh n 6 d true (i + 1)) (fun j => uP tk vl sh n 9 d true j) else some (0, i) := by
  rfl
theorem ub_mo {o o' : Option (Int × Nat)} {X X' : Nat → Option (Int × Nat)} {q : Int × Nat} (ho : ∀ q, o = some q → o' = some q) (hX : ∀ j q, X j = some q → X' j = some q) (h : u_b o X = some q) : u_b o' X' = some q := by
  cases ho' : o with
  | none => rw [ho'] at h; cases h
  | some p =>
    obtain ⟨c, j⟩ := p
    rw [ho'] at h
    rw [ho _ ho']
    by_cases hc : c = 0
    · subst hc
      exact hX j q h
    · rw [u_bn hc] at h ⊢
      exact h
/-- more room says the same -/
theorem uP_mo1 : ∀ (n t d : Nat) (own : Bool) (i : Nat) (q : Int × Nat), uP tk vl sh n t d own i = some q → uP tk vl sh (n + 1) t d own i = some q := by
  intro n
  induction n with
  | zero => intro t d own i q h; cases h
  | succ n ih =>
    intro t d own i q h
    match t with
    | 0 =>
      rw [uP0] at h ⊢
      by_cases c1 : tk i = 53
      · rw [if_pos c1] at h ⊢; exact h
      rw [if_neg c1] at h ⊢
      by_cases c2 : u_nam (tk i) = true
      · rw [if_pos c2] at h ⊢; exact h
      rw [if_neg c2] at h ⊢
      by_cases c3 : tk i = 48
      · rw [if_pos c3] at h ⊢
        by_cases c4 : 8 ≤ d
        · rw [if_pos c4] at h ⊢; exact h
        · rw [if_neg c4] at h ⊢; exact ub_mo (fun q => ih _ _ _ _ q) (fun j q h => h) h
      rw [if_neg c3] at h ⊢
      by_cases c5 : tk i = 41
      · rw [if_pos c5] at h ⊢
        by_cases c4 : 8 ≤ d
        · rw [if_pos c4] at h ⊢; exact h
        · rw [if_neg c4] at h ⊢; exact ih _ _ _ _ q h
      rw [if_neg c5] at h ⊢
      by_cases c6 : tk i = 20
      · rw [if_pos c6] at h ⊢
        by_cases c4 : 8 ≤ d
        · rw [if_pos c4] at h ⊢; exact h
        · rw [if_neg c4] at h ⊢; exact ub_mo (fun q => ih _ _ _ _ q) (fun j q h => h) h
      rw [if_neg c6] at h ⊢
      by_cases c7 : tk i = 21
      · rw [if_pos c7] at h ⊢
        by_cases c4 : 8 ≤ d
        · rw [if_pos c4] at h ⊢; exact h
        · rw [if_neg c4] at h ⊢; exact ub_mo (fun q => ih _ _ _ _ q) (fun j q h => h) h
      rw [if_neg c7] at h ⊢
      exact h
    | 1 =>
      rw [uP1] at h ⊢
      exact ub_mo (fun q => ih _ _ _ _ q) (fun j q => ih _ _ _ _ q) h
    | 2 =>
      rw [uP2] at h ⊢
      split at h
      · rename_i c; rw [if_pos c]; exact ub_mo (fun q => ih _ _ _ _ q) (fun j q => ih _ _ _ _ q) h
      · rename_i c; rw [if_neg c]; exact h
    | 3 =>
      rw [uP3] at h ⊢
      exact ub_mo (fun q => ih _ _ _ _ q) (fun j q => ih _ _ _ _ q) h
    | 4 =>
      rw [uP4] at h ⊢
      split at h
      · rename_i c; rw [if_pos c]; exact ub_mo (fun q => ih _ _ _ _ q) (fun j q => ih _ _ _ _ q) h
      · rename_i c; rw [if_neg c]; exact h
    | 5 =>
      rw [uP5] at h ⊢
      by_cases c1 : tk i = 25
      · rw [if_pos c1] at h ⊢
        by_cases c4 : 8 ≤ d
        · rw [if_pos c4] at h ⊢; exact h
        · rw [if_neg c4] at h ⊢; exact ih _ _ _ _ q h
      · rw [if_neg c1] at h ⊢
        refine ub_mo (fun q => ih _ _ _ _ q) (fun j q h => ?_) h
        split at h
        · rename_i c; rw [if_pos c]; exact ih _ _ _ _ q h
        · rename_i c; rw [if_neg c]; exact h
    | 6 =>
      rw [uP6] at h ⊢
      exact ub_mo (fun q => ih _ _ _ _ q) (fun j q => ih _ _ _ _ q) h
    | 7 =>
      rw [uP7] at h ⊢
      split at h
      · rename_i c; rw [if_pos c]; exact ub_mo (fun q => ih _ _ _ _ q) (fun j q => ih _ _ _ _ q) h
      · rename_i c; rw [if_neg c]; exact h
    | 8 =>
      rw [uP8] at h ⊢
      exact ub_mo (fun q => ih _ _ _ _ q) (fun j q => ih _ _ _ _ q) h
    | 9 =>
      rw [uP9] at h ⊢
      split at h
      · rename_i c; rw [if_pos c]; exact ub_mo (fun q => ih _ _ _ _ q) (fun j q => ih _ _ _ _ q) h
      · rename_i c; rw [if_neg c]; exact h
    | t + 10 =>
      rw [uP10] at h ⊢
      split at h
      · rename_i c; rw [if_pos c]; exact ub_mo (fun q => ih _ _ _ _ q) (fun j q => ih _ _ _ _ q) h
      · rename_i c; rw [if_neg c]; exact h
theorem uP_mo {n m t d : Nat} {own : Bool} {i : Nat} {q : Int × Nat} (h : uP tk vl sh n t d own i = some q) (hm : n ≤ m) : uP tk vl sh m t d own i = some q := by
  induction m with
  | zero => rw [Nat.le_zero.mp hm] at h; exact h
  | succ m ih =>
    by_cases hn : n = m + 1
    · rw [← hn]; exact h
    · exact uP_mo1 _ _ _ _ _ _ (ih (by omega))
/-- some room does -/
def UP (tk vl : Nat → Int) (sh : Bool) (t d : Nat) (own : Bool) (i : Nat) (q : Int × Nat) : Prop := ∃ f, uP tk vl sh f t d own i = some q
theorem UP_seq {t1 t2 d1 d2 : Nat} {o1 o2 : Bool} {i : Nat} {c : Int} {j : Nat} {q : Int × Nat} (h1 : UP tk vl sh t1 d1 o1 i (c, j)) (h2 : c = 0 → UP tk vl sh t2 d2 o2 j q) (h3 : c ≠ 0 → q = (c, j)) : ∃ f, u_b (uP tk vl sh f t1 d1 o1 i) (fun j => uP tk vl sh f t2 d2 o2 j) = some q := by
  obtain ⟨f1, e1⟩ := h1
  by_cases hc : c = 0
  · obtain ⟨f2, e2⟩ := h2 hc
    refine ⟨f1 + f2, ?_⟩
    rw [uP_mo e1 (by omega), hc]
    exact uP_mo e2 (by omega)
  · exact ⟨f1, by rw [e1, u_bn hc, h3 hc]⟩
theorem UP_fin {t1 d1 : Nat} {o1 : Bool} {i : Nat} {c : Int} {j : Nat} {q : Int × Nat} {X : Nat → Option (Int × Nat)} (h1 : UP tk vl sh t1 d1 o1 i (c, j)) (h2 : c = 0 → X j = some q) (h3 : c ≠ 0 → q = (c, j)) : ∃ f, u_b (uP tk vl sh f t1 d1 o1 i) X = some q := by
  obtain ⟨f1, e1⟩ := h1
  by_cases hc : c = 0
  · exact ⟨f1, by rw [e1, hc]; exact h2 hc⟩
  · exact ⟨f1, by rw [e1, u_bn hc, h3 hc]⟩
end UB
