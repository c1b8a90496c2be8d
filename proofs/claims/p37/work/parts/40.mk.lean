/-! Tables: looked up in lists. -/
def lkp {α : Type} (l : List (Nat × α)) (i : Nat) : Option α := match l with
  | [] => none
  | e :: es => if Nat.beq e.1 i then some e.2 else lkp es i
theorem lkp_in {α : Type} : ∀ (l : List (Nat × α)) {i : Nat} {a : α}, lkp l i = some a → (i, a) ∈ l := by
  intro l
  induction l with
  | nil => intro i a h; cases h
  | cons e es ih =>
    intro i a h
    unfold lkp at h
    split at h
    · rename_i he
      have he' : e.1 = i := Nat.eq_of_beq_eq_true he
      cases h
      rw [← he']
      exact List.mem_cons_self
    · exact List.mem_cons_of_mem _ (ih h)
theorem fa_nil {α : Type} {p : α → Prop} : ∀ x ∈ ([] : List α), p x := fun x hx => by cases hx
theorem fa_cons {α : Type} {p : α → Prop} {a : α} {l : List α} (h : p a) (hl : ∀ x ∈ l, p x) : ∀ x ∈ a :: l, p x := fun x hx => by
  rcases List.mem_cons.mp hx with rfl | hx
  · exact h
  · exact hl x hx
