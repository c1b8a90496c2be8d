/-! The fewest roads, without the machine. -/
def rch (F : Nat) (E : Nat → Nat → Prop) (to : Nat) : Nat → Nat → Prop
  | 0, f => f = to
  | k + 1, f => ∃ g, g < F ∧ E f g ∧ rch F E to k g
theorem nodup_len : ∀ (F : Nat) (l : List Nat), l.Nodup → (∀ x ∈ l, x < F) → l.length ≤ F := by
  intro F
  induction F with
  | zero =>
    intro l _ h
    cases l with
    | nil => simp
    | cons x l => exact absurd (h x (by simp)) (by omega)
  | succ F ih =>
    intro l hn h
    by_cases hF : F ∈ l
    · have h1 : (l.erase F).length = l.length - 1 := List.length_erase_of_mem hF
      have h2 := ih (l.erase F) (hn.erase F) (fun x hx => by
        have hx' := (List.Nodup.mem_erase_iff hn).mp hx
        have := h x hx'.2
        have := hx'.1
        omega)
      omega
    · have := ih l hn (fun x hx => by
        have := h x hx
        have : x ≠ F := fun e => hF (e ▸ hx)
        omega)
      omega
/-- every number but the farthest is reached by a road -/
def BI1 (F : Nat) (E : Nat → Nat → Prop) (to : Nat) (d : Nat → Int) : Prop := ∀ f, f < F → 0 ≤ d f ∧ (d f < 1000000 → (f = to ∧ d f = 0) ∨ ∃ g, g < F ∧ E f g ∧ d g + 1 ≤ d f)
/-- roads of r at most have been looked at -/
def BI2 (F : Nat) (E : Nat → Nat → Prop) (to : Nat) (d : Nat → Int) (r : Nat) : Prop := ∀ k, k ≤ r → ∀ f, f < F → rch F E to k f → d f ≤ k
theorem bf_chain {F : Nat} {E : Nat → Nat → Prop} {to : Nat} {d : Nat → Int} (h1 : BI1 F E to d) : ∀ (n : Nat) (f : Nat), f < F → d f < 1000000 → d f ≤ n → ∃ l : List Nat, (∀ x ∈ l, x < F ∧ d x < d f) ∧ l.Nodup ∧ rch F E to l.length f ∧ (l.length : Int) ≤ d f := by
  intro n
  induction n with
  | zero =>
    intro f hf hd hn
    obtain ⟨h0, hr⟩ := h1 f hf
    rcases hr hd with ⟨rfl, he⟩ | ⟨g, hg, hE, hdg⟩
    · exact ⟨[], fun x hx => (by cases hx), List.nodup_nil, rfl, by simp [he]⟩
    · have := (h1 g hg).1
      omega
  | succ n ih =>
    intro f hf hd hn
    obtain ⟨h0, hr⟩ := h1 f hf
    rcases hr hd with ⟨rfl, he⟩ | ⟨g, hg, hE, hdg⟩
    · exact ⟨[], fun x hx => (by cases hx), List.nodup_nil, rfl, by simp [he]⟩
    · obtain ⟨l, l1, l2, l3, l4⟩ := ih g hg (by omega) (by omega)
      refine ⟨g :: l, fun x hx => ?_, ?_, ⟨g, hg, hE, l3⟩, by simp; omega⟩
      · rcases List.mem_cons.mp hx with rfl | hx
        · exact ⟨hg, by omega⟩
        · have := l1 x hx
          exact ⟨this.1, by omega⟩
      · refine List.nodup_cons.mpr ⟨fun hx => ?_, l2⟩
        have := (l1 g hx).2
        omega
theorem bf_k {F : Nat} {E : Nat → Nat → Prop} {to : Nat} {d : Nat → Int} (h1 : BI1 F E to d) (h2 : BI2 F E to d F) {f : Nat} (hf : f < F) (hd : d f < 1000000) : ∃ k, k + 1 ≤ F ∧ rch F E to k f ∧ d f = k := by
  have h0 := (h1 f hf).1
  obtain ⟨l, l1, l2, l3, l4⟩ := bf_chain h1 (d f).toNat f hf hd (by omega)
  have hlen := nodup_len F (f :: l) (List.nodup_cons.mpr ⟨fun hx => by have := (l1 f hx).2; omega, l2⟩) (fun x hx => by
    rcases List.mem_cons.mp hx with rfl | hx
    · exact hf
    · exact (l1 x hx).1)
  simp at hlen
  have := h2 l.length (by omega) f hf l3
  exact ⟨l.length, hlen, l3, by omega⟩
theorem bf_next {F : Nat} {E : Nat → Nat → Prop} {to : Nat} {d : Nat → Int} (h1 : BI1 F E to d) (h2 : BI2 F E to d F) {f : Nat} (hf : f < F) (hd : d f < 1000000) (hp : 1 ≤ d f) : ∃ g, g < F ∧ E f g ∧ d g = d f - 1 := by
  obtain ⟨h0, hr⟩ := h1 f hf
  rcases hr hd with ⟨rfl, he⟩ | ⟨g, hg, hE, hdg⟩
  · omega
  · obtain ⟨k, k1, k2, k3⟩ := bf_k h1 h2 hg (by omega)
    have := h2 (k + 1) k1 f hf ⟨g, hg, hE, k2⟩
    exact ⟨g, hg, hE, by omega⟩
/-- a road shortens the way -/
theorem BI1_up {F : Nat} {E : Nat → Nat → Prop} {to : Nat} {d d' : Nat → Int} (h : BI1 F E to d) {f g : Nat} (hf : f < F) (hg : g < F) (hE : E f g) (hlt : d g + 1 < d f) (hd : d' f = d g + 1) (ho : ∀ x, x ≠ f → d' x = d x) : BI1 F E to d' := by
  have hfg : g ≠ f := fun e => by rw [e] at hlt; omega
  have hle : ∀ x, d' x ≤ d x := fun x => by
    by_cases hx : x = f
    · rw [hx, hd]; omega
    · rw [ho x hx]; exact Int.le_refl _
  intro x hx
  by_cases hxf : x = f
  · subst hxf
    have := (h g hg).1
    exact ⟨by omega, fun _ => Or.inr ⟨g, hg, hE, by rw [ho g hfg, hd]; omega⟩⟩
  · obtain ⟨h0, hr⟩ := h x hx
    rw [ho x hxf]
    refine ⟨h0, fun h9 => ?_⟩
    rcases hr h9 with h1 | ⟨g', g1, g2, g3⟩
    · exact Or.inl h1
    · have := hle g'
      exact Or.inr ⟨g', g1, g2, by omega⟩
theorem BI2_mono {F : Nat} {E : Nat → Nat → Prop} {to : Nat} {d d' : Nat → Int} {r : Nat} (h : BI2 F E to d r) (hle : ∀ x, d' x ≤ d x) : BI2 F E to d' r := fun k hk f hf hr => by
  have := h k hk f hf hr
  have := hle f
  omega
