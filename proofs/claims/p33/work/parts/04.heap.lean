/-! What a pool's cell is, and how it changes. -/
theorem zsh_inr {e : va_E} {ci : Nat} {S : List Value} (h : zsh e = .inr (ci, S)) : ∃ fs, e = .inr (ci, fs) ∧ fs.map zshV = S := by
  rcases e with ⟨c, m, y⟩ | ⟨c, fs⟩
  · rcases y with y | y | y | y | y <;> simp [zsh] at h
  · simp only [zsh, Sum.inr.injEq, Prod.mk.injEq] at h
    exact ⟨fs, by rw [h.1], h.2⟩
theorem zshV_int {v : Value} (h : zshV v = .int 0) : ∃ x, v = .int x := by
  cases v <;> simp [zshV] at h ⊢
theorem zshV_ref {v : Value} {b : Nat} (h : zshV v = .ref b) : v = .ref b := by
  cases v <;> simp [zshV] at h ⊢
  exact h
theorem zshV_null {v : Value} (h : zshV v = .null) : v = .null := by
  cases v <;> simp [zshV] at h ⊢
theorem zsh_ia {e : va_E} {c : ClassId} {m : Nat} (h : zsh e = .inl (c, m, .inl (fun _ => 0))) : e = .inl (c, m, .inl (zrI e)) := by
  rcases e with ⟨c', m', y⟩ | ⟨c', fs⟩
  · rcases y with y | y | y | y | y <;> simp [zsh] at h
    obtain ⟨rfl, rfl⟩ := h
    rfl
  · simp [zsh] at h
theorem zsh_ja {e : va_E} {c : ClassId} {m : Nat} (h : zsh e = .inl (c, m, .inr (.inl (fun _ => 0)))) : ∃ g, e = .inl (c, m, .inr (.inl g)) := by
  rcases e with ⟨c', m', y⟩ | ⟨c', fs⟩
  · rcases y with y | y | y | y | y <;> simp [zsh] at h
    obtain ⟨rfl, rfl⟩ := h
    exact ⟨_, rfl⟩
  · simp [zsh] at h
theorem zsh_ra {e : va_E} {c : ClassId} {m : Nat} {g : Nat → Option Nat} (h : zsh e = zRA c m g) : e = zRA c m g := by
  rcases e with ⟨c', m', y⟩ | ⟨c', fs⟩
  · rcases y with y | y | y | y | y <;> simp [zsh, zRA] at h ⊢
    exact h
  · simp [zsh, zRA] at h
section ZH
variable {L : List Nat} {σ : Nat → va_E} {φ : Nat → Nat → Nat → Int32} {ρ : Nat → Nat → Int32} {f : Nat → va_E} {a ci j : Nat} {S : List Value}
theorem z_map {fs : List Value} (h : fs.map zshV = S) {v : Value} (hS : S[j]? = some v) : ∃ w, fs[j]? = some w ∧ zshV w = v := by
  subst h
  rw [List.getElem?_map] at hS
  cases h2 : fs[j]? with
  | none => rw [h2] at hS; cases hS
  | some w => rw [h2] at hS; exact ⟨w, rfl, Option.some.inj hS⟩
theorem z_getint (hf : zPic L σ φ ρ f) (ha : zT L σ a (.inr (ci, S))) (hS : S[j]? = some (.int 0)) : ∃ fs, f a = .inr (ci, fs) ∧ fs[j]? = some (.int (φ ci j a)) ∧ fs.map zshV = S := by
  obtain ⟨h1, h2, -⟩ := hf a ha.1
  obtain ⟨fs, e1, e2⟩ := zsh_inr (h1.trans ha.2)
  obtain ⟨w, w1, w2⟩ := z_map e2 hS
  obtain ⟨x, rfl⟩ := zshV_int w2
  refine ⟨fs, e1, ?_, e2⟩
  rw [w1, ← h2 ci j, e1]
  simp [zfI, w1]
theorem z_getref {b : Nat} (hf : zPic L σ φ ρ f) (ha : zT L σ a (.inr (ci, S))) (hS : S[j]? = some (.ref b)) : ∃ fs, f a = .inr (ci, fs) ∧ fs[j]? = some (.ref b) ∧ fs.map zshV = S := by
  obtain ⟨h1, h2, -⟩ := hf a ha.1
  obtain ⟨fs, e1, e2⟩ := zsh_inr (h1.trans ha.2)
  obtain ⟨w, w1, w2⟩ := z_map e2 hS
  exact ⟨fs, e1, by rw [w1, zshV_ref w2], e2⟩
theorem z_getnull (hf : zPic L σ φ ρ f) (ha : zT L σ a (.inr (ci, S))) (hS : S[j]? = some .null) : ∃ fs, f a = .inr (ci, fs) ∧ fs[j]? = some .null ∧ fs.map zshV = S := by
  obtain ⟨h1, h2, -⟩ := hf a ha.1
  obtain ⟨fs, e1, e2⟩ := zsh_inr (h1.trans ha.2)
  obtain ⟨w, w1, w2⟩ := z_map e2 hS
  exact ⟨fs, e1, by rw [w1, zshV_null w2], e2⟩
theorem z_setsame {v : Value} (h : S[j]? = some v) : S.set j v = S := by
  apply List.ext_getElem?
  intro i
  rw [List.getElem?_set]
  split
  · rename_i h1
    subst h1
    rw [h]
    split
    · rfl
    · rename_i h2
      exact absurd (List.getElem?_eq_some_iff.mp h).1 h2
  · rfl
theorem z_putint {fs : List Value} {v : Int32} (hf : zPic L σ φ ρ f) (ha : zT L σ a (.inr (ci, S))) (e1 : f a = .inr (ci, fs)) (e2 : fs.map zshV = S) (hS : S[j]? = some (.int 0)) : zPic L σ (zup φ ci j a v) ρ (va_up f a (.inr (ci, fs.set j (.int v)))) := by
  intro b hb
  obtain ⟨h1, h2, h3⟩ := hf b hb
  by_cases hba : b = a
  · subst hba
    rw [va_up_self]
    refine ⟨?_, ?_, ?_⟩
    · rw [ha.2]
      show Sum.inr (ci, (fs.set j (.int v)).map zshV) = _
      rw [List.map_set, e2]
      show Sum.inr (ci, S.set j (.int 0)) = _
      rw [z_setsame hS]
    · intro c i
      have h4 := h2 c i
      rw [e1] at h4
      obtain ⟨w, w1, w2⟩ := z_map e2 hS
      have hlt : j < fs.length := (List.getElem?_eq_some_iff.mp w1).1
      by_cases hc : c = ci
      · subst hc
        by_cases hi : i = j
        · subst hi
          simp [zfI, zup, List.getElem?_set, hlt]
        · rw [zup, if_neg (fun h => hi h.2.1), ← h4]
          simp only [zfI, if_true]
          rw [List.getElem?_set_ne (Ne.symm hi)]
      · rw [zup, if_neg (fun h => hc h.1), ← h4]
        simp [zfI, Ne.symm hc]
    · rw [e1] at h3
      rw [← h3]
      rfl
  · rw [va_up_ne _ _ hba]
    refine ⟨h1, fun c i => ?_, h3⟩
    rw [zup, if_neg (fun h => hba h.2.2)]
    exact h2 c i
theorem z_putref {fs : List Value} {b : Nat} (hf : zPic L σ φ ρ f) (e1 : f a = .inr (ci, fs)) (e2 : fs.map zshV = S) (hS : ∃ v0, S[j]? = some v0 ∧ (v0 = .null ∨ ∃ r, v0 = .ref r)) : zPic L (va_up σ a (.inr (ci, S.set j (.ref b)))) φ ρ (va_up f a (.inr (ci, fs.set j (.ref b)))) := by
  intro x hx
  obtain ⟨h1, h2, h3⟩ := hf x hx
  by_cases hba : x = a
  · subst hba
    rw [va_up_self, va_up_self]
    refine ⟨?_, ?_, ?_⟩
    · show Sum.inr (ci, (fs.set j (.ref b)).map zshV) = _
      rw [List.map_set, e2]
      rfl
    · intro c i
      have h4 := h2 c i
      rw [e1] at h4
      obtain ⟨v0, hv0, hv1⟩ := hS
      obtain ⟨w, w1, w2⟩ := z_map e2 hv0
      have hlt : j < fs.length := (List.getElem?_eq_some_iff.mp w1).1
      rw [← h4]
      by_cases hc : c = ci
      · subst hc
        by_cases hi : i = j
        · subst hi
          have hw : w = .null ∨ ∃ r, w = .ref r := by
            rcases hv1 with rfl | ⟨r, rfl⟩
            · exact Or.inl (zshV_null w2)
            · exact Or.inr ⟨r, zshV_ref w2⟩
          rcases hw with rfl | ⟨r, rfl⟩ <;> (simp only [zfI, if_true]; rw [List.getElem?_set_self hlt, w1])
        · simp only [zfI, if_true]
          rw [List.getElem?_set_ne (Ne.symm hi)]
      · simp [zfI, Ne.symm hc]
    · rw [e1] at h3
      rw [← h3]
      rfl
  · rw [va_up_ne _ _ hba, va_up_ne _ _ hba]
    exact ⟨h1, h2, h3⟩
theorem z_row {c : ClassId} {m : Nat} {g : Nat → Int32} (hf : zPic L σ φ ρ f) (ha : zT L σ a (.inl (c, m, .inl (fun _ => 0)))) : zPic L σ φ (va_up ρ a g) (va_up f a (.inl (c, m, .inl g))) := by
  intro x hx
  obtain ⟨h1, h2, h3⟩ := hf x hx
  by_cases hba : x = a
  · subst hba
    rw [va_up_self, va_up_self]
    refine ⟨ha.2.symm, fun c' i => ?_, rfl⟩
    rw [← h2 c' i, zsh_ia (h1.trans ha.2)]
    rfl
  · rw [va_up_ne _ _ hba, va_up_ne _ _ hba]
    exact ⟨h1, h2, h3⟩
theorem z_rowR {c : ClassId} {m : Nat} {g g' : Nat → Option Nat} (hf : zPic L σ φ ρ f) (ha : zT L σ a (zRA c m g)) : zPic L (va_up σ a (zRA c m g')) φ ρ (va_up f a (zRA c m g')) := by
  intro x hx
  obtain ⟨h1, h2, h3⟩ := hf x hx
  by_cases hba : x = a
  · subst hba
    rw [va_up_self, va_up_self]
    refine ⟨rfl, fun c' i => ?_, ?_⟩
    · rw [← h2 c' i, zsh_ra (h1.trans ha.2)]
      rfl
    · rw [← h3, zsh_ra (h1.trans ha.2)]
      rfl
  · rw [va_up_ne _ _ hba, va_up_ne _ _ hba]
    exact ⟨h1, h2, h3⟩
/-- nothing that has been is other than it was, but the object w -/
def zX (w : Nat) (L : List Nat) (σ : Nat → va_E) (φ : Nat → Nat → Nat → Int32) (ρ : Nat → Nat → Int32) (L' : List Nat) (σ' : Nat → va_E) (φ' : Nat → Nat → Nat → Int32) (ρ' : Nat → Nat → Int32) : Prop := (∀ b ∈ L, b ∈ L') ∧ ∀ b ∈ L, b ≠ w → σ' b = σ b ∧ (∀ c i, φ' c i b = φ c i b) ∧ ρ' b = ρ b
theorem zX.rf {w : Nat} : zX w L σ φ ρ L σ φ ρ := ⟨fun _ h => h, fun _ _ _ => ⟨rfl, fun _ _ => rfl, rfl⟩⟩
theorem zX.tr {w : Nat} {L1 L2 : List Nat} {σ1 σ2 : Nat → va_E} {φ1 φ2 : Nat → Nat → Nat → Int32} {ρ1 ρ2 : Nat → Nat → Int32} (h : zX w L σ φ ρ L1 σ1 φ1 ρ1) (h2 : zX w L1 σ1 φ1 ρ1 L2 σ2 φ2 ρ2) : zX w L σ φ ρ L2 σ2 φ2 ρ2 := by
  refine ⟨fun b hb => h2.1 b (h.1 b hb), fun b hb hw => ?_⟩
  obtain ⟨a1, a2, a3⟩ := h.2 b hb hw
  obtain ⟨b1, b2, b3⟩ := h2.2 b (h.1 b hb) hw
  exact ⟨b1.trans a1, fun c i => (b2 c i).trans (a2 c i), b3.trans a3⟩
/-- a step that changes an object w1 that wasn't there at the beginning -/
theorem zX.tr' {w w1 : Nat} {L1 L2 : List Nat} {σ1 σ2 : Nat → va_E} {φ1 φ2 : Nat → Nat → Nat → Int32} {ρ1 ρ2 : Nat → Nat → Int32} (h : zX w L σ φ ρ L1 σ1 φ1 ρ1) (hn : w1 ∉ L) (h2 : zX w1 L1 σ1 φ1 ρ1 L2 σ2 φ2 ρ2) : zX w L σ φ ρ L2 σ2 φ2 ρ2 := by
  refine ⟨fun b hb => h2.1 b (h.1 b hb), fun b hb hw => ?_⟩
  obtain ⟨a1, a2, a3⟩ := h.2 b hb hw
  obtain ⟨b1, b2, b3⟩ := h2.2 b (h.1 b hb) (fun e => hn (e ▸ hb))
  exact ⟨b1.trans a1, fun c i => (b2 c i).trans (a2 c i), b3.trans a3⟩
theorem zX.T {w : Nat} {L1 : List Nat} {σ1 : Nat → va_E} {φ1 : Nat → Nat → Nat → Int32} {ρ1 : Nat → Nat → Int32} (h : zX w L σ φ ρ L1 σ1 φ1 ρ1) {b : Nat} {e : va_E} (hb : zT L σ b e) (hw : b ≠ w) : zT L1 σ1 b e := ⟨h.1 b hb.1, (h.2 b hb.1 hw).1.trans hb.2⟩
theorem zT.ne {b : Nat} {e1 e2 : va_E} (h1 : zT L σ a e1) (h2 : zT L σ b e2) (h : e1 ≠ e2) : a ≠ b := fun e => h (by rw [← h1.2, ← h2.2, e])
/-- the pool with one cell more -/
theorem z_push {q : Nat} {e : va_E} (hf : zPic L σ φ ρ f) (hq : q ∉ L) : zPic (L ++ [q]) (va_up σ q (zsh e)) (fun c i b => if b = q then zfI e c i else φ c i b) (va_up ρ q (zrI e)) (va_up f q e) := by
  intro x hx
  by_cases hxq : x = q
  · subst hxq
    simp [va_up_self]
  · have hxL : x ∈ L := by
      rcases List.mem_append.mp hx with h | h
      · exact h
      · exact absurd (List.mem_singleton.mp h) hxq
    obtain ⟨h1, h2, h3⟩ := hf x hxL
    rw [va_up_ne _ _ hxq, va_up_ne _ _ hxq, va_up_ne _ _ hxq]
    exact ⟨h1, fun c i => by simp only [if_neg hxq]; exact h2 c i, h3⟩
theorem z_pushX {w q : Nat} {e : va_E} (hq : q ∉ L) : zX w L σ φ ρ (L ++ [q]) (va_up σ q (zsh e)) (fun c i b => if b = q then zfI e c i else φ c i b) (va_up ρ q (zrI e)) := by
  refine ⟨fun b hb => List.mem_append_left _ hb, fun b hb _ => ?_⟩
  have hne : b ≠ q := fun h => hq (h ▸ hb)
  exact ⟨va_up_ne _ _ hne, fun c i => if_neg hne, va_up_ne _ _ hne⟩
end ZH
