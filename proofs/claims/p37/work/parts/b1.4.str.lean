/-! The two strings. -/
def s_len : MethodName := ⟨"java/lang/String", "length", "()I"⟩
def s_chr : MethodName := ⟨"java/lang/String", "charAt", "(I)C"⟩
def s_ix : MethodName := ⟨"java/lang/String", "indexOf", "(I)I"⟩
def g_stw0 (w : Cond) : Bool := match w with
  | .constant o k _ => !(decide (o = "OwnRain$Tape")) || (!(Nat.beq k 61) && !(Nat.beq k 68))
  | .methodLink o i y => !(decide (o = "OwnRain$Tape")) || ((!(Nat.beq i 70) || decide (y = s_len)) && (!(Nat.beq i 73) || decide (y = s_chr)) && (!(Nat.beq i 63) || decide (y = s_ix)))
  | _ => true
def g_stt : Bool := gtbl.all (fun w => g_stw0 w) && znests.all (fun q => !(decide (q.1 = "OwnRain$Tape")) || (!(Nat.beq q.2.1 70) && !(Nat.beq q.2.1 73) && !(Nat.beq q.2.1 63)))
theorem stt_ok : g_stt = true := by decide +kernel
theorem s_par : (parseMethodDescriptor s_len.desc).map (fun d => d.parameters.length) = some 0 ∧ (parseMethodDescriptor s_chr.desc).map (fun d => d.parameters.length) = some 1 ∧ (parseMethodDescriptor s_ix.desc).map (fun d => d.parameters.length) = some 1 := by decide +kernel
theorem s_ne : s_len ≠ s_chr ∧ s_len ≠ s_ix ∧ s_chr ≠ s_ix := by decide
theorem g_stw {w : Cond} (hw : w ∈ gtbl) : g_stw0 w = true := by
  have h := stt_ok
  unfold g_stt at h
  rw [Bool.and_eq_true, List.all_eq_true] at h
  exact h.1 w hw
theorem g_sty {idx : Nat} {y : MethodName} (h : Cond.methodLink "OwnRain$Tape" idx y ∈ gtbl ∨ ("OwnRain$Tape", idx, y) ∈ znests) : (idx = 70 → y = s_len) ∧ (idx = 73 → y = s_chr) ∧ (idx = 63 → y = s_ix) := by
  rcases h with h | h
  · have h1 := g_stw h
    simp only [g_stw0, decide_true, Bool.not_true, Bool.false_or, Bool.and_eq_true, Bool.or_eq_true, Bool.not_eq_true', decide_eq_true_eq] at h1
    refine ⟨fun e => ?_, fun e => ?_, fun e => ?_⟩ <;> subst e
    · exact h1.1.1.resolve_left (by decide)
    · exact h1.1.2.resolve_left (by decide)
    · exact h1.2.resolve_left (by decide)
  · have h0 := stt_ok
    unfold g_stt at h0
    rw [Bool.and_eq_true, List.all_eq_true, List.all_eq_true] at h0
    have h1 := h0.2 _ h
    simp only [decide_true, Bool.not_true, Bool.false_or, Bool.and_eq_true, Bool.not_eq_true'] at h1
    refine ⟨fun e => ?_, fun e => ?_, fun e => ?_⟩ <;> subst e
    · exact absurd h1.1.1 (by decide)
    · exact absurd h1.1.2 (by decide)
    · exact absurd h1.2 (by decide)
section SS
variable {ax : zAx} {CE : g_E} {pc : Nat} {ρ : Nat → Int} {st : List g_V} {L : List Nat} {g : Nat → Nat → Int} {c' : g_C}
theorem g_lds {k j : Nat} (hk : k = 61 ∧ j = 0 ∨ k = 68 ∧ j = 1) (h : g_in "OwnRain$Tape" ax CE (.ldc k) 2 (pc, ρ, st, L, g) c') : c' = (pc + 2, ρ, (1, (ax.1 j : Int)) :: st, L, g) := by
  rcases h with ⟨v, hv, -⟩ | ⟨-, j', hj, hc⟩
  · exfalso
    have h1 := g_stw hv
    simp only [g_stw0, decide_true, Bool.not_true, Bool.false_or, Bool.and_eq_true, Bool.not_eq_true'] at h1
    rcases hk with ⟨rfl, -⟩ | ⟨rfl, -⟩
    · exact absurd h1.1 (by decide)
    · exact absurd h1.2 (by decide)
  · have e : j' = j := by omega
    rw [hc, e]
theorem g_ax_un (hd : ax.1 0 ≠ ax.1 1) {i j : Nat} (hi : i < 2) (hj : j < 2) (h : (ax.1 j : Int) = ax.1 i) : i = j := by
  have h2 : ax.1 j = ax.1 i := by omega
  rcases (show i = 0 ∨ i = 1 by omega) with rfl | rfl <;> rcases (show j = 0 ∨ j = 1 by omega) with rfl | rfl
  · rfl
  · exact absurd h2.symm hd
  · exact absurd h2 hd
  · rfl
theorem g_not_callV {idx k : Nat} {y0 : MethodName} {as st0 : List g_V} {j : Nat} (hy0 : ∀ y, (Cond.methodLink "OwnRain$Tape" idx y ∈ gtbl ∨ ("OwnRain$Tape", idx, y) ∈ znests) → y = y0) (hp0 : (parseMethodDescriptor y0.desc).map (fun d => d.parameters.length) = some k) (hk : as.length = k) (hL : ax.1 j ∉ L) (h : g_callV CE "OwnRain$Tape" idx pc ρ (as.reverse ++ (1, (ax.1 j : Int)) :: st0) (L, g) c') : False := by
  obtain ⟨y, b, nb, ret, a', av, st0', r1, h1, hm, hc, -, hp, hst, ⟨w, hw1, hw2⟩, hce, hc'⟩ := h
  have hy := hy0 y hm
  subst hy
  have hlen : av.length = as.length := by
    have := hp.symm.trans hp0
    have := Option.some.inj this
    omega
  obtain ⟨-, e2⟩ := g_apl hlen hst.symm
  have e3 : (ax.1 j : Int) = a' := ((Prod.mk.inj (List.cons.inj e2).1).2).symm
  have e4 : ax.1 j = w := by omega
  exact hL (e4 ▸ hw2)
theorem g_len_un {s0 : Int} {j : Nat} (hs : s0 = (ax.1 j : Int)) (hj : j < 2) (hL : ax.1 j ∉ L) (hd : ax.1 0 ≠ ax.1 1) (h : g_in "OwnRain$Tape" ax CE (.invokevirtual 70) 3 (pc, ρ, (1, s0) :: st, L, g) c') : c' = (pc + 3, ρ, (1, (Int32.ofNat (zlen.getD j 0)).toInt) :: st, L, g) := by
  subst hs
  have hu : ∀ y, (Cond.methodLink "OwnRain$Tape" 70 y ∈ gtbl ∨ ("OwnRain$Tape", 70, y) ∈ znests) → y = s_len := fun y hy => (g_sty hy).1 rfl
  rcases h with h | ⟨-, i, hi, h | h | h⟩
  · exact (g_not_callV (as := []) (st0 := st) hu s_par.1 rfl hL h).elim
  · obtain ⟨-, h1, h2⟩ := h
    rw [h2, g_ax_un hd hi hj h1]
    rfl
  · exact absurd (hu _ (Or.inl h.1)) (Ne.symm s_ne.1)
  · exact absurd (hu _ (Or.inl h.2.1)) (Ne.symm s_ne.2.1)
theorem g_chr_un {s0 x : Int} {j : Nat} (hs : s0 = (ax.1 j : Int)) (hj : j < 2) (hL : ax.1 j ∉ L) (hd : ax.1 0 ≠ ax.1 1) (h : g_in "OwnRain$Tape" ax CE (.invokevirtual 73) 3 (pc, ρ, (1, x) :: (1, s0) :: st, L, g) c') : c' = (pc + 3, ρ, (1, ((zbyt.getD j []).getD x.toNat 0 &&& 255).toInt) :: st, L, g) := by
  subst hs
  have hu : ∀ y, (Cond.methodLink "OwnRain$Tape" 73 y ∈ gtbl ∨ ("OwnRain$Tape", 73, y) ∈ znests) → y = s_chr := fun y hy => (g_sty hy).2.1 rfl
  rcases h with h | ⟨-, i, hi, h | h | h⟩
  · exact (g_not_callV (as := [(1, x)]) (st0 := st) hu s_par.2.1 rfl hL h).elim
  · exact absurd (hu _ (Or.inl h.1)) s_ne.1
  · obtain ⟨-, h1, h2⟩ := h
    rw [h2, g_ax_un hd hi hj h1]
    rfl
  · exact absurd (hu _ (Or.inl h.2.1)) (Ne.symm s_ne.2.2)
theorem g_ix_un {s0 x : Int} {j : Nat} (hs : s0 = (ax.1 j : Int)) (hj : j = 0) (hL : ax.1 j ∉ L) (hd : ax.1 0 ≠ ax.1 1) (h : g_in "OwnRain$Tape" ax CE (.invokevirtual 63) 3 (pc, ρ, (1, x) :: (1, s0) :: st, L, g) c') : ∃ v : Int, ixE (Int32.ofInt x) v ∧ c' = (pc + 3, ρ, (1, (Int32.ofInt v).toInt) :: st, L, g) := by
  subst hs
  have hu : ∀ y, (Cond.methodLink "OwnRain$Tape" 63 y ∈ gtbl ∨ ("OwnRain$Tape", 63, y) ∈ znests) → y = s_ix := fun y hy => (g_sty hy).2.2 rfl
  rcases h with h | ⟨-, i, hi, h | h | h⟩
  · exact (g_not_callV (as := [(1, x)]) (st0 := st) hu s_par.2.2 rfl hL h).elim
  · exact absurd (hu _ (Or.inl h.1)) s_ne.2.1
  · exact absurd (hu _ (Or.inl h.1)) s_ne.2.2
  · obtain ⟨-, -, -, v, h1, h2⟩ := h
    exact ⟨v, h1, h2⟩
theorem gnrG (i : Nat) : Instr.getstatic i ≠ .return_ ∧ Instr.getstatic i ≠ .ireturn ∧ Instr.getstatic i ≠ .lreturn ∧ Instr.getstatic i ≠ .areturn := ⟨fun h => (by cases h), fun h => (by cases h), fun h => (by cases h), fun h => (by cases h)⟩
theorem gnrL (i : Nat) : Instr.ldc i ≠ .return_ ∧ Instr.ldc i ≠ .ireturn ∧ Instr.ldc i ≠ .lreturn ∧ Instr.ldc i ≠ .areturn := ⟨fun h => (by cases h), fun h => (by cases h), fun h => (by cases h), fun h => (by cases h)⟩
end SS
