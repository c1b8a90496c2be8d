/-! The class's constructor of a TEXT. -/
theorem g_upr_s (g : Nat → Nat → Int) (a : Nat) (d : Nat → Int) (i : Nat) : g_upr g a d a i = d i := if_pos rfl
theorem g_upr_a {g : Nat → Nat → Int} {a : Nat} {d : Nat → Int} {c i : Nat} (h : c ≠ a) : g_upr g a d c i = g c i := if_neg h
def ctF : List Nat := [1, 2, 3, 4, 6, 7, 9, 10, 11, 12]
theorem ctF_ne : ∀ i k : Fin 10, i ≠ k → ctF.getD (i : Nat) 0 ≠ ctF.getD (k : Nat) 0 := by decide
def FRS (ax : zAx) (L : List Nat) (q : Nat) : Prop := q ∉ L ∧ q ≠ ax.2.2 ∧ q ≠ ax.1 0 ∧ q ≠ ax.1 1
/-- k rows are made -/
def INk (ax : zAx) (L0 : List Nat) (T : Nat) (g0 : Nat → Nat → Int) (k : Nat) (L : List Nat) (g : Nat → Nat → Int) (Q : Nat → Nat) : Prop := (∀ c, c ∈ L0 → c ∈ L) ∧ (∀ c, c ∈ L → c ∈ L0 ∨ FRS ax L0 c) ∧ (∀ i, i < k → Q i ∈ L ∧ FRS ax L0 (Q i) ∧ g T (ctF.getD i 0) = (Q i : Int) ∧ ∀ j, g (Q i) j = 0) ∧ (∀ i j, i < k → j < k → Q i = Q j → i = j) ∧ (∀ c, c ≠ T → (∀ i, i < k → c ≠ Q i) → ∀ j, g c j = g0 c j) ∧ ∀ j, (∀ i, i < 10 → j ≠ ctF.getD i 0) → g T j = g0 T j
theorem in_step {ax : zAx} {L0 : List Nat} {T : Nat} {g0 : Nat → Nat → Int} {k : Nat} {L : List Nat} {g : Nat → Nat → Int} {Q Q' : Nat → Nat} {q : Nat} (h : INk ax L0 T g0 k L g Q) (hk : k < 10) (hT : T ∈ L0) (hq : FRS ax L q) (hQ1 : Q' k = q) (hQ2 : ∀ i, i ≠ k → Q' i = Q i) : INk ax L0 T g0 (k + 1) (L ++ [q]) (g_up (g_upr g q (fun _ => 0)) T (ctF.getD k 0) (q : Int)) Q' := by
  obtain ⟨a1, a2, a3, a4, a5, a6⟩ := h
  obtain ⟨q1, q2, q3, q4⟩ := hq
  have hq0 : FRS ax L0 q := ⟨fun hh => q1 (a1 q hh), q2, q3, q4⟩
  have nTq : T ≠ q := fun e => q1 (by rw [← e]; exact a1 T hT)
  refine ⟨fun c hc => List.mem_append_left _ (a1 c hc), fun c hc => ?_, fun i hi => ?_, fun i j hi hj he => ?_, fun c hc hi j => ?_, fun j hj => ?_⟩
  · rcases List.mem_append.mp hc with hc | hc
    · exact a2 c hc
    · rw [List.mem_singleton.mp hc]
      exact Or.inr hq0
  · by_cases hik : i = k
    · subst hik
      rw [hQ1]
      refine ⟨List.mem_append_right _ (List.mem_singleton.mpr rfl), hq0, g_up_s .., fun j => ?_⟩
      rw [g_up_a (Ne.symm nTq), g_upr_s]
    · rw [hQ2 i hik]
      obtain ⟨b1, b2, b3, b4⟩ := a3 i (by omega)
      have nQT : Q i ≠ T := fun e => b2.1 (by rw [e]; exact hT)
      have nQq : Q i ≠ q := fun e => q1 (by rw [← e]; exact b1)
      refine ⟨List.mem_append_left _ b1, b2, ?_, fun j => ?_⟩
      · rw [g_up_j (ctF_ne ⟨i, by omega⟩ ⟨k, hk⟩ (fun e => hik (Fin.mk.inj e))), g_upr_a nTq, b3]
      · rw [g_up_a nQT, g_upr_a nQq, b4]
  · by_cases hik : i = k
    · by_cases hjk : j = k
      · omega
      · rw [hik, hQ1, hQ2 j hjk] at he
        exact absurd (a3 j (by omega)).1 (by rw [← he]; exact q1)
    · by_cases hjk : j = k
      · rw [hjk, hQ1, hQ2 i hik] at he
        exact absurd (a3 i (by omega)).1 (by rw [he]; exact q1)
      · rw [hQ2 i hik, hQ2 j hjk] at he
        exact a4 i j (by omega) (by omega) he
  · have ncq : c ≠ q := by
      have := hi k (Nat.lt_succ_self k)
      rw [hQ1] at this
      exact this
    rw [g_up_a hc, g_upr_a ncq]
    exact a5 c hc (fun i hik => by
      have := hi i (by omega)
      rw [hQ2 i (by omega)] at this
      exact this) j
  · rw [g_up_j (hj k hk), g_upr_a nTq]
    exact a6 j hj
theorem in_x {ax : zAx} {L : List Nat} {T : Nat} {g : Nat → Nat → Int} {r : Option g_V} {h : g_H} (hT : T ∈ L) (hx : g_ex ax yX7_init cX7_init [(0, (T : Int))] (L, g) r h) : r = none ∧ ∃ L' g' Q, h = (L', g') ∧ INk ax L T g 10 L' g' Q := by
  obtain ⟨ρ, N, hρ, hr⟩ := g_run_of hx
  have h0 : ρ 0 = (T : Int) := hρ (0, _) (by simp)
  have hCE : ∀ y cc as h r h', g_ex ax y cc as h r h' → g_ex ax y cc as h r h' := fun _ _ _ _ _ _ h => h
  have i0 : INk ax L T g 0 L g (fun _ => 0) := ⟨fun _ h => h, fun _ h => Or.inl h, fun _ h => absurd h (Nat.not_lt_zero _), fun _ _ h => absurd h (Nat.not_lt_zero _), fun _ _ _ _ => rfl, fun _ _ => rfl⟩
  obtain ⟨n1, q1, -, f1, r1⟩ := pt_X7_init_0 hCE hr
  simp only [h0] at r1
  obtain ⟨Q1, hQa, hQb⟩ : ∃ Q : Nat → Nat, Q 0 = q1 ∧ ∀ i, i ≠ 0 → Q i = (0 : Nat) := ⟨fun i => if i = 0 then q1 else (0 : Nat), if_pos rfl, fun _ h => if_neg h⟩
  have i1 := in_step (Q' := Q1) (Q := fun _ => 0) i0 (by decide) hT f1 hQa hQb
  obtain ⟨n2, q2, -, f2, r2⟩ := pt_X7_init_9 hCE r1
  simp only [h0, Int.toNat_natCast] at r2
  obtain ⟨Q2, hQa, hQb⟩ : ∃ Q : Nat → Nat, Q 1 = q2 ∧ ∀ i, i ≠ 1 → Q i = Q1 i := ⟨fun i => if i = 1 then q2 else Q1 i, if_pos rfl, fun _ h => if_neg h⟩
  have i2 := in_step (Q' := Q2) (Q := Q1) i1 (by decide) hT f2 hQa hQb
  obtain ⟨n3, q3, -, f3, r3⟩ := pt_X7_init_17 hCE r2
  simp only [h0, Int.toNat_natCast] at r3
  obtain ⟨Q3, hQa, hQb⟩ : ∃ Q : Nat → Nat, Q 2 = q3 ∧ ∀ i, i ≠ 2 → Q i = Q2 i := ⟨fun i => if i = 2 then q3 else Q2 i, if_pos rfl, fun _ h => if_neg h⟩
  have i3 := in_step (Q' := Q3) (Q := Q2) i2 (by decide) hT f3 hQa hQb
  obtain ⟨n4, q4, -, f4, r4⟩ := pt_X7_init_26 hCE r3
  simp only [h0, Int.toNat_natCast] at r4
  obtain ⟨Q4, hQa, hQb⟩ : ∃ Q : Nat → Nat, Q 3 = q4 ∧ ∀ i, i ≠ 3 → Q i = Q3 i := ⟨fun i => if i = 3 then q4 else Q3 i, if_pos rfl, fun _ h => if_neg h⟩
  have i4 := in_step (Q' := Q4) (Q := Q3) i3 (by decide) hT f4 hQa hQb
  obtain ⟨n5, q5, -, f5, r5⟩ := pt_X7_init_35 hCE r4
  simp only [h0, Int.toNat_natCast] at r5
  obtain ⟨Q5, hQa, hQb⟩ : ∃ Q : Nat → Nat, Q 4 = q5 ∧ ∀ i, i ≠ 4 → Q i = Q4 i := ⟨fun i => if i = 4 then q5 else Q4 i, if_pos rfl, fun _ h => if_neg h⟩
  have i5 := in_step (Q' := Q5) (Q := Q4) i4 (by decide) hT f5 hQa hQb
  obtain ⟨n6, q6, -, f6, r6⟩ := pt_X7_init_44 hCE r5
  simp only [h0, Int.toNat_natCast] at r6
  obtain ⟨Q6, hQa, hQb⟩ : ∃ Q : Nat → Nat, Q 5 = q6 ∧ ∀ i, i ≠ 5 → Q i = Q5 i := ⟨fun i => if i = 5 then q6 else Q5 i, if_pos rfl, fun _ h => if_neg h⟩
  have i6 := in_step (Q' := Q6) (Q := Q5) i5 (by decide) hT f6 hQa hQb
  obtain ⟨n7, q7, -, f7, r7⟩ := pt_X7_init_53 hCE r6
  simp only [h0, Int.toNat_natCast] at r7
  obtain ⟨Q7, hQa, hQb⟩ : ∃ Q : Nat → Nat, Q 6 = q7 ∧ ∀ i, i ≠ 6 → Q i = Q6 i := ⟨fun i => if i = 6 then q7 else Q6 i, if_pos rfl, fun _ h => if_neg h⟩
  have i7 := in_step (Q' := Q7) (Q := Q6) i6 (by decide) hT f7 hQa hQb
  obtain ⟨n8, q8, -, f8, r8⟩ := pt_X7_init_60 hCE r7
  simp only [h0, Int.toNat_natCast] at r8
  obtain ⟨Q8, hQa, hQb⟩ : ∃ Q : Nat → Nat, Q 7 = q8 ∧ ∀ i, i ≠ 7 → Q i = Q7 i := ⟨fun i => if i = 7 then q8 else Q7 i, if_pos rfl, fun _ h => if_neg h⟩
  have i8 := in_step (Q' := Q8) (Q := Q7) i7 (by decide) hT f8 hQa hQb
  obtain ⟨n9, q9, -, f9, r9⟩ := pt_X7_init_67 hCE r8
  simp only [h0, Int.toNat_natCast] at r9
  obtain ⟨Q9, hQa, hQb⟩ : ∃ Q : Nat → Nat, Q 8 = q9 ∧ ∀ i, i ≠ 8 → Q i = Q8 i := ⟨fun i => if i = 8 then q9 else Q8 i, if_pos rfl, fun _ h => if_neg h⟩
  have i9 := in_step (Q' := Q9) (Q := Q8) i8 (by decide) hT f9 hQa hQb
  obtain ⟨n10, q10, -, f10, r10⟩ := pt_X7_init_74 hCE r9
  simp only [h0, Int.toNat_natCast] at r10
  obtain ⟨Q10, hQa, hQb⟩ : ∃ Q : Nat → Nat, Q 9 = q10 ∧ ∀ i, i ≠ 9 → Q i = Q9 i := ⟨fun i => if i = 9 then q10 else Q9 i, if_pos rfl, fun _ h => if_neg h⟩
  have i10 := in_step (Q' := Q10) (Q := Q9) i9 (by decide) hT f10 hQa hQb
  obtain ⟨e1, e2⟩ := pt_X7_init_81 hCE r10
  rw [Int.toNat_natCast] at e2
  exact ⟨e1, _, _, _, e2, i10⟩
/-! The loop over CLAUSES. -/
section TL
variable {ax : zAx} {L : List Nat} {A : Nat → Nat} {m : Nat} {tk vl : Nat → Int} {ps : Nat → Nat} {r : Option g_V} {h : g_H}
/-- how the reading of a tape ends -/
def TLq (A : Nat → Nat) (ps : Nat → Nat) (L : List Nat) (g : Nat → Nat → Int) (Q : Int × Nat) (r : Option g_V) (h : g_H) : Prop := ∃ g', h = (L, g') ∧ (∀ c j, ¬ (WC A c j ∨ (c = A 1 ∧ j = 0)) → g' c j = g c j) ∧ g' (A 1) 0 = 0 ∧ g' (A 0) 0 = Q.1 ∧ (Q.1 ≠ 0 → g' (A 0) 1 = (ps Q.2 : Int)) ∧ (Q.1 = 0 → g' (A 0) 1 = -1) ∧ r = some (1, if Q.1 = 0 then (A 5 : Int) else -1)
theorem TLq_tr {g g1 : Nat → Nat → Int} {Q : Int × Nat} (h1 : fC A g g1) (h2 : TLq A ps L g1 Q r h) : TLq A ps L g Q r h := by
  obtain ⟨g', e1, e2, e3⟩ := h2
  exact ⟨g', e1, fun c j hc => (e2 c j hc).trans (h1 c j (fun hh => hc (Or.inl hh))), e3⟩
theorem tl_end (hA : HE A) {lw : Int} {g : Nat → Nat → Int} {Q : Int × Nat} (hP : PI A m lw tk vl ps g) (h0 : g (A 0) 0 = Q.1) (h1 : Q.1 ≠ 0 → g (A 0) 1 = (ps Q.2 : Int)) (h2 : Q.1 = 0 → g (A 0) 1 = -1) (he : (((g_up g (g (A 0) 2).toNat 0 0) (A 0) 0 = 0 ∧ (r = some (1, g (A 0) 3) ∧ h = (L, (g_up g (g (A 0) 2).toNat 0 0)))) ∨ (¬ ((g_up g (g (A 0) 2).toNat 0 0) (A 0) 0 = 0) ∧ (r = some (1, (-1)) ∧ h = (L, (g_up g (g (A 0) 2).toNat 0 0)))))) : TLq A ps L g Q r h := by
  have n01 : A 0 ≠ A 1 := fun e => absurd (hA 0 1 (by decide) (by decide) e) (by decide)
  rw [hP.1.1, Int.toNat_natCast, g_up_a n01, hP.1.2.1, h0] at he
  have fr : ∀ c j, ¬ (WC A c j ∨ (c = A 1 ∧ j = 0)) → g_up g (A 1) 0 0 c j = g c j := fun c j hc => by
    unfold g_up
    rw [if_neg (fun e => hc (Or.inr ⟨e.2, e.1⟩))]
  rcases he with ⟨c, e1, e2⟩ | ⟨c, e1, e2⟩
  · exact ⟨_, e2, fr, g_up_s .., (g_up_a n01).trans h0, fun hh => (g_up_a n01).trans (h1 hh), fun hh => (g_up_a n01).trans (h2 hh), by rw [e1, if_pos c]⟩
  · exact ⟨_, e2, fr, g_up_s .., (g_up_a n01).trans h0, fun hh => (g_up_a n01).trans (h1 hh), fun hh => (g_up_a n01).trans (h2 hh), by rw [e1, if_neg c]⟩
theorem tl_48 (hA : HE A) (h16 : A 16 = ax.2.2) (hm : m ≤ 300) (hE : tk m = 54) (hv : ∀ j, tk j = 53 → 0 ≤ vl j) (h0k : ∀ j, 0 ≤ tk j) : ∀ (N : Nat) {k on i : Nat} {ρ : Nat → Int} {g : Nat → Nat → Int} {lw : Int}, k ≤ 24 → on < 32 → PI A m lw tk vl ps g → PX A g → CS A m tk on g i → ρ 0 = (A 0 : Int) → ρ 1 = (k : Int) → g_run RX3 ax (g_ex ax) cX3_readTape N (48, ρ, [], L, g) r h → ∃ Q, UT tk vl i k on Q ∧ TLq A ps L g Q r h := by
  intro N
  induction N using Nat.strongRecOn with
  | ind N ih =>
    intro k on i ρ g lw hk hon hP hX hC h0 h1 hr
    have hx := pt_X3_readTape_48 (fun _ _ _ _ _ _ h => h) hr
    obtain ⟨⟨c0, k0, hS, hc, hk0⟩, hL⟩ := hC
    simp only [h0, h1, Int.toNat_natCast] at hx
    rcases hx with ⟨c1, -⟩ | ⟨-, hx⟩
    · omega
    rcases hx with ⟨-, hx⟩ | ⟨c1, -⟩
    rotate_left
    · exact absurd hS.1 c1
    rcases hx with ⟨c1, he⟩ | ⟨c1, n1, r1, k1, l1, hx1, hr1⟩
    · have h54 : tk i = 54 := by rw [← hS.2.2.1]; exact c1
      exact ⟨(0, i), UT_end h54, tl_end hA hP hS.1 (fun hh => absurd rfl hh) (fun _ => hS.2.2.2.2.2.2) he⟩
    · have h54 : tk i ≠ 54 := by rw [← hS.2.2.1]; exact c1
      obtain ⟨e1, g1, e2, f1, hq⟩ := rc_x hA h16 hm hE hv h0k hk hon hP hX ⟨⟨c0, k0, hS, hc, hk0⟩, hL⟩ h54 hx1
      subst e1
      subst e2
      obtain ⟨n2, l2, hr2⟩ := pt_X3_readTape_75 (fun _ _ _ _ _ _ h => h) hr1
      have eK : g_i ((k : Int) + 1) = ((k + 1 : Nat) : Int) := by
        rw [gi_of (by omega) (by omega)]
        omega
      rw [h1, eK] at hr2
      clear eK
      have hP1 := PI_C hA hP f1 (rfl : g1 (A 0) 4 = g1 (A 0) 4)
      have hX1 := PX_C hA hX f1
      have r0 : va_up ρ 1 ((k + 1 : Nat) : Int) 0 = (A 0 : Int) := by rw [vu, if_neg (by decide)]; exact h0
      have r1' : va_up ρ 1 ((k + 1 : Nat) : Int) 1 = ((k + 1 : Nat) : Int) := by rw [vu, if_pos rfl]
      rcases hq with ⟨q, q1, q2, q3⟩ | ⟨j, on', q1, q2, q3, q4⟩
      · refine ⟨q, q2, TLq_tr f1 ?_⟩
        have hx := pt_X3_readTape_48 (fun _ _ _ _ _ _ h => h) hr2
        simp only [r0, r1', Int.toNat_natCast] at hx
        rcases hx with ⟨-, he⟩ | ⟨-, hx⟩
        · exact tl_end hA hP1 q3.1 (fun _ => q3.2) (fun hh => absurd hh q1) he
        rcases hx with ⟨c2, -⟩ | ⟨-, he⟩
        · rw [q3.1] at c2
          exact absurd c2 q1
        · exact tl_end hA hP1 q3.1 (fun _ => q3.2) (fun hh => absurd hh q1) he
      · obtain ⟨Q, u1, u2⟩ := ih n2 (by omega) (by omega) q2 hP1 hX1 q3 r0 r1' hr2
        exact ⟨Q, q4 Q u1, TLq_tr f1 u2⟩
end TL
/-! The whole of a tape. -/
def old5 (R T tr nr pr : Nat) (i : Nat) : Nat := if i = 0 then R else if i = 1 then T else if i = 2 then tr else if i = 3 then nr else pr
def prm (i : Nat) : Nat := if i < 10 then i - 4 else if i < 12 then i - 10 else i - 6
theorem prm_lt {i : Nat} (h : 6 ≤ i ∧ i < 16) : prm i < 10 := by
  unfold prm
  (repeat' split) <;> omega
theorem prm_in {i j : Nat} (hi : 6 ≤ i ∧ i < 16) (hj : 6 ≤ j ∧ j < 16) (h : prm i = prm j) : i = j := by
  unfold prm at h
  (repeat' split at h) <;> omega
/-- where all lies -/
def adr (R T tr nr pr q : Nat) (Q : Nat → Nat) (S : Nat) (i : Nat) : Nat := if i < 5 then old5 R T tr nr pr i else if i = 5 then q else if i < 16 then Q (prm i) else S
theorem old5_in {R T tr nr pr : Nat} (hn : R ≠ T ∧ R ≠ tr ∧ R ≠ nr ∧ R ≠ pr ∧ T ≠ tr ∧ T ≠ nr ∧ T ≠ pr ∧ tr ≠ nr ∧ tr ≠ pr ∧ nr ≠ pr) {i j : Nat} (hi : i < 5) (hj : j < 5) (h : old5 R T tr nr pr i = old5 R T tr nr pr j) : i = j := by
  unfold old5 at h
  (repeat' split at h) <;> omega
theorem old5_P {R T tr nr pr : Nat} {P : Nat → Prop} (h0 : P R) (h1 : P T) (h2 : P tr) (h3 : P nr) (h4 : P pr) (i : Nat) : P (old5 R T tr nr pr i) := by
  unfold old5
  (repeat' split) <;> assumption
theorem adr_HE {ax : zAx} {R T tr nr pr q : Nat} {Q : Nat → Nat} {L : List Nat} (hn : R ≠ T ∧ R ≠ tr ∧ R ≠ nr ∧ R ≠ pr ∧ T ≠ tr ∧ T ≠ nr ∧ T ≠ pr ∧ tr ≠ nr ∧ tr ≠ pr ∧ nr ≠ pr) (hL : ∀ i, old5 R T tr nr pr i ∈ L ∧ old5 R T tr nr pr i ≠ ax.2.2) (hq : FRS ax L q) (hQ : ∀ i, i < 10 → FRS ax (L ++ [q]) (Q i)) (hQi : ∀ i j, i < 10 → j < 10 → Q i = Q j → i = j) : HE (adr R T tr nr pr q Q ax.2.2) := by
  have v0 : ∀ i, i < 5 → adr R T tr nr pr q Q ax.2.2 i = old5 R T tr nr pr i := fun i h => if_pos h
  have v5 : adr R T tr nr pr q Q ax.2.2 5 = q := rfl
  have v6 : ∀ i, 6 ≤ i → i < 16 → adr R T tr nr pr q Q ax.2.2 i = Q (prm i) := fun i h1 h2 => by
    unfold adr
    rw [if_neg (by omega), if_neg (by omega), if_pos h2]
  have v16 : adr R T tr nr pr q Q ax.2.2 16 = ax.2.2 := rfl
  have nq : ∀ i, old5 R T tr nr pr i ≠ q := fun i e => hq.1 (by rw [← e]; exact (hL i).1)
  have nQ : ∀ i k, k < 10 → old5 R T tr nr pr i ≠ Q k := fun i k hk e => (hQ k hk).1 (by rw [← e]; exact List.mem_append_left _ (hL i).1)
  have qQ : ∀ k, k < 10 → q ≠ Q k := fun k hk e => (hQ k hk).1 (by rw [← e]; exact List.mem_append_right _ (List.mem_singleton.mpr rfl))
  have key : ∀ i j, i < j → j < 17 → adr R T tr nr pr q Q ax.2.2 i ≠ adr R T tr nr pr q Q ax.2.2 j := by
    intro i j hij hj he
    by_cases i5 : i < 5
    · rw [v0 i i5] at he
      by_cases j5 : j < 5
      · rw [v0 j j5] at he
        have := old5_in hn i5 j5 he
        omega
      by_cases j6 : j = 5
      · rw [j6, v5] at he
        exact nq i he
      by_cases j16 : j = 16
      · rw [j16, v16] at he
        exact (hL i).2 he
      · rw [v6 j (by omega) (by omega)] at he
        exact nQ i _ (prm_lt (by omega)) he
    by_cases i6 : i = 5
    · rw [i6, v5] at he
      by_cases j16 : j = 16
      · rw [j16, v16] at he
        exact hq.2.1 he
      · rw [v6 j (by omega) (by omega)] at he
        exact qQ _ (prm_lt (by omega)) he
    · rw [v6 i (by omega) (by omega)] at he
      by_cases j16 : j = 16
      · rw [j16, v16] at he
        exact (hQ _ (prm_lt (by omega))).2.1 he
      · rw [v6 j (by omega) (by omega)] at he
        have := prm_in (i := i) (j := j) (by omega) (by omega) (hQi _ _ (prm_lt (by omega)) (prm_lt (by omega)) he)
        omega
  intro i j hi hj he
  by_cases h1 : i < j
  · exact absurd he (key i j h1 hj)
  · by_cases h2 : j < i
    · exact absurd he.symm (key j i h2 hi)
    · omega
theorem vl_nn {b : Nat → Int} {n p : Nat} : 0 ≤ x_vl b n p := by
  unfold x_vl
  by_cases h1 : n ≤ p
  · rw [if_pos h1]
    exact Int.le_refl 0
  rw [if_neg h1]
  by_cases h2 : x_let (b p) = true
  · rw [if_pos h2]
    exact Int.le_refl 0
  rw [if_neg h2]
  by_cases h3 : x_dig (b p) = true
  · rw [if_pos h3]
    obtain ⟨v1, v2, v3⟩ := x_val_vr (b := b) (p := p) (x_to x_dig b n p - p) (fun j hj => x_to_all (n := n) (p := p) (by omega) (by omega))
    rw [v3]
    omega
  · rw [if_neg h3]
    exact Int.le_refl 0
theorem tk_nn {b : Nat → Int} {n p : Nat} : 0 ≤ x_tk b n p := by
  have hr := fi_rng (x_seg b p (x_to x_let b n p - p))
  unfold x_tk x_sg
  (repeat' split) <;> omega
section RTp
variable {ax : zAx} {L : List Nat} {b : Nat → Int} {n R T tr nr pr br : Nat} {r : Option g_V} {h : g_H}
/-- the class reads its tape: as uT says -/
theorem rtp_x (hn : R ≠ T ∧ R ≠ tr ∧ R ≠ nr ∧ R ≠ pr ∧ T ≠ tr ∧ T ≠ nr ∧ T ≠ pr ∧ tr ≠ nr ∧ tr ≠ pr ∧ nr ≠ pr) (hb : br ≠ R ∧ br ≠ T ∧ br ≠ tr ∧ br ≠ nr ∧ br ≠ pr) (hL : ∀ i, old5 R T tr nr pr i ∈ L ∧ old5 R T tr nr pr i ≠ ax.2.2) (hbL : br ∈ L) (hL0 : ax.1 0 ∉ L) (hL1 : ax.1 1 ∉ L) (hd : ax.1 0 ≠ ax.1 1) (h2b : ax.2.2 ≠ br) {g : Nat → Nat → Int} (hR2 : g R 2 = (T : Int)) (hT : TB b n T tr nr pr br g) (hSh : ∀ j, j < 81 → g ax.2.2 j = shp.getD j 0) (hx : g_ex ax yX3_readTape cX3_readTape [(0, (R : Int))] (L, g) r h) : ∃ Q q L' g', (∃ m, m ≤ 300 ∧ tkS b n m = 54) ∧ UT (tkS b n) (vlS b n) 0 0 0 Q ∧ h = (L', g') ∧ (∀ c, c ∈ L → c ∈ L') ∧ q ∉ L ∧ (∀ c, c ∈ L → c ≠ R → c ≠ tr → c ≠ nr → c ≠ pr → ∀ j, ¬ (c = T ∧ (j = 0 ∨ j = 1)) → g' c j = g c j) ∧ g' T 0 = 0 ∧ g' R 0 = Q.1 ∧ (Q.1 ≠ 0 → g' R 1 = (x_ps b n Q.2 : Int)) ∧ (Q.1 = 0 → g' R 1 = -1) ∧ g' R 2 = (T : Int) ∧ r = some (1, if Q.1 = 0 then (q : Int) else -1) := by
  obtain ⟨ρ, N, hρ, hr⟩ := g_run_of hx
  have h0 : ρ 0 = (R : Int) := hρ (0, _) (by simp)
  have hCE : ∀ y cc as h r h', g_ex ax y cc as h r h' → g_ex ax y cc as h r h' := fun _ _ _ _ _ _ h => h
  have hn0 := hn
  obtain ⟨nRT, nRtr, nRnr, nRpr, nTtr, nTnr, nTpr, ntn, ntp, nnp⟩ := hn
  have lR : R ∈ L := (hL 0).1
  have lT : T ∈ L := (hL 1).1
  obtain ⟨n1, q, d, -, fq, hnd, hr1⟩ := pt_X3_readTape_0 hCE hr
  simp only [h0, Int.toNat_natCast] at hr1
  have nTq : T ≠ q := fun e => fq.1 (by rw [← e]; exact lT)
  have nRq : R ≠ q := fun e => fq.1 (by rw [← e]; exact lR)
  obtain ⟨d0, d5, d8⟩ := nd_Text hnd
  generalize hg1 : g_upr (g_up (g_up g R 0 0) R 1 (-1)) q d = g1 at hr1
  have a1 : ∀ c, c ≠ q → c ≠ R → ∀ j, g1 c j = g c j := fun c h1 h2 j => by rw [← hg1, g_upr_a h1, g_up_a h2, g_up_a h2]
  have a1R : ∀ j, j ≠ 0 → j ≠ 1 → g1 R j = g R j := fun j h1 h2 => by rw [← hg1, g_upr_a nRq, g_up_j h2, g_up_j h1]
  have a1R0 : g1 R 0 = 0 := by rw [← hg1, g_upr_a nRq, g_up_j (by decide), g_up_s]
  have a1R1 : g1 R 1 = -1 := by rw [← hg1, g_upr_a nRq, g_up_s]
  have a1q : ∀ j, g1 q j = d j := fun j => by rw [← hg1, g_upr_s]
  obtain ⟨n2, r2, k2, -, hx2, hr2⟩ := pt_X3_readTape_14 hCE hr1
  have lq : q ∈ L ++ [q] := List.mem_append_right _ (List.mem_singleton.mpr rfl)
  obtain ⟨e1, L2, g2, Q, e2, i1, i2, i3, i4, i5, i6⟩ := in_x lq hx2
  subst e1
  subst e2
  have hQf : ∀ i, i < 10 → FRS ax (L ++ [q]) (Q i) := fun i hi => (i3 i hi).2.1
  have nQ : ∀ c, c ∈ L → ∀ i, i < 10 → c ≠ Q i := fun c hc i hi e => (hQf i hi).1 (by rw [← e]; exact List.mem_append_left _ hc)
  have nq : ∀ c, c ∈ L → c ≠ q := fun c hc e => fq.1 (by rw [← e]; exact hc)
  have a2 : ∀ c, c ∈ L → ∀ j, g2 c j = g1 c j := fun c hc j => i5 c (nq c hc) (nQ c hc) j
  obtain ⟨n3, r3, k3, -, hx3, hr3⟩ := pt_X3_readTape_18 hCE hr2
  simp only [h0, Int.toNat_natCast] at hx3
  rw [a2 R lR, a1R 2 (by decide) (by decide), hR2] at hx3
  generalize hg3 : g_up g2 R 3 (q : Int) = g3 at hx3
  have a3 : ∀ c, c ≠ R → ∀ j, g3 c j = g2 c j := fun c hc j => by rw [← hg3, g_up_a hc]
  have a3R : ∀ j, j ≠ 3 → g3 R j = g2 R j := fun j hj => by rw [← hg3, g_up_j hj]
  have a3R3 : g3 R 3 = (q : Int) := by rw [← hg3, g_up_s]
  have aL : ∀ c, c ∈ L → c ≠ R → ∀ j, g3 c j = g c j := fun c hc h1 j => by rw [a3 c h1, a2 c hc, a1 c (nq c hc) h1]
  obtain ⟨t0, t2, t3, t4, t5, tn, tb⟩ := hT
  have nTR : T ≠ R := Ne.symm nRT
  have hT3 : TB b n T tr nr pr br g3 := ⟨(aL T lT nTR 0).trans t0, (aL T lT nTR 2).trans t2, (aL T lT nTR 3).trans t3, (aL T lT nTR 4).trans t4, (aL T lT nTR 5).trans t5, tn, fun k hk => ⟨(aL br hbL hb.1 k).trans (tb k hk).1, (tb k hk).2⟩⟩
  have hTD : TD T tr nr pr br := ⟨nTtr, nTnr, nTpr, Ne.symm hb.2.1, ntn, ntp, Ne.symm hb.2.2.1, nnp, Ne.symm hb.2.2.2.1, Ne.symm hb.2.2.2.2⟩
  have nL : ∀ k, (k = 0 ∨ k = 1) → ax.1 k ∉ L2 := fun k hk hm => by
    rcases i2 _ hm with hm | hm
    · rcases List.mem_append.mp hm with hm | hm
      · rcases hk with rfl | rfl
        · exact hL0 hm
        · exact hL1 hm
      · have := List.mem_singleton.mp hm
        rcases hk with rfl | rfl
        · exact fq.2.2.1 this.symm
        · exact fq.2.2.2 this.symm
    · rcases hk with rfl | rfl
      · exact hm.2.2.1 rfl
      · exact hm.2.2.2 rfl
  obtain ⟨e3, g4, e4, f4, m, hm, m1, mE, mlt, mR⟩ := ft_ok (nL 0 (Or.inl rfl)) (nL 1 (Or.inr rfl)) hd hTD hT3 hx3
  subst e3
  subst e4
  obtain ⟨n4, -, hr4⟩ := pt_X3_readTape_28 hCE hr3
  simp only [h0, Int.toNat_natCast] at hr4
  have a4R : ∀ j, g4 R j = g3 R j := fun j => f4 R j (fun e => nRT e.1) nRtr nRnr nRpr
  have b4R2 : g4 R 2 = (T : Int) := by rw [a4R, a3R 2 (by decide), a2 R lR, a1R 2 (by decide) (by decide), hR2]
  have b4T2 : g4 T 2 = (tr : Int) := by rw [f4 T 2 (fun e => absurd e.2 (by decide)) nTtr nTnr nTpr]; exact hT3.2.1
  have b4T3 : g4 T 3 = (nr : Int) := by rw [f4 T 3 (fun e => absurd e.2 (by decide)) nTtr nTnr nTpr]; exact hT3.2.2.1
  have b4T4 : g4 T 4 = (pr : Int) := by rw [f4 T 4 (fun e => absurd e.2 (by decide)) nTtr nTnr nTpr]; exact hT3.2.2.2.1
  rw [b4R2, Int.toNat_natCast, b4T2, Int.toNat_natCast] at hr4
  generalize hg5 : g_up (g_up g4 R 5 0) R 6 (g4 tr 0) = g5 at hr4
  have a5 : ∀ c, c ≠ R → ∀ j, g5 c j = g4 c j := fun c hc j => by rw [← hg5, g_up_a hc, g_up_a hc]
  have a5R : ∀ j, j ≠ 5 → j ≠ 6 → g5 R j = g4 R j := fun j h1 h2 => by rw [← hg5, g_up_j h2, g_up_j h1]
  have a5R5 : g5 R 5 = 0 := by rw [← hg5, g_up_j (by decide), g_up_s]
  have a5R6 : g5 R 6 = g4 tr 0 := by rw [← hg5, g_up_s]
  have ltr : tr ∈ L := (hL 2).1
  have lnr : nr ∈ L := (hL 3).1
  have lpr : pr ∈ L := (hL 4).1
  have qR : q ≠ R := Ne.symm nRq
  have a4q : ∀ c, c ∉ L → c ≠ R → ∀ j, g4 c j = g2 c j := fun c hc h1 j => by
    rw [f4 c j (fun e => hc (by rw [e.1]; exact lT)) (fun e => hc (by rw [e]; exact ltr)) (fun e => hc (by rw [e]; exact lnr)) (fun e => hc (by rw [e]; exact lpr)), a3 c h1]
  have q5 : ∀ j, g5 q j = g2 q j := fun j => by rw [a5 q qR, a4q q fq.1 qR]
  have qF : ∀ i, i < 10 → g5 q (ctF.getD i 0) = (Q i : Int) := fun i hi => by rw [q5]; exact (i3 i hi).2.2.1
  have q0 : ∀ j, (∀ i, i < 10 → j ≠ ctF.getD i 0) → g5 q j = d j := fun j hj => by rw [q5, i6 j hj, a1q]
  have Qn : ∀ i, i < 10 → Q i ∉ L ∧ Q i ≠ R := fun i hi => ⟨fun hh => (hQf i hi).1 (List.mem_append_left _ hh), fun e => (hQf i hi).1 (by rw [e]; exact List.mem_append_left _ lR)⟩
  have Q0 : ∀ i, i < 10 → ∀ j, g5 (Q i) j = 0 := fun i hi j => by rw [a5 _ (Qn i hi).2, a4q _ (Qn i hi).1 (Qn i hi).2]; exact (i3 i hi).2.2.2 j
  have S0 : ∀ j, j < 81 → g5 ax.2.2 j = shp.getD j 0 := fun j hj => by
    have s1 : ax.2.2 ≠ R := Ne.symm (hL 0).2
    rw [a5 _ s1, f4 _ _ (fun e => (hL 1).2 e.1.symm) (Ne.symm (hL 2).2) (Ne.symm (hL 3).2) (Ne.symm (hL 4).2), a3 _ s1, i5 _ (Ne.symm fq.2.1) (fun i hi => Ne.symm (hQf i hi).2.1), a1 _ (Ne.symm fq.2.1) s1]
    exact hSh j hj
  have hE : tkS b n m = 54 := by
    unfold tkS
    rw [mE]
    exact if_pos (Nat.le_refl n)
  have hA : HE (adr R T tr nr pr q Q ax.2.2) := adr_HE hn0 hL fq hQf i4
  have hP : PI (adr R T tr nr pr q Q ax.2.2) m (g5 R 4) (tkS b n) (vlS b n) (x_ps b n) g5 := by
    refine ⟨⟨?_, ?_, rfl⟩, ⟨?_, ?_, ?_, ?_⟩, ⟨?_, ?_, ?_, ?_⟩, fun j hj => ⟨?_, ?_, ?_⟩⟩
    · exact (a5R 2 (by decide) (by decide)).trans b4R2
    · exact (a5R 3 (by decide) (by decide)).trans ((a4R 3).trans a3R3)
    · exact (a5 T nTR 1).trans m1
    · exact (a5 T nTR 2).trans b4T2
    · exact (a5 T nTR 3).trans b4T3
    · exact (a5 T nTR 4).trans b4T4
    · exact qF 2 (by decide)
    · exact qF 3 (by decide)
    · exact qF 4 (by decide)
    · exact qF 5 (by decide)
    · exact (a5 tr (Ne.symm nRtr) j).trans (mR j (by omega)).1
    · exact (a5 nr (Ne.symm nRnr) j).trans (mR j (by omega)).2.1
    · exact (a5 pr (Ne.symm nRpr) j).trans (mR j (by omega)).2.2
  have hX : PX (adr R T tr nr pr q Q ax.2.2) g5 := ⟨⟨qF 0 (by decide), qF 1 (by decide), qF 6 (by decide), qF 7 (by decide), qF 8 (by decide), qF 9 (by decide)⟩, S0⟩
  have hC : CS (adr R T tr nr pr q Q ax.2.2) m (tkS b n) 0 g5 0 := by
    refine ⟨⟨0, 0, ⟨?_, ?_, ?_, Nat.zero_le _, ?_, ?_, ?_⟩, Nat.le_refl 0, Nat.le_refl 0⟩, fun s hs => ?_⟩
    · exact (a5R 0 (by decide) (by decide)).trans ((a4R 0).trans ((a3R 0 (by decide)).trans ((a2 R lR 0).trans a1R0)))
    · exact a5R5
    · exact a5R6.trans (mR 0 (by omega)).1
    · exact (q0 5 (by decide)).trans d5
    · exact (q0 8 (by decide)).trans d8
    · exact (a5R 1 (by decide) (by decide)).trans ((a4R 1).trans ((a3R 1 (by decide)).trans ((a2 R lR 1).trans a1R1)))
    · show (0 : Nat).testBit s = true ↔ g5 (Q 6) s < g5 (Q 7) s
      rw [Nat.zero_testBit, Q0 6 (by decide), Q0 7 (by decide)]
      exact ⟨fun hh => absurd hh (by decide), fun hh => absurd hh (by decide)⟩
  obtain ⟨Q', u1, g', u2, u3, u4, u5, u6, u7, u8⟩ := tl_48 hA rfl hm hE (fun j _ => vl_nn) (fun j => tk_nn) n4 (Nat.zero_le 24) (by decide) hP hX hC (by rw [vu, if_neg (by decide)]; exact h0) (by rw [vu, if_pos rfl]; rfl) hr4
  have nW : ∀ c, c ∈ L → c ≠ R → ∀ j, ¬ WC (adr R T tr nr pr q Q ax.2.2) c j := by
    intro c hc hcR j hw
    have hk : ∀ k, 6 ≤ k → k < 16 → c ≠ adr R T tr nr pr q Q ax.2.2 k := fun k k1 k2 e => by
      have e6 : adr R T tr nr pr q Q ax.2.2 k = Q (prm k) := by
        unfold adr
        rw [if_neg (by omega), if_neg (by omega), if_pos k2]
      rw [e6] at e
      exact nQ c hc _ (prm_lt ⟨k1, k2⟩) e
    rcases hw with (⟨e, -⟩ | ⟨e, -⟩ | ⟨k, k1, k2, e⟩) | ⟨e, -⟩ | ⟨e, -⟩ | ⟨k, k1, k2, e⟩
    · exact hcR e
    · exact nq c hc e
    · exact hk k k1 (by omega) e
    · exact hcR e
    · exact nq c hc e
    · exact hk k (by omega) (by omega) e
  refine ⟨Q', q, L2, g', ⟨m, hm, hE⟩, u1, u2, fun c hc => i1 c (List.mem_append_left _ hc), fq.1, fun c hc hR htr hnr hpr j hj => ?_, u4, u5, u6, u7, ?_, u8⟩
  · rw [u3 c j (fun hh => by
      rcases hh with hh | hh
      · exact nW c hc hR j hh
      · exact hj ⟨hh.1, Or.inl hh.2⟩), a5 c hR, f4 c j (fun e => hj ⟨e.1, Or.inr e.2⟩) htr hnr hpr, aL c hc hR]
  · have := u3 R 2 (fun hh => by
      rcases hh with hh | hh
      · exact nC0 hA (Or.inl rfl) hh
      · exact nRT hh.1)
    rw [this, a5R 2 (by decide) (by decide), b4R2]
end RTp
