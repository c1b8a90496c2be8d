/-! What a call of these does. -/
def sgn (A : Nat → Nat) : Nat → Nat → Bool → MethodName → ByteArray → List (Nat × Int) → Prop
  | 0, d, own, y, cc, as => y = yX3_readOne ∧ cc = cX3_readOne ∧ as = [(0, (A 0 : Int)), (1, (d : Int)), (2, if own = true then 1 else 0)]
  | 1, d, own, y, cc, as => y = yX3_readProduct ∧ cc = cX3_readProduct ∧ as = [(0, (A 0 : Int)), (1, (d : Int)), (2, if own = true then 1 else 0)]
  | 3, d, own, y, cc, as => y = yX3_readSum ∧ cc = cX3_readSum ∧ as = [(0, (A 0 : Int)), (1, (d : Int)), (2, if own = true then 1 else 0)]
  | 5, d, _, y, cc, as => y = yX3_readAsk ∧ cc = cX3_readAsk ∧ as = [(0, (A 0 : Int)), (1, (d : Int))]
  | 6, d, _, y, cc, as => y = yX3_readBoth ∧ cc = cX3_readBoth ∧ as = [(0, (A 0 : Int)), (1, (d : Int))]
  | 8, d, _, y, cc, as => y = yX3_readEither ∧ cc = cX3_readEither ∧ as = [(0, (A 0 : Int)), (1, (d : Int))]
  | 10, d, _, y, cc, as => y = yX3_readGroup ∧ cc = cX3_readGroup ∧ as = [(0, (A 0 : Int)), (1, (d : Int))]
  | _, _, _, _, _, _ => False
def u_t (t : Nat) : Nat := if t = 10 then 0 else t
def PSp (A : Nat → Nat) (m : Nat) (lw : Int) (tk vl : Nat → Int) (ps : Nat → Nat) (sh : Bool) : g_E := fun y cc as h r h' => ∀ (L : List Nat) (g : Nat → Nat → Int) (t d : Nat) (own : Bool), h = (L, g) → PI A m lw tk vl ps g → sgn A t d own y cc as → d ≤ 8 → (g (A 0) 0 ≠ 0 → r = none ∧ ∃ g', h' = (L, g') ∧ KEP A g g') ∧ ∀ i c0 k0, ST A m tk g i c0 k0 → c0 ≤ i → k0 ≤ i → (t = 10 → tk i = 20 ∨ tk i = 21) → r = none ∧ ∃ g', h' = (L, g') ∧ RES A m tk vl ps sh (u_t t) d own i c0 k0 1 g g'
section CQ
variable {ax : zAx} {CE : g_E} {L : List Nat} {A : Nat → Nat} {m : Nat} {lw : Int} {tk vl : Nat → Int} {ps : Nat → Nat} {sh : Bool} {r : Option g_V} {h : g_H} {d : Nat} {own : Bool}
theorem lpk_readProduct (hC : ∀ y cc as h r h', CE y cc as h r h' → g_ex ax y cc as h r h' ∧ PSp A m lw tk vl ps sh y cc as h r h') {N : Nat} {ρ : Nat → Int} {g : Nat → Nat → Int} (hf : g (A 0) 0 ≠ 0) (r0 : ρ 0 = (A 0 : Int)) (hr : g_run RX3 ax CE cX3_readProduct N (8, ρ, [], L, g) r h) : r = none ∧ h = (L, g) := by
  have hx := pt_X3_readProduct_8 (fun _ _ _ _ _ _ h => (hC _ _ _ _ _ _ h).1) hr
  simp only [r0, Int.toNat_natCast] at hx
  rcases hx with ⟨-, e⟩ | ⟨-, ⟨c2, -⟩ | ⟨-, e⟩⟩
  · exact e
  · exact absurd c2 hf
  · exact e
theorem lp_readProduct (hA : HD A) (hm : m ≤ 300) (hE : tk m = 54) (hd : d ≤ 8) (hC : ∀ y cc as h r h', CE y cc as h r h' → g_ex ax y cc as h r h' ∧ PSp A m lw tk vl ps sh y cc as h r h') : ∀ (N : Nat) {ρ : Nat → Int} {g : Nat → Nat → Int} {i c0 k0 q : Nat}, PI A m lw tk vl ps g → ST A m tk g i c0 k0 → c0 ≤ i → k0 ≤ i → q ≤ i → ρ 0 = (A 0 : Int) → ρ 1 = (d : Int) → ρ 2 = (if own = true then 1 else 0) → ρ 3 = (q : Int) → g_run RX3 ax CE cX3_readProduct N (8, ρ, [], L, g) r h → r = none ∧ ∃ g', h = (L, g') ∧ RES A m tk vl ps sh 2 d own i c0 k0 0 g g' := by
  intro N
  induction N using Nat.strongRecOn with
  | _ N ih =>
  intro ρ g i c0 k0 q hP hS hc hk hq r0 r1 r2 rq hr
  have hx := pt_X3_readProduct_8 (fun _ _ _ _ _ _ h => (hC _ _ _ _ _ _ h).1) hr
  have eq : g_i ((q : Int) + 1) = ((q + 1 : Nat) : Int) := (gi_of (by have := hS.2.2.2.1; omega) (by have := hS.2.2.2.1; omega)).trans (by omega)
  replace eq : EqG (g_i ((q : Int) + 1)) (((q + 1 : Nat) : Int)) := eq
  simp only [r0, r1, r2, rq, Int.toNat_natCast, hS.2.2.1] at hx
  have stop : ¬ (tk i = 42 ∨ tk i = 43) → r = none → h = (L, g) → r = none ∧ ∃ g', h = (L, g') ∧ RES A m tk vl ps sh 2 d own i c0 k0 0 g g' := fun ht e1 e2 => ⟨e1, g, e2, fP_rf, 0, i, ⟨1, by rw [uP2, if_neg ht]⟩, fun _ => ⟨by omega, c0, k0, hS, by omega, by omega, by omega⟩, fun h => absurd rfl h⟩
  have go : ∀ {n' : Nat} {r1' : Option g_V} {h1' : g_H} {ρ' : Nat → Int}, n' < N → (tk i = 42 ∨ tk i = 43) → CE yX3_readOne cX3_readOne [(0, (A 0 : Int)), (1, (d : Int)), (2, if own = true then 1 else 0)] (L, F_X3_advance (A 0 : Int) g) r1' h1' → ρ' 0 = (A 0 : Int) → ρ' 1 = (d : Int) → ρ' 2 = (if own = true then 1 else 0) → ρ' 3 = (q : Int) → g_run RX3 ax CE cX3_readProduct n' (56, ρ', g_push r1' [], h1') r h → r = none ∧ ∃ g', h = (L, g') ∧ RES A m tk vl ps sh 2 d own i c0 k0 0 g g' := by
    intro n' r1' h1' ρ' l1 ht hw r0 r1 r2 rq h1
    have him : i < m := by
      have h1 := hS.2.2.2.1
      by_cases hx : i = m
      · rw [hx, hE] at ht; omega
      · omega
    obtain ⟨fa, hS1⟩ := adv_ST hA hm hP hS him
    have hP1 := PI_mo hA hP fa
    obtain ⟨e1, g2, e2, f2, c, j, hu, hy, hn⟩ := ((hC _ _ _ _ _ _ hw).2 L _ 0 d own rfl hP1 ⟨rfl, rfl, rfl⟩ hd).2 (i + 1) c0 k0 hS1 (by omega) (by omega) (fun h => absurd h (by decide))
    subst e1
    subst e2
    have hP2 := PI_mo hA hP1 f2
    obtain ⟨n2, l2, h2⟩ := pt_X3_readProduct_56 (fun _ _ _ _ _ _ h => (hC _ _ _ _ _ _ h).1) h1
    simp only [r0, rq, Int.toNat_natCast, hP2.1.2.1, eq.e] at h2
    have hw2 := fun x => wr_any hA hP2 x 0
    by_cases h0 : c = 0
    · subst h0
      obtain ⟨hij, c1, k1, hS2, b1, b2, b3⟩ := hy rfl
      have hjm := hS2.2.2.2.1
      obtain ⟨e3, g3, e4, f3, c', j', hu', hy', hn'⟩ := ih n2 (by omega) (q := q + 1) (i := j) (c0 := c1 + 1) (k0 := k1) (PI_mo hA hP2 (hw2 _).1.1) (wr_ST hA hP2 hS2 (by omega) _ _) (by omega) (by omega) (by omega) (by simp [va_up, r0]) (by simp [va_up, r1]) (by simp [va_up, r2]) (by simp [va_up]) h2
      refine ⟨e3, g3, e4, fP_tr fa (fP_tr f2 (fP_tr (hw2 _).1.1 f3)), c', j', ?_, fun h => ?_, hn'⟩
      · obtain ⟨f, ef⟩ := UP_seq hu (fun _ => hu') (fun h => absurd rfl h)
        exact ⟨f + 1, by rw [uP2, if_pos ht]; exact ef⟩
      · obtain ⟨hij', c2, k2, hS3, b4, b5, b6⟩ := hy' h
        exact ⟨by omega, c2, k2, hS3, by omega, by omega, by omega⟩
    · have hF := FA_kep (hn h0) (hw2 (ρ' 4)).1
      obtain ⟨e3, e4⟩ := lpk_readProduct hC (by rw [hF.1]; exact h0) (by simp [va_up, r0]) h2
      refine ⟨e3, _, e4, fP_tr fa (fP_tr f2 (hw2 _).1.1), c, j, ?_, fun h => absurd h h0, fun _ => hF⟩
      obtain ⟨f, ef⟩ := UP_seq (t2 := 2) (d2 := d) (o2 := own) (q := (c, j)) hu (fun h => absurd h h0) (fun _ => rfl)
      exact ⟨f + 1, by rw [uP2, if_pos ht]; exact ef⟩
  rcases hx with ⟨c1, e1, e2⟩ | ⟨c1, ⟨c2, (⟨c3, n1, r1', h1', l1, hw, h1⟩ | ⟨c3, (⟨c4, n1, r1', h1', l1, hw, h1⟩ | ⟨c4, e1, e2⟩)⟩)⟩ | ⟨c2, -⟩⟩
  · refine stop (fun ht => ?_) e1 e2
    have him := hS.2.2.2.1
    have hx : i = m := by omega
    rw [hx, hE] at ht
    omega
  · exact go l1 (Or.inl c3) hw (by simp [va_up, r0]) (by simp [va_up, r1]) (by simp [va_up, r2]) (by simp [va_up, rq]) h1
  · exact go l1 (Or.inr c4) hw (by simp [va_up, r0]) (by simp [va_up, r1]) (by simp [va_up, r2]) (by simp [va_up, rq]) h1
  · exact stop (fun ht => ht.elim c3 c4) e1 e2
  · exact absurd hS.1 c2
theorem md_readProduct (hA : HD A) (hm : m ≤ 300) (hE : tk m = 54) (hd : d ≤ 8) (hC : ∀ y cc as h r h', CE y cc as h r h' → g_ex ax y cc as h r h' ∧ PSp A m lw tk vl ps sh y cc as h r h') {N : Nat} {ρ : Nat → Int} {g : Nat → Nat → Int} (hP : PI A m lw tk vl ps g) (r0 : ρ 0 = (A 0 : Int)) (r1 : ρ 1 = (d : Int)) (r2 : ρ 2 = (if own = true then 1 else 0)) (hr : g_run RX3 ax CE cX3_readProduct N (0, ρ, [], L, g) r h) : (g (A 0) 0 ≠ 0 → r = none ∧ ∃ g', h = (L, g') ∧ KEP A g g') ∧ ∀ i c0 k0, ST A m tk g i c0 k0 → c0 ≤ i → k0 ≤ i → r = none ∧ ∃ g', h = (L, g') ∧ RES A m tk vl ps sh 1 d own i c0 k0 1 g g' := by
  obtain ⟨n1, r1', h1', l1, hw, h1⟩ := pt_X3_readProduct_0 (fun _ _ _ _ _ _ h => (hC _ _ _ _ _ _ h).1) hr
  rw [r0, r1, r2] at hw
  have hcal := (hC _ _ _ _ _ _ hw).2 L g 0 d own rfl hP ⟨rfl, rfl, rfl⟩ hd
  refine ⟨fun hf => ?_, fun i c0 k0 hS hc hk => ?_⟩
  · obtain ⟨e1, g2, e2, k⟩ := hcal.1 hf
    subst e1
    subst e2
    obtain ⟨n2, l2, h2⟩ := pt_X3_readProduct_6 (fun _ _ _ _ _ _ h => (hC _ _ _ _ _ _ h).1) h1
    obtain ⟨e3, e4⟩ := lpk_readProduct hC (by rw [k.2.1]; exact hf) (by simp [va_up, r0]) h2
    exact ⟨e3, g2, e4, k⟩
  · obtain ⟨e1, g2, e2, f2, c, j, hu, hy, hn⟩ := hcal.2 i c0 k0 hS hc hk (fun h => absurd h (by decide))
    subst e1
    subst e2
    have hP2 := PI_mo hA hP f2
    obtain ⟨n2, l2, h2⟩ := pt_X3_readProduct_6 (fun _ _ _ _ _ _ h => (hC _ _ _ _ _ _ h).1) h1
    by_cases h0 : c = 0
    · subst h0
      obtain ⟨hij, c1, k1, hS2, b1, b2, b3⟩ := hy rfl
      obtain ⟨e3, g3, e4, f3, c', j', hu', hy', hn'⟩ := lp_readProduct (own := own) hA hm hE hd hC n2 (q := 0) hP2 hS2 (by omega) (by omega) (Nat.zero_le _) (by simp [va_up, r0]) (by simp [va_up, r1]) (by simp [va_up, r2]) (by simp [va_up]) h2
      refine ⟨e3, g3, e4, fP_tr f2 f3, c', j', ?_, fun h => ?_, hn'⟩
      · obtain ⟨f, ef⟩ := UP_seq hu (fun _ => hu') (fun h => absurd rfl h)
        exact ⟨f + 1, by rw [uP1]; exact ef⟩
      · obtain ⟨hij', c2, k2, hS3, b4, b5, b6⟩ := hy' h
        exact ⟨by omega, c2, k2, hS3, by omega, by omega, by omega⟩
    · have hF := hn h0
      obtain ⟨e3, e4⟩ := lpk_readProduct hC (by rw [hF.1]; exact h0) (by simp [va_up, r0]) h2
      refine ⟨e3, _, e4, f2, c, j, ?_, fun h => absurd h h0, fun _ => hF⟩
      obtain ⟨f, ef⟩ := UP_seq (t2 := 2) (d2 := d) (o2 := own) (q := (c, j)) hu (fun h => absurd h h0) (fun _ => rfl)
      exact ⟨f + 1, by rw [uP1]; exact ef⟩
theorem lpk_readSum (hC : ∀ y cc as h r h', CE y cc as h r h' → g_ex ax y cc as h r h' ∧ PSp A m lw tk vl ps sh y cc as h r h') {N : Nat} {ρ : Nat → Int} {g : Nat → Nat → Int} (hf : g (A 0) 0 ≠ 0) (r0 : ρ 0 = (A 0 : Int)) (hr : g_run RX3 ax CE cX3_readSum N (8, ρ, [], L, g) r h) : r = none ∧ h = (L, g) := by
  have hx := pt_X3_readSum_8 (fun _ _ _ _ _ _ h => (hC _ _ _ _ _ _ h).1) hr
  simp only [r0, Int.toNat_natCast] at hx
  rcases hx with ⟨-, e⟩ | ⟨-, ⟨c2, -⟩ | ⟨-, e⟩⟩
  · exact e
  · exact absurd c2 hf
  · exact e
theorem lp_readSum (hA : HD A) (hm : m ≤ 300) (hE : tk m = 54) (hd : d ≤ 8) (hC : ∀ y cc as h r h', CE y cc as h r h' → g_ex ax y cc as h r h' ∧ PSp A m lw tk vl ps sh y cc as h r h') : ∀ (N : Nat) {ρ : Nat → Int} {g : Nat → Nat → Int} {i c0 k0 q : Nat}, PI A m lw tk vl ps g → ST A m tk g i c0 k0 → c0 ≤ i → k0 ≤ i → q ≤ i → ρ 0 = (A 0 : Int) → ρ 1 = (d : Int) → ρ 2 = (if own = true then 1 else 0) → ρ 3 = (q : Int) → g_run RX3 ax CE cX3_readSum N (8, ρ, [], L, g) r h → r = none ∧ ∃ g', h = (L, g') ∧ RES A m tk vl ps sh 4 d own i c0 k0 0 g g' := by
  intro N
  induction N using Nat.strongRecOn with
  | _ N ih =>
  intro ρ g i c0 k0 q hP hS hc hk hq r0 r1 r2 rq hr
  have hx := pt_X3_readSum_8 (fun _ _ _ _ _ _ h => (hC _ _ _ _ _ _ h).1) hr
  have eq : g_i ((q : Int) + 1) = ((q + 1 : Nat) : Int) := (gi_of (by have := hS.2.2.2.1; omega) (by have := hS.2.2.2.1; omega)).trans (by omega)
  replace eq : EqG (g_i ((q : Int) + 1)) (((q + 1 : Nat) : Int)) := eq
  simp only [r0, r1, r2, rq, Int.toNat_natCast, hS.2.2.1] at hx
  have stop : ¬ (tk i = 40 ∨ tk i = 41) → r = none → h = (L, g) → r = none ∧ ∃ g', h = (L, g') ∧ RES A m tk vl ps sh 4 d own i c0 k0 0 g g' := fun ht e1 e2 => ⟨e1, g, e2, fP_rf, 0, i, ⟨1, by rw [uP4, if_neg ht]⟩, fun _ => ⟨by omega, c0, k0, hS, by omega, by omega, by omega⟩, fun h => absurd rfl h⟩
  have go : ∀ {n' : Nat} {r1' : Option g_V} {h1' : g_H} {ρ' : Nat → Int}, n' < N → (tk i = 40 ∨ tk i = 41) → CE yX3_readProduct cX3_readProduct [(0, (A 0 : Int)), (1, (d : Int)), (2, if own = true then 1 else 0)] (L, F_X3_advance (A 0 : Int) g) r1' h1' → ρ' 0 = (A 0 : Int) → ρ' 1 = (d : Int) → ρ' 2 = (if own = true then 1 else 0) → ρ' 3 = (q : Int) → g_run RX3 ax CE cX3_readSum n' (56, ρ', g_push r1' [], h1') r h → r = none ∧ ∃ g', h = (L, g') ∧ RES A m tk vl ps sh 4 d own i c0 k0 0 g g' := by
    intro n' r1' h1' ρ' l1 ht hw r0 r1 r2 rq h1
    have him : i < m := by
      have h1 := hS.2.2.2.1
      by_cases hx : i = m
      · rw [hx, hE] at ht; omega
      · omega
    obtain ⟨fa, hS1⟩ := adv_ST hA hm hP hS him
    have hP1 := PI_mo hA hP fa
    obtain ⟨e1, g2, e2, f2, c, j, hu, hy, hn⟩ := ((hC _ _ _ _ _ _ hw).2 L _ 1 d own rfl hP1 ⟨rfl, rfl, rfl⟩ hd).2 (i + 1) c0 k0 hS1 (by omega) (by omega) (fun h => absurd h (by decide))
    subst e1
    subst e2
    have hP2 := PI_mo hA hP1 f2
    obtain ⟨n2, l2, h2⟩ := pt_X3_readSum_56 (fun _ _ _ _ _ _ h => (hC _ _ _ _ _ _ h).1) h1
    simp only [r0, rq, Int.toNat_natCast, hP2.1.2.1, eq.e] at h2
    have hw2 := fun x => wr_any hA hP2 x 0
    by_cases h0 : c = 0
    · subst h0
      obtain ⟨hij, c1, k1, hS2, b1, b2, b3⟩ := hy rfl
      have hjm := hS2.2.2.2.1
      obtain ⟨e3, g3, e4, f3, c', j', hu', hy', hn'⟩ := ih n2 (by omega) (q := q + 1) (i := j) (c0 := c1 + 1) (k0 := k1) (PI_mo hA hP2 (hw2 _).1.1) (wr_ST hA hP2 hS2 (by omega) _ _) (by omega) (by omega) (by omega) (by simp [va_up, r0]) (by simp [va_up, r1]) (by simp [va_up, r2]) (by simp [va_up]) h2
      refine ⟨e3, g3, e4, fP_tr fa (fP_tr f2 (fP_tr (hw2 _).1.1 f3)), c', j', ?_, fun h => ?_, hn'⟩
      · obtain ⟨f, ef⟩ := UP_seq hu (fun _ => hu') (fun h => absurd rfl h)
        exact ⟨f + 1, by rw [uP4, if_pos ht]; exact ef⟩
      · obtain ⟨hij', c2, k2, hS3, b4, b5, b6⟩ := hy' h
        exact ⟨by omega, c2, k2, hS3, by omega, by omega, by omega⟩
    · have hF := FA_kep (hn h0) (hw2 (ρ' 4)).1
      obtain ⟨e3, e4⟩ := lpk_readSum hC (by rw [hF.1]; exact h0) (by simp [va_up, r0]) h2
      refine ⟨e3, _, e4, fP_tr fa (fP_tr f2 (hw2 _).1.1), c, j, ?_, fun h => absurd h h0, fun _ => hF⟩
      obtain ⟨f, ef⟩ := UP_seq (t2 := 4) (d2 := d) (o2 := own) (q := (c, j)) hu (fun h => absurd h h0) (fun _ => rfl)
      exact ⟨f + 1, by rw [uP4, if_pos ht]; exact ef⟩
  rcases hx with ⟨c1, e1, e2⟩ | ⟨c1, ⟨c2, (⟨c3, n1, r1', h1', l1, hw, h1⟩ | ⟨c3, (⟨c4, n1, r1', h1', l1, hw, h1⟩ | ⟨c4, e1, e2⟩)⟩)⟩ | ⟨c2, -⟩⟩
  · refine stop (fun ht => ?_) e1 e2
    have him := hS.2.2.2.1
    have hx : i = m := by omega
    rw [hx, hE] at ht
    omega
  · exact go l1 (Or.inl c3) hw (by simp [va_up, r0]) (by simp [va_up, r1]) (by simp [va_up, r2]) (by simp [va_up, rq]) h1
  · exact go l1 (Or.inr c4) hw (by simp [va_up, r0]) (by simp [va_up, r1]) (by simp [va_up, r2]) (by simp [va_up, rq]) h1
  · exact stop (fun ht => ht.elim c3 c4) e1 e2
  · exact absurd hS.1 c2
theorem md_readSum (hA : HD A) (hm : m ≤ 300) (hE : tk m = 54) (hd : d ≤ 8) (hC : ∀ y cc as h r h', CE y cc as h r h' → g_ex ax y cc as h r h' ∧ PSp A m lw tk vl ps sh y cc as h r h') {N : Nat} {ρ : Nat → Int} {g : Nat → Nat → Int} (hP : PI A m lw tk vl ps g) (r0 : ρ 0 = (A 0 : Int)) (r1 : ρ 1 = (d : Int)) (r2 : ρ 2 = (if own = true then 1 else 0)) (hr : g_run RX3 ax CE cX3_readSum N (0, ρ, [], L, g) r h) : (g (A 0) 0 ≠ 0 → r = none ∧ ∃ g', h = (L, g') ∧ KEP A g g') ∧ ∀ i c0 k0, ST A m tk g i c0 k0 → c0 ≤ i → k0 ≤ i → r = none ∧ ∃ g', h = (L, g') ∧ RES A m tk vl ps sh 3 d own i c0 k0 1 g g' := by
  obtain ⟨n1, r1', h1', l1, hw, h1⟩ := pt_X3_readSum_0 (fun _ _ _ _ _ _ h => (hC _ _ _ _ _ _ h).1) hr
  rw [r0, r1, r2] at hw
  have hcal := (hC _ _ _ _ _ _ hw).2 L g 1 d own rfl hP ⟨rfl, rfl, rfl⟩ hd
  refine ⟨fun hf => ?_, fun i c0 k0 hS hc hk => ?_⟩
  · obtain ⟨e1, g2, e2, k⟩ := hcal.1 hf
    subst e1
    subst e2
    obtain ⟨n2, l2, h2⟩ := pt_X3_readSum_6 (fun _ _ _ _ _ _ h => (hC _ _ _ _ _ _ h).1) h1
    obtain ⟨e3, e4⟩ := lpk_readSum hC (by rw [k.2.1]; exact hf) (by simp [va_up, r0]) h2
    exact ⟨e3, g2, e4, k⟩
  · obtain ⟨e1, g2, e2, f2, c, j, hu, hy, hn⟩ := hcal.2 i c0 k0 hS hc hk (fun h => absurd h (by decide))
    subst e1
    subst e2
    have hP2 := PI_mo hA hP f2
    obtain ⟨n2, l2, h2⟩ := pt_X3_readSum_6 (fun _ _ _ _ _ _ h => (hC _ _ _ _ _ _ h).1) h1
    by_cases h0 : c = 0
    · subst h0
      obtain ⟨hij, c1, k1, hS2, b1, b2, b3⟩ := hy rfl
      obtain ⟨e3, g3, e4, f3, c', j', hu', hy', hn'⟩ := lp_readSum (own := own) hA hm hE hd hC n2 (q := 0) hP2 hS2 (by omega) (by omega) (Nat.zero_le _) (by simp [va_up, r0]) (by simp [va_up, r1]) (by simp [va_up, r2]) (by simp [va_up]) h2
      refine ⟨e3, g3, e4, fP_tr f2 f3, c', j', ?_, fun h => ?_, hn'⟩
      · obtain ⟨f, ef⟩ := UP_seq hu (fun _ => hu') (fun h => absurd rfl h)
        exact ⟨f + 1, by rw [uP3]; exact ef⟩
      · obtain ⟨hij', c2, k2, hS3, b4, b5, b6⟩ := hy' h
        exact ⟨by omega, c2, k2, hS3, by omega, by omega, by omega⟩
    · have hF := hn h0
      obtain ⟨e3, e4⟩ := lpk_readSum hC (by rw [hF.1]; exact h0) (by simp [va_up, r0]) h2
      refine ⟨e3, _, e4, f2, c, j, ?_, fun h => absurd h h0, fun _ => hF⟩
      obtain ⟨f, ef⟩ := UP_seq (t2 := 4) (d2 := d) (o2 := own) (q := (c, j)) hu (fun h => absurd h h0) (fun _ => rfl)
      exact ⟨f + 1, by rw [uP3]; exact ef⟩
theorem lpk_readBoth (hC : ∀ y cc as h r h', CE y cc as h r h' → g_ex ax y cc as h r h' ∧ PSp A m lw tk vl ps sh y cc as h r h') {N : Nat} {ρ : Nat → Int} {g : Nat → Nat → Int} (hf : g (A 0) 0 ≠ 0) (r0 : ρ 0 = (A 0 : Int)) (hr : g_run RX3 ax CE cX3_readBoth N (7, ρ, [], L, g) r h) : r = none ∧ h = (L, g) := by
  have hx := pt_X3_readBoth_7 (fun _ _ _ _ _ _ h => (hC _ _ _ _ _ _ h).1) hr
  simp only [r0, Int.toNat_natCast] at hx
  rcases hx with ⟨-, e⟩ | ⟨-, ⟨c2, -⟩ | ⟨-, e⟩⟩
  · exact e
  · exact absurd c2 hf
  · exact e
theorem lp_readBoth (hA : HD A) (hm : m ≤ 300) (hE : tk m = 54) (hd : d ≤ 8) (hC : ∀ y cc as h r h', CE y cc as h r h' → g_ex ax y cc as h r h' ∧ PSp A m lw tk vl ps sh y cc as h r h') : ∀ (N : Nat) {ρ : Nat → Int} {g : Nat → Nat → Int} {i c0 k0 q : Nat}, PI A m lw tk vl ps g → ST A m tk g i c0 k0 → c0 ≤ i → k0 ≤ i → q ≤ i → ρ 0 = (A 0 : Int) → ρ 1 = (d : Int) → ρ 2 = (q : Int) → g_run RX3 ax CE cX3_readBoth N (7, ρ, [], L, g) r h → r = none ∧ ∃ g', h = (L, g') ∧ RES A m tk vl ps sh 7 d true i c0 k0 0 g g' := by
  intro N
  induction N using Nat.strongRecOn with
  | _ N ih =>
  intro ρ g i c0 k0 q hP hS hc hk hq r0 r1 rq hr
  have hx := pt_X3_readBoth_7 (fun _ _ _ _ _ _ h => (hC _ _ _ _ _ _ h).1) hr
  have eq : g_i ((q : Int) + 1) = ((q + 1 : Nat) : Int) := (gi_of (by have := hS.2.2.2.1; omega) (by have := hS.2.2.2.1; omega)).trans (by omega)
  replace eq : EqG (g_i ((q : Int) + 1)) (((q + 1 : Nat) : Int)) := eq
  simp only [r0, r1, rq, Int.toNat_natCast, hS.2.2.1] at hx
  have stop : ¬ (tk i = 24) → r = none → h = (L, g) → r = none ∧ ∃ g', h = (L, g') ∧ RES A m tk vl ps sh 7 d true i c0 k0 0 g g' := fun ht e1 e2 => ⟨e1, g, e2, fP_rf, 0, i, ⟨1, by rw [uP7, if_neg ht]⟩, fun _ => ⟨by omega, c0, k0, hS, by omega, by omega, by omega⟩, fun h => absurd rfl h⟩
  have go : ∀ {n' : Nat} {r1' : Option g_V} {h1' : g_H} {ρ' : Nat → Int}, n' < N → (tk i = 24) → CE yX3_readAsk cX3_readAsk [(0, (A 0 : Int)), (1, (d : Int))] (L, F_X3_advance (A 0 : Int) g) r1' h1' → ρ' 0 = (A 0 : Int) → ρ' 1 = (d : Int) → ρ' 2 = (q : Int) → g_run RX3 ax CE cX3_readBoth n' (39, ρ', g_push r1' [], h1') r h → r = none ∧ ∃ g', h = (L, g') ∧ RES A m tk vl ps sh 7 d true i c0 k0 0 g g' := by
    intro n' r1' h1' ρ' l1 ht hw r0 r1 rq h1
    have him : i < m := by
      have h1 := hS.2.2.2.1
      by_cases hx : i = m
      · rw [hx, hE] at ht; omega
      · omega
    obtain ⟨fa, hS1⟩ := adv_ST hA hm hP hS him
    have hP1 := PI_mo hA hP fa
    obtain ⟨e1, g2, e2, f2, c, j, hu, hy, hn⟩ := ((hC _ _ _ _ _ _ hw).2 L _ 5 d true rfl hP1 ⟨rfl, rfl, rfl⟩ hd).2 (i + 1) c0 k0 hS1 (by omega) (by omega) (fun h => absurd h (by decide))
    subst e1
    subst e2
    have hP2 := PI_mo hA hP1 f2
    obtain ⟨n2, l2, h2⟩ := pt_X3_readBoth_39 (fun _ _ _ _ _ _ h => (hC _ _ _ _ _ _ h).1) h1
    simp only [r0, rq, Int.toNat_natCast, hP2.1.2.1, eq.e] at h2
    have hw2 := fun x => wr_any hA hP2 x 0
    by_cases h0 : c = 0
    · subst h0
      obtain ⟨hij, c1, k1, hS2, b1, b2, b3⟩ := hy rfl
      have hjm := hS2.2.2.2.1
      obtain ⟨e3, g3, e4, f3, c', j', hu', hy', hn'⟩ := ih n2 (by omega) (q := q + 1) (i := j) (c0 := c1 + 1) (k0 := k1) (PI_mo hA hP2 (hw2 _).1.1) (wr_ST hA hP2 hS2 (by omega) _ _) (by omega) (by omega) (by omega) (by simp [va_up, r0]) (by simp [va_up, r1]) (by simp [va_up]) h2
      refine ⟨e3, g3, e4, fP_tr fa (fP_tr f2 (fP_tr (hw2 _).1.1 f3)), c', j', ?_, fun h => ?_, hn'⟩
      · obtain ⟨f, ef⟩ := UP_seq hu (fun _ => hu') (fun h => absurd rfl h)
        exact ⟨f + 1, by rw [uP7, if_pos ht]; exact ef⟩
      · obtain ⟨hij', c2, k2, hS3, b4, b5, b6⟩ := hy' h
        exact ⟨by omega, c2, k2, hS3, by omega, by omega, by omega⟩
    · have hF := FA_kep (hn h0) (hw2 (24)).1
      obtain ⟨e3, e4⟩ := lpk_readBoth hC (by rw [hF.1]; exact h0) (by simp [va_up, r0]) h2
      refine ⟨e3, _, e4, fP_tr fa (fP_tr f2 (hw2 _).1.1), c, j, ?_, fun h => absurd h h0, fun _ => hF⟩
      obtain ⟨f, ef⟩ := UP_seq (t2 := 7) (d2 := d) (o2 := true) (q := (c, j)) hu (fun h => absurd h h0) (fun _ => rfl)
      exact ⟨f + 1, by rw [uP7, if_pos ht]; exact ef⟩
  rcases hx with ⟨c1, e1, e2⟩ | ⟨c1, ⟨c2, (⟨c3, n1, r1', h1', l1, hw, h1⟩ | ⟨c3, e1, e2⟩)⟩ | ⟨c2, -⟩⟩
  · refine stop (fun ht => ?_) e1 e2
    have him := hS.2.2.2.1
    have hx : i = m := by omega
    rw [hx, hE] at ht
    omega
  · exact go l1 c3 hw r0 r1 rq h1
  · exact stop c3 e1 e2
  · exact absurd hS.1 c2
theorem md_readBoth (hA : HD A) (hm : m ≤ 300) (hE : tk m = 54) (hd : d ≤ 8) (hC : ∀ y cc as h r h', CE y cc as h r h' → g_ex ax y cc as h r h' ∧ PSp A m lw tk vl ps sh y cc as h r h') {N : Nat} {ρ : Nat → Int} {g : Nat → Nat → Int} (hP : PI A m lw tk vl ps g) (r0 : ρ 0 = (A 0 : Int)) (r1 : ρ 1 = (d : Int)) (hr : g_run RX3 ax CE cX3_readBoth N (0, ρ, [], L, g) r h) : (g (A 0) 0 ≠ 0 → r = none ∧ ∃ g', h = (L, g') ∧ KEP A g g') ∧ ∀ i c0 k0, ST A m tk g i c0 k0 → c0 ≤ i → k0 ≤ i → r = none ∧ ∃ g', h = (L, g') ∧ RES A m tk vl ps sh 6 d own i c0 k0 1 g g' := by
  obtain ⟨n1, r1', h1', l1, hw, h1⟩ := pt_X3_readBoth_0 (fun _ _ _ _ _ _ h => (hC _ _ _ _ _ _ h).1) hr
  rw [r0, r1] at hw
  have hcal := (hC _ _ _ _ _ _ hw).2 L g 5 d true rfl hP ⟨rfl, rfl, rfl⟩ hd
  refine ⟨fun hf => ?_, fun i c0 k0 hS hc hk => ?_⟩
  · obtain ⟨e1, g2, e2, k⟩ := hcal.1 hf
    subst e1
    subst e2
    obtain ⟨n2, l2, h2⟩ := pt_X3_readBoth_5 (fun _ _ _ _ _ _ h => (hC _ _ _ _ _ _ h).1) h1
    obtain ⟨e3, e4⟩ := lpk_readBoth hC (by rw [k.2.1]; exact hf) (by simp [va_up, r0]) h2
    exact ⟨e3, g2, e4, k⟩
  · obtain ⟨e1, g2, e2, f2, c, j, hu, hy, hn⟩ := hcal.2 i c0 k0 hS hc hk (fun h => absurd h (by decide))
    subst e1
    subst e2
    have hP2 := PI_mo hA hP f2
    obtain ⟨n2, l2, h2⟩ := pt_X3_readBoth_5 (fun _ _ _ _ _ _ h => (hC _ _ _ _ _ _ h).1) h1
    by_cases h0 : c = 0
    · subst h0
      obtain ⟨hij, c1, k1, hS2, b1, b2, b3⟩ := hy rfl
      obtain ⟨e3, g3, e4, f3, c', j', hu', hy', hn'⟩ := lp_readBoth hA hm hE hd hC n2 (q := 0) hP2 hS2 (by omega) (by omega) (Nat.zero_le _) (by simp [va_up, r0]) (by simp [va_up, r1]) (by simp [va_up]) h2
      refine ⟨e3, g3, e4, fP_tr f2 f3, c', j', ?_, fun h => ?_, hn'⟩
      · obtain ⟨f, ef⟩ := UP_seq hu (fun _ => hu') (fun h => absurd rfl h)
        exact ⟨f + 1, by rw [uP6]; exact ef⟩
      · obtain ⟨hij', c2, k2, hS3, b4, b5, b6⟩ := hy' h
        exact ⟨by omega, c2, k2, hS3, by omega, by omega, by omega⟩
    · have hF := hn h0
      obtain ⟨e3, e4⟩ := lpk_readBoth hC (by rw [hF.1]; exact h0) (by simp [va_up, r0]) h2
      refine ⟨e3, _, e4, f2, c, j, ?_, fun h => absurd h h0, fun _ => hF⟩
      obtain ⟨f, ef⟩ := UP_seq (t2 := 7) (d2 := d) (o2 := true) (q := (c, j)) hu (fun h => absurd h h0) (fun _ => rfl)
      exact ⟨f + 1, by rw [uP6]; exact ef⟩
theorem lpk_readEither (hC : ∀ y cc as h r h', CE y cc as h r h' → g_ex ax y cc as h r h' ∧ PSp A m lw tk vl ps sh y cc as h r h') {N : Nat} {ρ : Nat → Int} {g : Nat → Nat → Int} (hf : g (A 0) 0 ≠ 0) (r0 : ρ 0 = (A 0 : Int)) (hr : g_run RX3 ax CE cX3_readEither N (7, ρ, [], L, g) r h) : r = none ∧ h = (L, g) := by
  have hx := pt_X3_readEither_7 (fun _ _ _ _ _ _ h => (hC _ _ _ _ _ _ h).1) hr
  simp only [r0, Int.toNat_natCast] at hx
  rcases hx with ⟨-, e⟩ | ⟨-, ⟨c2, -⟩ | ⟨-, e⟩⟩
  · exact e
  · exact absurd c2 hf
  · exact e
theorem lp_readEither (hA : HD A) (hm : m ≤ 300) (hE : tk m = 54) (hd : d ≤ 8) (hC : ∀ y cc as h r h', CE y cc as h r h' → g_ex ax y cc as h r h' ∧ PSp A m lw tk vl ps sh y cc as h r h') : ∀ (N : Nat) {ρ : Nat → Int} {g : Nat → Nat → Int} {i c0 k0 q : Nat}, PI A m lw tk vl ps g → ST A m tk g i c0 k0 → c0 ≤ i → k0 ≤ i → q ≤ i → ρ 0 = (A 0 : Int) → ρ 1 = (d : Int) → ρ 2 = (q : Int) → g_run RX3 ax CE cX3_readEither N (7, ρ, [], L, g) r h → r = none ∧ ∃ g', h = (L, g') ∧ RES A m tk vl ps sh 9 d true i c0 k0 0 g g' := by
  intro N
  induction N using Nat.strongRecOn with
  | _ N ih =>
  intro ρ g i c0 k0 q hP hS hc hk hq r0 r1 rq hr
  have hx := pt_X3_readEither_7 (fun _ _ _ _ _ _ h => (hC _ _ _ _ _ _ h).1) hr
  have eq : g_i ((q : Int) + 1) = ((q + 1 : Nat) : Int) := (gi_of (by have := hS.2.2.2.1; omega) (by have := hS.2.2.2.1; omega)).trans (by omega)
  replace eq : EqG (g_i ((q : Int) + 1)) (((q + 1 : Nat) : Int)) := eq
  simp only [r0, r1, rq, Int.toNat_natCast, hS.2.2.1] at hx
  have stop : ¬ (tk i = 23) → r = none → h = (L, g) → r = none ∧ ∃ g', h = (L, g') ∧ RES A m tk vl ps sh 9 d true i c0 k0 0 g g' := fun ht e1 e2 => ⟨e1, g, e2, fP_rf, 0, i, ⟨1, by rw [uP9, if_neg ht]⟩, fun _ => ⟨by omega, c0, k0, hS, by omega, by omega, by omega⟩, fun h => absurd rfl h⟩
  have go : ∀ {n' : Nat} {r1' : Option g_V} {h1' : g_H} {ρ' : Nat → Int}, n' < N → (tk i = 23) → CE yX3_readBoth cX3_readBoth [(0, (A 0 : Int)), (1, (d : Int))] (L, F_X3_advance (A 0 : Int) g) r1' h1' → ρ' 0 = (A 0 : Int) → ρ' 1 = (d : Int) → ρ' 2 = (q : Int) → g_run RX3 ax CE cX3_readEither n' (39, ρ', g_push r1' [], h1') r h → r = none ∧ ∃ g', h = (L, g') ∧ RES A m tk vl ps sh 9 d true i c0 k0 0 g g' := by
    intro n' r1' h1' ρ' l1 ht hw r0 r1 rq h1
    have him : i < m := by
      have h1 := hS.2.2.2.1
      by_cases hx : i = m
      · rw [hx, hE] at ht; omega
      · omega
    obtain ⟨fa, hS1⟩ := adv_ST hA hm hP hS him
    have hP1 := PI_mo hA hP fa
    obtain ⟨e1, g2, e2, f2, c, j, hu, hy, hn⟩ := ((hC _ _ _ _ _ _ hw).2 L _ 6 d true rfl hP1 ⟨rfl, rfl, rfl⟩ hd).2 (i + 1) c0 k0 hS1 (by omega) (by omega) (fun h => absurd h (by decide))
    subst e1
    subst e2
    have hP2 := PI_mo hA hP1 f2
    obtain ⟨n2, l2, h2⟩ := pt_X3_readEither_39 (fun _ _ _ _ _ _ h => (hC _ _ _ _ _ _ h).1) h1
    simp only [r0, rq, Int.toNat_natCast, hP2.1.2.1, eq.e] at h2
    have hw2 := fun x => wr_any hA hP2 x 0
    by_cases h0 : c = 0
    · subst h0
      obtain ⟨hij, c1, k1, hS2, b1, b2, b3⟩ := hy rfl
      have hjm := hS2.2.2.2.1
      obtain ⟨e3, g3, e4, f3, c', j', hu', hy', hn'⟩ := ih n2 (by omega) (q := q + 1) (i := j) (c0 := c1 + 1) (k0 := k1) (PI_mo hA hP2 (hw2 _).1.1) (wr_ST hA hP2 hS2 (by omega) _ _) (by omega) (by omega) (by omega) (by simp [va_up, r0]) (by simp [va_up, r1]) (by simp [va_up]) h2
      refine ⟨e3, g3, e4, fP_tr fa (fP_tr f2 (fP_tr (hw2 _).1.1 f3)), c', j', ?_, fun h => ?_, hn'⟩
      · obtain ⟨f, ef⟩ := UP_seq hu (fun _ => hu') (fun h => absurd rfl h)
        exact ⟨f + 1, by rw [uP9, if_pos ht]; exact ef⟩
      · obtain ⟨hij', c2, k2, hS3, b4, b5, b6⟩ := hy' h
        exact ⟨by omega, c2, k2, hS3, by omega, by omega, by omega⟩
    · have hF := FA_kep (hn h0) (hw2 (23)).1
      obtain ⟨e3, e4⟩ := lpk_readEither hC (by rw [hF.1]; exact h0) (by simp [va_up, r0]) h2
      refine ⟨e3, _, e4, fP_tr fa (fP_tr f2 (hw2 _).1.1), c, j, ?_, fun h => absurd h h0, fun _ => hF⟩
      obtain ⟨f, ef⟩ := UP_seq (t2 := 9) (d2 := d) (o2 := true) (q := (c, j)) hu (fun h => absurd h h0) (fun _ => rfl)
      exact ⟨f + 1, by rw [uP9, if_pos ht]; exact ef⟩
  rcases hx with ⟨c1, e1, e2⟩ | ⟨c1, ⟨c2, (⟨c3, n1, r1', h1', l1, hw, h1⟩ | ⟨c3, e1, e2⟩)⟩ | ⟨c2, -⟩⟩
  · refine stop (fun ht => ?_) e1 e2
    have him := hS.2.2.2.1
    have hx : i = m := by omega
    rw [hx, hE] at ht
    omega
  · exact go l1 c3 hw r0 r1 rq h1
  · exact stop c3 e1 e2
  · exact absurd hS.1 c2
theorem md_readEither (hA : HD A) (hm : m ≤ 300) (hE : tk m = 54) (hd : d ≤ 8) (hC : ∀ y cc as h r h', CE y cc as h r h' → g_ex ax y cc as h r h' ∧ PSp A m lw tk vl ps sh y cc as h r h') {N : Nat} {ρ : Nat → Int} {g : Nat → Nat → Int} (hP : PI A m lw tk vl ps g) (r0 : ρ 0 = (A 0 : Int)) (r1 : ρ 1 = (d : Int)) (hr : g_run RX3 ax CE cX3_readEither N (0, ρ, [], L, g) r h) : (g (A 0) 0 ≠ 0 → r = none ∧ ∃ g', h = (L, g') ∧ KEP A g g') ∧ ∀ i c0 k0, ST A m tk g i c0 k0 → c0 ≤ i → k0 ≤ i → r = none ∧ ∃ g', h = (L, g') ∧ RES A m tk vl ps sh 8 d own i c0 k0 1 g g' := by
  obtain ⟨n1, r1', h1', l1, hw, h1⟩ := pt_X3_readEither_0 (fun _ _ _ _ _ _ h => (hC _ _ _ _ _ _ h).1) hr
  rw [r0, r1] at hw
  have hcal := (hC _ _ _ _ _ _ hw).2 L g 6 d true rfl hP ⟨rfl, rfl, rfl⟩ hd
  refine ⟨fun hf => ?_, fun i c0 k0 hS hc hk => ?_⟩
  · obtain ⟨e1, g2, e2, k⟩ := hcal.1 hf
    subst e1
    subst e2
    obtain ⟨n2, l2, h2⟩ := pt_X3_readEither_5 (fun _ _ _ _ _ _ h => (hC _ _ _ _ _ _ h).1) h1
    obtain ⟨e3, e4⟩ := lpk_readEither hC (by rw [k.2.1]; exact hf) (by simp [va_up, r0]) h2
    exact ⟨e3, g2, e4, k⟩
  · obtain ⟨e1, g2, e2, f2, c, j, hu, hy, hn⟩ := hcal.2 i c0 k0 hS hc hk (fun h => absurd h (by decide))
    subst e1
    subst e2
    have hP2 := PI_mo hA hP f2
    obtain ⟨n2, l2, h2⟩ := pt_X3_readEither_5 (fun _ _ _ _ _ _ h => (hC _ _ _ _ _ _ h).1) h1
    by_cases h0 : c = 0
    · subst h0
      obtain ⟨hij, c1, k1, hS2, b1, b2, b3⟩ := hy rfl
      obtain ⟨e3, g3, e4, f3, c', j', hu', hy', hn'⟩ := lp_readEither hA hm hE hd hC n2 (q := 0) hP2 hS2 (by omega) (by omega) (Nat.zero_le _) (by simp [va_up, r0]) (by simp [va_up, r1]) (by simp [va_up]) h2
      refine ⟨e3, g3, e4, fP_tr f2 f3, c', j', ?_, fun h => ?_, hn'⟩
      · obtain ⟨f, ef⟩ := UP_seq hu (fun _ => hu') (fun h => absurd rfl h)
        exact ⟨f + 1, by rw [uP8]; exact ef⟩
      · obtain ⟨hij', c2, k2, hS3, b4, b5, b6⟩ := hy' h
        exact ⟨by omega, c2, k2, hS3, by omega, by omega, by omega⟩
    · have hF := hn h0
      obtain ⟨e3, e4⟩ := lpk_readEither hC (by rw [hF.1]; exact h0) (by simp [va_up, r0]) h2
      refine ⟨e3, _, e4, f2, c, j, ?_, fun h => absurd h h0, fun _ => hF⟩
      obtain ⟨f, ef⟩ := UP_seq (t2 := 9) (d2 := d) (o2 := true) (q := (c, j)) hu (fun h => absurd h h0) (fun _ => rfl)
      exact ⟨f + 1, by rw [uP8]; exact ef⟩
end CQ
