/-! The tape and the TEXTS of both: text. -/
def D15 (ad : Nat → Nat) : Prop := ∀ i j, i < 15 → j < 15 → ad i = ad j → i = j
/-- where all lies: 0 the object, 1 its STATE, 2 its TEXTS, 3 its tape, 4 its reader, 5 to 7 rows of TOKENS, 8 bytes; 9 the reference, 10 its row, 11 its TEXTS, 12 its bytes, 13 its pile, 14 where sums begin -/
def TIp (ad : Nat → Nat) (g : Nat → Nat → Int) : Prop := (g (ad 0) 0 = (ad 1 : Int) ∧ g (ad 0) 2 = (ad 3 : Int) ∧ g (ad 0) 3 = (ad 4 : Int) ∧ g (ad 1) 4 = (ad 2 : Int) ∧ g (ad 4) 2 = (ad 3 : Int) ∧ g (ad 3) 2 = (ad 5 : Int) ∧ g (ad 3) 3 = (ad 6 : Int) ∧ g (ad 3) 4 = (ad 7 : Int) ∧ g (ad 3) 5 = (ad 8 : Int)) ∧ (g (ad 9) 0 = (ad 10 : Int) ∧ g (ad 9) 2 = (ad 11 : Int) ∧ g (ad 9) 3 = (ad 12 : Int) ∧ g (ad 9) 15 = (ad 13 : Int) ∧ g (ad 9) 16 = (ad 14 : Int))
/-- n bytes are told, b; so many TEXTS -/
def TIv (ad : Nat → Nat) (b : Nat → Int) (n cnt : Nat) (g : Nat → Nat → Int) : Prop := n ≤ 300 ∧ cnt ≤ 4 ∧ (g (ad 3) 0 = (n : Int) ∧ g (ad 9) 4 = (n : Int)) ∧ (∀ k, k < n → g (ad 8) k = b k ∧ g (ad 12) k = b k ∧ 0 ≤ b k ∧ b k ≤ 255) ∧ (g (ad 1) 5 = (cnt : Int) ∧ g (ad 10) 7 = (cnt : Int)) ∧ (g (ad 4) 0 = g (ad 9) 5 ∧ g (ad 4) 1 = g (ad 9) 6) ∧ ∀ k, k < cnt → 0 ≤ g (ad 2) k
theorem gi_a {k : Nat} (h : k ≤ 1000) : g_i ((k : Int) + 1) = ((k + 1 : Nat) : Int) := by
  rw [gi_of (by omega) (by omega)]
  omega
theorem gi_s {k : Nat} (h : k ≤ 1000) : g_i (((k + 1 : Nat) : Int) - 1) = (k : Int) := by
  rw [gi_of (by omega) (by omega)]
  omega
section TXT
variable {ax : zAx} {L : List Nat} {ad : Nat → Nat} {b : Nat → Int} {n cnt : Nat} {r1 : Option g_V} {k1 : g_H}
theorem text_x (hD : D15 ad) (hL : ∀ i, i < 15 → ad i ∈ L ∧ ad i ≠ ax.2.2) (hL0 : ax.1 0 ∉ L) (hL1 : ax.1 1 ∉ L) (hd : ax.1 0 ≠ ax.1 1) {g : Nat → Nat → Int} (hSh : ∀ j, j < 81 → g ax.2.2 j = shp.getD j 0) (hp : TIp ad g) (hv : TIv ad b n cnt g) (h1 : g_ex ax yX11_text cX11_text [(0, (ad 0 : Int))] (L, g) r1 k1) : ∃ L1 g1, k1 = (L1, g1) ∧ (∀ c, c ∈ L → c ∈ L1) ∧ ∀ r2 k2, g_ex ax yX12_text cX12_text [(0, (ad 9 : Int))] (L1, g1) r2 k2 → ∃ g2 n' cnt', k2 = (L1, g2) ∧ r1 = r2 ∧ TIp ad g2 ∧ TIv ad b n' cnt' g2 := by
  have ne : ∀ i j, i < 15 → j < 15 → i ≠ j → ad i ≠ ad j := fun i j hi hj hn e => hn (hD i j hi hj e)
  obtain ⟨⟨p00, p02, p03, p14, p42, p32, p33, p34, p35⟩, ⟨p90, p92, p93, p915, p916⟩⟩ := hp
  have hp : TIp ad g := ⟨⟨p00, p02, p03, p14, p42, p32, p33, p34, p35⟩, ⟨p90, p92, p93, p915, p916⟩⟩
  obtain ⟨v300, v4, ⟨vT, vM⟩, vb, ⟨vS, va⟩, ⟨vf, vp⟩, vt⟩ := hv
  have hv : TIv ad b n cnt g := ⟨v300, v4, ⟨vT, vM⟩, vb, ⟨vS, va⟩, ⟨vf, vp⟩, vt⟩
  obtain ⟨ρ, N, hρ, hr⟩ := g_run_of h1
  have h0 : ρ 0 = (ad 0 : Int) := hρ (0, _) (by simp)
  have hCE : ∀ y cc as h r h', g_ex ax y cc as h r h' → g_ex ax y cc as h r h' := fun _ _ _ _ _ _ h => h
  have hx := pt_X11_text_0 hCE hr
  rw [h0, Int.toNat_natCast, p00, Int.toNat_natCast, vS, p03] at hx
  have hRD : RD (ad 9) (ad 11) (ad 12) (ad 13) (ad 14) := ⟨ne 9 11 (by decide) (by decide) (by decide), ne 9 12 (by decide) (by decide) (by decide), ne 9 13 (by decide) (by decide) (by decide), ne 9 14 (by decide) (by decide) (by decide), ne 11 12 (by decide) (by decide) (by decide), ne 11 13 (by decide) (by decide) (by decide), ne 11 14 (by decide) (by decide) (by decide), ne 12 13 (by decide) (by decide) (by decide), ne 12 14 (by decide) (by decide) (by decide), ne 13 14 (by decide) (by decide) (by decide)⟩
  rcases hx with ⟨c4, n1, r', k', -, hx1, hr1⟩ | ⟨c4, e1, e2⟩
  rotate_left
  · -- four already
    refine ⟨L, g, e2, fun _ h => h, fun r2 k2 h2 => ?_⟩
    obtain ⟨ρ', N', hρ', hr'⟩ := g_run_of h2
    have h0' : ρ' 0 = (ad 9 : Int) := hρ' (0, _) (by simp)
    have hx := pt_X12_text_0 hCE hr'
    rw [h0', Int.toNat_natCast, p90, Int.toNat_natCast, va] at hx
    rcases hx with ⟨-, a1, a2⟩ | ⟨c, -⟩
    · exact ⟨g, n, cnt, a2, by rw [e1, a1], hp, hv⟩
    · omega
  have old : ∀ i, old5 (ad 4) (ad 3) (ad 5) (ad 6) (ad 7) i ∈ L ∧ old5 (ad 4) (ad 3) (ad 5) (ad 6) (ad 7) i ≠ ax.2.2 := fun i => old5_P (P := fun a => a ∈ L ∧ a ≠ ax.2.2) (hL 4 (by decide)) (hL 3 (by decide)) (hL 5 (by decide)) (hL 6 (by decide)) (hL 7 (by decide)) i
  obtain ⟨Q, q, L1, g1, ⟨m, hm, hE⟩, hU, e2, hLL, hq, hfr, t0, f0, f1, f2, hR2, e1⟩ := rtp_x (R := ad 4) (T := ad 3) (tr := ad 5) (nr := ad 6) (pr := ad 7) (br := ad 8) (b := b) (n := n) ⟨ne 4 3 (by decide) (by decide) (by decide), ne 4 5 (by decide) (by decide) (by decide), ne 4 6 (by decide) (by decide) (by decide), ne 4 7 (by decide) (by decide) (by decide), ne 3 5 (by decide) (by decide) (by decide), ne 3 6 (by decide) (by decide) (by decide), ne 3 7 (by decide) (by decide) (by decide), ne 5 6 (by decide) (by decide) (by decide), ne 5 7 (by decide) (by decide) (by decide), ne 6 7 (by decide) (by decide) (by decide)⟩ ⟨ne 8 4 (by decide) (by decide) (by decide), ne 8 3 (by decide) (by decide) (by decide), ne 8 5 (by decide) (by decide) (by decide), ne 8 6 (by decide) (by decide) (by decide), ne 8 7 (by decide) (by decide) (by decide)⟩ old (hL 8 (by decide)).1 hL0 hL1 hd (Ne.symm (hL 8 (by decide)).2) p42 ⟨vT, p32, p33, p34, p35, v300, fun k hk => ⟨(vb k hk).1, (vb k hk).2.2⟩⟩ hSh hx1
  subst e1
  subst e2
  have U1 : ∀ i, i < 15 → i ≠ 4 → i ≠ 5 → i ≠ 6 → i ≠ 7 → ∀ j, ¬ (i = 3 ∧ (j = 0 ∨ j = 1)) → g1 (ad i) j = g (ad i) j := fun i hi i4 i5 i6 i7 j hj => hfr _ (hL i hi).1 (ne i 4 hi (by decide) i4) (ne i 5 hi (by decide) i5) (ne i 6 hi (by decide) i6) (ne i 7 hi (by decide) i7) j (fun e => hj ⟨hD i 3 hi (by decide) e.1, e.2⟩)
  -- what the reference does then
  have ref : ∀ (gc : Nat → Nat → Int) (cnt' : Nat) (rr : Option g_V), (∀ i, i < 15 → i ≠ 2 → i ≠ 4 → i ≠ 5 → i ≠ 6 → i ≠ 7 → ∀ j, ¬ (i = 3 ∧ (j = 0 ∨ j = 1)) → ¬ (i = 1 ∧ j = 5) → gc (ad i) j = g (ad i) j) → (∀ j, gc (ad 4) j = g1 (ad 4) j) → gc (ad 3) 0 = 0 → gc (ad 1) 5 = (cnt' : Int) → cnt' = (if Q.1 = 0 then cnt + 1 else cnt) → (∀ k, k < cnt' → 0 ≤ gc (ad 2) k) → rr = some (1, if Q.1 = 0 then (cnt : Int) else -1) → ∀ r2 k2, g_ex ax yX12_text cX12_text [(0, (ad 9 : Int))] (L1, gc) r2 k2 → ∃ g2 n' cnt', k2 = (L1, g2) ∧ rr = r2 ∧ TIp ad g2 ∧ TIv ad b n' cnt' g2 := by
    intro gc cnt' rr U2 U4 T0 S5 hcnt Tx hrr r2 k2 h2
    obtain ⟨ρ', N', hρ', hr'⟩ := g_run_of h2
    have h0' : ρ' 0 = (ad 9 : Int) := hρ' (0, _) (by simp)
    have m9 : ∀ j, gc (ad 9) j = g (ad 9) j := fun j => U2 9 (by decide) (by decide) (by decide) (by decide) (by decide) (by decide) j (by omega) (by omega)
    have m10 : ∀ j, gc (ad 10) j = g (ad 10) j := fun j => U2 10 (by decide) (by decide) (by decide) (by decide) (by decide) (by decide) j (by omega) (by omega)
    have m12 : ∀ j, gc (ad 12) j = g (ad 12) j := fun j => U2 12 (by decide) (by decide) (by decide) (by decide) (by decide) (by decide) j (by omega) (by omega)
    have hx := pt_X12_text_0 hCE hr'
    rw [h0', Int.toNat_natCast, m9, p90, Int.toNat_natCast, m10, va] at hx
    rcases hx with ⟨c, -⟩ | ⟨-, n2, r3, k3, -, hx2, hr2⟩
    · omega
    have hB : RB b n (ad 9) (ad 12) gc := ⟨(m9 3).trans p93, (m9 4).trans vM, ne 12 9 (by decide) (by decide) (by decide), v300, fun k hk => ⟨(m12 k).trans (vb k hk).2.1, (vb k hk).2.2⟩⟩
    obtain ⟨gr, a1, a2, a3, a4⟩ := rdt_x hRD hm hE hU ((m9 2).trans p92) ((m9 15).trans p915) ((m9 16).trans p916) hB ((m9 0).trans p90) ((m10 7).trans va) v4 hx2
    subst a1
    subst a2
    have U3 : ∀ i, i < 15 → i ≠ 11 → i ≠ 13 → i ≠ 14 → ∀ j, ¬ (i = 9 ∧ 7 ≤ j ∧ j ≤ 21 ∧ j ≠ 15 ∧ j ≠ 16) → gr (ad i) j = gc (ad i) j := fun i hi i11 i13 i14 j hj => a3 _ j (by
      rintro (⟨e, e'⟩ | ⟨e, -⟩ | e | e)
      · exact hj ⟨hD i 9 hi (by decide) e, e'⟩
      · exact i11 (hD i 11 hi (by decide) e)
      · exact i13 (hD i 13 hi (by decide) e)
      · exact i14 (hD i 14 hi (by decide) e))
    have n109 : ad 10 ≠ ad 9 := ne 10 9 (by decide) (by decide) (by decide)
    have n910 : ad 9 ≠ ad 10 := Ne.symm n109
    have g90 : gr (ad 9) 0 = (ad 10 : Int) := (U3 9 (by decide) (by decide) (by decide) (by decide) 0 (by omega)).trans ((m9 0).trans p90)
    have g107 : gr (ad 10) 7 = (cnt : Int) := (U3 10 (by decide) (by decide) (by decide) (by decide) 7 (by omega)).trans ((m10 7).trans va)
    have c1000 : cnt ≤ 1000 := by omega
    have ec := gi_a c1000
    have ed := gi_s c1000
    have hx := pt_X12_text_18 hCE hr2
    simp only [h0', Int.toNat_natCast, g_up_s, g90, g107, ec, ed] at hx
    clear ec ed
    -- all but four cells is as it was
    have fin : ∀ (g2 : Nat → Nat → Int) (a7 : Nat), (∀ i, i < 15 → i ≠ 9 → i ≠ 10 → ∀ j, g2 (ad i) j = gr (ad i) j) → (∀ j, j ≠ 4 → j ≠ 5 → j ≠ 6 → g2 (ad 9) j = gr (ad 9) j) → g2 (ad 9) 4 = 0 → g2 (ad 9) 5 = Q.1 → g2 (ad 9) 6 = (if Q.1 = 0 then -1 else (x_ps b n Q.2 : Int)) → g2 (ad 10) 7 = (a7 : Int) → a7 = cnt' → TIp ad g2 ∧ TIv ad b 0 cnt' g2 := by
      intro g2 a7 w1 w2 w4 w5 w6 w7 hw7
      have z : ∀ i, i < 15 → i ≠ 2 → i ≠ 4 → i ≠ 5 → i ≠ 6 → i ≠ 7 → i ≠ 9 → i ≠ 10 → i ≠ 11 → i ≠ 13 → i ≠ 14 → ∀ j, ¬ (i = 3 ∧ (j = 0 ∨ j = 1)) → ¬ (i = 1 ∧ j = 5) → g2 (ad i) j = g (ad i) j := fun i hi b2 b4 b5 b6 b7 b9 b10 b11 b13 b14 j c1 c2 => by rw [w1 i hi b9 b10, U3 i hi b11 b13 b14 j (by omega), U2 i hi b2 b4 b5 b6 b7 j c1 c2]
      have z9 : ∀ j, j ≠ 4 → j ≠ 5 → j ≠ 6 → ¬ (7 ≤ j ∧ j ≤ 21 ∧ j ≠ 15 ∧ j ≠ 16) → g2 (ad 9) j = g (ad 9) j := fun j c4 c5 c6 c7 => by rw [w2 j c4 c5 c6, U3 9 (by decide) (by decide) (by decide) (by decide) j (by omega), m9]
      have z4 : ∀ j, g2 (ad 4) j = g1 (ad 4) j := fun j => by rw [w1 4 (by decide) (by decide) (by decide), U3 4 (by decide) (by decide) (by decide) (by decide) j (by omega), U4]
      refine ⟨⟨⟨?_, ?_, ?_, ?_, ?_, ?_, ?_, ?_, ?_⟩, ?_, ?_, ?_, ?_, ?_⟩, Nat.zero_le _, ?_, ⟨?_, w4⟩, fun k hk => absurd hk (Nat.not_lt_zero k), ⟨?_, by rw [w7, hw7]⟩, ⟨?_, ?_⟩, fun k hk => ?_⟩
      · rw [z 0 (by decide) (by decide) (by decide) (by decide) (by decide) (by decide) (by decide) (by decide) (by decide) (by decide) (by decide) 0 (by omega) (by omega), p00]
      · rw [z 0 (by decide) (by decide) (by decide) (by decide) (by decide) (by decide) (by decide) (by decide) (by decide) (by decide) (by decide) 2 (by omega) (by omega), p02]
      · rw [z 0 (by decide) (by decide) (by decide) (by decide) (by decide) (by decide) (by decide) (by decide) (by decide) (by decide) (by decide) 3 (by omega) (by omega), p03]
      · rw [z 1 (by decide) (by decide) (by decide) (by decide) (by decide) (by decide) (by decide) (by decide) (by decide) (by decide) (by decide) 4 (by omega) (by omega), p14]
      · rw [z4, hR2]
      · rw [z 3 (by decide) (by decide) (by decide) (by decide) (by decide) (by decide) (by decide) (by decide) (by decide) (by decide) (by decide) 2 (by omega) (by omega), p32]
      · rw [z 3 (by decide) (by decide) (by decide) (by decide) (by decide) (by decide) (by decide) (by decide) (by decide) (by decide) (by decide) 3 (by omega) (by omega), p33]
      · rw [z 3 (by decide) (by decide) (by decide) (by decide) (by decide) (by decide) (by decide) (by decide) (by decide) (by decide) (by decide) 4 (by omega) (by omega), p34]
      · rw [z 3 (by decide) (by decide) (by decide) (by decide) (by decide) (by decide) (by decide) (by decide) (by decide) (by decide) (by decide) 5 (by omega) (by omega), p35]
      · rw [z9 0 (by decide) (by decide) (by decide) (by omega), p90]
      · rw [z9 2 (by decide) (by decide) (by decide) (by omega), p92]
      · rw [z9 3 (by decide) (by decide) (by decide) (by omega), p93]
      · rw [z9 15 (by decide) (by decide) (by decide) (by omega), p915]
      · rw [z9 16 (by decide) (by decide) (by decide) (by omega), p916]
      · rw [hcnt]
        split <;> omega
      · rw [w1 3 (by decide) (by decide) (by decide), U3 3 (by decide) (by decide) (by decide) (by decide) 0 (by omega), T0]
        rfl
      · rw [w1 1 (by decide) (by decide) (by decide), U3 1 (by decide) (by decide) (by decide) (by decide) 5 (by omega), S5]
      · rw [z4, f0, w5]
      · rw [z4, w6]
        by_cases hq0 : Q.1 = 0
        · rw [f2 hq0, if_pos hq0]
        · rw [f1 hq0, if_neg hq0]
      · rw [w1 2 (by decide) (by decide) (by decide), U3 2 (by decide) (by decide) (by decide) (by decide) k (by omega)]
        exact Tx k hk
    rcases hx with ⟨c, b1, b2⟩ | ⟨c, b1, b2⟩
    · refine ⟨_, 0, cnt', b2, by rw [hrr, b1, if_pos c], ?_⟩
      refine fin _ (cnt + 1) (fun i hi i9 i10 j => ?_) (fun j c4 c5 c6 => ?_) ?_ ?_ ?_ ?_ (by rw [hcnt, if_pos c])
      · rw [g_up_a (ne i 10 hi (by decide) i10), g_up_a (ne i 9 hi (by decide) i9), g_up_a (ne i 9 hi (by decide) i9), g_up_a (ne i 9 hi (by decide) i9)]
      · rw [g_up_a n910, g_up_j c4, g_up_j c6, g_up_j c5]
      · rw [g_up_a n910, g_up_s]
      · rw [g_up_a n910, g_up_j (by decide), g_up_j (by decide), g_up_s]
      · rw [g_up_a n910, g_up_j (by decide), g_up_s, if_pos c]
      · rw [g_up_s]
    · refine ⟨_, 0, cnt', b2, by rw [hrr, b1, if_neg c], ?_⟩
      refine fin _ cnt (fun i hi i9 i10 j => ?_) (fun j c4 c5 c6 => ?_) ?_ ?_ ?_ ?_ (by rw [hcnt, if_neg c])
      · rw [g_up_a (ne i 9 hi (by decide) i9), g_up_a (ne i 9 hi (by decide) i9), g_up_a (ne i 9 hi (by decide) i9)]
      · rw [g_up_j c4, g_up_j c6, g_up_j c5]
      · rw [g_up_s]
      · rw [g_up_j (by decide), g_up_j (by decide), g_up_s]
      · rw [g_up_j (by decide), g_up_s, if_neg c, a4]
      · rw [g_up_a n109, g_up_a n109, g_up_a n109, g107]
  have hx := pt_X11_text_20 hCE hr1
  by_cases hq0 : Q.1 = 0
  · rw [if_pos hq0] at hx
    rcases hx with ⟨c, -⟩ | ⟨-, b1, b2⟩
    · omega
    have s5 : g1 (ad 1) 5 = (cnt : Int) := (U1 1 (by decide) (by decide) (by decide) (by decide) (by decide) 5 (by omega)).trans vS
    have s4 : g1 (ad 1) 4 = (ad 2 : Int) := (U1 1 (by decide) (by decide) (by decide) (by decide) (by decide) 4 (by omega)).trans p14
    have o0 : g1 (ad 0) 0 = (ad 1 : Int) := (U1 0 (by decide) (by decide) (by decide) (by decide) (by decide) 0 (by omega)).trans p00
    have n12 : ad 1 ≠ ad 2 := ne 1 2 (by decide) (by decide) (by decide)
    have ec : g_i ((cnt : Int) + 1) = ((cnt + 1 : Nat) : Int) := by
      rw [gi_of (by omega) (by omega)]
      omega
    unfold F_X4_addText at b1 b2
    simp only [h0, Int.toNat_natCast, o0, s4, s5, g_up_a (b := ad 1) (a := ad 2) n12, ec] at b1 b2
    clear ec
    refine ⟨L1, _, b2, hLL, ref _ (cnt + 1) _ (fun i hi i2 i4 i5 i6 i7 j c1 c2 => ?_) (fun j => ?_) ?_ ?_ (by rw [if_pos hq0]) (fun k hk => ?_) (by rw [b1, if_pos hq0])⟩
    · by_cases i1 : i = 1
      · subst i1
        rw [g_up_j (fun e => c2 ⟨rfl, e⟩), g_up_a n12, U1 1 (by decide) (by decide) (by decide) (by decide) (by decide) j (by omega)]
      · rw [g_up_a (ne i 1 hi (by decide) i1), g_up_a (ne i 2 hi (by decide) i2), U1 i hi i4 i5 i6 i7 j c1]
    · rw [g_up_a (ne 4 1 (by decide) (by decide) (by decide)), g_up_a (ne 4 2 (by decide) (by decide) (by decide))]
    · rw [g_up_a (ne 3 1 (by decide) (by decide) (by decide)), g_up_a (ne 3 2 (by decide) (by decide) (by decide)), t0]
    · rw [g_up_s]
    · rw [g_up_a (Ne.symm n12)]
      by_cases hkc : k = cnt
      · subst hkc
        rw [g_up_s]
        omega
      · rw [g_up_j hkc, U1 2 (by decide) (by decide) (by decide) (by decide) (by decide) k (by omega)]
        exact vt k (by omega)
  · rw [if_neg hq0] at hx
    rcases hx with ⟨-, b1, b2⟩ | ⟨c, -⟩
    rotate_left
    · exact absurd rfl c
    refine ⟨L1, g1, b2, hLL, ref g1 cnt _ (fun i hi i2 i4 i5 i6 i7 j c1 c2 => U1 i hi i4 i5 i6 i7 j c1) (fun j => rfl) t0 ((U1 1 (by decide) (by decide) (by decide) (by decide) (by decide) 5 (by omega)).trans vS) (by rw [if_neg hq0]) (fun k hk => ?_) (by rw [b1, if_neg hq0])⟩
    rw [U1 2 (by decide) (by decide) (by decide) (by decide) (by decide) k (by omega)]
    exact vt k hk
end TXT
