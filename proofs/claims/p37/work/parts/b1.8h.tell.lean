/-! The tape and the TEXTS of both: feed, end, fault, by. -/
def exT (i j : Nat) : Prop := (i = 1 ∧ j = 6) ∨ (i = 10 ∧ j = 8) ∨ (i = 3 ∧ j = 0) ∨ (i = 9 ∧ j = 4) ∨ i = 8 ∨ i = 12
theorem TI_fr {ad : Nat → Nat} {b b' : Nat → Int} {n n' cnt : Nat} {g g2 : Nat → Nat → Int} (hp : TIp ad g) (hv : TIv ad b n cnt g) (h : ∀ i, i < 15 → ∀ j, ¬ exT i j → g2 (ad i) j = g (ad i) j) (hn : n' ≤ 300) (hT : g2 (ad 3) 0 = (n' : Int)) (hM : g2 (ad 9) 4 = (n' : Int)) (hb : ∀ k, k < n' → g2 (ad 8) k = b' k ∧ g2 (ad 12) k = b' k ∧ 0 ≤ b' k ∧ b' k ≤ 255) : TIp ad g2 ∧ TIv ad b' n' cnt g2 := by
  obtain ⟨⟨p00, p02, p03, p14, p42, p32, p33, p34, p35⟩, ⟨p90, p92, p93, p915, p916⟩⟩ := hp
  obtain ⟨v300, v4, ⟨vT, vM⟩, vb, ⟨vS, va⟩, ⟨vf, vp⟩, vt⟩ := hv
  have z : ∀ i j, i < 15 → (i ≠ 8 ∧ i ≠ 12 ∧ ¬ (i = 1 ∧ j = 6) ∧ ¬ (i = 10 ∧ j = 8) ∧ ¬ (i = 3 ∧ j = 0) ∧ ¬ (i = 9 ∧ j = 4)) → g2 (ad i) j = g (ad i) j := fun i j hi hq => h i hi j (by
    rintro (e | e | e | e | e | e)
    · exact hq.2.2.1 e
    · exact hq.2.2.2.1 e
    · exact hq.2.2.2.2.1 e
    · exact hq.2.2.2.2.2 e
    · exact hq.1 e
    · exact hq.2.1 e)
  refine ⟨⟨⟨(z 0 0 (by decide) (by decide)).trans p00, (z 0 2 (by decide) (by decide)).trans p02, (z 0 3 (by decide) (by decide)).trans p03, (z 1 4 (by decide) (by decide)).trans p14, (z 4 2 (by decide) (by decide)).trans p42, (z 3 2 (by decide) (by decide)).trans p32, (z 3 3 (by decide) (by decide)).trans p33, (z 3 4 (by decide) (by decide)).trans p34, (z 3 5 (by decide) (by decide)).trans p35⟩, (z 9 0 (by decide) (by decide)).trans p90, (z 9 2 (by decide) (by decide)).trans p92, (z 9 3 (by decide) (by decide)).trans p93, (z 9 15 (by decide) (by decide)).trans p915, (z 9 16 (by decide) (by decide)).trans p916⟩, hn, v4, ⟨hT, hM⟩, hb, ⟨(z 1 5 (by decide) (by decide)).trans vS, (z 10 7 (by decide) (by decide)).trans va⟩, ⟨?_, ?_⟩, fun k hk => ?_⟩
  · rw [z 4 0 (by decide) (by decide), z 9 5 (by decide) (by decide), vf]
  · rw [z 4 1 (by decide) (by decide), z 9 6 (by decide) (by decide), vp]
  · rw [z 2 k (by decide) ⟨by decide, by decide, by omega, by omega, by omega, by omega⟩]
    exact vt k hk
section TE
variable {ax : zAx} {L : List Nat} {ad : Nat → Nat} {b : Nat → Int} {n cnt : Nat} {r1 r2 : Option g_V} {k1 k2 : g_H}
theorem feed_x (hD : D15 ad) {A : Nat → Int} {g : Nat → Nat → Int} (hp : TIp ad g) (hv : TIv ad b n cnt g) (h1 : g_ex ax yX11_feed cX11_feed [(0, (ad 0 : Int)), (1, A 0), (2, A 1), (3, A 2), (4, A 3), (5, A 4)] (L, g) r1 k1) : ∃ g1, k1 = (L, g1) ∧ ∀ r2 k2, g_ex ax yX12_feed cX12_feed [(0, (ad 9 : Int)), (1, A 0), (2, A 1), (3, A 2), (4, A 3), (5, A 4)] (L, g1) r2 k2 → ∃ g2 b' n', k2 = (L, g2) ∧ r1 = r2 ∧ TIp ad g2 ∧ TIv ad b' n' cnt g2 := by
  have ne : ∀ i j, i < 15 → j < 15 → i ≠ j → ad i ≠ ad j := fun i j hi hj hn e => hn (hD i j hi hj e)
  have v300 := hv.1
  have vT := hv.2.2.1.1
  have vM := hv.2.2.1.2
  have vb := hv.2.2.2.1
  have p02 := hp.1.2.1
  have p35 := hp.1.2.2.2.2.2.2.2.2
  have p93 := hp.2.2.2.1
  rcases fdc_x (T := ad 3) (br := ad 8) (ne 3 8 (by decide) (by decide) (by decide)) (ne 0 3 (by decide) (by decide) (by decide)) (ne 0 8 (by decide) (by decide) (by decide)) v300 p02 p35 vT h1 with ⟨c1, e1, g1, e2, z1⟩ | ⟨c1, e1, e2⟩
  · refine ⟨g1, e2, fun r2 k2 h2 => ?_⟩
    have u1 : ∀ i, i < 15 → ∀ j, ¬ (i = 3 ∧ j = 0) → i ≠ 8 → g1 (ad i) j = g (ad i) j := fun i hi j hj h8 => z1.2.2 _ j (fun e => hj ⟨hD i 3 hi (by decide) e.1, e.2⟩) (fun e => h8 (hD i 8 hi (by decide) e.1))
    rcases fdm_x (T := ad 9) (br := ad 12) (ne 9 12 (by decide) (by decide) (by decide)) v300 ((u1 9 (by decide) 3 (by decide) (by decide)).trans p93) ((u1 9 (by decide) 4 (by decide) (by decide)).trans vM) h2 with ⟨-, a1, g2, a2, z2⟩ | ⟨c2, -⟩
    · have u2 : ∀ i, i < 15 → ∀ j, ¬ (i = 9 ∧ j = 4) → i ≠ 12 → g2 (ad i) j = g1 (ad i) j := fun i hi j hj h8 => z2.2.2 _ j (fun e => hj ⟨hD i 9 hi (by decide) e.1, e.2⟩) (fun e => h8 (hD i 12 hi (by decide) e.1))
      refine ⟨g2, fun k => if k < n then b k else BB A (k - n), n + 20, a2, by rw [e1, a1], TI_fr hp hv (fun i hi j hj => ?_) c1 ?_ ?_ (fun k hk => ?_)⟩
      · rw [u2 i hi j (fun e => hj (Or.inr (Or.inr (Or.inr (Or.inl e))))) (fun e => hj (Or.inr (Or.inr (Or.inr (Or.inr (Or.inr e)))))), u1 i hi j (fun e => hj (Or.inr (Or.inr (Or.inl e)))) (fun e => hj (Or.inr (Or.inr (Or.inr (Or.inr (Or.inl e))))))]
      · rw [u2 3 (by decide) 0 (by decide) (by decide)]
        exact z1.1
      · exact z2.1
      · rw [u2 8 (by decide) k (fun e => absurd e.1 (by decide)) (by decide)]
        by_cases hkn : k < n
        · rw [if_pos hkn, z1.2.2 (ad 8) k (fun e => ne 8 3 (by decide) (by decide) (by decide) e.1) (fun e => by omega), z2.2.2 (ad 12) k (fun e => ne 12 9 (by decide) (by decide) (by decide) e.1) (fun e => by omega), u1 12 (by decide) k (fun e => absurd e.1 (by decide)) (by decide)]
          exact vb k hkn
        · rw [if_neg hkn]
          have t1 := z1.2.1 (k - n) (by omega)
          have t2 := z2.2.1 (k - n) (by omega)
          rw [show n + (k - n) = k by omega] at t1 t2
          exact ⟨t1, t2, byt_b _ _⟩
    · exact absurd c1 c2
  · refine ⟨g, e2, fun r2 k2 h2 => ?_⟩
    rcases fdm_x (T := ad 9) (br := ad 12) (ne 9 12 (by decide) (by decide) (by decide)) v300 p93 vM h2 with ⟨c2, -⟩ | ⟨-, a1, a2⟩
    · exact absurd c2 c1
    · exact ⟨g, b, n, a2, by rw [e1, a1], hp, hv⟩
theorem end_x (hD : D15 ad) {v : Int} {g : Nat → Nat → Int} (hp : TIp ad g) (hv : TIv ad b n cnt g) (h1 : g_ex ax yX11_end cX11_end [(0, (ad 0 : Int)), (1, v)] (L, g) r1 k1) : ∃ g1, k1 = (L, g1) ∧ ∀ r2 k2, g_ex ax yX12_end cX12_end [(0, (ad 9 : Int)), (1, v)] (L, g1) r2 k2 → ∃ g2 b' n', k2 = (L, g2) ∧ r1 = r2 ∧ TIp ad g2 ∧ TIv ad b' n' cnt g2 := by
  have ne : ∀ i j, i < 15 → j < 15 → i ≠ j → ad i ≠ ad j := fun i j hi hj hn e => hn (hD i j hi hj e)
  have v300 := hv.1
  have vT := hv.2.2.1.1
  have vM := hv.2.2.1.2
  have vb := hv.2.2.2.1
  have p02 := hp.1.2.1
  obtain ⟨e1, e2⟩ := f_X11_end h1
  unfold F_X11_end at e1 e2
  simp only [Int.toNat_natCast, p02, vT] at e1 e2
  by_cases c : 0 ≤ v ∧ v ≤ (n : Int)
  · rw [if_neg (by omega), if_pos c.2] at e1 e2
    obtain ⟨m, rfl⟩ := Int.eq_ofNat_of_zero_le c.1
    have hmn : m ≤ n := by omega
    refine ⟨_, e2, fun r2 k2 h2 => ?_⟩
    have n93 : ad 9 ≠ ad 3 := ne 9 3 (by decide) (by decide) (by decide)
    obtain ⟨a1, a2⟩ := f_X12_end h2
    unfold F_X12_end F_X12_isIn at a1 a2
    simp only [Int.toNat_natCast, g_up_a n93, vM] at a1 a2
    rw [if_neg (by omega)] at a1 a2
    refine ⟨g_up (g_up g (ad 3) 0 (m : Int)) (ad 9) 4 (m : Int), b, m, a2, by rw [e1, a1], TI_fr hp hv (fun i hi j hj => ?_) (by omega) ?_ ?_ (fun k hk => ?_)⟩
    · have q9 : ¬ (j = 4 ∧ ad i = ad 9) := fun e => hj (Or.inr (Or.inr (Or.inr (Or.inl ⟨hD i 9 hi (by decide) e.2, e.1⟩))))
      have q3 : ¬ (j = 0 ∧ ad i = ad 3) := fun e => hj (Or.inr (Or.inr (Or.inl ⟨hD i 3 hi (by decide) e.2, e.1⟩)))
      unfold g_up
      rw [if_neg q9, if_neg q3]
    · rw [g_up_a (Ne.symm n93), g_up_s]
    · rw [g_up_s]
    · rw [g_up_a (ne 8 9 (by decide) (by decide) (by decide)), g_up_a (ne 8 3 (by decide) (by decide) (by decide)), g_up_a (ne 12 9 (by decide) (by decide) (by decide)), g_up_a (ne 12 3 (by decide) (by decide) (by decide))]
      exact vb k (by omega)
  · have q : (if v < 0 then ((-1 : Int), g) else if v ≤ (n : Int) then (v, g_up g (ad 3) 0 v) else (-1, g)) = (-1, g) := by
      by_cases h1 : v < 0
      · rw [if_pos h1]
      · rw [if_neg h1, if_neg (by omega)]
    rw [q] at e1 e2
    refine ⟨g, e2, fun r2 k2 h2 => ?_⟩
    obtain ⟨a1, a2⟩ := f_X12_end h2
    unfold F_X12_end F_X12_isIn at a1 a2
    simp only [Int.toNat_natCast, vM] at a1 a2
    have q2 : (if (if v < 0 then (0 : Int) else if (n : Int) < v then 0 else 1) = 0 then ((-1 : Int), g) else (v, g_up g (ad 9) 4 v)) = (-1, g) := by
      by_cases h1 : v < 0
      · rw [if_pos h1, if_pos rfl]
      · rw [if_neg h1, if_pos (by omega)]
    rw [q2] at a1 a2
    exact ⟨g, b, n, a2, by rw [e1, a1], hp, hv⟩
theorem fault_x {v : Int} {g : Nat → Nat → Int} (hp : TIp ad g) (hv : TIv ad b n cnt g) (h1 : g_ex ax yX11_fault cX11_fault [(0, (ad 0 : Int)), (1, v)] (L, g) r1 k1) : k1 = (L, g) ∧ ∀ r2 k2, g_ex ax yX12_fault cX12_fault [(0, (ad 9 : Int)), (1, v)] (L, g) r2 k2 → k2 = (L, g) ∧ r1 = r2 := by
  have p03 := hp.1.2.2.1
  obtain ⟨vf, vp⟩ := hv.2.2.2.2.2.1
  obtain ⟨e1, e2⟩ := f_X11_fault h1
  refine ⟨e2, fun r2 k2 h2 => ?_⟩
  obtain ⟨a1, a2⟩ := f_X12_fault h2
  refine ⟨a2, ?_⟩
  unfold F_X11_fault at e1
  unfold F_X12_fault at a1
  rw [Int.toNat_natCast, p03, Int.toNat_natCast, vf, vp] at e1
  rw [Int.toNat_natCast] at a1
  rw [e1, a1]
theorem by_x (hD : D15 ad) {v : Int} {g : Nat → Nat → Int} (hp : TIp ad g) (hv : TIv ad b n cnt g) (h1 : g_ex ax yX11_by cX11_by [(0, (ad 0 : Int)), (1, v)] (L, g) r1 k1) : ∃ g1, k1 = (L, g1) ∧ ∀ r2 k2, g_ex ax yX12_by cX12_by [(0, (ad 9 : Int)), (1, v)] (L, g1) r2 k2 → ∃ g2, k2 = (L, g2) ∧ r1 = r2 ∧ TIp ad g2 ∧ TIv ad b n cnt g2 := by
  have ne : ∀ i j, i < 15 → j < 15 → i ≠ j → ad i ≠ ad j := fun i j hi hj hn e => hn (hD i j hi hj e)
  have v300 := hv.1
  have v4 := hv.2.1
  have vT := hv.2.2.1.1
  have vM := hv.2.2.1.2
  have vb := hv.2.2.2.1
  have vS := hv.2.2.2.2.1.1
  have va := hv.2.2.2.2.1.2
  have vt := hv.2.2.2.2.2.2
  have p00 := hp.1.1
  have p14 := hp.1.2.2.2.1
  have p90 := hp.2.1
  have n9_1 : ad 9 ≠ ad 1 := ne 9 1 (by decide) (by decide) (by decide)
  have n10_1 : ad 10 ≠ ad 1 := ne 10 1 (by decide) (by decide) (by decide)
  have ei : g_i ((cnt : Int) - 1) = (cnt : Int) - 1 := gi_of (by omega) (by omega)
  have same : ∀ (x y : Int), TIp ad (g_up (g_up g (ad 1) 6 x) (ad 10) 8 y) ∧ TIv ad b n cnt (g_up (g_up g (ad 1) 6 x) (ad 10) 8 y) := fun x y => by
    refine TI_fr hp hv (fun i hi j hj => ?_) v300 ?_ ?_ (fun k hk => ?_)
    · unfold g_up
      rw [if_neg (fun e => hj (Or.inr (Or.inl ⟨hD i 10 hi (by decide) e.2, e.1⟩))), if_neg (fun e => hj (Or.inl ⟨hD i 1 hi (by decide) e.2, e.1⟩))]
    · rw [g_up_a (ne 3 10 (by decide) (by decide) (by decide)), g_up_a (ne 3 1 (by decide) (by decide) (by decide)), vT]
    · rw [g_up_a (ne 9 10 (by decide) (by decide) (by decide)), g_up_a n9_1, vM]
    · rw [g_up_a (ne 8 10 (by decide) (by decide) (by decide)), g_up_a (ne 8 1 (by decide) (by decide) (by decide)), g_up_a (ne 12 10 (by decide) (by decide) (by decide)), g_up_a (ne 12 1 (by decide) (by decide) (by decide))]
      exact vb k hk
  obtain ⟨e1, e2⟩ := f_X11_by h1
  have hc : F_X11_by (ad 0 : Int) v g = if -1 ≤ v ∧ v ≤ (cnt : Int) - 1 then (1, g_up g (ad 1) 6 v) else (0, g) := by
    unfold F_X11_by F_X4_hasText
    simp only [Int.toNat_natCast, p00, p14, vS]
    by_cases h1 : v = -1
    · rw [if_pos h1, if_pos (by omega)]
    · rw [if_neg h1]
      by_cases h2 : v < 0
      · rw [if_pos h2, if_pos rfl, if_neg (by omega)]
      · rw [if_neg h2]
        by_cases h3 : (cnt : Int) ≤ v
        · rw [if_pos h3, if_pos rfl, if_neg (by omega)]
        · obtain ⟨m, rfl⟩ := Int.eq_ofNat_of_zero_le (show 0 ≤ v by omega)
          have := vt m (by omega)
          have g1 : ¬ g (ad 2) m = -1 := by omega
          rw [if_neg h3, Int.toNat_natCast, if_neg g1, if_neg (show ¬ (1 : Int) = 0 by decide), if_pos ⟨by omega, by omega⟩]
  rw [hc] at e1 e2
  have hm : ∀ G : Nat → Nat → Int, G (ad 9) 0 = (ad 10 : Int) → G (ad 10) 7 = (cnt : Int) → F_X12_by (ad 9 : Int) v G = if -1 ≤ v ∧ v ≤ (cnt : Int) - 1 then (1, g_up G (ad 10) 8 v) else (0, G) := fun G h9 h10 => by
    unfold F_X12_by F_X12_isIn
    simp only [Int.toNat_natCast, h9, h10, ei]
    clear ei
    by_cases h1 : v < -1
    · rw [if_pos h1, if_pos rfl, if_neg (by omega)]
    · rw [if_neg h1]
      by_cases h2 : (cnt : Int) - 1 < v
      · rw [if_pos h2, if_pos rfl, if_neg (by omega)]
      · rw [if_neg h2, if_neg (by decide), if_pos (by omega)]
  clear ei
  by_cases c : -1 ≤ v ∧ v ≤ (cnt : Int) - 1
  · rw [if_pos c] at e1 e2
    refine ⟨g_up g (ad 1) 6 v, e2, fun r2 k2 h2 => ?_⟩
    obtain ⟨a1, a2⟩ := f_X12_by h2
    rw [hm _ (by rw [g_up_a n9_1]; exact p90) (by rw [g_up_a n10_1]; exact va), if_pos c] at a1 a2
    exact ⟨_, a2, by rw [e1, a1], same v v⟩
  · rw [if_neg c] at e1 e2
    refine ⟨g, e2, fun r2 k2 h2 => ?_⟩
    obtain ⟨a1, a2⟩ := f_X12_by h2
    rw [hm g p90 va, if_neg c] at a1 a2
    exact ⟨g, a2, by rw [e1, a1], hp, hv⟩
end TE
