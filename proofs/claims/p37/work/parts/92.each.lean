/-! The next one of a sum; its end. -/
theorem reg211 (i : Nat) : reg 211 i = 0 := rfl
theorem hc_takeNext {X0 : zC0} (H : ∀ j, j < 309 → CMj X0 j) {K : Nat → Nat} {B : Int} {L : List Nat} {f : Nat → va_E} (hh : hok X0.2.2.1 K B L f) {m wi d : Nat} (hm : m ∈ L ∧ K m = 200) (hwi : wi ∈ L ∧ K wi = 211) (hd : gi (f m) 31 = d) (hd8 : d ≤ 8) : HC X0 M_takeNext 4 0 [(200, 30), (207, 0), (211, 0)] [.ref m] K B L f (fun _ _ _ f' r => ∃ c : Int, r = some (.int (Int32.ofInt c)) ∧ 0 ≤ c ∧ c ≤ 1 ∧ (c = 1 → gi (f wi) d + 1 ≤ gi (f' wi) d) ∧ ∀ j, j ≠ d → gi (f' wi) j = gi (f wi) j) := by
  refine eM.mk ⟨_, rfl⟩ pnX12 (Nat.le_of_ble_eq_true rfl) (fun E hE _ hret => ?_)
  obtain ⟨l0, D0, cy0, ax0⟩ := X0
  refine s_tn0 H hE hh (v0 := (d : Int)) (by omega) hm (fun y hy hky => by rw [sol hh ⟨hy, hky⟩ hm (by decide), hd]) (fun K1 B1 L1 f1 v1 r1 h1 e1 _ b1 hm1 hr1 c1 _ => ?_)
  obtain rfl := sol h1 hr1 (exin e1 hwi) (by decide)
  have g1 : ∀ y, y ∈ L → gi (f1 y) = gi (f y) := fun y hy => ext0 e1 hy
  have q1 : gi (f r1) d = v1 := by
    have := (c1 r1 hr1.1 hr1.2).2
    rw [Int.toNat_natCast, g1 r1 hwi.1] at this
    exact this
  have hC : CM (l0, D0, cy0, ax0) (mt 145) c306 := H 306 (by decide) 145 c306 rfl
  have hg : gok K1 B1 L1 f1 c306.1.2.2.1 (fun i => [v1].getD i 0) (fun i => [m].getD i 0) := by
    refine ⟨(eok_of (fun i q hq => ?_) (fun i hi => ?_)), fa0, fa0, ?_, fa0, fa0, fa0⟩
    · match i, hq with
      | 0, hq => cases hq; exact b1
      | i + 1, hq => cases hq
    · match i, hi with
      | 0, hi => exact absurd hi (by decide)
      | i + 1, _ => rfl
    · intro i k hk
      match i, hk with
      | 0, hk => cases hk; exact hm1
      | i + 1, hk => cases hk
  have hM := hC K1 B1 L1 f1 _ _ h1 hg
  have hav : (c306.1.2.1.map (cv (fun i => [v1].getD i 0) (fun i => [m].getD i 0))) = [.ref m, .int (Int32.ofInt v1)] := by
    show [Value.ref m, Value.int (Int32.ofInt (xv (fun i => [v1].getD i 0) (0, [(1, 0)])))] = _
    have : xv (fun i => [v1].getD i 0) (0, [(1, 0)]) = v1 := by simp [xv, xvT]
    rw [this]
  rw [hav] at hM
  refine w_callV (d := 2) (t := 0) hE hM lX12_ok le_328 mt_nextThere h1 hm1.1 hm1.2 (by decide) (by decide) (by decide) rfl rfl (Nat.le_of_ble_eq_true rfl) (by decide +kernel) (fun r L2 f2 ht hp => ?_)
  obtain ⟨C, hC2, K2, B2, νc, μc, p1, p2, p3, p4, p5, p6⟩ := hp
  dsimp only at p1 p2 p3
  have e0 : νc 0 = v1 := p4 0 (by decide)
  have hres : ∃ c : Int, r = some (.int (Int32.ofInt c)) ∧ (c = -1 ∨ (v1 + 1 ≤ c ∧ c ≤ 7)) ∧ -1 ≤ c := by
    have hcs : C = c306.2.2.1.getD 0 c306.1 ∨ C = c306.2.2.1.getD 1 c306.1 := by
      rcases List.mem_cons.mp hC2 with h | h
      · exact Or.inl h
      · rcases List.mem_cons.mp h with h | h
        · exact Or.inr h
        · cases h
    obtain ⟨x, hx⟩ : ∃ x, r = some (.int x) := ht
    subst hx
    rcases hcs with rfl | rfl
    · refine ⟨-1, ?_, Or.inl rfl, by decide⟩
      have h6 : [Value.int (Int32.ofInt (xv νc ((-1), [])))] = [Value.int x] := p6
      have : xv νc ((-1), []) = -1 := by simp [xv, xvT]
      rw [this] at h6
      rw [(List.cons.inj h6).1]
    · have hb := p3.1 1
      have hb' : (0 : Int) ≤ νc 1 ∧ νc 1 ≤ 7 := hb
      have hq := p3.2.1 ((-1), [(1, 1), ((-1), 0)]) (by decide)
      have hq' : 0 ≤ νc 1 - νc 0 - 1 := by
        have : xv νc ((-1), [(1, 1), ((-1), 0)]) = νc 1 - νc 0 - 1 := by simp [xv, xvT]; omega
        rw [← this]
        exact hq
      refine ⟨νc 1, ?_, Or.inr ⟨by omega, hb'.2⟩, by omega⟩
      have h6 : [Value.int (Int32.ofInt (xv νc (0, [(1, 1)])))] = [Value.int x] := p6
      have : xv νc (0, [(1, 1)]) = νc 1 := by simp [xv, xvT]
      rw [this] at h6
      rw [(List.cons.inj h6).1]
  obtain ⟨c, rfl, hc, hcl⟩ := hres
  have hm2 := exin p2 hm1
  have hr2 := exin p2 hr1
  have p2' : extC [] K1 B1 L1 f1 K2 B2 L2 f2 := p2
  have g2 : ∀ y, y ∈ L1 → gi (f2 y) = gi (f1 y) := fun y hy => ext0 p2' hy
  refine w_ist hE p1 hr2.1 hr2.2 (by decide) (by decide) (by omega) (by show (d : Int) < 10; omega) (by omega) (show bok B2 (kbd 211 (d : Int).toNat) c from ⟨(by show (-1 : Int) ≤ c; omega), (by show c ≤ (7 : Int); omega), fun h => by cases h⟩) (by decide +kernel) (fun f3 a1 a2 a3 a4 a5 => ?_)
  have h3 := a4 (XP_oth p1 hr2.2 a1 (fun i hi => by cases hi))
  have gm3 : f3 m = f2 m := a1 m (fun e => by rw [e, hr2.2] at hm2; exact absurd hm2.2 (by decide))
  have gw3 : ∀ j, gi (f3 r1) j = if j = d then c else gi (f r1) j := fun j => by rw [a2, Int.toNat_natCast, g2 r1 hr1.1, g1 r1 hwi.1]
  have e03 : extC [(200, 30), (207, 0), (211, 0)] K B L f K2 B2 L2 f3 := extC_tr (extC_mono e1 (by decide)) (extC_tr (extC_mono p2' (by decide)) (extC_mono a5 (fun q hq => by rw [List.mem_singleton.mp hq, reg211]; decide)))
  refine s_tn22 H hE h3 (v0 := (d : Int)) (by omega) hm2 (fun y hy hky => by rw [sol h3 ⟨hy, hky⟩ hm2 (by decide), gm3, g2 m hm1.1, g1 m hm.1, hd]) (fun K4 B4 L4 f4 v4 h4 e4 _ _ hm4 _ _ => ?_) (fun K4 B4 L4 f4 v4 h4 e4 _ b4 hm4 _ c4 _ => ?_)
  · have gw4 : gi (f4 r1) = gi (f3 r1) := xa e4 hr2 reg211 (by decide)
    exact hret 0 0 L4 f4 35 _ _ (Nat.le_refl _) (Nat.le_refl _) (by decide +kernel) (fun ft hft => by cases hft; rfl) ⟨K4, B4, h4, extC_tr e03 (extC_mono e4 (by decide)), 0, rfl, by decide, by decide, fun h => (by cases h), fun j hj => by rw [gw4, gw3, if_neg hj]⟩
  · have gw4 : gi (f4 r1) = gi (f3 r1) := xa e4 hr2 reg211 (by decide)
    have hr4 := exin e4 hr2
    have q4 : c = v4 := by
      have := (c4 r1 hr4.1 hr4.2).2
      rw [Int.toNat_natCast, gw4, gw3, if_pos rfl] at this
      exact this
    exact hret 0 0 L4 f4 50 _ _ (Nat.le_refl _) (Nat.le_refl _) (by decide +kernel) (fun ft hft => by cases hft; rfl) ⟨K4, B4, h4, extC_tr e03 (extC_mono e4 (by decide)), 1, rfl, by decide, by decide, fun _ => (by rw [gw4, gw3, if_pos rfl]; omega), fun j hj => by rw [gw4, gw3, if_neg hj]⟩
theorem hc_endEach {X0 : zC0} (H : ∀ j, j < 309 → CMj X0 j) {K : Nat → Nat} {B : Int} {L : List Nat} {f : Nat → va_E} (hh : hok X0.2.2.1 K B L f) {m d : Nat} {n : Int} (hm : m ∈ L ∧ K m = 200) (hd : gi (f m) 31 = d) (hd8 : d ≤ 8) (hn : 0 ≤ n ∧ n ≤ 329) : HC X0 M_endEach 5 0 [(200, 30), (200, 31), (207, 0), (208, 0), (214, 0), (215, 0)] [.ref m, .int (Int32.ofInt n)] K B L f (fun _ _ _ f' r => r = some (.int (Int32.ofInt (1 + n))) ∧ gi (f' m) 31 = (d : Int) - 1) := by
  refine eM.mk ⟨_, rfl⟩ pnX12 (Nat.le_of_ble_eq_true rfl) (fun E hE _ hret => ?_)
  refine s_ee0 H hE hh (v0 := n) (v1 := (d : Int)) hn (by omega) hm (fun y hy hky => by rw [sol hh ⟨hy, hky⟩ hm (by decide), hd]) (fun K1 B1 L1 f1 v2 v3 v4 h1 e1 _ _ _ _ _ hm1 c1 _ _ _ _ _ => ?_)
  refine hret 0 0 L1 f1 82 _ _ (Nat.le_refl _) (Nat.le_refl _) (by decide +kernel) (fun ft hft => by cases hft; rfl) ⟨K1, B1, h1, e1, rfl, ?_⟩
  rw [c1 m hm1.1 hm1.2]
  omega
theorem wsc_jump {o v : Nat → Int} : ∀ (c i n t : Nat) (G : List (Nat × Nat × Nat × Nat)) (e j nb tb : Nat) (fr : List (Nat × Nat × Nat × Nat)), wsc o v c i n t (G ++ (e, j, nb, tb) :: fr) → ∃ c', i ≤ j ∧ j + 1 + c' = i + c ∧ wsc o v c' (j + 1) (nb + 1) tb fr := by
  intro c
  induction c with
  | zero =>
    intro i n t G e j nb tb fr h
    have : G ++ (e, j, nb, tb) :: fr = [] := h.2.2
    simp at this
  | succ c ih =>
    intro i n t G e j nb tb fr h
    have step : ∀ n t G, wsc o v c (i + 1) n t (G ++ (e, j, nb, tb) :: fr) → ∃ c', i ≤ j ∧ j + 1 + c' = i + (c + 1) ∧ wsc o v c' (j + 1) (nb + 1) tb fr := fun n t G hq => by
      obtain ⟨c', a, b, d⟩ := ih (i + 1) n t G e j nb tb fr hq
      exact ⟨c', by omega, by omega, d⟩
    unfold wsc at h
    rcases h with ⟨a, b⟩ | ⟨a, b, b', b''⟩ | ⟨a, b, b'⟩ | ⟨a, b, b', b''⟩ | ⟨a, b, b', b''⟩ | ⟨a, b, b'⟩ | ⟨a, b, b'⟩ | ⟨a, b, j', b1, b2, b3⟩ | ⟨e', n', t', fr', a, b, b1, b2⟩
    · exact step _ _ _ b
    · exact step _ _ _ b''
    · exact step _ _ _ b'
    · exact step _ _ _ b''
    · exact step _ _ _ b''
    · exact step _ _ _ b'
    · exact step _ _ _ b'
    · exact step _ _ ((i, j', n, t) :: G) b3
    · cases G with
      | nil =>
        have h1 : (e, j, nb, tb) :: fr = (e', i, n', t') :: fr' := a
        obtain ⟨h2, h3⟩ := List.cons.inj h1
        cases h2
        subst h3
        exact ⟨c, Nat.le_refl _, by omega, b2⟩
      | cons g G =>
        have h1 : g :: (G ++ (e, j, nb, tb) :: fr) = (e', i, n', t') :: fr' := a
        obtain ⟨h2, h3⟩ := List.cons.inj h1
        subst h3
        exact step _ _ G b2
