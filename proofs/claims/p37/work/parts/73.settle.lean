/-! rank, settle. -/
def PA (K : Nat → Nat) (L : List Nat) (m tx p b : Nat) : Prop := (m ∈ L ∧ K m = 200) ∧ (tx ∈ L ∧ K tx = 203) ∧ (p ∈ L ∧ K p = 205) ∧ (b ∈ L ∧ K b = 206)
theorem PA.ext {mods : List (Nat × Nat)} {K K' : Nat → Nat} {B B' : Int} {L L' : List Nat} {f f' : Nat → va_E} {m tx p b : Nat} (h : PA K L m tx p b) (e : extC mods K B L f K' B' L' f') : PA K' L' m tx p b := ⟨exin e h.1, exin e h.2.1, exin e h.2.2.1, exin e h.2.2.2⟩
/-- the parser's state: the pile l, n numbers and t truths laid down -/
def PSf (M g P bg : Nat → Int) (T i0 : Nat) (l : List Int) (n t : Nat) : Prop := M 12 = T ∧ (∃ s, s < 4 ∧ T = 705 * s) ∧ M 17 = l.length ∧ plist P l.length = l ∧ M 18 = opc l ∧ M 19 = inn l ∧ wf l ∧ opc l ≤ 8 ∧ (∃ w : Nat, M 13 = w ∧ i0 ≤ w ∧ (w : Int) + pnd l ≤ M 8 ∧ Gd g T i0 w n t l bg) ∧ (∀ k, k < inn l → (i0 : Int) ≤ bg k ∧ bg k < M 13) ∧ (∀ k k', k < k' → k' < inn l → bg k < bg k') ∧ ∀ k : Nat, k < 24 → (k : Int) < g T → 0 ≤ g (T + 1 + 4 * k) → g (T + 1 + 4 * k) ≤ 4 → g (T + 1 + 4 * k + 2) ≤ i0
def nn (l : List Int) (v : Bool) : Nat := nb l + (if v then 0 else 1)
def tt (l : List Int) (v : Bool) : Nat := tb l + (if v then 1 else 0)
theorem rk_bd {o : Int} : 0 ≤ rk o ∧ rk o ≤ 7 := by
  unfold rk
  repeat' split
  all_goals omega
theorem hc_rank {X0 : zC0} (H : ∀ j, j < 412 → CMj X0 j) {K : Nat → Nat} {B : Int} {L : List Nat} {f : Nat → va_E} (hh : hok X0.2.2.1 K B L f) {o : Int} (ho : goodO o) : HC X0 M_rank 1 0 [] [.int (Int32.ofInt o)] K B L f (fun _ _ _ _ r => r = some (.int (Int32.ofInt (rk o)))) := by
  refine eM.mk ⟨_, rfl⟩ pnX12 (Nat.le_of_ble_eq_true rfl) (fun E hE _ hret => ?_)
  have fin : ∀ (K1 : Nat → Nat) (B1 : Int) (L1 : List Nat) (f1 : Nat → va_E) (c : Int) (lv : List (Nat × Value)), hok X0.2.2.1 K1 B1 L1 f1 → extC [] K B L f K1 B1 L1 f1 → rk o = c → eW E 0 0 L1 f1 71 lv [.int (Int32.ofInt c)] := fun K1 B1 L1 f1 c lv h1 e1 hc => hret 0 0 L1 f1 71 lv _ (Nat.le_refl _) (Nat.le_refl _) (by decide +kernel) (fun ft hft => by cases hft; rfl) ⟨K1, B1, h1, e1, by rw [hc]⟩
  unfold goodO at ho
  by_cases c1 : 40 ≤ o
  · exact s_rka H hE hh ⟨c1, by omega⟩ (fun K1 B1 L1 f1 h1 e1 _ => fin K1 B1 L1 f1 0 _ h1 e1 (by unfold rk; rw [if_pos c1]))
  · by_cases c2 : o = 22
    · exact s_rkb H hE hh ⟨by omega, by omega⟩ (fun K1 B1 L1 f1 h1 e1 _ => fin K1 B1 L1 f1 1 _ h1 e1 (by unfold rk; rw [if_neg c1, if_pos c2]))
    · by_cases c3 : o = 21
      · exact s_rkc H hE hh ⟨by omega, by omega⟩ (fun K1 B1 L1 f1 h1 e1 _ => fin K1 B1 L1 f1 2 _ h1 e1 (by unfold rk; rw [if_neg c1, if_neg c2, if_pos c3]))
      · by_cases c4 : o = 20
        · exact s_rkd H hE hh ⟨by omega, by omega⟩ (fun K1 B1 L1 f1 h1 e1 _ => fin K1 B1 L1 f1 3 _ h1 e1 (by unfold rk; rw [if_neg c1, if_neg c2, if_neg c3, if_pos c4]))
        · by_cases c5 : 10 ≤ o
          · exact s_rke H hE hh ⟨by omega, by omega⟩ (fun K1 B1 L1 f1 h1 e1 _ => fin K1 B1 L1 f1 4 _ h1 e1 (by unfold rk; rw [if_neg c1, if_neg c2, if_neg c3, if_neg c4, if_pos c5]))
          · by_cases c6 : o = 2
            · exact s_rkf H hE hh ⟨by omega, by omega⟩ (fun K1 B1 L1 f1 h1 e1 _ => fin K1 B1 L1 f1 7 _ h1 e1 (by unfold rk; rw [if_neg c1, if_neg c2, if_neg c3, if_neg c4, if_neg c5, if_pos c6]))
            · by_cases c7 : 5 ≤ o
              · exact s_rkg H hE hh ⟨by omega, by omega⟩ (fun K1 B1 L1 f1 h1 e1 _ => fin K1 B1 L1 f1 6 _ h1 e1 (by unfold rk; rw [if_neg c1, if_neg c2, if_neg c3, if_neg c4, if_neg c5, if_neg c6, if_pos c7]))
              · exact s_rkh H hE hh ⟨by omega, by omega⟩ (fun K1 B1 L1 f1 h1 e1 _ => fin K1 B1 L1 f1 5 _ h1 e1 (by unfold rk; rw [if_neg c1, if_neg c2, if_neg c3, if_neg c4, if_neg c5, if_neg c6, if_neg c7]))
/-- what is settled can be worked out -/
theorem Gd_pop {g g2 : Nat → Int} {T i0 w : Nat} {l : List Int} {o : Int} {v : Bool} {bg : Nat → Int} (h : Gd g T i0 w (nn (o :: l) v) (tt (o :: l) v) (o :: l) bg) (hi0 : i0 ≤ w) (h40 : o < 40) (hv : (v = false ∧ (o = 2 ∨ (3 ≤ o ∧ o ≤ 6) ∨ (10 ≤ o ∧ o ≤ 15))) ∨ (v = true ∧ 20 ≤ o ∧ o ≤ 22)) (hb : ∀ k, k < inn l → bg k < w) (hO : ∀ i, i < w → oO g2 T i = oO g T i) (hV : ∀ i, i < w → vV g2 T i = vV g T i) (hw : oO g2 T w = o) : Gd g2 T i0 (w + 1) (nn l (v || decide (10 ≤ o ∧ o ≤ 15))) (tt l (v || decide (10 ≤ o ∧ o ≤ 15))) l bg := by
  have hin : inn (o :: l) = inn l := by simp only [inn]; rw [if_neg (by omega)]; rfl
  refine Gd_step h hi0 (fun en => by simp only [frs]; rw [if_neg (by omega)]) hin.symm (by rw [hin]; exact hb) hO hV (fun g' c fr h1 h2 hq => ?_)
  rw [hw] at h1
  unfold wsc
  rw [h1]
  rcases hv with ⟨rfl, hv⟩ | ⟨rfl, hv⟩
  · rcases hv with hv | hv | hv
    · have d : ¬ (10 ≤ o ∧ o ≤ 15) := by omega
      simp only [d, decide_false, Bool.or_false] at hq
      have e1 : nn (o :: l) false = nn l false := by simp only [nn, nb]; rw [if_neg (by omega)]; rfl
      have e2 : tt (o :: l) false = tt l false := by simp only [tt, tb]; rw [if_neg (by omega)]; rfl
      rw [e1, e2]
      exact Or.inr (Or.inr (Or.inl ⟨hv, by simp [nn], hq⟩))
    · have d : ¬ (10 ≤ o ∧ o ≤ 15) := by omega
      simp only [d, decide_false, Bool.or_false] at hq
      have e1 : nn (o :: l) false = nn l false + 1 := by simp only [nn, nb]; rw [if_pos (Or.inl hv)]; simp
      have e2 : tt (o :: l) false = tt l false := by simp only [tt, tb]; rw [if_neg (by omega)]; rfl
      rw [e1, e2]
      exact Or.inr (Or.inr (Or.inr (Or.inl ⟨hv.1, hv.2, by simp [nn], hq⟩)))
    · simp only [hv, and_self, decide_true, Bool.or_true] at hq
      have e1 : nn (o :: l) false = nn l true + 2 := by simp only [nn, nb]; rw [if_pos (Or.inr hv)]; simp
      have e2 : tt l true = tt (o :: l) false + 1 := by have d2 : ¬(o = 21 ∨ o = 22) := (by omega); simp [tt, tb, d2]
      rw [e1]
      rw [e2] at hq
      exact Or.inr (Or.inr (Or.inr (Or.inr (Or.inl ⟨hv.1, hv.2, by omega, hq⟩))))
  · have d : ¬ (10 ≤ o ∧ o ≤ 15) := by omega
    simp only [d, decide_false, Bool.or_false] at hq
    have e1 : nn (o :: l) true = nn l true := by simp only [nn, nb]; rw [if_neg (by omega)]; rfl
    rw [e1]
    by_cases h20 : o = 20
    · have e2 : tt (o :: l) true = tt l true := by simp only [tt, tb]; rw [if_neg (by omega)]; rfl
      rw [e2]
      exact Or.inr (Or.inr (Or.inr (Or.inr (Or.inr (Or.inl ⟨h20, by simp [tt], hq⟩)))))
    · have e2 : tt (o :: l) true = tt l true + 1 := by simp only [tt, tb]; rw [if_pos (by omega)]; simp
      rw [e2]
      exact Or.inr (Or.inr (Or.inr (Or.inr (Or.inr (Or.inr (Or.inl ⟨by omega, by simp [tt], hq⟩))))))
abbrev modS : List (Nat × Nat) := [(203, 0), (200, 13), (200, 17), (200, 18)]
theorem settle_go {X0 : zC0} (H : ∀ j, j < 412 → CMj X0 j) {E : zCx} (hE : zOk E X0 RX12 cX12_settle 2 (zrm 4 0 0)) {m tx p b : Nat} {least : Int} (hl : 1 ≤ least ∧ least ≤ 7) {T i0 : Nat} {K0 : Nat → Nat} {B0 : Int} {L0 : List Nat} {f0 : Nat → va_E} {R : List Int × Bool} (hend : ∀ (K : Nat → Nat) (B : Int) (L : List Nat) (f : Nat → va_E), hok X0.2.2.1 K B L f → PA K L m tx p b → PSf (gi (f m)) (gi (f tx)) (gi (f p)) (gi (f b)) T i0 R.1 (nn R.1 R.2) (tt R.1 R.2) → extC modS K0 B0 L0 f0 K B L f → (∀ j, j < T + 97 → gi (f tx) j = gi (f0 tx) j) → eW E 0 0 L f 89 [(0, .ref m), (1, .int (Int32.ofInt least))] []) : ∀ (l : List Int) (v : Bool) (K : Nat → Nat) (B : Int) (L : List Nat) (f : Nat → va_E), stl least l v = R → (v = false → md l = 1 → 4 ≤ least) → (v = true → ahd l) → hok X0.2.2.1 K B L f → PA K L m tx p b → PSf (gi (f m)) (gi (f tx)) (gi (f p)) (gi (f b)) T i0 l (nn l v) (tt l v) → extC modS K0 B0 L0 f0 K B L f → (∀ j, j < T + 97 → gi (f tx) j = gi (f0 tx) j) → eW E 0 0 L f 0 [(0, .ref m), (1, .int (Int32.ofInt least))] [] := by
  intro l
  induction l with
  | nil =>
    intro v K B L f hR hv1 hv2 hh hA hS hX hg
    have hR' : R = ([], v) := hR.symm
    refine s_st0 H hE hh hl hA.1 (fun K1 B1 L1 f1 v1 v2 h1 e1 _ _ b2 hr0 m1 m2 => ?_) (fun K1 B1 L1 f1 v1 h1 e1 _ b1 hr0 m1 => ?_)
    · exfalso
      have := m2 m hr0.1 hr0.2
      rw [ext0 e1 hA.1.1, hS.2.2.1] at this
      simp at this
      omega
    · refine hend K1 B1 L1 f1 h1 (hA.ext e1) ?_ (extC_tr hX (extC_mono e1 (fun q hq => by cases hq))) (fun j hj => by rw [ext0 e1 hA.2.1.1]; exact hg j hj)
      rw [ext0 e1 hA.1.1, ext0 e1 hA.2.1.1, ext0 e1 hA.2.2.1.1, ext0 e1 hA.2.2.2.1, hR']
      exact hS
  | cons o l ih =>
    intro v K B L f hR hv1 hv2 hh hA hS hX hg
    obtain ⟨s1, s2, s3, s4, s5, s6, s7, s8, ⟨w, s9, s10, s11, s12⟩, s13, s14, s15⟩ := id hS
    have hgo := s7.2.1
    have hPo : gi (f p) l.length = o := by
      have : plist (gi (f p)) (l.length + 1) = o :: l := s4
      simp only [plist] at this
      exact (List.cons.inj this).1
    have hPl : plist (gi (f p)) l.length = l := by
      have : plist (gi (f p)) (l.length + 1) = o :: l := s4
      simp only [plist] at this
      exact (List.cons.inj this).2
    have hlen : gi (f m) 17 = l.length + 1 := by rw [s3]; simp
    have h160 := (hok_fld hh hA.1 (j := 17) (lo := 0) (hi := 160) rfl).2
    have hpl : gi (f m) 8 ≤ 301 := (hok_fld hh hA.1 (j := 8) (lo := 0) (hi := 301) rfl).2
    refine s_st0 H hE hh hl hA.1 (fun K1 B1 L1 f1 v1 v2 h1 e1 _ b1 b2 hr0 m1 m2 => ?_) (fun K1 B1 L1 f1 v1 h1 e1 _ b1 hr0 m1 => ?_)
    · have q2 : v2 = l.length + 1 := by rw [← m2 m hr0.1 hr0.2, ext0 e1 hA.1.1, hlen]
      have q1 : v1 = o := by
        rw [← (m1 p (exin e1 hA.2.2.1).1 (exin e1 hA.2.2.1).2).2, ext0 e1 hA.2.2.1.1, q2]
        have : ((-1) + ((l.length : Int) + 1)).toNat = l.length := by omega
        rw [this]
        exact hPo
      subst q1
      obtain ⟨l0, D0, cy0, ax0⟩ := X0
      refine w_callS hE (hc_rank H h1 hgo) lX12_ok le_203 mt_rank (by decide) rfl rfl (by decide) (by decide +kernel) (fun r L2 f2 _ hp => ?_)
      obtain ⟨K2, B2, h2, e2, rfl⟩ := hp
      have hA2 := (hA.ext e1).ext e2
      have g2 : ∀ x, x ∈ L → gi (f2 x) = gi (f x) := fun x hx => by rw [ext0 e2 (e1.1 x hx).1, ext0 e1 hx]
      have e02 := extC_tr e1 e2
      refine s_st21 H hE h2 hl rk_bd hA2.1 (fun K3 B3 L3 f3 h3 e3 _ _ hge hr3 => ?_) (fun K3 B3 L3 f3 h3 e3 _ _ hlt hr3 => ?_)
      · -- it is settled
        have hge' : least ≤ rk v1 := by omega
        have h40 : v1 < 40 := by
          by_cases h : 40 ≤ v1
          · unfold rk at hge'
            rw [if_pos h] at hge'
            omega
          · omega
        have e03 := extC_tr e02 e3
        have g3 : ∀ x, x ∈ L → gi (f3 x) = gi (f x) := fun x hx => by rw [ext0 e3 (e02.1 x hx).1, g2 x hx]
        have hA3 := hA2.ext e3
        refine s_st25 H hE h3 hl (v1 := (l.length : Int) + 1) (by omega) hA3.1 (fun x hx hkx => by rw [sol h3 ⟨hx, hkx⟩ hA3.1 (by decide), g3 m hA.1.1, hlen]) (fun K4 B4 L4 f4 v2' h4 e4 _ _ _ hr4 m3 m4 => ?_)
        have hA4 := hA3.ext e4
        have gm4 : ∀ i, i ≠ 17 → gi (f4 m) i = gi (f m) i := fun i hi => by rw [ext_gi e4 hA3.1.1 hA3.1.2 (by rw [reg200]; simp; exact hi), g3 m hA.1.1]
        have gx4 : ∀ x k, x ∈ L → K x = k → k ≠ 200 → gi (f4 x) = gi (f x) := fun x k hx hkx hne => by
          rw [ext1 e4 (exin e03 ⟨hx, hkx⟩) (fun i => by simp; intro h; exact absurd h hne), g3 x hx]
        have gm17 : gi (f4 m) 17 = l.length := by
          have := m4 m hA4.1.1 hA4.1.2
          omega
        have qo : v2' = v1 := by
          rw [← (m3 p hA4.2.2.1.1 hA4.2.2.1.2).2, gx4 p 205 hA.2.2.1.1 hA.2.2.1.2 (by decide)]
          have : ((-1) + ((l.length : Int) + 1)).toNat = l.length := by omega
          rw [this]
          exact hPo
        subst qo
        have hw303 : w ≤ 303 := by omega
        have hpn : pnd (v2' :: l) = pnd l + 1 := by simp only [pnd]; rw [if_pos h40]
        have hgo' := hgo
        unfold goodO at hgo'
        refine w_callV hE (hc_emit H h4 hA4.1 hA4.2.1 (o := v2') (v := 0) (by omega) (by decide) (T := T) (w := w) (by rw [gm4 12 (by decide), s1]) s2 (by rw [gm4 13 (by decide), s9]) hw303) lX12_ok le_206 mt_emit h4 hA4.1.1 hA4.1.2 (by decide) (by decide) (by decide) rfl rfl (by decide) (by decide +kernel) (fun r L5 f5 ht5 hp5 => ?_)
        obtain ⟨K5, B5, h5, e5, c1, c2, c3, c4⟩ := hp5
        have hr5 : r = none := ht5
        subst hr5
        have hA5 := hA4.ext e5
        have gm5 : ∀ i, i ≠ 17 → i ≠ 13 → gi (f5 m) i = gi (f m) i := fun i hi hj => by rw [ext_gi e5 hA4.1.1 hA4.1.2 (by rw [reg200]; simp; exact hj), gm4 i hi]
        have gm5' : gi (f5 m) 17 = l.length := by rw [ext_gi e5 hA4.1.1 hA4.1.2 (by rw [reg200]; simp), gm17]
        have gp5 : gi (f5 p) = gi (f p) := by rw [ext1 e5 hA4.2.2.1 (fun i => by simp), gx4 p 205 hA.2.2.1.1 hA.2.2.1.2 (by decide)]
        have gb5 : gi (f5 b) = gi (f b) := by rw [ext1 e5 hA4.2.2.2 (fun i => by simp), gx4 b 206 hA.2.2.2.1 hA.2.2.2.2 (by decide)]
        have gt4 : gi (f4 tx) = gi (f tx) := gx4 tx 203 hA.2.1.1 hA.2.1.2 (by decide)
        have gt5 : ∀ j, j ≠ T + 97 + 2 * w → j ≠ T + 97 + 2 * w + 1 → gi (f5 tx) j = gi (f tx) j := fun j h1 h2 => by rw [c4 j h1 h2, gt4]
        have hin : inn (v2' :: l) = inn l := by simp only [inn]; rw [if_neg (by omega)]; rfl
        have hv : (v = false ∧ (v2' = 2 ∨ (3 ≤ v2' ∧ v2' ≤ 6) ∨ (10 ≤ v2' ∧ v2' ≤ 15))) ∨ (v = true ∧ 20 ≤ v2' ∧ v2' ≤ 22) := by
          cases v with
          | false =>
            refine Or.inl ⟨rfl, ?_⟩
            by_cases hq : 20 ≤ v2' ∧ v2' ≤ 22
            · exfalso
              have hm1 : md (v2' :: l) = 1 := by simp only [md]; rw [if_neg (by omega), if_pos (by omega)]
              have := hv1 rfl hm1
              unfold rk at hge'
              rw [if_neg (by omega)] at hge'
              split at hge'
              · omega
              · split at hge'
                · omega
                · split at hge' <;> omega
            · omega
          | true =>
            have ha : v2' = 20 ∨ v2' = 21 ∨ v2' = 22 ∨ v2' = 42 := hv2 rfl
            exact Or.inr ⟨rfl, by omega⟩
        have hgd : Gd (gi (f5 tx)) T i0 (w + 1) (nn l (v || decide (10 ≤ v2' ∧ v2' ≤ 15))) (tt l (v || decide (10 ≤ v2' ∧ v2' ≤ 15))) l (gi (f b)) := Gd_pop s12 s10 h40 hv (fun k hk => by
          have := (s13 k (by rw [hin]; exact hk)).2
          rw [s9] at this
          exact this) (fun i hi => gt5 _ (by omega) (by omega)) (fun i hi => gt5 _ (by omega) (by omega)) c2
        have hR2 : stl least l (v || decide (10 ≤ v2' ∧ v2' ≤ 15)) = R := by
          rw [← hR]
          simp only [stl]
          rw [if_pos hge']
        -- the state behind it, whatever becomes of what is open
        have next : ∀ (K6 : Nat → Nat) (B6 : Int) (L6 : List Nat) (f6 : Nat → va_E), hok (l0, D0, cy0, ax0).2.2.1 K6 B6 L6 f6 → extC [(200, 18)] K5 B5 L5 f5 K6 B6 L6 f6 → gi (f6 m) 18 = opc l → eW E 0 0 L6 f6 0 [(0, .ref m), (1, .int (Int32.ofInt least))] [] := fun K6 B6 L6 f6 h6 e6 h18 => by
          have hA6 := hA5.ext e6
          have gm6 : ∀ i, i ≠ 18 → gi (f6 m) i = gi (f5 m) i := fun i hi => ext_gi e6 hA5.1.1 hA5.1.2 (by rw [reg200]; simp; exact hi)
          have gx6 : ∀ x k, x ∈ L5 ∧ K5 x = k → k ≠ 200 → gi (f6 x) = gi (f5 x) := fun x k hx hne => ext1 e6 hx (fun i => by simp; intro h; exact absurd h hne)
          refine ih (v || decide (10 ≤ v2' ∧ v2' ≤ 15)) K6 B6 L6 f6 hR2 (fun hf hm1 => ?_) (fun ht => ?_) h6 hA6 ?_ ?_ ?_
          · have hvf : v = false := by cases v with
              | false => rfl
              | true => cases hf
            have hcf : ¬ (10 ≤ v2' ∧ v2' ≤ 15) := fun h => by rw [hvf] at hf; simp [h] at hf
            refine hv1 hvf ?_
            rcases hv with hv | hv
            · simp only [md]
              rw [if_neg hcf, if_neg (by omega), if_neg (by omega)]
              exact hm1
            · rw [hv.1] at hvf; cases hvf
          · rcases hv with hv | hv
            · have hc : 10 ≤ v2' ∧ v2' ≤ 15 := by
                by_cases h : 10 ≤ v2' ∧ v2' ≤ 15
                · exact h
                · rw [hv.1] at ht; simp [h] at ht
              exact s7.2.2.2 (Or.inl hc)
            · exact s7.2.2.2 (Or.inr hv.2)
          · rw [gx6 tx 203 hA5.2.1 (by decide), gx6 p 205 hA5.2.2.1 (by decide), gx6 b 206 hA5.2.2.2 (by decide), gp5, gb5]
            refine ⟨by rw [gm6 12 (by decide), gm5 12 (by decide) (by decide), s1], s2, by rw [gm6 17 (by decide), gm5'], hPl, h18, by rw [gm6 19 (by decide), gm5 19 (by decide) (by decide), s6, hin], s7.1, ?_, ⟨w + 1, by rw [gm6 13 (by decide), c1], by omega, ?_, hgd⟩, fun k hk => ?_, fun k k' hk hk' => s14 k k' hk (by rw [hin]; exact hk'), fun k hk x1 x2 x3 => ?_⟩
            · have : opc l ≤ opc (v2' :: l) := by simp only [opc]; omega
              omega
            · rw [gm6 8 (by decide), gm5 8 (by decide) (by decide)]
              rw [hpn] at s11
              omega
            · have := s13 k (by rw [hin]; exact hk)
              rw [gm6 13 (by decide), c1]
              omega
            · rw [gt5 _ (by omega) (by omega)] at x1 x2 x3
              rw [gt5 _ (by omega) (by omega)]
              exact s15 k hk x1 x2 x3
          · refine extC_tr hX (extC_tr (extC_mono e03 (fun q hq => by cases hq)) (extC_tr (extC_mono e4 (fun q hq => by rw [List.mem_singleton.mp hq]; simp)) (extC_tr (extC_mono e5 (fun q hq => ?_)) (extC_mono e6 (fun q hq => by rw [List.mem_singleton.mp hq]; simp)))))
            rcases List.mem_cons.mp hq with rfl | hq
            · simp
            · rw [List.mem_singleton.mp hq]; simp
          · intro j hj
            rw [gx6 tx 203 hA5.2.1 (by decide), gt5 _ (by omega) (by omega)]
            exact hg j hj
        have m17 : ∀ x ∈ L5, K5 x = 200 → gi (f5 x) 17 = (l.length : Int) := fun x hx hkx => by rw [sol h5 ⟨hx, hkx⟩ hA5.1 (by decide), gm5']
        have m18 : ∀ x ∈ L5, K5 x = 200 → gi (f5 x) 18 = (opc (v2' :: l) : Int) := fun x hx hkx => by rw [sol h5 ⟨hx, hkx⟩ hA5.1 (by decide), gm5 18 (by decide) (by decide), s5]
        have m205 : ∀ x ∈ L5, K5 x = 205 → 0 ≤ (l.length : Int) ∧ gi (f5 x) ((l.length : Int)).toNat = v2' := fun x hx hkx => by
          rw [sol h5 ⟨hx, hkx⟩ hA5.2.2.1 (by decide), gp5]
          exact ⟨by omega, by rw [Int.toNat_natCast]; exact hPo⟩
        show eW E 0 0 L5 f5 49 [(0, .ref m), (1, .int (Int32.ofInt least))] []
        by_cases o2 : v2' = 2
        · refine s_st49a H hE h5 hl (v1 := (l.length : Int)) (v2 := (opc (v2' :: l) : Int)) (by omega) (by omega) hA5.1 m17 (by rw [← o2]; exact m205) m18 (fun K6 B6 L6 f6 h6 e6 _ _ _ hr6 y1 y2 y3 => next K6 B6 L6 f6 h6 e6 ?_)
          rw [y1 m hr6.1 hr6.2]
          have : opc (v2' :: l) = opc l + 1 := by simp only [opc]; rw [if_pos (by omega)]
          omega
        · by_cases o20 : v2' = 20
          · refine s_st49b H hE h5 hl (v1 := (l.length : Int)) (v2 := (opc (v2' :: l) : Int)) (by omega) (by omega) hA5.1 m17 (by rw [← o20]; exact m205) m18 (fun K6 B6 L6 f6 h6 e6 _ _ _ hr6 y1 y2 y3 => next K6 B6 L6 f6 h6 e6 ?_)
            rw [y1 m hr6.1 hr6.2]
            have : opc (v2' :: l) = opc l + 1 := by simp only [opc]; rw [if_pos (by omega)]
            omega
          · have hopc : opc (v2' :: l) = opc l := by simp only [opc]; rw [if_neg (by omega)]; rfl
            by_cases o19 : v2' ≤ 19
            · refine s_st49c H hE h5 hl (v1 := (l.length : Int)) (v2 := v2') (by omega) (by omega) hA5.1 m17 m205 (fun K6 B6 L6 f6 h6 e6 _ _ _ hr6 y1 y2 => next K6 B6 L6 f6 h6 (extC_mono e6 (fun q hq => by cases hq)) ?_)
              rw [ext0 e6 hA5.1.1, m18 m hA5.1.1 hA5.1.2, hopc]
            · refine s_st49d H hE h5 hl (v1 := (l.length : Int)) (v2 := v2') (by omega) (by omega) hA5.1 m17 m205 (fun K6 B6 L6 f6 h6 e6 _ _ _ hr6 y1 y2 => next K6 B6 L6 f6 h6 (extC_mono e6 (fun q hq => by cases hq)) ?_)
              rw [ext0 e6 hA5.1.1, m18 m hA5.1.1 hA5.1.2, hopc]
      · -- it stays
        have hlt' : ¬ least ≤ rk v1 := by omega
        have g3 : ∀ x, x ∈ L → gi (f3 x) = gi (f x) := fun x hx => by rw [ext0 e3 (e02.1 x hx).1, g2 x hx]
        have hR' : R = (v1 :: l, v) := by
          rw [← hR]
          simp only [stl]
          rw [if_neg hlt']
        refine hend K3 B3 L3 f3 h3 (hA2.ext e3) ?_ (extC_tr hX (extC_mono (extC_tr e02 e3) (fun q hq => by cases hq))) (fun j hj => by rw [g3 tx hA.2.1.1]; exact hg j hj)
        rw [g3 m hA.1.1, g3 tx hA.2.1.1, g3 p hA.2.2.1.1, g3 b hA.2.2.2.1, hR']
        exact hS
    · exfalso
      have := m1 m hr0.1 hr0.2
      rw [ext0 e1 hA.1.1, hlen] at this
      omega
theorem hc_settle {X0 : zC0} (H : ∀ j, j < 412 → CMj X0 j) {K : Nat → Nat} {B : Int} {L : List Nat} {f : Nat → va_E} (hh : hok X0.2.2.1 K B L f) {m tx p b : Nat} (hA : PA K L m tx p b) {least : Int} (hl : 1 ≤ least ∧ least ≤ 7) {T i0 : Nat} {l : List Int} {v : Bool} (hv1 : v = false → md l = 1 → 4 ≤ least) (hv2 : v = true → ahd l) (hS : PSf (gi (f m)) (gi (f tx)) (gi (f p)) (gi (f b)) T i0 l (nn l v) (tt l v)) : HC X0 M_settle 4 3 modS [.ref m, .int (Int32.ofInt least)] K B L f (fun _ _ _ f' _ => PSf (gi (f' m)) (gi (f' tx)) (gi (f' p)) (gi (f' b)) T i0 (stl least l v).1 (nn (stl least l v).1 (stl least l v).2) (tt (stl least l v).1 (stl least l v).2) ∧ ∀ j, j < T + 97 → gi (f' tx) j = gi (f tx) j) := by
  refine eM.mk rfl pnX12 (Nat.le_of_ble_eq_true rfl) (fun E hE _ hret => ?_)
  exact settle_go H hE hl (R := stl least l v) (fun K1 B1 L1 f1 h1 _ hS1 e1 hg => hret 0 0 L1 f1 89 _ (Nat.le_refl _) (Nat.le_refl _) (by decide +kernel) ⟨K1, B1, h1, e1, hS1, hg⟩) l v K B L f rfl hv1 hv2 hh hA hS extC_rf (fun j _ => rfl)
