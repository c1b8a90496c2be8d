/-! What a TEXT's code is given: both rows and their length at once. -/
theorem hok_wr {cy : Nat → ClassId} {K : Nat → Nat} {B : Int} {L : List Nat} {f : Nat → va_E} (hh : hok cy K B L f) {b c o : Nat} (hb : b ∈ L ∧ K b = 20) (hc : c ∈ L ∧ K c = 23) (ho : o ∈ L ∧ K o = 24) {fs : List Value} {gc go : Nat → Int32} (hfb : f b = .inr (7, fs)) (hfc : fs[3]? = some (.ref c)) (hfo : fs[4]? = some (.ref o)) (hgc : f c = zIA cy 300 gc) (hgo : f o = zIA cy 300 go) {n : Nat} (hn : n < 300) {w x z : Int} (hw : -2147483648 ≤ w ∧ w ≤ 2147483647) (hx : -2147483648 ≤ x ∧ x ≤ 2147483647) (hwx : w = 62 → 0 ≤ x ∧ x < 300) (hz : 0 ≤ z ∧ z ≤ 300) {f' : Nat → va_E} (h1 : ∀ b', b' ≠ b → b' ≠ c → b' ≠ o → f' b' = f b') (h2 : f' c = zIA cy 300 (upd gc n (Int32.ofInt w))) (h3 : f' o = zIA cy 300 (upd go n (Int32.ofInt x))) (h4 : f' b = .inr (7, fs.set 5 (.int (Int32.ofInt z)))) : hok cy K B L f' ∧ extC [(20, 5), (23, 0), (24, 0)] K B L f K B L f' := by
  have ew : (Int32.ofInt w).toInt = w := i32i hw.1 hw.2
  have ex : (Int32.ofInt x).toInt = x := i32i hx.1 hx.2
  have ez : (Int32.ofInt z).toInt = z := i32i (by omega) (by omega)
  have cb := hh.1 b hb.1
  rw [hb.2] at cb
  have cb2 : ∃ fs, f b = .inr (7, fs) ∧ fs.length = (zkd 20).2.2.length ∧ ∀ (j : Nat) (d : Nat × Int × Int), (zkd 20).2.2[j]? = some d → ∃ v, fs[j]? = some v ∧ fok K L d v := cb
  obtain ⟨fs', e1, hlen, hfd⟩ := cb2
  have e2 : fs' = fs := by rw [hfb] at e1; cases e1; rfl
  subst e2
  have hjl : 5 < fs'.length := by rw [hlen]; decide
  have gb : ∀ i, i ≠ 5 → cget (f' b) i = cget (f b) i := fun i hi => by
    rw [h4, hfb]
    show (fs'.set 5 _)[i]? = fs'[i]?
    exact List.getElem?_set_ne (Ne.symm hi)
  have gcj : ∀ j, gi (f' c) j = if j = n then w else gi (f c) j := fun j => by
    rw [h2, hgc]
    show (upd gc n (Int32.ofInt w) j).toInt = _
    split
    · rename_i h
      rw [h, up_same, ew]
    · rename_i h
      rw [up_oth _ _ h]
      rfl
  have goj : ∀ j, gi (f' o) j = if j = n then x else gi (f o) j := fun j => by
    rw [h3, hgo]
    show (upd go n (Int32.ofInt x) j).toInt = _
    split
    · rename_i h
      rw [h, up_same, ex]
    · rename_i h
      rw [up_oth _ _ h]
      rfl
  have hne : ∀ b' ∈ L, K b' ≠ 20 → K b' ≠ 23 → K b' ≠ 24 → f' b' = f b' := fun b' _ k1 k2 k3 => h1 b' (fun e => k1 (by rw [e]; exact hb.2)) (fun e => k2 (by rw [e]; exact hc.2)) (fun e => k3 (by rw [e]; exact ho.2))
  have h20 : ∀ b' ∈ L, K b' = 20 → ∀ i, i ≠ 5 → cget (f' b') i = cget (f b') i := fun b' hb' hk i hi => by
    by_cases hbb : b' = b
    · rw [hbb]
      exact gb i hi
    · rw [h1 b' hbb (fun e => by rw [e, hc.2] at hk; exact absurd hk (by decide)) (fun e => by rw [e, ho.2] at hk; exact absurd hk (by decide))]
  refine ⟨⟨fun b' hb' => ?_, hh.2.1, ?_⟩, ⟨fun b' hb' => ⟨hb', rfl, fun i hi => ?_⟩, fun _ => rfl, fun b' hb' hn => absurd hb' hn⟩⟩
  · by_cases hbb : b' = b
    · subst hbb
      rw [hb.2]
      show ∃ fs, f' b' = .inr (7, fs) ∧ fs.length = (zkd 20).2.2.length ∧ ∀ (j : Nat) (d : Nat × Int × Int), (zkd 20).2.2[j]? = some d → ∃ v, fs[j]? = some v ∧ fok K L d v
      refine ⟨_, h4, by rw [List.length_set, hlen], fun j' d' hd' => ?_⟩
      by_cases hj : j' = 5
      · subst hj
        have hd5 : (zkd 20).2.2[5]? = some (0, 0, 300) := rfl
        rw [hd5] at hd'
        cases hd'
        exact ⟨_, List.getElem?_set_self hjl, _, rfl, by rw [ez]; exact hz.1, by rw [ez]; exact hz.2⟩
      · obtain ⟨v, hv, hfk⟩ := hfd j' d' hd'
        exact ⟨v, by rw [List.getElem?_set_ne (Ne.symm hj)]; exact hv, hfk⟩
    · by_cases hbc : b' = c
      · subst hbc
        rw [hc.2]
        show ∃ g, f' b' = zIA cy 300 g ∧ ∀ i, i < 300 → bok B (kbd 23 i) (g i).toInt
        refine ⟨_, h2, fun j _ => ⟨?_, ?_, fun h => by cases h⟩⟩
        · show (-2147483648 : Int) ≤ (upd gc n (Int32.ofInt w) j).toInt
          exact Int32.le_toInt _
        · show (upd gc n (Int32.ofInt w) j).toInt ≤ (2147483647 : Int)
          have := Int32.toInt_lt (upd gc n (Int32.ofInt w) j)
          omega
      · by_cases hbo : b' = o
        · subst hbo
          rw [ho.2]
          show ∃ g, f' b' = zIA cy 300 g ∧ ∀ i, i < 300 → bok B (kbd 24 i) (g i).toInt
          refine ⟨_, h3, fun j _ => ⟨?_, ?_, fun h => by cases h⟩⟩
          · show (-2147483648 : Int) ≤ (upd go n (Int32.ofInt x) j).toInt
            exact Int32.le_toInt _
          · show (upd go n (Int32.ofInt x) j).toInt ≤ (2147483647 : Int)
            have := Int32.toInt_lt (upd go n (Int32.ofInt x) j)
            omega
        · rw [h1 b' hbb hbc hbo]
          exact hh.1 b' hb'
  · obtain ⟨x1, x2, x3⟩ := hh.2.2
    refine ⟨⟨x1.1, fun b1 hb1 b2 hb2 hk1 hk2 he => x1.2.1 b1 hb1 b2 hb2 hk1 hk2 (by rw [h20 b1 hb1 hk1 3 (by decide), h20 b1 hb1 hk1 4 (by decide), h20 b2 hb2 hk2 3 (by decide), h20 b2 hb2 hk2 4 (by decide)] at he; exact he), fun b1 hb1 hk1 c1 o1 w1 w2 i hi w3 => ?_⟩, fun b1 hb1 hk1 m hm hkm => ?_, fun b1 hb1 hk1 => ?_⟩
    · rw [h20 b1 hb1 hk1 3 (by decide)] at w1
      rw [h20 b1 hb1 hk1 4 (by decide)] at w2
      have eb3 : cget (f b) 3 = some (.ref c) := by rw [hfb]; exact hfc
      have eb4 : cget (f b) 4 = some (.ref o) := by rw [hfb]; exact hfo
      by_cases hbb : b1 = b
      · subst hbb
        have q1 : c1 = c := by rw [eb3] at w1; cases w1; rfl
        have q2 : o1 = o := by rw [eb4] at w2; cases w2; rfl
        subst q1 q2
        rw [gcj] at w3
        rw [goj]
        by_cases hin : i = n
        · rw [if_pos hin] at w3
          rw [if_pos hin]
          exact hwx w3
        · rw [if_neg hin] at w3
          rw [if_neg hin]
          exact x1.2.2 b1 hb1 hk1 c1 o1 w1 w2 i hi w3
      · obtain ⟨c', y1, y2, y3⟩ := cok20 hh hb1 hk1 (j := 3) (k' := 23) rfl
        obtain ⟨o', z1, z2, z3⟩ := cok20 hh hb1 hk1 (j := 4) (k' := 24) rfl
        have ec : c' = c1 := by rw [y1] at w1; cases w1; rfl
        have eo : o' = o1 := by rw [z1] at w2; cases w2; rfl
        subst ec eo
        have nc : c' ≠ c := fun e => hbb (x1.2.1 b1 hb1 b hb.1 hk1 hb.2 (Or.inl (by rw [y1, eb3, e])))
        have no : o' ≠ o := fun e => hbb (x1.2.1 b1 hb1 b hb.1 hk1 hb.2 (Or.inr (by rw [z1, eb4, e])))
        rw [h1 c' (fun e => by rw [e, hb.2] at y3; exact absurd y3 (by decide)) nc (fun e => by rw [e, ho.2] at y3; exact absurd y3 (by decide))] at w3
        rw [h1 o' (fun e => by rw [e, hb.2] at z3; exact absurd z3 (by decide)) (fun e => by rw [e, hc.2] at z3; exact absurd z3 (by decide)) no]
        exact x1.2.2 b1 hb1 hk1 c' o' w1 w2 i hi w3
    · rw [hne b1 hb1 (by rw [hk1]; decide) (by rw [hk1]; decide) (by rw [hk1]; decide), hne m hm (by rw [hkm]; decide) (by rw [hkm]; decide) (by rw [hkm]; decide)]
      exact x2 b1 hb1 hk1 m hm hkm
    · have hk12 : K b1 = 201 ∨ K b1 = 202 := hk1
      rw [hne b1 hb1 (by rcases hk12 with h | h <;> rw [h] <;> decide) (by rcases hk12 with h | h <;> rw [h] <;> decide) (by rcases hk12 with h | h <;> rw [h] <;> decide)]
      exact x3 b1 hb1 hk1
  · by_cases hbb : b' = b
    · subst hbb
      rw [hb.2, show reg 20 i = i from rfl] at hi
      refine gb i (fun h => hi ?_)
      rw [h]
      decide
    · by_cases hbc : b' = c
      · subst hbc
        exfalso
        rw [hc.2, show reg 23 i = 0 from rfl] at hi
        exact hi (by decide)
      · by_cases hbo : b' = o
        · subst hbo
          exfalso
          rw [ho.2, show reg 24 i = 0 from rfl] at hi
          exact hi (by decide)
        · rw [h1 b' hbb hbc hbo]
abbrev M_write7 : MT := (yX7_write, cX7_write, 3, none)
theorem mt_write7 : mt 264 = M_write7 := rfl
theorem f7_18 : (18, (7, 3, 3, true)) ∈ fX7 := List.mem_of_getElem? (i := 0) rfl
theorem f7_21 : (21, (7, 4, 3, true)) ∈ fX7 := List.mem_of_getElem? (i := 1) rfl
theorem f7_42 : (42, (7, 5, 0, false)) ∈ fX7 := List.mem_of_getElem? (i := 4) rfl
theorem hc_write {X0 : zC0} {K : Nat → Nat} {B : Int} {L : List Nat} {f : Nat → va_E} (hh : hok X0.2.2.1 K B L f) {b : Nat} (hb : b ∈ L ∧ K b = 20) {w x : Int} (hw : -2147483648 ≤ w ∧ w ≤ 2147483647) (hx : -2147483648 ≤ x ∧ x ≤ 2147483647) (hwx : w = 62 → 0 ≤ x ∧ x < 300) {P : Option Value → eS → Prop} (kk : ∀ f' : Nat → va_E, hok X0.2.2.1 K B L f' → extC [(20, 5), (23, 0), (24, 0)] K B L f K B L f' → P none (L, f')) : eM X0 3 M_write7.1 M_write7.2.1 M_write7.2.2.1 M_write7.2.2.2 (zrm 2 0 0) [.ref b, .int (Int32.ofInt w), .int (Int32.ofInt x)] L f P := by
  refine eM.mk rfl pnX7 (Nat.le_of_ble_eq_true rfl) (fun E hE _ hret => ?_)
  obtain ⟨l0, D0, cy0, ax0⟩ := X0
  have cb := hh.1 b hb.1
  rw [hb.2] at cb
  have cb2 : ∃ fs, f b = .inr (7, fs) ∧ fs.length = (zkd 20).2.2.length ∧ ∀ (j : Nat) (d : Nat × Int × Int), (zkd 20).2.2[j]? = some d → ∃ v, fs[j]? = some v ∧ fok K L d v := cb
  obtain ⟨fs, hfb, hlen, hfd⟩ := cb2
  obtain ⟨v5, hv5, n, rfl, n0, n300⟩ := hfd 5 (0, 0, 300) rfl
  obtain ⟨v3, hv3, c, rfl, hc1, hc2⟩ := hfd 3 (2, 23, 0) rfl
  obtain ⟨v4, hv4, o, rfl, ho1, ho2⟩ := hfd 4 (2, 24, 0) rfl
  dsimp only at n0 n300
  have hc : c ∈ L ∧ K c = 23 := ⟨hc1, hc2⟩
  have ho : o ∈ L ∧ K o = 24 := ⟨ho1, ho2⟩
  have cc := hh.1 c hc.1
  rw [hc.2] at cc
  have cc2 : ∃ g, f c = zIA cy0 300 g ∧ ∀ i, i < 300 → bok B (kbd 23 i) (g i).toInt := cc
  obtain ⟨gc, hgc, -⟩ := cc2
  have co := hh.1 o ho.1
  rw [ho.2] at co
  have co2 : ∃ g, f o = zIA cy0 300 g ∧ ∀ i, i < 300 → bok B (kbd 24 i) (g i).toInt := co
  obtain ⟨go, hgo, -⟩ := co2
  have nbc : b ≠ c := fun e => by rw [e, hc.2] at hb; exact absurd hb.2 (by decide)
  have nbo : b ≠ o := fun e => by rw [e, ho.2] at hb; exact absurd hb.2 (by decide)
  have nco : c ≠ o := fun e => by rw [e, ho.2] at hc; exact absurd hc.2 (by decide)
  refine x_aload_n hE (z := 0) (i := 0) (x := b) (by decide +kernel) rfl (by simp [lv_args, Value.category]) ?_
  refine r_get hE fX7_ok f7_42 hb.1 hfb hv5 (by decide +kernel) ?_
  refine x_sipush hE (i := 300) (v := 300) (by decide +kernel) (by decide +kernel) ?_
  refine x_icmp_ge hE (off := 33) (tgt := 40) (by decide +kernel) rfl (fun _ => ?_) (fun hlt => ?_)
  · exact hret 0 0 L f 40 _ (Nat.le_refl _) (Nat.le_refl _) (by decide +kernel) (kk f hh extC_rf)
  · have hn : n.toInt < 300 := by
      rw [Int32.le_iff_toInt_le] at hlt
      have : (300 : Int32).toInt = 300 := by decide +kernel
      omega
    have et : n.toNatClampNeg = n.toInt.toNat := rfl
    have hin : vp_in n 300 := by rw [vp_in_iff]; omega
    refine x_aload_n hE (z := 0) (i := 0) (x := b) (by decide +kernel) rfl (by simp [lv_args, Value.category]) ?_
    refine r_get hE fX7_ok f7_18 hb.1 hfb hv3 (by decide +kernel) ?_
    refine x_aload_n hE (z := 0) (i := 0) (x := b) (by decide +kernel) rfl (by simp [lv_args, Value.category]) ?_
    refine r_get hE fX7_ok f7_42 hb.1 hfb hv5 (by decide +kernel) ?_
    refine x_iload_n hE (z := 1) (i := 1) (x := Int32.ofInt w) (by decide +kernel) rfl (by simp [lv_args, Value.category]) ?_
    refine h_iast hE hc.1 hgc hin (by decide +kernel) ?_
    rw [et]
    have g1b : va_up f c (zIA cy0 300 (upd gc n.toInt.toNat (Int32.ofInt w))) b = .inr (7, fs) := by rw [va_up_ne _ _ nbc]; exact hfb
    have g1o : va_up f c (zIA cy0 300 (upd gc n.toInt.toNat (Int32.ofInt w))) o = zIA cy0 300 go := by rw [va_up_ne _ _ (Ne.symm nco)]; exact hgo
    have g1c : va_up f c (zIA cy0 300 (upd gc n.toInt.toNat (Int32.ofInt w))) c = zIA cy0 300 (upd gc n.toInt.toNat (Int32.ofInt w)) := va_up_self _ _ _
    have g1r : ∀ b', b' ≠ c → va_up f c (zIA cy0 300 (upd gc n.toInt.toNat (Int32.ofInt w))) b' = f b' := fun b' h => va_up_ne _ _ h
    generalize va_up f c (zIA cy0 300 (upd gc n.toInt.toNat (Int32.ofInt w))) = f1 at g1b g1o g1c g1r ⊢
    refine x_aload_n hE (z := 0) (i := 0) (x := b) (by decide +kernel) rfl (by simp [lv_args, Value.category]) ?_
    refine r_get hE fX7_ok f7_21 hb.1 g1b hv4 (by decide +kernel) ?_
    refine x_aload_n hE (z := 0) (i := 0) (x := b) (by decide +kernel) rfl (by simp [lv_args, Value.category]) ?_
    refine r_get hE fX7_ok f7_42 hb.1 g1b hv5 (by decide +kernel) ?_
    refine x_iload_n hE (z := 2) (i := 2) (x := Int32.ofInt x) (by decide +kernel) rfl (by simp [lv_args, Value.category]) ?_
    refine h_iast hE ho.1 g1o hin (by decide +kernel) ?_
    rw [et]
    have g2b : va_up f1 o (zIA cy0 300 (upd go n.toInt.toNat (Int32.ofInt x))) b = .inr (7, fs) := by rw [va_up_ne _ _ nbo]; exact g1b
    have g2c : va_up f1 o (zIA cy0 300 (upd go n.toInt.toNat (Int32.ofInt x))) c = zIA cy0 300 (upd gc n.toInt.toNat (Int32.ofInt w)) := by rw [va_up_ne _ _ nco]; exact g1c
    have g2o : va_up f1 o (zIA cy0 300 (upd go n.toInt.toNat (Int32.ofInt x))) o = zIA cy0 300 (upd go n.toInt.toNat (Int32.ofInt x)) := va_up_self _ _ _
    have g2r : ∀ b', b' ≠ c → b' ≠ o → va_up f1 o (zIA cy0 300 (upd go n.toInt.toNat (Int32.ofInt x))) b' = f b' := fun b' h h' => by rw [va_up_ne _ _ h']; exact g1r b' h
    generalize va_up f1 o (zIA cy0 300 (upd go n.toInt.toNat (Int32.ofInt x))) = f2 at g2b g2c g2o g2r ⊢
    refine x_aload_n hE (z := 0) (i := 0) (x := b) (by decide +kernel) rfl (by simp [lv_args, Value.category]) ?_
    refine x_dup hE (by decide +kernel) rfl ?_
    refine r_get hE fX7_ok f7_42 hb.1 g2b hv5 (by decide +kernel) ?_
    refine x_iconst hE (i := 1) (v := 1) (by decide +kernel) rfl ?_
    refine x_iadd hE (by decide +kernel) ?_
    have en : n + 1 = Int32.ofInt (n.toInt + 1) := by
      apply Int32.toInt_inj.mp
      rw [Int32.toInt_add, i32i (z := n.toInt + 1) (by omega) (by omega)]
      have : (1 : Int32).toInt = 1 := by decide +kernel
      rw [this]
      exact Int.bmod_eq_of_le (by omega) (by omega)
    rw [en]
    refine r_put hE fX7_ok f7_42 hb.1 g2b (by rw [hlen]; decide) (by decide +kernel) ?_
    obtain ⟨h3, e3⟩ := hok_wr hh hb hc ho hfb hv3 hv4 hgc hgo (n := n.toInt.toNat) (by omega) hw hx hwx (z := n.toInt + 1) (by omega) (f' := va_up f2 b (.inr (7, fs.set 5 (.int (Int32.ofInt (n.toInt + 1)))))) (fun b' y1 y2 y3 => by rw [va_up_ne _ _ y1]; exact g2r b' y2 y3) (by rw [va_up_ne _ _ (Ne.symm nbc)]; exact g2c) (by rw [va_up_ne _ _ (Ne.symm nbo)]; exact g2o) (va_up_self _ _ _)
    exact hret 0 0 L _ 40 _ (Nat.le_refl _) (Nat.le_refl _) (by decide +kernel) (kk _ h3 e3)
theorem cm_write {X0 : zC0} {w x : EX} {env : EN} {s1 : List (Nat × Nat × EX)} {s2 : List (Nat × Nat)} (hyp : ∀ ν : Nat → Int, eok env ν → (-2147483648 ≤ xv ν w ∧ xv ν w ≤ 2147483647) ∧ (-2147483648 ≤ xv ν x ∧ xv ν x ≤ 2147483647) ∧ (xv ν w = 62 → 0 ≤ xv ν x ∧ xv ν x < 300)) : CM X0 M_write7 (([], [(2, 0, (0, [])), (0, 0, w), (0, 0, x)], (env, [], [], [20], [], [], []), s1, s2), [(20, 5), (23, 0), (24, 0)], [([], [], (env, [], [], [20], [], [], []), [], [])], 2, 0, 0, 3) := by
  intro K B L f ν μ hh hg
  have hb : μ 0 ∈ L ∧ K (μ 0) = 20 := hg.2.2.2.1 0 20 rfl
  obtain ⟨y1, y2, y3⟩ := hyp ν hg.1
  refine hc_write hh hb y1 y2 y3 (fun f' h1 e1 => ⟨_, List.mem_singleton.mpr rfl, K, B, ν, μ, h1, e1, ⟨hg.1, fa0, fa0, ?_, fa0, fa0, fa0⟩, fun i _ => rfl, fun i _ => rfl, rfl⟩)
  intro i k hk
  match i, hk with
  | 0, hk => cases hk; exact exin e1 hb
  | i + 1, hk => cases hk
theorem hm198 {X0 : zC0} (_ : ∀ j, j < 198 → CMj X0 j) : CMj X0 198 := by
  intro mi c hc
  have e : conAt 198 = some (264, c198) := rfl
  rw [e] at hc
  obtain ⟨rfl, rfl⟩ := Prod.mk.inj (Option.some.inj hc)
  rw [mt_write7]
  refine cm_write (fun ν hν => ?_)
  have b0 := hν 0
  have b1 := hν 1
  simp [ebd, c198] at b0 b1
  simp [xv, xvT]
  try omega
theorem hm201 {X0 : zC0} (_ : ∀ j, j < 201 → CMj X0 j) : CMj X0 201 := by
  intro mi c hc
  have e : conAt 201 = some (264, c201) := rfl
  rw [e] at hc
  obtain ⟨rfl, rfl⟩ := Prod.mk.inj (Option.some.inj hc)
  rw [mt_write7]
  refine cm_write (fun ν hν => ?_)
  have b0 := hν 0
  have b1 := hν 1
  simp [ebd, c201] at b0 b1
  simp [xv, xvT]
  try omega
theorem hm211 {X0 : zC0} (_ : ∀ j, j < 211 → CMj X0 j) : CMj X0 211 := by
  intro mi c hc
  have e : conAt 211 = some (264, c211) := rfl
  rw [e] at hc
  obtain ⟨rfl, rfl⟩ := Prod.mk.inj (Option.some.inj hc)
  rw [mt_write7]
  refine cm_write (fun ν hν => ?_)
  have b0 := hν 0
  have b1 := hν 1
  simp [ebd, c211] at b0 b1
  simp [xv, xvT]
  try omega
theorem hm213 {X0 : zC0} (_ : ∀ j, j < 213 → CMj X0 j) : CMj X0 213 := by
  intro mi c hc
  have e : conAt 213 = some (264, c213) := rfl
  rw [e] at hc
  obtain ⟨rfl, rfl⟩ := Prod.mk.inj (Option.some.inj hc)
  rw [mt_write7]
  refine cm_write (fun ν hν => ?_)
  have b0 := hν 0
  have b1 := hν 1
  simp [ebd, c213] at b0 b1
  simp [xv, xvT]
  try omega
theorem hm217 {X0 : zC0} (_ : ∀ j, j < 217 → CMj X0 j) : CMj X0 217 := by
  intro mi c hc
  have e : conAt 217 = some (264, c217) := rfl
  rw [e] at hc
  obtain ⟨rfl, rfl⟩ := Prod.mk.inj (Option.some.inj hc)
  rw [mt_write7]
  refine cm_write (fun ν hν => ?_)
  have b0 := hν 0
  have b1 := hν 1
  simp [ebd, c217] at b0 b1
  simp [xv, xvT]
  try omega
theorem hm219 {X0 : zC0} (_ : ∀ j, j < 219 → CMj X0 j) : CMj X0 219 := by
  intro mi c hc
  have e : conAt 219 = some (264, c219) := rfl
  rw [e] at hc
  obtain ⟨rfl, rfl⟩ := Prod.mk.inj (Option.some.inj hc)
  rw [mt_write7]
  refine cm_write (fun ν hν => ?_)
  have b0 := hν 0
  have b1 := hν 1
  simp [ebd, c219] at b0 b1
  simp [xv, xvT]
  try omega
theorem hm222 {X0 : zC0} (_ : ∀ j, j < 222 → CMj X0 j) : CMj X0 222 := by
  intro mi c hc
  have e : conAt 222 = some (264, c222) := rfl
  rw [e] at hc
  obtain ⟨rfl, rfl⟩ := Prod.mk.inj (Option.some.inj hc)
  rw [mt_write7]
  refine cm_write (fun ν hν => ?_)
  have b0 := hν 0
  have b1 := hν 1
  simp [ebd, c222] at b0 b1
  simp [xv, xvT]
  try omega
theorem hm226 {X0 : zC0} (_ : ∀ j, j < 226 → CMj X0 j) : CMj X0 226 := by
  intro mi c hc
  have e : conAt 226 = some (264, c226) := rfl
  rw [e] at hc
  obtain ⟨rfl, rfl⟩ := Prod.mk.inj (Option.some.inj hc)
  rw [mt_write7]
  refine cm_write (fun ν hν => ?_)
  have b0 := hν 0
  have b1 := hν 1
  simp [ebd, c226] at b0 b1
  simp [xv, xvT]
  try omega
