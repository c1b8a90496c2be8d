/-! worked. -/
abbrev modW : List (Nat × Nat) := [(200, 30), (200, 31), (200, 35), (207, 0), (208, 0), (209, 0), (210, 0), (211, 0), (212, 0), (213, 0), (214, 0), (215, 0)]
def wok (g : Nat → Int) : List Int → Prop
  | [] => True
  | p :: ps => g ps.length = p ∧ wok g ps
theorem wok_cg {g g' : Nat → Int} : ∀ {ps : List Int}, (∀ j, j < ps.length → g' j = g j) → wok g ps → wok g' ps := by
  intro ps
  induction ps with
  | nil => intro _ _; trivial
  | cons p ps ih =>
    intro h hw
    exact ⟨(h ps.length (by simp)).trans hw.1, ih (fun j hj => h j (by simp; omega)) hw.2⟩
abbrev wl (m : Nat) (k x cd vn vt vi : Int) : List (Nat × Value) := [(0, .ref m), (1, .int (Int32.ofInt k)), (2, .int (Int32.ofInt x)), (3, .int (Int32.ofInt cd)), (4, .int (Int32.ofInt vn)), (5, .int (Int32.ofInt vt)), (6, .int (Int32.ofInt vi))]
def WS (X0 : zC0) (K : Nat → Nat) (B : Int) (L : List Nat) (f : Nat → va_E) (K1 : Nat → Nat) (B1 : Int) (L1 : List Nat) (f1 : Nat → va_E) (m wi : Nat) (ps : List Int) : Prop := hok X0.2.2.1 K1 B1 L1 f1 ∧ extC modW K B L f K1 B1 L1 f1 ∧ gi (f1 m) 31 = (ps.length : Int) - 1 ∧ wok (gi (f1 wi)) ps
theorem WS.step {mods : List (Nat × Nat)} {X0 : zC0} {K K1 K2 : Nat → Nat} {B B1 B2 : Int} {L L1 L2 : List Nat} {f f1 f2 : Nat → va_E} {m wi : Nat} {ps : List Int} (h : WS X0 K B L f K1 B1 L1 f1 m wi ps) (hm : m ∈ L ∧ K m = 200) (hwi : wi ∈ L ∧ K wi = 211) (h2 : hok X0.2.2.1 K2 B2 L2 f2) (e : extC mods K1 B1 L1 f1 K2 B2 L2 f2) (hs : ∀ q ∈ mods, q ∈ modW) (h31 : (200, 31) ∉ mods) (h211 : (211, 0) ∉ mods) : WS X0 K B L f K2 B2 L2 f2 m wi ps := by
  have hm1 := exin h.2.1 hm
  have hw1 := exin h.2.1 hwi
  refine ⟨h2, extC_tr h.2.1 (extC_mono e hs), by rw [xg e hm1 h31]; exact h.2.2.1, ?_⟩
  rw [xa e hw1 reg211 h211]
  exact h.2.2.2
theorem hm309 {X0 : zC0} (H : ∀ j, j < 309 → CMj X0 j) : CMj X0 309 := by
  intro mi c hc
  have e : conAt 309 = some (201, c309) := rfl
  rw [e] at hc
  obtain ⟨rfl, rfl⟩ := Prod.mk.inj (Option.some.inj hc)
  rw [mt_worked]
  intro K B L f ν μ hh hg
  have hm : μ 0 ∈ L ∧ K (μ 0) = 200 := hg.2.2.2.1 0 200 rfl
  have hb0 : 0 ≤ ν 0 ∧ ν 0 ≤ 23 := hg.1 0
  have hb1 : 0 ≤ ν 1 ∧ ν 1 ≤ 3 := hg.1 1
  have hb3 : 0 ≤ ν 3 ∧ ν 3 ≤ 4 := hg.1 3
  have hcnt := hg.2.1 ((-1), [(1, 2), ((-1), 0)]) (by decide)
  have hcnt' : ν 0 < ν 2 := by
    have : xv ν ((-1), [(1, 2), ((-1), 0)]) = ν 2 - ν 0 - 1 := by simp [xv, xvT]; omega
    rw [this] at hcnt
    omega
  obtain ⟨tx, htx1, htx2, -⟩ := one_ad hh 203 (by decide) (by decide)
  obtain ⟨wi, hwi1, hwi2, -⟩ := one_ad hh 211 (by decide) (by decide)
  have m8 := mokA hh (show (zkd 201).1 = 2 by decide) (by decide) (hg.2.2.2.2.1 ((201, (8, [])), (0, [(1, 1)])) (by decide))
  have mT := (mokA hh (show (zkd 203).1 = 2 by decide) (by decide) (hg.2.2.2.2.1 ((203, (0, [(705, 1)])), (0, [(1, 2)])) (by decide)) tx htx1 htx2).2
  have mS := (mokA hh (show (zkd 203).1 = 2 by decide) (by decide) (hg.2.2.2.2.1 ((203, (1, [(705, 1), (4, 0)])), (0, [(1, 3)])) (by decide)) tx htx1 htx2).2
  obtain ⟨s, hs⟩ : ∃ s : Nat, ν 1 = s := ⟨(ν 1).toNat, by omega⟩
  obtain ⟨k, hk⟩ : ∃ k : Nat, ν 0 = k := ⟨(ν 0).toNat, by omega⟩
  have iT : (xv ν (0, [(705, 1)])).toNat = 705 * s := by simp [xv, xvT]; omega
  have iS : (xv ν (1, [(705, 1), (4, 0)])).toNat = 705 * s + 1 + 4 * k := by simp [xv, xvT]; omega
  have x2 : xv ν (0, [(1, 2)]) = ν 2 := by simp [xv, xvT]
  have x3 : xv ν (0, [(1, 3)]) = ν 3 := by simp [xv, xvT]
  rw [iT, x2] at mT
  rw [iS, x3] at mS
  obtain ⟨m0, hm0, hkm0, -⟩ := one_ad hh 200 (by decide) (by decide)
  have hP := hok_Psi hh ⟨hm0, hkm0⟩ ⟨htx1, htx2⟩
  obtain ⟨fr0, to, z1, z2, z3, z4, z5⟩ := hP.2 s (by omega) k (by omega) (by rw [mT]; omega) (by rw [mS]; omega) (by rw [mS]; omega)
  generalize hmm : μ 0 = m at hm
  have hwi : wi ∈ L ∧ K wi = 211 := ⟨hwi1, hwi2⟩
  have htx : tx ∈ L ∧ K tx = 203 := ⟨htx1, htx2⟩
  have hav : (c309.1.2.1.map (cv ν μ)) = [.ref m, .int (Int32.ofInt (k : Int))] := by
    show [Value.ref (μ 0), Value.int (Int32.ofInt (xv ν (0, [(1, 0)])))] = _
    have : xv ν (0, [(1, 0)]) = k := by simp [xv, xvT]; omega
    rw [this, hmm]
  show eM X0 0 yX12_worked cX12_worked 9 (some .int) (zrm 6 0 0) (c309.1.2.1.map (cv ν μ)) L f (cpost X0.2.2.1 c309 K B L f ν μ)
  rw [hav]
  refine eM.mk ⟨_, rfl⟩ pnX12 (Nat.le_of_ble_eq_true rfl) (fun E hE _ hret => ?_)
  obtain ⟨l0, D0, cy0, ax0⟩ := X0
  -- the texts stay
  have gtx : ∀ {K1 : Nat → Nat} {B1 : Int} {L1 : List Nat} {f1 : Nat → va_E}, extC modW K B L f K1 B1 L1 f1 → gi (f1 tx) = gi (f tx) := fun e1 => xa e1 htx reg203 (by decide)
  let o := oO (gi (f tx)) (705 * s)
  let v := vV (gi (f tx)) (705 * s)
  let GO : List Int → Int → Int → Int → Prop := fun ps vn vt vi => ∀ (K1 : Nat → Nat) (B1 : Int) (L1 : List Nat) (f1 : Nat → va_E), WS (l0, D0, cy0, ax0) K B L f K1 B1 L1 f1 m wi ps → eW E 0 0 L1 f1 64 (wl m k (1 + (4 * (k : Int) + (705 * (s : Int)))) (97 + (705 * (s : Int))) vn vt vi) []
  let HE : (Nat × Nat × Nat × Nat) → List Int → Prop := fun F ps => v F.2.1 = (F.1 : Int) → ∀ n t : Nat, ((o F.2.1 = 31 ∧ n = F.2.2.1 + 1 ∧ t = F.2.2.2) ∨ (o F.2.1 = 32 ∧ n = F.2.2.1 ∧ t = F.2.2.2 + 1)) → GO ps n t F.2.1
  have hk24 : 0 ≤ (k : Int) ∧ (k : Int) ≤ 23 := by omega
  have hxr : 1 ≤ 1 + (4 * (k : Int) + (705 * (s : Int))) ∧ 1 + (4 * (k : Int) + (705 * (s : Int))) ≤ 2300 := by omega
  have hcr : 97 ≤ 97 + (705 * (s : Int)) ∧ 97 + (705 * (s : Int)) ≤ 2212 := by omega
  -- what lies at a place of the code
  have cTo : ∀ {K1 : Nat → Nat} {B1 : Int} {L1 : List Nat} {f1 : Nat → va_E}, hok cy0 K1 B1 L1 f1 → extC modW K B L f K1 B1 L1 f1 → ∀ b ∈ L1, K1 b = 203 → (0 : Int) ≤ (2 + (1 + (4 * (k : Int) + (705 * (s : Int))))) ∧ gi (f1 b) ((2 + (1 + (4 * (k : Int) + (705 * (s : Int)))) : Int)).toNat = (to : Int) := fun h1 e1 b hb hkb => by
    rw [sol h1 ⟨hb, hkb⟩ (exin e1 htx) (by decide), gtx e1]
    have : ((2 + (1 + (4 * (k : Int) + (705 * (s : Int)))) : Int)).toNat = 705 * s + 1 + 4 * k + 2 := by omega
    rw [this]
    exact ⟨by omega, z2⟩
  have cO : ∀ {K1 : Nat → Nat} {B1 : Int} {L1 : List Nat} {f1 : Nat → va_E}, hok cy0 K1 B1 L1 f1 → extC modW K B L f K1 B1 L1 f1 → ∀ (i : Nat) (w : Int), o i = w → ∀ b ∈ L1, K1 b = 203 → (0 : Int) ≤ (2 * (i : Int) + (97 + (705 * (s : Int)))) ∧ gi (f1 b) ((2 * (i : Int) + (97 + (705 * (s : Int))) : Int)).toNat = w := fun h1 e1 i w hw b hb hkb => by
    rw [sol h1 ⟨hb, hkb⟩ (exin e1 htx) (by decide), gtx e1]
    have : ((2 * (i : Int) + (97 + (705 * (s : Int))) : Int)).toNat = 705 * s + 97 + 2 * i := by omega
    rw [this]
    exact ⟨by omega, hw⟩
  have cV : ∀ {K1 : Nat → Nat} {B1 : Int} {L1 : List Nat} {f1 : Nat → va_E}, hok cy0 K1 B1 L1 f1 → extC modW K B L f K1 B1 L1 f1 → ∀ (i : Nat) (w : Int), v i = w → ∀ b ∈ L1, K1 b = 203 → (0 : Int) ≤ (1 + ((97 + (705 * (s : Int))) + (2 * (i : Int)))) ∧ gi (f1 b) ((1 + ((97 + (705 * (s : Int))) + (2 * (i : Int))) : Int)).toNat = w := fun h1 e1 i w hw b hb hkb => by
    rw [sol h1 ⟨hb, hkb⟩ (exin e1 htx) (by decide), gtx e1]
    have : ((1 + ((97 + (705 * (s : Int))) + (2 * (i : Int))) : Int)).toNat = 705 * s + 97 + 2 * i + 1 := by omega
    rw [this]
    exact ⟨by omega, hw⟩
  have vbd : ∀ i, i < 304 → -2147483648 ≤ v i ∧ v i ≤ 2147483647 := fun i hi => by
    have := arr_bd hh htx (j := 705 * s + 97 + 2 * i + 1) (by decide) (by show 705 * s + 97 + 2 * i + 1 < 2820; omega)
    rw [kbd203 (by omega)] at this
    exact ⟨this.1, this.2.1⟩
  have cD : ∀ {K1 : Nat → Nat} {B1 : Int} {L1 : List Nat} {f1 : Nat → va_E} {ps : List Int} (w : Int), WS (l0, D0, cy0, ax0) K B L f K1 B1 L1 f1 m wi ps → (ps.length : Int) - 1 = w → ∀ b ∈ L1, K1 b = 200 → gi (f1 b) 31 = w := fun w hW hw b hb hkb => by
    rw [sol hW.1 ⟨hb, hkb⟩ (exin hW.2.1 hm) (by decide), hW.2.2.1, hw]
  have drop : ∀ {L1 : List Nat} {f1 : Nat → va_E} {vn vt vi a8 a9 : Int}, eW E 0 0 L1 f1 64 (wl m k (1 + (4 * (k : Int) + (705 * (s : Int)))) (97 + (705 * (s : Int))) vn vt vi) [] → eW E 0 0 L1 f1 64 (wl m k (1 + (4 * (k : Int) + (705 * (s : Int)))) (97 + (705 * (s : Int))) vn vt vi ++ [(7, .int (Int32.ofInt a8)), (8, .int (Int32.ofInt a9))]) [] := fun h => x_sub (fun q hq => List.mem_append_left _ hq) h
  have geq : ∀ {ps : List Int} {a b d a' b' d' : Int}, GO ps a b d → a = a' → b = b' → d = d' → GO ps a' b' d' := fun h h1 h2 h3 => by subst h1 h2 h3; exact h
  have fin0 : ∀ (i n t : Nat) (fr : List (Nat × Nat × Nat × Nat)) (ps : List Int), wsc o v 0 i n t fr → i = to → GO ps n t i := fun i n t fr ps hw hi K1 B1 L1 f1 hW => by
    obtain ⟨hn, ht, -⟩ := hw
    refine s_wkE H hE hW.1 hk24 hxr hcr (v3 := (n : Int)) (v4 := (t : Int)) (v5 := (i : Int)) (v6 := (to : Int)) (by omega) (by omega) (by omega) (by omega) (by omega) (exin hW.2.1 hm) (cTo hW.1 hW.2.1) (fun K2 B2 L2 f2 v7 h2 e2 _ _ _ _ _ _ _ b7 _ hm2 _ => ?_)
    have e02 : extC modW K B L f K2 B2 L2 f2 := extC_tr hW.2.1 (extC_mono e2 (by decide))
    have hb2 : 1 ≤ ν 2 ∧ ν 2 ≤ 24 := hg.1 2
    refine hret 0 0 L2 f2 624 _ _ (Nat.le_refl _) (Nat.le_refl _) (by decide +kernel) (fun ft hft => by cases hft; rfl) ⟨_, List.mem_singleton.mpr rfl, K2, B2, (fun i => [ν 0, ν 1, ν 2, ν 3, v7].getD i 0), μ, h2, e02, ⟨(eok_of (fun i q hq => ?_) (fun i hi => ?_)), fa0, fa0, ?_, fa0, fa0, fa0⟩, ?_, fun i _ => rfl, ?_⟩
    · match i, hq with
      | 0, hq => cases hq; exact hb0
      | 1, hq => cases hq; exact hb1
      | 2, hq => cases hq; exact hb2
      | 3, hq => cases hq; exact hb3
      | 4, hq => cases hq; exact b7
      | i + 5, hq => cases hq
    · match i, hi with
      | 0, hi => exact absurd hi (by decide)
      | 1, hi => exact absurd hi (by decide)
      | 2, hi => exact absurd hi (by decide)
      | 3, hi => exact absurd hi (by decide)
      | 4, hi => exact absurd hi (by decide)
      | i + 5, _ => rfl
    · intro i q hq
      match i, hq with
      | 0, hq => cases hq; rw [hmm]; exact hm2
      | i + 1, hq => cases hq
    · intro i hi
      match i, hi with
      | 0, _ => rfl
      | 1, _ => rfl
      | 2, _ => rfl
      | 3, _ => rfl
      | i + 4, hi => exact absurd hi (by show ¬ i + 4 < 4; omega)
    · show [Value.int (Int32.ofInt (xv (fun i => [ν 0, ν 1, ν 2, ν 3, v7].getD i 0) (0, [(1, 4)])))] = [Value.int (Int32.ofInt v7)]
      have : xv (fun i => [ν 0, ν 1, ν 2, ν 3, v7].getD i 0) (0, [(1, 4)]) = v7 := by simp [xv, xvT]
      rw [this]
  have main : ∀ (N c : Nat), c ≤ N → ∀ (i n t : Nat) (fr : List (Nat × Nat × Nat × Nat)) (ps : List Int), wsc o v c i n t fr → i + c = to → n + t ≤ i → fr.length = ps.length → (∀ F fr', fr = F :: fr' → HE F ps) → GO ps n t i := by
    intro N
    induction N with
    | zero =>
      intro c hcN i n t fr ps hw hi _ _ _
      have hc0 : c = 0 := by omega
      subst hc0
      exact fin0 i n t fr ps hw hi
    | succ N ih =>
      intro c hcN i n t fr ps hw hi hnt hfr hHE
      cases c with
      | zero => exact fin0 i n t fr ps hw hi
      | succ c =>
        have hi3 : i ≤ 303 := by omega
        have hq0 : 0 ≤ ((-1) + ((to : Int) + ((-1) * (i : Int)))) := by omega
        have hw' := hw
        unfold wsc at hw'
        rcases hw' with ⟨a, b⟩ | ⟨a, b, b', b''⟩ | ⟨a, b, b'⟩ | ⟨a, b, b', b''⟩ | ⟨a, b, b', b''⟩ | ⟨a, b, b'⟩ | ⟨a, b, b'⟩ | ⟨a, hf8, j, hvj, hij, hin⟩ | ⟨e', n', t', fr', a, b, b1, b2⟩
        · have nx := ih c (by omega) (i + 1) (n + 1) t fr ps b (by omega) (by omega) hfr hHE
          intro K1 B1 L1 f1 hW
          refine s_wkN H hE hW.1 hk24 hxr hcr (v3 := (n : Int)) (v4 := (t : Int)) (v5 := (i : Int)) (v6 := (to : Int)) (v7 := v i) (by omega) (by omega) (by omega) (by omega) (vbd i (by omega)) hq0 (exin hW.2.1 hm) (cTo hW.1 hW.2.1) (cO hW.1 hW.2.1 i 0 a) (cV hW.1 hW.2.1 i _ rfl) (fun K2 B2 L2 f2 h2 e2 => by
            intros
            exact drop (geq nx (by omega) rfl (by omega) K2 B2 L2 f2 (hW.step hm hwi h2 e2 (by decide) (by decide) (by decide))))
        · have nx := ih c (by omega) (i + 1) (n + 1) t fr ps b'' (by omega) (by omega) hfr hHE
          intro K1 B1 L1 f1 hW
          refine s_wkM H hE hW.1 hk24 hxr hcr (v3 := (n : Int)) (v4 := (t : Int)) (v5 := (i : Int)) (v6 := (to : Int)) (v7 := v i) (by omega) (by omega) (by omega) (by omega) ⟨b, b'⟩ hq0 (exin hW.2.1 hm) (cTo hW.1 hW.2.1) (cO hW.1 hW.2.1 i 1 a) (cV hW.1 hW.2.1 i _ rfl) (fun K2 B2 L2 f2 v8 h2 e2 => by
            intros
            exact drop (geq nx (by omega) rfl (by omega) K2 B2 L2 f2 (hW.step hm hwi h2 e2 (by decide) (by decide) (by decide))))
        · have nx := ih c (by omega) (i + 1) n t fr ps b' (by omega) (by omega) hfr hHE
          intro K1 B1 L1 f1 hW
          refine s_wk2 H hE hW.1 hk24 hxr hcr (v3 := (n : Int)) (v4 := (t : Int)) (v5 := (i : Int)) (v6 := (to : Int)) (v7 := v i) (by omega) (by omega) (by omega) (by omega) (vbd i (by omega)) hq0 (exin hW.2.1 hm) (cTo hW.1 hW.2.1) (cO hW.1 hW.2.1 i 2 a) (cV hW.1 hW.2.1 i _ rfl) (fun K2 B2 L2 f2 h2 e2 => by
            intros
            exact drop (geq nx rfl rfl (by omega) K2 B2 L2 f2 (hW.step hm hwi h2 e2 (by decide) (by decide) (by decide))))
        · have nx := ih c (by omega) (i + 1) (n - 1) t fr ps b'' (by omega) (by omega) hfr hHE
          intro K1 B1 L1 f1 hW
          refine s_wk3 H hE hW.1 hk24 hxr hcr (v3 := (n : Int)) (v4 := (t : Int)) (v5 := (i : Int)) (v6 := (to : Int)) (v7 := o i) (v8 := v i) (by omega) (by omega) (by omega) (by omega) ⟨a, b⟩ (vbd i (by omega)) hq0 (exin hW.2.1 hm) (cTo hW.1 hW.2.1) (cO hW.1 hW.2.1 i _ rfl) (cV hW.1 hW.2.1 i _ rfl) (fun K2 B2 L2 f2 h2 e2 => by
            intros
            exact drop (geq nx (by omega) rfl (by omega) K2 B2 L2 f2 (hW.step hm hwi h2 e2 (by decide) (by decide) (by decide))))
        · have nx := ih c (by omega) (i + 1) (n - 2) (t + 1) fr ps b'' (by omega) (by omega) hfr hHE
          intro K1 B1 L1 f1 hW
          refine s_wk10 H hE hW.1 hk24 hxr hcr (v3 := (n : Int)) (v4 := (t : Int)) (v5 := (i : Int)) (v6 := (to : Int)) (v7 := o i) (v8 := v i) (by omega) (by omega) (by omega) (by omega) ⟨a, b⟩ (vbd i (by omega)) hq0 (exin hW.2.1 hm) (cTo hW.1 hW.2.1) (cO hW.1 hW.2.1 i _ rfl) (cV hW.1 hW.2.1 i _ rfl) (fun K2 B2 L2 f2 h2 e2 => by
            intros
            exact drop (geq nx (by omega) (by omega) (by omega) K2 B2 L2 f2 (hW.step hm hwi h2 e2 (by decide) (by decide) (by decide))))
        · have nx := ih c (by omega) (i + 1) n t fr ps b' (by omega) (by omega) hfr hHE
          intro K1 B1 L1 f1 hW
          refine s_wk20 H hE hW.1 hk24 hxr hcr (v3 := (n : Int)) (v4 := (t : Int)) (v5 := (i : Int)) (v6 := (to : Int)) (v7 := v i) (by omega) (by omega) (by omega) (by omega) (vbd i (by omega)) hq0 (exin hW.2.1 hm) (cTo hW.1 hW.2.1) (cO hW.1 hW.2.1 i 20 a) (cV hW.1 hW.2.1 i _ rfl) (fun K2 B2 L2 f2 h2 e2 => by
            intros
            exact drop (geq nx rfl rfl (by omega) K2 B2 L2 f2 (hW.step hm hwi h2 e2 (by decide) (by decide) (by decide))))
        · have nx := ih c (by omega) (i + 1) n (t - 1) fr ps b' (by omega) (by omega) hfr hHE
          intro K1 B1 L1 f1 hW
          refine s_wk21 H hE hW.1 hk24 hxr hcr (v3 := (n : Int)) (v4 := (t : Int)) (v5 := (i : Int)) (v6 := (to : Int)) (v7 := o i) (v8 := v i) (by omega) (by omega) (by omega) (by omega) (by omega) (vbd i (by omega)) hq0 (exin hW.2.1 hm) (cTo hW.1 hW.2.1) (cO hW.1 hW.2.1 i _ rfl) (cV hW.1 hW.2.1 i _ rfl) (fun K2 B2 L2 f2 h2 e2 => by
            intros
            exact drop (geq nx rfl (by omega) (by omega) K2 B2 L2 f2 (hW.step hm hwi h2 e2 (by decide) (by decide) (by decide))))
        · -- a sum or a count begins
          obtain ⟨c2, j1, j2, j3⟩ := wsc_jump c (i + 1) n t [] i j n t fr hin
          have hj3 : j ≤ 303 := by omega
          have exit : GO ps (1 + (n : Int)) t (1 + (j : Int)) := geq (ih c2 (by omega) (j + 1) (n + 1) t fr ps j3 (by omega) (by omega) hfr hHE) (by omega) rfl (by omega)
          have enter : ∀ p, HE (i, j, n, t) (p :: ps) → GO (p :: ps) n t (1 + (i : Int)) := fun p hp => geq (ih c (by omega) (i + 1) n t ((i, j, n, t) :: fr) (p :: ps) hin (by omega) (by omega) (by simp [hfr]) (fun F fr' hF => by
            have := (List.cons.inj hF).1
            rw [← this]
            exact hp)) rfl rfl (by omega)
          have hd8 : ps.length < 8 := by omega
          -- the next one, or the end
          have take : ∀ (lv : List (Nat × Value)) (p : Int) (K1 : Nat → Nat) (B1 : Int) (L1 : List Nat) (f1 : Nat → va_E), WS (l0, D0, cy0, ax0) K B L f K1 B1 L1 f1 m wi (p :: ps) → (∀ (K2 : Nat → Nat) (B2 : Int) (L2 : List Nat) (f2 : Nat → va_E) (c p' : Int), 0 ≤ c → c ≤ 1 → WS (l0, D0, cy0, ax0) K B L f K2 B2 L2 f2 m wi (p' :: ps) → (c = 1 → p + 1 ≤ p') → eW E 0 0 L2 f2 565 lv [.int (Int32.ofInt c)]) → eW E 0 0 L1 f1 562 lv [.ref m] := fun lv p K1 B1 L1 f1 hW kk => by
            have hm1 := exin hW.2.1 hm
            have hw1 := exin hW.2.1 hwi
            have hd : gi (f1 m) 31 = ps.length := by rw [hW.2.2.1]; simp
            refine w_callV hE (hc_takeNext H hW.1 hm1 hw1 (d := ps.length) hd (by omega)) lX12_ok le_345 mt_takeNext hW.1 hm1.1 hm1.2 (by decide) (by decide) (by decide) rfl rfl (by decide) (by decide +kernel) (fun r L2 f2 _ hp => ?_)
            obtain ⟨K2, B2, h2, e2, c, rfl, c0, c1, hc, hoth⟩ := hp
            dsimp only at h2 e2 hc hoth
            refine kk K2 B2 L2 f2 c (gi (f2 wi) ps.length) c0 c1 ⟨h2, extC_tr hW.2.1 (extC_mono e2 (by decide)), by rw [xg e2 hm1 (by decide), hd]; simp, rfl, wok_cg (fun j hj => hoth j (by omega)) hW.2.2.2.2⟩ (fun h => ?_)
            have := hc h
            rw [hW.2.2.2.1] at this
            exact this
          have ending : ∀ (p nv : Int) (lv : List (Nat × Value)) (K1 : Nat → Nat) (B1 : Int) (L1 : List Nat) (f1 : Nat → va_E), WS (l0, D0, cy0, ax0) K B L f K1 B1 L1 f1 m wi (p :: ps) → (0 ≤ nv ∧ nv ≤ 329) → (∀ (K2 : Nat → Nat) (B2 : Int) (L2 : List Nat) (f2 : Nat → va_E), WS (l0, D0, cy0, ax0) K B L f K2 B2 L2 f2 m wi ps → eW E 0 0 L2 f2 593 lv [.int (Int32.ofInt (1 + nv))]) → eW E 0 0 L1 f1 590 lv [.int (Int32.ofInt nv), .ref m] := fun p nv lv K1 B1 L1 f1 hW hnv kk => by
            have hm1 := exin hW.2.1 hm
            have hw1 := exin hW.2.1 hwi
            have hd : gi (f1 m) 31 = ps.length := by rw [hW.2.2.1]; simp
            refine w_callV hE (hc_endEach H hW.1 hm1 (d := ps.length) hd (by omega) hnv) lX12_ok le_348 mt_endEach hW.1 hm1.1 hm1.2 (by decide) (by decide) (by decide) rfl rfl (by decide) (by decide +kernel) (fun r L2 f2 _ hp => ?_)
            obtain ⟨K2, B2, h2, e2, rfl, h31⟩ := hp
            dsimp only at h2 e2 h31
            refine kk K2 B2 L2 f2 ⟨h2, extC_tr hW.2.1 (extC_mono e2 (by decide)), h31, ?_⟩
            rw [xa e2 hw1 reg211 (by decide)]
            exact hW.2.2.2.2
          have each : ∀ (M : Nat) (p : Int), 8 - p ≤ M → HE (i, j, n, t) (p :: ps) := by
            intro M
            induction M with
            | zero =>
              intro p hp hv n' t' hcase K1 B1 L1 f1 hW
              exfalso
              have h7 := (arr_bd hW.1 (exin hW.2.1 hwi) (j := ps.length) (by decide) (by show ps.length < 10; omega)).2.1
              rw [hW.2.2.2.1] at h7
              have h7' : p ≤ 7 := h7
              omega
            | succ M ihM =>
              intro p hp hv n' t' hcase K1 B1 L1 f1 hW
              replace hv : v j = (i : Int) := hv
              replace hcase : (o j = 31 ∧ n' = n + 1 ∧ t' = t) ∨ (o j = 32 ∧ n' = n ∧ t' = t + 1) := hcase
              show eW E 0 0 L1 f1 64 (wl m k (1 + (4 * (k : Int) + (705 * (s : Int)))) (97 + (705 * (s : Int))) n' t' (j : Int)) []
              rcases hcase with ⟨ho, hn', ht'⟩ | ⟨ho, hn', ht'⟩
              · refine s_wk31 H hE hW.1 hk24 hxr hcr (v3 := (n' : Int)) (v4 := (t' : Int)) (v5 := (j : Int)) (v6 := (to : Int)) (v7 := (i : Int)) (v8 := (ps.length : Int)) (by omega) (by omega) (by omega) (by omega) (by omega) (by omega) (by omega) (exin hW.2.1 hm) (cTo hW.1 hW.2.1) (cO hW.1 hW.2.1 j 31 ho) (cV hW.1 hW.2.1 j _ hv) (cD _ hW (by simp)) (fun K2 B2 L2 f2 h2 e2 => ?_)
                intros
                have hW2 := hW.step hm hwi h2 e2 (by decide) (by decide) (by decide)
                refine take _ p K2 B2 L2 f2 hW2 (fun K3 B3 L3 f3 c p' c0 c1 hW3 hc => ?_)
                refine s_wk565b H hE hW3.1 hk24 hxr hcr (v3 := (-1) + (n' : Int)) (v4 := (t' : Int)) (v5 := (j : Int)) (v6 := 31) (v7 := (i : Int)) (v8 := c) (by omega) (by omega) (by omega) (by decide) (by omega) ⟨c0, c1⟩ (exin hW3.2.1 hm) (fun K4 B4 L4 f4 h4 e4 _ _ _ _ _ _ _ _ bc hm4 => ?_) (fun K4 B4 L4 f4 h4 e4 _ _ _ _ _ _ _ _ bc hm4 => ?_)
                · have hW4 := hW3.step hm hwi h4 e4 (by decide) (by decide) (by decide)
                  have := hc (by omega)
                  exact drop (geq (enter p' (ihM p' (by omega))) (by omega) (by omega) rfl K4 B4 L4 f4 hW4)
                · have hW4 := hW3.step hm hwi h4 e4 (by decide) (by decide) (by decide)
                  refine ending p' ((-1) + (n' : Int)) _ K4 B4 L4 f4 hW4 (by omega) (fun K5 B5 L5 f5 hW5 => ?_)
                  refine s_wk593b H hE hW5.1 hk24 hxr hcr (v3 := (-1) + (n' : Int)) (v4 := (t' : Int)) (v5 := (j : Int)) (v6 := 31) (v7 := (i : Int)) (v8 := 1 + ((-1) + (n' : Int))) (by omega) (by omega) (by omega) (by decide) (by omega) (by omega) (exin hW5.2.1 hm) (fun K6 B6 L6 f6 h6 e6 => ?_)
                  intros
                  exact drop (geq exit (by omega) (by omega) rfl K6 B6 L6 f6 (hW5.step hm hwi h6 e6 (by decide) (by decide) (by decide)))
              · refine s_wk32 H hE hW.1 hk24 hxr hcr (v3 := (n' : Int)) (v4 := (t' : Int)) (v5 := (j : Int)) (v6 := (to : Int)) (v7 := (i : Int)) (v8 := (ps.length : Int)) (by omega) (by omega) (by omega) (by omega) (by omega) (by omega) (by omega) (exin hW.2.1 hm) (cTo hW.1 hW.2.1) (cO hW.1 hW.2.1 j 32 ho) (cV hW.1 hW.2.1 j _ hv) (cD _ hW (by simp)) (fun K2 B2 L2 f2 h2 e2 => ?_)
                intros
                have hW2 := hW.step hm hwi h2 e2 (by decide) (by decide) (by decide)
                refine take _ p K2 B2 L2 f2 hW2 (fun K3 B3 L3 f3 c p' c0 c1 hW3 hc => ?_)
                refine s_wk565b H hE hW3.1 hk24 hxr hcr (v3 := (n' : Int)) (v4 := (-1) + (t' : Int)) (v5 := (j : Int)) (v6 := 32) (v7 := (i : Int)) (v8 := c) (by omega) (by omega) (by omega) (by decide) (by omega) ⟨c0, c1⟩ (exin hW3.2.1 hm) (fun K4 B4 L4 f4 h4 e4 _ _ _ _ _ _ _ _ bc hm4 => ?_) (fun K4 B4 L4 f4 h4 e4 _ _ _ _ _ _ _ _ bc hm4 => ?_)
                · have hW4 := hW3.step hm hwi h4 e4 (by decide) (by decide) (by decide)
                  have := hc (by omega)
                  exact drop (geq (enter p' (ihM p' (by omega))) (by omega) (by omega) rfl K4 B4 L4 f4 hW4)
                · have hW4 := hW3.step hm hwi h4 e4 (by decide) (by decide) (by decide)
                  refine ending p' ((n' : Int)) _ K4 B4 L4 f4 hW4 (by omega) (fun K5 B5 L5 f5 hW5 => ?_)
                  refine s_wk593b H hE hW5.1 hk24 hxr hcr (v3 := (n' : Int)) (v4 := (-1) + (t' : Int)) (v5 := (j : Int)) (v6 := 32) (v7 := (i : Int)) (v8 := 1 + ((n' : Int))) (by omega) (by omega) (by omega) (by decide) (by omega) (by omega) (exin hW5.2.1 hm) (fun K6 B6 L6 f6 h6 e6 => ?_)
                  intros
                  exact drop (geq exit (by omega) (by omega) rfl K6 B6 L6 f6 (hW5.step hm hwi h6 e6 (by decide) (by decide) (by decide)))
          intro K1 B1 L1 f1 hW
          have hdd : (ps.length : Int) ≤ 7 := by omega
          refine s_wk30 H hE hW.1 hk24 hxr hcr (v3 := (n : Int)) (v4 := (t : Int)) (v5 := (i : Int)) (v6 := (to : Int)) (v7 := (j : Int)) (v8 := (ps.length : Int) - 1) (by omega) (by omega) (by omega) (by omega) (by omega) (by omega) hq0 (exin hW.2.1 hm) (cTo hW.1 hW.2.1) (cO hW.1 hW.2.1 i 30 a) (cV hW.1 hW.2.1 i _ hvj) (cD _ hW rfl) (fun K2 B2 L2 f2 v9 v10 h2 e2 _ _ _ _ _ _ _ _ _ _ _ _ _ _ hm2 _ _ _ c31 => ?_) (fun K2 B2 L2 f2 v9 v10 r h2 e2 _ _ _ _ _ _ _ _ _ _ _ _ hm2 hr2 _ c31 _ _ _ => ?_)
          · have hw2 := exin (extC_tr hW.2.1 (extC_mono e2 (show ∀ q ∈ _, q ∈ modW by decide))) hwi
            refine drop (geq exit rfl rfl rfl K2 B2 L2 f2 ⟨h2, extC_tr hW.2.1 (extC_mono e2 (by decide)), c31 m hm2.1 hm2.2, ?_⟩)
            rw [xa e2 (exin hW.2.1 hwi) reg211 (by decide)]
            exact hW.2.2.2
          · have e02 : extC modW K B L f K2 B2 L2 f2 := extC_tr hW.2.1 (extC_mono e2 (by decide))
            have hw2 := exin e02 hwi
            obtain rfl := sol h2 hr2 hw2 (by decide)
            have ei : (1 + ((ps.length : Int) - 1)).toNat = ps.length := by omega
            refine w_ist hE h2 hr2.1 hr2.2 (by decide) (by decide) (by omega) (by show 1 + ((ps.length : Int) - 1) < 10; omega) (by decide) (show bok B2 (kbd 211 _) (-1) from ⟨(by show (-1 : Int) ≤ -1; decide), (by show (-1 : Int) ≤ 7; decide), fun h => by cases h⟩) (by decide +kernel) (fun f3 a1 a2 a3 a4 a5 => ?_)
            have h3 := a4 (XP_oth h2 hr2.2 a1 (fun i hi => by cases hi))
            have gm3 : f3 m = f2 m := a1 m (fun e => by rw [e, hr2.2] at hm2; exact absurd hm2.2 (by decide))
            have hW3 : WS (l0, D0, cy0, ax0) K B L f K2 B2 L2 f3 m r (-1 :: ps) := by
              refine ⟨h3, extC_tr e02 (extC_mono a5 (fun q hq => by rw [List.mem_singleton.mp hq, reg211]; decide)), ?_, ?_, ?_⟩
              · rw [gm3, c31 m hm2.1 hm2.2]
                simp
                omega
              · rw [a2, if_pos ei.symm]
              · refine wok_cg (fun j hj => ?_) hW.2.2.2
                rw [a2, if_neg (by omega), xa e2 (exin hW.2.1 hwi) reg211 (by decide)]
            refine s_wk473 H hE h3 hk24 hxr hcr (v3 := (n : Int)) (v4 := (t : Int)) (v5 := (i : Int)) (v6 := (j : Int)) (v7 := (ps.length : Int)) (by omega) (by omega) (by omega) (by omega) (by omega) hm2 (cD _ hW3 (by simp)) (fun K4 B4 L4 f4 v8 h4 e4 => ?_)
            intros
            have hW4 := hW3.step hm hwi h4 e4 (by decide) (by decide) (by decide)
            refine take _ (-1) K4 B4 L4 f4 hW4 (fun K5 B5 L5 f5 c p' c0 c1 hW5 hc => ?_)
            refine s_wk565a H hE hW5.1 hk24 hxr hcr (v3 := (n : Int)) (v4 := (t : Int)) (v5 := (i : Int)) (v6 := (j : Int)) (v7 := c) (by omega) (by omega) (by omega) (by omega) ⟨c0, c1⟩ (exin hW5.2.1 hm) (fun K6 B6 L6 f6 h6 e6 => ?_) (fun K6 B6 L6 f6 h6 e6 => ?_)
            · intros
              exact drop (geq (enter p' (each (8 - p').toNat p' (by omega))) rfl rfl rfl K6 B6 L6 f6 (hW5.step hm hwi h6 e6 (by decide) (by decide) (by decide)))
            · intros
              have hW6 := hW5.step hm hwi h6 e6 (by decide) (by decide) (by decide)
              refine ending p' n _ K6 B6 L6 f6 hW6 (by omega) (fun K7 B7 L7 f7 hW7 => ?_)
              refine s_wk593a H hE hW7.1 hk24 hxr hcr (v3 := (n : Int)) (v4 := (t : Int)) (v5 := (i : Int)) (v6 := (j : Int)) (v7 := 1 + (n : Int)) (by omega) (by omega) (by omega) (by omega) (by omega) (exin hW7.2.1 hm) (fun K8 B8 L8 f8 h8 e8 => ?_)
              intros
              exact drop (geq exit rfl rfl rfl K8 B8 L8 f8 (hW7.step hm hwi h8 e8 (by decide) (by decide) (by decide)))
        · -- its end
          have hF := hHE (e', i, n', t') fr' a b
          refine hF n t ?_
          rcases b1 with ⟨x1, x2, x3⟩ | ⟨x1, x2, x3⟩
          · exact Or.inl ⟨x1, x2, x3⟩
          · exact Or.inr ⟨x1, x2, x3⟩
  have iX : ((2 + (4 * (k : Int) + (705 * (s : Int)))) : Int).toNat = 705 * s + 1 + 4 * k + 1 := by omega
  refine s_wk0 H hE hh (v0 := (k : Int)) (v1 := (s : Int)) (v2 := (fr0 : Int)) hk24 (by omega) (by omega) hm (fun y hy hky => ?_) (fun y hy hky => ?_) (fun K1 B1 L1 f1 v3 v4 h1 e1 _ _ _ _ _ hm1 _ _ c31 _ c203 => ?_)
  · have := m8 y hy hky
    simp [xv, xvT] at this
    rw [hs] at this
    exact ⟨by decide, this⟩
  · rw [sol hh ⟨hy, hky⟩ htx (by decide), iX]
    exact ⟨by omega, z1⟩
  · have ht1 := exin e1 htx
    have q3 : v3 = fr0 := by
      have := (c203 tx ht1.1 ht1.2).2
      rw [iX, xa e1 htx reg203 (by decide), z1] at this
      exact this.symm
    subst q3
    exact main (to - fr0) (to - fr0) (Nat.le_refl _) fr0 0 0 [] [] z5 (by omega) (by omega) rfl (fun F fr' hF => by cases hF) K1 B1 L1 f1 ⟨h1, extC_mono e1 (by decide), by rw [c31 m hm1.1 hm1.2]; rfl, trivial⟩
