/-! findRoads. -/
theorem reg226 (i : Nat) : reg 226 i = 0 := rfl
theorem kbd226 (j : Nat) : kbd 226 j = (-2147483648, 2147483647, false) := rfl
def BJ (F : Nat) (E : Nat → Nat → Prop) (to : Nat) (d : Nat → Int) : Prop := BI1 F E to d ∧ ∀ j, j < 6 → 0 ≤ d j ∧ d j ≤ 1000000
def ed (A : Nat → Int) (w : Int) (f g : Nat) : Prop := hs (A (22 + 7 * f)) g = true ∧ w ≤ A (19 + 7 * g)
theorem hc_findRoads {X0 : zC0} (H : ∀ j, j < 342 → CMj X0 j) {K : Nat → Nat} {B : Int} {L : List Nat} {f : Nat → va_E} (hh : hok X0.2.2.1 K B L f) {m a ro F to : Nat} (hm : m ∈ L ∧ K m = 200) (ha : a ∈ L ∧ K a = 201) (hro : ro ∈ L ∧ K ro = 226) (hF : gi (f a) 0 = F) (hF6 : F ≤ 6) (hto : to < F) {w : Int} (hw : (-2147483648) ≤ w ∧ w ≤ 2147483647) : HC X0 M_findRoads 3 3 [(226, 0)] [.ref m, .int (Int32.ofInt (to : Int)), .int (Int32.ofInt w)] K B L f (fun _ _ _ f' _ => BJ F (ed (gi (f a)) w) to (gi (f' ro)) ∧ BI2 F (ed (gi (f a)) w) to (gi (f' ro)) F) := by
  refine eM.mk rfl pnX12 (Nat.le_of_ble_eq_true rfl) (fun E hE _ hret => ?_)
  obtain ⟨l0, D0, cy0, ax0⟩ := X0
  have ga : ∀ {K1 : Nat → Nat} {B1 : Int} {L1 : List Nat} {f1 : Nat → va_E}, extC [(226, 0)] K B L f K1 B1 L1 f1 → gi (f1 a) = gi (f a) := fun e1 => ext1 e1 ha (fun i hi => by simp at hi)
  have htb : (-2147483648 : Int) ≤ (to : Int) ∧ (to : Int) ≤ 2147483647 := by omega
  -- a number of the row is written
  have wr : ∀ (pc : Nat) (lv : List (Nat × Value)) (j : Nat) (x : Int) (K1 : Nat → Nat) (B1 : Int) (L1 : List Nat) (f1 : Nat → va_E), decode cX12_findRoads pc = .ok (.iastore, 1) → j < 6 → (0 ≤ x ∧ x ≤ 1000000) → hok cy0 K1 B1 L1 f1 → extC [(226, 0)] K B L f K1 B1 L1 f1 → (∀ f2 : Nat → va_E, hok cy0 K1 B1 L1 f2 → extC [(226, 0)] K B L f K1 B1 L1 f2 → (∀ i, gi (f2 ro) i = if i = j then x else gi (f1 ro) i) → eW E 0 0 L1 f2 (pc + 1) lv []) → eW E 0 0 L1 f1 pc lv [.int (Int32.ofInt x), .int (Int32.ofInt (j : Int)), .ref ro] := fun pc lv j x K1 B1 L1 f1 hpc hj hx h1 e1 kk => by
    have hr := exin e1 hro
    refine w_ist hE h1 hr.1 hr.2 (by decide) (by decide) (by omega) (by show (j : Int) < 6; omega) (by omega) (by rw [kbd226]; exact ⟨(by show (-2147483648 : Int) ≤ x; omega), (by show x ≤ (2147483647 : Int); omega), fun h => by cases h⟩) hpc (fun f2 a1 a2 a3 a4 a5 => ?_)
    exact kk f2 (a4 (XP_oth h1 hr.2 a1 (fun i hi => by cases hi))) (extC_tr e1 (extC_mono a5 (fun q hq => by rw [List.mem_singleton.mp hq, reg226]; decide))) (fun i => by rw [a2, Int.toNat_natCast])
  -- the innermost loop
  have l4 : ∀ (N r f0 g : Nat), g + N = F → r < F → f0 < F → ∀ (kk : ∀ (K2 : Nat → Nat) (B2 : Int) (L2 : List Nat) (f2 : Nat → va_E), hok cy0 K2 B2 L2 f2 → extC [(226, 0)] K B L f K2 B2 L2 f2 → BJ F (ed (gi (f a)) w) to (gi (f2 ro)) → BI2 F (ed (gi (f a)) w) to (gi (f2 ro)) r → (∀ f', f' < f0 → ∀ k, k ≤ r + 1 → rch F (ed (gi (f a)) w) to k f' → gi (f2 ro) f' ≤ k) → (∀ g', g' < F → ed (gi (f a)) w f0 g' → ∀ k, k ≤ r → rch F (ed (gi (f a)) w) to k g' → gi (f2 ro) f0 ≤ k + 1) → eW E 0 0 L2 f2 139 [(0, .ref m), (1, .int (Int32.ofInt (to : Int))), (2, .int (Int32.ofInt w)), (3, .int (Int32.ofInt (r : Int))), (4, .int (Int32.ofInt (f0 : Int))), (5, .int (Int32.ofInt (F : Int)))] []) (K1 : Nat → Nat) (B1 : Int) (L1 : List Nat) (f1 : Nat → va_E), hok cy0 K1 B1 L1 f1 → extC [(226, 0)] K B L f K1 B1 L1 f1 → BJ F (ed (gi (f a)) w) to (gi (f1 ro)) → BI2 F (ed (gi (f a)) w) to (gi (f1 ro)) r → (∀ f', f' < f0 → ∀ k, k ≤ r + 1 → rch F (ed (gi (f a)) w) to k f' → gi (f1 ro) f' ≤ k) → (∀ g', g' < g → ed (gi (f a)) w f0 g' → ∀ k, k ≤ r → rch F (ed (gi (f a)) w) to k g' → gi (f1 ro) f0 ≤ k + 1) → eW E 0 0 L1 f1 61 [(0, .ref m), (1, .int (Int32.ofInt (to : Int))), (2, .int (Int32.ofInt w)), (3, .int (Int32.ofInt (r : Int))), (4, .int (Int32.ofInt (f0 : Int))), (5, .int (Int32.ofInt (g : Int)))] [] := by
    intro N
    induction N with
    | zero =>
      intro r f0 g hg hr hf0 kk K1 B1 L1 f1 h1 e1 b1 b2 c1 c2
      have hgF : g = F := by omega
      subst hgF
      refine s_fr61 H hE h1 (v0 := (to : Int)) (v1 := w) (v2 := (r : Int)) (v3 := (f0 : Int)) (v4 := (g : Int)) htb hw (by omega) (by omega) (by omega) (exin e1 hm) (fun K2 B2 L2 f2 v5 v6 h2 e2 _ _ _ _ _ _ _ hq hm2 _ c0 => ?_) (fun K2 B2 L2 f2 v5 h2 e2 _ _ _ _ _ _ hq hm2 c0 => ?_)
      · exfalso
        have ha2 := exin (extC_tr e1 (extC_mono e2 (by decide))) ha
        have := (c0 a ha2.1 ha2.2).2
        rw [ga (extC_tr e1 (extC_mono e2 (by decide)))] at this
        have h0 : ((0 : Int)).toNat = 0 := rfl
        rw [h0, hF] at this
        omega
      · have g2 : gi (f2 ro) = gi (f1 ro) := ext0 e2 (exin e1 hro).1
        exact kk K2 B2 L2 f2 h2 (extC_tr e1 (extC_mono e2 (by decide))) (by rw [g2]; exact b1) (by rw [g2]; exact b2) (by rw [g2]; exact c1) (by rw [g2]; exact c2)
    | succ N ih =>
      intro r f0 g hg hr hf0 kk K1 B1 L1 f1 h1 e1 b1 b2 c1 c2
      have hgF : g < F := by omega
      -- on to the next
      have nx : ∀ (K2 : Nat → Nat) (B2 : Int) (L2 : List Nat) (f2 : Nat → va_E), hok cy0 K2 B2 L2 f2 → extC [(226, 0)] K B L f K2 B2 L2 f2 → BJ F (ed (gi (f a)) w) to (gi (f2 ro)) → BI2 F (ed (gi (f a)) w) to (gi (f2 ro)) r → (∀ f', f' < f0 → ∀ k, k ≤ r + 1 → rch F (ed (gi (f a)) w) to k f' → gi (f2 ro) f' ≤ k) → (∀ g', g' < g + 1 → ed (gi (f a)) w f0 g' → ∀ k, k ≤ r → rch F (ed (gi (f a)) w) to k g' → gi (f2 ro) f0 ≤ k + 1) → eW E 0 0 L2 f2 133 [(0, .ref m), (1, .int (Int32.ofInt (to : Int))), (2, .int (Int32.ofInt w)), (3, .int (Int32.ofInt (r : Int))), (4, .int (Int32.ofInt (f0 : Int))), (5, .int (Int32.ofInt (g : Int)))] [] := fun K2 B2 L2 f2 h2 e2 d1 d2 d3 d4 => by
        refine s_fr133 H hE h2 (v0 := (to : Int)) (v1 := w) (v2 := (r : Int)) (v3 := (f0 : Int)) (v4 := (g : Int)) htb hw (by omega) (by omega) (by omega) (exin e2 hm) (fun K3 B3 L3 f3 h3 e3 => ?_)
        intros
        have g3 : gi (f3 ro) = gi (f2 ro) := ext0 e3 (exin e2 hro).1
        have : (1 + (g : Int)) = ((g + 1 : Nat) : Int) := by omega
        rw [this]
        exact ih r f0 (g + 1) (by omega) hr hf0 kk K3 B3 L3 f3 h3 (extC_tr e2 (extC_mono e3 (by decide))) (by rw [g3]; exact d1) (by rw [g3]; exact d2) (by rw [g3]; exact d3) (by rw [g3]; exact d4)
      have none : ¬ ed (gi (f a)) w f0 g → ∀ g', g' < g + 1 → ed (gi (f a)) w f0 g' → ∀ k, k ≤ r → rch F (ed (gi (f a)) w) to k g' → gi (f1 ro) f0 ≤ k + 1 := fun hn g' hg' he => by
        by_cases hgg : g' = g
        · subst hgg
          exact absurd he hn
        · exact c2 g' (by omega) he
      refine s_fr61 H hE h1 (v0 := (to : Int)) (v1 := w) (v2 := (r : Int)) (v3 := (f0 : Int)) (v4 := (g : Int)) htb hw (by omega) (by omega) (by omega) (exin e1 hm) (fun K2 B2 L2 f2 v5 v6 h2 e2 _ _ _ _ _ _ _ hq hm2 c5 _ => ?_) (fun K2 B2 L2 f2 v5 h2 e2 _ _ _ _ _ _ hq hm2 c0 => ?_)
      · have e02 := extC_tr e1 (extC_mono e2 (show ∀ q ∈ [], q ∈ [(226, 0)] by decide))
        have ha2 := exin e02 ha
        have g2 : gi (f2 ro) = gi (f1 ro) := ext0 e2 (exin e1 hro).1
        have q5 : gi (f a) (22 + 7 * f0) = v5 := by
          have := (c5 a ha2.1 ha2.2).2
          rw [ga e02] at this
          have hi : ((22 + (7 * (f0 : Int))) : Int).toNat = 22 + 7 * f0 := by omega
          rw [hi] at this
          exact this
        refine w_callS hE (hc_has h2 v5 (g : Int)) lX12_ok le_125 mt_has (by decide) rfl rfl (by decide) (by decide +kernel) (fun rv L3 f3 _ hp => ?_)
        obtain ⟨K3, B3, h3, e3, rfl, hf3⟩ := hp
        dsimp only at h3 e3 hf3
        have e03 := extC_tr e02 (extC_mono e3 (show ∀ q ∈ [], q ∈ [(226, 0)] by decide))
        have g3 : gi (f3 ro) = gi (f1 ro) := by rw [hf3, g2]
        refine s_fr85 H hE h3 (v0 := (to : Int)) (v1 := w) (v2 := (r : Int)) (v3 := (f0 : Int)) (v4 := (g : Int)) htb hw (by omega) (by omega) (by omega) (by split <;> decide) (exin e03 hm) (fun K4 B4 L4 f4 h4 e4 _ _ _ _ _ bc hm4 => ?_) (fun K4 B4 L4 f4 h4 e4 _ _ _ _ _ bc hm4 => ?_)
        all_goals have e04 := extC_tr e03 (extC_mono e4 (show ∀ q ∈ [], q ∈ [(226, 0)] by decide))
        all_goals have g4 : gi (f4 ro) = gi (f1 ro) := by rw [ext0 e4 (exin e03 hro).1, g3]
        · have hsT : hs v5 g = true := by
            cases hq : hs v5 g with
            | true => rfl
            | false => rw [hq] at bc; simp at bc
          refine w_callV hE (hc_canCome H h4 hm4 (exin e04 ha) (g := g) (by omega) hw) lX12_ok le_487 mt_canCome h4 hm4.1 hm4.2 (by decide) (by decide) (by decide) rfl rfl (by decide) (by decide +kernel) (fun rv L5 f5 _ hp => ?_)
          obtain ⟨K5, B5, h5, e5, rfl⟩ := hp
          dsimp only at h5 e5
          have e05 := extC_tr e04 (extC_mono e5 (show ∀ q ∈ [], q ∈ [(226, 0)] by decide))
          have g5 : gi (f5 ro) = gi (f1 ro) := by rw [ext0 e5 (exin e04 hro).1, g4]
          rw [ga e04]
          refine s_fr95 H hE h5 (v0 := (to : Int)) (v1 := w) (v2 := (r : Int)) (v3 := (f0 : Int)) (v4 := (g : Int)) htb hw (by omega) (by omega) (by omega) (by split <;> decide) (exin e05 hm) (fun K6 B6 L6 f6 h6 e6 _ _ _ _ _ bc6 hm6 => ?_) (fun K6 B6 L6 f6 h6 e6 _ _ _ _ _ bc6 hm6 => ?_)
          all_goals have e06 := extC_tr e05 (extC_mono e6 (show ∀ q ∈ [], q ∈ [(226, 0)] by decide))
          all_goals have g6 : gi (f6 ro) = gi (f1 ro) := by rw [ext0 e6 (exin e05 hro).1, g5]
          · have hE2 : ed (gi (f a)) w f0 g := by
              refine ⟨by rw [q5]; exact hsT, ?_⟩
              by_cases h : w ≤ gi (f a) (19 + 7 * g)
              · exact h
              · rw [if_neg h] at bc6
                omega
            have dg := b1.2 g (by omega)
            have df := b1.2 f0 (by omega)
            refine s_fr98 H hE h6 (v0 := (to : Int)) (v1 := w) (v2 := (r : Int)) (v3 := (f0 : Int)) (v4 := (g : Int)) (v5 := gi (f1 ro) g) (v6 := gi (f1 ro) f0) htb hw (by omega) (by omega) (by omega) dg df hm6 (fun y hy hky => by rw [sol h6 ⟨hy, hky⟩ (exin e06 hro) (by decide), Int.toNat_natCast, g6]; exact ⟨by omega, rfl⟩) (fun y hy hky => by rw [sol h6 ⟨hy, hky⟩ (exin e06 hro) (by decide), Int.toNat_natCast, g6]; exact ⟨by omega, rfl⟩) (fun K7 B7 L7 f7 r7 h7 e7 _ _ _ _ _ _ _ hlt hm7 hr7 _ _ => ?_) (fun K7 B7 L7 f7 h7 e7 _ _ _ _ _ _ _ hge hm7 _ _ => ?_)
            all_goals have e07 := extC_tr e06 (extC_mono e7 (show ∀ q ∈ [], q ∈ [(226, 0)] by decide))
            all_goals have g7 : gi (f7 ro) = gi (f1 ro) := by rw [ext0 e7 (exin e06 hro).1, g6]
            · obtain rfl := sol h7 hr7 (exin e07 hro) (by decide)
              refine wr 132 _ f0 (1 + gi (f1 r7) g) K7 B7 L7 f7 (by decide +kernel) (by omega) (by omega) h7 e07 (fun f8 h8 e8 hd => ?_)
              have hd' : ∀ i, gi (f8 r7) i = if i = f0 then 1 + gi (f1 r7) g else gi (f1 r7) i := fun i => by rw [hd, g7]
              have hle : ∀ x, gi (f8 r7) x ≤ gi (f1 r7) x := fun x => by
                rw [hd']
                split
                · rename_i hx
                  rw [hx]
                  omega
                · exact Int.le_refl _
              refine nx K7 B7 L7 f8 h8 e8 ⟨BI1_up b1.1 hf0 hgF hE2 (by omega) (by rw [hd', if_pos rfl]; omega) (fun x hx => by rw [hd', if_neg hx]), fun j hj => by
                have := b1.2 j hj
                rw [hd']
                split <;> omega⟩ (BI2_mono b2 hle) (fun f' hf' k hk hr' => Int.le_trans (hle f') (c1 f' hf' k hk hr')) (fun g' hg' he k hk hr' => ?_)
              by_cases hgg : g' = g
              · subst hgg
                have := b2 k hk g' hgF hr'
                rw [hd', if_pos rfl]
                omega
              · exact Int.le_trans (hle f0) (c2 g' (by omega) he k hk hr')
            · refine nx K7 B7 L7 f7 h7 e07 (by rw [g7]; exact b1) (by rw [g7]; exact b2) (by rw [g7]; exact c1) (fun g' hg' he k hk hr' => ?_)
              rw [g7]
              by_cases hgg : g' = g
              · subst hgg
                have := b2 k hk g' hgF hr'
                omega
              · exact c2 g' (by omega) he k hk hr'
          · refine nx K6 B6 L6 f6 h6 e06 (by rw [g6]; exact b1) (by rw [g6]; exact b2) (by rw [g6]; exact c1) (by
              rw [g6]
              refine none (fun he => ?_)
              rw [if_pos he.2] at bc6
              omega)
        · refine nx K4 B4 L4 f4 h4 e04 (by rw [g4]; exact b1) (by rw [g4]; exact b2) (by rw [g4]; exact c1) (by
            rw [g4]
            refine none (fun he => ?_)
            have h1' := he.1
            rw [q5] at h1'
            rw [if_pos h1'] at bc
            omega)
      · exfalso
        have ha2 := exin (extC_tr e1 (extC_mono e2 (by decide))) ha
        have := (c0 a ha2.1 ha2.2).2
        rw [ga (extC_tr e1 (extC_mono e2 (by decide)))] at this
        have h0 : ((0 : Int)).toNat = 0 := rfl
        rw [h0, hF] at this
        omega
  have inc : ∀ k : Nat, k < 1000 → Int32.ofInt (k : Int) + Int32.ofInt 1 = Int32.ofInt ((k + 1 : Nat) : Int) := fun k hk => by
    apply Int32.toInt_inj.mp
    rw [Int32.toInt_add, i32i (z := (k : Int)) (by omega) (by omega), i32i (z := ((k + 1 : Nat) : Int)) (by omega) (by omega)]
    have : (Int32.ofInt 1).toInt = 1 := by decide +kernel
    rw [this]
    exact Int.bmod_eq_of_le (by omega) (by omega)
  have z0 : ((0 : Int)).toNat = 0 := rfl
  -- a FIELD after another
  have l3 : ∀ (N r f0 : Nat), f0 + N = F → r < F → ∀ (kk : ∀ (K2 : Nat → Nat) (B2 : Int) (L2 : List Nat) (f2 : Nat → va_E), hok cy0 K2 B2 L2 f2 → extC [(226, 0)] K B L f K2 B2 L2 f2 → BJ F (ed (gi (f a)) w) to (gi (f2 ro)) → BI2 F (ed (gi (f a)) w) to (gi (f2 ro)) (r + 1) → eW E 0 0 L2 f2 145 [(0, .ref m), (1, .int (Int32.ofInt (to : Int))), (2, .int (Int32.ofInt w)), (3, .int (Int32.ofInt (r : Int)))] []) (K1 : Nat → Nat) (B1 : Int) (L1 : List Nat) (f1 : Nat → va_E), hok cy0 K1 B1 L1 f1 → extC [(226, 0)] K B L f K1 B1 L1 f1 → BJ F (ed (gi (f a)) w) to (gi (f1 ro)) → BI2 F (ed (gi (f a)) w) to (gi (f1 ro)) r → (∀ f', f' < f0 → ∀ k, k ≤ r + 1 → rch F (ed (gi (f a)) w) to k f' → gi (f1 ro) f' ≤ k) → eW E 0 0 L1 f1 47 [(0, .ref m), (1, .int (Int32.ofInt (to : Int))), (2, .int (Int32.ofInt w)), (3, .int (Int32.ofInt (r : Int))), (4, .int (Int32.ofInt (f0 : Int)))] [] := by
    intro N
    induction N with
    | zero =>
      intro r f0 hf hr kk K1 B1 L1 f1 h1 e1 b1 b2 c1
      have hfF : f0 = F := by omega
      subst hfF
      refine s_fr47 H hE h1 (v0 := (to : Int)) (v1 := w) (v2 := (r : Int)) (v3 := (f0 : Int)) htb hw (by omega) (by omega) (exin e1 hm) (fun K2 B2 L2 f2 v4 h2 e2 _ _ _ _ _ hq hm2 c0 => ?_) (fun K2 B2 L2 f2 v4 h2 e2 _ _ _ _ _ hq hm2 c0 => ?_)
      all_goals have e02 := extC_tr e1 (extC_mono e2 (show ∀ q ∈ [], q ∈ [(226, 0)] by decide))
      all_goals have ha2 := exin e02 ha
      all_goals have q4 := (c0 a ha2.1 ha2.2).2
      all_goals rw [ga e02, z0, hF] at q4
      · omega
      · have g2 : gi (f2 ro) = gi (f1 ro) := ext0 e2 (exin e1 hro).1
        refine x_sub (lv' := [(0, .ref m), (1, .int (Int32.ofInt (to : Int))), (2, .int (Int32.ofInt w)), (3, .int (Int32.ofInt (r : Int)))]) (fun q hq => List.mem_append_left [(4, Value.int (Int32.ofInt (f0 : Int)))] hq) ?_
        refine kk K2 B2 L2 f2 h2 e02 (by rw [g2]; exact b1) (fun k hk f' hf' hr' => ?_)
        rw [g2]
        exact c1 f' hf' k hk hr'
    | succ N ih =>
      intro r f0 hf hr kk K1 B1 L1 f1 h1 e1 b1 b2 c1
      refine s_fr47 H hE h1 (v0 := (to : Int)) (v1 := w) (v2 := (r : Int)) (v3 := (f0 : Int)) htb hw (by omega) (by omega) (exin e1 hm) (fun K2 B2 L2 f2 v4 h2 e2 _ _ _ _ _ hq hm2 c0 => ?_) (fun K2 B2 L2 f2 v4 h2 e2 _ _ _ _ _ hq hm2 c0 => ?_)
      all_goals have e02 := extC_tr e1 (extC_mono e2 (show ∀ q ∈ [], q ∈ [(226, 0)] by decide))
      all_goals have ha2 := exin e02 ha
      all_goals have q4 := (c0 a ha2.1 ha2.2).2
      all_goals rw [ga e02, z0, hF] at q4
      · have g2 : gi (f2 ro) = gi (f1 ro) := ext0 e2 (exin e1 hro).1
        refine l4 F r f0 0 (by omega) hr (by omega) (fun K3 B3 L3 f3 h3 e3 d1 d2 d3 d4 => ?_) K2 B2 L2 f2 h2 e02 (by rw [g2]; exact b1) (by rw [g2]; exact b2) (by rw [g2]; exact c1) (fun g' hg' => absurd hg' (by omega))
        refine x_sub (lv' := [(4, .int (Int32.ofInt (f0 : Int))), (0, .ref m), (1, .int (Int32.ofInt (to : Int))), (2, .int (Int32.ofInt w)), (3, .int (Int32.ofInt (r : Int)))]) (fun q hq => by
          simp only [List.mem_cons, List.not_mem_nil, or_false] at hq ⊢
          rcases hq with h | h | h | h | h <;> simp [h]) ?_
        refine x_iinc hE (i := 4) (z := 1) (x := Int32.ofInt (f0 : Int)) (v := Int32.ofInt ((f0 + 1 : Nat) : Int)) (by decide +kernel) 0 rfl (inc f0 (by omega)) (by decide) rfl ?_
        refine x_goto hE (off := -95) (tgt := 47) (by decide +kernel) rfl ?_
        refine x_sub (lv' := [(0, .ref m), (1, .int (Int32.ofInt (to : Int))), (2, .int (Int32.ofInt w)), (3, .int (Int32.ofInt (r : Int))), (4, .int (Int32.ofInt ((f0 + 1 : Nat) : Int)))]) (fun q hq => by
          simp only [List.mem_cons, List.not_mem_nil, or_false] at hq
          rcases hq with h | h | h | h | h <;> simp [h, Value.category]) ?_
        refine ih r (f0 + 1) (by omega) hr kk K3 B3 L3 f3 h3 e3 d1 d2 (fun f' hf' k hk hr' => ?_)
        by_cases hff : f' = f0
        · subst hff
          cases k with
          | zero => exact d2 0 (by omega) f' (by omega) hr'
          | succ k =>
            obtain ⟨g', x1, x2, x3⟩ := hr'
            have := d4 g' x1 x2 k (by omega) x3
            omega
        · exact d3 f' (by omega) k hk hr'
      · omega
  -- a round after another
  have l2 : ∀ (N r : Nat), r + N = F → ∀ (K1 : Nat → Nat) (B1 : Int) (L1 : List Nat) (f1 : Nat → va_E), hok cy0 K1 B1 L1 f1 → extC [(226, 0)] K B L f K1 B1 L1 f1 → BJ F (ed (gi (f a)) w) to (gi (f1 ro)) → BI2 F (ed (gi (f a)) w) to (gi (f1 ro)) r → eW E 0 0 L1 f1 34 [(0, .ref m), (1, .int (Int32.ofInt (to : Int))), (2, .int (Int32.ofInt w)), (3, .int (Int32.ofInt (r : Int)))] [] := by
    intro N
    induction N with
    | zero =>
      intro r hr K1 B1 L1 f1 h1 e1 b1 b2
      have hrF : r = F := by omega
      subst hrF
      refine s_fr34 H hE h1 (v0 := (to : Int)) (v1 := w) (v2 := (r : Int)) htb hw (by omega) (exin e1 hm) (fun K2 B2 L2 f2 v3 h2 e2 _ _ _ _ hq hm2 c0 => ?_) (fun K2 B2 L2 f2 v3 h2 e2 _ _ _ _ hq hm2 c0 => ?_)
      all_goals have e02 := extC_tr e1 (extC_mono e2 (show ∀ q ∈ [], q ∈ [(226, 0)] by decide))
      all_goals have ha2 := exin e02 ha
      all_goals have q4 := (c0 a ha2.1 ha2.2).2
      all_goals rw [ga e02, z0, hF] at q4
      · omega
      · have g2 : gi (f2 ro) = gi (f1 ro) := ext0 e2 (exin e1 hro).1
        exact hret 0 0 L2 f2 151 _ (Nat.le_refl _) (Nat.le_refl _) (by decide +kernel) ⟨K2, B2, h2, e02, by rw [g2]; exact b1, by rw [g2]; exact b2⟩
    | succ N ih =>
      intro r hr K1 B1 L1 f1 h1 e1 b1 b2
      refine s_fr34 H hE h1 (v0 := (to : Int)) (v1 := w) (v2 := (r : Int)) htb hw (by omega) (exin e1 hm) (fun K2 B2 L2 f2 v3 h2 e2 _ _ _ _ hq hm2 c0 => ?_) (fun K2 B2 L2 f2 v3 h2 e2 _ _ _ _ hq hm2 c0 => ?_)
      all_goals have e02 := extC_tr e1 (extC_mono e2 (show ∀ q ∈ [], q ∈ [(226, 0)] by decide))
      all_goals have ha2 := exin e02 ha
      all_goals have q4 := (c0 a ha2.1 ha2.2).2
      all_goals rw [ga e02, z0, hF] at q4
      · have g2 : gi (f2 ro) = gi (f1 ro) := ext0 e2 (exin e1 hro).1
        refine l3 F r 0 (by omega) (by omega) (fun K3 B3 L3 f3 h3 e3 d1 d2 => ?_) K2 B2 L2 f2 h2 e02 (by rw [g2]; exact b1) (by rw [g2]; exact b2) (fun f' hf' => absurd hf' (by omega))
        refine x_iinc hE (i := 3) (z := 1) (x := Int32.ofInt (r : Int)) (v := Int32.ofInt ((r + 1 : Nat) : Int)) (by decide +kernel) 3 rfl (inc r (by omega)) (by decide) rfl ?_
        refine x_goto hE (off := -114) (tgt := 34) (by decide +kernel) rfl ?_
        refine x_sub (lv' := [(0, .ref m), (1, .int (Int32.ofInt (to : Int))), (2, .int (Int32.ofInt w)), (3, .int (Int32.ofInt ((r + 1 : Nat) : Int)))]) (fun q hq => by
          simp only [List.mem_cons, List.not_mem_nil, or_false] at hq
          rcases hq with h | h | h | h <;> simp [h, Value.category]) ?_
        exact ih (r + 1) (by omega) K3 B3 L3 f3 h3 e3 d1 d2
      · omega
  -- the first numbers
  have l1 : ∀ (N k : Nat), k + N = 6 → ∀ (K1 : Nat → Nat) (B1 : Int) (L1 : List Nat) (f1 : Nat → va_E), hok cy0 K1 B1 L1 f1 → extC [(226, 0)] K B L f K1 B1 L1 f1 → (∀ j, j < k → gi (f1 ro) j = if j = to then 0 else 1000000) → eW E 0 0 L1 f1 2 [(0, .ref m), (1, .int (Int32.ofInt (to : Int))), (2, .int (Int32.ofInt w)), (3, .int (Int32.ofInt (k : Int)))] [] := by
    intro N
    induction N with
    | zero =>
      intro k hk K1 B1 L1 f1 h1 e1 hd
      have hk6 : k = 6 := by omega
      subst hk6
      refine s_fr2c H hE h1 (v0 := (to : Int)) (v1 := w) htb hw (exin e1 hm) (fun K2 B2 L2 f2 h2 e2 _ _ hm2 => ?_)
      refine x_sub (lv' := [(0, .ref m), (1, .int (Int32.ofInt (to : Int))), (2, .int (Int32.ofInt w))]) (fun q hq => List.mem_append_left [(3, Value.int (Int32.ofInt 6))] hq) ?_
      refine s_fr32 H hE h2 (v0 := (to : Int)) (v1 := w) htb hw hm2 (fun K3 B3 L3 f3 h3 e3 _ _ hm3 => ?_)
      have e02 := extC_tr e1 (extC_mono e2 (show ∀ q ∈ [], q ∈ [(226, 0)] by decide))
      have e03 := extC_tr e02 (extC_mono e3 (show ∀ q ∈ [], q ∈ [(226, 0)] by decide))
      have g3 : gi (f3 ro) = gi (f1 ro) := by rw [ext0 e3 (exin e02 hro).1, ext0 e2 (exin e1 hro).1]
      refine l2 F 0 (by omega) K3 B3 L3 f3 h3 e03 ⟨fun j hj => ?_, fun j hj => ?_⟩ (fun j hj x hx hr' => ?_)
      · rw [g3, hd j (by omega)]
        split
        · rename_i h
          exact ⟨by decide, fun _ => Or.inl ⟨h, rfl⟩⟩
        · exact ⟨by decide, fun h => by omega⟩
      · rw [g3, hd j (by omega)]
        split <;> decide
      · have hj0 : j = 0 := by omega
        subst hj0
        have hx' : x = to := hr'
        rw [g3, hd x (by omega), if_pos hx']
        decide
    | succ N ih =>
      intro k hk K1 B1 L1 f1 h1 e1 hd
      have on' : ∀ (K2 : Nat → Nat) (B2 : Int) (L2 : List Nat) (f2 : Nat → va_E), hok cy0 K2 B2 L2 f2 → extC [(226, 0)] K B L f K2 B2 L2 f2 → (∀ j, j < k + 1 → gi (f2 ro) j = if j = to then 0 else 1000000) → eW E 0 0 L2 f2 26 [(0, .ref m), (1, .int (Int32.ofInt (to : Int))), (2, .int (Int32.ofInt w)), (3, .int (Int32.ofInt (k : Int)))] [] := fun K2 B2 L2 f2 h2 e2 hd2 => by
        refine s_fr26 H hE h2 (v0 := (to : Int)) (v1 := w) (v2 := (k : Int)) htb hw (by omega) (exin e2 hm) (fun K3 B3 L3 f3 h3 e3 _ _ _ hm3 => ?_)
        have : (1 + (k : Int)) = ((k + 1 : Nat) : Int) := by omega
        rw [this]
        exact ih (k + 1) (by omega) K3 B3 L3 f3 h3 (extC_tr e2 (extC_mono e3 (by decide))) (fun j hj => by rw [ext0 e3 (exin e2 hro).1]; exact hd2 j hj)
      have put : ∀ (x : Int) (K2 : Nat → Nat) (B2 : Int) (L2 : List Nat) (f2 : Nat → va_E), x = (if k = to then 0 else 1000000) → hok cy0 K2 B2 L2 f2 → extC [] K1 B1 L1 f1 K2 B2 L2 f2 → eW E 0 0 L2 f2 25 [(0, .ref m), (1, .int (Int32.ofInt (to : Int))), (2, .int (Int32.ofInt w)), (3, .int (Int32.ofInt (k : Int)))] [.int (Int32.ofInt x), .int (Int32.ofInt (k : Int)), .ref ro] := fun x K2 B2 L2 f2 hx h2 e2 => by
        have e02 := extC_tr e1 (extC_mono e2 (show ∀ q ∈ [], q ∈ [(226, 0)] by decide))
        refine wr 25 _ k x K2 B2 L2 f2 (by decide +kernel) (by omega) (by split at hx <;> omega) h2 e02 (fun f3 h3 e3 hd3 => on' K2 B2 L2 f3 h3 e3 (fun j hj => ?_))
        rw [hd3]
        by_cases hjk : j = k
        · rw [if_pos hjk, hjk, hx]
        · rw [if_neg hjk, ext0 e2 (exin e1 hro).1, hd j (by omega)]
      rcases Nat.lt_trichotomy k to with h | h | h
      · refine s_fr2d H hE h1 (v0 := (to : Int)) (v1 := w) (v2 := (k : Int)) htb hw (by omega) (by omega) (exin e1 hm) (fun K2 B2 L2 f2 r2 h2 e2 => ?_)
        intro _ _ _ _ hm2 hr2
        obtain rfl := sol h2 hr2 (exin (extC_tr e1 (extC_mono e2 (by decide))) hro) (by decide)
        refine s_fr22 H hE h2 (v0 := (to : Int)) (v1 := w) (v2 := (k : Int)) htb hw (by omega) hm2 hr2 (fun K3 B3 L3 f3 h3 e3 _ _ _ _ _ => put 1000000 K3 B3 L3 f3 (by rw [if_neg (by omega)]) h3 (extC_tr e2 e3))
      · subst h
        refine s_fr2a H hE h1 (v0 := (k : Int)) (v1 := w) (by omega) hw (exin e1 hm) (fun K2 B2 L2 f2 r2 h2 e2 _ _ hm2 hr2 => ?_)
        obtain rfl := sol h2 hr2 (exin (extC_tr e1 (extC_mono e2 (by decide))) hro) (by decide)
        refine s_fr18 H hE h2 (v0 := (k : Int)) (v1 := w) (v2 := (k : Int)) htb hw (by omega) hm2 hr2 (fun K3 B3 L3 f3 h3 e3 _ _ _ _ _ => put 0 K3 B3 L3 f3 (by rw [if_pos rfl]) h3 (extC_tr e2 e3))
      · refine s_fr2b H hE h1 (v0 := (to : Int)) (v1 := w) (v2 := (k : Int)) htb hw (by omega) (by omega) (exin e1 hm) (fun K2 B2 L2 f2 r2 h2 e2 => ?_)
        intro _ _ _ _ hm2 hr2
        obtain rfl := sol h2 hr2 (exin (extC_tr e1 (extC_mono e2 (by decide))) hro) (by decide)
        refine s_fr22 H hE h2 (v0 := (to : Int)) (v1 := w) (v2 := (k : Int)) htb hw (by omega) hm2 hr2 (fun K3 B3 L3 f3 h3 e3 _ _ _ _ _ => put 1000000 K3 B3 L3 f3 (by rw [if_neg (by omega)]) h3 (extC_tr e2 e3))
  refine s_fr0 H hE hh (v0 := (to : Int)) (v1 := w) htb hw hm (fun K1 B1 L1 f1 h1 e1 _ _ hm1 => ?_)
  exact l1 6 0 rfl K1 B1 L1 f1 h1 (extC_mono e1 (by decide)) (fun j hj => absurd hj (by omega))
