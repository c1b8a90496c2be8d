/-! The reference's CLAUSES. -/
section RY
variable {ax : zAx} {L : List Nat} {b : Nat → Int} {n M tx tb pl bg t0 m : Nat} {so : Int} {r : Option g_V} {h : g_H} {dr sh : Bool}
/-- one behind the other -/
theorem FO_sq (hD : RD M tx tb pl bg) {g : Nat → Nat → Int} (hC : RC b n M tx tb pl bg t0 so g) {q1 : Int × Nat} {f : Nat → Int × Nat} {r1 : Option g_V} {k1 : g_H} (h1 : FO b n M tx pl bg t0 m L g q1 r1 k1) (hs : ∀ s0 g', r1 = some (1, s0) → k1 = (L, g') → (s0 = 0 → ∀ w', RC b n M tx tb pl bg t0 so g' → FS b n M m g' q1.2 w' → FO b n M tx pl bg t0 m L g' (f q1.2) r h) ∧ (s0 ≠ 0 → r = some (1, s0) ∧ h = (L, g'))) : FO b n M tx pl bg t0 m L g (u_sq q1 f) r h := by
  obtain ⟨g', e1, e2, e3, e4, e5⟩ := h1
  obtain ⟨a1, a2⟩ := hs q1.1 g' e1 e2
  unfold u_sq
  by_cases hc : q1.1 = 0
  · rw [if_pos hc]
    obtain ⟨w', hw⟩ := e5 hc
    exact FO_tr e3 (a1 hc w' (RC_mo hD hC e3) hw)
  · rw [if_neg hc]
    obtain ⟨b1, b2⟩ := a2 hc
    exact ⟨g', b1, b2, e3, e4, e5⟩
theorem gi_x {x k : Nat} (hx : x ≤ 4000) (hk : k ≤ 10) : g_i ((x : Int) + (k : Int)) = ((x + k : Nat) : Int) := by
  rw [gi_of (by omega) (by omega)]
  omega
theorem pa_x (hD : RD M tx tb pl bg) (hm : m ≤ 300) (hE : tkS b n m = 54) {lo hi W top : Int} (hh : hi ≤ 9999) (ht : top ≤ 9999) {x k : Nat} (hk : k < 35) (hW : W = x_wk k) (hx0 : t0 + 1 ≤ x + 1) (hx4 : x ≤ 4000) {g : Nat → Nat → Int} {i w : Nat} (hC : RC b n M tx tb pl bg t0 so g) (hF : FS b n M m g i w) (hx : g_ex ax yX12_pair cX12_pair [(0, (M : Int)), (1, (x : Int)), (2, lo), (3, hi), (4, W), (6, top)] (L, g) r h) : FO b n M tx pl bg t0 m L g (u_sq (u_fg (tkS b n) (vlS b n) lo hi i) (u_wd (tkS b n) (vlS b n) (k : Int) 0 top)) r h := by
  obtain ⟨ρ, N, hρ, hr⟩ := g_run_of hx
  have h0 : ρ 0 = (M : Int) := hρ (0, _) (by simp)
  have h1 : ρ 1 = (x : Int) := hρ (1, _) (by simp)
  have h2 : ρ 2 = lo := hρ (2, _) (by simp)
  have h3 : ρ 3 = hi := hρ (3, _) (by simp)
  have h4 : ρ 4 = W := hρ (4, _) (by simp)
  have h6 : ρ 6 = top := hρ (6, _) (by simp)
  obtain ⟨n1, r1, k1, -, hx1, hr1⟩ := pt_X12_pair_0 (fun _ _ _ _ _ _ h => h) hr
  rw [h0, h1, h2, h3, show g_i ((x : Int) + 1) = ((x + 1 : Nat) : Int) from gi_x hx4 (by decide : 1 ≤ 10)] at hx1
  refine FO_sq hD hC (fi_x hD hm hE hh hx0 hC hF hx1) (fun s0 g' e1 e2 => ?_)
  subst e1
  subst e2
  have hx := pt_X12_pair_9 (fun _ _ _ _ _ _ h => h) hr1
  rw [h0, h1, h4, h6, show g_i ((x : Int) + 2) = ((x + 2 : Nat) : Int) from gi_x hx4 (by decide : 2 ≤ 10)] at hx
  refine ⟨fun hs w' hC' hF' => ?_, fun hs => ?_⟩
  · rcases hx with ⟨-, n2, r2, k2, -, hx2, hr2⟩ | ⟨c, -⟩
    · obtain ⟨g2, a1, a2, a3, a4, a5⟩ := wo_x hD hm hE ht hk hW (by omega) hC' hF' hx2
      subst a1
      subst a2
      obtain ⟨b1, b2⟩ := pt_X12_pair_33 (fun _ _ _ _ _ _ h => h) hr2
      exact ⟨g2, b1, b2, a3, a4, a5⟩
    · exact absurd hs c
  · rcases hx with ⟨c, -⟩ | ⟨-, e⟩
    · exact absurd c hs
    · exact e
/-- two words: field, one, steal alike -/
theorem u_sq_0 {a : Int × Nat} {f : Nat → Int × Nat} (h : a.1 = 0) : u_sq a f = f a.2 := if_pos h
theorem u_sq_n {a : Int × Nat} {f : Nat → Int × Nat} (h : a.1 ≠ 0) : u_sq a f = a := if_neg h
theorem fc_x (hD : RD M tx tb pl bg) (hm : m ≤ 300) (hE : tkS b n m = 54) {x : Nat} (hx0 : t0 + 1 ≤ x + 1) (hx4 : x ≤ 4000) {g : Nat → Nat → Int} {i w : Nat} (hC : RC b n M tx tb pl bg t0 so g) (hF : FS b n M m g i w) (hx : g_ex ax yX12_fieldClause cX12_fieldClause [(0, (M : Int)), (1, (x : Int))] (L, g) r h) : FO b n M tx pl bg t0 m L g (u_pt (tkS b n) (vlS b n) 5 i) r h := by
  obtain ⟨ρ, N, hρ, hr⟩ := g_run_of hx
  have h0 : ρ 0 = (M : Int) := hρ (0, _) (by simp)
  have h1 : ρ 1 = (x : Int) := hρ (1, _) (by simp)
  obtain ⟨n1, r1, k1, -, hx1, hr1⟩ := pt_X12_fieldClause_0 (fun _ _ _ _ _ _ h => h) hr
  rw [h0, h1, show g_i ((x : Int) + 1) = ((x + 1 : Nat) : Int) from gi_x hx4 (by decide : 1 ≤ 10)] at hx1
  show FO b n M tx pl bg t0 m L g (u_sq (u_sq (u_fg (tkS b n) (vlS b n) 0 9 i) (u_wd (tkS b n) (vlS b n) ((14 : Nat) : Int) 0 999)) (u_wd (tkS b n) (vlS b n) ((15 : Nat) : Int) 1 999)) r h
  have h2 := fi_x hD hm hE (by decide) hx0 hC hF hx1
  obtain ⟨g1, a1, a2, a3, a4, a5⟩ := h2
  subst a1
  subst a2
  have hx := pt_X12_fieldClause_10 (fun _ _ _ _ _ _ h => h) hr1
  rw [h0, h1, show g_i ((x : Int) + 2) = ((x + 2 : Nat) : Int) from gi_x hx4 (by decide : 2 ≤ 10)] at hx
  rcases hx with ⟨c, n2, r2, k2, -, hx2, hr2⟩ | ⟨c, e1, e2⟩
  · rw [u_sq_0 c]
    obtain ⟨w1, hF1⟩ := a5 c
    have hC1 := RC_mo hD hC a3
    refine FO_tr a3 (FO_sq hD hC1 (wo_x hD hm hE (by decide) (k := 14) (by decide) (show F_X12_w5 110 101 101 100 115 g1 = x_wk 14 from cw_needs) (by omega) hC1 hF1 hx2) (fun s0 g' e1 e2 => ?_))
    subst e1
    subst e2
    have hx := pt_X12_fieldClause_39 (fun _ _ _ _ _ _ h => h) hr2
    simp (decide := true) only [vu, if_false, h0, h1, show g_i ((x : Int) + 3) = ((x + 3 : Nat) : Int) from gi_x hx4 (by decide : 3 ≤ 10)] at hx
    refine ⟨fun hs w' hC' hF' => ?_, fun hs => ?_⟩
    · rcases hx with ⟨-, n3, r3, k3, -, hx3, hr3⟩ | ⟨c, -⟩
      · obtain ⟨g2, a1, a2, a3, a4, a5⟩ := wo_x hD hm hE (by decide) (k := 15) (by decide) (show F_X12_w6 100 114 111 119 110 115 g' = x_wk 15 from cw_drowns) (by omega) hC' hF' hx3
        subst a1
        subst a2
        obtain ⟨b1, b2⟩ := pt_X12_fieldClause_74 (fun _ _ _ _ _ _ h => h) hr3
        exact ⟨g2, b1, b2, a3, a4, a5⟩
      · exact absurd hs c
    · rcases hx with ⟨c, -⟩ | ⟨-, e⟩
      · exact absurd c hs
      · exact e
  · rw [u_sq_n (a := u_fg (tkS b n) (vlS b n) 0 9 i) c, u_sq_n c]
    exact ⟨g1, e1, e2, a3, a4, a5⟩
theorem oc_x (hD : RD M tx tb pl bg) (hm : m ≤ 300) (hE : tkS b n m = 54) {x : Nat} (hx0 : t0 + 1 ≤ x + 1) (hx4 : x ≤ 4000) {g : Nat → Nat → Int} {i w : Nat} (hC : RC b n M tx tb pl bg t0 so g) (hF : FS b n M m g i w) (hx : g_ex ax yX12_oneClause cX12_oneClause [(0, (M : Int)), (1, (x : Int))] (L, g) r h) : FO b n M tx pl bg t0 m L g (u_pt (tkS b n) (vlS b n) 7 i) r h := by
  obtain ⟨ρ, N, hρ, hr⟩ := g_run_of hx
  have h0 : ρ 0 = (M : Int) := hρ (0, _) (by simp)
  have h1 : ρ 1 = (x : Int) := hρ (1, _) (by simp)
  obtain ⟨n1, r1, k1, -, hx1, hr1⟩ := pt_X12_oneClause_0 (fun _ _ _ _ _ _ h => h) hr
  rw [h0, h1, show g_i ((x : Int) + 1) = ((x + 1 : Nat) : Int) from gi_x hx4 (by decide : 1 ≤ 10)] at hx1
  show FO b n M tx pl bg t0 m L g (u_sq (u_sq (u_fg (tkS b n) (vlS b n) 1 99 i) (u_wd (tkS b n) (vlS b n) ((26 : Nat) : Int) 0 99)) (u_wd (tkS b n) (vlS b n) ((16 : Nat) : Int) 0 5)) r h
  have h2 := fi_x hD hm hE (by decide) hx0 hC hF hx1
  obtain ⟨g1, a1, a2, a3, a4, a5⟩ := h2
  subst a1
  subst a2
  have hx := pt_X12_oneClause_10 (fun _ _ _ _ _ _ h => h) hr1
  rw [h0, h1, show g_i ((x : Int) + 2) = ((x + 2 : Nat) : Int) from gi_x hx4 (by decide : 2 ≤ 10)] at hx
  rcases hx with ⟨c, n2, r2, k2, -, hx2, hr2⟩ | ⟨c, e1, e2⟩
  · rw [u_sq_0 c]
    obtain ⟨w1, hF1⟩ := a5 c
    have hC1 := RC_mo hD hC a3
    refine FO_tr a3 (FO_sq hD hC1 (wo_x hD hm hE (by decide) (k := 26) (by decide) (show F_X12_w3 97 103 101 g1 = x_wk 26 from cw_age) (by omega) hC1 hF1 hx2) (fun s0 g' e1 e2 => ?_))
    subst e1
    subst e2
    have hx := pt_X12_oneClause_34 (fun _ _ _ _ _ _ h => h) hr2
    simp (decide := true) only [vu, if_false, h0, h1, show g_i ((x : Int) + 3) = ((x + 3 : Nat) : Int) from gi_x hx4 (by decide : 3 ≤ 10)] at hx
    refine ⟨fun hs w' hC' hF' => ?_, fun hs => ?_⟩
    · rcases hx with ⟨-, n3, r3, k3, -, hx3, hr3⟩ | ⟨c, -⟩
      · obtain ⟨g2, a1, a2, a3, a4, a5⟩ := wo_x hD hm hE (by decide) (k := 16) (by decide) (show F_X12_w2 111 110 g' = x_wk 16 from cw_on) (by omega) hC' hF' hx3
        subst a1
        subst a2
        obtain ⟨b1, b2⟩ := pt_X12_oneClause_59 (fun _ _ _ _ _ _ h => h) hr3
        exact ⟨g2, b1, b2, a3, a4, a5⟩
      · exact absurd hs c
    · rcases hx with ⟨c, -⟩ | ⟨-, e⟩
      · exact absurd c hs
      · exact e
  · rw [u_sq_n (a := u_fg (tkS b n) (vlS b n) 1 99 i) c, u_sq_n c]
    exact ⟨g1, e1, e2, a3, a4, a5⟩
theorem st_x (hD : RD M tx tb pl bg) (hm : m ≤ 300) (hE : tkS b n m = 54) {x : Nat} (hx0 : t0 + 1 ≤ x + 1) (hx4 : x ≤ 4000) {g : Nat → Nat → Int} {i w : Nat} (hC : RC b n M tx tb pl bg t0 so g) (hF : FS b n M m g i w) (hx : g_ex ax yX12_stealClause cX12_stealClause [(0, (M : Int)), (1, (x : Int))] (L, g) r h) : FO b n M tx pl bg t0 m L g (u_pt (tkS b n) (vlS b n) 11 i) r h := by
  obtain ⟨ρ, N, hρ, hr⟩ := g_run_of hx
  have h0 : ρ 0 = (M : Int) := hρ (0, _) (by simp)
  have h1 : ρ 1 = (x : Int) := hρ (1, _) (by simp)
  obtain ⟨n1, r1, k1, -, hx1, hr1⟩ := pt_X12_stealClause_0 (fun _ _ _ _ _ _ h => h) hr
  rw [h0, h1, show g_i ((x : Int) + 1) = ((x + 1 : Nat) : Int) from gi_x hx4 (by decide : 1 ≤ 10)] at hx1
  show FO b n M tx pl bg t0 m L g (u_sq (u_sq (u_fg (tkS b n) (vlS b n) 0 7 i) (u_wd (tkS b n) (vlS b n) ((19 : Nat) : Int) 0 7)) (u_wd (tkS b n) (vlS b n) ((17 : Nat) : Int) 1 99)) r h
  have h2 := fi_x hD hm hE (by decide) hx0 hC hF hx1
  obtain ⟨g1, a1, a2, a3, a4, a5⟩ := h2
  subst a1
  subst a2
  have hx := pt_X12_stealClause_10 (fun _ _ _ _ _ _ h => h) hr1
  rw [h0, h1, show g_i ((x : Int) + 2) = ((x + 2 : Nat) : Int) from gi_x hx4 (by decide : 2 ≤ 10)] at hx
  rcases hx with ⟨c, n2, r2, k2, -, hx2, hr2⟩ | ⟨c, e1, e2⟩
  · rw [u_sq_0 c]
    obtain ⟨w1, hF1⟩ := a5 c
    have hC1 := RC_mo hD hC a3
    refine FO_tr a3 (FO_sq hD hC1 (wo_x hD hm hE (by decide) (k := 19) (by decide) (show F_X12_w4 102 114 111 109 g1 = x_wk 19 from cw_from) (by omega) hC1 hF1 hx2) (fun s0 g' e1 e2 => ?_))
    subst e1
    subst e2
    have hx := pt_X12_stealClause_36 (fun _ _ _ _ _ _ h => h) hr2
    simp (decide := true) only [vu, if_false, h0, h1, show g_i ((x : Int) + 3) = ((x + 3 : Nat) : Int) from gi_x hx4 (by decide : 3 ≤ 10)] at hx
    refine ⟨fun hs w' hC' hF' => ?_, fun hs => ?_⟩
    · rcases hx with ⟨-, n3, r3, k3, -, hx3, hr3⟩ | ⟨c, -⟩
      · obtain ⟨g2, a1, a2, a3, a4, a5⟩ := wo_x hD hm hE (by decide) (k := 17) (by decide) (show F_X12_w2 98 121 g' = x_wk 17 from cw_by) (by omega) hC' hF' hx3
        subst a1
        subst a2
        obtain ⟨b1, b2⟩ := pt_X12_stealClause_62 (fun _ _ _ _ _ _ h => h) hr3
        exact ⟨g2, b1, b2, a3, a4, a5⟩
      · exact absurd hs c
    · rcases hx with ⟨c, -⟩ | ⟨-, e⟩
      · exact absurd c hs
      · exact e
  · rw [u_sq_n (a := u_fg (tkS b n) (vlS b n) 0 7 i) c, u_sq_n c]
    exact ⟨g1, e1, e2, a3, a4, a5⟩
theorem lc_x (hD : RD M tx tb pl bg) (hm : m ≤ 300) (hE : tkS b n m = 54) (hdr : dr = decide (so = 3)) (hsh : sh = decide (so = 4)) {x : Nat} (hx0 : t0 + 1 ≤ x + 1) (hx4 : x ≤ 4000) {g : Nat → Nat → Int} {i w : Nat} (hC : RC b n M tx tb pl bg t0 so g) (hF : FS b n M m g i w) (hx : g_ex ax yX12_lawClause cX12_lawClause [(0, (M : Int)), (1, (x : Int))] (L, g) r h) : ∃ q, FO b n M tx pl bg t0 m L g q r h ∧ RR (tkS b n) (vlS b n) dr sh i [] 0 0 false q := by
  obtain ⟨ρ, N, hρ, hr⟩ := g_run_of hx
  have h0 : ρ 0 = (M : Int) := hρ (0, _) (by simp)
  have h1 : ρ 1 = (x : Int) := hρ (1, _) (by simp)
  obtain ⟨n1, r1, k1, -, hx1, hr1⟩ := pt_X12_lawClause_0 (fun _ _ _ _ _ _ h => h) hr
  rw [h0, h1, show g_i ((x : Int) + 1) = ((x + 1 : Nat) : Int) from gi_x hx4 (by decide : 1 ≤ 10), Int.toNat_natCast, Int.toNat_natCast, hC.1, Int.toNat_natCast] at hx1
  have nx : M ≠ tx := hD.1
  have f0 : ∀ v, fR M tx pl bg t0 g (g_up g tx (x + 1) v) := fun v => fR_up fR_rf (Or.inr (Or.inl ⟨rfl, hx0⟩))
  obtain ⟨hT, h13, hw, him⟩ := hF
  obtain ⟨q, ⟨g1, a1, a2, a3, a4, a5⟩, hR⟩ := su_x hD hm hE hdr hsh (RC_mo hD hC (f0 _)) ⟨⟨by rw [g_up_a nx]; exact hT.1, by rw [g_up_a nx]; exact hT.2.1, by rw [g_up_a nx, g_up_a nx, g_up_a nx]; exact hT.2.2⟩, by rw [g_up_a nx]; exact h13, hw, him⟩ hx1
  subst a1
  subst a2
  have hC1 := RC_mo hD hC (fR_tr (f0 _) a3)
  obtain ⟨b1, b2⟩ := pt_X12_lawClause_16 (fun _ _ _ _ _ _ h => h) hr1
  rw [h0, h1, show g_i ((x : Int) + 2) = ((x + 2 : Nat) : Int) from gi_x hx4 (by decide : 2 ≤ 10), Int.toNat_natCast, Int.toNat_natCast, hC1.1, Int.toNat_natCast] at b2
  refine ⟨q, ⟨_, b1, b2, fR_up (fR_tr (f0 _) a3) (Or.inr (Or.inl ⟨rfl, by omega⟩)), by rw [g_up_a nx]; exact a4, fun hc => ?_⟩, hR⟩
  obtain ⟨w', ⟨t1, t2, t3⟩, t4, t5, t6⟩ := a5 hc
  exact ⟨w', ⟨by rw [g_up_a nx]; exact t1, by rw [g_up_a nx]; exact t2, by rw [g_up_a nx, g_up_a nx, g_up_a nx]; exact t3⟩, by rw [g_up_a nx]; exact t4, t5, t6⟩
/-- what is within a CLAUSE -/
def BDq (b : Nat → Int) (n : Nat) (s : Int) (i : Nat) (q : Int × Nat) : Prop := (s < 5 → RR (tkS b n) (vlS b n) (decide (s = 3)) (decide (s = 4)) i [] 0 0 false q) ∧ (5 ≤ s → q = u_pt (tkS b n) (vlS b n) s i)
theorem bd_x (hD : RD M tx tb pl bg) (hm : m ≤ 300) (hE : tkS b n m = 54) {s : Int} (hs : s = so) (hs0 : 0 ≤ s) (hs1 : s ≤ 13) {x : Nat} (hx0 : t0 + 1 ≤ x + 1) (hx4 : x ≤ 4000) {g : Nat → Nat → Int} {i w : Nat} (hC : RC b n M tx tb pl bg t0 so g) (hF : FS b n M m g i w) (hx : g_ex ax yX12_body cX12_body [(0, (M : Int)), (1, s), (2, (x : Int))] (L, g) r h) : ∃ q, FO b n M tx pl bg t0 m L g q r h ∧ BDq b n s i q := by
  obtain ⟨ρ, N, hρ, hr⟩ := g_run_of hx
  have h0 : ρ 0 = (M : Int) := hρ (0, _) (by simp)
  have h1 : ρ 1 = s := hρ (1, _) (by simp)
  have h2 : ρ 2 = (x : Int) := hρ (2, _) (by simp)
  have hx := pt_X12_body_0 (fun _ _ _ _ _ _ h => h) hr
  rw [h0, h1, h2] at hx
  have pk : ∀ {q : Int × Nat} {r1 : Option g_V} {k1 : g_H}, 5 ≤ s → q = u_pt (tkS b n) (vlS b n) s i → FO b n M tx pl bg t0 m L g q r1 k1 → (∀ s0 g', r1 = some (1, s0) → k1 = (L, g') → r = some (1, s0) ∧ h = (L, g')) → ∃ q, FO b n M tx pl bg t0 m L g q r h ∧ BDq b n s i q := by
    intro q r1 k1 h5 hq hf he
    obtain ⟨g', a1, a2, a3, a4, a5⟩ := hf
    obtain ⟨b1, b2⟩ := he _ _ a1 a2
    exact ⟨q, ⟨g', b1, b2, a3, a4, a5⟩, fun hh => absurd hh (by omega), fun _ => hq⟩
  rcases hx with ⟨c, n1, r1, k1, -, hx1, hr1⟩ | hx
  · obtain ⟨q, ⟨g', a1, a2, a3, a4, a5⟩, hR⟩ := lc_x (dr := decide (s = 3)) (sh := decide (s = 4)) hD hm hE (by rw [hs]) (by rw [hs]) hx0 hx4 hC hF hx1
    subst a1
    subst a2
    obtain ⟨b1, b2⟩ := pt_X12_body_173 (fun _ _ _ _ _ _ h => h) hr1
    exact ⟨q, ⟨g', b1, b2, a3, a4, a5⟩, fun _ => hR, fun hh => by omega⟩
  rcases hx with ⟨c, n1, r1, k1, -, hx1, hr1⟩ | hx
  · exact pk (by omega) (by rw [c]) (fc_x hD hm hE hx0 hx4 hC hF hx1) (fun s0 g' a1 a2 => by subst a1; subst a2; exact pt_X12_body_57 (fun _ _ _ _ _ _ h => h) hr1)
  rcases hx with ⟨c, n1, r1, k1, -, hx1, hr1⟩ | hx
  · exact pk (by omega) (by rw [c]; rfl) (pa_x hD hm hE (by decide) (by decide) (k := 18) (by decide) (show F_X12_w2 116 111 g = x_wk 18 from cw_to) hx0 hx4 hC hF hx1) (fun s0 g' a1 a2 => by subst a1; subst a2; exact pt_X12_body_73 (fun _ _ _ _ _ _ h => h) hr1)
  rcases hx with ⟨c, n1, r1, k1, -, hx1, hr1⟩ | hx
  · exact pk (by omega) (by rw [c]) (oc_x hD hm hE hx0 hx4 hC hF hx1) (fun s0 g' a1 a2 => by subst a1; subst a2; exact pt_X12_body_79 (fun _ _ _ _ _ _ h => h) hr1)
  rcases hx with ⟨c, n1, r1, k1, -, hx1, hr1⟩ | hx
  · exact pk (by omega) (by rw [c]; rfl) (pa_x hD hm hE (by decide) (by decide) (k := 17) (by decide) (show F_X12_w2 98 121 g = x_wk 17 from cw_by) hx0 hx4 hC hF hx1) (fun s0 g' a1 a2 => by subst a1; subst a2; exact pt_X12_body_97 (fun _ _ _ _ _ _ h => h) hr1)
  rcases hx with ⟨c, n1, r1, k1, -, hx1, hr1⟩ | hx
  · exact pk (by omega) (by rw [c]; rfl) (pa_x hD hm hE (by decide) (by decide) (k := 18) (by decide) (show F_X12_w2 116 111 g = x_wk 18 from cw_to) hx0 hx4 hC hF hx1) (fun s0 g' a1 a2 => by subst a1; subst a2; exact pt_X12_body_114 (fun _ _ _ _ _ _ h => h) hr1)
  rcases hx with ⟨c, n1, r1, k1, -, hx1, hr1⟩ | hx
  · exact pk (by omega) (by rw [c]; rfl) (pa_x hD hm hE (by decide) (by decide) (k := 18) (by decide) (show F_X12_w2 116 111 g = x_wk 18 from cw_to) hx0 hx4 hC hF hx1) (fun s0 g' a1 a2 => by subst a1; subst a2; exact pt_X12_body_132 (fun _ _ _ _ _ _ h => h) hr1)
  rcases hx with ⟨c, n1, r1, k1, -, hx1, hr1⟩ | hx
  · exact pk (by omega) (by rw [c]) (st_x hD hm hE hx0 hx4 hC hF hx1) (fun s0 g' a1 a2 => by subst a1; subst a2; exact pt_X12_body_138 (fun _ _ _ _ _ _ h => h) hr1)
  rcases hx with ⟨c, n1, r1, k1, -, hx1, hr1⟩ | ⟨c, n1, r1, k1, -, hx1, hr1⟩
  · exact pk (by omega) (by rw [c]; rfl) (pa_x hD hm hE (by decide) (by decide) (k := 16) (by decide) (show F_X12_w2 111 110 g = x_wk 16 from cw_on) hx0 hx4 hC hF hx1) (fun s0 g' a1 a2 => by subst a1; subst a2; exact pt_X12_body_156 (fun _ _ _ _ _ _ h => h) hr1)
  · rw [show g_i ((x : Int) + 1) = ((x + 1 : Nat) : Int) from gi_x hx4 (by decide : 1 ≤ 10)] at hx1
    exact pk (by omega) (by rw [c]; rfl) (fi_x hD hm hE (by decide) hx0 hC hF hx1) (fun s0 g' a1 a2 => by subst a1; subst a2; exact pt_X12_body_167 (fun _ _ _ _ _ _ h => h) hr1)
/-- the frame of a TEXT's reading -/
def fK (M tx pl bg t0 : Nat) (g g' : Nat → Nat → Int) : Prop := ∀ c j, ¬ (wR M tx pl bg t0 c j ∨ (c = M ∧ (j = 14 ∨ j = 21)) ∨ (c = tx ∧ j = t0)) → g' c j = g c j
theorem fK_rf {g : Nat → Nat → Int} : fK M tx pl bg t0 g g := fun _ _ _ => rfl
theorem fK_tr {g g1 g2 : Nat → Nat → Int} (h1 : fK M tx pl bg t0 g g1) (h2 : fK M tx pl bg t0 g1 g2) : fK M tx pl bg t0 g g2 := fun c j h => (h2 c j h).trans (h1 c j h)
theorem fK_R {g g' : Nat → Nat → Int} (h : fR M tx pl bg t0 g g') : fK M tx pl bg t0 g g' := fun c j hc => h c j (fun hh => hc (Or.inl hh))
theorem fK_up {a i : Nat} {v : Int} {g g1 : Nat → Nat → Int} (h : fK M tx pl bg t0 g g1) (hw : wR M tx pl bg t0 a i ∨ (a = M ∧ (i = 14 ∨ i = 21)) ∨ (a = tx ∧ i = t0)) : fK M tx pl bg t0 g (g_up g1 a i v) := fun c j hc => by
  unfold g_up
  rw [if_neg (fun e => hc (by rw [e.2, e.1]; exact hw))]
  exact h c j hc
theorem nkM {j : Nat} (hD : RD M tx tb pl bg) (hj : j < 7 ∨ 21 < j ∨ j = 12 ∨ j = 15 ∨ j = 16) : ¬ (wR M tx pl bg t0 M j ∨ (M = M ∧ (j = 14 ∨ j = 21)) ∨ (M = tx ∧ j = t0)) := by
  rintro (h1 | ⟨-, h1⟩ | ⟨h1, -⟩)
  · exact nwM hD (by omega) h1
  · omega
  · exact hD.1 h1
theorem nkT {j : Nat} (hD : RD M tx tb pl bg) : ¬ (wR M tx pl bg t0 tb j ∨ (tb = M ∧ (j = 14 ∨ j = 21)) ∨ (tb = tx ∧ j = t0)) := by
  rintro (h1 | ⟨h1, -⟩ | ⟨h1, -⟩)
  · exact nwT hD h1
  · exact hD.2.1 h1.symm
  · exact hD.2.2.2.2.1 h1.symm
theorem RC_K (hD : RD M tx tb pl bg) {g g' : Nat → Nat → Int} (h : RC b n M tx tb pl bg t0 so g) (hf : fK M tx pl bg t0 g g') : RC b n M tx tb pl bg t0 (g' M 14) g' := by
  obtain ⟨c2, c15, c16, c12, c14, ct, h1, h2, h3, h4, h5⟩ := h
  exact ⟨(hf M 2 (nkM hD (by omega))).trans c2, (hf M 15 (nkM hD (by omega))).trans c15, (hf M 16 (nkM hD (by omega))).trans c16, (hf M 12 (nkM hD (by omega))).trans c12, rfl, ct, (hf M 3 (nkM hD (by omega))).trans h1, (hf M 4 (nkM hD (by omega))).trans h2, h3, h4, fun k hk => ⟨(hf tb k (nkT hD)).trans (h5 k hk).1, (h5 k hk).2⟩⟩
theorem if_01 {α : Type} {P : Prop} [Decidable P] (a c : α) : (if (if P then (1 : Int) else 0) = 0 then a else c) = if P then c else a := by
  by_cases h : P
  · rw [if_pos h, if_pos h, if_neg (by decide)]
  · rw [if_neg h, if_neg h, if_pos rfl]
end RY
theorem cw_sweat : F_X12_w5 115 119 101 97 116 gz = x_wk 0 := by decide +kernel
theorem cw_rain : F_X12_w4 114 97 105 110 gz = x_wk 1 := by decide +kernel
theorem cw_tax : F_X12_w3 116 97 120 gz = x_wk 2 := by decide +kernel
theorem cw_dries : F_X12_w5 100 114 105 101 115 gz = x_wk 3 := by decide +kernel
theorem cw_share : F_X12_w5 115 104 97 114 101 gz = x_wk 4 := by decide +kernel
theorem cw_field : F_X12_w5 102 105 101 108 100 gz = x_wk 5 := by decide +kernel
theorem cw_road : F_X12_w4 114 111 97 100 gz = x_wk 6 := by decide +kernel
theorem cw_one : F_X12_w3 111 110 101 gz = x_wk 7 := by decide +kernel
theorem cw_go : F_X12_w2 103 111 gz = x_wk 9 := by decide +kernel
theorem cw_shake : F_X12_w5 115 104 97 107 101 gz = x_wk 10 := by decide +kernel
theorem cw_steal : F_X12_w5 115 116 101 97 108 gz = x_wk 11 := by decide +kernel
theorem cw_pour : F_X12_w4 112 111 117 114 gz = x_wk 12 := by decide +kernel
theorem so_eq {nu k v : Int} {M : Nat} {g : Nat → Nat → Int} (hk : TK (g M 9) nu (g M 11) k v) : F_X12_sortOf (M : Int) g = if k ≤ 13 then k else -1 := by
  have h0 : 0 ≤ k := hk.2.2.2.2.2.2.2.2.2.2.2.2.2.2.2.2.2.1
  unfold F_X12_sortOf
  rw [isW (i := 0) hk (by decide) (show F_X12_w5 115 119 101 97 116 g = x_wk 0 from cw_sweat), isW (i := 1) hk (by decide) (show F_X12_w4 114 97 105 110 g = x_wk 1 from cw_rain), isW (i := 2) hk (by decide) (show F_X12_w3 116 97 120 g = x_wk 2 from cw_tax), isW (i := 3) hk (by decide) (show F_X12_w5 100 114 105 101 115 g = x_wk 3 from cw_dries), isW (i := 4) hk (by decide) (show F_X12_w5 115 104 97 114 101 g = x_wk 4 from cw_share), isW (i := 5) hk (by decide) (show F_X12_w5 102 105 101 108 100 g = x_wk 5 from cw_field), isW (i := 6) hk (by decide) (show F_X12_w4 114 111 97 100 g = x_wk 6 from cw_road), isW (i := 7) hk (by decide) (show F_X12_w3 111 110 101 g = x_wk 7 from cw_one), isW (i := 8) hk (by decide) (show F_X12_w4 119 111 114 107 g = x_wk 8 from cw_work), isW (i := 9) hk (by decide) (show F_X12_w2 103 111 g = x_wk 9 from cw_go), isW (i := 10) hk (by decide) (show F_X12_w5 115 104 97 107 101 g = x_wk 10 from cw_shake), isW (i := 11) hk (by decide) (show F_X12_w5 115 116 101 97 108 g = x_wk 11 from cw_steal), isW (i := 12) hk (by decide) (show F_X12_w4 112 111 117 114 g = x_wk 12 from cw_pour), isW (i := 13) hk (by decide) (show F_X12_w4 104 111 117 114 g = x_wk 13 from cw_hour)]
  simp only [if_01]
  (repeat' split) <;> omega
theorem on_has : ∀ (o : Fin 32) (s : Fin 5), F_X12_has ((o : Nat) : Int) ((s : Nat) : Int) gz = (if (o : Nat).testBit (s : Nat) = true then 1 else 0) := by decide +kernel
theorem on_or : ∀ (o : Fin 32) (s : Fin 5), (Int32.ofInt ((o : Nat) : Int) ||| Int32.ofInt ((Int32.ofInt 1 <<< (Int32.ofInt ((s : Nat) : Int) &&& 31)).toInt)).toInt = (((o : Nat) ||| 2 ^ (s : Nat) : Nat) : Int) ∧ ((o : Nat) ||| 2 ^ (s : Nat)) < 32 := by decide +kernel
section RZ
variable {ax : zAx} {L : List Nat} {b : Nat → Int} {n M tx tb pl bg t0 m : Nat} {so : Int} {r : Option g_V} {h : g_H}
/-- behind a CLAUSE's first TOKEN -/
theorem cl_74 (hD : RD M tx tb pl bg) (hm : m ≤ 300) (hE : tkS b n m = 54) {F k on i w N : Nat} {Q : Int × Nat} {s : Int} {ρ : Nat → Int} {g : Nat → Nat → Int} (hC : RC b n M tx tb pl bg t0 s g) (hF : FS b n M m g (i + 1) w) (hk : g tx t0 = (k : Int)) (hk24 : k < 24) (hon : g M 21 = (on : Int)) (hon32 : on < 32) (hs0 : 0 ≤ s) (hs1 : s ≤ 13) (h0 : ρ 0 = (M : Int)) (h1 : ρ 1 = s) (h2 : ρ 2 = (k : Int)) (hU : (match u_bd (tkS b n) (vlS b n) F s (i + 1) with
      | none => none
      | some q => if q.1 = 0 then (if tkS b n q.2 = 50 then uT (tkS b n) (vlS b n) F (q.2 + 1) (k + 1) on else some (1, q.2)) else some q) = some Q) (hr : g_run RX12 ax (g_ex ax) cX12_clause N (74, ρ, [], L, g) r h) : (Q.1 ≠ 0 ∧ ∃ g', r = some (1, Q.1) ∧ h = (L, g') ∧ fK M tx pl bg t0 g g' ∧ g' M 8 = (x_ps b n Q.2 : Int)) ∨ (∃ g' j w', r = some (1, 0) ∧ h = (L, g') ∧ fK M tx pl bg t0 g g' ∧ FS b n M m g' j w' ∧ g' tx t0 = ((k + 1 : Nat) : Int) ∧ g' M 21 = (on : Int) ∧ uT (tkS b n) (vlS b n) F j (k + 1) on = some Q) := by
  obtain ⟨d1, d2, d3, d4, d5, d6, d7, d8, d9, d10⟩ := hD
  have hD : RD M tx tb pl bg := ⟨d1, d2, d3, d4, d5, d6, d7, d8, d9, d10⟩
  obtain ⟨c2, c15, c16, c12, c14, ct, hB⟩ := hC
  have hC : RC b n M tx tb pl bg t0 s g := ⟨c2, c15, c16, c12, c14, ct, hB⟩
  obtain ⟨n1, r1, k1, -, hx1, hr1⟩ := pt_X12_clause_74 (fun _ _ _ _ _ _ h => h) hr
  have ex : g_i (g_i ((t0 : Int) + 1) + g_i (4 * (k : Int))) = ((t0 + 1 + 4 * k : Nat) : Int) := by
    rw [gi_of (z := (t0 : Int) + 1) (by omega) (by omega), gi_of (z := 4 * (k : Int)) (by omega) (by omega), gi_of (by omega) (by omega)]
    omega
  replace ex : EqG (g_i (g_i ((t0 : Int) + 1) + g_i (4 * (k : Int)))) (((t0 + 1 + 4 * k : Nat) : Int)) := ex
  rw [h0, h1, h2, Int.toNat_natCast, c12, ex.e, c2, Int.toNat_natCast, Int.toNat_natCast] at hx1
  have f0 : fR M tx pl bg t0 g (g_up g tx (t0 + 1 + 4 * k) s) := fR_up fR_rf (Or.inr (Or.inl ⟨rfl, by omega⟩))
  obtain ⟨hT, h13, hw, him⟩ := hF
  obtain ⟨q, ⟨g1, a1, a2, a3, a4, a5⟩, hq1, hq2⟩ := bd_x hD hm hE rfl hs0 hs1 (by omega) (by omega) (RC_mo hD hC f0) ⟨⟨by rw [g_up_a d1]; exact hT.1, by rw [g_up_a d1]; exact hT.2.1, by rw [g_up_a d1, g_up_a d1, g_up_a d1]; exact hT.2.2⟩, by rw [g_up_a d1]; exact h13, hw, him⟩ hx1
  subst a1
  subst a2
  have f1 := fR_tr f0 a3
  obtain ⟨e2, e15, e16, e12, e14, et, eB⟩ := RC_mo hD hC f1
  have hC1 : RC b n M tx tb pl bg t0 s g1 := ⟨e2, e15, e16, e12, e14, et, eB⟩
  have ek : g1 tx t0 = (k : Int) := by
    rw [f1 tx t0 (by
      rintro (⟨hh, -⟩ | ⟨-, hh⟩ | hh | hh)
      · exact d1 hh.symm
      · omega
      · exact d6 hh
      · exact d7 hh)]
    exact hk
  have eon : g1 M 21 = (on : Int) := (f1 M 21 (nwM hD (by omega))).trans hon
  -- what the inside says is what u_bd says
  have hbd : u_bd (tkS b n) (vlS b n) F s (i + 1) = some q := by
    unfold u_bd at hU ⊢
    by_cases h5 : s < 5
    · rw [if_pos h5] at hU ⊢
      cases hp : uP (tkS b n) (vlS b n) (decide (s = 4)) F 3 0 (!decide (s = 3)) (i + 1) with
      | none => rw [hp] at hU; cases hU
      | some q' => rw [RR_un (RR_uP (dr := decide (s = 3)) hp) (hq1 h5)]
    · rw [if_neg h5, hq2 (by omega)]
  rw [hbd] at hU
  have hx := pt_X12_clause_98 (fun _ _ _ _ _ _ h => h) hr1
  have hU : (if q.1 = 0 then (if tkS b n q.2 = 50 then uT (tkS b n) (vlS b n) F (q.2 + 1) (k + 1) on else some (1, q.2)) else some q) = some Q := hU
  have e18 : g_i ((k : Int) + 1) = ((k + 1 : Nat) : Int) := by
    rw [gi_of (by omega) (by omega)]
    omega
  replace e18 : EqG (g_i ((k : Int) + 1)) (((k + 1 : Nat) : Int)) := e18
  simp (decide := true) only [vu, if_false, h0, Int.toNat_natCast, e2, e12, ek, e18.e, g_up_a d1] at hx
  rcases hx with ⟨c, hx⟩ | ⟨c, b1, b2⟩
  · rw [if_pos c] at hU
    obtain ⟨w', ⟨t1, t2, t3⟩, t4, t5, t6⟩ := a5 c
    have hk50 : tkS b n q.2 = 50 ↔ g1 M 9 = 59 := (TK_i hC1 (i := q.2) ⟨t1, t2, t3⟩).2.2.2.2.2.2.2.2.2.2.2.2.2.2.1
    have f2 : fK M tx pl bg t0 g (g_up g1 tx t0 ((k + 1 : Nat) : Int)) := fK_up (fK_R f1) (Or.inr (Or.inr ⟨rfl, rfl⟩))
    rcases hx with ⟨c3, n2, r2, k2, -, hx2, hr2⟩ | ⟨c3, b1, b2⟩
    · rw [if_pos (hk50.mpr c3)] at hU
      have hC2 := RC_K hD hC f2
      have hi2 : q.2 < m := by
        by_cases hh : q.2 = m
        · have := hk50.mpr c3
          rw [hh, hE] at this
          cases this
        · omega
      obtain ⟨b1, g3, b2, b3, b4⟩ := nt_i (i := q.2) hC2 (by rw [g_up_a d1]; exact t1) hx2
      subst b1
      subst b2
      obtain ⟨b5, b6⟩ := pt_X12_clause_136 (fun _ _ _ _ _ _ h => h) hr2
      refine Or.inr ⟨g3, q.2 + 1, w', b5, b6, fK_tr f2 (fK_R (fR_fM b3)), ⟨b4, by rw [b3 M 13 (by omega), g_up_a d1]; exact t4, by omega, by omega⟩, ?_, ?_, hU⟩
      · rw [b3 tx t0 (Or.inl (Ne.symm d1)), g_up_s]
      · rw [b3 M 21 (by omega), g_up_a d1, eon]
    · rw [if_neg (fun hh => c3 (hk50.mp hh))] at hU
      cases hU
      exact Or.inl ⟨f1_ne (by decide), _, b1, b2, f2, by rw [g_up_a d1]; exact a4⟩
  · rw [if_neg c] at hU
    cases hU
    exact Or.inl ⟨c, g1, b1, b2, fK_R f1, a4⟩
theorem cl_x (hD : RD M tx tb pl bg) (hm : m ≤ 300) (hE : tkS b n m = 54) {F k on i w : Nat} {Q : Int × Nat} {g : Nat → Nat → Int} (hC : RC b n M tx tb pl bg t0 so g) (hF : FS b n M m g i w) (hk : g tx t0 = (k : Int)) (hk24 : k ≤ 24) (hon : g M 21 = (on : Int)) (hon32 : on < 32) (h54 : tkS b n i ≠ 54) (hU : uT (tkS b n) (vlS b n) (F + 1) i k on = some Q) (hx : g_ex ax yX12_clause cX12_clause [(0, (M : Int))] (L, g) r h) : (Q.1 ≠ 0 ∧ ∃ g', r = some (1, Q.1) ∧ h = (L, g') ∧ fK M tx pl bg t0 g g' ∧ g' M 8 = (x_ps b n Q.2 : Int)) ∨ (∃ (g' : Nat → Nat → Int) (j w' on' : Nat), r = some (1, 0) ∧ h = (L, g') ∧ fK M tx pl bg t0 g g' ∧ FS b n M m g' j w' ∧ g' tx t0 = ((k + 1 : Nat) : Int) ∧ k + 1 ≤ 24 ∧ g' M 21 = (on' : Int) ∧ on' < 32 ∧ uT (tkS b n) (vlS b n) F j (k + 1) on' = some Q) := by
  obtain ⟨ρ, N, hρ, hr⟩ := g_run_of hx
  have h0 : ρ 0 = (M : Int) := hρ (0, _) (by simp)
  obtain ⟨d1, d2, d3, d4, d5, d6, d7, d8, d9, d10⟩ := hD
  have hD : RD M tx tb pl bg := ⟨d1, d2, d3, d4, d5, d6, d7, d8, d9, d10⟩
  obtain ⟨c2, c15, c16, c12, c14, ct, hB⟩ := hC
  have hC : RC b n M tx tb pl bg t0 so g := ⟨c2, c15, c16, c12, c14, ct, hB⟩
  have hF0 := hF
  obtain ⟨hT, h13, hw, him⟩ := hF
  have hTK := TK_i hC hT
  have hk0 : 0 ≤ tkS b n i := hTK.2.2.2.2.2.2.2.2.2.2.2.2.2.2.2.2.2.1
  have hx := pt_X12_clause_0 (fun _ _ _ _ _ _ h => h) hr
  have hi2 : i < m := by
    by_cases hh : i = m
    · rw [hh, hE] at h54
      exact absurd rfl h54
    · omega
  rw [h0, so_eq hTK, Int.toNat_natCast, c2, c12, Int.toNat_natCast, Int.toNat_natCast, hk] at hx
  unfold uT at hU
  rw [if_neg h54] at hU
  by_cases h13' : 13 < tkS b n i
  · rw [if_pos h13'] at hU
    rw [if_neg (by omega : ¬ tkS b n i ≤ 13)] at hx
    cases hU
    rcases hx with ⟨c, -⟩ | ⟨-, e1, e2⟩
    · exact absurd c (by decide)
    · exact Or.inl ⟨f1_ne (by decide), g, e1, e2, fK_rf, hT.2.1⟩
  rw [if_neg h13'] at hU
  rw [if_pos (by omega : tkS b n i ≤ 13)] at hx
  generalize hs : tkS b n i = s at *
  rcases hx with ⟨-, hx⟩ | ⟨c, -⟩
  rotate_left
  · exact absurd hk0 c
  -- what goes on
  have go : ∀ (N : Nat) (ρ : Nat → Int) (r1 : Option g_V) (k1 : g_H) (on' : Nat) (G : Nat → Nat → Int), on' < 32 → ρ 0 = (M : Int) → ρ 1 = s → ρ 2 = (k : Int) → k < 24 → fK M tx pl bg t0 g G → (∀ j, j ≠ 14 → j ≠ 21 → G M j = g M j) → G M 14 = s → G M 21 = (on' : Int) → G tx t0 = (k : Int) → (match u_bd (tkS b n) (vlS b n) F s (i + 1) with
      | none => none
      | some q => if q.1 = 0 then (if tkS b n q.2 = 50 then uT (tkS b n) (vlS b n) F (q.2 + 1) (k + 1) on' else some (1, q.2)) else some q) = some Q → g_ex ax yX12_nextToken cX12_nextToken [(0, (M : Int))] (L, G) r1 k1 → g_run RX12 ax (g_ex ax) cX12_clause N (74, ρ, g_push r1 [], k1) r h → (Q.1 ≠ 0 ∧ ∃ g', r = some (1, Q.1) ∧ h = (L, g') ∧ fK M tx pl bg t0 g g' ∧ g' M 8 = (x_ps b n Q.2 : Int)) ∨ (∃ (g' : Nat → Nat → Int) (j w' on' : Nat), r = some (1, 0) ∧ h = (L, g') ∧ fK M tx pl bg t0 g g' ∧ FS b n M m g' j w' ∧ g' tx t0 = ((k + 1 : Nat) : Int) ∧ k + 1 ≤ 24 ∧ g' M 21 = (on' : Int) ∧ on' < 32 ∧ uT (tkS b n) (vlS b n) F j (k + 1) on' = some Q) := by
    intro N ρ r1 k1 on' G hon' h0 h1 h2 hk' fG Gj G14 G21 Gt hU hx1 hr1
    have hCG := RC_K hD hC fG
    rw [G14] at hCG
    obtain ⟨e1, g1, e2, e3, e4⟩ := nt_i (i := i) hCG (by rw [Gj 7 (by decide) (by decide)]; exact hT.1) hx1
    subst e1
    subst e2
    have f1 := fR_fM (tx := tx) (pl := pl) (bg := bg) (t0 := t0) e3
    rcases cl_74 hD hm hE (RC_mo hD hCG f1) (w := w) ⟨e4, by rw [e3 M 13 (by omega), Gj 13 (by decide) (by decide)]; exact h13, by omega, by omega⟩ ((e3 tx t0 (Or.inl (Ne.symm d1))).trans Gt) hk' ((e3 M 21 (by omega)).trans G21) hon' hk0 (by omega) h0 h1 h2 hU hr1 with ⟨a1, g2, a2, a3, a4, a5⟩ | ⟨g2, j, w', a2, a3, a4, a5, a6, a7, a8⟩
    · exact Or.inl ⟨a1, g2, a2, a3, fK_tr (fK_tr fG (fK_R f1)) a4, a5⟩
    · exact Or.inr ⟨g2, j, w', on', a2, a3, fK_tr (fK_tr fG (fK_R f1)) a4, a5, a6, by omega, a7, hon', a8⟩
  have nt : tx ≠ M := Ne.symm d1
  by_cases h4 : s < 5
  · obtain ⟨s', rfl⟩ := Int.eq_ofNat_of_zero_le hk0
    have hs5 : s' < 5 := by omega
    have hh : F_X12_has (on : Int) ((s' : Nat) : Int) g = if on.testBit s' = true then 1 else 0 := on_has ⟨on, hon32⟩ ⟨s', hs5⟩
    obtain ⟨ho1, ho2⟩ := on_or ⟨on, hon32⟩ ⟨s', hs5⟩
    simp only at ho1 ho2
    rw [hon] at hx
    rw [hh, ho1] at hx
    rw [if_pos h4, Int.toNat_natCast] at hU
    rcases hx with ⟨c, -⟩ | ⟨-, hx⟩
    · omega
    by_cases hb : on.testBit s' = true
    · rw [if_pos hb] at hx
      rw [if_pos ⟨h4, hb⟩] at hU
      cases hU
      rcases hx with ⟨c, -⟩ | ⟨-, e1, e2⟩
      · cases c
      · exact Or.inl ⟨f1_ne (by decide), g, e1, e2, fK_rf, hT.2.1⟩
    rw [if_neg hb] at hx
    rw [if_neg (fun hh => hb hh.2)] at hU
    rcases hx with ⟨-, hx⟩ | ⟨c, -⟩
    rotate_left
    · exact absurd rfl c
    rcases hx with ⟨c, e1, e2⟩ | ⟨c, n1, r1, k1, -, hx1, hr1⟩
    · rw [if_pos (by omega)] at hU
      cases hU
      exact Or.inl ⟨f1_ne (by decide), g, e1, e2, fK_rf, hT.2.1⟩
    · rw [if_neg (by omega)] at hU
      exact go n1 _ r1 k1 _ _ ho2 (by rw [vu, if_neg (by decide), vu, if_neg (by decide)]; exact h0) (by rw [vu, if_neg (by decide), vu, if_pos rfl]) (by rw [vu, if_pos rfl]) (by omega) (fK_up (fK_up fK_rf (Or.inr (Or.inl ⟨rfl, Or.inr rfl⟩))) (Or.inr (Or.inl ⟨rfl, Or.inl rfl⟩))) (fun j a1 a2 => by rw [g_up_j a1, g_up_j a2]) (by rw [g_up_s]) (by rw [g_up_j (by decide), g_up_s]) (by rw [g_up_a nt, g_up_a nt]; exact hk) hU hx1 hr1
  · rw [if_neg h4, if_neg (fun hh => h4 hh.1)] at hU
    rcases hx with ⟨-, hx⟩ | ⟨c, -⟩
    rotate_left
    · omega
    rcases hx with ⟨c, e1, e2⟩ | ⟨c, n1, r1, k1, -, hx1, hr1⟩
    · rw [if_pos (by omega)] at hU
      cases hU
      exact Or.inl ⟨f1_ne (by decide), g, e1, e2, fK_rf, hT.2.1⟩
    · rw [if_neg (by omega)] at hU
      exact go n1 _ r1 k1 on _ hon32 (by rw [vu, if_neg (by decide), vu, if_neg (by decide)]; exact h0) (by rw [vu, if_neg (by decide), vu, if_pos rfl]) (by rw [vu, if_pos rfl]) (by omega) (fK_up fK_rf (Or.inr (Or.inl ⟨rfl, Or.inl rfl⟩))) (fun j a1 a2 => by rw [g_up_j a1]) (by rw [g_up_s]) (by rw [g_up_j (by decide)]; exact hon) (by rw [g_up_a nt]; exact hk) hU hx1 hr1
/-- CLAUSES, from one on -/
theorem rt_44 (hD : RD M tx tb pl bg) (hm : m ≤ 300) (hE : tkS b n m = 54) : ∀ (F : Nat) {N k on i w : Nat} {Q : Int × Nat} {so : Int} {ρ : Nat → Int} {g : Nat → Nat → Int}, RC b n M tx tb pl bg t0 so g → FS b n M m g i w → g tx t0 = (k : Int) → k ≤ 24 → g M 21 = (on : Int) → on < 32 → uT (tkS b n) (vlS b n) F i k on = some Q → ρ 0 = (M : Int) → g_run RX12 ax (g_ex ax) cX12_readText N (44, ρ, [], L, g) r h → ∃ g', r = some (1, Q.1) ∧ h = (L, g') ∧ fK M tx pl bg t0 g g' ∧ g' M 8 = (x_ps b n Q.2 : Int) := by
  intro F
  induction F with
  | zero => intro N k on i w Q so ρ g _ _ _ _ _ _ hU; cases hU
  | succ F ih =>
    intro N k on i w Q so ρ g hC hF hk hk24 hon hon32 hU h0 hr
    have k54 := (TK_i hC hF.1).1
    have hx := pt_X12_readText_44 (fun _ _ _ _ _ _ h => h) hr
    rw [h0, Int.toNat_natCast] at hx
    rcases hx with ⟨c, e1, e2⟩ | ⟨c, n1, r1, k1, -, hx1, hr1⟩
    · have h54 : tkS b n i = 54 := k54.mpr c
      unfold uT at hU
      rw [if_pos h54] at hU
      cases hU
      exact ⟨g, e1, e2, fK_rf, hF.1.2.1⟩
    · have h54 : tkS b n i ≠ 54 := fun hh => c (k54.mp hh)
      rcases cl_x hD hm hE hC hF hk hk24 hon hon32 h54 hU hx1 with ⟨a1, g', a2, a3, a4, a5⟩ | ⟨g', j, w', on', a2, a3, a4, a5, a6, a7, a8, a9, a10⟩
      · subst a2
        subst a3
        rcases pt_X12_readText_55 (fun _ _ _ _ _ _ h => h) hr1 with ⟨c2, -⟩ | ⟨-, e1, e2⟩
        · exact absurd c2 a1
        · exact ⟨g', e1, e2, a4, a5⟩
      · subst a2
        subst a3
        rcases pt_X12_readText_55 (fun _ _ _ _ _ _ h => h) hr1 with ⟨-, n2, -, hr2⟩ | ⟨c2, -⟩
        · obtain ⟨g2, b1, b2, b3, b4⟩ := ih (RC_K hD hC a4) a5 a6 a7 a8 a9 a10 (by rw [vu, if_neg (by decide)]; exact h0) hr2
          exact ⟨g2, b1, b2, fK_tr a4 b3, b4⟩
        · exact absurd rfl c2
end RZ
