/-! A TEXT is read: both. -/
section TX
variable {ax : zAx} {L : List Nat} {b : Nat → Int} {n M tx tb pl bg : Nat} {r : Option g_V} {h : g_H}
/-- what the reference's reading may write -/
def kR (M tx pl bg t0 c j : Nat) : Prop := (c = M ∧ 7 ≤ j ∧ j ≤ 21 ∧ j ≠ 15 ∧ j ≠ 16) ∨ (c = tx ∧ t0 ≤ j) ∨ c = pl ∨ c = bg
theorem kR_K {t0 c j : Nat} (h : wR M tx pl bg t0 c j ∨ (c = M ∧ (j = 14 ∨ j = 21)) ∨ (c = tx ∧ j = t0)) : kR M tx pl bg t0 c j := by
  rcases h with (⟨h1, h2⟩ | ⟨h1, h2⟩ | h1 | h1) | ⟨h1, h2⟩ | ⟨h1, h2⟩
  · exact Or.inl ⟨h1, by omega, by omega, by omega, by omega⟩
  · exact Or.inr (Or.inl ⟨h1, by omega⟩)
  · exact Or.inr (Or.inr (Or.inl h1))
  · exact Or.inr (Or.inr (Or.inr h1))
  · exact Or.inl ⟨h1, by omega, by omega, by omega, by omega⟩
  · exact Or.inr (Or.inl ⟨h1, by omega⟩)
/-- the reference reads its tape: as uT says -/
theorem rdt_x (hD : RD M tx tb pl bg) {m c ar : Nat} (hm : m ≤ 300) (hE : tkS b n m = 54) {Q : Int × Nat} (hU : UT (tkS b n) (vlS b n) 0 0 0 Q) {g : Nat → Nat → Int} (h2 : g M 2 = (tx : Int)) (h15 : g M 15 = (pl : Int)) (h16 : g M 16 = (bg : Int)) (hB : RB b n M tb g) (h0r : g M 0 = (ar : Int)) (hc : g ar 7 = (c : Int)) (hc3 : c ≤ 4) (hx : g_ex ax yX12_readText cX12_readText [(0, (M : Int))] (L, g) r h) : ∃ g', r = some (1, Q.1) ∧ h = (L, g') ∧ (∀ e j, ¬ kR M tx pl bg (705 * c) e j → g' e j = g e j) ∧ g' M 8 = (x_ps b n Q.2 : Int) := by
  obtain ⟨ρ, N, hρ, hr⟩ := g_run_of hx
  have h0 : ρ 0 = (M : Int) := hρ (0, _) (by simp)
  obtain ⟨d1, d2, d3, d4, d5, d6, d7, d8, d9, d10⟩ := hD
  have hD : RD M tx tb pl bg := ⟨d1, d2, d3, d4, d5, d6, d7, d8, d9, d10⟩
  obtain ⟨n1, r1, k1, -, hx1, hr1⟩ := pt_X12_readText_0 (fun _ _ _ _ _ _ h => h) hr
  have e705 : g_i (705 * (c : Int)) = ((705 * c : Nat) : Int) := by
    rw [gi_of (by omega) (by omega)]
    omega
  rw [h0, Int.toNat_natCast, h0r, Int.toNat_natCast, hc, e705, h2, Int.toNat_natCast, g_up_s, Int.toNat_natCast] at hx1
  clear e705
  generalize hG : g_up (g_up (g_up (g_up (g_up g M 12 ((705 * c : Nat) : Int)) tx (705 * c) 0) M 13 0) M 21 0) M 7 0 = G at hx1
  have GM : ∀ j, j ≠ 7 → j ≠ 12 → j ≠ 13 → j ≠ 21 → G M j = g M j := fun j a1 a2 a3 a4 => by rw [← hG, g_up_j a1, g_up_j a4, g_up_j a3, g_up_a d1, g_up_j a2]
  have G12 : G M 12 = ((705 * c : Nat) : Int) := by rw [← hG, g_up_j (by decide), g_up_j (by decide), g_up_j (by decide), g_up_a d1, g_up_s]
  have G13 : G M 13 = 0 := by rw [← hG, g_up_j (by decide), g_up_j (by decide), g_up_s]
  have G21 : G M 21 = 0 := by rw [← hG, g_up_j (by decide), g_up_s]
  have G7 : G M 7 = 0 := by rw [← hG, g_up_s]
  have Gt : G tx (705 * c) = 0 := by rw [← hG, g_up_a (Ne.symm d1), g_up_a (Ne.symm d1), g_up_a (Ne.symm d1), g_up_s]
  have Gc : ∀ e, e ≠ M → ∀ j, ¬ (e = tx ∧ j = 705 * c) → G e j = g e j := fun e he j hj => by
    rw [← hG, g_up_a he, g_up_a he, g_up_a he]
    unfold g_up
    rw [if_neg (fun q => hj ⟨q.2, q.1⟩), if_neg (fun q => he q.2)]
  obtain ⟨b3, b4, bne, b300, bb⟩ := hB
  have hBG : RB b n M tb G := ⟨(GM 3 (by decide) (by decide) (by decide) (by decide)).trans b3, (GM 4 (by decide) (by decide) (by decide) (by decide)).trans b4, bne, b300, fun k hk => ⟨(Gc tb bne k (fun e => d5 e.1.symm)).trans (bb k hk).1, (bb k hk).2⟩⟩
  have hC : RC b n M tx tb pl bg (705 * c) (G M 14) G := ⟨(GM 2 (by decide) (by decide) (by decide) (by decide)).trans h2, (GM 15 (by decide) (by decide) (by decide) (by decide)).trans h15, (GM 16 (by decide) (by decide) (by decide) (by decide)).trans h16, G12, rfl, by omega, hBG⟩
  obtain ⟨e1, g1, e2, e3, e4, e5, e6⟩ := nt_ok hBG (p := 0) (Nat.zero_le n) G7 hx1
  subst e1
  subst e2
  have f1 : fR M tx pl bg (705 * c) G g1 := fR_fM e3
  obtain ⟨F, hF⟩ := hU
  obtain ⟨g', a1, a2, a3, a4⟩ := rt_44 hD hm hE F (RC_mo hD hC f1) (w := 0) (i := 0) (k := 0) (on := 0) ⟨⟨e4, e5, e6⟩, by rw [e3 M 13 (by omega)]; exact G13, Nat.zero_le _, Nat.zero_le _⟩ (by rw [e3 tx _ (Or.inl (Ne.symm d1))]; exact Gt) (Nat.zero_le _) (by rw [e3 M 21 (by omega)]; exact G21) (by decide) hF h0 hr1
  refine ⟨g', a1, a2, fun e j he => ?_, a4⟩
  rw [a3 e j (fun hh => he (kR_K hh)), f1 e j (fun hh => he (kR_K (Or.inl hh)))]
  by_cases heM : e = M
  · subst heM
    exact GM j (fun q => he (Or.inl ⟨rfl, by omega, by omega, by omega, by omega⟩)) (fun q => he (Or.inl ⟨rfl, by omega, by omega, by omega, by omega⟩)) (fun q => he (Or.inl ⟨rfl, by omega, by omega, by omega, by omega⟩)) (fun q => he (Or.inl ⟨rfl, by omega, by omega, by omega, by omega⟩))
  · exact Gc e heM j (fun q => he (Or.inr (Or.inl ⟨q.1, by omega⟩)))
end TX
