/-! What is open, what has been compared, what is asked ahead. -/
theorem rk_4 {o : Int} (h : rk o ≤ 4) (hg : goodO o) : rk o = 4 ↔ (10 ≤ o ∧ o ≤ 15) := by
  unfold goodO at hg
  unfold rk at h ⊢
  repeat' split at h
  all_goals (first | omega | (repeat' split) <;> omega)
theorem rk_13 {o : Int} (hg : goodO o) (h : 1 ≤ rk o ∧ rk o ≤ 3) : o = 20 ∨ o = 21 ∨ o = 22 := by
  unfold goodO at hg
  unfold rk at h
  repeat' split at h
  all_goals omega
theorem pl_cons {P : Nat → Int} {o : Int} {l : List Int} (h : plist P (o :: l).length = o :: l) : P l.length = o ∧ plist P l.length = l := by
  have : plist P (l.length + 1) = o :: l := h
  simp only [plist] at this
  exact ⟨(List.cons.inj this).1, (List.cons.inj this).2⟩
theorem hc_openNow {X0 : zC0} (H : ∀ j, j < 412 → CMj X0 j) {K : Nat → Nat} {B : Int} {L : List Nat} {f : Nat → va_E} (hh : hok X0.2.2.1 K B L f) {m p : Nat} (hm : m ∈ L ∧ K m = 200) (hp : p ∈ L ∧ K p = 205) {l : List Int} (h17 : gi (f m) 17 = l.length) (hpl : plist (gi (f p)) l.length = l) : HC X0 M_openNow 2 0 [] [.ref m] K B L f (fun _ _ _ _ r => r = some (.int (Int32.ofInt (onl l)))) := by
  refine eM.mk ⟨_, rfl⟩ pnX12 (Nat.le_of_ble_eq_true rfl) (fun E hE _ hret => ?_)
  have fin : ∀ (K1 : Nat → Nat) (B1 : Int) (L1 : List Nat) (f1 : Nat → va_E) (c : Int) (lv : List (Nat × Value)), hok X0.2.2.1 K1 B1 L1 f1 → extC [] K B L f K1 B1 L1 f1 → onl l = c → eW E 0 0 L1 f1 42 lv [.int (Int32.ofInt c)] := fun K1 B1 L1 f1 c lv h1 e1 hc => hret 0 0 L1 f1 42 lv _ (Nat.le_refl _) (Nat.le_refl _) (by decide +kernel) (fun ft hft => by cases hft; rfl) ⟨K1, B1, h1, e1, by rw [hc]⟩
  have h160 := (hok_fld hh hm (j := 17) (lo := 0) (hi := 160) rfl).2
  have go : ∀ (l' : List Int) (v : Int) (K1 : Nat → Nat) (B1 : Int) (L1 : List Nat) (f1 : Nat → va_E), v = (l'.length : Int) - 1 → l'.length ≤ l.length → hok X0.2.2.1 K1 B1 L1 f1 → extC [] K B L f K1 B1 L1 f1 → (m ∈ L1 ∧ K1 m = 200) → onl l = onl l' → plist (gi (f p)) l'.length = l' → eW E 0 0 L1 f1 7 [(0, .ref m), (1, .int (Int32.ofInt v))] [] := by
    intro l'
    induction l' with
    | nil =>
      intro v K1 B1 L1 f1 hv _ h1 e1 hm1 ho _
      obtain rfl : v = -1 := by simpa using hv
      refine s_on7a H hE h1 hm1 (fun K2 B2 L2 f2 h2 e2 hm2 => ?_)
      exact s_on28a H hE h2 hm2 (fun K3 B3 L3 f3 h3 e3 hm3 => fin K3 B3 L3 f3 (-1) _ h3 (extC_tr e1 (extC_tr e2 e3)) ho)
    | cons o l' ih =>
      intro v K1 B1 L1 f1 hv hle h1 e1 hm1 ho hpl'
      obtain ⟨q1, q2⟩ := pl_cons hpl'
      have hlen : (o :: l').length = l'.length + 1 := rfl
      obtain rfl : v = (l'.length : Int) := by rw [hv, hlen]; omega
      refine s_on7b H hE h1 ⟨by omega, by omega⟩ hm1 (fun K2 B2 L2 f2 v1 h2 e2 _ b1 hm2 hc => ?_) (fun K2 B2 L2 f2 v1 h2 e2 _ b1 hm2 hc => ?_)
      · have e02 := extC_tr e1 e2
        have hp2 := exin e02 hp
        have q3 := (hc p hp2.1 hp2.2).2
        rw [ext0 e02 hp.1, Int.toNat_natCast, q1] at q3
        refine s_on22 H hE h2 ⟨by omega, by omega⟩ hm2 (fun K3 B3 L3 f3 h3 e3 _ hm3 => ?_)
        refine ih _ K3 B3 L3 f3 (by omega) (by omega) h3 (extC_tr e02 e3) hm3 ?_ q2
        rw [ho]
        simp only [onl]
        rw [if_neg (by omega)]
      · have e02 := extC_tr e1 e2
        have hp2 := exin e02 hp
        have q3 := (hc p hp2.1 hp2.2).2
        rw [ext0 e02 hp.1, Int.toNat_natCast, q1] at q3
        refine s_on28b H hE h2 ⟨by omega, by omega⟩ hm2 (fun K3 B3 L3 f3 v2 h3 e3 _ _ hm3 hc3 => ?_)
        have hp3 := exin e3 hp2
        have q4 := (hc3 p hp3.1 hp3.2).2
        rw [ext0 e3 hp2.1, ext0 e02 hp.1, Int.toNat_natCast, q1] at q4
        refine fin K3 B3 L3 f3 v2 _ h3 (extC_tr e02 e3) ?_
        rw [ho]
        simp only [onl]
        rw [if_pos (by omega)]
        exact q4
  refine s_on0 H hE hh hm (fun K1 B1 L1 f1 v0 h1 e1 _ hm1 hc => ?_)
  refine go l v0 K1 B1 L1 f1 ?_ (Nat.le_refl _) h1 e1 hm1 rfl hpl
  have := hc m hm1.1 hm1.2
  rw [ext0 e1 hm.1, h17] at this
  omega
theorem hc_isCompared {X0 : zC0} (H : ∀ j, j < 412 → CMj X0 j) {K : Nat → Nat} {B : Int} {L : List Nat} {f : Nat → va_E} (hh : hok X0.2.2.1 K B L f) {m p : Nat} (hm : m ∈ L ∧ K m = 200) (hp : p ∈ L ∧ K p = 205) {l : List Int} (hw : wf l) (h17 : gi (f m) 17 = l.length) (hpl : plist (gi (f p)) l.length = l) : HC X0 M_isCompared 3 0 [] [.ref m] K B L f (fun _ _ _ _ r => r = some (.int (Int32.ofInt (if cmd l = true then 1 else 0)))) := by
  refine eM.mk ⟨_, rfl⟩ pnX12 (Nat.le_of_ble_eq_true rfl) (fun E hE _ hret => ?_)
  have fin0 : ∀ (K1 : Nat → Nat) (B1 : Int) (L1 : List Nat) (f1 : Nat → va_E) (lv : List (Nat × Value)), hok X0.2.2.1 K1 B1 L1 f1 → extC [] K B L f K1 B1 L1 f1 → cmd l = false → eW E 0 0 L1 f1 52 lv [.int (Int32.ofInt 0)] := fun K1 B1 L1 f1 lv h1 e1 hc => hret 0 0 L1 f1 52 lv _ (Nat.le_refl _) (Nat.le_refl _) (by decide +kernel) (fun ft hft => by cases hft; rfl) ⟨K1, B1, h1, e1, by rw [hc]; rfl⟩
  have fin1 : ∀ (K1 : Nat → Nat) (B1 : Int) (L1 : List Nat) (f1 : Nat → va_E) (lv : List (Nat × Value)), hok X0.2.2.1 K1 B1 L1 f1 → extC [] K B L f K1 B1 L1 f1 → cmd l = true → eW E 0 0 L1 f1 52 lv [.int (Int32.ofInt 1)] := fun K1 B1 L1 f1 lv h1 e1 hc => hret 0 0 L1 f1 52 lv _ (Nat.le_refl _) (Nat.le_refl _) (by decide +kernel) (fun ft hft => by cases hft; rfl) ⟨K1, B1, h1, e1, by rw [hc]; rfl⟩
  have h160 := (hok_fld hh hm (j := 17) (lo := 0) (hi := 160) rfl).2
  have go : ∀ (l' : List Int) (v : Int) (K1 : Nat → Nat) (B1 : Int) (L1 : List Nat) (f1 : Nat → va_E), wf l' → v = (l'.length : Int) - 1 → l'.length ≤ l.length → hok X0.2.2.1 K1 B1 L1 f1 → extC [] K B L f K1 B1 L1 f1 → (m ∈ L1 ∧ K1 m = 200) → cmd l = cmd l' → plist (gi (f p)) l'.length = l' → eW E 0 0 L1 f1 7 [(0, .ref m), (1, .int (Int32.ofInt v))] [] := by
    intro l'
    induction l' with
    | nil =>
      intro v K1 B1 L1 f1 _ hv _ h1 e1 hm1 ho _
      obtain rfl : v = -1 := by simpa using hv
      exact s_ic7a H hE h1 hm1 (fun K2 B2 L2 f2 h2 e2 hm2 => fin0 K2 B2 L2 f2 _ h2 (extC_tr e1 e2) ho)
    | cons o l' ih =>
      intro v K1 B1 L1 f1 hw' hv hle h1 e1 hm1 ho hpl'
      obtain ⟨q1, q2⟩ := pl_cons hpl'
      have hg := hw'.2.1
      have hlen : (o :: l').length = l'.length + 1 := rfl
      obtain rfl : v = (l'.length : Int) := by rw [hv, hlen]; omega
      refine s_ic7b H hE h1 ⟨by omega, by omega⟩ hm1 (fun K2 B2 L2 f2 v1 h2 e2 _ b1 hm2 hc => ?_)
      have e02 := extC_tr e1 e2
      have hp2 := exin e02 hp
      have q3 := (hc p hp2.1 hp2.2).2
      rw [ext0 e02 hp.1, Int.toNat_natCast, q1] at q3
      subst q3
      obtain ⟨l0, D0, cy0, ax0⟩ := X0
      refine w_callS hE (hc_rank H h2 hg) lX12_ok le_203 mt_rank (by decide) rfl rfl (by decide) (by decide +kernel) (fun r L3 f3 _ hpo => ?_)
      obtain ⟨K3, B3, h3, e3, rfl⟩ := hpo
      have e03 := extC_tr e02 e3
      refine s_ic20 H hE h3 ⟨by omega, by omega⟩ rk_bd (exin e3 hm2) (fun K4 B4 L4 f4 h4 e4 _ hr hm4 => ?_) (fun K4 B4 L4 f4 h4 e4 _ hr hm4 => ?_)
      · refine s_ic24 H hE h4 ⟨by omega, by omega⟩ hm4 (fun K5 B5 L5 f5 h5 e5 _ hm5 => ?_)
        refine ih _ K5 B5 L5 f5 hw'.1 (by omega) (by omega) h5 (extC_tr e03 (extC_tr e4 e5)) hm5 ?_ q2
        rw [ho]
        simp only [cmd]
        rw [if_neg (by omega)]
      · have e04 := extC_tr e03 e4
        refine s_ic30 H hE h4 ⟨by omega, by omega⟩ hm4 (fun K5 B5 L5 f5 v2 h5 e5 _ _ hm5 hc5 => ?_)
        have e05 := extC_tr e04 e5
        have hp5 := exin e05 hp
        have q5 := (hc5 p hp5.1 hp5.2).2
        rw [ext0 e05 hp.1, Int.toNat_natCast, q1] at q5
        subst q5
        refine w_callS hE (hc_rank H h5 hg) lX12_ok le_203 mt_rank (by decide) rfl rfl (by decide) (by decide +kernel) (fun r L6 f6 _ hpo => ?_)
        obtain ⟨K6, B6, h6, e6, rfl⟩ := hpo
        have e06 := extC_tr e05 e6
        by_cases h4' : rk o = 4
        · rw [h4']
          refine s_ic43a H hE h6 ⟨by omega, by omega⟩ (exin e6 hm5) (fun K7 B7 L7 f7 h7 e7 _ hm7 => ?_)
          exact s_ic47 H hE h7 ⟨by omega, by omega⟩ hm7 (fun K8 B8 L8 f8 h8 e8 _ _ => fin1 K8 B8 L8 f8 _ h8 (extC_tr e06 (extC_tr e7 e8)) (by rw [ho]; simp only [cmd]; rw [if_pos (by omega)]; simp [h4']))
        · refine s_ic43b H hE h6 ⟨by omega, by omega⟩ ⟨rk_bd.1, by omega⟩ (exin e6 hm5) (fun K7 B7 L7 f7 h7 e7 _ _ hm7 => ?_)
          exact s_ic51 H hE h7 ⟨by omega, by omega⟩ hm7 (fun K8 B8 L8 f8 h8 e8 _ _ => fin0 K8 B8 L8 f8 _ h8 (extC_tr e06 (extC_tr e7 e8)) (by rw [ho]; simp only [cmd]; rw [if_pos (by omega)]; simp [h4']))
  refine s_ic0 H hE hh hm (fun K1 B1 L1 f1 v0 h1 e1 _ hm1 hc => ?_)
  refine go l v0 K1 B1 L1 f1 hw ?_ (Nat.le_refl _) h1 e1 hm1 rfl hpl
  have := hc m hm1.1 hm1.2
  rw [ext0 e1 hm.1, h17] at this
  omega
