/-! The class's TOKENS. -/
theorem str_len : (Int32.ofNat (zlen.getD 1 0)).toInt = ((x_flat x_words).length : Int) := by decide +kernel
theorem str_n : (x_flat x_words).length ≤ 200 := by decide +kernel
theorem str_ch0 : ∀ i : Fin 200, ((zbyt.getD 1 []).getD (i : Nat) 0 &&& 255).toInt = (x_flat x_words).getD (i : Nat) 0 := by decide +kernel
theorem str_ch {i : Nat} (h : i < (x_flat x_words).length) : ((zbyt.getD 1 []).getD i 0 &&& 255).toInt = (x_flat x_words).getD i 0 := str_ch0 ⟨i, Nat.lt_of_lt_of_le h str_n⟩
theorem drop_c {l : List Int} {i : Nat} (h : i < l.length) : l.drop i = l.getD i 0 :: l.drop (i + 1) := by
  rw [List.getD_eq_getElem?_getD, List.getElem?_eq_getElem h]
  exact List.drop_eq_getElem_cons h
def TB (b : Nat → Int) (n T tr nr pr br : Nat) (g : Nat → Nat → Int) : Prop := g T 0 = (n : Int) ∧ g T 2 = (tr : Int) ∧ g T 3 = (nr : Int) ∧ g T 4 = (pr : Int) ∧ g T 5 = (br : Int) ∧ n ≤ 300 ∧ (∀ k, k < n → g br k = b k ∧ 0 ≤ b k ∧ b k ≤ 255)
def TD (T tr nr pr br : Nat) : Prop := T ≠ tr ∧ T ≠ nr ∧ T ≠ pr ∧ T ≠ br ∧ tr ≠ nr ∧ tr ≠ pr ∧ tr ≠ br ∧ nr ≠ pr ∧ nr ≠ br ∧ pr ≠ br
/-- only what TOKENS are laid into -/
def fT (T tr nr pr : Nat) (g g' : Nat → Nat → Int) : Prop := ∀ c j, ¬ (c = T ∧ j = 1) → c ≠ tr → c ≠ nr → c ≠ pr → g' c j = g c j
theorem fT_rf {T tr nr pr : Nat} {g : Nat → Nat → Int} : fT T tr nr pr g g := fun _ _ _ _ _ _ => rfl
theorem fT_tr {T tr nr pr : Nat} {g g1 g2 : Nat → Nat → Int} (h1 : fT T tr nr pr g g1) (h2 : fT T tr nr pr g1 g2) : fT T tr nr pr g g2 := fun c j a1 a2 a3 a4 => (h2 c j a1 a2 a3 a4).trans (h1 c j a1 a2 a3 a4)
theorem TB_mo {b : Nat → Int} {n T tr nr pr br : Nat} {g g' : Nat → Nat → Int} (hD : TD T tr nr pr br) (h : TB b n T tr nr pr br g) (hf : fT T tr nr pr g g') : TB b n T tr nr pr br g' := by
  obtain ⟨h0, h2, h3, h4, h5, hn, hb⟩ := h
  obtain ⟨d1, d2, d3, d4, d5, d6, d7, d8, d9, d10⟩ := hD
  have hT : ∀ j, j ≠ 1 → g' T j = g T j := fun j hj => hf T j (fun h => hj h.2) d1 d2 d3
  exact ⟨(hT 0 (by decide)).trans h0, (hT 2 (by decide)).trans h2, (hT 3 (by decide)).trans h3, (hT 4 (by decide)).trans h4, (hT 5 (by decide)).trans h5, hn, fun k hk => ⟨(hf br k (fun h => d4 h.1.symm) (fun h => d7 h.symm) (fun h => d9 h.symm) (fun h => d10 h.symm)).trans (hb k hk).1, (hb k hk).2⟩⟩
/-- one TOKEN more -/
def g_ad (T tr nr pr k : Nat) (x p v : Int) (g : Nat → Nat → Int) : Nat → Nat → Int := g_up (g_up (g_up (g_up g tr k x) pr k p) nr k v) T 1 ((k : Int) + 1)
def AT (T tr nr pr k : Nat) (x p v : Int) (g g' : Nat → Nat → Int) : Prop := fT T tr nr pr g g' ∧ g' T 1 = (k : Int) + 1 ∧ (g' tr k = x ∧ g' nr k = v ∧ g' pr k = p) ∧ ∀ i, i ≠ k → g' tr i = g tr i ∧ g' nr i = g nr i ∧ g' pr i = g pr i
section LC
variable {ax : zAx} {CE : g_E} {L : List Nat} {b : Nat → Int} {n T tr nr pr br : Nat} {r : Option g_V} {h : g_H}
theorem ad_at (hD : TD T tr nr pr br) (k : Nat) (x p v : Int) (g : Nat → Nat → Int) : AT T tr nr pr k x p v g (g_ad T tr nr pr k x p v g) := by
  obtain ⟨d1, d2, d3, d4, d5, d6, d7, d8, d9, d10⟩ := hD
  unfold g_ad
  refine ⟨fun c j a1 a2 a3 a4 => ?_, g_up_s .., ⟨?_, ?_, ?_⟩, fun i hi => ⟨?_, ?_, ?_⟩⟩
  · unfold g_up
    rw [if_neg (fun h => a1 ⟨h.2, h.1⟩), if_neg (fun h => a3 h.2), if_neg (fun h => a4 h.2), if_neg (fun h => a2 h.2)]
  · rw [g_up_a (Ne.symm d1), g_up_a d5, g_up_a d6, g_up_s]
  · rw [g_up_a (Ne.symm d2), g_up_s]
  · rw [g_up_a (Ne.symm d3), g_up_a (Ne.symm d8), g_up_s]
  · rw [g_up_a (Ne.symm d1), g_up_a d5, g_up_a d6, g_up_j hi]
  · rw [g_up_a (Ne.symm d2), g_up_j hi, g_up_a d8.symm.symm, g_up_a (Ne.symm d5)]
  · rw [g_up_a (Ne.symm d3), g_up_a (Ne.symm d8), g_up_j hi, g_up_a (Ne.symm d6)]
theorem at_eq (hD : TD T tr nr pr br) {g : Nat → Nat → Int} (hT : TB b n T tr nr pr br g) {k : Nat} (hk : g T 1 = (k : Int)) (hk3 : k ≤ 300) (x p : Int) : F_X6_addToken (T : Int) x p g = g_ad T tr nr pr k x p 0 g := by
  obtain ⟨h0, h2, h3, h4, h5, hn, hb⟩ := hT
  obtain ⟨d1, d2, d3, d4, d5, d6, d7, d8, d9, d10⟩ := hD
  have eg : g_i ((k : Int) + 1) = (k : Int) + 1 := gi_of (by omega) (by omega)
  replace eg : EqG (g_i ((k : Int) + 1)) ((k : Int) + 1) := eg
  unfold F_X6_addToken g_ad
  simp only [Int.toNat_natCast, hk, h2, h3, h4, g_up_a (b := T) (a := tr) d1, g_up_a (b := T) (a := nr) d2, g_up_a (b := T) (a := pr) d3, eg.e]
  rw [if_neg (by omega)]
theorem let_eq (c : Int) (g : Nat → Nat → Int) : F_X6_isLetter c g = if x_let c = true then 1 else 0 := by
  unfold F_X6_isLetter F_X11_isWithin x_let
  simp only [Bool.or_eq_true, Bool.and_eq_true, decide_eq_true_eq]
  (repeat' split) <;> omega
theorem dig_eq (c : Int) (g : Nat → Nat → Int) : F_X6_isDigit c g = if x_dig c = true then 1 else 0 := by
  unfold F_X6_isDigit F_X11_isWithin x_dig
  simp only [Bool.and_eq_true, decide_eq_true_eq]
  (repeat' split) <;> omega
theorem wo_11 (hCE : ∀ y cc as h r h', CE y cc as h r h' → g_ex ax y cc as h r h') (hL0 : ax.1 0 ∉ L) (hL1 : ax.1 1 ∉ L) (hd : ax.1 0 ≠ ax.1 1) {g : Nat → Nat → Int} (hT : TB b n T tr nr pr br g) {s e : Nat} (hse : s ≤ e) (hen : e ≤ n) : ∀ (N : Nat) {ρ : Nat → Int} {i k a : Nat} {sm : Bool}, i ≤ (x_flat x_words).length → a ≤ s + i → k ≤ i → ρ 0 = (T : Int) → ρ 1 = (s : Int) → ρ 2 = (e : Int) → ρ 3 = (k : Int) → ρ 4 = (a : Int) → ρ 5 = (if sm = true then 1 else 0) → ρ 6 = (i : Int) → g_run RX6 ax CE cX6_wordOf N (11, ρ, [], L, g) r h → r = some (1, x_wo b s e ((x_flat x_words).drop i) (k : Int) a sm) ∧ h = (L, g) := by
  obtain ⟨t0, t2, t3, t4, t5, hn, hb⟩ := hT
  intro N
  induction N using Nat.strongRecOn with
  | _ N ih =>
  intro ρ i k a sm hi ha hk r0 r1 r2 r3 r4 r5 r6 hr
  have hs200 := str_n
  have hx := pt_X6_wordOf_11 hCE hL0 hL1 hd hr
  have ei : g_i ((i : Int) + 1) = ((i + 1 : Nat) : Int) := (gi_of (by omega) (by omega)).trans (by omega)
  replace ei : EqG (g_i ((i : Int) + 1)) (((i + 1 : Nat) : Int)) := ei
  have ek : g_i ((k : Int) + 1) = ((k + 1 : Nat) : Int) := (gi_of (by omega) (by omega)).trans (by omega)
  replace ek : EqG (g_i ((k : Int) + 1)) (((k + 1 : Nat) : Int)) := ek
  have ea : g_i ((a : Int) + 1) = ((a + 1 : Nat) : Int) := (gi_of (by omega) (by omega)).trans (by omega)
  replace ea : EqG (g_i ((a : Int) + 1)) (((a + 1 : Nat) : Int)) := ea
  simp only [r0, r1, r2, r3, r4, r6, Int.toNat_natCast, t5, ei.e, ek.e, ea.e, str_len] at hx
  rcases hx with ⟨c1, e1, e2⟩ | ⟨c1, hx⟩
  · have hie : (x_flat x_words).drop i = [] := List.drop_eq_nil_of_le (by omega)
    rw [hie]
    exact ⟨e1, e2⟩
  have hil : i < (x_flat x_words).length := by omega
  rw [drop_c hil]
  simp only [str_ch hil] at hx
  have r50 : ρ 5 = 0 ↔ sm = false := by rw [r5]; cases sm <;> simp
  rcases hx with ⟨c2, ⟨c3, n1, l1, h1⟩ | ⟨c3, ⟨c4, e1, e2⟩ | ⟨c4, n1, l1, h1⟩⟩⟩ | ⟨c2, ⟨c3, n1, l1, h1⟩ | ⟨c3, ⟨c4, n1, l1, h1⟩ | ⟨c4, ⟨c5, n1, l1, h1⟩ | ⟨c5, n1, l1, h1⟩⟩⟩⟩
  · have hsm := r50.mp c3
    obtain ⟨e1, e2⟩ := ih n1 l1 (i := i + 1) (k := k + 1) (a := s) (sm := true) (by omega) (by omega) (by omega) (by simp [va_up, r0]) (by simp [va_up, r1]) (by simp [va_up, r2]) (by simp [va_up]) (by simp [va_up]) (by simp [va_up]) (by simp [va_up]) h1
    refine ⟨?_, e2⟩
    rw [e1]
    conv => rhs; unfold x_wo
    rw [c2, if_neg (by decide), hsm, if_neg (fun h => by cases h.1)]
    rw [show ((k + 1 : Nat) : Int) = (k : Int) + 1 by omega]
  · have hsm : sm = true := by
      cases sm with
      | true => rfl
      | false => exact absurd (r50.mpr rfl) c3
    refine ⟨?_, e2⟩
    rw [e1]
    unfold x_wo
    rw [c2, if_neg (by decide), if_pos ⟨hsm, by omega⟩]
  · obtain ⟨e1, e2⟩ := ih n1 l1 (i := i + 1) (k := k + 1) (a := s) (sm := true) (by omega) (by omega) (by omega) (by simp [va_up, r0]) (by simp [va_up, r1]) (by simp [va_up, r2]) (by simp [va_up]) (by simp [va_up]) (by simp [va_up]) (by simp [va_up]) h1
    refine ⟨?_, e2⟩
    rw [e1]
    conv => rhs; unfold x_wo
    rw [c2, if_neg (by decide), if_neg (fun h => c4 (by omega))]
    rw [show ((k + 1 : Nat) : Int) = (k : Int) + 1 by omega]
  all_goals
    have step : ∀ (sm' : Bool), sm' = (sm && decide (a < e) && decide (b a = (x_flat x_words).getD i 0)) → (r = some (1, x_wo b s e ((x_flat x_words).drop (i + 1)) (k : Int) (a + 1) sm') ∧ h = (L, g)) → r = some (1, x_wo b s e ((x_flat x_words).getD i 0 :: (x_flat x_words).drop (i + 1)) (k : Int) a sm) ∧ h = (L, g) := by
      intro sm' hsm' ⟨e1, e2⟩
      refine ⟨?_, e2⟩
      rw [e1]
      conv => rhs; unfold x_wo
      rw [if_pos c2, hsm']
  · refine step false (by rw [r50.mp c3]; rfl) (ih n1 l1 (i := i + 1) (k := k) (a := a + 1) (sm := false) (by omega) (by omega) (by omega) (by simp [va_up, r0]) (by simp [va_up, r1]) (by simp [va_up, r2]) (by simp [va_up, r3]) (by simp [va_up]) (by simp [va_up]) (by simp [va_up]) h1)
  · refine step false (by rw [decide_eq_false (by omega : ¬ a < e)]; simp) (ih n1 l1 (i := i + 1) (k := k) (a := a + 1) (sm := false) (by omega) (by omega) (by omega) (by simp [va_up, r0]) (by simp [va_up, r1]) (by simp [va_up, r2]) (by simp [va_up, r3]) (by simp [va_up]) (by simp [va_up]) (by simp [va_up]) h1)
  · have hsm : sm = true := by
      cases sm with
      | true => rfl
      | false => exact absurd (r50.mpr rfl) c3
    have hae : a < e := by omega
    rw [(hb a (by omega)).1] at c5
    refine step true (by rw [hsm, decide_eq_true hae, decide_eq_true c5]; rfl) (ih n1 l1 (i := i + 1) (k := k) (a := a + 1) (sm := true) (by omega) (by omega) (by omega) (by simp [va_up, r0]) (by simp [va_up, r1]) (by simp [va_up, r2]) (by simp [va_up, r3]) (by simp [va_up]) (by simp [va_up]) (by simp [va_up]) h1)
  · have hae : a < e := by omega
    rw [(hb a (by omega)).1] at c5
    refine step false (by rw [decide_eq_false c5]; simp) (ih n1 l1 (i := i + 1) (k := k) (a := a + 1) (sm := false) (by omega) (by omega) (by omega) (by simp [va_up, r0]) (by simp [va_up, r1]) (by simp [va_up, r2]) (by simp [va_up, r3]) (by simp [va_up]) (by simp [va_up]) (by simp [va_up]) h1)
theorem wo_ok (hL0 : ax.1 0 ∉ L) (hL1 : ax.1 1 ∉ L) (hd : ax.1 0 ≠ ax.1 1) {g : Nat → Nat → Int} (hT : TB b n T tr nr pr br g) {s e : Nat} (hse : s ≤ e) (hen : e ≤ n) (hx : g_ex ax yX6_wordOf cX6_wordOf [(0, (T : Int)), (1, (s : Int)), (2, (e : Int))] (L, g) r h) : r = some (1, x_fi (x_seg b s (e - s)) x_words 0) ∧ h = (L, g) := by
  obtain ⟨ρ, N, hρ, hr⟩ := g_run_of hx
  have r0 : ρ 0 = (T : Int) := hρ (0, _) (by simp)
  have r1 : ρ 1 = (s : Int) := hρ (1, _) (by simp)
  have r2 : ρ 2 = (e : Int) := hρ (2, _) (by simp)
  obtain ⟨n1, l1, h1⟩ := pt_X6_wordOf_0 (fun _ _ _ _ _ _ h => h) hL0 hL1 hd hr
  obtain ⟨e1, e2⟩ := wo_11 (fun _ _ _ _ _ _ h => h) hL0 hL1 hd hT hse hen n1 (i := 0) (k := 0) (a := s) (sm := true) (Nat.zero_le _) (Nat.le_refl _) (Nat.le_refl _) (by simp [va_up, r0]) (by simp [va_up, r1]) (by simp [va_up, r2]) (by simp [va_up]) (by simp [va_up, r1]) (by simp [va_up]) (by simp [va_up]) h1
  rw [← wo_flat hse x_words 0 words_32]
  exact ⟨e1, e2⟩
end LC
section LD
variable {ax : zAx} {CE : g_E} {L : List Nat} {b : Nat → Int} {n T tr nr pr br : Nat} {r : Option g_V} {h : g_H}
theorem aw_2 (hCE : ∀ y cc as h r h', CE y cc as h r h' → g_ex ax y cc as h r h') (hL0 : ax.1 0 ∉ L) (hL1 : ax.1 1 ∉ L) (hd : ax.1 0 ≠ ax.1 1) (hD : TD T tr nr pr br) {g : Nat → Nat → Int} (hT : TB b n T tr nr pr br g) {k p : Nat} (hk : g T 1 = (k : Int)) (hk3 : k ≤ 300) : ∀ (N : Nat) {ρ : Nat → Int} {e : Nat}, p ≤ e → e ≤ n → x_to x_let b n p = x_to x_let b n e → ρ 0 = (T : Int) → ρ 1 = (p : Int) → ρ 2 = (e : Int) → g_run RX6 ax CE cX6_addWord N (2, ρ, [], L, g) r h → r = some (1, (x_to x_let b n p : Int)) ∧ h = (L, g_ad T tr nr pr k (x_fi (x_seg b p (x_to x_let b n p - p)) x_words 0) p 0 g) := by
  have hT0 := hT
  obtain ⟨t0, t2, t3, t4, t5, hn, hb⟩ := hT0
  intro N
  induction N using Nat.strongRecOn with
  | _ N ih =>
  intro ρ e hpe hen hto r0 r1 r2 hr
  have hx := pt_X6_addWord_2 hCE hr
  have ee : g_i ((e : Int) + 1) = ((e + 1 : Nat) : Int) := (gi_of (by omega) (by omega)).trans (by omega)
  replace ee : EqG (g_i ((e : Int) + 1)) (((e + 1 : Nat) : Int)) := ee
  simp only [r0, r1, r2, Int.toNat_natCast, t0, t5, ee.e, let_eq] at hx
  have fin : ∀ {n' : Nat} {r1' : Option g_V} {h1' : g_H}, x_to x_let b n e = e → CE yX6_wordOf cX6_wordOf [(0, (T : Int)), (1, (p : Int)), (2, (e : Int))] (L, g) r1' h1' → g_run RX6 ax CE cX6_addWord n' (35, ρ, g_push r1' [(1, (T : Int))], h1') r h → r = some (1, (x_to x_let b n p : Int)) ∧ h = (L, g_ad T tr nr pr k (x_fi (x_seg b p (x_to x_let b n p - p)) x_words 0) p 0 g) := by
    intro n' r1' h1' he hw h1
    obtain ⟨e1, e2⟩ := wo_ok hL0 hL1 hd hT hpe hen (hCE _ _ _ _ _ _ hw)
    subst e1
    subst e2
    obtain ⟨e3, e4⟩ := pt_X6_addWord_35 hCE h1
    rw [r1, at_eq hD hT hk hk3] at e4
    rw [r2] at e3
    rw [hto, he]
    exact ⟨e3, e4⟩
  rcases hx with ⟨c1, n', r1', h1', l1, hw, h1⟩ | ⟨c1, ⟨c2, n', r1', h1', l1, hw, h1⟩ | ⟨c2, n1, l1, h1⟩⟩
  · exact fin (x_to_e (by omega)) hw h1
  · have hen' : e < n := by omega
    rw [(hb e hen').1] at c2
    refine fin (x_to_n ?_) hw h1
    cases hx : x_let (b e) with
    | false => rfl
    | true => rw [hx, if_pos rfl] at c2; cases c2
  · have hen' : e < n := by omega
    rw [(hb e hen').1] at c2
    have hl : x_let (b e) = true := by
      cases hx : x_let (b e) with
      | true => rfl
      | false => rw [hx] at c2; exact absurd rfl c2
    exact ih n1 l1 (e := e + 1) (by omega) (by omega) (hto.trans (x_to_y hen' hl)) (by simp [va_up, r0]) (by simp [va_up, r1]) (by simp [va_up]) h1
theorem aw_ok (hL0 : ax.1 0 ∉ L) (hL1 : ax.1 1 ∉ L) (hd : ax.1 0 ≠ ax.1 1) (hD : TD T tr nr pr br) {g : Nat → Nat → Int} (hT : TB b n T tr nr pr br g) {k p : Nat} (hk : g T 1 = (k : Int)) (hk3 : k ≤ 300) (hp : p < n) (hl : x_let (b p) = true) (hx : g_ex ax yX6_addWord cX6_addWord [(0, (T : Int)), (1, (p : Int))] (L, g) r h) : r = some (1, (x_nx b n p : Int)) ∧ ∃ g', h = (L, g') ∧ AT T tr nr pr k (x_tk b n p) p (x_vl b n p) g g' := by
  obtain ⟨ρ, N, hρ, hr⟩ := g_run_of hx
  have r0 : ρ 0 = (T : Int) := hρ (0, _) (by simp)
  have r1 : ρ 1 = (p : Int) := hρ (1, _) (by simp)
  obtain ⟨n1, l1, h1⟩ := pt_X6_addWord_0 (fun _ _ _ _ _ _ h => h) hr
  obtain ⟨e1, e2⟩ := aw_2 (fun _ _ _ _ _ _ h => h) hL0 hL1 hd hD hT hk hk3 n1 (p := p) (e := p) (Nat.le_refl _) (by omega) rfl (by simp [va_up, r0]) (by simp [va_up, r1]) (by simp [va_up, r1]) h1
  have en : x_nx b n p = x_to x_let b n p := by
    unfold x_nx
    rw [if_neg (by omega), hl, if_pos rfl]
  have et : x_tk b n p = x_fi (x_seg b p (x_to x_let b n p - p)) x_words 0 := by
    unfold x_tk
    rw [if_neg (by omega), hl, if_pos rfl]
  have ev : x_vl b n p = 0 := by
    unfold x_vl
    rw [if_neg (by omega), hl, if_pos rfl]
  rw [en, et, ev]
  exact ⟨e1, _, e2, ad_at hD k _ _ _ g⟩
theorem an_4 (hCE : ∀ y cc as h r h', CE y cc as h r h' → g_ex ax y cc as h r h') (hD : TD T tr nr pr br) {g : Nat → Nat → Int} (hT : TB b n T tr nr pr br g) {k p : Nat} (hk : g T 1 = (k : Int)) (hk3 : k ≤ 300) : ∀ (N : Nat) {ρ : Nat → Int} {e : Nat}, p ≤ e → e ≤ n → x_to x_dig b n p = x_to x_dig b n e → (∀ j, p ≤ j → j < e → x_dig (b j) = true) → ρ 0 = (T : Int) → ρ 1 = (p : Int) → ρ 2 = x_val b p (e - p) → ρ 3 = (e : Int) → g_run RX6 ax CE cX6_addNumber N (4, ρ, [], L, g) r h → r = some (1, (x_to x_dig b n p : Int)) ∧ h = (L, g_up (g_ad T tr nr pr k 53 p 0 g) nr k (x_val b p (x_to x_dig b n p - p))) := by
  have hT0 := hT
  obtain ⟨t0, t2, t3, t4, t5, hn, hb⟩ := hT0
  obtain ⟨f1, f2, f3, f4⟩ := ad_at hD k 53 p 0 g
  intro N
  induction N using Nat.strongRecOn with
  | _ N ih =>
  intro ρ e hpe hen hto hdd r0 r1 r2 r3 hr
  have hv := x_val_vr (b := b) (p := p) (e - p) (fun j hj => hdd (p + j) (by omega) (by omega))
  have ee : g_i ((e : Int) + 1) = ((e + 1 : Nat) : Int) := (gi_of (by omega) (by omega)).trans (by omega)
  replace ee : EqG (g_i ((e : Int) + 1)) (((e + 1 : Nat) : Int)) := ee
  have ek : g_i ((k : Int) + 1 - 1) = (k : Int) := (gi_of (by omega) (by omega)).trans (by omega)
  replace ek : EqG (g_i ((k : Int) + 1 - 1)) ((k : Int)) := ek
  have eA := at_eq hD hT hk hk3 53 (p : Int)
  have eT3 : g_ad T tr nr pr k 53 p 0 g T 3 = (nr : Int) := (f1 T 3 (fun h => by cases h.2) hD.1 hD.2.1 hD.2.2.1).trans t3
  have hx := pt_X6_addNumber_4 hCE hr
  simp only [r0, r1, r2, r3, Int.toNat_natCast, t0, t5, ee.e, dig_eq, eA, eT3, f2, ek.e] at hx
  rcases hx with ⟨c1, e1, e2⟩ | ⟨c1, ⟨c2, e1, e2⟩ | ⟨c2, n1, l1, h1⟩⟩
  · rw [hto, x_to_e (by omega)]
    exact ⟨e1, e2⟩
  · have hen' : e < n := by omega
    rw [(hb e hen').1] at c2
    rw [hto, x_to_n (by
      cases hx : x_dig (b e) with
      | false => rfl
      | true => rw [hx, if_pos rfl] at c2; cases c2)]
    exact ⟨e1, e2⟩
  · have hen' : e < n := by omega
    rw [(hb e hen').1] at c2 h1
    have hl : x_dig (b e) = true := by
      cases hx : x_dig (b e) with
      | true => rfl
      | false => rw [hx] at c2; exact absurd rfl c2
    have hlr := hl
    unfold x_dig at hlr
    simp only [Bool.and_eq_true, decide_eq_true_eq] at hlr
    rw [gi_of (z := x_val b p (e - p) * 10) (by omega) (by omega), gi_of (z := x_val b p (e - p) * 10 + b e) (by omega) (by omega), gi_of (z := x_val b p (e - p) * 10 + b e - 48) (by omega) (by omega)] at h1
    refine ih n1 l1 (e := e + 1) (by omega) (by omega) (hto.trans (x_to_y hen' hl)) (fun j h1 h2 => ?_) (by simp [va_up, r0]) (by simp [va_up, r1]) ?_ (by simp [va_up]) h1
    · by_cases hj : j = e
      · rw [hj]; exact hl
      · exact hdd j h1 (by omega)
    · rw [show e + 1 - p = (e - p) + 1 by omega]
      show _ = min (x_val b p (e - p) * 10 + b (p + (e - p)) - 48) 10000
      rw [show p + (e - p) = e by omega]
      simp [va_up]
theorem an_ok (hD : TD T tr nr pr br) {g : Nat → Nat → Int} (hT : TB b n T tr nr pr br g) {k p : Nat} (hk : g T 1 = (k : Int)) (hk3 : k ≤ 300) (hp : p < n) (hl : x_let (b p) = false) (hd : x_dig (b p) = true) (hx : g_ex ax yX6_addNumber cX6_addNumber [(0, (T : Int)), (1, (p : Int))] (L, g) r h) : r = some (1, (x_nx b n p : Int)) ∧ ∃ g', h = (L, g') ∧ AT T tr nr pr k (x_tk b n p) p (x_vl b n p) g g' := by
  obtain ⟨ρ, N, hρ, hr⟩ := g_run_of hx
  have r0 : ρ 0 = (T : Int) := hρ (0, _) (by simp)
  have r1 : ρ 1 = (p : Int) := hρ (1, _) (by simp)
  obtain ⟨n1, l1, h1⟩ := pt_X6_addNumber_0 (fun _ _ _ _ _ _ h => h) hr
  obtain ⟨e1, e2⟩ := an_4 (fun _ _ _ _ _ _ h => h) hD hT hk hk3 n1 (p := p) (e := p) (Nat.le_refl _) (by omega) rfl (fun j h1 h2 => absurd h2 (by omega)) (by simp [va_up, r0]) (by simp [va_up, r1]) (by rw [Nat.sub_self]; simp [va_up, x_val]) (by simp [va_up, r1]) h1
  have en : x_nx b n p = x_to x_dig b n p := by
    unfold x_nx
    rw [if_neg (by omega), hl, if_neg (by decide), hd, if_pos rfl]
  have et : x_tk b n p = 53 := by
    unfold x_tk
    rw [if_neg (by omega), hl, if_neg (by decide), hd, if_pos rfl]
  have ev : x_vl b n p = x_val b p (x_to x_dig b n p - p) := by
    unfold x_vl
    rw [if_neg (by omega), hl, if_neg (by decide), hd, if_pos rfl]
  rw [en, et, ev]
  obtain ⟨f1, f2, ⟨f3, f4, f5⟩, f6⟩ := ad_at hD k 53 p 0 g
  obtain ⟨d1, d2, d3, d4, d5, d6, d7, d8, d9, d10⟩ := hD
  refine ⟨e1, _, e2, fun c j a1 a2 a3 a4 => (g_up_a a3).trans (f1 c j a1 a2 a3 a4), (g_up_a d2).trans f2, ⟨(g_up_a d5).trans f3, g_up_s .., (g_up_a (Ne.symm d8)).trans f5⟩, fun i hi => ⟨(g_up_a d5).trans (f6 i hi).1, (g_up_j hi).trans (f6 i hi).2.1, (g_up_a (Ne.symm d8)).trans (f6 i hi).2.2⟩⟩
theorem sg_y : ∀ x : Fin 256, ∀ v : Fin 11, (zbyt.getD 0 []).getD (v : Nat) 0 = (Int32.ofInt ((x : Nat) : Int)).toInt8.toInt32 → x_sg ((x : Nat) : Int) = 40 + ((v : Nat) : Int) := by decide +kernel
theorem sg_n : ∀ x : Fin 256, (∀ v : Fin 11, (zbyt.getD 0 []).getD (v : Nat) 0 ≠ (Int32.ofInt ((x : Nat) : Int)).toInt8.toInt32) → x_sg ((x : Nat) : Int) = 55 := by decide +kernel
theorem sg_c : ∀ x : Fin 256, ((Int32.ofInt ((x : Nat) : Int)).toUInt32 % 65536).toInt32.toInt = ((x : Nat) : Int) := by decide +kernel
theorem sg_ix {x v : Int} (h0 : 0 ≤ x) (h1 : x ≤ 255) (h : ixE (Int32.ofInt (((Int32.ofInt x).toUInt32 % 65536).toInt32.toInt)) v) : (0 ≤ v ∧ v ≤ 10 ∧ x_sg x = 40 + v) ∨ (v = -1 ∧ x_sg x = 55) := by
  obtain ⟨k, rfl⟩ := Int.eq_ofNat_of_zero_le h0
  have hk : k < 256 := by omega
  rw [sg_c ⟨k, hk⟩] at h
  obtain ⟨h2, h3⟩ := h
  rcases h2 with h2 | ⟨h4, h5, h6⟩
  · right
    have e : (Int32.ofInt (k : Int)).toInt = (k : Int) := Int32.toInt_ofInt_of_le (by omega) (by omega)
    exact ⟨h2, sg_n ⟨k, hk⟩ (fun v' => h3 (by rw [e]; omega) (by rw [e]; omega) v' v'.isLt (Or.inl h2))⟩
  · left
    refine ⟨h4, h5, ?_⟩
    have := sg_y ⟨k, hk⟩ ⟨v.toNat, by omega⟩ h6
    rw [this]
    show (40 : Int) + ((v.toNat : Nat) : Int) = 40 + v
    omega
theorem as_ok (hL0 : ax.1 0 ∉ L) (hL1 : ax.1 1 ∉ L) (hd : ax.1 0 ≠ ax.1 1) (hD : TD T tr nr pr br) {g : Nat → Nat → Int} (hT : TB b n T tr nr pr br g) {k p : Nat} (hk : g T 1 = (k : Int)) (hk3 : k ≤ 300) (hp : p < n) (hl : x_let (b p) = false) (hdg : x_dig (b p) = false) (hx : g_ex ax yX6_addSign cX6_addSign [(0, (T : Int)), (1, (p : Int))] (L, g) r h) : r = some (1, (x_nx b n p : Int)) ∧ ∃ g', h = (L, g') ∧ AT T tr nr pr k (x_tk b n p) p (x_vl b n p) g g' := by
  have hT0 := hT
  obtain ⟨t0, t2, t3, t4, t5, hn, hb⟩ := hT0
  obtain ⟨ρ, N, hρ, hr⟩ := g_run_of hx
  have r0 : ρ 0 = (T : Int) := hρ (0, _) (by simp)
  have r1 : ρ 1 = (p : Int) := hρ (1, _) (by simp)
  have hCE : ∀ y cc as h r h', g_ex ax y cc as h r h' → g_ex ax y cc as h r h' := fun _ _ _ _ _ _ h => h
  have ep : g_i ((p : Int) + 1) = ((p + 1 : Nat) : Int) := (gi_of (by omega) (by omega)).trans (by omega)
  replace ep : EqG (g_i ((p : Int) + 1)) (((p + 1 : Nat) : Int)) := ep
  have ep2 : g_i ((p : Int) + 2) = ((p + 2 : Nat) : Int) := (gi_of (by omega) (by omega)).trans (by omega)
  replace ep2 : EqG (g_i ((p : Int) + 2)) (((p + 2 : Nat) : Int)) := ep2
  have en : x_nx b n p = if (b p = 60 ∨ b p = 62) ∧ p + 1 < n ∧ b (p + 1) = 61 then p + 2 else p + 1 := nx_sg hp hl hdg
  have et : x_tk b n p = if (b p = 60 ∨ b p = 62) ∧ p + 1 < n ∧ b (p + 1) = 61 then (if b p = 60 then 51 else 52) else x_sg (b p) := by
    unfold x_tk
    rw [if_neg (by omega), hl, if_neg (by decide), hdg, if_neg (by decide)]
  have ev : x_vl b n p = 0 := by
    unfold x_vl
    rw [if_neg (by omega), hl, if_neg (by decide), hdg, if_neg (by decide)]
  have e44 : x_sg (b p) = 44 ↔ b p = 60 := by unfold x_sg; (repeat' split) <;> omega
  have e45 : x_sg (b p) = 45 ↔ b p = 62 := by unfold x_sg; (repeat' split) <;> omega
  have e88 : ∀ {n1 : Nat} {ρ : Nat → Int} (x : Int) (lk : Bool), ρ 0 = (T : Int) → ρ 1 = (p : Int) → ρ 3 = x → ρ 4 = (if lk = true then 1 else 0) → g_run RX6 ax (g_ex ax) cX6_addSign n1 (88, ρ, [], L, g) r h → x = x_tk b n p → (x_nx b n p = if lk = true then p + 2 else p + 1) → r = some (1, (x_nx b n p : Int)) ∧ ∃ g', h = (L, g') ∧ AT T tr nr pr k (x_tk b n p) p (x_vl b n p) g g' := by
    intro n1 ρ x lk r0 r1 r3 r4 h1 hx hn
    have hy := pt_X6_addSign_88 hCE hL0 hL1 hd h1
    simp only [r0, r1, r3, ep.e, ep2.e, at_eq hD hT hk hk3] at hy
    rw [hn, ← hx, ev]
    rcases hy with ⟨c1, e1, e2⟩ | ⟨c1, e1, e2⟩
    · have : lk = false := by
        cases lk with
        | false => rfl
        | true => rw [r4] at c1; cases c1
      subst this
      exact ⟨e1, _, e2, ad_at hD k _ _ _ g⟩
    · have : lk = true := by
        cases lk with
        | true => rfl
        | false => rw [r4] at c1; exact absurd rfl c1
      subst this
      exact ⟨e1, _, e2, ad_at hD k _ _ _ g⟩
  have e26 : ∀ {n1 : Nat} {ρ : Nat → Int} {s0 : Int}, s0 = x_sg (b p) → ρ 0 = (T : Int) → ρ 1 = (p : Int) → g_run RX6 ax (g_ex ax) cX6_addSign n1 (26, ρ, [(1, s0)], L, g) r h → r = some (1, (x_nx b n p : Int)) ∧ ∃ g', h = (L, g') ∧ AT T tr nr pr k (x_tk b n p) p (x_vl b n p) g g' := by
    intro n1 ρ s0 hs r0 r1 h1
    have hy := pt_X6_addSign_26 hCE hL0 hL1 hd h1
    simp only [r0, r1, Int.toNat_natCast, t0, t5, ep.e, hs, e44, e45] at hy
    rcases hy with ⟨c1, n1, l1, h1⟩ | ⟨c1, ⟨c2, ⟨c3, n1, l1, h1⟩ | ⟨c3, ⟨c4, n1, l1, h1⟩ | ⟨c4, n1, l1, h1⟩⟩⟩ | ⟨c2, n1, l1, h1⟩⟩
    · exact e88 _ false (by simp [va_up, r0]) (by simp [va_up, r1]) (by simp [va_up]; rfl) (by simp [va_up]) h1 (by rw [et, if_neg (by omega)]) (by rw [en, if_neg (by omega), if_neg (by decide)])
    all_goals
      have hp1 : p + 1 < n := by omega
      rw [(hb (p + 1) hp1).1] at c2
    · exact e88 _ true (by simp [va_up, r0]) (by simp [va_up, r1]) (by simp [va_up]; rfl) (by simp [va_up]) h1 (by rw [et, if_pos ⟨Or.inl c3, hp1, c2⟩, if_pos c3]) (by rw [en, if_pos ⟨Or.inl c3, hp1, c2⟩, if_pos rfl])
    · exact e88 _ true (by simp [va_up, r0]) (by simp [va_up, r1]) (by simp [va_up]; rfl) (by simp [va_up]) h1 (by rw [et, if_pos ⟨Or.inr c4, hp1, c2⟩, if_neg c3]) (by rw [en, if_pos ⟨Or.inr c4, hp1, c2⟩, if_pos rfl])
    · exact e88 _ false (by simp [va_up, r0]) (by simp [va_up, r1]) (by simp [va_up]; rfl) (by simp [va_up]) h1 (by rw [et, if_neg (by omega)]) (by rw [en, if_neg (by omega), if_neg (by decide)])
    · exact e88 _ false (by simp [va_up, r0]) (by simp [va_up, r1]) (by simp [va_up]; rfl) (by simp [va_up]) h1 (by rw [et, if_neg (by omega)]) (by rw [en, if_neg (by omega), if_neg (by decide)])
  obtain ⟨v, hv, hx⟩ := pt_X6_addSign_0 hCE hL0 hL1 hd hr
  simp only [r0, r1, Int.toNat_natCast, t5, (hb p hp).1] at hv
  have hs := sg_ix (hb p hp).2.1 (hb p hp).2.2 hv
  have ev2 : (Int32.ofInt v).toInt = v := Int32.toInt_ofInt_of_le (by omega) (by omega)
  rw [ev2] at hx
  rcases hx with ⟨c1, n1, l1, h1⟩ | ⟨c1, n1, l1, h1⟩
  · exact e26 ((gi_of (by omega) (by omega)).trans (by omega)) (by simp [va_up, r0]) (by simp [va_up, r1]) h1
  · exact e26 (by omega) (by simp [va_up, r0]) (by simp [va_up, r1]) h1
/-- the rows of TOKENS -/
def RW (b : Nat → Int) (n tr nr pr k : Nat) (g : Nat → Nat → Int) : Prop := ∀ j, j < k → g tr j = x_tk b n (x_ps b n j) ∧ g nr j = x_vl b n (x_ps b n j) ∧ g pr j = (x_ps b n j : Int)
theorem RW_at {k p : Nat} {g g' : Nat → Nat → Int} (h : RW b n tr nr pr k g) (hp : p = x_ps b n k) (ha : AT T tr nr pr k (x_tk b n p) p (x_vl b n p) g g') : RW b n tr nr pr (k + 1) g' := by
  intro j hj
  obtain ⟨f1, f2, f3, f4⟩ := ha
  by_cases hjk : j = k
  · rw [hjk, ← hp]
    exact f3
  · obtain ⟨a1, a2, a3⟩ := f4 j hjk
    obtain ⟨b1, b2, b3⟩ := h j (by omega)
    exact ⟨a1.trans b1, a2.trans b2, a3.trans b3⟩
def FTp (b : Nat → Int) (n T tr nr pr : Nat) (g g' : Nat → Nat → Int) : Prop := fT T tr nr pr g g' ∧ ∃ m : Nat, m ≤ 300 ∧ g' T 1 = (m : Int) + 1 ∧ x_ps b n m = n ∧ (∀ j, j < m → x_ps b n j < n) ∧ RW b n tr nr pr (m + 1) g'
theorem ft_9 (hCE : ∀ y cc as h r h', CE y cc as h r h' → g_ex ax y cc as h r h') (hL0 : ax.1 0 ∉ L) (hL1 : ax.1 1 ∉ L) (hd : ax.1 0 ≠ ax.1 1) (hD : TD T tr nr pr br) : ∀ (N : Nat) {ρ : Nat → Int} {g : Nat → Nat → Int} {a i k : Nat}, TB b n T tr nr pr br g → g T 1 = (k : Int) → RW b n tr nr pr k g → (∀ j, j < k → x_ps b n j < n) → a ≤ n → i ≤ a → x_to x_blk b n a = x_ps b n k → ρ 0 = (T : Int) → ρ 1 = (a : Int) → ρ 2 = (i : Int) → g_run RX6 ax CE cX6_findTokens N (9, ρ, [], L, g) r h → r = none ∧ ∃ g', h = (L, g') ∧ FTp b n T tr nr pr g g' := by
  intro N
  induction N using Nat.strongRecOn with
  | _ N ih =>
  intro ρ g a i k hT hk hR hj han hia hto r0 r1 r2 hr
  have hT0 := hT
  obtain ⟨t0, t2, t3, t4, t5, hn, hb⟩ := hT0
  have hk3 : k ≤ 300 := by
    have h1 := x_ps_ge k hj
    have h2 := x_ps_le (b := b) (n := n) k
    omega
  have ea : g_i ((a : Int) + 1) = ((a + 1 : Nat) : Int) := (gi_of (by omega) (by omega)).trans (by omega)
  replace ea : EqG (g_i ((a : Int) + 1)) (((a + 1 : Nat) : Int)) := ea
  have ei : g_i ((i : Int) + 1) = ((i + 1 : Nat) : Int) := (gi_of (by omega) (by omega)).trans (by omega)
  replace ei : EqG (g_i ((i : Int) + 1)) (((i + 1 : Nat) : Int)) := ei
  have hx := pt_X6_findTokens_9 hCE hr
  simp only [r0, r1, r2, Int.toNat_natCast, t0, t5, ea.e, ei.e, let_eq, dig_eq, at_eq hD hT hk hk3] at hx
  have fin : a = n → r = none → h = (L, g_ad T tr nr pr k 54 n 0 g) → r = none ∧ ∃ g', h = (L, g') ∧ FTp b n T tr nr pr g g' := by
    intro ha e1 e2
    have hps : x_ps b n k = n := by rw [← hto, ha, x_to_e (Nat.le_refl _)]
    have h0 := ad_at hD k 54 n 0 g
    have et : x_tk b n n = 54 := if_pos (Nat.le_refl _)
    have ev : x_vl b n n = 0 := if_pos (Nat.le_refl _)
    refine ⟨e1, _, e2, h0.1, k, hk3, h0.2.1, hps, hj, RW_at (T := T) (p := n) hR hps.symm ?_⟩
    rw [et, ev]
    exact h0
  have tok : ∀ {n' n1 : Nat} {g' : Nat → Nat → Int} {ρ' : Nat → Int}, n1 < N → a < n → x_blk (b a) = false → AT T tr nr pr k (x_tk b n a) a (x_vl b n a) g g' → ρ' 0 = (T : Int) → ρ' 1 = (x_nx b n a : Int) → ρ' 2 = ((i + 1 : Nat) : Int) → g_run RX6 ax CE cX6_findTokens n1 (9, ρ', [], L, g') r h → r = none ∧ ∃ g', h = (L, g') ∧ FTp b n T tr nr pr g g' := by
    intro n' n1 g' ρ' l1 ha hbk hat r0 r1 r2 h1
    have hpa : x_ps b n k = a := by rw [← hto, x_to_n hbk]
    have hgt := x_nx_gt (b := b) ha
    obtain ⟨e1, g2, e2, f1, f2⟩ := ih n1 l1 (k := k + 1) (a := x_nx b n a) (i := i + 1) (TB_mo hD hT hat.1) (hat.2.1.trans (by omega)) (RW_at hR hpa.symm hat) (fun j hjk => by
      by_cases h : j = k
      · rw [h, hpa]; exact ha
      · exact hj j (by omega)) hgt.2 (by omega) (by rw [← hpa]; rfl) r0 r1 r2 h1
    exact ⟨e1, g2, e2, fT_tr hat.1 f1, f2⟩
  rcases hx with ⟨c1, e1, e2⟩ | ⟨c1, ⟨c2, e1, e2⟩ | ⟨c2, hx⟩⟩
  · exact fin (by omega) e1 e2
  · exact fin (by omega) e1 e2
  have han' : a < n := by omega
  simp only [(hb a han').1] at hx
  rcases hx with ⟨c3, ⟨c4, ⟨c5, n1, l1, h1⟩ | ⟨c5, ⟨c6, n1, l1, h1⟩ | ⟨c6, n1, r1', h1', l1, hw, h1⟩⟩⟩ | ⟨c4, n1, r1', h1', l1, hw, h1⟩⟩ | ⟨c3, n1, r1', h1', l1, hw, h1⟩
  · have hbk : x_blk (b a) = true := by unfold x_blk; rw [c5]; decide
    exact ih n1 l1 (k := k) (a := a + 1) (i := i + 1) hT hk hR hj (by omega) (by omega) (by rw [← hto, x_to_y han' hbk]) (by simp [va_up, r0]) (by simp [va_up]) (by simp [va_up]) h1
  · have hbk : x_blk (b a) = true := by unfold x_blk; rw [c6]; decide
    exact ih n1 l1 (k := k) (a := a + 1) (i := i + 1) hT hk hR hj (by omega) (by omega) (by rw [← hto, x_to_y han' hbk]) (by simp [va_up, r0]) (by simp [va_up]) (by simp [va_up]) h1
  all_goals
    have hbk0 : ∀ {c : Int}, (x_let c = true ∨ x_dig c = true ∨ (c ≠ 32 ∧ c ≠ 10)) → x_blk c = false := by
      intro c hc
      unfold x_let x_dig at hc
      simp only [Bool.or_eq_true, Bool.and_eq_true, decide_eq_true_eq] at hc
      unfold x_blk
      rw [decide_eq_false (by omega : ¬ c = 32), decide_eq_false (by omega : ¬ c = 10)]
      rfl
  · have hdg : x_dig (b a) = false := by
      cases hx : x_dig (b a) with
      | false => rfl
      | true => rw [hx, if_pos rfl] at c4; cases c4
    have hl : x_let (b a) = false := by
      cases hx : x_let (b a) with
      | false => rfl
      | true => rw [hx, if_pos rfl] at c3; cases c3
    obtain ⟨e1, g', e2, hat⟩ := as_ok hL0 hL1 hd hD hT hk hk3 han' hl hdg (hCE _ _ _ _ _ _ hw)
    subst e1
    subst e2
    obtain ⟨n2, l2, h2⟩ := pt_X6_findTokens_99 hCE h1
    rw [r2, ei.e] at h2
    exact tok (n' := 0) (by omega : n2 < N) han' (hbk0 (Or.inr (Or.inr ⟨c5, c6⟩))) hat (by simp [va_up, r0]) (by simp [va_up]) (by simp [va_up]) h2
  · have hdg : x_dig (b a) = true := by
      cases hx : x_dig (b a) with
      | true => rfl
      | false => rw [hx] at c4; exact absurd rfl c4
    have hl : x_let (b a) = false := by
      cases hx : x_let (b a) with
      | false => rfl
      | true => rw [hx, if_pos rfl] at c3; cases c3
    obtain ⟨e1, g', e2, hat⟩ := an_ok hD hT hk hk3 han' hl hdg (hCE _ _ _ _ _ _ hw)
    subst e1
    subst e2
    obtain ⟨n2, l2, h2⟩ := pt_X6_findTokens_62 hCE h1
    rw [r2, ei.e] at h2
    exact tok (n' := 0) (by omega : n2 < N) han' (hbk0 (Or.inr (Or.inl hdg))) hat (by simp [va_up, r0]) (by simp [va_up]) (by simp [va_up]) h2
  · have hl : x_let (b a) = true := by
      cases hx : x_let (b a) with
      | true => rfl
      | false => rw [hx] at c3; exact absurd rfl c3
    obtain ⟨e1, g', e2, hat⟩ := aw_ok hL0 hL1 hd hD hT hk hk3 han' hl (hCE _ _ _ _ _ _ hw)
    subst e1
    subst e2
    obtain ⟨n2, l2, h2⟩ := pt_X6_findTokens_41 hCE h1
    rw [r2, ei.e] at h2
    exact tok (n' := 0) (by omega : n2 < N) han' (hbk0 (Or.inl hl)) hat (by simp [va_up, r0]) (by simp [va_up]) (by simp [va_up]) h2
/-- all TOKENS of the tape -/
theorem ft_ok (hL0 : ax.1 0 ∉ L) (hL1 : ax.1 1 ∉ L) (hd : ax.1 0 ≠ ax.1 1) (hD : TD T tr nr pr br) {g : Nat → Nat → Int} (hT : TB b n T tr nr pr br g) (hx : g_ex ax yX6_findTokens cX6_findTokens [(0, (T : Int))] (L, g) r h) : r = none ∧ ∃ g', h = (L, g') ∧ FTp b n T tr nr pr g g' := by
  obtain ⟨ρ, N, hρ, hr⟩ := g_run_of hx
  have r0 : ρ 0 = (T : Int) := hρ (0, _) (by simp)
  obtain ⟨n1, l1, h1⟩ := pt_X6_findTokens_0 (fun _ _ _ _ _ _ h => h) hr
  rw [r0, Int.toNat_natCast] at h1
  have hf : fT T tr nr pr g (g_up g T 1 0) := fun c j a1 _ _ _ => by
    unfold g_up
    rw [if_neg (fun h => a1 ⟨h.2, h.1⟩)]
  obtain ⟨e1, g', e2, f1, f2⟩ := ft_9 (fun _ _ _ _ _ _ h => h) hL0 hL1 hd hD n1 (a := 0) (i := 0) (k := 0) (TB_mo hD hT hf) (by rw [g_up_s]; rfl) (fun j hj => absurd hj (Nat.not_lt_zero _)) (fun j hj => absurd hj (Nat.not_lt_zero _)) (Nat.zero_le _) (Nat.le_refl _) rfl (by simp [va_up, r0]) (by simp [va_up]) (by simp [va_up]) h1
  exact ⟨e1, g', e2, fT_tr hf f1, f2⟩
end LD
