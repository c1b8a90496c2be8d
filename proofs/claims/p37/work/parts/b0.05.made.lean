/-! Objects as they are made. -/
/-- since the beginning (L0, K0, f0) A was made, of the kinds S; what was there but w is as it was -/
def GR (cy : Nat → ClassId) (B : Int) (L0 : List Nat) (K0 : Nat → Nat) (f0 : Nat → va_E) (w : Nat) (L A S : List Nat) (K : Nat → Nat) (f : Nat → va_E) : Prop := L = L0 ++ A ∧ A.map K = S ∧ (∀ b ∈ L0, K b = K0 b) ∧ (L0.Nodup → L.Nodup) ∧ (∀ b ∈ A, b ∉ L0) ∧ (∀ b ∈ L0, b ≠ w → f b = f0 b) ∧ ∀ b ∈ A, cok cy K B L (K b) (f b)
section GRR
variable {cy : Nat → ClassId} {B : Int} {L0 : List Nat} {K0 : Nat → Nat} {f0 : Nat → va_E} {w : Nat} {L A S : List Nat} {K : Nat → Nat} {f : Nat → va_E}
theorem GR.rf : GR cy B L0 K0 f0 w L0 [] [] K0 f0 := ⟨by simp, rfl, fun _ _ => rfl, fun h => h, fun b hb => (by cases hb), fun _ _ _ => rfl, fun b hb => (by cases hb)⟩
theorem GR.sub (h : GR cy B L0 K0 f0 w L A S K f) {b : Nat} (hb : b ∈ L0) : b ∈ L := by
  rw [h.1]
  exact List.mem_append_left _ hb
theorem GR.row (h : GR cy B L0 K0 f0 w L A S K f) {q kq : Nat} {e : va_E} (hq : q ∉ L) (hc : cok cy (va_up K q kq) B (L ++ [q]) kq e) : GR cy B L0 K0 f0 w (L ++ [q]) (A ++ [q]) (S ++ [kq]) (va_up K q kq) (va_up f q e) := by
  obtain ⟨h1, h2, h3, h4, h5, h6, h7⟩ := h
  have hqA : q ∉ A := fun hm => hq (by rw [h1]; exact List.mem_append_right _ hm)
  have hq0 : q ∉ L0 := fun hm => hq (by rw [h1]; exact List.mem_append_left _ hm)
  have neA : ∀ b ∈ A, b ≠ q := fun b hb e => hqA (e ▸ hb)
  have ne0 : ∀ b ∈ L0, b ≠ q := fun b hb e => hq0 (e ▸ hb)
  have neL : ∀ b ∈ L, b ≠ q := fun b hb e => hq (e ▸ hb)
  refine ⟨by rw [h1, List.append_assoc], ?_, fun b hb => by rw [va_up_ne _ _ (ne0 b hb)]; exact h3 b hb, fun hn => ?_, fun b hb => ?_, fun b hb hw => by rw [va_up_ne _ _ (ne0 b hb)]; exact h6 b hb hw, fun b hb => ?_⟩
  · rw [List.map_append, List.map_singleton, va_up_self, ← h2]
    congr 1
    exact List.map_congr_left (fun b hb => va_up_ne _ _ (neA b hb))
  · rw [List.nodup_append]
    refine ⟨h4 hn, by simp, fun a ha b hb => ?_⟩
    rw [List.mem_singleton.mp hb]
    exact neL a ha
  · rcases List.mem_append.mp hb with h | h
    · exact h5 b h
    · rw [List.mem_singleton.mp h]
      exact hq0
  · rcases List.mem_append.mp hb with h | h
    · rw [va_up_ne _ _ (neA b h), va_up_ne _ _ (neA b h)]
      exact cok_mono (fun b' hb' => ⟨List.mem_append_left _ hb', va_up_ne _ _ (neL b' hb')⟩) (h7 b h)
    · rw [List.mem_singleton.mp h, va_up_self, va_up_self]
      exact hc
theorem GR.put (h : GR cy B L0 K0 f0 w L A S K f) (hw : w ∈ L0) (e : va_E) : GR cy B L0 K0 f0 w L A S K (va_up f w e) := by
  obtain ⟨h1, h2, h3, h4, h5, h6, h7⟩ := h
  refine ⟨h1, h2, h3, h4, h5, fun b hb hne => by rw [va_up_ne _ _ hne]; exact h6 b hb hne, fun b hb => ?_⟩
  have hne : b ≠ w := fun e => h5 b hb (by rw [e]; exact hw)
  rw [va_up_ne _ _ hne]
  exact h7 b hb
/-- what is told of a cell of A may be said anew -/
theorem GR.upd (h : GR cy B L0 K0 f0 w L A S K f) {q : Nat} (hq : q ∈ A) {e : va_E} (hc : cok cy K B L (K q) e) : GR cy B L0 K0 f0 w L A S K (va_up f q e) := by
  obtain ⟨h1, h2, h3, h4, h5, h6, h7⟩ := h
  have neq : ∀ b ∈ L0, b ≠ q := fun b hb e => h5 q hq (by rw [← e]; exact hb)
  refine ⟨h1, h2, h3, h4, h5, fun b hb hne => by rw [va_up_ne _ _ (neq b hb)]; exact h6 b hb hne, fun b hb => ?_⟩
  by_cases hbq : b = q
  · rw [hbq, va_up_self]
    exact hc
  · rw [va_up_ne _ _ hbq]
    exact h7 b hb
/-- an object is made, and its constructor's work is done -/
theorem GR.obj (h : GR cy B L0 K0 f0 w L A S K f) {w1 k1 : Nat} {e1 : va_E} {L2 A2 S2 : List Nat} {K2 : Nat → Nat} {f2 : Nat → va_E} (hq : w1 ∉ L) (h2 : GR cy B (L ++ [w1]) (va_up K w1 k1) (va_up f w1 e1) w1 L2 A2 S2 K2 f2) (hc : cok cy K2 B L2 k1 (f2 w1)) : GR cy B L0 K0 f0 w L2 (A ++ (w1 :: A2)) (S ++ (k1 :: S2)) K2 f2 ∧ (∀ b ∈ L, b ∈ L2 ∧ K2 b = K b ∧ f2 b = f b) ∧ w1 ∈ L2 ∧ K2 w1 = k1 := by
  obtain ⟨h1, h2', h3, h4, h5, h6, h7⟩ := h
  obtain ⟨g1, g2, g3, g4, g5, g6, g7⟩ := h2
  have hqA : w1 ∉ A := fun hm => hq (by rw [h1]; exact List.mem_append_right _ hm)
  have hq0 : w1 ∉ L0 := fun hm => hq (by rw [h1]; exact List.mem_append_left _ hm)
  have neL : ∀ b ∈ L, b ≠ w1 := fun b hb e => hq (e ▸ hb)
  have old : ∀ b ∈ L, b ∈ L2 ∧ K2 b = K b ∧ f2 b = f b := fun b hb => by
    refine ⟨by rw [g1]; exact List.mem_append_left _ (List.mem_append_left _ hb), ?_, ?_⟩
    · rw [g3 b (List.mem_append_left _ hb), va_up_ne _ _ (neL b hb)]
    · rw [g6 b (List.mem_append_left _ hb) (neL b hb), va_up_ne _ _ (neL b hb)]
  have hw1 : w1 ∈ L ++ [w1] := List.mem_append_right _ (List.mem_singleton.mpr rfl)
  have kw1 : K2 w1 = k1 := by rw [g3 w1 hw1, va_up_self]
  have inL : ∀ b ∈ A, b ∈ L := fun b hb => by rw [h1]; exact List.mem_append_right _ hb
  have inL0 : ∀ b ∈ L0, b ∈ L := fun b hb => by rw [h1]; exact List.mem_append_left _ hb
  refine ⟨⟨by rw [g1, h1]; simp, ?_, fun b hb => by rw [(old b (inL0 b hb)).2.1]; exact h3 b hb, fun hn => g4 ?_, fun b hb => ?_, fun b hb hne => by rw [(old b (inL0 b hb)).2.2]; exact h6 b hb hne, fun b hb => ?_⟩, old, by rw [g1]; exact List.mem_append_left _ hw1, kw1⟩
  · rw [List.map_append, List.map_cons, g2, kw1, ← h2']
    congr 1
    exact List.map_congr_left (fun b hb => (old b (inL b hb)).2.1)
  · rw [List.nodup_append]
    refine ⟨h4 hn, by simp, fun a ha b hb => ?_⟩
    rw [List.mem_singleton.mp hb]
    exact neL a ha
  · rcases List.mem_append.mp hb with h | h
    · exact h5 b h
    · rcases List.mem_cons.mp h with h | h
      · rw [h]
        exact hq0
      · exact fun hm => g5 b h (List.mem_append_left _ (inL0 b hm))
  · rcases List.mem_append.mp hb with h | h
    · obtain ⟨-, o2, o3⟩ := old b (inL b h)
      rw [o2, o3]
      exact cok_mono (fun b' hb' => ⟨(old b' hb').1, (old b' hb').2.1⟩) (h7 b h)
    · rcases List.mem_cons.mp h with h | h
      · rw [h, kw1]
        exact hc
      · exact g7 b h
end GRR
def okI (k n : Nat) : Prop := (zkd k).1 = 2 ∧ (zkd k).2.1 = n ∧ ∀ i, (kbd k i).1 ≤ 0 ∧ 0 ≤ (kbd k i).2.1 ∧ (kbd k i).2.2 = false
theorem okI_of {k n : Nat} {lo hi : Int} (h1 : (zkd k).1 = 2) (h2 : (zkd k).2.1 = n) (h3 : ∀ i, kbd k i = (lo, hi, false)) (h4 : lo ≤ 0) (h5 : 0 ≤ hi) : okI k n := ⟨h1, h2, fun i => by rw [h3]; exact ⟨h4, h5, rfl⟩⟩
theorem cok_I {cy : Nat → ClassId} {K : Nat → Nat} {B : Int} {L : List Nat} {k n : Nat} (h : okI k n) : cok cy K B L k (zIA cy n (fun _ => 0)) := by
  obtain ⟨h1, h2, h3⟩ := h
  unfold cok
  rw [h1]
  refine ⟨fun _ => 0, by rw [h2], fun i _ => ?_⟩
  have e0 : (0 : Int32).toInt = 0 := rfl
  rw [e0]
  exact ⟨(h3 i).1, (h3 i).2.1, fun hq => by rw [(h3 i).2.2] at hq; cases hq⟩
theorem cok_Z {cy : Nat → ClassId} {K : Nat → Nat} {B : Int} {L : List Nat} {k n : Nat} (h1 : (zkd k).1 = 3) (h2 : (zkd k).2.1 = n) : cok cy K B L k (zZA cy n (fun _ => 0)) := by
  unfold cok
  rw [h1]
  exact ⟨fun _ => 0, by rw [h2]⟩
theorem cok_J {cy : Nat → ClassId} {K : Nat → Nat} {B : Int} {L : List Nat} {k n : Nat} (h1 : (zkd k).1 = 4) (h2 : (zkd k).2.1 = n) : cok cy K B L k (zJA cy n (fun _ => 0)) := by
  unfold cok
  rw [h1]
  exact ⟨fun _ => 0, by rw [h2]⟩
/-- fields, one by one -/
def foks (K : Nat → Nat) (L : List Nat) : List (Nat × Int × Int) → List Value → Prop
  | [], [] => True
  | d :: ds, v :: vs => fok K L d v ∧ foks K L ds vs
  | _, _ => False
theorem foks_ok {K : Nat → Nat} {L : List Nat} : ∀ (ds : List (Nat × Int × Int)) (vs : List Value), foks K L ds vs → vs.length = ds.length ∧ ∀ (j : Nat) (d : Nat × Int × Int), ds[j]? = some d → ∃ v, vs[j]? = some v ∧ fok K L d v := by
  intro ds
  induction ds with
  | nil =>
    intro vs h
    cases vs with
    | nil => exact ⟨rfl, fun j d hd => by simp at hd⟩
    | cons v vs => exact h.elim
  | cons d ds ih =>
    intro vs h
    cases vs with
    | nil => exact h.elim
    | cons v vs =>
      obtain ⟨h1, h2⟩ := h
      obtain ⟨g1, g2⟩ := ih vs h2
      refine ⟨by simp [g1], fun j d' hd => ?_⟩
      cases j with
      | zero =>
        have : d = d' := by simpa using hd
        subst this
        exact ⟨v, rfl, h1⟩
      | succ j => exact g2 j d' (by simpa using hd)
theorem cok_O {cy : Nat → ClassId} {K : Nat → Nat} {B : Int} {L : List Nat} {k ci : Nat} {ds : List (Nat × Int × Int)} {fs : List Value} (hz : zkd k = (1, ci, ds)) (h : foks K L ds fs) : cok cy K B L k (.inr (ci, fs)) := by
  obtain ⟨h1, h2⟩ := foks_ok ds fs h
  unfold cok
  rw [hz]
  exact ⟨fs, rfl, h1, h2⟩
theorem fk0 {K : Nat → Nat} {L : List Nat} {lo hi : Int} {x : Int32} (h : lo ≤ x.toInt ∧ x.toInt ≤ hi) : fok K L (0, lo, hi) (.int x) := ⟨x, rfl, h.1, h.2⟩
theorem fk1 {K : Nat → Nat} {L : List Nat} {lo hi : Int} {x : Int64} : fok K L (1, lo, hi) (.long x) := ⟨x, rfl⟩
theorem fk2 {K : Nat → Nat} {L : List Nat} {q : Nat} {k : Nat} (h : q ∈ L ∧ K q = k) : fok K L (2, (k : Int), 0) (.ref q) := ⟨q, rfl, h.1, by show K q = ((k : Int)).toNat; rw [Int.toNat_natCast]; exact h.2⟩
theorem fk3 {K : Nat → Nat} {L : List Nat} {lo hi : Int} : fok K L (3, lo, hi) .null := Or.inl rfl
/-! Rows of a constructor. -/
section GRS
variable {E : zCx} {l0 : Launch} {D0 : va_G} {cy0 : Nat → ClassId} {ax0 : zAx} {own : String} {cc : ByteArray} {nL : Nat} {R0 : Room} {k n : Nat} {B : Int} {L0 : List Nat} {K0 : Nat → Nat} {f0 : Nat → va_E} {w : Nat} {L A S : List Nat} {K : Nat → Nat} {f : Nat → va_E} {pc : Nat} {lv : List (Nat × Value)} {st : List Value} {ci j N kq n0 idx : Nat} {fs : List Value} {T : u_T} {tf : Nat → FieldType}
/-- a field is put -/
theorem n_put {v : Value} (hE : zOk E (l0, D0, cy0, ax0) own cc nL R0) (hI : zIn E) (h : GR cy0 B L0 K0 f0 w L A S K f) (hw : w ∈ L0) (hf : f w = .inr (ci, fs)) (hc : vwCl[ci]? = some (own, T, N)) (hin : ∀ w ∈ u_ws own T N, w ∈ gtbl) (hty : ∀ k, k < N → parseFieldDescriptor (T k).2.2.1 = some (tf k)) (hnm : ∀ a, a < N → ∀ b, b < N → a ≠ b → (T a).2.1 ≠ (T b).2.1) (hj : j < N) (hlen : j < fs.length) (how : (T j).1 = own) (hq : Cond.fieldLink own idx (T j).1 (T j).2.1 (T j).2.2.1 ∈ gtbl) (hn : narrow (tf j) v = v) (hfit : fits (tf j) v = true) (hd : decode cc pc = .ok (.putfield idx, 3)) (kk : ∀ f1 : Nat → va_E, GR cy0 B L0 K0 f0 w L A S K f1 → f1 w = .inr (ci, fs.set j v) → (∀ b, b ≠ w → f1 b = f b) → eW E k n L f1 (pc + 3) lv st) : eW E k n L f pc lv (v :: .ref w :: st) := by
  have hfin : zIn E ∧ (T j).2.2.2 = true ∧ (T j).1 = own ∨ (T j).2.2.2 = false := by
    cases hq9 : (T j).2.2.2 with
    | true => exact Or.inl ⟨hI, rfl, how⟩
    | false => exact Or.inr rfl
  exact h_put hE hfin (h.sub hw) hf hc hin hty hnm hj hlen hq (hty j hj) hn hfit hd (kk _ (h.put hw _) (va_up_self _ _ _) (fun b hb => va_up_ne _ _ hb))
/-- a row is made and put -/
theorem n_row {atype : ArrayType} {ty : FieldType} {t0 : Nat} {x : vp_A} {v : Int32} (hE : zOk E (l0, D0, cy0, ax0) own cc nL R0) (hI : zIn E) (h : GR cy0 B L0 K0 f0 w L A S K f) (hw : w ∈ L0) (hf : f w = .inr (ci, fs)) (hc : vwCl[ci]? = some (own, T, N)) (hin : ∀ w ∈ u_ws own T N, w ∈ gtbl) (hty : ∀ k, k < N → parseFieldDescriptor (T k).2.2.1 = some (tf k)) (hnm : ∀ a, a < N → ∀ b, b < N → a ≠ b → (T a).2.1 ≠ (T b).2.1) (hj : j < N) (hlen : j < fs.length) (how : (T j).1 = own) (hq : Cond.fieldLink own idx (T j).1 (T j).2.1 (T j).2.2.1 ∈ gtbl) (htf : tf j = .array ty) (ha1 : newarray.typeOf atype = ty) (ha2 : ∀ C, ty ≠ .object C) (ha3 : Cond.arrayClass ty ∈ gtbl) (ha4 : ∀ cy : Nat → ClassId, (zcy cy)[t0]? = some (cy t0, ty)) (ha5 : ∀ cA : ClassId, vp_cell cA x = arrV cA n0 (fun _ => defaultValue ty)) (hv : ¬ v < 0) (hN : v.toNatClampNeg = n0) (hby : n0 * componentBytes ty ≤ 536870912) (hk1 : k + 1 ≤ R0.cells) (hk2 : n + n0 ≤ R0.slots) (hd1 : decode cc pc = .ok (.newarray atype, 2)) (hd2 : decode cc (pc + 2) = .ok (.putfield idx, 3)) (hck : ∀ (K : Nat → Nat) (L : List Nat), cok cy0 K B L kq (.inl (cy0 t0, x))) (kk : ∀ (q : Nat) (L1 : List Nat) (K1 : Nat → Nat) (f1 : Nat → va_E), GR cy0 B L0 K0 f0 w L1 (A ++ [q]) (S ++ [kq]) K1 f1 → f1 w = .inr (ci, fs.set j (.ref q)) → (∀ b ∈ L, b ≠ w → f1 b = f b) → f1 q = .inl (cy0 t0, x) → eW E (k + 1) (n + n0) L1 f1 (pc + 5) lv st) : eW E k n L f pc lv (.int v :: .ref w :: st) := by
  refine h_newa hE ha1 ha2 ha3 ha4 ha5 hv hN hby hk1 hk2 hd1 (fun q hqL => ?_)
  have hne : w ≠ q := fun e => hqL (e ▸ h.sub hw)
  have g1 := h.row hqL (hck (va_up K q kq) (L ++ [q]))
  refine n_put hE hI g1 hw (by rw [va_up_ne _ _ hne]; exact hf) hc hin hty hnm hj hlen how hq (by rw [htf]; rfl) (by rw [htf]; rfl) hd2 (fun f1 g2 hf1 ho => ?_)
  exact kk q _ _ f1 g2 hf1 (fun b hb hbw => by
    have hbq : b ≠ q := fun e => hqL (by rw [← e]; exact hb)
    rw [ho b hbw, va_up_ne _ _ hbq]) (by rw [ho q (Ne.symm hne), va_up_self])
end GRS
