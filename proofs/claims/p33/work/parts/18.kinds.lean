/-! Kinds: G says of each address its kind, where its own references lead, and whose it is. -/
abbrev zGh : Type := (Nat → Nat) × (Nat → Nat → Nat) × (Nat → Nat × Nat)
def zk (G : zGh) (a : Nat) : Nat := G.1 a
def zp (G : zGh) (a j : Nat) : Nat := G.2.1 a j
def zq (G : zGh) (a : Nat) : Nat × Nat := G.2.2 a
def zft (k : Nat) : List (Nat × Nat × Bool) := if k = 100 then [(2, 1002, true), (3, 1003, true), (4, 1004, true), (5, 1005, true), (6, 1006, true), (7, 1007, true), (8, 1008, true), (9, 1009, true)] else if k = 101 then [(3, 1023, true), (4, 1024, true), (5, 1025, true), (6, 1026, true), (7, 1027, true), (8, 1028, true), (9, 1029, true), (10, 1030, true)] else if k = 102 then [(1, 1041, true), (2, 104, false), (3, 109, false), (4, 1044, true), (5, 1045, true), (6, 1046, true), (7, 1047, true), (8, 1048, true), (9, 1049, true)] else if k = 103 then [(2, 106, false)] else if k = 104 then [(0, 100, true), (1, 110, true), (2, 105, true), (3, 101, true), (4, 1084, true)] else if k = 105 then [(2, 1102, true), (3, 1103, true)] else if k = 106 then [(2, 1122, true), (3, 1123, true), (4, 1124, true), (5, 1125, true)] else if k = 107 then [(1, 1141, true), (2, 1142, true), (3, 1143, true), (4, 1144, true), (6, 1146, true), (7, 1147, true), (9, 1149, true), (10, 1150, true), (11, 1151, true), (12, 1152, true)] else if k = 108 then [(0, 1160, true), (1, 1161, true), (2, 104, false)] else if k = 109 then [(1, 1181, true), (2, 1182, true), (4, 104, false), (5, 1185, true), (6, 1186, true)] else if k = 110 then [(0, 1200, true), (1, 1201, true), (2, 1202, true), (3, 1203, true), (4, 1204, true), (5, 1205, true), (13, 1213, true), (14, 1214, true)] else if k = 111 then [(0, 104, true), (1, 104, true), (2, 106, true), (3, 103, true), (4, 109, true), (5, 102, true), (6, 108, true)] else if k = 113 then [(0, 1260, true), (1, 1261, true), (2, 1262, true), (3, 1263, true), (4, 1264, true), (5, 1265, true), (13, 1273, true), (14, 1274, true)] else if k = 1102 then [(0, 110, true), (1, 110, true), (2, 110, true), (3, 110, true), (4, 110, true), (5, 110, true), (6, 110, true), (7, 110, true), (8, 110, true), (9, 110, true), (10, 110, true), (11, 110, true), (12, 110, true), (13, 110, true), (14, 110, true), (15, 110, true), (16, 110, true), (17, 110, true), (18, 110, true), (19, 110, true), (20, 110, true), (21, 110, true), (22, 110, true), (23, 110, true), (24, 110, true), (25, 110, true), (26, 110, true), (27, 110, true), (28, 110, true), (29, 110, true)] else if k = 1044 then [(0, 113, true), (1, 113, true), (2, 113, true), (3, 113, true), (4, 113, true), (5, 113, true)] else []
def zal (k : Nat) : Nat := if k = 1002 then 6 else if k = 1003 then 6 else if k = 1004 then 6 else if k = 1005 then 6 else if k = 1006 then 8 else if k = 1007 then 8 else if k = 1008 then 8 else if k = 1009 then 8 else if k = 1023 then 6 else if k = 1024 then 6 else if k = 1025 then 6 else if k = 1026 then 12 else if k = 1029 then 10 else if k = 1030 then 10 else if k = 1041 then 5 else if k = 1045 then 5 else if k = 1046 then 6 else if k = 1047 then 8 else if k = 1048 then 48 else if k = 1049 then 64 else if k = 1103 then 30 else if k = 1122 then 301 else if k = 1123 then 301 else if k = 1124 then 301 else if k = 1125 then 300 else if k = 1141 then 24 else if k = 1142 then 72 else if k = 1143 then 300 else if k = 1144 then 300 else if k = 1146 then 300 else if k = 1147 then 300 else if k = 1149 then 5 else if k = 1150 then 5 else if k = 1151 then 5 else if k = 1152 then 5 else if k = 1160 then 6 else if k = 1161 then 6 else if k = 1181 then 8 else if k = 1182 then 6 else if k = 1185 then 96 else if k = 1186 then 300 else if k = 1200 then 6 else if k = 1201 then 6 else if k = 1202 then 6 else if k = 1203 then 8 else if k = 1204 then 8 else if k = 1205 then 8 else if k = 1213 then 40 else if k = 1214 then 20 else if k = 1260 then 6 else if k = 1261 then 6 else if k = 1262 then 6 else if k = 1263 then 8 else if k = 1264 then 8 else if k = 1265 then 8 else if k = 1273 then 40 else if k = 1274 then 20 else 0
def zzl (k : Nat) : Nat := if k = 1027 then 12 else if k = 1028 then 10 else 0
def zfc (k : Nat) : Nat := if k = 113 then 10 else k - 100
def zflo (k j : Nat) : Int32 := if k = 100 ∧ j = 0 then 0 else if k = 100 ∧ j = 1 then 0 else if k = 101 ∧ j = 0 then 0 else if k = 101 ∧ j = 1 then 0 else if k = 101 ∧ j = 2 then 0 else if k = 103 ∧ j = 4 then 0 else if k = 103 ∧ j = 5 then 0 else if k = 103 ∧ j = 6 then 0 else if k = 104 ∧ j = 5 then 0 else if k = 105 ∧ j = 0 then 0 else if k = 105 ∧ j = 1 then 0 else if k = 106 ∧ j = 0 then 0 else if k = 106 ∧ j = 1 then 0 else if k = 107 ∧ j = 0 then 0 else if k = 107 ∧ j = 5 then 0 else if k = 107 ∧ j = 8 then 0 else if k = 109 ∧ j = 8 then 0 else if k = 110 ∧ j = 9 then 0 else if k = 110 ∧ j = 10 then 0 else if k = 110 ∧ j = 11 then 0 else if k = 110 ∧ j = 12 then 0 else if k = 113 ∧ j = 9 then 0 else if k = 113 ∧ j = 10 then 0 else if k = 113 ∧ j = 11 then 0 else if k = 113 ∧ j = 12 then 0 else (-2147483648)
def zalo (k : Nat) : Int32 := if k = 1008 then 0 else if k = 1205 then 0 else if k = 1265 then (-1) else if k = 1103 then 0 else if k = 1122 then 0 else if k = 1146 then 0 else if k = 1147 then 0 else if k = 1149 then 0 else if k = 1150 then 0 else if k = 1151 then 0 else if k = 1152 then 0 else (-2147483648)
def zfhi (k j : Nat) : Int32 := if k = 100 ∧ j = 0 then 6 else if k = 100 ∧ j = 1 then 8 else if k = 101 ∧ j = 0 then 6 else if k = 101 ∧ j = 1 then 12 else if k = 101 ∧ j = 2 then 10 else if k = 103 ∧ j = 4 then 4 else if k = 103 ∧ j = 5 then 300 else if k = 103 ∧ j = 6 then 55 else if k = 104 ∧ j = 5 then 4 else if k = 105 ∧ j = 0 then 30 else if k = 105 ∧ j = 1 then 29 else if k = 106 ∧ j = 0 then 300 else if k = 106 ∧ j = 1 then 301 else if k = 107 ∧ j = 0 then 24 else if k = 107 ∧ j = 5 then 300 else if k = 107 ∧ j = 8 then 300 else if k = 109 ∧ j = 8 then 5 else if k = 110 ∧ j = 9 then 999 else if k = 110 ∧ j = 10 then 30186 else if k = 110 ∧ j = 11 then 40 else if k = 110 ∧ j = 12 then 39 else if k = 113 ∧ j = 9 then 1100 else if k = 113 ∧ j = 10 then 30186 else if k = 113 ∧ j = 11 then 40 else if k = 113 ∧ j = 12 then 39 else 2147483647
def zahi (k : Nat) : Int32 := if k = 1008 then 5 else if k = 1205 then 5 else if k = 1265 then 5 else if k = 1103 then 8 else if k = 1122 then 55 else if k = 1146 then 300 else if k = 1147 then 300 else if k = 1149 then 300 else if k = 1150 then 300 else if k = 1151 then 300 else if k = 1152 then 300 else 2147483647
def zsp (G : zGh) (k a : Nat) : Option va_E := if k = 100 then some (.inr (0, [.int 0, .int 0, .ref (zp G a 2), .ref (zp G a 3), .ref (zp G a 4), .ref (zp G a 5), .ref (zp G a 6), .ref (zp G a 7), .ref (zp G a 8), .ref (zp G a 9)])) else if k = 101 then some (.inr (1, [.int 0, .int 0, .int 0, .ref (zp G a 3), .ref (zp G a 4), .ref (zp G a 5), .ref (zp G a 6), .ref (zp G a 7), .ref (zp G a 8), .ref (zp G a 9), .ref (zp G a 10)])) else if k = 102 then some (.inr (2, [.int 0, .ref (zp G a 1), .ref (zp G a 2), .ref (zp G a 3), .ref (zp G a 4), .ref (zp G a 5), .ref (zp G a 6), .ref (zp G a 7), .ref (zp G a 8), .ref (zp G a 9)])) else if k = 104 then some (.inr (4, [.ref (zp G a 0), .ref (zp G a 1), .ref (zp G a 2), .ref (zp G a 3), .ref (zp G a 4), .int 0, .int 0])) else if k = 105 then some (.inr (5, [.int 0, .int 0, .ref (zp G a 2), .ref (zp G a 3)])) else if k = 106 then some (.inr (6, [.int 0, .int 0, .ref (zp G a 2), .ref (zp G a 3), .ref (zp G a 4), .ref (zp G a 5)])) else if k = 107 then some (.inr (7, [.int 0, .ref (zp G a 1), .ref (zp G a 2), .ref (zp G a 3), .ref (zp G a 4), .int 0, .ref (zp G a 6), .ref (zp G a 7), .int 0, .ref (zp G a 9), .ref (zp G a 10), .ref (zp G a 11), .ref (zp G a 12)])) else if k = 108 then some (.inr (8, [.ref (zp G a 0), .ref (zp G a 1), .ref (zp G a 2)])) else if k = 110 then some (.inr (10, [.ref (zp G a 0), .ref (zp G a 1), .ref (zp G a 2), .ref (zp G a 3), .ref (zp G a 4), .ref (zp G a 5), .int 0, .int 0, .int 0, .int 0, .int 0, .int 0, .int 0, .ref (zp G a 13), .ref (zp G a 14)])) else if k = 111 then some (.inr (11, [.ref (zp G a 0), .ref (zp G a 1), .ref (zp G a 2), .ref (zp G a 3), .ref (zp G a 4), .ref (zp G a 5), .ref (zp G a 6)])) else if k = 113 then some (.inr (10, [.ref (zp G a 0), .ref (zp G a 1), .ref (zp G a 2), .ref (zp G a 3), .ref (zp G a 4), .ref (zp G a 5), .int 0, .int 0, .int 0, .int 0, .int 0, .int 0, .int 0, .ref (zp G a 13), .ref (zp G a 14)])) else none
def zWf (cy : Nat → ClassId) (G : zGh) (L : List Nat) (σ : Nat → va_E) : Prop := ∀ a ∈ L, (∀ e, zsp G (zk G a) a = some e → σ a = e) ∧ (∀ t ∈ zft (zk G a), zp G a t.1 ∈ L ∧ zk G (zp G a t.1) = t.2.1 ∧ (t.2.2 = true → zq G (zp G a t.1) = (a, t.1))) ∧ (zal (zk G a) ≠ 0 → σ a = zIA cy (zal (zk G a))) ∧ (zzl (zk G a) ≠ 0 → σ a = zZA cy (zzl (zk G a)))
def zWm (cy : Nat → ClassId) (G : zGh) (L : List Nat) (σ : Nat → va_E) : Prop := ∀ a ∈ L, (zk G a = 103 → ∃ v, (v = .null ∨ ∃ b, v = .ref b ∧ b ∈ L ∧ zk G b = 107) ∧ σ a = .inr (3, [.int 0, .int 0, .ref (zp G a 2), v, .int 0, .int 0, .int 0])) ∧ (zk G a = 109 → ∃ v, (v = .null ∨ ∃ b, v = .ref b ∧ b ∈ L ∧ (zk G b = 110 ∨ zk G b = 113)) ∧ σ a = .inr (9, [.int 0, .ref (zp G a 1), .ref (zp G a 2), .int 0, .ref (zp G a 4), .ref (zp G a 5), .ref (zp G a 6), v, .int 0, .int 0])) ∧ (zk G a = 1084 → ∃ g, σ a = zRA (cy 3) 4 g ∧ ∀ i b, g i = some b → b ∈ L ∧ zk G b = 107) ∧ (zk G a = 1102 → ∃ g, σ a = zRA (cy 4) 30 g ∧ ∀ i, i < 30 → g i = some (zp G a i)) ∧ (zk G a = 1044 → ∃ g, σ a = zRA (cy 4) 6 g ∧ ∀ i, i < 6 → g i = some (zp G a i))
def zFb (G : zGh) (L : List Nat) (φ : Nat → Nat → Nat → Int32) : Prop := ∀ a ∈ L, ∀ j, zflo (zk G a) j ≤ φ (zfc (zk G a)) j a ∧ φ (zfc (zk G a)) j a ≤ zfhi (zk G a) j
def zRb (G : zGh) (L : List Nat) (ρ : Nat → Nat → Int32) : Prop := ∀ a ∈ L, ∀ i, zalo (zk G a) ≤ ρ a i ∧ ρ a i ≤ zahi (zk G a)
/-- what a TOGETHER speaks of is there -/
def zTx (G : zGh) (L : List Nat) (ρ : Nat → Nat → Int32) : Prop := ∀ a ∈ L, zk G a = 107 → ∀ i, ρ (zp G a 3) i = 62 → 0 ≤ ρ (zp G a 4) i ∧ ρ (zp G a 4) i < 300
def zFr (G : zGh) (cs ks : List Nat) (φ0 : Nat → Nat → Nat → Int32) (ρ0 : Nat → Nat → Int32) (φ : Nat → Nat → Nat → Int32) (ρ : Nat → Nat → Int32) : Prop := (∀ c j b, c ∉ cs → φ c j b = φ0 c j b) ∧ (∀ b, zk G b ∉ ks → ρ b = ρ0 b)
def zI (cy : Nat → ClassId) (G : zGh) (L : List Nat) (cs ks : List Nat) (φ0 : Nat → Nat → Nat → Int32) (ρ0 : Nat → Nat → Int32) (σ : Nat → va_E) (φ : Nat → Nat → Nat → Int32) (ρ : Nat → Nat → Int32) : Prop := zWf cy G L σ ∧ zWm cy G L σ ∧ zFb G L φ ∧ zRb G L ρ ∧ zTx G L ρ ∧ zFr G cs ks φ0 ρ0 φ ρ
section ZI
variable {cy : Nat → ClassId} {G : zGh} {L : List Nat} {cs ks cs1 ks1 : List Nat} {φ0 φ φ1 : Nat → Nat → Nat → Int32} {ρ0 ρ ρ1 : Nat → Nat → Int32} {σ σ1 : Nat → va_E} {a b k c j i n : Nat} {v lo hi : Int32}
theorem zI.rf (h : zI cy G L cs ks φ0 ρ0 σ φ ρ) : zI cy G L cs1 ks1 φ ρ σ φ ρ := ⟨h.1, h.2.1, h.2.2.1, h.2.2.2.1, h.2.2.2.2.1, fun _ _ _ _ => rfl, fun _ _ => rfl⟩
theorem zI.tr (h : zI cy G L cs ks φ0 ρ0 σ φ ρ) (h1 : zI cy G L cs1 ks1 φ ρ σ1 φ1 ρ1) (hc : ∀ x ∈ cs1, x ∈ cs) (hk : ∀ x ∈ ks1, x ∈ ks) : zI cy G L cs ks φ0 ρ0 σ1 φ1 ρ1 := ⟨h1.1, h1.2.1, h1.2.2.1, h1.2.2.2.1, h1.2.2.2.2.1, fun c j b hn => (h1.2.2.2.2.2.1 c j b (fun e => hn (hc _ e))).trans (h.2.2.2.2.2.1 c j b hn), fun b hn => (h1.2.2.2.2.2.2 b (fun e => hn (hk _ e))).trans (h.2.2.2.2.2.2 b hn)⟩
theorem zI.f (h : zI cy G L cs ks φ0 ρ0 σ φ ρ) (ha : a ∈ L) (hk : zk G a = k) (hc : zfc k = c) (hl : zflo k j = lo) (hh : zfhi k j = hi) : lo ≤ φ c j a ∧ φ c j a ≤ hi := by
  have := h.2.2.1 a ha j
  rw [hk, hc, hl, hh] at this
  exact this
theorem zI.r (h : zI cy G L cs ks φ0 ρ0 σ φ ρ) (ha : a ∈ L) (hk : zk G a = k) (hl : zalo k = lo) (hh : zahi k = hi) (i : Nat) : lo ≤ ρ a i ∧ ρ a i ≤ hi := by
  have := h.2.2.2.1 a ha i
  rw [hk, hl, hh] at this
  exact this
theorem zI.ref (h : zI cy G L cs ks φ0 ρ0 σ φ ρ) (ha : a ∈ L) (hk : zk G a = k) {k1 : Nat} {w : Bool} (ht : (zft k).contains (j, k1, w) = true) : zp G a j ∈ L ∧ zk G (zp G a j) = k1 ∧ (w = true → zq G (zp G a j) = (a, j)) := (h.1 a ha).2.1 (j, k1, w) (by rw [hk]; simpa using ht)
theorem zI.ia (h : zI cy G L cs ks φ0 ρ0 σ φ ρ) (ha : a ∈ L) (hk : zk G a = k) (hn : zal k = n) (h0 : n ≠ 0) : zT L σ a (zIA cy n) := ⟨ha, by have := (h.1 a ha).2.2.1; rw [hk, hn] at this; exact this h0⟩
theorem zI.za (h : zI cy G L cs ks φ0 ρ0 σ φ ρ) (ha : a ∈ L) (hk : zk G a = k) (hn : zzl k = n) (h0 : n ≠ 0) : zT L σ a (zZA cy n) := ⟨ha, by have := (h.1 a ha).2.2.2; rw [hk, hn] at this; exact this h0⟩
theorem zI.put (h : zI cy G L cs ks φ0 ρ0 σ φ ρ) (hk : zk G a = k) (hc : zfc k = c) (hcs : cs.contains c = true) (hl : zflo k j = lo) (hh : zfhi k j = hi) (hv : lo ≤ v ∧ v ≤ hi) : zI cy G L cs ks φ0 ρ0 σ (zup φ c j a v) ρ := by
  obtain ⟨h1, h2, h3, h4, h5, h6, h7⟩ := h
  refine ⟨h1, h2, fun b hb i => ?_, h4, h5, fun c' i b hn => ?_, h7⟩
  · unfold zup
    split
    · rename_i e
      rw [e.2.2, e.2.1, hk, hl, hh]; exact hv
    · exact h3 b hb i
  · rw [zup, if_neg]
    · exact h6 c' i b hn
    · intro e
      exact hn (by rw [e.1]; simpa using hcs)
theorem zI.row (h : zI cy G L cs ks φ0 ρ0 σ φ ρ) (hk : zk G a = k) (hks : ks.contains k = true) (hl : zalo k = lo) (hh : zahi k = hi) (hx : (k == 1143 || k == 1144) = false) {g : Nat → Int32} (hv : ∀ i, lo ≤ g i ∧ g i ≤ hi) : zI cy G L cs ks φ0 ρ0 σ φ (va_up ρ a g) := by
  obtain ⟨h1, h2, h3, h4, h5, h6, h7⟩ := h
  refine ⟨h1, h2, h3, fun b hb i => ?_, fun b hb hkb i => ?_, h6, fun b hn => ?_⟩
  · by_cases e : b = a
    · rw [e, va_up_self, hk, hl, hh]; exact hv i
    · rw [va_up_ne _ _ e]; exact h4 b hb i
  · have t := (h1 b hb).2.1
    rw [hkb] at t
    have t3 := (t (3, 1143, true) (by decide)).2.1
    have t4 := (t (4, 1144, true) (by decide)).2.1
    have n3 : zp G b 3 ≠ a := fun e => by rw [e, hk] at t3; rw [t3] at hx; simp at hx
    have n4 : zp G b 4 ≠ a := fun e => by rw [e, hk] at t4; rw [t4] at hx; simp at hx
    rw [va_up_ne _ _ n3, va_up_ne _ _ n4]
    exact h5 b hb hkb i
  · have : b ≠ a := fun e => hn (by rw [e, hk]; simpa using hks)
    rw [va_up_ne _ _ this]
    exact h7 b hn
theorem zI.st (h : zI cy G L cs ks φ0 ρ0 σ φ ρ) (ha : a ∈ L) (hk : zk G a = k) (hks : ks.contains k = true) (hl : zalo k = lo) (hh : zahi k = hi) (hx : (k == 1143 || k == 1144) = false) (hv : lo ≤ v ∧ v ≤ hi) : zI cy G L cs ks φ0 ρ0 σ φ (va_up ρ a (upd (ρ a) i v)) := h.row hk hks hl hh hx (fun j => by
  by_cases e : j = i
  · rw [e, pk_us]; exact hv
  · rw [pk_un e]; exact h.r ha hk hl hh j)
theorem z_any (x : Int32) : (-2147483648 : Int32) ≤ x ∧ x ≤ 2147483647 := by
  rw [fa_le, fa_le]
  have e1 : (-2147483648 : Int32).toInt = -2147483648 := by decide
  have e2 : (2147483647 : Int32).toInt = 2147483647 := by decide
  have h1 := Int32.le_toInt x
  have h2 := Int32.toInt_lt x
  rw [e1, e2]
  omega
theorem zI.cp (h : zI cy G L cs ks φ0 ρ0 σ φ ρ) (ha : a ∈ L) (hk : zk G a = k) (hks : ks.contains k = true) (hl : zalo k = lo) (hh : zahi k = hi) (hx : (k == 1143 || k == 1144) = false) {b k1 s d m : Nat} {lo1 hi1 : Int32} (hb : b ∈ L) (hkb : zk G b = k1) (hl1 : zalo k1 = lo1) (hh1 : zahi k1 = hi1) (hle : lo ≤ lo1 ∧ hi1 ≤ hi) : zI cy G L cs ks φ0 ρ0 σ φ (va_up ρ a (va_cpy (ρ b) (ρ a) s d m)) := h.row hk hks hl hh hx (fun i => by
  unfold va_cpy
  split
  · have := h.r hb hkb hl1 hh1 (s + (i - d)); grind
  · exact h.r ha hk hl hh i)
theorem zI.same (h : zI cy G L cs ks φ0 ρ0 σ φ ρ) (hn : (cs.contains c) = false) : φ c j b = φ0 c j b := h.2.2.2.2.2.1 c j b (by simpa using hn)
theorem zI.sameR (h : zI cy G L cs ks φ0 ρ0 σ φ ρ) (hk : zk G b = k) (hn : (ks.contains k) = false) : ρ b = ρ0 b := h.2.2.2.2.2.2 b (by rw [hk]; simpa using hn)
theorem zI.o100 (h : zI cy G L cs ks φ0 ρ0 σ φ ρ) (ha : a ∈ L) (hk : zk G a = 100) : zT L σ a (.inr (0, [.int 0, .int 0, .ref (zp G a 2), .ref (zp G a 3), .ref (zp G a 4), .ref (zp G a 5), .ref (zp G a 6), .ref (zp G a 7), .ref (zp G a 8), .ref (zp G a 9)])) := ⟨ha, (h.1 a ha).1 _ (by rw [hk]; rfl)⟩
theorem zI.o101 (h : zI cy G L cs ks φ0 ρ0 σ φ ρ) (ha : a ∈ L) (hk : zk G a = 101) : zT L σ a (.inr (1, [.int 0, .int 0, .int 0, .ref (zp G a 3), .ref (zp G a 4), .ref (zp G a 5), .ref (zp G a 6), .ref (zp G a 7), .ref (zp G a 8), .ref (zp G a 9), .ref (zp G a 10)])) := ⟨ha, (h.1 a ha).1 _ (by rw [hk]; rfl)⟩
theorem zI.o102 (h : zI cy G L cs ks φ0 ρ0 σ φ ρ) (ha : a ∈ L) (hk : zk G a = 102) : zT L σ a (.inr (2, [.int 0, .ref (zp G a 1), .ref (zp G a 2), .ref (zp G a 3), .ref (zp G a 4), .ref (zp G a 5), .ref (zp G a 6), .ref (zp G a 7), .ref (zp G a 8), .ref (zp G a 9)])) := ⟨ha, (h.1 a ha).1 _ (by rw [hk]; rfl)⟩
theorem zI.o104 (h : zI cy G L cs ks φ0 ρ0 σ φ ρ) (ha : a ∈ L) (hk : zk G a = 104) : zT L σ a (.inr (4, [.ref (zp G a 0), .ref (zp G a 1), .ref (zp G a 2), .ref (zp G a 3), .ref (zp G a 4), .int 0, .int 0])) := ⟨ha, (h.1 a ha).1 _ (by rw [hk]; rfl)⟩
theorem zI.o105 (h : zI cy G L cs ks φ0 ρ0 σ φ ρ) (ha : a ∈ L) (hk : zk G a = 105) : zT L σ a (.inr (5, [.int 0, .int 0, .ref (zp G a 2), .ref (zp G a 3)])) := ⟨ha, (h.1 a ha).1 _ (by rw [hk]; rfl)⟩
theorem zI.o106 (h : zI cy G L cs ks φ0 ρ0 σ φ ρ) (ha : a ∈ L) (hk : zk G a = 106) : zT L σ a (.inr (6, [.int 0, .int 0, .ref (zp G a 2), .ref (zp G a 3), .ref (zp G a 4), .ref (zp G a 5)])) := ⟨ha, (h.1 a ha).1 _ (by rw [hk]; rfl)⟩
theorem zI.o107 (h : zI cy G L cs ks φ0 ρ0 σ φ ρ) (ha : a ∈ L) (hk : zk G a = 107) : zT L σ a (.inr (7, [.int 0, .ref (zp G a 1), .ref (zp G a 2), .ref (zp G a 3), .ref (zp G a 4), .int 0, .ref (zp G a 6), .ref (zp G a 7), .int 0, .ref (zp G a 9), .ref (zp G a 10), .ref (zp G a 11), .ref (zp G a 12)])) := ⟨ha, (h.1 a ha).1 _ (by rw [hk]; rfl)⟩
theorem zI.o108 (h : zI cy G L cs ks φ0 ρ0 σ φ ρ) (ha : a ∈ L) (hk : zk G a = 108) : zT L σ a (.inr (8, [.ref (zp G a 0), .ref (zp G a 1), .ref (zp G a 2)])) := ⟨ha, (h.1 a ha).1 _ (by rw [hk]; rfl)⟩
theorem zI.o110 (h : zI cy G L cs ks φ0 ρ0 σ φ ρ) (ha : a ∈ L) (hk : zk G a = 110) : zT L σ a (.inr (10, [.ref (zp G a 0), .ref (zp G a 1), .ref (zp G a 2), .ref (zp G a 3), .ref (zp G a 4), .ref (zp G a 5), .int 0, .int 0, .int 0, .int 0, .int 0, .int 0, .int 0, .ref (zp G a 13), .ref (zp G a 14)])) := ⟨ha, (h.1 a ha).1 _ (by rw [hk]; rfl)⟩
theorem zI.o111 (h : zI cy G L cs ks φ0 ρ0 σ φ ρ) (ha : a ∈ L) (hk : zk G a = 111) : zT L σ a (.inr (11, [.ref (zp G a 0), .ref (zp G a 1), .ref (zp G a 2), .ref (zp G a 3), .ref (zp G a 4), .ref (zp G a 5), .ref (zp G a 6)])) := ⟨ha, (h.1 a ha).1 _ (by rw [hk]; rfl)⟩
theorem zI.o113 (h : zI cy G L cs ks φ0 ρ0 σ φ ρ) (ha : a ∈ L) (hk : zk G a = 113) : zT L σ a (.inr (10, [.ref (zp G a 0), .ref (zp G a 1), .ref (zp G a 2), .ref (zp G a 3), .ref (zp G a 4), .ref (zp G a 5), .int 0, .int 0, .int 0, .int 0, .int 0, .int 0, .int 0, .ref (zp G a 13), .ref (zp G a 14)])) := ⟨ha, (h.1 a ha).1 _ (by rw [hk]; rfl)⟩
end ZI
