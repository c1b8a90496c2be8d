theorem dX12_copy_0 : decode cX12_copy 0 = .ok (.iconst 0, 1) := by decide +kernel
theorem dX12_copy_1 : decode cX12_copy 1 = .ok (.istore_n 2, 1) := by decide +kernel
theorem dX12_copy_2 : decode cX12_copy 2 = .ok (.iload_n 2, 1) := by decide +kernel
theorem dX12_copy_3 : decode cX12_copy 3 = .ok (.sipush 17938, 3) := by decide +kernel
theorem dX12_copy_6 : decode cX12_copy 6 = .ok (.if_icmp .ge 15, 3) := by decide +kernel
theorem dX12_copy_9 : decode cX12_copy 9 = .ok (.aload_n 1, 1) := by decide +kernel
theorem dX12_copy_10 : decode cX12_copy 10 = .ok (.iload_n 2, 1) := by decide +kernel
theorem dX12_copy_11 : decode cX12_copy 11 = .ok (.aload_n 0, 1) := by decide +kernel
theorem dX12_copy_12 : decode cX12_copy 12 = .ok (.iload_n 2, 1) := by decide +kernel
theorem dX12_copy_13 : decode cX12_copy 13 = .ok (.iaload, 1) := by decide +kernel
theorem dX12_copy_14 : decode cX12_copy 14 = .ok (.iastore, 1) := by decide +kernel
theorem dX12_copy_15 : decode cX12_copy 15 = .ok (.iinc 2 1, 3) := by decide +kernel
theorem dX12_copy_18 : decode cX12_copy 18 = .ok (.goto (-16), 3) := by decide +kernel
theorem dX12_copy_21 : decode cX12_copy 21 = .ok (.return_, 1) := by decide +kernel
theorem dX12_init_0 : decode cX12_init 0 = .ok (.aload_n 0, 1) := by decide +kernel
theorem dX12_init_1 : decode cX12_init 1 = .ok (.invokespecial 1, 3) := by decide +kernel
theorem dX12_init_4 : decode cX12_init 4 = .ok (.aload_n 0, 1) := by decide +kernel
theorem dX12_init_5 : decode cX12_init 5 = .ok (.sipush 17938, 3) := by decide +kernel
theorem dX12_init_8 : decode cX12_init 8 = .ok (.newarray .int, 2) := by decide +kernel
theorem dX12_init_10 : decode cX12_init 10 = .ok (.putfield 7, 3) := by decide +kernel
theorem dX12_init_13 : decode cX12_init 13 = .ok (.aload_n 0, 1) := by decide +kernel
theorem dX12_init_14 : decode cX12_init 14 = .ok (.sipush 17938, 3) := by decide +kernel
theorem dX12_init_17 : decode cX12_init 17 = .ok (.newarray .int, 2) := by decide +kernel
theorem dX12_init_19 : decode cX12_init 19 = .ok (.putfield 13, 3) := by decide +kernel
theorem dX12_init_22 : decode cX12_init 22 = .ok (.aload_n 0, 1) := by decide +kernel
theorem dX12_init_23 : decode cX12_init 23 = .ok (.sipush 2820, 3) := by decide +kernel
theorem dX12_init_26 : decode cX12_init 26 = .ok (.newarray .int, 2) := by decide +kernel
theorem dX12_init_28 : decode cX12_init 28 = .ok (.putfield 16, 3) := by decide +kernel
theorem dX12_init_31 : decode cX12_init 31 = .ok (.aload_n 0, 1) := by decide +kernel
theorem dX12_init_32 : decode cX12_init 32 = .ok (.sipush 300, 3) := by decide +kernel
theorem dX12_init_35 : decode cX12_init 35 = .ok (.newarray .int, 2) := by decide +kernel
theorem dX12_init_37 : decode cX12_init 37 = .ok (.putfield 19, 3) := by decide +kernel
theorem dX12_init_40 : decode cX12_init 40 = .ok (.aload_n 0, 1) := by decide +kernel
theorem dX12_init_41 : decode cX12_init 41 = .ok (.iconst (-1), 1) := by decide +kernel
theorem dX12_init_42 : decode cX12_init 42 = .ok (.putfield 22, 3) := by decide +kernel
theorem dX12_init_45 : decode cX12_init 45 = .ok (.aload_n 0, 1) := by decide +kernel
theorem dX12_init_46 : decode cX12_init 46 = .ok (.iconst (-1), 1) := by decide +kernel
theorem dX12_init_47 : decode cX12_init 47 = .ok (.putfield 26, 3) := by decide +kernel
theorem dX12_init_50 : decode cX12_init 50 = .ok (.aload_n 0, 1) := by decide +kernel
theorem dX12_init_51 : decode cX12_init 51 = .ok (.sipush 160, 3) := by decide +kernel
theorem dX12_init_54 : decode cX12_init 54 = .ok (.newarray .int, 2) := by decide +kernel
theorem dX12_init_56 : decode cX12_init 56 = .ok (.putfield 29, 3) := by decide +kernel
theorem dX12_init_59 : decode cX12_init 59 = .ok (.aload_n 0, 1) := by decide +kernel
theorem dX12_init_60 : decode cX12_init 60 = .ok (.bipush 10, 2) := by decide +kernel
theorem dX12_init_62 : decode cX12_init 62 = .ok (.newarray .int, 2) := by decide +kernel
theorem dX12_init_64 : decode cX12_init 64 = .ok (.putfield 32, 3) := by decide +kernel
theorem dX12_init_67 : decode cX12_init 67 = .ok (.aload_n 0, 1) := by decide +kernel
theorem dX12_init_68 : decode cX12_init 68 = .ok (.bipush 11, 2) := by decide +kernel
theorem dX12_init_70 : decode cX12_init 70 = .ok (.newarray .int, 2) := by decide +kernel
theorem dX12_init_72 : decode cX12_init 72 = .ok (.putfield 35, 3) := by decide +kernel
theorem dX12_init_75 : decode cX12_init 75 = .ok (.aload_n 0, 1) := by decide +kernel
theorem dX12_init_76 : decode cX12_init 76 = .ok (.iconst (-1), 1) := by decide +kernel
theorem dX12_init_77 : decode cX12_init 77 = .ok (.putfield 38, 3) := by decide +kernel
theorem dX12_init_80 : decode cX12_init 80 = .ok (.aload_n 0, 1) := by decide +kernel
theorem dX12_init_81 : decode cX12_init 81 = .ok (.sipush 330, 3) := by decide +kernel
theorem dX12_init_84 : decode cX12_init 84 = .ok (.newarray .long, 2) := by decide +kernel
theorem dX12_init_86 : decode cX12_init 86 = .ok (.putfield 41, 3) := by decide +kernel
theorem dX12_init_89 : decode cX12_init 89 = .ok (.aload_n 0, 1) := by decide +kernel
theorem dX12_init_90 : decode cX12_init 90 = .ok (.sipush 330, 3) := by decide +kernel
theorem dX12_init_93 : decode cX12_init 93 = .ok (.newarray .boolean, 2) := by decide +kernel
theorem dX12_init_95 : decode cX12_init 95 = .ok (.putfield 45, 3) := by decide +kernel
theorem dX12_init_98 : decode cX12_init 98 = .ok (.aload_n 0, 1) := by decide +kernel
theorem dX12_init_99 : decode cX12_init 99 = .ok (.bipush 10, 2) := by decide +kernel
theorem dX12_init_101 : decode cX12_init 101 = .ok (.newarray .long, 2) := by decide +kernel
theorem dX12_init_103 : decode cX12_init 103 = .ok (.putfield 49, 3) := by decide +kernel
theorem dX12_init_106 : decode cX12_init 106 = .ok (.aload_n 0, 1) := by decide +kernel
theorem dX12_init_107 : decode cX12_init 107 = .ok (.bipush 10, 2) := by decide +kernel
theorem dX12_init_109 : decode cX12_init 109 = .ok (.newarray .int, 2) := by decide +kernel
theorem dX12_init_111 : decode cX12_init 111 = .ok (.putfield 52, 3) := by decide +kernel
theorem dX12_init_114 : decode cX12_init 114 = .ok (.aload_n 0, 1) := by decide +kernel
theorem dX12_init_115 : decode cX12_init 115 = .ok (.bipush 10, 2) := by decide +kernel
theorem dX12_init_117 : decode cX12_init 117 = .ok (.newarray .int, 2) := by decide +kernel
theorem dX12_init_119 : decode cX12_init 119 = .ok (.putfield 55, 3) := by decide +kernel
theorem dX12_init_122 : decode cX12_init 122 = .ok (.aload_n 0, 1) := by decide +kernel
theorem dX12_init_123 : decode cX12_init 123 = .ok (.bipush 10, 2) := by decide +kernel
theorem dX12_init_125 : decode cX12_init 125 = .ok (.newarray .int, 2) := by decide +kernel
theorem dX12_init_127 : decode cX12_init 127 = .ok (.putfield 58, 3) := by decide +kernel
theorem dX12_init_130 : decode cX12_init 130 = .ok (.aload_n 0, 1) := by decide +kernel
theorem dX12_init_131 : decode cX12_init 131 = .ok (.sipush 400, 3) := by decide +kernel
theorem dX12_init_134 : decode cX12_init 134 = .ok (.newarray .long, 2) := by decide +kernel
theorem dX12_init_136 : decode cX12_init 136 = .ok (.putfield 61, 3) := by decide +kernel
theorem dX12_init_139 : decode cX12_init 139 = .ok (.aload_n 0, 1) := by decide +kernel
theorem dX12_init_140 : decode cX12_init 140 = .ok (.sipush 400, 3) := by decide +kernel
theorem dX12_init_143 : decode cX12_init 143 = .ok (.newarray .int, 2) := by decide +kernel
theorem dX12_init_145 : decode cX12_init 145 = .ok (.putfield 64, 3) := by decide +kernel
theorem dX12_init_148 : decode cX12_init 148 = .ok (.aload_n 0, 1) := by decide +kernel
theorem dX12_init_149 : decode cX12_init 149 = .ok (.iconst (-1), 1) := by decide +kernel
theorem dX12_init_150 : decode cX12_init 150 = .ok (.putfield 67, 3) := by decide +kernel
theorem dX12_init_153 : decode cX12_init 153 = .ok (.aload_n 0, 1) := by decide +kernel
theorem dX12_init_154 : decode cX12_init 154 = .ok (.bipush 8, 2) := by decide +kernel
theorem dX12_init_156 : decode cX12_init 156 = .ok (.newarray .int, 2) := by decide +kernel
theorem dX12_init_158 : decode cX12_init 158 = .ok (.putfield 70, 3) := by decide +kernel
theorem dX12_init_161 : decode cX12_init 161 = .ok (.aload_n 0, 1) := by decide +kernel
theorem dX12_init_162 : decode cX12_init 162 = .ok (.bipush 114, 2) := by decide +kernel
theorem dX12_init_164 : decode cX12_init 164 = .ok (.newarray .int, 2) := by decide +kernel
theorem dX12_init_166 : decode cX12_init 166 = .ok (.putfield 73, 3) := by decide +kernel
theorem dX12_init_169 : decode cX12_init 169 = .ok (.aload_n 0, 1) := by decide +kernel
theorem dX12_init_170 : decode cX12_init 170 = .ok (.iconst 5, 1) := by decide +kernel
theorem dX12_init_171 : decode cX12_init 171 = .ok (.newarray .int, 2) := by decide +kernel
theorem dX12_init_173 : decode cX12_init 173 = .ok (.putfield 76, 3) := by decide +kernel
theorem dX12_init_176 : decode cX12_init 176 = .ok (.aload_n 0, 1) := by decide +kernel
theorem dX12_init_177 : decode cX12_init 177 = .ok (.bipush 8, 2) := by decide +kernel
theorem dX12_init_179 : decode cX12_init 179 = .ok (.newarray .int, 2) := by decide +kernel
theorem dX12_init_181 : decode cX12_init 181 = .ok (.putfield 79, 3) := by decide +kernel
theorem dX12_init_184 : decode cX12_init 184 = .ok (.aload_n 0, 1) := by decide +kernel
theorem dX12_init_185 : decode cX12_init 185 = .ok (.bipush 6, 2) := by decide +kernel
theorem dX12_init_187 : decode cX12_init 187 = .ok (.newarray .int, 2) := by decide +kernel
theorem dX12_init_189 : decode cX12_init 189 = .ok (.putfield 82, 3) := by decide +kernel
theorem dX12_init_192 : decode cX12_init 192 = .ok (.aload_n 0, 1) := by decide +kernel
theorem dX12_init_193 : decode cX12_init 193 = .ok (.bipush 36, 2) := by decide +kernel
theorem dX12_init_195 : decode cX12_init 195 = .ok (.newarray .int, 2) := by decide +kernel
theorem dX12_init_197 : decode cX12_init 197 = .ok (.putfield 85, 3) := by decide +kernel
theorem dX12_init_200 : decode cX12_init 200 = .ok (.aload_n 0, 1) := by decide +kernel
theorem dX12_init_201 : decode cX12_init 201 = .ok (.bipush 6, 2) := by decide +kernel
theorem dX12_init_203 : decode cX12_init 203 = .ok (.newarray .int, 2) := by decide +kernel
theorem dX12_init_205 : decode cX12_init 205 = .ok (.putfield 88, 3) := by decide +kernel
theorem dX12_init_208 : decode cX12_init 208 = .ok (.aload_n 0, 1) := by decide +kernel
theorem dX12_init_209 : decode cX12_init 209 = .ok (.bipush 6, 2) := by decide +kernel
theorem dX12_init_211 : decode cX12_init 211 = .ok (.newarray .int, 2) := by decide +kernel
theorem dX12_init_213 : decode cX12_init 213 = .ok (.putfield 91, 3) := by decide +kernel
theorem dX12_init_216 : decode cX12_init 216 = .ok (.aload_n 0, 1) := by decide +kernel
theorem dX12_init_217 : decode cX12_init 217 = .ok (.bipush 8, 2) := by decide +kernel
theorem dX12_init_219 : decode cX12_init 219 = .ok (.newarray .int, 2) := by decide +kernel
theorem dX12_init_221 : decode cX12_init 221 = .ok (.putfield 94, 3) := by decide +kernel
theorem dX12_init_224 : decode cX12_init 224 = .ok (.aload_n 0, 1) := by decide +kernel
theorem dX12_init_225 : decode cX12_init 225 = .ok (.bipush 8, 2) := by decide +kernel
theorem dX12_init_227 : decode cX12_init 227 = .ok (.newarray .int, 2) := by decide +kernel
theorem dX12_init_229 : decode cX12_init 229 = .ok (.putfield 97, 3) := by decide +kernel
theorem dX12_init_232 : decode cX12_init 232 = .ok (.aload_n 0, 1) := by decide +kernel
theorem dX12_init_233 : decode cX12_init 233 = .ok (.bipush 6, 2) := by decide +kernel
theorem dX12_init_235 : decode cX12_init 235 = .ok (.newarray .int, 2) := by decide +kernel
theorem dX12_init_237 : decode cX12_init 237 = .ok (.putfield 100, 3) := by decide +kernel
theorem dX12_init_240 : decode cX12_init 240 = .ok (.aload_n 0, 1) := by decide +kernel
theorem dX12_init_241 : decode cX12_init 241 = .ok (.bipush 17, 2) := by decide +kernel
theorem dX12_init_243 : decode cX12_init 243 = .ok (.newarray .long, 2) := by decide +kernel
theorem dX12_init_245 : decode cX12_init 245 = .ok (.putfield 103, 3) := by decide +kernel
theorem dX12_init_248 : decode cX12_init 248 = .ok (.aload_n 0, 1) := by decide +kernel
theorem dX12_init_249 : decode cX12_init 249 = .ok (.bipush 6, 2) := by decide +kernel
theorem dX12_init_251 : decode cX12_init 251 = .ok (.newarray .int, 2) := by decide +kernel
theorem dX12_init_253 : decode cX12_init 253 = .ok (.putfield 106, 3) := by decide +kernel
theorem dX12_init_256 : decode cX12_init 256 = .ok (.aload_n 0, 1) := by decide +kernel
theorem dX12_init_257 : decode cX12_init 257 = .ok (.getfield 7, 3) := by decide +kernel
theorem dX12_init_260 : decode cX12_init 260 = .ok (.bipush 6, 2) := by decide +kernel
theorem dX12_init_262 : decode cX12_init 262 = .ok (.bipush 37, 2) := by decide +kernel
theorem dX12_init_264 : decode cX12_init 264 = .ok (.iastore, 1) := by decide +kernel
theorem dX12_init_265 : decode cX12_init 265 = .ok (.aload_n 0, 1) := by decide +kernel
theorem dX12_init_266 : decode cX12_init 266 = .ok (.getfield 7, 3) := by decide +kernel
theorem dX12_init_269 : decode cX12_init 269 = .ok (.bipush 8, 2) := by decide +kernel
theorem dX12_init_271 : decode cX12_init 271 = .ok (.iconst (-1), 1) := by decide +kernel
theorem dX12_init_272 : decode cX12_init 272 = .ok (.iastore, 1) := by decide +kernel
theorem dX12_init_273 : decode cX12_init 273 = .ok (.sipush 9938, 3) := by decide +kernel
theorem dX12_init_276 : decode cX12_init 276 = .ok (.istore_n 1, 1) := by decide +kernel
theorem dX12_init_277 : decode cX12_init 277 = .ok (.iload_n 1, 1) := by decide +kernel
theorem dX12_init_278 : decode cX12_init 278 = .ok (.sipush 17938, 3) := by decide +kernel
theorem dX12_init_281 : decode cX12_init 281 = .ok (.if_icmp .ge 16, 3) := by decide +kernel
theorem dX12_init_284 : decode cX12_init 284 = .ok (.aload_n 0, 1) := by decide +kernel
theorem dX12_init_285 : decode cX12_init 285 = .ok (.getfield 7, 3) := by decide +kernel
theorem dX12_init_288 : decode cX12_init 288 = .ok (.iload_n 1, 1) := by decide +kernel
theorem dX12_init_289 : decode cX12_init 289 = .ok (.iconst (-1), 1) := by decide +kernel
theorem dX12_init_290 : decode cX12_init 290 = .ok (.iastore, 1) := by decide +kernel
theorem dX12_init_291 : decode cX12_init 291 = .ok (.iinc 1 1, 3) := by decide +kernel
theorem dX12_init_294 : decode cX12_init 294 = .ok (.goto (-17), 3) := by decide +kernel
theorem dX12_init_297 : decode cX12_init 297 = .ok (.aload_n 0, 1) := by decide +kernel
theorem dX12_init_298 : decode cX12_init 298 = .ok (.getfield 7, 3) := by decide +kernel
theorem dX12_init_301 : decode cX12_init 301 = .ok (.aload_n 0, 1) := by decide +kernel
theorem dX12_init_302 : decode cX12_init 302 = .ok (.getfield 13, 3) := by decide +kernel
theorem dX12_init_305 : decode cX12_init 305 = .ok (.invokestatic 109, 3) := by decide +kernel
theorem dX12_init_308 : decode cX12_init 308 = .ok (.return_, 1) := by decide +kernel
/-- what a new reference's row holds -/
def za0 (j : Nat) : Int32 := if 9938 ≤ j ∧ j < 17938 then -1 else upd (upd (fun _ => 0) 6 37) 8 (-1) j
/-- the reference's cells: r: its rows by the places of its fields -/
def zModel (cy : Nat → ClassId) (L : List Nat) (σ : Nat → va_E) (m : Nat) (r : Nat → Nat) : Prop := zT L σ m (.inr (12, [.ref (r 0), .ref (r 1), .ref (r 2), .ref (r 3), .int 0, .int 0, .int 0, .int 0, .int 0, .int 0, .int 0, .long (0), .int 0, .int 0, .int 0, .ref (r 15), .ref (r 16), .int 0, .int 0, .int 0, .int 0, .int 0, .ref (r 22), .int 0, .int 0, .ref (r 25), .ref (r 26), .ref (r 27), .ref (r 28), .ref (r 29), .int 0, .int 0, .ref (r 32), .ref (r 33), .ref (r 34), .int 0, .int 0, .int 0, .int 0, .ref (r 39), .int 0, .ref (r 41), .ref (r 42), .ref (r 43), .ref (r 44), .ref (r 45), .ref (r 46), .ref (r 47), .ref (r 48), .ref (r 49), .ref (r 50), .ref (r 51), .ref (r 52)])) ∧ zT L σ (r 0) (zIA cy 17938) ∧ zT L σ (r 1) (zIA cy 17938) ∧ zT L σ (r 2) (zIA cy 2820) ∧ zT L σ (r 3) (zIA cy 300) ∧ zT L σ (r 15) (zIA cy 160) ∧ zT L σ (r 16) (zIA cy 10) ∧ zT L σ (r 22) (zIA cy 11) ∧ zT L σ (r 25) (zJA cy 330) ∧ zT L σ (r 26) (zZA cy 330) ∧ zT L σ (r 27) (zJA cy 10) ∧ zT L σ (r 28) (zIA cy 10) ∧ zT L σ (r 29) (zIA cy 10) ∧ zT L σ (r 32) (zIA cy 10) ∧ zT L σ (r 33) (zJA cy 400) ∧ zT L σ (r 34) (zIA cy 400) ∧ zT L σ (r 39) (zIA cy 8) ∧ zT L σ (r 41) (zIA cy 114) ∧ zT L σ (r 42) (zIA cy 5) ∧ zT L σ (r 43) (zIA cy 8) ∧ zT L σ (r 44) (zIA cy 6) ∧ zT L σ (r 45) (zIA cy 36) ∧ zT L σ (r 46) (zIA cy 6) ∧ zT L σ (r 47) (zIA cy 6) ∧ zT L σ (r 48) (zIA cy 8) ∧ zT L σ (r 49) (zIA cy 8) ∧ zT L σ (r 50) (zIA cy 6) ∧ zT L σ (r 51) (zJA cy 17) ∧ zT L σ (r 52) (zIA cy 6) ∧ r 0 ≠ r 1
/-- its numbers when it is new -/
def zMo0 (φ : Nat → Nat → Nat → Int32) (ρ : Nat → Nat → Int32) (m : Nat) (r : Nat → Nat) : Prop := (∀ j, φ 12 j m = if j = 5 ∨ j = 6 ∨ j = 24 ∨ j = 37 then -1 else 0) ∧ (∀ j, j < 17938 → ρ (r 0) j = za0 j) ∧ ∀ j, j < 17938 → ρ (r 1) j = za0 j
-- copy(a, b): one row into another
set_option maxHeartbeats 4000000 in
set_option maxRecDepth 100000 in
theorem m_copy (l : Launch) (D : va_G) (cy : Nat → ClassId) (L : List Nat) (σ : Nat → va_E) (φ : Nat → Nat → Nat → Int32) (ρ : Nat → Nat → Int32) {a b : Nat} (ha : zT L σ a (zIA cy 17938)) (hb : zT L σ b (zIA cy 17938)) (hne : a ≠ b) : zMV l D cy yX12_copy cX12_copy 3 (zrm 0 0 0) [.ref a, .ref b] L σ φ ρ (zsv L σ (fun φ' ρ' => φ' = φ ∧ (∀ x, x ≠ b → ρ' x = ρ x) ∧ ∀ j, j < 17938 → ρ' b j = ρ a j)) := by
  refine zMV.mk (by decide) (Nat.le_of_ble_eq_true rfl) (fun E hE hI hret => ?_)
  show zW E 0 0 L σ φ ρ 0 [(0, .ref a), (1, .ref b)] []
  have loop : ∀ (f i : Nat) (ρ' : Nat → Nat → Int32), i ≤ 17938 → 17938 - i < f → (∀ x, x ≠ b → ρ' x = ρ x) → (∀ j, j < i → ρ' b j = ρ a j) → zW E 0 0 L σ φ ρ' 2 [(2, .int (nI i)), (0, .ref a), (1, .ref b)] [] := by
    intro f
    induction f with
    | zero => intro i ρ' h1 h2; omega
    | succ f ih =>
      intro i ρ' hi hf h1 h2
      rcases Nat.lt_or_ge i 17938 with hlt | hge
      · refine x_iload_n hE dX12_copy_2 rfl 0 rfl ?_
        refine x_sipush (v := 17938) hE dX12_copy_3 (by decide) ?_
        refine x_icmp_ge (tgt := 21) hE dX12_copy_6 (by decide) (fun c_6 => absurd c_6 (fun h => absurd ((nI_leI (a := 17938) (by omega) (by omega)).mp h) (by omega))) (fun c_6 => ?_)
        refine x_aload_n hE dX12_copy_9 rfl 2 rfl ?_
        refine x_iload_n hE dX12_copy_10 rfl 0 rfl ?_
        refine x_aload_n hE dX12_copy_11 rfl 1 rfl ?_
        refine x_iload_n hE dX12_copy_12 rfl 0 rfl ?_
        refine h_iald hE ha (vp_in_nI hlt (by omega)) dX12_copy_13 ?_
        refine x_norm (y := ρ a i) (by rw [nI_clamp (by omega), h1 a hne]) ?_
        refine h_iast hE hb (vp_in_nI hlt (by omega)) dX12_copy_14 ?_
        refine x_iinc (v := nI (i + 1)) (lv' := [(2, .int (nI (i + 1))), (0, .ref a), (1, .ref b)]) hE dX12_copy_15 0 rfl (nI_1 i) (by decide) rfl ?_
        refine x_goto (tgt := 2) hE dX12_copy_18 (by decide) ?_
        refine x_sub (lv' := [(2, .int (nI (i + 1))), (0, .ref a), (1, .ref b)]) (by simp) ?_
        rw [nI_clamp (show i < 2 ^ 31 by omega)]
        refine ih (i + 1) _ (by omega) (by omega) (fun x hx => by rw [va_up_ne _ _ hx]; exact h1 x hx) (fun j hj => ?_)
        rw [va_up_self]
        by_cases e : j = i
        · rw [e]; simp [upd]
        · rw [pk_un e]; exact h2 j (by omega)
      · refine x_iload_n hE dX12_copy_2 rfl 0 rfl ?_
        refine x_sipush (v := 17938) hE dX12_copy_3 (by decide) ?_
        refine x_icmp_ge (tgt := 21) hE dX12_copy_6 (by decide) (fun c_6 => ?_) (fun c_6 => absurd ((nI_leI (a := 17938) (by omega) (by omega)).mpr (by omega)) c_6)
        exact hret _ _ _ _ _ _ _ _ (Nat.le_of_ble_eq_true rfl) (Nat.le_of_ble_eq_true rfl) dX12_copy_21 (⟨rfl, rfl, rfl, h1, fun j hj => h2 j (by omega)⟩)
  refine x_iconst (v := 0) hE dX12_copy_0 (by decide) ?_
  refine x_istore_n (lv' := [(2, .int 0), (0, .ref a), (1, .ref b)]) hE dX12_copy_1 rfl (by decide) rfl ?_
  refine x_sub (lv' := [(2, .int (nI 0)), (0, .ref a), (1, .ref b)]) (by simp [nI_0]) ?_
  exact loop 17939 0 ρ (by omega) (by omega) (fun _ _ => rfl) (fun j hj => absurd hj (Nat.not_lt_zero j))
-- OwnRainModel()
set_option maxHeartbeats 4000000 in
set_option maxRecDepth 100000 in
theorem k_Model (l : Launch) (D : va_G) (cy : Nat → ClassId) (L : List Nat) (σ : Nat → va_E) (φ : Nat → Nat → Nat → Int32) (ρ : Nat → Nat → Int32) {w : Nat} (hw_0 : zT L σ w (.inr (12, [.null, .null, .null, .null, .int 0, .int 0, .int 0, .int 0, .int 0, .int 0, .int 0, .long (0), .int 0, .int 0, .int 0, .null, .null, .int 0, .int 0, .int 0, .int 0, .int 0, .null, .int 0, .int 0, .null, .null, .null, .null, .null, .int 0, .int 0, .null, .null, .null, .int 0, .int 0, .int 0, .int 0, .null, .int 0, .null, .null, .null, .null, .null, .null, .null, .null, .null, .null, .null, .null]))) (h0 : ∀ c i, φ c i w = 0) : zMV l D cy yX12_init cX12_init 2 (zrm 1 28 40911) [.ref w] L σ φ ρ (fun u => zX w L σ φ ρ u.1 u.2.1 u.2.2.1 u.2.2.2 ∧ ∃ r, zModel cy u.1 u.2.1 w r ∧ zMo0 u.2.2.1 u.2.2.2 w r) := by
  refine zMV.mk (by decide) (Nat.le_of_ble_eq_true rfl) (fun E hE hI hret => ?_)
  have hI := hI rfl
  show zW E 0 0 L σ φ ρ 0 [(0, .ref w)] []
  refine x_aload_n hE dX12_init_0 rfl 0 rfl ?_
  refine x_objinit hE q1390 q140 q141 dX12_init_1 (Nat.le_of_ble_eq_true rfl) (Nat.le_of_ble_eq_true rfl) ?_
  refine x_aload_n hE dX12_init_4 rfl 0 rfl ?_
  refine x_sipush (v := 17938) hE dX12_init_5 (by decide) ?_
  refine x_np (t0 := 0) (ty := .int) (fty := (.array .int)) (ty0 := tyX12) (N0 := 17938) (x := (17938, .inl (fun _ => 0))) (j0 := 0) hE hI hw_0 rfl inZX12 tyX12_ok nmX12 (by decide) q1394 rfl rfl rfl (by decide +kernel) (fun _ => ⟨rfl, rfl⟩) rfl (fun _ h => nomatch h) q207 rfl (fun _ => rfl) (fun _ => rfl) (fun _ => rfl) (by decide) (by decide) (Nat.le_of_ble_eq_true rfl) (Nat.le_of_ble_eq_true rfl) (Nat.le_of_ble_eq_true rfl) dX12_init_8 dX12_init_10 (fun q_1 L_1 σ_1 φ_1 ρ_1 hn_1 hx_1 hw_1 hp_1 ha_1 hr_1 => ?_)
  have hw_1 : zT L_1 σ_1 w (.inr (12, [.ref q_1, .null, .null, .null, .int 0, .int 0, .int 0, .int 0, .int 0, .int 0, .int 0, .long (0), .int 0, .int 0, .int 0, .null, .null, .int 0, .int 0, .int 0, .int 0, .int 0, .null, .int 0, .int 0, .null, .null, .null, .null, .null, .int 0, .int 0, .null, .null, .null, .int 0, .int 0, .int 0, .int 0, .null, .int 0, .null, .null, .null, .null, .null, .null, .null, .null, .null, .null, .null, .null])) := hw_1
  refine x_aload_n hE dX12_init_13 rfl 0 rfl ?_
  refine x_sipush (v := 17938) hE dX12_init_14 (by decide) ?_
  refine x_np (t0 := 0) (ty := .int) (fty := (.array .int)) (ty0 := tyX12) (N0 := 17938) (x := (17938, .inl (fun _ => 0))) (j0 := 1) hE hI hw_1 rfl inZX12 tyX12_ok nmX12 (by decide) q1395 rfl rfl rfl (by decide +kernel) (fun _ => ⟨rfl, rfl⟩) rfl (fun _ h => nomatch h) q207 rfl (fun _ => rfl) (fun _ => rfl) (fun _ => rfl) (by decide) (by decide) (Nat.le_of_ble_eq_true rfl) (Nat.le_of_ble_eq_true rfl) (Nat.le_of_ble_eq_true rfl) dX12_init_17 dX12_init_19 (fun q_2 L_2 σ_2 φ_2 ρ_2 hn_2 hx_2 hw_2 hp_2 ha_2 hr_2 => ?_)
  have hw_2 : zT L_2 σ_2 w (.inr (12, [.ref q_1, .ref q_2, .null, .null, .int 0, .int 0, .int 0, .int 0, .int 0, .int 0, .int 0, .long (0), .int 0, .int 0, .int 0, .null, .null, .int 0, .int 0, .int 0, .int 0, .int 0, .null, .int 0, .int 0, .null, .null, .null, .null, .null, .int 0, .int 0, .null, .null, .null, .int 0, .int 0, .int 0, .int 0, .null, .int 0, .null, .null, .null, .null, .null, .null, .null, .null, .null, .null, .null, .null])) := hw_2
  refine x_aload_n hE dX12_init_22 rfl 0 rfl ?_
  refine x_sipush (v := 2820) hE dX12_init_23 (by decide) ?_
  refine x_np (t0 := 0) (ty := .int) (fty := (.array .int)) (ty0 := tyX12) (N0 := 2820) (x := (2820, .inl (fun _ => 0))) (j0 := 2) hE hI hw_2 rfl inZX12 tyX12_ok nmX12 (by decide) q1396 rfl rfl rfl (by decide +kernel) (fun _ => ⟨rfl, rfl⟩) rfl (fun _ h => nomatch h) q207 rfl (fun _ => rfl) (fun _ => rfl) (fun _ => rfl) (by decide) (by decide) (Nat.le_of_ble_eq_true rfl) (Nat.le_of_ble_eq_true rfl) (Nat.le_of_ble_eq_true rfl) dX12_init_26 dX12_init_28 (fun q_3 L_3 σ_3 φ_3 ρ_3 hn_3 hx_3 hw_3 hp_3 ha_3 hr_3 => ?_)
  have hw_3 : zT L_3 σ_3 w (.inr (12, [.ref q_1, .ref q_2, .ref q_3, .null, .int 0, .int 0, .int 0, .int 0, .int 0, .int 0, .int 0, .long (0), .int 0, .int 0, .int 0, .null, .null, .int 0, .int 0, .int 0, .int 0, .int 0, .null, .int 0, .int 0, .null, .null, .null, .null, .null, .int 0, .int 0, .null, .null, .null, .int 0, .int 0, .int 0, .int 0, .null, .int 0, .null, .null, .null, .null, .null, .null, .null, .null, .null, .null, .null, .null])) := hw_3
  refine x_aload_n hE dX12_init_31 rfl 0 rfl ?_
  refine x_sipush (v := 300) hE dX12_init_32 (by decide) ?_
  refine x_np (t0 := 0) (ty := .int) (fty := (.array .int)) (ty0 := tyX12) (N0 := 300) (x := (300, .inl (fun _ => 0))) (j0 := 3) hE hI hw_3 rfl inZX12 tyX12_ok nmX12 (by decide) q1397 rfl rfl rfl (by decide +kernel) (fun _ => ⟨rfl, rfl⟩) rfl (fun _ h => nomatch h) q207 rfl (fun _ => rfl) (fun _ => rfl) (fun _ => rfl) (by decide) (by decide) (Nat.le_of_ble_eq_true rfl) (Nat.le_of_ble_eq_true rfl) (Nat.le_of_ble_eq_true rfl) dX12_init_35 dX12_init_37 (fun q_4 L_4 σ_4 φ_4 ρ_4 hn_4 hx_4 hw_4 hp_4 ha_4 hr_4 => ?_)
  have hw_4 : zT L_4 σ_4 w (.inr (12, [.ref q_1, .ref q_2, .ref q_3, .ref q_4, .int 0, .int 0, .int 0, .int 0, .int 0, .int 0, .int 0, .long (0), .int 0, .int 0, .int 0, .null, .null, .int 0, .int 0, .int 0, .int 0, .int 0, .null, .int 0, .int 0, .null, .null, .null, .null, .null, .int 0, .int 0, .null, .null, .null, .int 0, .int 0, .int 0, .int 0, .null, .int 0, .null, .null, .null, .null, .null, .null, .null, .null, .null, .null, .null, .null])) := hw_4
  refine x_aload_n hE dX12_init_40 rfl 0 rfl ?_
  refine x_iconst (v := -1) hE dX12_init_41 (by decide) ?_
  refine x_puti (ty := .int) (ty0 := tyX12) (j0 := 5) (v := -1) hE hw_4 rfl inZX12 tyX12_ok nmX12 (by decide) q1399 rfl rfl (by decide +kernel) rfl rfl dX12_init_42 (fun φ_5 hx_5 hp_5 => ?_)
  refine x_aload_n hE dX12_init_45 rfl 0 rfl ?_
  refine x_iconst (v := -1) hE dX12_init_46 (by decide) ?_
  refine x_puti (ty := .int) (ty0 := tyX12) (j0 := 6) (v := -1) hE hw_4 rfl inZX12 tyX12_ok nmX12 (by decide) q1400 rfl rfl (by decide +kernel) rfl rfl dX12_init_47 (fun φ_6 hx_6 hp_6 => ?_)
  refine x_aload_n hE dX12_init_50 rfl 0 rfl ?_
  refine x_sipush (v := 160) hE dX12_init_51 (by decide) ?_
  refine x_np (t0 := 0) (ty := .int) (fty := (.array .int)) (ty0 := tyX12) (N0 := 160) (x := (160, .inl (fun _ => 0))) (j0 := 15) hE hI hw_4 rfl inZX12 tyX12_ok nmX12 (by decide) q1409 rfl rfl rfl (by decide +kernel) (fun _ => ⟨rfl, rfl⟩) rfl (fun _ h => nomatch h) q207 rfl (fun _ => rfl) (fun _ => rfl) (fun _ => rfl) (by decide) (by decide) (Nat.le_of_ble_eq_true rfl) (Nat.le_of_ble_eq_true rfl) (Nat.le_of_ble_eq_true rfl) dX12_init_54 dX12_init_56 (fun q_7 L_7 σ_7 φ_7 ρ_7 hn_7 hx_7 hw_7 hp_7 ha_7 hr_7 => ?_)
  have hw_7 : zT L_7 σ_7 w (.inr (12, [.ref q_1, .ref q_2, .ref q_3, .ref q_4, .int 0, .int 0, .int 0, .int 0, .int 0, .int 0, .int 0, .long (0), .int 0, .int 0, .int 0, .ref q_7, .null, .int 0, .int 0, .int 0, .int 0, .int 0, .null, .int 0, .int 0, .null, .null, .null, .null, .null, .int 0, .int 0, .null, .null, .null, .int 0, .int 0, .int 0, .int 0, .null, .int 0, .null, .null, .null, .null, .null, .null, .null, .null, .null, .null, .null, .null])) := hw_7
  refine x_aload_n hE dX12_init_59 rfl 0 rfl ?_
  refine x_bipush (v := 10) hE dX12_init_60 (by decide) ?_
  refine x_np (t0 := 0) (ty := .int) (fty := (.array .int)) (ty0 := tyX12) (N0 := 10) (x := (10, .inl (fun _ => 0))) (j0 := 16) hE hI hw_7 rfl inZX12 tyX12_ok nmX12 (by decide) q1410 rfl rfl rfl (by decide +kernel) (fun _ => ⟨rfl, rfl⟩) rfl (fun _ h => nomatch h) q207 rfl (fun _ => rfl) (fun _ => rfl) (fun _ => rfl) (by decide) (by decide) (Nat.le_of_ble_eq_true rfl) (Nat.le_of_ble_eq_true rfl) (Nat.le_of_ble_eq_true rfl) dX12_init_62 dX12_init_64 (fun q_8 L_8 σ_8 φ_8 ρ_8 hn_8 hx_8 hw_8 hp_8 ha_8 hr_8 => ?_)
  have hw_8 : zT L_8 σ_8 w (.inr (12, [.ref q_1, .ref q_2, .ref q_3, .ref q_4, .int 0, .int 0, .int 0, .int 0, .int 0, .int 0, .int 0, .long (0), .int 0, .int 0, .int 0, .ref q_7, .ref q_8, .int 0, .int 0, .int 0, .int 0, .int 0, .null, .int 0, .int 0, .null, .null, .null, .null, .null, .int 0, .int 0, .null, .null, .null, .int 0, .int 0, .int 0, .int 0, .null, .int 0, .null, .null, .null, .null, .null, .null, .null, .null, .null, .null, .null, .null])) := hw_8
  refine x_aload_n hE dX12_init_67 rfl 0 rfl ?_
  refine x_bipush (v := 11) hE dX12_init_68 (by decide) ?_
  refine x_np (t0 := 0) (ty := .int) (fty := (.array .int)) (ty0 := tyX12) (N0 := 11) (x := (11, .inl (fun _ => 0))) (j0 := 22) hE hI hw_8 rfl inZX12 tyX12_ok nmX12 (by decide) q1416 rfl rfl rfl (by decide +kernel) (fun _ => ⟨rfl, rfl⟩) rfl (fun _ h => nomatch h) q207 rfl (fun _ => rfl) (fun _ => rfl) (fun _ => rfl) (by decide) (by decide) (Nat.le_of_ble_eq_true rfl) (Nat.le_of_ble_eq_true rfl) (Nat.le_of_ble_eq_true rfl) dX12_init_70 dX12_init_72 (fun q_9 L_9 σ_9 φ_9 ρ_9 hn_9 hx_9 hw_9 hp_9 ha_9 hr_9 => ?_)
  have hw_9 : zT L_9 σ_9 w (.inr (12, [.ref q_1, .ref q_2, .ref q_3, .ref q_4, .int 0, .int 0, .int 0, .int 0, .int 0, .int 0, .int 0, .long (0), .int 0, .int 0, .int 0, .ref q_7, .ref q_8, .int 0, .int 0, .int 0, .int 0, .int 0, .ref q_9, .int 0, .int 0, .null, .null, .null, .null, .null, .int 0, .int 0, .null, .null, .null, .int 0, .int 0, .int 0, .int 0, .null, .int 0, .null, .null, .null, .null, .null, .null, .null, .null, .null, .null, .null, .null])) := hw_9
  refine x_aload_n hE dX12_init_75 rfl 0 rfl ?_
  refine x_iconst (v := -1) hE dX12_init_76 (by decide) ?_
  refine x_puti (ty := .int) (ty0 := tyX12) (j0 := 24) (v := -1) hE hw_9 rfl inZX12 tyX12_ok nmX12 (by decide) q1418 rfl rfl (by decide +kernel) rfl rfl dX12_init_77 (fun φ_10 hx_10 hp_10 => ?_)
  refine x_aload_n hE dX12_init_80 rfl 0 rfl ?_
  refine x_sipush (v := 330) hE dX12_init_81 (by decide) ?_
  refine x_np (t0 := 1) (ty := .long) (fty := (.array .long)) (ty0 := tyX12) (N0 := 330) (x := (330, .inr (.inl (fun _ => 0)))) (j0 := 25) hE hI hw_9 rfl inZX12 tyX12_ok nmX12 (by decide) q1419 rfl rfl rfl (by decide +kernel) (fun _ => ⟨rfl, rfl⟩) rfl (fun _ h => nomatch h) q1295 rfl (fun _ => rfl) (fun _ => rfl) (fun _ => rfl) (by decide) (by decide) (Nat.le_of_ble_eq_true rfl) (Nat.le_of_ble_eq_true rfl) (Nat.le_of_ble_eq_true rfl) dX12_init_84 dX12_init_86 (fun q_11 L_11 σ_11 φ_11 ρ_11 hn_11 hx_11 hw_11 hp_11 ha_11 hr_11 => ?_)
  have hw_11 : zT L_11 σ_11 w (.inr (12, [.ref q_1, .ref q_2, .ref q_3, .ref q_4, .int 0, .int 0, .int 0, .int 0, .int 0, .int 0, .int 0, .long (0), .int 0, .int 0, .int 0, .ref q_7, .ref q_8, .int 0, .int 0, .int 0, .int 0, .int 0, .ref q_9, .int 0, .int 0, .ref q_11, .null, .null, .null, .null, .int 0, .int 0, .null, .null, .null, .int 0, .int 0, .int 0, .int 0, .null, .int 0, .null, .null, .null, .null, .null, .null, .null, .null, .null, .null, .null, .null])) := hw_11
  refine x_aload_n hE dX12_init_89 rfl 0 rfl ?_
  refine x_sipush (v := 330) hE dX12_init_90 (by decide) ?_
  refine x_np (t0 := 2) (ty := .boolean) (fty := (.array .boolean)) (ty0 := tyX12) (N0 := 330) (x := (330, .inl (fun _ => 0))) (j0 := 26) hE hI hw_11 rfl inZX12 tyX12_ok nmX12 (by decide) q1420 rfl rfl rfl (by decide +kernel) (fun _ => ⟨rfl, rfl⟩) rfl (fun _ h => nomatch h) q358 rfl (fun _ => rfl) (fun _ => rfl) (fun _ => rfl) (by decide) (by decide) (Nat.le_of_ble_eq_true rfl) (Nat.le_of_ble_eq_true rfl) (Nat.le_of_ble_eq_true rfl) dX12_init_93 dX12_init_95 (fun q_12 L_12 σ_12 φ_12 ρ_12 hn_12 hx_12 hw_12 hp_12 ha_12 hr_12 => ?_)
  have hw_12 : zT L_12 σ_12 w (.inr (12, [.ref q_1, .ref q_2, .ref q_3, .ref q_4, .int 0, .int 0, .int 0, .int 0, .int 0, .int 0, .int 0, .long (0), .int 0, .int 0, .int 0, .ref q_7, .ref q_8, .int 0, .int 0, .int 0, .int 0, .int 0, .ref q_9, .int 0, .int 0, .ref q_11, .ref q_12, .null, .null, .null, .int 0, .int 0, .null, .null, .null, .int 0, .int 0, .int 0, .int 0, .null, .int 0, .null, .null, .null, .null, .null, .null, .null, .null, .null, .null, .null, .null])) := hw_12
  refine x_aload_n hE dX12_init_98 rfl 0 rfl ?_
  refine x_bipush (v := 10) hE dX12_init_99 (by decide) ?_
  refine x_np (t0 := 1) (ty := .long) (fty := (.array .long)) (ty0 := tyX12) (N0 := 10) (x := (10, .inr (.inl (fun _ => 0)))) (j0 := 27) hE hI hw_12 rfl inZX12 tyX12_ok nmX12 (by decide) q1421 rfl rfl rfl (by decide +kernel) (fun _ => ⟨rfl, rfl⟩) rfl (fun _ h => nomatch h) q1295 rfl (fun _ => rfl) (fun _ => rfl) (fun _ => rfl) (by decide) (by decide) (Nat.le_of_ble_eq_true rfl) (Nat.le_of_ble_eq_true rfl) (Nat.le_of_ble_eq_true rfl) dX12_init_101 dX12_init_103 (fun q_13 L_13 σ_13 φ_13 ρ_13 hn_13 hx_13 hw_13 hp_13 ha_13 hr_13 => ?_)
  have hw_13 : zT L_13 σ_13 w (.inr (12, [.ref q_1, .ref q_2, .ref q_3, .ref q_4, .int 0, .int 0, .int 0, .int 0, .int 0, .int 0, .int 0, .long (0), .int 0, .int 0, .int 0, .ref q_7, .ref q_8, .int 0, .int 0, .int 0, .int 0, .int 0, .ref q_9, .int 0, .int 0, .ref q_11, .ref q_12, .ref q_13, .null, .null, .int 0, .int 0, .null, .null, .null, .int 0, .int 0, .int 0, .int 0, .null, .int 0, .null, .null, .null, .null, .null, .null, .null, .null, .null, .null, .null, .null])) := hw_13
  refine x_aload_n hE dX12_init_106 rfl 0 rfl ?_
  refine x_bipush (v := 10) hE dX12_init_107 (by decide) ?_
  refine x_np (t0 := 0) (ty := .int) (fty := (.array .int)) (ty0 := tyX12) (N0 := 10) (x := (10, .inl (fun _ => 0))) (j0 := 28) hE hI hw_13 rfl inZX12 tyX12_ok nmX12 (by decide) q1422 rfl rfl rfl (by decide +kernel) (fun _ => ⟨rfl, rfl⟩) rfl (fun _ h => nomatch h) q207 rfl (fun _ => rfl) (fun _ => rfl) (fun _ => rfl) (by decide) (by decide) (Nat.le_of_ble_eq_true rfl) (Nat.le_of_ble_eq_true rfl) (Nat.le_of_ble_eq_true rfl) dX12_init_109 dX12_init_111 (fun q_14 L_14 σ_14 φ_14 ρ_14 hn_14 hx_14 hw_14 hp_14 ha_14 hr_14 => ?_)
  have hw_14 : zT L_14 σ_14 w (.inr (12, [.ref q_1, .ref q_2, .ref q_3, .ref q_4, .int 0, .int 0, .int 0, .int 0, .int 0, .int 0, .int 0, .long (0), .int 0, .int 0, .int 0, .ref q_7, .ref q_8, .int 0, .int 0, .int 0, .int 0, .int 0, .ref q_9, .int 0, .int 0, .ref q_11, .ref q_12, .ref q_13, .ref q_14, .null, .int 0, .int 0, .null, .null, .null, .int 0, .int 0, .int 0, .int 0, .null, .int 0, .null, .null, .null, .null, .null, .null, .null, .null, .null, .null, .null, .null])) := hw_14
  refine x_aload_n hE dX12_init_114 rfl 0 rfl ?_
  refine x_bipush (v := 10) hE dX12_init_115 (by decide) ?_
  refine x_np (t0 := 0) (ty := .int) (fty := (.array .int)) (ty0 := tyX12) (N0 := 10) (x := (10, .inl (fun _ => 0))) (j0 := 29) hE hI hw_14 rfl inZX12 tyX12_ok nmX12 (by decide) q1423 rfl rfl rfl (by decide +kernel) (fun _ => ⟨rfl, rfl⟩) rfl (fun _ h => nomatch h) q207 rfl (fun _ => rfl) (fun _ => rfl) (fun _ => rfl) (by decide) (by decide) (Nat.le_of_ble_eq_true rfl) (Nat.le_of_ble_eq_true rfl) (Nat.le_of_ble_eq_true rfl) dX12_init_117 dX12_init_119 (fun q_15 L_15 σ_15 φ_15 ρ_15 hn_15 hx_15 hw_15 hp_15 ha_15 hr_15 => ?_)
  have hw_15 : zT L_15 σ_15 w (.inr (12, [.ref q_1, .ref q_2, .ref q_3, .ref q_4, .int 0, .int 0, .int 0, .int 0, .int 0, .int 0, .int 0, .long (0), .int 0, .int 0, .int 0, .ref q_7, .ref q_8, .int 0, .int 0, .int 0, .int 0, .int 0, .ref q_9, .int 0, .int 0, .ref q_11, .ref q_12, .ref q_13, .ref q_14, .ref q_15, .int 0, .int 0, .null, .null, .null, .int 0, .int 0, .int 0, .int 0, .null, .int 0, .null, .null, .null, .null, .null, .null, .null, .null, .null, .null, .null, .null])) := hw_15
  refine x_aload_n hE dX12_init_122 rfl 0 rfl ?_
  refine x_bipush (v := 10) hE dX12_init_123 (by decide) ?_
  refine x_np (t0 := 0) (ty := .int) (fty := (.array .int)) (ty0 := tyX12) (N0 := 10) (x := (10, .inl (fun _ => 0))) (j0 := 32) hE hI hw_15 rfl inZX12 tyX12_ok nmX12 (by decide) q1426 rfl rfl rfl (by decide +kernel) (fun _ => ⟨rfl, rfl⟩) rfl (fun _ h => nomatch h) q207 rfl (fun _ => rfl) (fun _ => rfl) (fun _ => rfl) (by decide) (by decide) (Nat.le_of_ble_eq_true rfl) (Nat.le_of_ble_eq_true rfl) (Nat.le_of_ble_eq_true rfl) dX12_init_125 dX12_init_127 (fun q_16 L_16 σ_16 φ_16 ρ_16 hn_16 hx_16 hw_16 hp_16 ha_16 hr_16 => ?_)
  have hw_16 : zT L_16 σ_16 w (.inr (12, [.ref q_1, .ref q_2, .ref q_3, .ref q_4, .int 0, .int 0, .int 0, .int 0, .int 0, .int 0, .int 0, .long (0), .int 0, .int 0, .int 0, .ref q_7, .ref q_8, .int 0, .int 0, .int 0, .int 0, .int 0, .ref q_9, .int 0, .int 0, .ref q_11, .ref q_12, .ref q_13, .ref q_14, .ref q_15, .int 0, .int 0, .ref q_16, .null, .null, .int 0, .int 0, .int 0, .int 0, .null, .int 0, .null, .null, .null, .null, .null, .null, .null, .null, .null, .null, .null, .null])) := hw_16
  refine x_aload_n hE dX12_init_130 rfl 0 rfl ?_
  refine x_sipush (v := 400) hE dX12_init_131 (by decide) ?_
  refine x_np (t0 := 1) (ty := .long) (fty := (.array .long)) (ty0 := tyX12) (N0 := 400) (x := (400, .inr (.inl (fun _ => 0)))) (j0 := 33) hE hI hw_16 rfl inZX12 tyX12_ok nmX12 (by decide) q1427 rfl rfl rfl (by decide +kernel) (fun _ => ⟨rfl, rfl⟩) rfl (fun _ h => nomatch h) q1295 rfl (fun _ => rfl) (fun _ => rfl) (fun _ => rfl) (by decide) (by decide) (Nat.le_of_ble_eq_true rfl) (Nat.le_of_ble_eq_true rfl) (Nat.le_of_ble_eq_true rfl) dX12_init_134 dX12_init_136 (fun q_17 L_17 σ_17 φ_17 ρ_17 hn_17 hx_17 hw_17 hp_17 ha_17 hr_17 => ?_)
  have hw_17 : zT L_17 σ_17 w (.inr (12, [.ref q_1, .ref q_2, .ref q_3, .ref q_4, .int 0, .int 0, .int 0, .int 0, .int 0, .int 0, .int 0, .long (0), .int 0, .int 0, .int 0, .ref q_7, .ref q_8, .int 0, .int 0, .int 0, .int 0, .int 0, .ref q_9, .int 0, .int 0, .ref q_11, .ref q_12, .ref q_13, .ref q_14, .ref q_15, .int 0, .int 0, .ref q_16, .ref q_17, .null, .int 0, .int 0, .int 0, .int 0, .null, .int 0, .null, .null, .null, .null, .null, .null, .null, .null, .null, .null, .null, .null])) := hw_17
  refine x_aload_n hE dX12_init_139 rfl 0 rfl ?_
  refine x_sipush (v := 400) hE dX12_init_140 (by decide) ?_
  refine x_np (t0 := 0) (ty := .int) (fty := (.array .int)) (ty0 := tyX12) (N0 := 400) (x := (400, .inl (fun _ => 0))) (j0 := 34) hE hI hw_17 rfl inZX12 tyX12_ok nmX12 (by decide) q1428 rfl rfl rfl (by decide +kernel) (fun _ => ⟨rfl, rfl⟩) rfl (fun _ h => nomatch h) q207 rfl (fun _ => rfl) (fun _ => rfl) (fun _ => rfl) (by decide) (by decide) (Nat.le_of_ble_eq_true rfl) (Nat.le_of_ble_eq_true rfl) (Nat.le_of_ble_eq_true rfl) dX12_init_143 dX12_init_145 (fun q_18 L_18 σ_18 φ_18 ρ_18 hn_18 hx_18 hw_18 hp_18 ha_18 hr_18 => ?_)
  have hw_18 : zT L_18 σ_18 w (.inr (12, [.ref q_1, .ref q_2, .ref q_3, .ref q_4, .int 0, .int 0, .int 0, .int 0, .int 0, .int 0, .int 0, .long (0), .int 0, .int 0, .int 0, .ref q_7, .ref q_8, .int 0, .int 0, .int 0, .int 0, .int 0, .ref q_9, .int 0, .int 0, .ref q_11, .ref q_12, .ref q_13, .ref q_14, .ref q_15, .int 0, .int 0, .ref q_16, .ref q_17, .ref q_18, .int 0, .int 0, .int 0, .int 0, .null, .int 0, .null, .null, .null, .null, .null, .null, .null, .null, .null, .null, .null, .null])) := hw_18
  refine x_aload_n hE dX12_init_148 rfl 0 rfl ?_
  refine x_iconst (v := -1) hE dX12_init_149 (by decide) ?_
  refine x_puti (ty := .int) (ty0 := tyX12) (j0 := 37) (v := -1) hE hw_18 rfl inZX12 tyX12_ok nmX12 (by decide) q1431 rfl rfl (by decide +kernel) rfl rfl dX12_init_150 (fun φ_19 hx_19 hp_19 => ?_)
  refine x_aload_n hE dX12_init_153 rfl 0 rfl ?_
  refine x_bipush (v := 8) hE dX12_init_154 (by decide) ?_
  refine x_np (t0 := 0) (ty := .int) (fty := (.array .int)) (ty0 := tyX12) (N0 := 8) (x := (8, .inl (fun _ => 0))) (j0 := 39) hE hI hw_18 rfl inZX12 tyX12_ok nmX12 (by decide) q1433 rfl rfl rfl (by decide +kernel) (fun _ => ⟨rfl, rfl⟩) rfl (fun _ h => nomatch h) q207 rfl (fun _ => rfl) (fun _ => rfl) (fun _ => rfl) (by decide) (by decide) (Nat.le_of_ble_eq_true rfl) (Nat.le_of_ble_eq_true rfl) (Nat.le_of_ble_eq_true rfl) dX12_init_156 dX12_init_158 (fun q_20 L_20 σ_20 φ_20 ρ_20 hn_20 hx_20 hw_20 hp_20 ha_20 hr_20 => ?_)
  have hw_20 : zT L_20 σ_20 w (.inr (12, [.ref q_1, .ref q_2, .ref q_3, .ref q_4, .int 0, .int 0, .int 0, .int 0, .int 0, .int 0, .int 0, .long (0), .int 0, .int 0, .int 0, .ref q_7, .ref q_8, .int 0, .int 0, .int 0, .int 0, .int 0, .ref q_9, .int 0, .int 0, .ref q_11, .ref q_12, .ref q_13, .ref q_14, .ref q_15, .int 0, .int 0, .ref q_16, .ref q_17, .ref q_18, .int 0, .int 0, .int 0, .int 0, .ref q_20, .int 0, .null, .null, .null, .null, .null, .null, .null, .null, .null, .null, .null, .null])) := hw_20
  refine x_aload_n hE dX12_init_161 rfl 0 rfl ?_
  refine x_bipush (v := 114) hE dX12_init_162 (by decide) ?_
  refine x_np (t0 := 0) (ty := .int) (fty := (.array .int)) (ty0 := tyX12) (N0 := 114) (x := (114, .inl (fun _ => 0))) (j0 := 41) hE hI hw_20 rfl inZX12 tyX12_ok nmX12 (by decide) q1435 rfl rfl rfl (by decide +kernel) (fun _ => ⟨rfl, rfl⟩) rfl (fun _ h => nomatch h) q207 rfl (fun _ => rfl) (fun _ => rfl) (fun _ => rfl) (by decide) (by decide) (Nat.le_of_ble_eq_true rfl) (Nat.le_of_ble_eq_true rfl) (Nat.le_of_ble_eq_true rfl) dX12_init_164 dX12_init_166 (fun q_21 L_21 σ_21 φ_21 ρ_21 hn_21 hx_21 hw_21 hp_21 ha_21 hr_21 => ?_)
  have hw_21 : zT L_21 σ_21 w (.inr (12, [.ref q_1, .ref q_2, .ref q_3, .ref q_4, .int 0, .int 0, .int 0, .int 0, .int 0, .int 0, .int 0, .long (0), .int 0, .int 0, .int 0, .ref q_7, .ref q_8, .int 0, .int 0, .int 0, .int 0, .int 0, .ref q_9, .int 0, .int 0, .ref q_11, .ref q_12, .ref q_13, .ref q_14, .ref q_15, .int 0, .int 0, .ref q_16, .ref q_17, .ref q_18, .int 0, .int 0, .int 0, .int 0, .ref q_20, .int 0, .ref q_21, .null, .null, .null, .null, .null, .null, .null, .null, .null, .null, .null])) := hw_21
  refine x_aload_n hE dX12_init_169 rfl 0 rfl ?_
  refine x_iconst (v := 5) hE dX12_init_170 (by decide) ?_
  refine x_np (t0 := 0) (ty := .int) (fty := (.array .int)) (ty0 := tyX12) (N0 := 5) (x := (5, .inl (fun _ => 0))) (j0 := 42) hE hI hw_21 rfl inZX12 tyX12_ok nmX12 (by decide) q1436 rfl rfl rfl (by decide +kernel) (fun _ => ⟨rfl, rfl⟩) rfl (fun _ h => nomatch h) q207 rfl (fun _ => rfl) (fun _ => rfl) (fun _ => rfl) (by decide) (by decide) (Nat.le_of_ble_eq_true rfl) (Nat.le_of_ble_eq_true rfl) (Nat.le_of_ble_eq_true rfl) dX12_init_171 dX12_init_173 (fun q_22 L_22 σ_22 φ_22 ρ_22 hn_22 hx_22 hw_22 hp_22 ha_22 hr_22 => ?_)
  have hw_22 : zT L_22 σ_22 w (.inr (12, [.ref q_1, .ref q_2, .ref q_3, .ref q_4, .int 0, .int 0, .int 0, .int 0, .int 0, .int 0, .int 0, .long (0), .int 0, .int 0, .int 0, .ref q_7, .ref q_8, .int 0, .int 0, .int 0, .int 0, .int 0, .ref q_9, .int 0, .int 0, .ref q_11, .ref q_12, .ref q_13, .ref q_14, .ref q_15, .int 0, .int 0, .ref q_16, .ref q_17, .ref q_18, .int 0, .int 0, .int 0, .int 0, .ref q_20, .int 0, .ref q_21, .ref q_22, .null, .null, .null, .null, .null, .null, .null, .null, .null, .null])) := hw_22
  refine x_aload_n hE dX12_init_176 rfl 0 rfl ?_
  refine x_bipush (v := 8) hE dX12_init_177 (by decide) ?_
  refine x_np (t0 := 0) (ty := .int) (fty := (.array .int)) (ty0 := tyX12) (N0 := 8) (x := (8, .inl (fun _ => 0))) (j0 := 43) hE hI hw_22 rfl inZX12 tyX12_ok nmX12 (by decide) q1437 rfl rfl rfl (by decide +kernel) (fun _ => ⟨rfl, rfl⟩) rfl (fun _ h => nomatch h) q207 rfl (fun _ => rfl) (fun _ => rfl) (fun _ => rfl) (by decide) (by decide) (Nat.le_of_ble_eq_true rfl) (Nat.le_of_ble_eq_true rfl) (Nat.le_of_ble_eq_true rfl) dX12_init_179 dX12_init_181 (fun q_23 L_23 σ_23 φ_23 ρ_23 hn_23 hx_23 hw_23 hp_23 ha_23 hr_23 => ?_)
  have hw_23 : zT L_23 σ_23 w (.inr (12, [.ref q_1, .ref q_2, .ref q_3, .ref q_4, .int 0, .int 0, .int 0, .int 0, .int 0, .int 0, .int 0, .long (0), .int 0, .int 0, .int 0, .ref q_7, .ref q_8, .int 0, .int 0, .int 0, .int 0, .int 0, .ref q_9, .int 0, .int 0, .ref q_11, .ref q_12, .ref q_13, .ref q_14, .ref q_15, .int 0, .int 0, .ref q_16, .ref q_17, .ref q_18, .int 0, .int 0, .int 0, .int 0, .ref q_20, .int 0, .ref q_21, .ref q_22, .ref q_23, .null, .null, .null, .null, .null, .null, .null, .null, .null])) := hw_23
  refine x_aload_n hE dX12_init_184 rfl 0 rfl ?_
  refine x_bipush (v := 6) hE dX12_init_185 (by decide) ?_
  refine x_np (t0 := 0) (ty := .int) (fty := (.array .int)) (ty0 := tyX12) (N0 := 6) (x := (6, .inl (fun _ => 0))) (j0 := 44) hE hI hw_23 rfl inZX12 tyX12_ok nmX12 (by decide) q1438 rfl rfl rfl (by decide +kernel) (fun _ => ⟨rfl, rfl⟩) rfl (fun _ h => nomatch h) q207 rfl (fun _ => rfl) (fun _ => rfl) (fun _ => rfl) (by decide) (by decide) (Nat.le_of_ble_eq_true rfl) (Nat.le_of_ble_eq_true rfl) (Nat.le_of_ble_eq_true rfl) dX12_init_187 dX12_init_189 (fun q_24 L_24 σ_24 φ_24 ρ_24 hn_24 hx_24 hw_24 hp_24 ha_24 hr_24 => ?_)
  have hw_24 : zT L_24 σ_24 w (.inr (12, [.ref q_1, .ref q_2, .ref q_3, .ref q_4, .int 0, .int 0, .int 0, .int 0, .int 0, .int 0, .int 0, .long (0), .int 0, .int 0, .int 0, .ref q_7, .ref q_8, .int 0, .int 0, .int 0, .int 0, .int 0, .ref q_9, .int 0, .int 0, .ref q_11, .ref q_12, .ref q_13, .ref q_14, .ref q_15, .int 0, .int 0, .ref q_16, .ref q_17, .ref q_18, .int 0, .int 0, .int 0, .int 0, .ref q_20, .int 0, .ref q_21, .ref q_22, .ref q_23, .ref q_24, .null, .null, .null, .null, .null, .null, .null, .null])) := hw_24
  refine x_aload_n hE dX12_init_192 rfl 0 rfl ?_
  refine x_bipush (v := 36) hE dX12_init_193 (by decide) ?_
  refine x_np (t0 := 0) (ty := .int) (fty := (.array .int)) (ty0 := tyX12) (N0 := 36) (x := (36, .inl (fun _ => 0))) (j0 := 45) hE hI hw_24 rfl inZX12 tyX12_ok nmX12 (by decide) q1439 rfl rfl rfl (by decide +kernel) (fun _ => ⟨rfl, rfl⟩) rfl (fun _ h => nomatch h) q207 rfl (fun _ => rfl) (fun _ => rfl) (fun _ => rfl) (by decide) (by decide) (Nat.le_of_ble_eq_true rfl) (Nat.le_of_ble_eq_true rfl) (Nat.le_of_ble_eq_true rfl) dX12_init_195 dX12_init_197 (fun q_25 L_25 σ_25 φ_25 ρ_25 hn_25 hx_25 hw_25 hp_25 ha_25 hr_25 => ?_)
  have hw_25 : zT L_25 σ_25 w (.inr (12, [.ref q_1, .ref q_2, .ref q_3, .ref q_4, .int 0, .int 0, .int 0, .int 0, .int 0, .int 0, .int 0, .long (0), .int 0, .int 0, .int 0, .ref q_7, .ref q_8, .int 0, .int 0, .int 0, .int 0, .int 0, .ref q_9, .int 0, .int 0, .ref q_11, .ref q_12, .ref q_13, .ref q_14, .ref q_15, .int 0, .int 0, .ref q_16, .ref q_17, .ref q_18, .int 0, .int 0, .int 0, .int 0, .ref q_20, .int 0, .ref q_21, .ref q_22, .ref q_23, .ref q_24, .ref q_25, .null, .null, .null, .null, .null, .null, .null])) := hw_25
  refine x_aload_n hE dX12_init_200 rfl 0 rfl ?_
  refine x_bipush (v := 6) hE dX12_init_201 (by decide) ?_
  refine x_np (t0 := 0) (ty := .int) (fty := (.array .int)) (ty0 := tyX12) (N0 := 6) (x := (6, .inl (fun _ => 0))) (j0 := 46) hE hI hw_25 rfl inZX12 tyX12_ok nmX12 (by decide) q1440 rfl rfl rfl (by decide +kernel) (fun _ => ⟨rfl, rfl⟩) rfl (fun _ h => nomatch h) q207 rfl (fun _ => rfl) (fun _ => rfl) (fun _ => rfl) (by decide) (by decide) (Nat.le_of_ble_eq_true rfl) (Nat.le_of_ble_eq_true rfl) (Nat.le_of_ble_eq_true rfl) dX12_init_203 dX12_init_205 (fun q_26 L_26 σ_26 φ_26 ρ_26 hn_26 hx_26 hw_26 hp_26 ha_26 hr_26 => ?_)
  have hw_26 : zT L_26 σ_26 w (.inr (12, [.ref q_1, .ref q_2, .ref q_3, .ref q_4, .int 0, .int 0, .int 0, .int 0, .int 0, .int 0, .int 0, .long (0), .int 0, .int 0, .int 0, .ref q_7, .ref q_8, .int 0, .int 0, .int 0, .int 0, .int 0, .ref q_9, .int 0, .int 0, .ref q_11, .ref q_12, .ref q_13, .ref q_14, .ref q_15, .int 0, .int 0, .ref q_16, .ref q_17, .ref q_18, .int 0, .int 0, .int 0, .int 0, .ref q_20, .int 0, .ref q_21, .ref q_22, .ref q_23, .ref q_24, .ref q_25, .ref q_26, .null, .null, .null, .null, .null, .null])) := hw_26
  refine x_aload_n hE dX12_init_208 rfl 0 rfl ?_
  refine x_bipush (v := 6) hE dX12_init_209 (by decide) ?_
  refine x_np (t0 := 0) (ty := .int) (fty := (.array .int)) (ty0 := tyX12) (N0 := 6) (x := (6, .inl (fun _ => 0))) (j0 := 47) hE hI hw_26 rfl inZX12 tyX12_ok nmX12 (by decide) q1441 rfl rfl rfl (by decide +kernel) (fun _ => ⟨rfl, rfl⟩) rfl (fun _ h => nomatch h) q207 rfl (fun _ => rfl) (fun _ => rfl) (fun _ => rfl) (by decide) (by decide) (Nat.le_of_ble_eq_true rfl) (Nat.le_of_ble_eq_true rfl) (Nat.le_of_ble_eq_true rfl) dX12_init_211 dX12_init_213 (fun q_27 L_27 σ_27 φ_27 ρ_27 hn_27 hx_27 hw_27 hp_27 ha_27 hr_27 => ?_)
  have hw_27 : zT L_27 σ_27 w (.inr (12, [.ref q_1, .ref q_2, .ref q_3, .ref q_4, .int 0, .int 0, .int 0, .int 0, .int 0, .int 0, .int 0, .long (0), .int 0, .int 0, .int 0, .ref q_7, .ref q_8, .int 0, .int 0, .int 0, .int 0, .int 0, .ref q_9, .int 0, .int 0, .ref q_11, .ref q_12, .ref q_13, .ref q_14, .ref q_15, .int 0, .int 0, .ref q_16, .ref q_17, .ref q_18, .int 0, .int 0, .int 0, .int 0, .ref q_20, .int 0, .ref q_21, .ref q_22, .ref q_23, .ref q_24, .ref q_25, .ref q_26, .ref q_27, .null, .null, .null, .null, .null])) := hw_27
  refine x_aload_n hE dX12_init_216 rfl 0 rfl ?_
  refine x_bipush (v := 8) hE dX12_init_217 (by decide) ?_
  refine x_np (t0 := 0) (ty := .int) (fty := (.array .int)) (ty0 := tyX12) (N0 := 8) (x := (8, .inl (fun _ => 0))) (j0 := 48) hE hI hw_27 rfl inZX12 tyX12_ok nmX12 (by decide) q1442 rfl rfl rfl (by decide +kernel) (fun _ => ⟨rfl, rfl⟩) rfl (fun _ h => nomatch h) q207 rfl (fun _ => rfl) (fun _ => rfl) (fun _ => rfl) (by decide) (by decide) (Nat.le_of_ble_eq_true rfl) (Nat.le_of_ble_eq_true rfl) (Nat.le_of_ble_eq_true rfl) dX12_init_219 dX12_init_221 (fun q_28 L_28 σ_28 φ_28 ρ_28 hn_28 hx_28 hw_28 hp_28 ha_28 hr_28 => ?_)
  have hw_28 : zT L_28 σ_28 w (.inr (12, [.ref q_1, .ref q_2, .ref q_3, .ref q_4, .int 0, .int 0, .int 0, .int 0, .int 0, .int 0, .int 0, .long (0), .int 0, .int 0, .int 0, .ref q_7, .ref q_8, .int 0, .int 0, .int 0, .int 0, .int 0, .ref q_9, .int 0, .int 0, .ref q_11, .ref q_12, .ref q_13, .ref q_14, .ref q_15, .int 0, .int 0, .ref q_16, .ref q_17, .ref q_18, .int 0, .int 0, .int 0, .int 0, .ref q_20, .int 0, .ref q_21, .ref q_22, .ref q_23, .ref q_24, .ref q_25, .ref q_26, .ref q_27, .ref q_28, .null, .null, .null, .null])) := hw_28
  refine x_aload_n hE dX12_init_224 rfl 0 rfl ?_
  refine x_bipush (v := 8) hE dX12_init_225 (by decide) ?_
  refine x_np (t0 := 0) (ty := .int) (fty := (.array .int)) (ty0 := tyX12) (N0 := 8) (x := (8, .inl (fun _ => 0))) (j0 := 49) hE hI hw_28 rfl inZX12 tyX12_ok nmX12 (by decide) q1443 rfl rfl rfl (by decide +kernel) (fun _ => ⟨rfl, rfl⟩) rfl (fun _ h => nomatch h) q207 rfl (fun _ => rfl) (fun _ => rfl) (fun _ => rfl) (by decide) (by decide) (Nat.le_of_ble_eq_true rfl) (Nat.le_of_ble_eq_true rfl) (Nat.le_of_ble_eq_true rfl) dX12_init_227 dX12_init_229 (fun q_29 L_29 σ_29 φ_29 ρ_29 hn_29 hx_29 hw_29 hp_29 ha_29 hr_29 => ?_)
  have hw_29 : zT L_29 σ_29 w (.inr (12, [.ref q_1, .ref q_2, .ref q_3, .ref q_4, .int 0, .int 0, .int 0, .int 0, .int 0, .int 0, .int 0, .long (0), .int 0, .int 0, .int 0, .ref q_7, .ref q_8, .int 0, .int 0, .int 0, .int 0, .int 0, .ref q_9, .int 0, .int 0, .ref q_11, .ref q_12, .ref q_13, .ref q_14, .ref q_15, .int 0, .int 0, .ref q_16, .ref q_17, .ref q_18, .int 0, .int 0, .int 0, .int 0, .ref q_20, .int 0, .ref q_21, .ref q_22, .ref q_23, .ref q_24, .ref q_25, .ref q_26, .ref q_27, .ref q_28, .ref q_29, .null, .null, .null])) := hw_29
  refine x_aload_n hE dX12_init_232 rfl 0 rfl ?_
  refine x_bipush (v := 6) hE dX12_init_233 (by decide) ?_
  refine x_np (t0 := 0) (ty := .int) (fty := (.array .int)) (ty0 := tyX12) (N0 := 6) (x := (6, .inl (fun _ => 0))) (j0 := 50) hE hI hw_29 rfl inZX12 tyX12_ok nmX12 (by decide) q1444 rfl rfl rfl (by decide +kernel) (fun _ => ⟨rfl, rfl⟩) rfl (fun _ h => nomatch h) q207 rfl (fun _ => rfl) (fun _ => rfl) (fun _ => rfl) (by decide) (by decide) (Nat.le_of_ble_eq_true rfl) (Nat.le_of_ble_eq_true rfl) (Nat.le_of_ble_eq_true rfl) dX12_init_235 dX12_init_237 (fun q_30 L_30 σ_30 φ_30 ρ_30 hn_30 hx_30 hw_30 hp_30 ha_30 hr_30 => ?_)
  have hw_30 : zT L_30 σ_30 w (.inr (12, [.ref q_1, .ref q_2, .ref q_3, .ref q_4, .int 0, .int 0, .int 0, .int 0, .int 0, .int 0, .int 0, .long (0), .int 0, .int 0, .int 0, .ref q_7, .ref q_8, .int 0, .int 0, .int 0, .int 0, .int 0, .ref q_9, .int 0, .int 0, .ref q_11, .ref q_12, .ref q_13, .ref q_14, .ref q_15, .int 0, .int 0, .ref q_16, .ref q_17, .ref q_18, .int 0, .int 0, .int 0, .int 0, .ref q_20, .int 0, .ref q_21, .ref q_22, .ref q_23, .ref q_24, .ref q_25, .ref q_26, .ref q_27, .ref q_28, .ref q_29, .ref q_30, .null, .null])) := hw_30
  refine x_aload_n hE dX12_init_240 rfl 0 rfl ?_
  refine x_bipush (v := 17) hE dX12_init_241 (by decide) ?_
  refine x_np (t0 := 1) (ty := .long) (fty := (.array .long)) (ty0 := tyX12) (N0 := 17) (x := (17, .inr (.inl (fun _ => 0)))) (j0 := 51) hE hI hw_30 rfl inZX12 tyX12_ok nmX12 (by decide) q1445 rfl rfl rfl (by decide +kernel) (fun _ => ⟨rfl, rfl⟩) rfl (fun _ h => nomatch h) q1295 rfl (fun _ => rfl) (fun _ => rfl) (fun _ => rfl) (by decide) (by decide) (Nat.le_of_ble_eq_true rfl) (Nat.le_of_ble_eq_true rfl) (Nat.le_of_ble_eq_true rfl) dX12_init_243 dX12_init_245 (fun q_31 L_31 σ_31 φ_31 ρ_31 hn_31 hx_31 hw_31 hp_31 ha_31 hr_31 => ?_)
  have hw_31 : zT L_31 σ_31 w (.inr (12, [.ref q_1, .ref q_2, .ref q_3, .ref q_4, .int 0, .int 0, .int 0, .int 0, .int 0, .int 0, .int 0, .long (0), .int 0, .int 0, .int 0, .ref q_7, .ref q_8, .int 0, .int 0, .int 0, .int 0, .int 0, .ref q_9, .int 0, .int 0, .ref q_11, .ref q_12, .ref q_13, .ref q_14, .ref q_15, .int 0, .int 0, .ref q_16, .ref q_17, .ref q_18, .int 0, .int 0, .int 0, .int 0, .ref q_20, .int 0, .ref q_21, .ref q_22, .ref q_23, .ref q_24, .ref q_25, .ref q_26, .ref q_27, .ref q_28, .ref q_29, .ref q_30, .ref q_31, .null])) := hw_31
  refine x_aload_n hE dX12_init_248 rfl 0 rfl ?_
  refine x_bipush (v := 6) hE dX12_init_249 (by decide) ?_
  refine x_np (t0 := 0) (ty := .int) (fty := (.array .int)) (ty0 := tyX12) (N0 := 6) (x := (6, .inl (fun _ => 0))) (j0 := 52) hE hI hw_31 rfl inZX12 tyX12_ok nmX12 (by decide) q1446 rfl rfl rfl (by decide +kernel) (fun _ => ⟨rfl, rfl⟩) rfl (fun _ h => nomatch h) q207 rfl (fun _ => rfl) (fun _ => rfl) (fun _ => rfl) (by decide) (by decide) (Nat.le_of_ble_eq_true rfl) (Nat.le_of_ble_eq_true rfl) (Nat.le_of_ble_eq_true rfl) dX12_init_251 dX12_init_253 (fun q_32 L_32 σ_32 φ_32 ρ_32 hn_32 hx_32 hw_32 hp_32 ha_32 hr_32 => ?_)
  have hw_32 : zT L_32 σ_32 w (.inr (12, [.ref q_1, .ref q_2, .ref q_3, .ref q_4, .int 0, .int 0, .int 0, .int 0, .int 0, .int 0, .int 0, .long (0), .int 0, .int 0, .int 0, .ref q_7, .ref q_8, .int 0, .int 0, .int 0, .int 0, .int 0, .ref q_9, .int 0, .int 0, .ref q_11, .ref q_12, .ref q_13, .ref q_14, .ref q_15, .int 0, .int 0, .ref q_16, .ref q_17, .ref q_18, .int 0, .int 0, .int 0, .int 0, .ref q_20, .int 0, .ref q_21, .ref q_22, .ref q_23, .ref q_24, .ref q_25, .ref q_26, .ref q_27, .ref q_28, .ref q_29, .ref q_30, .ref q_31, .ref q_32])) := hw_32
  have hX_32 := hx_32
  have hX_31 := hx_31.tr hX_32
  have hX_30 := hx_30.tr hX_31
  have hX_29 := hx_29.tr hX_30
  have hX_28 := hx_28.tr hX_29
  have hX_27 := hx_27.tr hX_28
  have hX_26 := hx_26.tr hX_27
  have hX_25 := hx_25.tr hX_26
  have hX_24 := hx_24.tr hX_25
  have hX_23 := hx_23.tr hX_24
  have hX_22 := hx_22.tr hX_23
  have hX_21 := hx_21.tr hX_22
  have hX_20 := hx_20.tr hX_21
  have hX_19 := hx_19.tr hX_20
  have hX_18 := hx_18.tr hX_19
  have hX_17 := hx_17.tr hX_18
  have hX_16 := hx_16.tr hX_17
  have hX_15 := hx_15.tr hX_16
  have hX_14 := hx_14.tr hX_15
  have hX_13 := hx_13.tr hX_14
  have hX_12 := hx_12.tr hX_13
  have hX_11 := hx_11.tr hX_12
  have hX_10 := hx_10.tr hX_11
  have hX_9 := hx_9.tr hX_10
  have hX_8 := hx_8.tr hX_9
  have hX_7 := hx_7.tr hX_8
  have hX_6 := hx_6.tr hX_7
  have hX_5 := hx_5.tr hX_6
  have hX_4 := hx_4.tr hX_5
  have hX_3 := hx_3.tr hX_4
  have hX_2 := hx_2.tr hX_3
  have hX_1 := hx_1.tr hX_2
  have hb_0 := (hX_2.T ha_1 (zT.ne ha_1 hw_1 (by simp)))
  have hb_1 := (hX_3.T ha_2 (zT.ne ha_2 hw_2 (by simp)))
  have hb_2 := (hX_4.T ha_3 (zT.ne ha_3 hw_3 (by simp)))
  have hb_3 := (hX_5.T ha_4 (zT.ne ha_4 hw_4 (by simp)))
  have hb_15 := (hX_8.T ha_7 (zT.ne ha_7 hw_7 (by simp)))
  have hb_16 := (hX_9.T ha_8 (zT.ne ha_8 hw_8 (by simp)))
  have hb_22 := (hX_10.T ha_9 (zT.ne ha_9 hw_9 (by simp)))
  have hb_25 := (hX_12.T ha_11 (zT.ne ha_11 hw_11 (by simp)))
  have hb_26 := (hX_13.T ha_12 (zT.ne ha_12 hw_12 (by simp)))
  have hb_27 := (hX_14.T ha_13 (zT.ne ha_13 hw_13 (by simp)))
  have hb_28 := (hX_15.T ha_14 (zT.ne ha_14 hw_14 (by simp)))
  have hb_29 := (hX_16.T ha_15 (zT.ne ha_15 hw_15 (by simp)))
  have hb_32 := (hX_17.T ha_16 (zT.ne ha_16 hw_16 (by simp)))
  have hb_33 := (hX_18.T ha_17 (zT.ne ha_17 hw_17 (by simp)))
  have hb_34 := (hX_19.T ha_18 (zT.ne ha_18 hw_18 (by simp)))
  have hb_39 := (hX_21.T ha_20 (zT.ne ha_20 hw_20 (by simp)))
  have hb_41 := (hX_22.T ha_21 (zT.ne ha_21 hw_21 (by simp)))
  have hb_42 := (hX_23.T ha_22 (zT.ne ha_22 hw_22 (by simp)))
  have hb_43 := (hX_24.T ha_23 (zT.ne ha_23 hw_23 (by simp)))
  have hb_44 := (hX_25.T ha_24 (zT.ne ha_24 hw_24 (by simp)))
  have hb_45 := (hX_26.T ha_25 (zT.ne ha_25 hw_25 (by simp)))
  have hb_46 := (hX_27.T ha_26 (zT.ne ha_26 hw_26 (by simp)))
  have hb_47 := (hX_28.T ha_27 (zT.ne ha_27 hw_27 (by simp)))
  have hb_48 := (hX_29.T ha_28 (zT.ne ha_28 hw_28 (by simp)))
  have hb_49 := (hX_30.T ha_29 (zT.ne ha_29 hw_29 (by simp)))
  have hb_50 := (hX_31.T ha_30 (zT.ne ha_30 hw_30 (by simp)))
  have hb_51 := (hX_32.T ha_31 (zT.ne ha_31 hw_31 (by simp)))
  have hb_52 := ha_32
  have hph : ∀ j, φ_32 12 j w = if j = 5 ∨ j = 6 ∨ j = 24 ∨ j = 37 then -1 else 0 := fun j => by rw [hp_32, hp_31, hp_30, hp_29, hp_28, hp_27, hp_26, hp_25, hp_24, hp_23, hp_22, hp_21, hp_20, hp_19, hp_18, hp_17, hp_16, hp_15, hp_14, hp_13, hp_12, hp_11, hp_10, hp_9, hp_8, hp_7, hp_6, hp_5, hp_4, hp_3, hp_2, hp_1, h0]; by_cases e1 : j = 5 <;> by_cases e2 : j = 6 <;> by_cases e3 : j = 24 <;> by_cases e4 : j = 37 <;> simp [e1, e2, e3, e4]
  have hne : q_1 ≠ q_2 := fun h => hn_2 (h ▸ ha_1.1)
  have hr0 : ρ_32 q_1 = fun _ => 0 := (hX_2.2 _ ha_1.1 (zT.ne ha_1 hw_1 (by simp))).2.2.trans hr_1
  have hq1 : q_1 ∉ L := hn_1
  have hq2 : q_2 ∉ L := fun h => hn_2 (hx_1.1 _ h)
  have loop : ∀ (f i : Nat) (ρ' : Nat → Nat → Int32), 9938 ≤ i → i ≤ 17938 → 17938 - i < f → (∀ x, x ≠ q_1 → ρ' x = ρ_32 x) → (∀ j, ρ' q_1 j = if 9938 ≤ j ∧ j < i then -1 else upd (upd (fun _ => 0) 6 37) 8 (-1) j) → zW E 28 40911 L_32 σ_32 φ_32 ρ' 277 [(1, .int (nI i)), (0, .ref w)] [] := by
    intro f
    induction f with
    | zero => intro i ρ' h1 h2; omega
    | succ f ih =>
      intro i ρ' hi0 hi hf h1 h2
      rcases Nat.lt_or_ge i 17938 with hlt | hge
      · refine x_iload_n hE dX12_init_277 rfl 0 rfl ?_
        refine x_sipush (v := 17938) hE dX12_init_278 (by decide) ?_
        refine x_icmp_ge (tgt := 297) hE dX12_init_281 (by decide) (fun c_281 => absurd c_281 (fun h => absurd ((nI_leI (a := 17938) (by omega) (by omega)).mp h) (by omega))) (fun c_281 => ?_)
        refine x_aload_n hE dX12_init_284 rfl 1 rfl ?_
        refine h_getr hE hw_32 rfl inZX12 0 (by decide) q1394 rfl dX12_init_285 ?_
        refine x_iload_n hE dX12_init_288 rfl 0 rfl ?_
        refine x_iconst (v := -1) hE dX12_init_289 (by decide) ?_
        refine h_iast hE hb_0 (vp_in_nI hlt (by omega)) dX12_init_290 ?_
        refine x_iinc (v := nI (i + 1)) (lv' := [(1, .int (nI (i + 1))), (0, .ref w)]) hE dX12_init_291 0 rfl (nI_1 i) (by decide) rfl ?_
        refine x_goto (tgt := 277) hE dX12_init_294 (by decide) ?_
        refine x_sub (lv' := [(1, .int (nI (i + 1))), (0, .ref w)]) (by simp) ?_
        rw [nI_clamp (show i < 2 ^ 31 by omega)]
        refine ih (i + 1) _ (by omega) (by omega) (by omega) (fun x hx => by rw [va_up_ne _ _ hx]; exact h1 x hx) (fun j => ?_)
        rw [va_up_self]
        by_cases e : j = i
        · rw [e, pk_us, if_pos ⟨by omega, by omega⟩]
        · rw [pk_un e, h2 j]; by_cases e2 : 9938 ≤ j ∧ j < i
          · rw [if_pos e2, if_pos ⟨by omega, by omega⟩]
          · rw [if_neg e2, if_neg (by omega)]
      · have hi2 : i = 17938 := by omega
        subst hi2
        refine x_iload_n hE dX12_init_277 rfl 0 rfl ?_
        refine x_sipush (v := 17938) hE dX12_init_278 (by decide) ?_
        refine x_icmp_ge (tgt := 297) hE dX12_init_281 (by decide) (fun c_281 => ?_) (fun c_281 => absurd ((nI_leI (a := 17938) (by omega) (by omega)).mpr (by omega)) c_281)
        refine x_aload_n hE dX12_init_297 rfl 1 rfl ?_
        refine h_getr hE hw_32 rfl inZX12 0 (by decide) q1394 rfl dX12_init_298 ?_
        refine x_aload_n hE dX12_init_301 rfl 1 rfl ?_
        refine h_getr hE hw_32 rfl inZX12 1 (by decide) q1395 rfl dX12_init_302 ?_
        refine c_vs hE (r_S (st := []) hE (m_copy l D cy L_32 σ_32 φ_32 ρ' hb_0 hb_1 hne) q1391 q1392 q124 q1393 ⟨by decide, by decide, pn_X12_copy⟩ ⟨Nat.le_of_ble_eq_true rfl, Nat.le_of_ble_eq_true rfl⟩ ⟨Nat.le_of_ble_eq_true rfl, Nat.le_of_ble_eq_true rfl⟩ rfl (Nat.le_of_ble_eq_true rfl) dX12_init_305) (fun φc ρc hc => ?_)
        refine x_widen (k' := 28) (n' := 40911) (Nat.le_of_ble_eq_true rfl) (Nat.le_of_ble_eq_true rfl) ?_
        obtain ⟨hc1, hc2, hc3⟩ := hc
        subst hc1
        refine hret _ _ _ _ _ _ _ _ (Nat.le_of_ble_eq_true rfl) (Nat.le_of_ble_eq_true rfl) dX12_init_308 (⟨⟨hX_1.1, fun b hb hw => ?_⟩, (fun j => ([q_1, q_2, q_3, q_4, 0, 0, 0, 0, 0, 0, 0, 0, 0, 0, 0, q_7, q_8, 0, 0, 0, 0, 0, q_9, 0, 0, q_11, q_12, q_13, q_14, q_15, 0, 0, q_16, q_17, q_18, 0, 0, 0, 0, q_20, 0, q_21, q_22, q_23, q_24, q_25, q_26, q_27, q_28, q_29, q_30, q_31, q_32] : List Nat).getD j 0), ⟨hw_32, hb_0, hb_1, hb_2, hb_3, hb_15, hb_16, hb_22, hb_25, hb_26, hb_27, hb_28, hb_29, hb_32, hb_33, hb_34, hb_39, hb_41, hb_42, hb_43, hb_44, hb_45, hb_46, hb_47, hb_48, hb_49, hb_50, hb_51, hb_52, hne⟩, hph, fun j hj => ?_, fun j hj => ?_⟩)
        · obtain ⟨x1, x2, x3⟩ := hX_1.2 b hb hw
          exact ⟨x1, x2, ((hc2 b (fun h => hq2 (h ▸ hb))).trans (h1 b (fun h => hq1 (h ▸ hb)))).trans x3⟩
        · show ρc q_1 j = za0 j
          rw [hc2 _ hne, h2]; rfl
        · show ρc q_2 j = za0 j
          rw [hc3 j hj, h2]; rfl
  refine x_aload_n hE dX12_init_256 rfl 0 rfl ?_
  refine h_getr hE hw_32 rfl inZX12 0 (by decide) q1394 rfl dX12_init_257 ?_
  refine x_bipush (v := 6) hE dX12_init_260 (by decide) ?_
  refine x_bipush (v := 37) hE dX12_init_262 (by decide) ?_
  refine h_iast hE hb_0 (by unfold vp_in; decide) dX12_init_264 ?_
  refine x_rho (fun ρ_264 hρ_264 => ?_)
  refine x_aload_n hE dX12_init_265 rfl 0 rfl ?_
  refine h_getr hE hw_32 rfl inZX12 0 (by decide) q1394 rfl dX12_init_266 ?_
  refine x_bipush (v := 8) hE dX12_init_269 (by decide) ?_
  refine x_iconst (v := -1) hE dX12_init_271 (by decide) ?_
  refine h_iast hE hb_0 (by unfold vp_in; decide) dX12_init_272 ?_
  refine x_rho (fun ρ_272 hρ_272 => ?_)
  refine x_sipush (v := 9938) hE dX12_init_273 (by decide) ?_
  refine x_istore_n (lv' := [(1, .int 9938), (0, .ref w)]) hE dX12_init_276 rfl (by decide) rfl ?_
  refine x_sub (lv' := [(1, .int (nI 9938)), (0, .ref w)]) (by simp; rfl) ?_
  exact loop 8001 9938 _ (by omega) (by omega) (by omega) (fun x hx => by rw [hρ_272, va_up_ne _ _ hx, hρ_264, va_up_ne _ _ hx]) (fun j => by rw [if_neg (by omega), hρ_272, va_up_self, hρ_264, va_up_self, hr0]; rfl)
