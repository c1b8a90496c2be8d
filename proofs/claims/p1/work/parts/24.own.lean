theorem dX10_copyFrom_0 : decode cX10_copyFrom 0 = .ok (.aload_n 1, 1) := by decide +kernel
theorem dX10_copyFrom_1 : decode cX10_copyFrom 1 = .ok (.getfield 9, 3) := by decide +kernel
theorem dX10_copyFrom_4 : decode cX10_copyFrom 4 = .ok (.iconst 0, 1) := by decide +kernel
theorem dX10_copyFrom_5 : decode cX10_copyFrom 5 = .ok (.aload_n 0, 1) := by decide +kernel
theorem dX10_copyFrom_6 : decode cX10_copyFrom 6 = .ok (.getfield 9, 3) := by decide +kernel
theorem dX10_copyFrom_9 : decode cX10_copyFrom 9 = .ok (.iconst 0, 1) := by decide +kernel
theorem dX10_copyFrom_10 : decode cX10_copyFrom 10 = .ok (.bipush 6, 2) := by decide +kernel
theorem dX10_copyFrom_12 : decode cX10_copyFrom 12 = .ok (.invokestatic 40, 3) := by decide +kernel
theorem dX10_copyFrom_15 : decode cX10_copyFrom 15 = .ok (.aload_n 1, 1) := by decide +kernel
theorem dX10_copyFrom_16 : decode cX10_copyFrom 16 = .ok (.getfield 15, 3) := by decide +kernel
theorem dX10_copyFrom_19 : decode cX10_copyFrom 19 = .ok (.iconst 0, 1) := by decide +kernel
theorem dX10_copyFrom_20 : decode cX10_copyFrom 20 = .ok (.aload_n 0, 1) := by decide +kernel
theorem dX10_copyFrom_21 : decode cX10_copyFrom 21 = .ok (.getfield 15, 3) := by decide +kernel
theorem dX10_copyFrom_24 : decode cX10_copyFrom 24 = .ok (.iconst 0, 1) := by decide +kernel
theorem dX10_copyFrom_25 : decode cX10_copyFrom 25 = .ok (.bipush 6, 2) := by decide +kernel
theorem dX10_copyFrom_27 : decode cX10_copyFrom 27 = .ok (.invokestatic 40, 3) := by decide +kernel
theorem dX10_copyFrom_30 : decode cX10_copyFrom 30 = .ok (.aload_n 1, 1) := by decide +kernel
theorem dX10_copyFrom_31 : decode cX10_copyFrom 31 = .ok (.getfield 18, 3) := by decide +kernel
theorem dX10_copyFrom_34 : decode cX10_copyFrom 34 = .ok (.iconst 0, 1) := by decide +kernel
theorem dX10_copyFrom_35 : decode cX10_copyFrom 35 = .ok (.aload_n 0, 1) := by decide +kernel
theorem dX10_copyFrom_36 : decode cX10_copyFrom 36 = .ok (.getfield 18, 3) := by decide +kernel
theorem dX10_copyFrom_39 : decode cX10_copyFrom 39 = .ok (.iconst 0, 1) := by decide +kernel
theorem dX10_copyFrom_40 : decode cX10_copyFrom 40 = .ok (.bipush 6, 2) := by decide +kernel
theorem dX10_copyFrom_42 : decode cX10_copyFrom 42 = .ok (.invokestatic 40, 3) := by decide +kernel
theorem dX10_copyFrom_45 : decode cX10_copyFrom 45 = .ok (.aload_n 1, 1) := by decide +kernel
theorem dX10_copyFrom_46 : decode cX10_copyFrom 46 = .ok (.getfield 21, 3) := by decide +kernel
theorem dX10_copyFrom_49 : decode cX10_copyFrom 49 = .ok (.iconst 0, 1) := by decide +kernel
theorem dX10_copyFrom_50 : decode cX10_copyFrom 50 = .ok (.aload_n 0, 1) := by decide +kernel
theorem dX10_copyFrom_51 : decode cX10_copyFrom 51 = .ok (.getfield 21, 3) := by decide +kernel
theorem dX10_copyFrom_54 : decode cX10_copyFrom 54 = .ok (.iconst 0, 1) := by decide +kernel
theorem dX10_copyFrom_55 : decode cX10_copyFrom 55 = .ok (.bipush 8, 2) := by decide +kernel
theorem dX10_copyFrom_57 : decode cX10_copyFrom 57 = .ok (.invokestatic 40, 3) := by decide +kernel
theorem dX10_copyFrom_60 : decode cX10_copyFrom 60 = .ok (.aload_n 1, 1) := by decide +kernel
theorem dX10_copyFrom_61 : decode cX10_copyFrom 61 = .ok (.getfield 24, 3) := by decide +kernel
theorem dX10_copyFrom_64 : decode cX10_copyFrom 64 = .ok (.iconst 0, 1) := by decide +kernel
theorem dX10_copyFrom_65 : decode cX10_copyFrom 65 = .ok (.aload_n 0, 1) := by decide +kernel
theorem dX10_copyFrom_66 : decode cX10_copyFrom 66 = .ok (.getfield 24, 3) := by decide +kernel
theorem dX10_copyFrom_69 : decode cX10_copyFrom 69 = .ok (.iconst 0, 1) := by decide +kernel
theorem dX10_copyFrom_70 : decode cX10_copyFrom 70 = .ok (.bipush 8, 2) := by decide +kernel
theorem dX10_copyFrom_72 : decode cX10_copyFrom 72 = .ok (.invokestatic 40, 3) := by decide +kernel
theorem dX10_copyFrom_75 : decode cX10_copyFrom 75 = .ok (.aload_n 1, 1) := by decide +kernel
theorem dX10_copyFrom_76 : decode cX10_copyFrom 76 = .ok (.getfield 27, 3) := by decide +kernel
theorem dX10_copyFrom_79 : decode cX10_copyFrom 79 = .ok (.iconst 0, 1) := by decide +kernel
theorem dX10_copyFrom_80 : decode cX10_copyFrom 80 = .ok (.aload_n 0, 1) := by decide +kernel
theorem dX10_copyFrom_81 : decode cX10_copyFrom 81 = .ok (.getfield 27, 3) := by decide +kernel
theorem dX10_copyFrom_84 : decode cX10_copyFrom 84 = .ok (.iconst 0, 1) := by decide +kernel
theorem dX10_copyFrom_85 : decode cX10_copyFrom 85 = .ok (.bipush 8, 2) := by decide +kernel
theorem dX10_copyFrom_87 : decode cX10_copyFrom 87 = .ok (.invokestatic 40, 3) := by decide +kernel
theorem dX10_copyFrom_90 : decode cX10_copyFrom 90 = .ok (.aload_n 0, 1) := by decide +kernel
theorem dX10_copyFrom_91 : decode cX10_copyFrom 91 = .ok (.aload_n 1, 1) := by decide +kernel
theorem dX10_copyFrom_92 : decode cX10_copyFrom 92 = .ok (.getfield 46, 3) := by decide +kernel
theorem dX10_copyFrom_95 : decode cX10_copyFrom 95 = .ok (.putfield 46, 3) := by decide +kernel
theorem dX10_copyFrom_98 : decode cX10_copyFrom 98 = .ok (.aload_n 0, 1) := by decide +kernel
theorem dX10_copyFrom_99 : decode cX10_copyFrom 99 = .ok (.aload_n 1, 1) := by decide +kernel
theorem dX10_copyFrom_100 : decode cX10_copyFrom 100 = .ok (.getfield 49, 3) := by decide +kernel
theorem dX10_copyFrom_103 : decode cX10_copyFrom 103 = .ok (.putfield 49, 3) := by decide +kernel
theorem dX10_copyFrom_106 : decode cX10_copyFrom 106 = .ok (.aload_n 0, 1) := by decide +kernel
theorem dX10_copyFrom_107 : decode cX10_copyFrom 107 = .ok (.aload_n 1, 1) := by decide +kernel
theorem dX10_copyFrom_108 : decode cX10_copyFrom 108 = .ok (.getfield 52, 3) := by decide +kernel
theorem dX10_copyFrom_111 : decode cX10_copyFrom 111 = .ok (.putfield 52, 3) := by decide +kernel
theorem dX10_copyFrom_114 : decode cX10_copyFrom 114 = .ok (.aload_n 0, 1) := by decide +kernel
theorem dX10_copyFrom_115 : decode cX10_copyFrom 115 = .ok (.aload_n 1, 1) := by decide +kernel
theorem dX10_copyFrom_116 : decode cX10_copyFrom 116 = .ok (.getfield 55, 3) := by decide +kernel
theorem dX10_copyFrom_119 : decode cX10_copyFrom 119 = .ok (.putfield 55, 3) := by decide +kernel
theorem dX10_copyFrom_122 : decode cX10_copyFrom 122 = .ok (.aload_n 0, 1) := by decide +kernel
theorem dX10_copyFrom_123 : decode cX10_copyFrom 123 = .ok (.aload_n 1, 1) := by decide +kernel
theorem dX10_copyFrom_124 : decode cX10_copyFrom 124 = .ok (.getfield 30, 3) := by decide +kernel
theorem dX10_copyFrom_127 : decode cX10_copyFrom 127 = .ok (.putfield 30, 3) := by decide +kernel
theorem dX10_copyFrom_130 : decode cX10_copyFrom 130 = .ok (.aload_n 0, 1) := by decide +kernel
theorem dX10_copyFrom_131 : decode cX10_copyFrom 131 = .ok (.aload_n 1, 1) := by decide +kernel
theorem dX10_copyFrom_132 : decode cX10_copyFrom 132 = .ok (.getfield 58, 3) := by decide +kernel
theorem dX10_copyFrom_135 : decode cX10_copyFrom 135 = .ok (.putfield 58, 3) := by decide +kernel
theorem dX10_copyFrom_138 : decode cX10_copyFrom 138 = .ok (.aload_n 0, 1) := by decide +kernel
theorem dX10_copyFrom_139 : decode cX10_copyFrom 139 = .ok (.aload_n 1, 1) := by decide +kernel
theorem dX10_copyFrom_140 : decode cX10_copyFrom 140 = .ok (.getfield 61, 3) := by decide +kernel
theorem dX10_copyFrom_143 : decode cX10_copyFrom 143 = .ok (.putfield 61, 3) := by decide +kernel
theorem dX10_copyFrom_146 : decode cX10_copyFrom 146 = .ok (.aload_n 1, 1) := by decide +kernel
theorem dX10_copyFrom_147 : decode cX10_copyFrom 147 = .ok (.getfield 34, 3) := by decide +kernel
theorem dX10_copyFrom_150 : decode cX10_copyFrom 150 = .ok (.iconst 0, 1) := by decide +kernel
theorem dX10_copyFrom_151 : decode cX10_copyFrom 151 = .ok (.aload_n 0, 1) := by decide +kernel
theorem dX10_copyFrom_152 : decode cX10_copyFrom 152 = .ok (.getfield 34, 3) := by decide +kernel
theorem dX10_copyFrom_155 : decode cX10_copyFrom 155 = .ok (.iconst 0, 1) := by decide +kernel
theorem dX10_copyFrom_156 : decode cX10_copyFrom 156 = .ok (.bipush 40, 2) := by decide +kernel
theorem dX10_copyFrom_158 : decode cX10_copyFrom 158 = .ok (.invokestatic 40, 3) := by decide +kernel
theorem dX10_copyFrom_161 : decode cX10_copyFrom 161 = .ok (.aload_n 1, 1) := by decide +kernel
theorem dX10_copyFrom_162 : decode cX10_copyFrom 162 = .ok (.getfield 37, 3) := by decide +kernel
theorem dX10_copyFrom_165 : decode cX10_copyFrom 165 = .ok (.iconst 0, 1) := by decide +kernel
theorem dX10_copyFrom_166 : decode cX10_copyFrom 166 = .ok (.aload_n 0, 1) := by decide +kernel
theorem dX10_copyFrom_167 : decode cX10_copyFrom 167 = .ok (.getfield 37, 3) := by decide +kernel
theorem dX10_copyFrom_170 : decode cX10_copyFrom 170 = .ok (.iconst 0, 1) := by decide +kernel
theorem dX10_copyFrom_171 : decode cX10_copyFrom 171 = .ok (.bipush 20, 2) := by decide +kernel
theorem dX10_copyFrom_173 : decode cX10_copyFrom 173 = .ok (.invokestatic 40, 3) := by decide +kernel
theorem dX10_copyFrom_176 : decode cX10_copyFrom 176 = .ok (.return_, 1) := by decide +kernel
theorem dX10_writeWhere_0 : decode cX10_writeWhere 0 = .ok (.iconst 0, 1) := by decide +kernel
theorem dX10_writeWhere_1 : decode cX10_writeWhere 1 = .ok (.istore_n 2, 1) := by decide +kernel
theorem dX10_writeWhere_2 : decode cX10_writeWhere 2 = .ok (.iconst 0, 1) := by decide +kernel
theorem dX10_writeWhere_3 : decode cX10_writeWhere 3 = .ok (.istore_n 3, 1) := by decide +kernel
theorem dX10_writeWhere_4 : decode cX10_writeWhere 4 = .ok (.iload_n 3, 1) := by decide +kernel
theorem dX10_writeWhere_5 : decode cX10_writeWhere 5 = .ok (.bipush 8, 2) := by decide +kernel
theorem dX10_writeWhere_7 : decode cX10_writeWhere 7 = .ok (.if_icmp .ge 32, 3) := by decide +kernel
theorem dX10_writeWhere_10 : decode cX10_writeWhere 10 = .ok (.iload_n 2, 1) := by decide +kernel
theorem dX10_writeWhere_11 : decode cX10_writeWhere 11 = .ok (.iload_n 3, 1) := by decide +kernel
theorem dX10_writeWhere_12 : decode cX10_writeWhere 12 = .ok (.iload_n 1, 1) := by decide +kernel
theorem dX10_writeWhere_13 : decode cX10_writeWhere 13 = .ok (.if_icmp .ge 12, 3) := by decide +kernel
theorem dX10_writeWhere_25 : decode cX10_writeWhere 25 = .ok (.bipush 7, 2) := by decide +kernel
theorem dX10_writeWhere_27 : decode cX10_writeWhere 27 = .ok (.iconst 3, 1) := by decide +kernel
theorem dX10_writeWhere_28 : decode cX10_writeWhere 28 = .ok (.iload_n 3, 1) := by decide +kernel
theorem dX10_writeWhere_29 : decode cX10_writeWhere 29 = .ok (.imul, 1) := by decide +kernel
theorem dX10_writeWhere_30 : decode cX10_writeWhere 30 = .ok (.ishl, 1) := by decide +kernel
theorem dX10_writeWhere_31 : decode cX10_writeWhere 31 = .ok (.ior, 1) := by decide +kernel
theorem dX10_writeWhere_32 : decode cX10_writeWhere 32 = .ok (.istore_n 2, 1) := by decide +kernel
theorem dX10_writeWhere_33 : decode cX10_writeWhere 33 = .ok (.iinc 3 1, 3) := by decide +kernel
theorem dX10_writeWhere_36 : decode cX10_writeWhere 36 = .ok (.goto (-32), 3) := by decide +kernel
theorem dX10_writeWhere_39 : decode cX10_writeWhere 39 = .ok (.aload_n 0, 1) := by decide +kernel
theorem dX10_writeWhere_40 : decode cX10_writeWhere 40 = .ok (.getfield 37, 3) := by decide +kernel
theorem dX10_writeWhere_43 : decode cX10_writeWhere 43 = .ok (.aload_n 0, 1) := by decide +kernel
theorem dX10_writeWhere_44 : decode cX10_writeWhere 44 = .ok (.getfield 55, 3) := by decide +kernel
theorem dX10_writeWhere_47 : decode cX10_writeWhere 47 = .ok (.bipush 20, 2) := by decide +kernel
theorem dX10_writeWhere_49 : decode cX10_writeWhere 49 = .ok (.irem, 1) := by decide +kernel
theorem dX10_writeWhere_50 : decode cX10_writeWhere 50 = .ok (.iload_n 2, 1) := by decide +kernel
theorem dX10_writeWhere_51 : decode cX10_writeWhere 51 = .ok (.iastore, 1) := by decide +kernel
theorem dX10_writeWhere_52 : decode cX10_writeWhere 52 = .ok (.return_, 1) := by decide +kernel
theorem dX4_keepStep_0 : decode cX4_keepStep 0 = .ok (.aload_n 0, 1) := by decide +kernel
theorem dX4_keepStep_1 : decode cX4_keepStep 1 = .ok (.getfield 28, 3) := by decide +kernel
theorem dX4_keepStep_4 : decode cX4_keepStep 4 = .ok (.aload_n 0, 1) := by decide +kernel
theorem dX4_keepStep_5 : decode cX4_keepStep 5 = .ok (.getfield 21, 3) := by decide +kernel
theorem dX4_keepStep_8 : decode cX4_keepStep 8 = .ok (.aload_n 0, 1) := by decide +kernel
theorem dX4_keepStep_9 : decode cX4_keepStep 9 = .ok (.getfield 12, 3) := by decide +kernel
theorem dX4_keepStep_12 : decode cX4_keepStep 12 = .ok (.getfield 80, 3) := by decide +kernel
theorem dX4_keepStep_15 : decode cX4_keepStep 15 = .ok (.invokevirtual 83, 3) := by decide +kernel
theorem dX4_keepStep_18 : decode cX4_keepStep 18 = .ok (.return_, 1) := by decide +kernel
theorem dX5_keep_0 : decode cX5_keep 0 = .ok (.aload_n 0, 1) := by decide +kernel
theorem dX5_keep_1 : decode cX5_keep 1 = .ok (.getfield 11, 3) := by decide +kernel
theorem dX5_keep_4 : decode cX5_keep 4 = .ok (.aload_n 0, 1) := by decide +kernel
theorem dX5_keep_5 : decode cX5_keep 5 = .ok (.getfield 22, 3) := by decide +kernel
theorem dX5_keep_8 : decode cX5_keep 8 = .ok (.aaload, 1) := by decide +kernel
theorem dX5_keep_9 : decode cX5_keep 9 = .ok (.aload_n 1, 1) := by decide +kernel
theorem dX5_keep_10 : decode cX5_keep 10 = .ok (.invokevirtual 26, 3) := by decide +kernel
theorem dX5_keep_13 : decode cX5_keep 13 = .ok (.aload_n 0, 1) := by decide +kernel
theorem dX5_keep_14 : decode cX5_keep 14 = .ok (.getfield 17, 3) := by decide +kernel
theorem dX5_keep_17 : decode cX5_keep 17 = .ok (.aload_n 0, 1) := by decide +kernel
theorem dX5_keep_18 : decode cX5_keep 18 = .ok (.getfield 22, 3) := by decide +kernel
theorem dX5_keep_21 : decode cX5_keep 21 = .ok (.iload_n 2, 1) := by decide +kernel
theorem dX5_keep_22 : decode cX5_keep 22 = .ok (.iastore, 1) := by decide +kernel
theorem dX5_keep_23 : decode cX5_keep 23 = .ok (.aload_n 0, 1) := by decide +kernel
theorem dX5_keep_24 : decode cX5_keep 24 = .ok (.aload_n 0, 1) := by decide +kernel
theorem dX5_keep_25 : decode cX5_keep 25 = .ok (.getfield 22, 3) := by decide +kernel
theorem dX5_keep_28 : decode cX5_keep 28 = .ok (.iconst 1, 1) := by decide +kernel
theorem dX5_keep_29 : decode cX5_keep 29 = .ok (.iadd, 1) := by decide +kernel
theorem dX5_keep_30 : decode cX5_keep 30 = .ok (.bipush 30, 2) := by decide +kernel
theorem dX5_keep_32 : decode cX5_keep 32 = .ok (.irem, 1) := by decide +kernel
theorem dX5_keep_33 : decode cX5_keep 33 = .ok (.putfield 22, 3) := by decide +kernel
theorem dX5_keep_36 : decode cX5_keep 36 = .ok (.aload_n 0, 1) := by decide +kernel
theorem dX5_keep_37 : decode cX5_keep 37 = .ok (.aload_n 0, 1) := by decide +kernel
theorem dX5_keep_38 : decode cX5_keep 38 = .ok (.getfield 30, 3) := by decide +kernel
theorem dX5_keep_41 : decode cX5_keep 41 = .ok (.iconst 1, 1) := by decide +kernel
theorem dX5_keep_42 : decode cX5_keep 42 = .ok (.iadd, 1) := by decide +kernel
theorem dX5_keep_43 : decode cX5_keep 43 = .ok (.bipush 30, 2) := by decide +kernel
theorem dX5_keep_45 : decode cX5_keep 45 = .ok (.invokestatic 33, 3) := by decide +kernel
theorem dX5_keep_48 : decode cX5_keep 48 = .ok (.putfield 30, 3) := by decide +kernel
theorem dX5_keep_51 : decode cX5_keep 51 = .ok (.return_, 1) := by decide +kernel
theorem dX9_pass_0 : decode cX9_pass 0 = .ok (.aload_n 0, 1) := by decide +kernel
theorem dX9_pass_1 : decode cX9_pass 1 = .ok (.getfield 28, 3) := by decide +kernel
theorem dX9_pass_4 : decode cX9_pass 4 = .ok (.getfield 32, 3) := by decide +kernel
theorem dX9_pass_7 : decode cX9_pass 7 = .ok (.astore_n 2, 1) := by decide +kernel
theorem dX9_pass_8 : decode cX9_pass 8 = .ok (.iconst 0, 1) := by decide +kernel
theorem dX9_pass_9 : decode cX9_pass 9 = .ok (.istore_n 3, 1) := by decide +kernel
theorem dX9_pass_10 : decode cX9_pass 10 = .ok (.iload_n 3, 1) := by decide +kernel
theorem dX9_pass_11 : decode cX9_pass 11 = .ok (.aload_n 2, 1) := by decide +kernel
theorem dX9_pass_12 : decode cX9_pass 12 = .ok (.getfield 38, 3) := by decide +kernel
theorem dX9_pass_15 : decode cX9_pass 15 = .ok (.if_icmp .ge 51, 3) := by decide +kernel
theorem dX9_pass_66 : decode cX9_pass 66 = .ok (.aload_n 0, 1) := by decide +kernel
theorem dX9_pass_67 : decode cX9_pass 67 = .ok (.iconst 0, 1) := by decide +kernel
theorem dX9_pass_68 : decode cX9_pass 68 = .ok (.putfield 55, 3) := by decide +kernel
theorem dX9_pass_71 : decode cX9_pass 71 = .ok (.iconst 0, 1) := by decide +kernel
theorem dX9_pass_72 : decode cX9_pass 72 = .ok (.istore_n 3, 1) := by decide +kernel
theorem dX9_pass_73 : decode cX9_pass 73 = .ok (.iload_n 3, 1) := by decide +kernel
theorem dX9_pass_74 : decode cX9_pass 74 = .ok (.aload_n 2, 1) := by decide +kernel
theorem dX9_pass_75 : decode cX9_pass 75 = .ok (.getfield 38, 3) := by decide +kernel
theorem dX9_pass_78 : decode cX9_pass 78 = .ok (.if_icmp .ge 42, 3) := by decide +kernel
theorem dX9_pass_120 : decode cX9_pass 120 = .ok (.iconst 0, 1) := by decide +kernel
theorem dX9_pass_121 : decode cX9_pass 121 = .ok (.istore_n 3, 1) := by decide +kernel
theorem dX9_pass_122 : decode cX9_pass 122 = .ok (.iload_n 3, 1) := by decide +kernel
theorem dX9_pass_123 : decode cX9_pass 123 = .ok (.aload_n 2, 1) := by decide +kernel
theorem dX9_pass_124 : decode cX9_pass 124 = .ok (.getfield 65, 3) := by decide +kernel
theorem dX9_pass_127 : decode cX9_pass 127 = .ok (.if_icmp .ge 27, 3) := by decide +kernel
theorem dX9_pass_154 : decode cX9_pass 154 = .ok (.aload_n 1, 1) := by decide +kernel
theorem dX9_pass_155 : decode cX9_pass 155 = .ok (.aload_n 2, 1) := by decide +kernel
theorem dX9_pass_156 : decode cX9_pass 156 = .ok (.getfield 38, 3) := by decide +kernel
theorem dX9_pass_159 : decode cX9_pass 159 = .ok (.invokevirtual 72, 3) := by decide +kernel
theorem dX9_pass_162 : decode cX9_pass 162 = .ok (.aload_n 1, 1) := by decide +kernel
theorem dX9_pass_163 : decode cX9_pass 163 = .ok (.dup, 1) := by decide +kernel
theorem dX9_pass_164 : decode cX9_pass 164 = .ok (.getfield 76, 3) := by decide +kernel
theorem dX9_pass_167 : decode cX9_pass 167 = .ok (.iconst 1, 1) := by decide +kernel
theorem dX9_pass_168 : decode cX9_pass 168 = .ok (.iadd, 1) := by decide +kernel
theorem dX9_pass_169 : decode cX9_pass 169 = .ok (.putfield 76, 3) := by decide +kernel
theorem dX9_pass_172 : decode cX9_pass 172 = .ok (.aload_n 0, 1) := by decide +kernel
theorem dX9_pass_173 : decode cX9_pass 173 = .ok (.getfield 55, 3) := by decide +kernel
theorem dX9_pass_176 : decode cX9_pass 176 = .ok (.invokestatic 79, 3) := by decide +kernel
theorem dX9_pass_179 : decode cX9_pass 179 = .ok (.ireturn, 1) := by decide +kernel
set_option maxHeartbeats 4000000 in
set_option maxRecDepth 100000 in
theorem k_copyWorld (l : Launch) (D : va_G) (cy : Nat → ClassId) (L : List Nat) (σ : Nat → va_E) (φ : Nat → Nat → Nat → Int32) (ρ : Nat → Nat → Int32) {w v : Nat} (hw : zWorld cy L σ w) (hv : zWorld cy L σ v) : zMV l D cy yX10_copyFrom cX10_copyFrom 2 (zrm 1 0 0) [.ref w, .ref v] L σ φ ρ (zsv L σ (fun φ' ρ' => (∀ c i b, c ≠ 10 ∨ b ≠ w → φ' c i b = φ c i b) ∧ ∀ i, 6 ≤ i → i ≤ 12 → φ' 10 i w = φ 10 i v)) := by
  refine zMV.mk (by decide) (Nat.le_of_ble_eq_true rfl) (fun E hE hI hret => ?_)
  show zW E 0 0 L σ φ ρ 0 [(0, .ref w), (1, .ref v)] []
  obtain ⟨p0, p1, p2, p3, p4, p5, p6, p7, hp, hp0, hp1, hp2, hp3, hp4, hp5, hp6, hp7⟩ := id hw
  obtain ⟨q0, q1, q2, q3, q4, q5, q6, q7, hq, hq0, hq1, hq2, hq3, hq4, hq5, hq6, hq7⟩ := id hv
  refine x_aload_n hE dX10_copyFrom_0 rfl 1 rfl ?_
  refine h_getr hE hq rfl inZX10 0 (by decide) q214 rfl dX10_copyFrom_1 ?_
  refine x_iconst (v := 0) hE dX10_copyFrom_4 (by decide) ?_
  refine x_aload_n hE dX10_copyFrom_5 rfl 0 rfl ?_
  refine h_getr hE hp rfl inZX10 0 (by decide) q214 rfl dX10_copyFrom_6 ?_
  refine x_iconst (v := 0) hE dX10_copyFrom_9 (by decide) ?_
  refine x_bipush (v := 6) hE dX10_copyFrom_10 (by decide) ?_
  refine h_copy hE q958 q960 q959 q132 hq0 hp0 (by decide) (by decide) (by decide) (by decide) (by decide) (Nat.le_of_ble_eq_true rfl) (Nat.le_of_ble_eq_true rfl) dX10_copyFrom_12 ?_
  refine x_rho (fun ρ_12 hρ_12 => ?_)
  refine x_aload_n hE dX10_copyFrom_15 rfl 1 rfl ?_
  refine h_getr hE hq rfl inZX10 1 (by decide) q218 rfl dX10_copyFrom_16 ?_
  refine x_iconst (v := 0) hE dX10_copyFrom_19 (by decide) ?_
  refine x_aload_n hE dX10_copyFrom_20 rfl 0 rfl ?_
  refine h_getr hE hp rfl inZX10 1 (by decide) q218 rfl dX10_copyFrom_21 ?_
  refine x_iconst (v := 0) hE dX10_copyFrom_24 (by decide) ?_
  refine x_bipush (v := 6) hE dX10_copyFrom_25 (by decide) ?_
  refine h_copy hE q958 q960 q959 q132 hq1 hp1 (by decide) (by decide) (by decide) (by decide) (by decide) (Nat.le_of_ble_eq_true rfl) (Nat.le_of_ble_eq_true rfl) dX10_copyFrom_27 ?_
  refine x_rho (fun ρ_27 hρ_27 => ?_)
  refine x_aload_n hE dX10_copyFrom_30 rfl 1 rfl ?_
  refine h_getr hE hq rfl inZX10 2 (by decide) q222 rfl dX10_copyFrom_31 ?_
  refine x_iconst (v := 0) hE dX10_copyFrom_34 (by decide) ?_
  refine x_aload_n hE dX10_copyFrom_35 rfl 0 rfl ?_
  refine h_getr hE hp rfl inZX10 2 (by decide) q222 rfl dX10_copyFrom_36 ?_
  refine x_iconst (v := 0) hE dX10_copyFrom_39 (by decide) ?_
  refine x_bipush (v := 6) hE dX10_copyFrom_40 (by decide) ?_
  refine h_copy hE q958 q960 q959 q132 hq2 hp2 (by decide) (by decide) (by decide) (by decide) (by decide) (Nat.le_of_ble_eq_true rfl) (Nat.le_of_ble_eq_true rfl) dX10_copyFrom_42 ?_
  refine x_rho (fun ρ_42 hρ_42 => ?_)
  refine x_aload_n hE dX10_copyFrom_45 rfl 1 rfl ?_
  refine h_getr hE hq rfl inZX10 3 (by decide) q225 rfl dX10_copyFrom_46 ?_
  refine x_iconst (v := 0) hE dX10_copyFrom_49 (by decide) ?_
  refine x_aload_n hE dX10_copyFrom_50 rfl 0 rfl ?_
  refine h_getr hE hp rfl inZX10 3 (by decide) q225 rfl dX10_copyFrom_51 ?_
  refine x_iconst (v := 0) hE dX10_copyFrom_54 (by decide) ?_
  refine x_bipush (v := 8) hE dX10_copyFrom_55 (by decide) ?_
  refine h_copy hE q958 q960 q959 q132 hq3 hp3 (by decide) (by decide) (by decide) (by decide) (by decide) (Nat.le_of_ble_eq_true rfl) (Nat.le_of_ble_eq_true rfl) dX10_copyFrom_57 ?_
  refine x_rho (fun ρ_57 hρ_57 => ?_)
  refine x_aload_n hE dX10_copyFrom_60 rfl 1 rfl ?_
  refine h_getr hE hq rfl inZX10 4 (by decide) q229 rfl dX10_copyFrom_61 ?_
  refine x_iconst (v := 0) hE dX10_copyFrom_64 (by decide) ?_
  refine x_aload_n hE dX10_copyFrom_65 rfl 0 rfl ?_
  refine h_getr hE hp rfl inZX10 4 (by decide) q229 rfl dX10_copyFrom_66 ?_
  refine x_iconst (v := 0) hE dX10_copyFrom_69 (by decide) ?_
  refine x_bipush (v := 8) hE dX10_copyFrom_70 (by decide) ?_
  refine h_copy hE q958 q960 q959 q132 hq4 hp4 (by decide) (by decide) (by decide) (by decide) (by decide) (Nat.le_of_ble_eq_true rfl) (Nat.le_of_ble_eq_true rfl) dX10_copyFrom_72 ?_
  refine x_rho (fun ρ_72 hρ_72 => ?_)
  refine x_aload_n hE dX10_copyFrom_75 rfl 1 rfl ?_
  refine h_getr hE hq rfl inZX10 5 (by decide) q233 rfl dX10_copyFrom_76 ?_
  refine x_iconst (v := 0) hE dX10_copyFrom_79 (by decide) ?_
  refine x_aload_n hE dX10_copyFrom_80 rfl 0 rfl ?_
  refine h_getr hE hp rfl inZX10 5 (by decide) q233 rfl dX10_copyFrom_81 ?_
  refine x_iconst (v := 0) hE dX10_copyFrom_84 (by decide) ?_
  refine x_bipush (v := 8) hE dX10_copyFrom_85 (by decide) ?_
  refine h_copy hE q958 q960 q959 q132 hq5 hp5 (by decide) (by decide) (by decide) (by decide) (by decide) (Nat.le_of_ble_eq_true rfl) (Nat.le_of_ble_eq_true rfl) dX10_copyFrom_87 ?_
  refine x_rho (fun ρ_87 hρ_87 => ?_)
  refine x_aload_n hE dX10_copyFrom_90 rfl 0 rfl ?_
  refine x_aload_n hE dX10_copyFrom_91 rfl 1 rfl ?_
  refine h_geti hE hq rfl inZX10 6 (by decide) q238 rfl dX10_copyFrom_92 ?_
  refine h_puti (ty := .int) (ty0 := tyX10) hE hp rfl inZX10 tyX10_ok nmX10 6 (by decide) q238 rfl rfl (by decide +kernel) rfl rfl dX10_copyFrom_95 ?_
  refine x_aload_n hE dX10_copyFrom_98 rfl 0 rfl ?_
  refine x_aload_n hE dX10_copyFrom_99 rfl 1 rfl ?_
  refine h_geti hE hq rfl inZX10 7 (by decide) q242 rfl dX10_copyFrom_100 ?_
  refine x_norm (y := φ 10 7 v) (by simp [zup]) ?_
  refine h_puti (ty := .int) (ty0 := tyX10) hE hp rfl inZX10 tyX10_ok nmX10 7 (by decide) q242 rfl rfl (by decide +kernel) rfl rfl dX10_copyFrom_103 ?_
  refine x_aload_n hE dX10_copyFrom_106 rfl 0 rfl ?_
  refine x_aload_n hE dX10_copyFrom_107 rfl 1 rfl ?_
  refine h_geti hE hq rfl inZX10 8 (by decide) q244 rfl dX10_copyFrom_108 ?_
  refine x_norm (y := φ 10 8 v) (by simp [zup]) ?_
  refine h_puti (ty := .int) (ty0 := tyX10) hE hp rfl inZX10 tyX10_ok nmX10 8 (by decide) q244 rfl rfl (by decide +kernel) rfl rfl dX10_copyFrom_111 ?_
  refine x_aload_n hE dX10_copyFrom_114 rfl 0 rfl ?_
  refine x_aload_n hE dX10_copyFrom_115 rfl 1 rfl ?_
  refine h_geti hE hq rfl inZX10 9 (by decide) q247 rfl dX10_copyFrom_116 ?_
  refine x_norm (y := φ 10 9 v) (by simp [zup]) ?_
  refine h_puti (ty := .int) (ty0 := tyX10) hE hp rfl inZX10 tyX10_ok nmX10 9 (by decide) q247 rfl rfl (by decide +kernel) rfl rfl dX10_copyFrom_119 ?_
  refine x_aload_n hE dX10_copyFrom_122 rfl 0 rfl ?_
  refine x_aload_n hE dX10_copyFrom_123 rfl 1 rfl ?_
  refine h_geti hE hq rfl inZX10 10 (by decide) q250 rfl dX10_copyFrom_124 ?_
  refine x_norm (y := φ 10 10 v) (by simp [zup]) ?_
  refine h_puti (ty := .int) (ty0 := tyX10) hE hp rfl inZX10 tyX10_ok nmX10 10 (by decide) q250 rfl rfl (by decide +kernel) rfl rfl dX10_copyFrom_127 ?_
  refine x_aload_n hE dX10_copyFrom_130 rfl 0 rfl ?_
  refine x_aload_n hE dX10_copyFrom_131 rfl 1 rfl ?_
  refine h_geti hE hq rfl inZX10 11 (by decide) q252 rfl dX10_copyFrom_132 ?_
  refine x_norm (y := φ 10 11 v) (by simp [zup]) ?_
  refine h_puti (ty := .int) (ty0 := tyX10) hE hp rfl inZX10 tyX10_ok nmX10 11 (by decide) q252 rfl rfl (by decide +kernel) rfl rfl dX10_copyFrom_135 ?_
  refine x_aload_n hE dX10_copyFrom_138 rfl 0 rfl ?_
  refine x_aload_n hE dX10_copyFrom_139 rfl 1 rfl ?_
  refine h_geti hE hq rfl inZX10 12 (by decide) q254 rfl dX10_copyFrom_140 ?_
  refine x_norm (y := φ 10 12 v) (by simp [zup]) ?_
  refine h_puti (ty := .int) (ty0 := tyX10) hE hp rfl inZX10 tyX10_ok nmX10 12 (by decide) q254 rfl rfl (by decide +kernel) rfl rfl dX10_copyFrom_143 ?_
  refine x_aload_n hE dX10_copyFrom_146 rfl 1 rfl ?_
  refine h_getr hE hq rfl inZX10 13 (by decide) q255 rfl dX10_copyFrom_147 ?_
  refine x_iconst (v := 0) hE dX10_copyFrom_150 (by decide) ?_
  refine x_aload_n hE dX10_copyFrom_151 rfl 0 rfl ?_
  refine h_getr hE hp rfl inZX10 13 (by decide) q255 rfl dX10_copyFrom_152 ?_
  refine x_iconst (v := 0) hE dX10_copyFrom_155 (by decide) ?_
  refine x_bipush (v := 40) hE dX10_copyFrom_156 (by decide) ?_
  refine h_copy hE q958 q960 q959 q132 hq6 hp6 (by decide) (by decide) (by decide) (by decide) (by decide) (Nat.le_of_ble_eq_true rfl) (Nat.le_of_ble_eq_true rfl) dX10_copyFrom_158 ?_
  refine x_rho (fun ρ_158 hρ_158 => ?_)
  refine x_aload_n hE dX10_copyFrom_161 rfl 1 rfl ?_
  refine h_getr hE hq rfl inZX10 14 (by decide) q256 rfl dX10_copyFrom_162 ?_
  refine x_iconst (v := 0) hE dX10_copyFrom_165 (by decide) ?_
  refine x_aload_n hE dX10_copyFrom_166 rfl 0 rfl ?_
  refine h_getr hE hp rfl inZX10 14 (by decide) q256 rfl dX10_copyFrom_167 ?_
  refine x_iconst (v := 0) hE dX10_copyFrom_170 (by decide) ?_
  refine x_bipush (v := 20) hE dX10_copyFrom_171 (by decide) ?_
  refine h_copy hE q958 q960 q959 q132 hq7 hp7 (by decide) (by decide) (by decide) (by decide) (by decide) (Nat.le_of_ble_eq_true rfl) (Nat.le_of_ble_eq_true rfl) dX10_copyFrom_173 ?_
  refine x_rho (fun ρ_173 hρ_173 => ?_)
  exact hret _ _ _ _ _ _ _ _ (Nat.le_of_ble_eq_true rfl) (Nat.le_of_ble_eq_true rfl) dX10_copyFrom_176 (⟨rfl, rfl, fun c i b h => by rcases h with h | h <;> simp [zup, h], fun i h1 h2 => by rcases (show i = 6 ∨ i = 7 ∨ i = 8 ∨ i = 9 ∨ i = 10 ∨ i = 11 ∨ i = 12 by omega) with rfl | rfl | rfl | rfl | rfl | rfl | rfl <;> simp [zup]⟩)
set_option maxHeartbeats 4000000 in
set_option maxRecDepth 100000 in
theorem k_writeWhere (l : Launch) (D : va_G) (cy : Nat → ClassId) (L : List Nat) (σ : Nat → va_E) (φ : Nat → Nat → Nat → Int32) (ρ : Nat → Nat → Int32) {w : Nat} (h : Nat) (hw : zWorld cy L σ w) (hh : φ 10 9 w = nI h) (hlt : h < 2000) : zMV l D cy yX10_writeWhere cX10_writeWhere 4 (zrm 0 0 0) [.ref w, .int 0] L σ φ ρ (zsv L σ (fun φ' _ => φ' = φ)) := by
  refine zMV.mk (by decide) (Nat.le_of_ble_eq_true rfl) (fun E hE hI hret => ?_)
  show zW E 0 0 L σ φ ρ 0 [(0, .ref w), (1, .int 0)] []
  obtain ⟨p0, p1, p2, p3, p4, p5, p6, p7, hp, hp0, hp1, hp2, hp3, hp4, hp5, hp6, hp7⟩ := id hw
  refine x_iconst (v := 0) hE dX10_writeWhere_0 (by decide) ?_
  refine x_istore_n (lv' := [(2, .int 0), (0, .ref w), (1, .int 0)]) hE dX10_writeWhere_1 rfl (by decide) rfl ?_
  refine x_iconst (v := 0) hE dX10_writeWhere_2 (by decide) ?_
  refine x_istore_n (lv' := [(3, .int 0), (2, .int 0), (0, .ref w), (1, .int 0)]) hE dX10_writeWhere_3 rfl (by decide) rfl ?_
  refine x_iload_n hE dX10_writeWhere_4 rfl 0 rfl ?_
  refine x_bipush (v := 8) hE dX10_writeWhere_5 (by decide) ?_
  refine x_icmp_ge (tgt := 39) hE dX10_writeWhere_7 (by decide) (fun c_7 => absurd c_7 (by decide)) (fun c_7 => ?_)
  refine x_iload_n hE dX10_writeWhere_10 rfl 1 rfl ?_
  refine x_iload_n hE dX10_writeWhere_11 rfl 0 rfl ?_
  refine x_iload_n hE dX10_writeWhere_12 rfl 3 rfl ?_
  refine x_icmp_ge (tgt := 25) hE dX10_writeWhere_13 (by decide) (fun c_13 => ?_) (fun c_13 => absurd (by decide) c_13)
  refine x_bipush (v := 7) hE dX10_writeWhere_25 (by decide) ?_
  refine x_iconst (v := 3) hE dX10_writeWhere_27 (by decide) ?_
  refine x_iload_n hE dX10_writeWhere_28 rfl 0 rfl ?_
  refine x_imul hE dX10_writeWhere_29 ?_
  refine x_norm (y := 0) (by decide) ?_
  refine x_ishl hE dX10_writeWhere_30 ?_
  refine x_norm (y := 7) (by decide) ?_
  refine x_ior hE dX10_writeWhere_31 ?_
  refine x_norm (y := 7) (by decide) ?_
  refine x_istore_n (lv' := [(2, .int 7), (3, .int 0), (0, .ref w), (1, .int 0)]) hE dX10_writeWhere_32 rfl (by decide) rfl ?_
  refine x_iinc (v := 1) (lv' := [(3, .int 1), (2, .int 7), (0, .ref w), (1, .int 0)]) hE dX10_writeWhere_33 1 rfl (by decide) (by decide) rfl ?_
  refine x_goto (tgt := 4) hE dX10_writeWhere_36 (by decide) ?_
  refine x_iload_n hE dX10_writeWhere_4 rfl 0 rfl ?_
  refine x_bipush (v := 8) hE dX10_writeWhere_5 (by decide) ?_
  refine x_icmp_ge (tgt := 39) hE dX10_writeWhere_7 (by decide) (fun c_7 => absurd c_7 (by decide)) (fun c_7 => ?_)
  refine x_iload_n hE dX10_writeWhere_10 rfl 1 rfl ?_
  refine x_iload_n hE dX10_writeWhere_11 rfl 0 rfl ?_
  refine x_iload_n hE dX10_writeWhere_12 rfl 3 rfl ?_
  refine x_icmp_ge (tgt := 25) hE dX10_writeWhere_13 (by decide) (fun c_13 => ?_) (fun c_13 => absurd (by decide) c_13)
  refine x_bipush (v := 7) hE dX10_writeWhere_25 (by decide) ?_
  refine x_iconst (v := 3) hE dX10_writeWhere_27 (by decide) ?_
  refine x_iload_n hE dX10_writeWhere_28 rfl 0 rfl ?_
  refine x_imul hE dX10_writeWhere_29 ?_
  refine x_norm (y := 3) (by decide) ?_
  refine x_ishl hE dX10_writeWhere_30 ?_
  refine x_norm (y := 56) (by decide) ?_
  refine x_ior hE dX10_writeWhere_31 ?_
  refine x_norm (y := 63) (by decide) ?_
  refine x_istore_n (lv' := [(2, .int 63), (3, .int 1), (0, .ref w), (1, .int 0)]) hE dX10_writeWhere_32 rfl (by decide) rfl ?_
  refine x_iinc (v := 2) (lv' := [(3, .int 2), (2, .int 63), (0, .ref w), (1, .int 0)]) hE dX10_writeWhere_33 1 rfl (by decide) (by decide) rfl ?_
  refine x_goto (tgt := 4) hE dX10_writeWhere_36 (by decide) ?_
  refine x_iload_n hE dX10_writeWhere_4 rfl 0 rfl ?_
  refine x_bipush (v := 8) hE dX10_writeWhere_5 (by decide) ?_
  refine x_icmp_ge (tgt := 39) hE dX10_writeWhere_7 (by decide) (fun c_7 => absurd c_7 (by decide)) (fun c_7 => ?_)
  refine x_iload_n hE dX10_writeWhere_10 rfl 1 rfl ?_
  refine x_iload_n hE dX10_writeWhere_11 rfl 0 rfl ?_
  refine x_iload_n hE dX10_writeWhere_12 rfl 3 rfl ?_
  refine x_icmp_ge (tgt := 25) hE dX10_writeWhere_13 (by decide) (fun c_13 => ?_) (fun c_13 => absurd (by decide) c_13)
  refine x_bipush (v := 7) hE dX10_writeWhere_25 (by decide) ?_
  refine x_iconst (v := 3) hE dX10_writeWhere_27 (by decide) ?_
  refine x_iload_n hE dX10_writeWhere_28 rfl 0 rfl ?_
  refine x_imul hE dX10_writeWhere_29 ?_
  refine x_norm (y := 6) (by decide) ?_
  refine x_ishl hE dX10_writeWhere_30 ?_
  refine x_norm (y := 448) (by decide) ?_
  refine x_ior hE dX10_writeWhere_31 ?_
  refine x_norm (y := 511) (by decide) ?_
  refine x_istore_n (lv' := [(2, .int 511), (3, .int 2), (0, .ref w), (1, .int 0)]) hE dX10_writeWhere_32 rfl (by decide) rfl ?_
  refine x_iinc (v := 3) (lv' := [(3, .int 3), (2, .int 511), (0, .ref w), (1, .int 0)]) hE dX10_writeWhere_33 1 rfl (by decide) (by decide) rfl ?_
  refine x_goto (tgt := 4) hE dX10_writeWhere_36 (by decide) ?_
  refine x_iload_n hE dX10_writeWhere_4 rfl 0 rfl ?_
  refine x_bipush (v := 8) hE dX10_writeWhere_5 (by decide) ?_
  refine x_icmp_ge (tgt := 39) hE dX10_writeWhere_7 (by decide) (fun c_7 => absurd c_7 (by decide)) (fun c_7 => ?_)
  refine x_iload_n hE dX10_writeWhere_10 rfl 1 rfl ?_
  refine x_iload_n hE dX10_writeWhere_11 rfl 0 rfl ?_
  refine x_iload_n hE dX10_writeWhere_12 rfl 3 rfl ?_
  refine x_icmp_ge (tgt := 25) hE dX10_writeWhere_13 (by decide) (fun c_13 => ?_) (fun c_13 => absurd (by decide) c_13)
  refine x_bipush (v := 7) hE dX10_writeWhere_25 (by decide) ?_
  refine x_iconst (v := 3) hE dX10_writeWhere_27 (by decide) ?_
  refine x_iload_n hE dX10_writeWhere_28 rfl 0 rfl ?_
  refine x_imul hE dX10_writeWhere_29 ?_
  refine x_norm (y := 9) (by decide) ?_
  refine x_ishl hE dX10_writeWhere_30 ?_
  refine x_norm (y := 3584) (by decide) ?_
  refine x_ior hE dX10_writeWhere_31 ?_
  refine x_norm (y := 4095) (by decide) ?_
  refine x_istore_n (lv' := [(2, .int 4095), (3, .int 3), (0, .ref w), (1, .int 0)]) hE dX10_writeWhere_32 rfl (by decide) rfl ?_
  refine x_iinc (v := 4) (lv' := [(3, .int 4), (2, .int 4095), (0, .ref w), (1, .int 0)]) hE dX10_writeWhere_33 1 rfl (by decide) (by decide) rfl ?_
  refine x_goto (tgt := 4) hE dX10_writeWhere_36 (by decide) ?_
  refine x_iload_n hE dX10_writeWhere_4 rfl 0 rfl ?_
  refine x_bipush (v := 8) hE dX10_writeWhere_5 (by decide) ?_
  refine x_icmp_ge (tgt := 39) hE dX10_writeWhere_7 (by decide) (fun c_7 => absurd c_7 (by decide)) (fun c_7 => ?_)
  refine x_iload_n hE dX10_writeWhere_10 rfl 1 rfl ?_
  refine x_iload_n hE dX10_writeWhere_11 rfl 0 rfl ?_
  refine x_iload_n hE dX10_writeWhere_12 rfl 3 rfl ?_
  refine x_icmp_ge (tgt := 25) hE dX10_writeWhere_13 (by decide) (fun c_13 => ?_) (fun c_13 => absurd (by decide) c_13)
  refine x_bipush (v := 7) hE dX10_writeWhere_25 (by decide) ?_
  refine x_iconst (v := 3) hE dX10_writeWhere_27 (by decide) ?_
  refine x_iload_n hE dX10_writeWhere_28 rfl 0 rfl ?_
  refine x_imul hE dX10_writeWhere_29 ?_
  refine x_norm (y := 12) (by decide) ?_
  refine x_ishl hE dX10_writeWhere_30 ?_
  refine x_norm (y := 28672) (by decide) ?_
  refine x_ior hE dX10_writeWhere_31 ?_
  refine x_norm (y := 32767) (by decide) ?_
  refine x_istore_n (lv' := [(2, .int 32767), (3, .int 4), (0, .ref w), (1, .int 0)]) hE dX10_writeWhere_32 rfl (by decide) rfl ?_
  refine x_iinc (v := 5) (lv' := [(3, .int 5), (2, .int 32767), (0, .ref w), (1, .int 0)]) hE dX10_writeWhere_33 1 rfl (by decide) (by decide) rfl ?_
  refine x_goto (tgt := 4) hE dX10_writeWhere_36 (by decide) ?_
  refine x_iload_n hE dX10_writeWhere_4 rfl 0 rfl ?_
  refine x_bipush (v := 8) hE dX10_writeWhere_5 (by decide) ?_
  refine x_icmp_ge (tgt := 39) hE dX10_writeWhere_7 (by decide) (fun c_7 => absurd c_7 (by decide)) (fun c_7 => ?_)
  refine x_iload_n hE dX10_writeWhere_10 rfl 1 rfl ?_
  refine x_iload_n hE dX10_writeWhere_11 rfl 0 rfl ?_
  refine x_iload_n hE dX10_writeWhere_12 rfl 3 rfl ?_
  refine x_icmp_ge (tgt := 25) hE dX10_writeWhere_13 (by decide) (fun c_13 => ?_) (fun c_13 => absurd (by decide) c_13)
  refine x_bipush (v := 7) hE dX10_writeWhere_25 (by decide) ?_
  refine x_iconst (v := 3) hE dX10_writeWhere_27 (by decide) ?_
  refine x_iload_n hE dX10_writeWhere_28 rfl 0 rfl ?_
  refine x_imul hE dX10_writeWhere_29 ?_
  refine x_norm (y := 15) (by decide) ?_
  refine x_ishl hE dX10_writeWhere_30 ?_
  refine x_norm (y := 229376) (by decide) ?_
  refine x_ior hE dX10_writeWhere_31 ?_
  refine x_norm (y := 262143) (by decide) ?_
  refine x_istore_n (lv' := [(2, .int 262143), (3, .int 5), (0, .ref w), (1, .int 0)]) hE dX10_writeWhere_32 rfl (by decide) rfl ?_
  refine x_iinc (v := 6) (lv' := [(3, .int 6), (2, .int 262143), (0, .ref w), (1, .int 0)]) hE dX10_writeWhere_33 1 rfl (by decide) (by decide) rfl ?_
  refine x_goto (tgt := 4) hE dX10_writeWhere_36 (by decide) ?_
  refine x_iload_n hE dX10_writeWhere_4 rfl 0 rfl ?_
  refine x_bipush (v := 8) hE dX10_writeWhere_5 (by decide) ?_
  refine x_icmp_ge (tgt := 39) hE dX10_writeWhere_7 (by decide) (fun c_7 => absurd c_7 (by decide)) (fun c_7 => ?_)
  refine x_iload_n hE dX10_writeWhere_10 rfl 1 rfl ?_
  refine x_iload_n hE dX10_writeWhere_11 rfl 0 rfl ?_
  refine x_iload_n hE dX10_writeWhere_12 rfl 3 rfl ?_
  refine x_icmp_ge (tgt := 25) hE dX10_writeWhere_13 (by decide) (fun c_13 => ?_) (fun c_13 => absurd (by decide) c_13)
  refine x_bipush (v := 7) hE dX10_writeWhere_25 (by decide) ?_
  refine x_iconst (v := 3) hE dX10_writeWhere_27 (by decide) ?_
  refine x_iload_n hE dX10_writeWhere_28 rfl 0 rfl ?_
  refine x_imul hE dX10_writeWhere_29 ?_
  refine x_norm (y := 18) (by decide) ?_
  refine x_ishl hE dX10_writeWhere_30 ?_
  refine x_norm (y := 1835008) (by decide) ?_
  refine x_ior hE dX10_writeWhere_31 ?_
  refine x_norm (y := 2097151) (by decide) ?_
  refine x_istore_n (lv' := [(2, .int 2097151), (3, .int 6), (0, .ref w), (1, .int 0)]) hE dX10_writeWhere_32 rfl (by decide) rfl ?_
  refine x_iinc (v := 7) (lv' := [(3, .int 7), (2, .int 2097151), (0, .ref w), (1, .int 0)]) hE dX10_writeWhere_33 1 rfl (by decide) (by decide) rfl ?_
  refine x_goto (tgt := 4) hE dX10_writeWhere_36 (by decide) ?_
  refine x_iload_n hE dX10_writeWhere_4 rfl 0 rfl ?_
  refine x_bipush (v := 8) hE dX10_writeWhere_5 (by decide) ?_
  refine x_icmp_ge (tgt := 39) hE dX10_writeWhere_7 (by decide) (fun c_7 => absurd c_7 (by decide)) (fun c_7 => ?_)
  refine x_iload_n hE dX10_writeWhere_10 rfl 1 rfl ?_
  refine x_iload_n hE dX10_writeWhere_11 rfl 0 rfl ?_
  refine x_iload_n hE dX10_writeWhere_12 rfl 3 rfl ?_
  refine x_icmp_ge (tgt := 25) hE dX10_writeWhere_13 (by decide) (fun c_13 => ?_) (fun c_13 => absurd (by decide) c_13)
  refine x_bipush (v := 7) hE dX10_writeWhere_25 (by decide) ?_
  refine x_iconst (v := 3) hE dX10_writeWhere_27 (by decide) ?_
  refine x_iload_n hE dX10_writeWhere_28 rfl 0 rfl ?_
  refine x_imul hE dX10_writeWhere_29 ?_
  refine x_norm (y := 21) (by decide) ?_
  refine x_ishl hE dX10_writeWhere_30 ?_
  refine x_norm (y := 14680064) (by decide) ?_
  refine x_ior hE dX10_writeWhere_31 ?_
  refine x_norm (y := 16777215) (by decide) ?_
  refine x_istore_n (lv' := [(2, .int 16777215), (3, .int 7), (0, .ref w), (1, .int 0)]) hE dX10_writeWhere_32 rfl (by decide) rfl ?_
  refine x_iinc (v := 8) (lv' := [(3, .int 8), (2, .int 16777215), (0, .ref w), (1, .int 0)]) hE dX10_writeWhere_33 1 rfl (by decide) (by decide) rfl ?_
  refine x_goto (tgt := 4) hE dX10_writeWhere_36 (by decide) ?_
  refine x_iload_n hE dX10_writeWhere_4 rfl 0 rfl ?_
  refine x_bipush (v := 8) hE dX10_writeWhere_5 (by decide) ?_
  refine x_icmp_ge (tgt := 39) hE dX10_writeWhere_7 (by decide) (fun c_7 => ?_) (fun c_7 => absurd (by decide) c_7)
  refine x_aload_n hE dX10_writeWhere_39 rfl 2 rfl ?_
  refine h_getr hE hp rfl inZX10 14 (by decide) q256 rfl dX10_writeWhere_40 ?_
  refine x_aload_n hE dX10_writeWhere_43 rfl 2 rfl ?_
  refine h_geti hE hp rfl inZX10 9 (by decide) q247 rfl dX10_writeWhere_44 ?_
  refine x_norm (y := nI h) (hh) ?_
  refine x_bipush (v := 20) hE dX10_writeWhere_47 (by decide) ?_
  refine x_irem hE dX10_writeWhere_49 (by decide) ?_
  refine x_norm (y := nI (h % 20)) (pk_rem (d := 20) (by omega) (by omega) (by omega)) ?_
  refine x_iload_n hE dX10_writeWhere_50 rfl 1 rfl ?_
  refine h_iast hE hp7 (vp_in_nI (Nat.mod_lt _ (by omega)) (by omega)) dX10_writeWhere_51 ?_
  exact hret _ _ _ _ _ _ _ _ (Nat.le_of_ble_eq_true rfl) (Nat.le_of_ble_eq_true rfl) dX10_writeWhere_52 (⟨rfl, rfl, rfl⟩)
set_option maxHeartbeats 4000000 in
set_option maxRecDepth 100000 in
theorem k_keep (l : Launch) (D : va_G) (cy : Nat → ClassId) (L : List Nat) (σ : Nat → va_E) (φ : Nat → Nat → Nat → Int32) (ρ : Nat → Nat → Int32) {sp wo : Nat} {g : Nat → Option Nat} (x : Nat) (t : Int32) (hs : zSteps cy L σ sp g) (hw : zWorld cy L σ wo) (hx : φ 5 1 sp = nI x) (hlt : x < 30) : zMV l D cy yX5_keep cX5_keep 3 (zrm 2 0 0) [.ref sp, .ref wo, .int t] L σ φ ρ (zsv L σ (fun φ' ρ' => (∀ c i b, c ≠ 10 → c ≠ 5 → φ' c i b = φ c i b) ∧ (∀ i, 6 ≤ i → i ≤ 12 → φ' 10 i wo = φ 10 i wo) ∧ ∃ m, m < 30 ∧ φ' 5 1 sp = nI m)) := by
  refine zMV.mk (by decide) (Nat.le_of_ble_eq_true rfl) (fun E hE hI hret => ?_)
  show zW E 0 0 L σ φ ρ 0 [(0, .ref sp), (1, .ref wo), (2, .int t)] []
  obtain ⟨s0, s1, hS, hS0, hS1, hSW⟩ := id hs
  obtain ⟨y, hy1, hy⟩ := hSW x hlt
  obtain ⟨SY, hyT⟩ := hy.at
  refine x_aload_n hE dX5_keep_0 rfl 0 rfl ?_
  refine h_getr hE hS rfl inZX5 2 (by decide) q301 rfl dX5_keep_1 ?_
  refine x_aload_n hE dX5_keep_4 rfl 0 rfl ?_
  refine h_geti hE hS rfl inZX5 1 (by decide) q300 rfl dX5_keep_5 ?_
  refine x_norm (y := nI x) (hx) ?_
  refine h_aald (b := y) hE hS0 (vp_in_nI hlt (by omega)) ((by rw [nI_clamp (by omega)]; exact hy1)) dX5_keep_8 ?_
  refine x_aload_n hE dX5_keep_9 rfl 1 rfl ?_
  refine c_vs hE (r_V (st := []) hE (k_copyWorld l D cy L σ φ ρ hy hw) q954 q955 q956 q116 q957 hyT rfl ⟨by decide, by decide, pn_X10_copyFrom⟩ ⟨Nat.le_of_ble_eq_true rfl, Nat.le_of_ble_eq_true rfl⟩ ⟨Nat.le_of_ble_eq_true rfl, Nat.le_of_ble_eq_true rfl⟩ rfl (Nat.le_of_ble_eq_true rfl) dX5_keep_10) (fun φ1 ρ1 hc => ?_)
  refine x_widen (k' := 0) (n' := 0) (Nat.le_of_ble_eq_true rfl) (Nat.le_of_ble_eq_true rfl) ?_
  obtain ⟨hc1, hc2⟩ := hc
  have hx2 : φ1 5 1 sp = nI x := by rw [hc1 5 1 sp (Or.inl (by decide)), hx]
  refine x_aload_n hE dX5_keep_13 rfl 0 rfl ?_
  refine h_getr hE hS rfl inZX5 3 (by decide) q302 rfl dX5_keep_14 ?_
  refine x_aload_n hE dX5_keep_17 rfl 0 rfl ?_
  refine h_geti hE hS rfl inZX5 1 (by decide) q300 rfl dX5_keep_18 ?_
  refine x_norm (y := nI x) (hx2) ?_
  refine x_iload_n hE dX5_keep_21 rfl 2 rfl ?_
  refine h_iast hE hS1 (vp_in_nI hlt (by omega)) dX5_keep_22 ?_
  refine x_rho (fun ρ_22 hρ_22 => ?_)
  refine x_aload_n hE dX5_keep_23 rfl 0 rfl ?_
  refine x_aload_n hE dX5_keep_24 rfl 0 rfl ?_
  refine h_geti hE hS rfl inZX5 1 (by decide) q300 rfl dX5_keep_25 ?_
  refine x_norm (y := nI x) (hx2) ?_
  refine x_iconst (v := 1) hE dX5_keep_28 (by decide) ?_
  refine x_iadd hE dX5_keep_29 ?_
  refine x_norm (y := nI (x + 1)) (nI_1 x) ?_
  refine x_bipush (v := 30) hE dX5_keep_30 (by decide) ?_
  refine x_irem hE dX5_keep_32 (by decide) ?_
  refine x_norm (y := nI ((x + 1) % 30)) (pk_rem (d := 30) (by omega) (by omega) (by omega)) ?_
  refine h_puti (ty := .int) (ty0 := tyX5) hE hS rfl inZX5 tyX5_ok nmX5 1 (by decide) q300 rfl rfl (by decide +kernel) rfl rfl dX5_keep_33 ?_
  refine x_aload_n hE dX5_keep_36 rfl 0 rfl ?_
  refine x_aload_n hE dX5_keep_37 rfl 0 rfl ?_
  refine h_geti hE hS rfl inZX5 0 (by decide) q297 rfl dX5_keep_38 ?_
  refine x_norm (y := φ1 5 0 sp) (by simp [zup]) ?_
  refine x_iconst (v := 1) hE dX5_keep_41 (by decide) ?_
  refine x_iadd hE dX5_keep_42 ?_
  refine x_bipush (v := 30) hE dX5_keep_43 (by decide) ?_
  refine x_min hE q961 q780 q130 q781 (Nat.le_of_ble_eq_true rfl) (Nat.le_of_ble_eq_true rfl) (Nat.le_of_ble_eq_true rfl) (Nat.le_of_ble_eq_true rfl) dX5_keep_45 ?_
  refine h_puti (ty := .int) (ty0 := tyX5) hE hS rfl inZX5 tyX5_ok nmX5 0 (by decide) q297 rfl rfl (by decide +kernel) rfl rfl dX5_keep_48 ?_
  exact hret _ _ _ _ _ _ _ _ (Nat.le_of_ble_eq_true rfl) (Nat.le_of_ble_eq_true rfl) dX5_keep_51 (⟨rfl, rfl, fun c i b h1 h2 => by simp [zup, h2]; exact hc1 c i b (Or.inl h1), fun i h1 h2 => by simp [zup]; exact if e : wo = y then (by subst e; exact hc2 i h1 h2) else hc1 10 i wo (Or.inr e), (x + 1) % 30, Nat.mod_lt _ (by omega), by simp [zup]⟩)
set_option maxHeartbeats 4000000 in
set_option maxRecDepth 100000 in
theorem k_keepStep (l : Launch) (D : va_G) (cy : Nat → ClassId) (L : List Nat) (σ : Nat → va_E) (φ : Nat → Nat → Nat → Int32) (ρ : Nat → Nat → Int32) {a la wo sp li te f0 f1 f2 f3 f4 f5 f6 f7 : Nat} {g : Nat → Option Nat} (x : Nat) (ha : zT L σ a (.inr (4, [.ref la, .ref wo, .ref sp, .ref li, .ref te, .int 0, .int 0]))) (hL : zT L σ la (.inr (0, [.int 0, .int 0, .ref f0, .ref f1, .ref f2, .ref f3, .ref f4, .ref f5, .ref f6, .ref f7]))) (hs : zSteps cy L σ sp g) (hw : zWorld cy L σ wo) (hx : φ 5 1 sp = nI x) (hlt : x < 30) : zMV l D cy yX4_keepStep cX4_keepStep 1 (zrm 3 0 0) [.ref a] L σ φ ρ (zsv L σ (fun φ' ρ' => (∀ c i b, c ≠ 10 → c ≠ 5 → φ' c i b = φ c i b) ∧ (∀ i, 6 ≤ i → i ≤ 12 → φ' 10 i wo = φ 10 i wo) ∧ ∃ m, m < 30 ∧ φ' 5 1 sp = nI m)) := by
  refine zMV.mk (by decide) (Nat.le_of_ble_eq_true rfl) (fun E hE hI hret => ?_)
  show zW E 0 0 L σ φ ρ 0 [(0, .ref a)] []
  obtain ⟨SP, hspT⟩ := hs.at
  refine x_aload_n hE dX4_keepStep_0 rfl 0 rfl ?_
  refine h_getr hE ha rfl inZX4 2 (by decide) q370 rfl dX4_keepStep_1 ?_
  refine x_aload_n hE dX4_keepStep_4 rfl 0 rfl ?_
  refine h_getr hE ha rfl inZX4 1 (by decide) q366 rfl dX4_keepStep_5 ?_
  refine x_aload_n hE dX4_keepStep_8 rfl 0 rfl ?_
  refine h_getr hE ha rfl inZX4 0 (by decide) q361 rfl dX4_keepStep_9 ?_
  refine h_geti hE hL rfl inZX0 1 (by decide) q162 rfl dX4_keepStep_12 ?_
  refine c_vs hE (r_V (st := []) hE (k_keep l D cy L σ φ ρ x (φ 0 1 la) hs hw hx hlt) q950 q951 q952 q117 q953 hspT rfl ⟨by decide, by decide, pn_X5_keep⟩ ⟨Nat.le_of_ble_eq_true rfl, Nat.le_of_ble_eq_true rfl⟩ ⟨Nat.le_of_ble_eq_true rfl, Nat.le_of_ble_eq_true rfl⟩ rfl (Nat.le_of_ble_eq_true rfl) dX4_keepStep_15) (fun φ1 ρ1 hc => ?_)
  refine x_widen (k' := 0) (n' := 0) (Nat.le_of_ble_eq_true rfl) (Nat.le_of_ble_eq_true rfl) ?_
  exact hret _ _ _ _ _ _ _ _ (Nat.le_of_ble_eq_true rfl) (Nat.le_of_ble_eq_true rfl) dX4_keepStep_18 (⟨rfl, rfl, hc⟩)
set_option maxHeartbeats 4000000 in
set_option maxRecDepth 100000 in
theorem k_pass (l : Launch) (D : va_G) (cy : Nat → ClassId) (L : List Nat) (σ : Nat → va_E) (φ : Nat → Nat → Nat → Int32) (ρ : Nat → Nat → Int32) {we w s la wo sp li te f0 f1 f2 f3 f4 f5 f6 f7 : Nat} (h : Nat) (hwe : zWeather cy L σ we s) (ha : zT L σ s (.inr (4, [.ref la, .ref wo, .ref sp, .ref li, .ref te, .int 0, .int 0]))) (hL : zT L σ la (.inr (0, [.int 0, .int 0, .ref f0, .ref f1, .ref f2, .ref f3, .ref f4, .ref f5, .ref f6, .ref f7]))) (hw : zWorld cy L σ w) (h00 : φ 0 0 la = 0) (h01 : φ 0 1 la = 0) (hh : φ 10 9 w = nI h) (hlt : h < 1990) : zMI l D cy yX9_pass cX9_pass 4 .int (zrm 1 0 0) [.ref we, .ref w] L σ φ ρ (zsa L σ (fun r φ' _ => r = 0 ∧ φ' = zup (zup φ 9 3 we 0) 10 9 w (nI (h + 1)))) := by
  refine zMI.mk (by decide) (Nat.le_of_ble_eq_true rfl) (fun E hE hret => ?_)
  show zW E 0 0 L σ φ ρ 0 [(0, .ref we), (1, .ref w)] []
  obtain ⟨b0, b1, b2, b3, hE9, -, -, -, -⟩ := id hwe
  obtain ⟨p0, p1, p2, p3, p4, p5, p6, p7, hp, hp0, hp1, hp2, hp3, hp4, hp5, hp6, hp7⟩ := id hw
  refine x_aload_n hE dX9_pass_0 rfl 0 rfl ?_
  refine h_getr hE hE9 rfl inZX9 4 (by decide) q470 rfl dX9_pass_1 ?_
  refine h_getr hE ha rfl inZX4 0 (by decide) q363 rfl dX9_pass_4 ?_
  refine x_astore_n (lv' := [(2, .ref la), (0, .ref we), (1, .ref w)]) hE dX9_pass_7 rfl (by decide) rfl ?_
  refine x_iconst (v := 0) hE dX9_pass_8 (by decide) ?_
  refine x_istore_n (lv' := [(3, .int 0), (2, .ref la), (0, .ref we), (1, .ref w)]) hE dX9_pass_9 rfl (by decide) rfl ?_
  refine x_iload_n hE dX9_pass_10 rfl 0 rfl ?_
  refine x_aload_n hE dX9_pass_11 rfl 1 rfl ?_
  refine h_geti hE hL rfl inZX0 1 (by decide) q159 rfl dX9_pass_12 ?_
  refine x_norm (y := 0) (h01) ?_
  refine x_icmp_ge (tgt := 66) hE dX9_pass_15 (by decide) (fun c_15 => ?_) (fun c_15 => absurd (by decide) c_15)
  refine x_aload_n hE dX9_pass_66 rfl 2 rfl ?_
  refine x_iconst (v := 0) hE dX9_pass_67 (by decide) ?_
  refine h_puti (ty := .int) (ty0 := tyX9) hE hE9 rfl inZX9 tyX9_ok nmX9 3 (by decide) q468 rfl rfl (by decide +kernel) rfl rfl dX9_pass_68 ?_
  refine x_iconst (v := 0) hE dX9_pass_71 (by decide) ?_
  refine x_istore_n (lv' := [(3, .int 0), (2, .ref la), (0, .ref we), (1, .ref w)]) hE dX9_pass_72 rfl (by decide) rfl ?_
  refine x_iload_n hE dX9_pass_73 rfl 0 rfl ?_
  refine x_aload_n hE dX9_pass_74 rfl 1 rfl ?_
  refine h_geti hE hL rfl inZX0 1 (by decide) q159 rfl dX9_pass_75 ?_
  refine x_norm (y := 0) (by simp [zup]; exact h01) ?_
  refine x_icmp_ge (tgt := 120) hE dX9_pass_78 (by decide) (fun c_78 => ?_) (fun c_78 => absurd (by decide) c_78)
  refine x_iconst (v := 0) hE dX9_pass_120 (by decide) ?_
  refine x_istore_n (lv' := [(3, .int 0), (2, .ref la), (0, .ref we), (1, .ref w)]) hE dX9_pass_121 rfl (by decide) rfl ?_
  refine x_iload_n hE dX9_pass_122 rfl 0 rfl ?_
  refine x_aload_n hE dX9_pass_123 rfl 1 rfl ?_
  refine h_geti hE hL rfl inZX0 0 (by decide) q157 rfl dX9_pass_124 ?_
  refine x_norm (y := 0) (by simp [zup]; exact h00) ?_
  refine x_icmp_ge (tgt := 154) hE dX9_pass_127 (by decide) (fun c_127 => ?_) (fun c_127 => absurd (by decide) c_127)
  refine x_aload_n hE dX9_pass_154 rfl 3 rfl ?_
  refine x_aload_n hE dX9_pass_155 rfl 1 rfl ?_
  refine h_geti hE hL rfl inZX0 1 (by decide) q159 rfl dX9_pass_156 ?_
  refine x_norm (y := 0) (by simp [zup]; exact h01) ?_
  refine c_vs hE (r_V (st := []) hE (k_writeWhere l D cy L σ (zup φ 9 3 we 0) ρ h hw (by simp [zup]; exact hh) (by omega)) q1018 q1019 q1020 q116 q1021 hp rfl ⟨by decide, by decide, pn_X10_writeWhere⟩ ⟨Nat.le_of_ble_eq_true rfl, Nat.le_of_ble_eq_true rfl⟩ ⟨Nat.le_of_ble_eq_true rfl, Nat.le_of_ble_eq_true rfl⟩ rfl (Nat.le_of_ble_eq_true rfl) dX9_pass_159) (fun φ1 ρ1 hc => ?_)
  refine x_widen (k' := 0) (n' := 0) (Nat.le_of_ble_eq_true rfl) (Nat.le_of_ble_eq_true rfl) ?_
  subst hc
  refine x_aload_n hE dX9_pass_162 rfl 3 rfl ?_
  refine x_dup hE dX9_pass_163 rfl ?_
  refine h_geti hE hp rfl inZX10 9 (by decide) q248 rfl dX9_pass_164 ?_
  refine x_norm (y := nI h) (by simp [zup]; exact hh) ?_
  refine x_iconst (v := 1) hE dX9_pass_167 (by decide) ?_
  refine x_iadd hE dX9_pass_168 ?_
  refine x_norm (y := nI (h + 1)) (nI_1 h) ?_
  refine h_puti (ty := .int) (ty0 := tyX10) hE hp rfl inZX10 tyX10_ok nmX10 9 (by decide) q248 rfl rfl (by decide +kernel) rfl rfl dX9_pass_169 ?_
  refine x_aload_n hE dX9_pass_172 rfl 2 rfl ?_
  refine h_geti hE hE9 rfl inZX9 3 (by decide) q468 rfl dX9_pass_173 ?_
  refine x_norm (y := 0) (by simp [zup]) ?_
  refine c_ip hE (r_S (st := []) hE (k_bitCount l D cy L σ (zup (zup φ 9 3 we (0)) 10 9 w (nI (h + 1))) ρ1 0) q1022 q1023 q133 q1024 ⟨by decide, by decide, pn_J6_bitCount_0f7a4⟩ ⟨Nat.le_of_ble_eq_true rfl, Nat.le_of_ble_eq_true rfl⟩ ⟨Nat.le_of_ble_eq_true rfl, Nat.le_of_ble_eq_true rfl⟩ rfl (Nat.le_of_ble_eq_true rfl) dX9_pass_176) (fun rb hb => ?_)
  refine x_widen (k' := 0) (n' := 0) (Nat.le_of_ble_eq_true rfl) (Nat.le_of_ble_eq_true rfl) ?_
  refine x_norm (y := 0) (hb rfl) ?_
  exact hret _ _ _ _ _ _ _ _ (0) (Nat.le_of_ble_eq_true rfl) (Nat.le_of_ble_eq_true rfl) dX9_pass_179 (rfl) (⟨rfl, rfl, rfl, rfl⟩)
