theorem dX0_copyFrom_0 : decode cX0_copyFrom 0 = .ok (.aload_n 0, 1) := by decide +kernel
theorem dX0_copyFrom_1 : decode cX0_copyFrom 1 = .ok (.aload_n 1, 1) := by decide +kernel
theorem dX0_copyFrom_2 : decode cX0_copyFrom 2 = .ok (.getfield 36, 3) := by decide +kernel
theorem dX0_copyFrom_5 : decode cX0_copyFrom 5 = .ok (.putfield 36, 3) := by decide +kernel
theorem dX0_copyFrom_8 : decode cX0_copyFrom 8 = .ok (.aload_n 0, 1) := by decide +kernel
theorem dX0_copyFrom_9 : decode cX0_copyFrom 9 = .ok (.aload_n 1, 1) := by decide +kernel
theorem dX0_copyFrom_10 : decode cX0_copyFrom 10 = .ok (.getfield 40, 3) := by decide +kernel
theorem dX0_copyFrom_13 : decode cX0_copyFrom 13 = .ok (.putfield 40, 3) := by decide +kernel
theorem dX0_copyFrom_16 : decode cX0_copyFrom 16 = .ok (.aload_n 1, 1) := by decide +kernel
theorem dX0_copyFrom_17 : decode cX0_copyFrom 17 = .ok (.getfield 9, 3) := by decide +kernel
theorem dX0_copyFrom_20 : decode cX0_copyFrom 20 = .ok (.iconst 0, 1) := by decide +kernel
theorem dX0_copyFrom_21 : decode cX0_copyFrom 21 = .ok (.aload_n 0, 1) := by decide +kernel
theorem dX0_copyFrom_22 : decode cX0_copyFrom 22 = .ok (.getfield 9, 3) := by decide +kernel
theorem dX0_copyFrom_25 : decode cX0_copyFrom 25 = .ok (.iconst 0, 1) := by decide +kernel
theorem dX0_copyFrom_26 : decode cX0_copyFrom 26 = .ok (.bipush 6, 2) := by decide +kernel
theorem dX0_copyFrom_28 : decode cX0_copyFrom 28 = .ok (.invokestatic 43, 3) := by decide +kernel
theorem dX0_copyFrom_31 : decode cX0_copyFrom 31 = .ok (.aload_n 1, 1) := by decide +kernel
theorem dX0_copyFrom_32 : decode cX0_copyFrom 32 = .ok (.getfield 15, 3) := by decide +kernel
theorem dX0_copyFrom_35 : decode cX0_copyFrom 35 = .ok (.iconst 0, 1) := by decide +kernel
theorem dX0_copyFrom_36 : decode cX0_copyFrom 36 = .ok (.aload_n 0, 1) := by decide +kernel
theorem dX0_copyFrom_37 : decode cX0_copyFrom 37 = .ok (.getfield 15, 3) := by decide +kernel
theorem dX0_copyFrom_40 : decode cX0_copyFrom 40 = .ok (.iconst 0, 1) := by decide +kernel
theorem dX0_copyFrom_41 : decode cX0_copyFrom 41 = .ok (.bipush 6, 2) := by decide +kernel
theorem dX0_copyFrom_43 : decode cX0_copyFrom 43 = .ok (.invokestatic 43, 3) := by decide +kernel
theorem dX0_copyFrom_46 : decode cX0_copyFrom 46 = .ok (.aload_n 1, 1) := by decide +kernel
theorem dX0_copyFrom_47 : decode cX0_copyFrom 47 = .ok (.getfield 18, 3) := by decide +kernel
theorem dX0_copyFrom_50 : decode cX0_copyFrom 50 = .ok (.iconst 0, 1) := by decide +kernel
theorem dX0_copyFrom_51 : decode cX0_copyFrom 51 = .ok (.aload_n 0, 1) := by decide +kernel
theorem dX0_copyFrom_52 : decode cX0_copyFrom 52 = .ok (.getfield 18, 3) := by decide +kernel
theorem dX0_copyFrom_55 : decode cX0_copyFrom 55 = .ok (.iconst 0, 1) := by decide +kernel
theorem dX0_copyFrom_56 : decode cX0_copyFrom 56 = .ok (.bipush 6, 2) := by decide +kernel
theorem dX0_copyFrom_58 : decode cX0_copyFrom 58 = .ok (.invokestatic 43, 3) := by decide +kernel
theorem dX0_copyFrom_61 : decode cX0_copyFrom 61 = .ok (.aload_n 1, 1) := by decide +kernel
theorem dX0_copyFrom_62 : decode cX0_copyFrom 62 = .ok (.getfield 21, 3) := by decide +kernel
theorem dX0_copyFrom_65 : decode cX0_copyFrom 65 = .ok (.iconst 0, 1) := by decide +kernel
theorem dX0_copyFrom_66 : decode cX0_copyFrom 66 = .ok (.aload_n 0, 1) := by decide +kernel
theorem dX0_copyFrom_67 : decode cX0_copyFrom 67 = .ok (.getfield 21, 3) := by decide +kernel
theorem dX0_copyFrom_70 : decode cX0_copyFrom 70 = .ok (.iconst 0, 1) := by decide +kernel
theorem dX0_copyFrom_71 : decode cX0_copyFrom 71 = .ok (.bipush 6, 2) := by decide +kernel
theorem dX0_copyFrom_73 : decode cX0_copyFrom 73 = .ok (.invokestatic 43, 3) := by decide +kernel
theorem dX0_copyFrom_76 : decode cX0_copyFrom 76 = .ok (.aload_n 1, 1) := by decide +kernel
theorem dX0_copyFrom_77 : decode cX0_copyFrom 77 = .ok (.getfield 24, 3) := by decide +kernel
theorem dX0_copyFrom_80 : decode cX0_copyFrom 80 = .ok (.iconst 0, 1) := by decide +kernel
theorem dX0_copyFrom_81 : decode cX0_copyFrom 81 = .ok (.aload_n 0, 1) := by decide +kernel
theorem dX0_copyFrom_82 : decode cX0_copyFrom 82 = .ok (.getfield 24, 3) := by decide +kernel
theorem dX0_copyFrom_85 : decode cX0_copyFrom 85 = .ok (.iconst 0, 1) := by decide +kernel
theorem dX0_copyFrom_86 : decode cX0_copyFrom 86 = .ok (.bipush 8, 2) := by decide +kernel
theorem dX0_copyFrom_88 : decode cX0_copyFrom 88 = .ok (.invokestatic 43, 3) := by decide +kernel
theorem dX0_copyFrom_91 : decode cX0_copyFrom 91 = .ok (.aload_n 1, 1) := by decide +kernel
theorem dX0_copyFrom_92 : decode cX0_copyFrom 92 = .ok (.getfield 27, 3) := by decide +kernel
theorem dX0_copyFrom_95 : decode cX0_copyFrom 95 = .ok (.iconst 0, 1) := by decide +kernel
theorem dX0_copyFrom_96 : decode cX0_copyFrom 96 = .ok (.aload_n 0, 1) := by decide +kernel
theorem dX0_copyFrom_97 : decode cX0_copyFrom 97 = .ok (.getfield 27, 3) := by decide +kernel
theorem dX0_copyFrom_100 : decode cX0_copyFrom 100 = .ok (.iconst 0, 1) := by decide +kernel
theorem dX0_copyFrom_101 : decode cX0_copyFrom 101 = .ok (.bipush 8, 2) := by decide +kernel
theorem dX0_copyFrom_103 : decode cX0_copyFrom 103 = .ok (.invokestatic 43, 3) := by decide +kernel
theorem dX0_copyFrom_106 : decode cX0_copyFrom 106 = .ok (.aload_n 1, 1) := by decide +kernel
theorem dX0_copyFrom_107 : decode cX0_copyFrom 107 = .ok (.getfield 30, 3) := by decide +kernel
theorem dX0_copyFrom_110 : decode cX0_copyFrom 110 = .ok (.iconst 0, 1) := by decide +kernel
theorem dX0_copyFrom_111 : decode cX0_copyFrom 111 = .ok (.aload_n 0, 1) := by decide +kernel
theorem dX0_copyFrom_112 : decode cX0_copyFrom 112 = .ok (.getfield 30, 3) := by decide +kernel
theorem dX0_copyFrom_115 : decode cX0_copyFrom 115 = .ok (.iconst 0, 1) := by decide +kernel
theorem dX0_copyFrom_116 : decode cX0_copyFrom 116 = .ok (.bipush 8, 2) := by decide +kernel
theorem dX0_copyFrom_118 : decode cX0_copyFrom 118 = .ok (.invokestatic 43, 3) := by decide +kernel
theorem dX0_copyFrom_121 : decode cX0_copyFrom 121 = .ok (.aload_n 1, 1) := by decide +kernel
theorem dX0_copyFrom_122 : decode cX0_copyFrom 122 = .ok (.getfield 33, 3) := by decide +kernel
theorem dX0_copyFrom_125 : decode cX0_copyFrom 125 = .ok (.iconst 0, 1) := by decide +kernel
theorem dX0_copyFrom_126 : decode cX0_copyFrom 126 = .ok (.aload_n 0, 1) := by decide +kernel
theorem dX0_copyFrom_127 : decode cX0_copyFrom 127 = .ok (.getfield 33, 3) := by decide +kernel
theorem dX0_copyFrom_130 : decode cX0_copyFrom 130 = .ok (.iconst 0, 1) := by decide +kernel
theorem dX0_copyFrom_131 : decode cX0_copyFrom 131 = .ok (.bipush 8, 2) := by decide +kernel
theorem dX0_copyFrom_133 : decode cX0_copyFrom 133 = .ok (.invokestatic 43, 3) := by decide +kernel
theorem dX0_copyFrom_136 : decode cX0_copyFrom 136 = .ok (.return_, 1) := by decide +kernel
theorem dX11_about_0 : decode cX11_about 0 = .ok (.aload_n 0, 1) := by decide +kernel
theorem dX11_about_1 : decode cX11_about 1 = .ok (.getfield 10, 3) := by decide +kernel
theorem dX11_about_4 : decode cX11_about 4 = .ok (.getfield 97, 3) := by decide +kernel
theorem dX11_about_7 : decode cX11_about 7 = .ok (.astore_n 2, 1) := by decide +kernel
theorem dX11_about_8 : decode cX11_about 8 = .ok (.iload_n 1, 1) := by decide +kernel
theorem dX11_about_9 : decode cX11_about 9 = .ok (.tableswitch 186 0 13 #[71, 82, 93, 98, 103, 108, 113, 118, 126, 134, 145, 156, 167, 178], 71) := by decide +kernel
theorem dX11_about_80 : decode cX11_about 80 = .ok (.aload_n 0, 1) := by decide +kernel
theorem dX11_about_81 : decode cX11_about 81 = .ok (.getfield 10, 3) := by decide +kernel
theorem dX11_about_84 : decode cX11_about 84 = .ok (.getfield 60, 3) := by decide +kernel
theorem dX11_about_87 : decode cX11_about 87 = .ok (.getfield 68, 3) := by decide +kernel
theorem dX11_about_90 : decode cX11_about 90 = .ok (.ireturn, 1) := by decide +kernel
theorem dX11_about_91 : decode cX11_about 91 = .ok (.aload_n 0, 1) := by decide +kernel
theorem dX11_about_92 : decode cX11_about 92 = .ok (.getfield 10, 3) := by decide +kernel
theorem dX11_about_95 : decode cX11_about 95 = .ok (.getfield 60, 3) := by decide +kernel
theorem dX11_about_98 : decode cX11_about 98 = .ok (.getfield 90, 3) := by decide +kernel
theorem dX11_about_101 : decode cX11_about 101 = .ok (.ireturn, 1) := by decide +kernel
theorem dX11_about_102 : decode cX11_about 102 = .ok (.aload_n 2, 1) := by decide +kernel
theorem dX11_about_103 : decode cX11_about 103 = .ok (.getfield 137, 3) := by decide +kernel
theorem dX11_about_106 : decode cX11_about 106 = .ok (.ireturn, 1) := by decide +kernel
theorem dX11_about_107 : decode cX11_about 107 = .ok (.aload_n 2, 1) := by decide +kernel
theorem dX11_about_108 : decode cX11_about 108 = .ok (.getfield 176, 3) := by decide +kernel
theorem dX11_about_111 : decode cX11_about 111 = .ok (.ireturn, 1) := by decide +kernel
theorem dX11_about_112 : decode cX11_about 112 = .ok (.aload_n 2, 1) := by decide +kernel
theorem dX11_about_113 : decode cX11_about 113 = .ok (.getfield 406, 3) := by decide +kernel
theorem dX11_about_116 : decode cX11_about 116 = .ok (.ireturn, 1) := by decide +kernel
theorem dX11_about_117 : decode cX11_about 117 = .ok (.aload_n 2, 1) := by decide +kernel
theorem dX11_about_118 : decode cX11_about 118 = .ok (.getfield 403, 3) := by decide +kernel
theorem dX11_about_121 : decode cX11_about 121 = .ok (.ireturn, 1) := by decide +kernel
theorem dX11_about_122 : decode cX11_about 122 = .ok (.aload_n 2, 1) := by decide +kernel
theorem dX11_about_123 : decode cX11_about 123 = .ok (.getfield 233, 3) := by decide +kernel
theorem dX11_about_126 : decode cX11_about 126 = .ok (.ireturn, 1) := by decide +kernel
theorem dX11_about_127 : decode cX11_about 127 = .ok (.aload_n 0, 1) := by decide +kernel
theorem dX11_about_128 : decode cX11_about 128 = .ok (.getfield 10, 3) := by decide +kernel
theorem dX11_about_131 : decode cX11_about 131 = .ok (.getfield 114, 3) := by decide +kernel
theorem dX11_about_134 : decode cX11_about 134 = .ok (.ireturn, 1) := by decide +kernel
theorem dX11_about_135 : decode cX11_about 135 = .ok (.aload_n 0, 1) := by decide +kernel
theorem dX11_about_136 : decode cX11_about 136 = .ok (.getfield 10, 3) := by decide +kernel
theorem dX11_about_139 : decode cX11_about 139 = .ok (.getfield 134, 3) := by decide +kernel
theorem dX11_about_142 : decode cX11_about 142 = .ok (.ireturn, 1) := by decide +kernel
theorem dX11_about_143 : decode cX11_about 143 = .ok (.aload_n 0, 1) := by decide +kernel
theorem dX11_about_144 : decode cX11_about 144 = .ok (.getfield 10, 3) := by decide +kernel
theorem dX11_about_147 : decode cX11_about 147 = .ok (.getfield 412, 3) := by decide +kernel
theorem dX11_about_150 : decode cX11_about 150 = .ok (.getfield 416, 3) := by decide +kernel
theorem dX11_about_153 : decode cX11_about 153 = .ok (.ireturn, 1) := by decide +kernel
theorem dX11_about_154 : decode cX11_about 154 = .ok (.aload_n 0, 1) := by decide +kernel
theorem dX11_about_155 : decode cX11_about 155 = .ok (.getfield 10, 3) := by decide +kernel
theorem dX11_about_158 : decode cX11_about 158 = .ok (.getfield 343, 3) := by decide +kernel
theorem dX11_about_161 : decode cX11_about 161 = .ok (.getfield 347, 3) := by decide +kernel
theorem dX11_about_164 : decode cX11_about 164 = .ok (.ireturn, 1) := by decide +kernel
theorem dX11_about_165 : decode cX11_about 165 = .ok (.aload_n 0, 1) := by decide +kernel
theorem dX11_about_166 : decode cX11_about 166 = .ok (.getfield 10, 3) := by decide +kernel
theorem dX11_about_169 : decode cX11_about 169 = .ok (.getfield 343, 3) := by decide +kernel
theorem dX11_about_172 : decode cX11_about 172 = .ok (.getfield 377, 3) := by decide +kernel
theorem dX11_about_175 : decode cX11_about 175 = .ok (.ireturn, 1) := by decide +kernel
theorem dX11_about_176 : decode cX11_about 176 = .ok (.aload_n 0, 1) := by decide +kernel
theorem dX11_about_177 : decode cX11_about 177 = .ok (.getfield 10, 3) := by decide +kernel
theorem dX11_about_180 : decode cX11_about 180 = .ok (.getfield 343, 3) := by decide +kernel
theorem dX11_about_183 : decode cX11_about 183 = .ok (.getfield 390, 3) := by decide +kernel
theorem dX11_about_186 : decode cX11_about 186 = .ok (.ireturn, 1) := by decide +kernel
theorem dX11_about_187 : decode cX11_about 187 = .ok (.aload_n 0, 1) := by decide +kernel
theorem dX11_about_188 : decode cX11_about 188 = .ok (.getfield 22, 3) := by decide +kernel
theorem dX11_about_191 : decode cX11_about 191 = .ok (.getfield 107, 3) := by decide +kernel
theorem dX11_about_194 : decode cX11_about 194 = .ok (.ireturn, 1) := by decide +kernel
theorem dX11_about_195 : decode cX11_about 195 = .ok (.bipush (-2), 2) := by decide +kernel
theorem dX11_about_197 : decode cX11_about 197 = .ok (.ireturn, 1) := by decide +kernel
theorem dX11_feed_0 : decode cX11_feed 0 = .ok (.aload_n 0, 1) := by decide +kernel
theorem dX11_feed_1 : decode cX11_feed 1 = .ok (.getfield 22, 3) := by decide +kernel
theorem dX11_feed_4 : decode cX11_feed 4 = .ok (.getfield 107, 3) := by decide +kernel
theorem dX11_feed_7 : decode cX11_feed 7 = .ok (.bipush 20, 2) := by decide +kernel
theorem dX11_feed_9 : decode cX11_feed 9 = .ok (.iadd, 1) := by decide +kernel
theorem dX11_feed_10 : decode cX11_feed 10 = .ok (.sipush 300, 3) := by decide +kernel
theorem dX11_feed_13 : decode cX11_feed 13 = .ok (.if_icmp .le 5, 3) := by decide +kernel
theorem dX11_feed_18 : decode cX11_feed 18 = .ok (.aload_n 0, 1) := by decide +kernel
theorem dX11_feed_19 : decode cX11_feed 19 = .ok (.getfield 22, 3) := by decide +kernel
theorem dX11_feed_22 : decode cX11_feed 22 = .ok (.iload_n 1, 1) := by decide +kernel
theorem dX11_feed_23 : decode cX11_feed 23 = .ok (.invokevirtual 110, 3) := by decide +kernel
theorem dX11_feed_26 : decode cX11_feed 26 = .ok (.aload_n 0, 1) := by decide +kernel
theorem dX11_feed_27 : decode cX11_feed 27 = .ok (.getfield 22, 3) := by decide +kernel
theorem dX11_feed_30 : decode cX11_feed 30 = .ok (.iload_n 2, 1) := by decide +kernel
theorem dX11_feed_31 : decode cX11_feed 31 = .ok (.invokevirtual 110, 3) := by decide +kernel
theorem dX11_feed_34 : decode cX11_feed 34 = .ok (.aload_n 0, 1) := by decide +kernel
theorem dX11_feed_35 : decode cX11_feed 35 = .ok (.getfield 22, 3) := by decide +kernel
theorem dX11_feed_38 : decode cX11_feed 38 = .ok (.iload_n 3, 1) := by decide +kernel
theorem dX11_feed_39 : decode cX11_feed 39 = .ok (.invokevirtual 110, 3) := by decide +kernel
theorem dX11_feed_42 : decode cX11_feed 42 = .ok (.aload_n 0, 1) := by decide +kernel
theorem dX11_feed_43 : decode cX11_feed 43 = .ok (.getfield 22, 3) := by decide +kernel
theorem dX11_feed_46 : decode cX11_feed 46 = .ok (.iload 4, 2) := by decide +kernel
theorem dX11_feed_48 : decode cX11_feed 48 = .ok (.invokevirtual 110, 3) := by decide +kernel
theorem dX11_feed_51 : decode cX11_feed 51 = .ok (.aload_n 0, 1) := by decide +kernel
theorem dX11_feed_52 : decode cX11_feed 52 = .ok (.getfield 22, 3) := by decide +kernel
theorem dX11_feed_55 : decode cX11_feed 55 = .ok (.iload 5, 2) := by decide +kernel
theorem dX11_feed_57 : decode cX11_feed 57 = .ok (.invokevirtual 110, 3) := by decide +kernel
theorem dX11_feed_60 : decode cX11_feed 60 = .ok (.aload_n 0, 1) := by decide +kernel
theorem dX11_feed_61 : decode cX11_feed 61 = .ok (.getfield 22, 3) := by decide +kernel
theorem dX11_feed_64 : decode cX11_feed 64 = .ok (.getfield 107, 3) := by decide +kernel
theorem dX11_feed_67 : decode cX11_feed 67 = .ok (.ireturn, 1) := by decide +kernel
theorem dX11_market_0 : decode cX11_market 0 = .ok (.iload_n 1, 1) := by decide +kernel
theorem dX11_market_1 : decode cX11_market 1 = .ok (.iconst (-1), 1) := by decide +kernel
theorem dX11_market_2 : decode cX11_market 2 = .ok (.if_icmp .eq 29, 3) := by decide +kernel
theorem dX11_market_5 : decode cX11_market 5 = .ok (.iload_n 1, 1) := by decide +kernel
theorem dX11_market_6 : decode cX11_market 6 = .ok (.iconst 0, 1) := by decide +kernel
theorem dX11_market_7 : decode cX11_market 7 = .ok (.bipush 99, 2) := by decide +kernel
theorem dX11_market_9 : decode cX11_market 9 = .ok (.invokestatic 64, 3) := by decide +kernel
theorem dX11_market_12 : decode cX11_market 12 = .ok (.ifCond .eq 17, 3) := by decide +kernel
theorem dX11_market_15 : decode cX11_market 15 = .ok (.aload_n 0, 1) := by decide +kernel
theorem dX11_market_16 : decode cX11_market 16 = .ok (.getfield 10, 3) := by decide +kernel
theorem dX11_market_19 : decode cX11_market 19 = .ok (.getfield 343, 3) := by decide +kernel
theorem dX11_market_22 : decode cX11_market 22 = .ok (.iload_n 1, 1) := by decide +kernel
theorem dX11_market_23 : decode cX11_market 23 = .ok (.invokevirtual 397, 3) := by decide +kernel
theorem dX11_market_26 : decode cX11_market 26 = .ok (.goto 4, 3) := by decide +kernel
theorem dX11_market_29 : decode cX11_market 29 = .ok (.iconst (-1), 1) := by decide +kernel
theorem dX11_market_30 : decode cX11_market 30 = .ok (.ireturn, 1) := by decide +kernel
theorem dX11_market_31 : decode cX11_market 31 = .ok (.iconst 0, 1) := by decide +kernel
theorem dX11_market_32 : decode cX11_market 32 = .ok (.istore_n 2, 1) := by decide +kernel
theorem dX11_market_33 : decode cX11_market 33 = .ok (.iconst 1, 1) := by decide +kernel
theorem dX11_market_34 : decode cX11_market 34 = .ok (.istore_n 3, 1) := by decide +kernel
theorem dX11_market_35 : decode cX11_market 35 = .ok (.iload_n 3, 1) := by decide +kernel
theorem dX11_market_36 : decode cX11_market 36 = .ok (.bipush 99, 2) := by decide +kernel
theorem dX11_market_38 : decode cX11_market 38 = .ok (.if_icmp .gt 36, 3) := by decide +kernel
theorem dX11_market_41 : decode cX11_market 41 = .ok (.aload_n 0, 1) := by decide +kernel
theorem dX11_market_42 : decode cX11_market 42 = .ok (.getfield 10, 3) := by decide +kernel
theorem dX11_market_45 : decode cX11_market 45 = .ok (.getfield 343, 3) := by decide +kernel
theorem dX11_market_48 : decode cX11_market 48 = .ok (.iload_n 3, 1) := by decide +kernel
theorem dX11_market_49 : decode cX11_market 49 = .ok (.invokevirtual 397, 3) := by decide +kernel
theorem dX11_market_52 : decode cX11_market 52 = .ok (.aload_n 0, 1) := by decide +kernel
theorem dX11_market_53 : decode cX11_market 53 = .ok (.getfield 10, 3) := by decide +kernel
theorem dX11_market_56 : decode cX11_market 56 = .ok (.getfield 343, 3) := by decide +kernel
theorem dX11_market_59 : decode cX11_market 59 = .ok (.iload_n 2, 1) := by decide +kernel
theorem dX11_market_60 : decode cX11_market 60 = .ok (.invokevirtual 397, 3) := by decide +kernel
theorem dX11_market_63 : decode cX11_market 63 = .ok (.if_icmp .le 5, 3) := by decide +kernel
theorem dX11_market_68 : decode cX11_market 68 = .ok (.iinc 3 1, 3) := by decide +kernel
theorem dX11_market_71 : decode cX11_market 71 = .ok (.goto (-36), 3) := by decide +kernel
theorem dX11_market_74 : decode cX11_market 74 = .ok (.iload_n 2, 1) := by decide +kernel
theorem dX11_market_75 : decode cX11_market 75 = .ok (.ireturn, 1) := by decide +kernel
theorem dX1_copyFrom_0 : decode cX1_copyFrom 0 = .ok (.aload_n 0, 1) := by decide +kernel
theorem dX1_copyFrom_1 : decode cX1_copyFrom 1 = .ok (.aload_n 1, 1) := by decide +kernel
theorem dX1_copyFrom_2 : decode cX1_copyFrom 2 = .ok (.getfield 37, 3) := by decide +kernel
theorem dX1_copyFrom_5 : decode cX1_copyFrom 5 = .ok (.putfield 37, 3) := by decide +kernel
theorem dX1_copyFrom_8 : decode cX1_copyFrom 8 = .ok (.aload_n 0, 1) := by decide +kernel
theorem dX1_copyFrom_9 : decode cX1_copyFrom 9 = .ok (.aload_n 1, 1) := by decide +kernel
theorem dX1_copyFrom_10 : decode cX1_copyFrom 10 = .ok (.getfield 41, 3) := by decide +kernel
theorem dX1_copyFrom_13 : decode cX1_copyFrom 13 = .ok (.putfield 41, 3) := by decide +kernel
theorem dX1_copyFrom_16 : decode cX1_copyFrom 16 = .ok (.aload_n 0, 1) := by decide +kernel
theorem dX1_copyFrom_17 : decode cX1_copyFrom 17 = .ok (.aload_n 1, 1) := by decide +kernel
theorem dX1_copyFrom_18 : decode cX1_copyFrom 18 = .ok (.getfield 44, 3) := by decide +kernel
theorem dX1_copyFrom_21 : decode cX1_copyFrom 21 = .ok (.putfield 44, 3) := by decide +kernel
theorem dX1_copyFrom_24 : decode cX1_copyFrom 24 = .ok (.aload_n 1, 1) := by decide +kernel
theorem dX1_copyFrom_25 : decode cX1_copyFrom 25 = .ok (.getfield 9, 3) := by decide +kernel
theorem dX1_copyFrom_28 : decode cX1_copyFrom 28 = .ok (.iconst 0, 1) := by decide +kernel
theorem dX1_copyFrom_29 : decode cX1_copyFrom 29 = .ok (.aload_n 0, 1) := by decide +kernel
theorem dX1_copyFrom_30 : decode cX1_copyFrom 30 = .ok (.getfield 9, 3) := by decide +kernel
theorem dX1_copyFrom_33 : decode cX1_copyFrom 33 = .ok (.iconst 0, 1) := by decide +kernel
theorem dX1_copyFrom_34 : decode cX1_copyFrom 34 = .ok (.bipush 6, 2) := by decide +kernel
theorem dX1_copyFrom_36 : decode cX1_copyFrom 36 = .ok (.invokestatic 53, 3) := by decide +kernel
theorem dX1_copyFrom_39 : decode cX1_copyFrom 39 = .ok (.aload_n 1, 1) := by decide +kernel
theorem dX1_copyFrom_40 : decode cX1_copyFrom 40 = .ok (.getfield 15, 3) := by decide +kernel
theorem dX1_copyFrom_43 : decode cX1_copyFrom 43 = .ok (.iconst 0, 1) := by decide +kernel
theorem dX1_copyFrom_44 : decode cX1_copyFrom 44 = .ok (.aload_n 0, 1) := by decide +kernel
theorem dX1_copyFrom_45 : decode cX1_copyFrom 45 = .ok (.getfield 15, 3) := by decide +kernel
theorem dX1_copyFrom_48 : decode cX1_copyFrom 48 = .ok (.iconst 0, 1) := by decide +kernel
theorem dX1_copyFrom_49 : decode cX1_copyFrom 49 = .ok (.bipush 6, 2) := by decide +kernel
theorem dX1_copyFrom_51 : decode cX1_copyFrom 51 = .ok (.invokestatic 53, 3) := by decide +kernel
theorem dX1_copyFrom_54 : decode cX1_copyFrom 54 = .ok (.aload_n 1, 1) := by decide +kernel
theorem dX1_copyFrom_55 : decode cX1_copyFrom 55 = .ok (.getfield 18, 3) := by decide +kernel
theorem dX1_copyFrom_58 : decode cX1_copyFrom 58 = .ok (.iconst 0, 1) := by decide +kernel
theorem dX1_copyFrom_59 : decode cX1_copyFrom 59 = .ok (.aload_n 0, 1) := by decide +kernel
theorem dX1_copyFrom_60 : decode cX1_copyFrom 60 = .ok (.getfield 18, 3) := by decide +kernel
theorem dX1_copyFrom_63 : decode cX1_copyFrom 63 = .ok (.iconst 0, 1) := by decide +kernel
theorem dX1_copyFrom_64 : decode cX1_copyFrom 64 = .ok (.bipush 6, 2) := by decide +kernel
theorem dX1_copyFrom_66 : decode cX1_copyFrom 66 = .ok (.invokestatic 53, 3) := by decide +kernel
theorem dX1_copyFrom_69 : decode cX1_copyFrom 69 = .ok (.aload_n 1, 1) := by decide +kernel
theorem dX1_copyFrom_70 : decode cX1_copyFrom 70 = .ok (.getfield 21, 3) := by decide +kernel
theorem dX1_copyFrom_73 : decode cX1_copyFrom 73 = .ok (.iconst 0, 1) := by decide +kernel
theorem dX1_copyFrom_74 : decode cX1_copyFrom 74 = .ok (.aload_n 0, 1) := by decide +kernel
theorem dX1_copyFrom_75 : decode cX1_copyFrom 75 = .ok (.getfield 21, 3) := by decide +kernel
theorem dX1_copyFrom_78 : decode cX1_copyFrom 78 = .ok (.iconst 0, 1) := by decide +kernel
theorem dX1_copyFrom_79 : decode cX1_copyFrom 79 = .ok (.bipush 12, 2) := by decide +kernel
theorem dX1_copyFrom_81 : decode cX1_copyFrom 81 = .ok (.invokestatic 53, 3) := by decide +kernel
theorem dX1_copyFrom_84 : decode cX1_copyFrom 84 = .ok (.iconst 0, 1) := by decide +kernel
theorem dX1_copyFrom_85 : decode cX1_copyFrom 85 = .ok (.istore_n 2, 1) := by decide +kernel
theorem dX1_copyFrom_86 : decode cX1_copyFrom 86 = .ok (.iload_n 2, 1) := by decide +kernel
theorem dX1_copyFrom_87 : decode cX1_copyFrom 87 = .ok (.bipush 12, 2) := by decide +kernel
theorem dX1_copyFrom_89 : decode cX1_copyFrom 89 = .ok (.if_icmp .ge 21, 3) := by decide +kernel
theorem dX1_copyFrom_92 : decode cX1_copyFrom 92 = .ok (.aload_n 0, 1) := by decide +kernel
theorem dX1_copyFrom_93 : decode cX1_copyFrom 93 = .ok (.getfield 24, 3) := by decide +kernel
theorem dX1_copyFrom_96 : decode cX1_copyFrom 96 = .ok (.iload_n 2, 1) := by decide +kernel
theorem dX1_copyFrom_97 : decode cX1_copyFrom 97 = .ok (.aload_n 1, 1) := by decide +kernel
theorem dX1_copyFrom_98 : decode cX1_copyFrom 98 = .ok (.getfield 24, 3) := by decide +kernel
theorem dX1_copyFrom_101 : decode cX1_copyFrom 101 = .ok (.iload_n 2, 1) := by decide +kernel
theorem dX1_copyFrom_102 : decode cX1_copyFrom 102 = .ok (.baload, 1) := by decide +kernel
theorem dX1_copyFrom_103 : decode cX1_copyFrom 103 = .ok (.bastore, 1) := by decide +kernel
theorem dX1_copyFrom_104 : decode cX1_copyFrom 104 = .ok (.iinc 2 1, 3) := by decide +kernel
theorem dX1_copyFrom_107 : decode cX1_copyFrom 107 = .ok (.goto (-21), 3) := by decide +kernel
theorem dX1_copyFrom_110 : decode cX1_copyFrom 110 = .ok (.iconst 0, 1) := by decide +kernel
theorem dX1_copyFrom_111 : decode cX1_copyFrom 111 = .ok (.istore_n 2, 1) := by decide +kernel
theorem dX1_copyFrom_112 : decode cX1_copyFrom 112 = .ok (.iload_n 2, 1) := by decide +kernel
theorem dX1_copyFrom_113 : decode cX1_copyFrom 113 = .ok (.bipush 10, 2) := by decide +kernel
theorem dX1_copyFrom_115 : decode cX1_copyFrom 115 = .ok (.if_icmp .ge 21, 3) := by decide +kernel
theorem dX1_copyFrom_118 : decode cX1_copyFrom 118 = .ok (.aload_n 0, 1) := by decide +kernel
theorem dX1_copyFrom_119 : decode cX1_copyFrom 119 = .ok (.getfield 28, 3) := by decide +kernel
theorem dX1_copyFrom_122 : decode cX1_copyFrom 122 = .ok (.iload_n 2, 1) := by decide +kernel
theorem dX1_copyFrom_123 : decode cX1_copyFrom 123 = .ok (.aload_n 1, 1) := by decide +kernel
theorem dX1_copyFrom_124 : decode cX1_copyFrom 124 = .ok (.getfield 28, 3) := by decide +kernel
theorem dX1_copyFrom_127 : decode cX1_copyFrom 127 = .ok (.iload_n 2, 1) := by decide +kernel
theorem dX1_copyFrom_128 : decode cX1_copyFrom 128 = .ok (.baload, 1) := by decide +kernel
theorem dX1_copyFrom_129 : decode cX1_copyFrom 129 = .ok (.bastore, 1) := by decide +kernel
theorem dX1_copyFrom_130 : decode cX1_copyFrom 130 = .ok (.iinc 2 1, 3) := by decide +kernel
theorem dX1_copyFrom_133 : decode cX1_copyFrom 133 = .ok (.goto (-21), 3) := by decide +kernel
theorem dX1_copyFrom_136 : decode cX1_copyFrom 136 = .ok (.aload_n 1, 1) := by decide +kernel
theorem dX1_copyFrom_137 : decode cX1_copyFrom 137 = .ok (.getfield 31, 3) := by decide +kernel
theorem dX1_copyFrom_140 : decode cX1_copyFrom 140 = .ok (.iconst 0, 1) := by decide +kernel
theorem dX1_copyFrom_141 : decode cX1_copyFrom 141 = .ok (.aload_n 0, 1) := by decide +kernel
theorem dX1_copyFrom_142 : decode cX1_copyFrom 142 = .ok (.getfield 31, 3) := by decide +kernel
theorem dX1_copyFrom_145 : decode cX1_copyFrom 145 = .ok (.iconst 0, 1) := by decide +kernel
theorem dX1_copyFrom_146 : decode cX1_copyFrom 146 = .ok (.bipush 10, 2) := by decide +kernel
theorem dX1_copyFrom_148 : decode cX1_copyFrom 148 = .ok (.invokestatic 53, 3) := by decide +kernel
theorem dX1_copyFrom_151 : decode cX1_copyFrom 151 = .ok (.aload_n 1, 1) := by decide +kernel
theorem dX1_copyFrom_152 : decode cX1_copyFrom 152 = .ok (.getfield 34, 3) := by decide +kernel
theorem dX1_copyFrom_155 : decode cX1_copyFrom 155 = .ok (.iconst 0, 1) := by decide +kernel
theorem dX1_copyFrom_156 : decode cX1_copyFrom 156 = .ok (.aload_n 0, 1) := by decide +kernel
theorem dX1_copyFrom_157 : decode cX1_copyFrom 157 = .ok (.getfield 34, 3) := by decide +kernel
theorem dX1_copyFrom_160 : decode cX1_copyFrom 160 = .ok (.iconst 0, 1) := by decide +kernel
theorem dX1_copyFrom_161 : decode cX1_copyFrom 161 = .ok (.bipush 10, 2) := by decide +kernel
theorem dX1_copyFrom_163 : decode cX1_copyFrom 163 = .ok (.invokestatic 53, 3) := by decide +kernel
theorem dX1_copyFrom_166 : decode cX1_copyFrom 166 = .ok (.return_, 1) := by decide +kernel
theorem dX5_copyFrom_0 : decode cX5_copyFrom 0 = .ok (.aload_n 0, 1) := by decide +kernel
theorem dX5_copyFrom_1 : decode cX5_copyFrom 1 = .ok (.aload_n 1, 1) := by decide +kernel
theorem dX5_copyFrom_2 : decode cX5_copyFrom 2 = .ok (.getfield 30, 3) := by decide +kernel
theorem dX5_copyFrom_5 : decode cX5_copyFrom 5 = .ok (.putfield 30, 3) := by decide +kernel
theorem dX5_copyFrom_8 : decode cX5_copyFrom 8 = .ok (.aload_n 0, 1) := by decide +kernel
theorem dX5_copyFrom_9 : decode cX5_copyFrom 9 = .ok (.aload_n 1, 1) := by decide +kernel
theorem dX5_copyFrom_10 : decode cX5_copyFrom 10 = .ok (.getfield 22, 3) := by decide +kernel
theorem dX5_copyFrom_13 : decode cX5_copyFrom 13 = .ok (.putfield 22, 3) := by decide +kernel
theorem dX5_copyFrom_16 : decode cX5_copyFrom 16 = .ok (.iconst 0, 1) := by decide +kernel
theorem dX5_copyFrom_17 : decode cX5_copyFrom 17 = .ok (.istore_n 2, 1) := by decide +kernel
theorem dX5_copyFrom_18 : decode cX5_copyFrom 18 = .ok (.iload_n 2, 1) := by decide +kernel
theorem dX5_copyFrom_19 : decode cX5_copyFrom 19 = .ok (.bipush 30, 2) := by decide +kernel
theorem dX5_copyFrom_21 : decode cX5_copyFrom 21 = .ok (.if_icmp .ge 36, 3) := by decide +kernel
theorem dX5_copyFrom_24 : decode cX5_copyFrom 24 = .ok (.aload_n 0, 1) := by decide +kernel
theorem dX5_copyFrom_25 : decode cX5_copyFrom 25 = .ok (.getfield 11, 3) := by decide +kernel
theorem dX5_copyFrom_28 : decode cX5_copyFrom 28 = .ok (.iload_n 2, 1) := by decide +kernel
theorem dX5_copyFrom_29 : decode cX5_copyFrom 29 = .ok (.aaload, 1) := by decide +kernel
theorem dX5_copyFrom_30 : decode cX5_copyFrom 30 = .ok (.aload_n 1, 1) := by decide +kernel
theorem dX5_copyFrom_31 : decode cX5_copyFrom 31 = .ok (.getfield 11, 3) := by decide +kernel
theorem dX5_copyFrom_34 : decode cX5_copyFrom 34 = .ok (.iload_n 2, 1) := by decide +kernel
theorem dX5_copyFrom_35 : decode cX5_copyFrom 35 = .ok (.aaload, 1) := by decide +kernel
theorem dX5_copyFrom_36 : decode cX5_copyFrom 36 = .ok (.invokevirtual 26, 3) := by decide +kernel
theorem dX5_copyFrom_39 : decode cX5_copyFrom 39 = .ok (.aload_n 0, 1) := by decide +kernel
theorem dX5_copyFrom_40 : decode cX5_copyFrom 40 = .ok (.getfield 17, 3) := by decide +kernel
theorem dX5_copyFrom_43 : decode cX5_copyFrom 43 = .ok (.iload_n 2, 1) := by decide +kernel
theorem dX5_copyFrom_44 : decode cX5_copyFrom 44 = .ok (.aload_n 1, 1) := by decide +kernel
theorem dX5_copyFrom_45 : decode cX5_copyFrom 45 = .ok (.getfield 17, 3) := by decide +kernel
theorem dX5_copyFrom_48 : decode cX5_copyFrom 48 = .ok (.iload_n 2, 1) := by decide +kernel
theorem dX5_copyFrom_49 : decode cX5_copyFrom 49 = .ok (.iaload, 1) := by decide +kernel
theorem dX5_copyFrom_50 : decode cX5_copyFrom 50 = .ok (.iastore, 1) := by decide +kernel
theorem dX5_copyFrom_51 : decode cX5_copyFrom 51 = .ok (.iinc 2 1, 3) := by decide +kernel
theorem dX5_copyFrom_54 : decode cX5_copyFrom 54 = .ok (.goto (-36), 3) := by decide +kernel
theorem dX5_copyFrom_57 : decode cX5_copyFrom 57 = .ok (.return_, 1) := by decide +kernel
theorem dX6_append_0 : decode cX6_append 0 = .ok (.bipush 24, 2) := by decide +kernel
theorem dX6_append_2 : decode cX6_append 2 = .ok (.istore_n 2, 1) := by decide +kernel
theorem dX6_append_3 : decode cX6_append 3 = .ok (.iload_n 2, 1) := by decide +kernel
theorem dX6_append_4 : decode cX6_append 4 = .ok (.ifCond .lt 45, 3) := by decide +kernel
theorem dX6_append_7 : decode cX6_append 7 = .ok (.aload_n 0, 1) := by decide +kernel
theorem dX6_append_8 : decode cX6_append 8 = .ok (.getfield 24, 3) := by decide +kernel
theorem dX6_append_11 : decode cX6_append 11 = .ok (.sipush 300, 3) := by decide +kernel
theorem dX6_append_14 : decode cX6_append 14 = .ok (.if_icmp .ge 35, 3) := by decide +kernel
theorem dX6_append_17 : decode cX6_append 17 = .ok (.aload_n 0, 1) := by decide +kernel
theorem dX6_append_18 : decode cX6_append 18 = .ok (.getfield 21, 3) := by decide +kernel
theorem dX6_append_21 : decode cX6_append 21 = .ok (.aload_n 0, 1) := by decide +kernel
theorem dX6_append_22 : decode cX6_append 22 = .ok (.getfield 24, 3) := by decide +kernel
theorem dX6_append_25 : decode cX6_append 25 = .ok (.iload_n 1, 1) := by decide +kernel
theorem dX6_append_26 : decode cX6_append 26 = .ok (.iload_n 2, 1) := by decide +kernel
theorem dX6_append_27 : decode cX6_append 27 = .ok (.ishr, 1) := by decide +kernel
theorem dX6_append_28 : decode cX6_append 28 = .ok (.sipush 255, 3) := by decide +kernel
theorem dX6_append_31 : decode cX6_append 31 = .ok (.iand, 1) := by decide +kernel
theorem dX6_append_32 : decode cX6_append 32 = .ok (.iastore, 1) := by decide +kernel
theorem dX6_append_33 : decode cX6_append 33 = .ok (.aload_n 0, 1) := by decide +kernel
theorem dX6_append_34 : decode cX6_append 34 = .ok (.dup, 1) := by decide +kernel
theorem dX6_append_35 : decode cX6_append 35 = .ok (.getfield 24, 3) := by decide +kernel
theorem dX6_append_38 : decode cX6_append 38 = .ok (.iconst 1, 1) := by decide +kernel
theorem dX6_append_39 : decode cX6_append 39 = .ok (.iadd, 1) := by decide +kernel
theorem dX6_append_40 : decode cX6_append 40 = .ok (.putfield 24, 3) := by decide +kernel
theorem dX6_append_43 : decode cX6_append 43 = .ok (.iinc 2 (-8), 3) := by decide +kernel
theorem dX6_append_46 : decode cX6_append 46 = .ok (.goto (-43), 3) := by decide +kernel
theorem dX6_append_49 : decode cX6_append 49 = .ok (.return_, 1) := by decide +kernel
section ZN2
variable {E : zCx} {l0 : Launch} {D0 : va_G} {cy0 : Nat → ClassId} {own : String} {cc : ByteArray} {nL : Nat} {R0 : Room} {k n : Nat} {L : List Nat} {σ : Nat → va_E} {φ : Nat → Nat → Nat → Int32} {ρ : Nat → Nat → Int32} {pc : Nat} {lv : List (Nat × Value)} {st : List Value} {a : Nat}
theorem h_aastN {t0 N0 : Nat} {g : Nat → Option Nat} {i : Int32} {C : String} (hE : zOk E l0 D0 cy0 own cc nL R0) (ha : zT L σ a (zRA (cy0 t0) N0 g)) (ht : (zcy cy0)[t0]? = some (cy0 t0, .object C)) (hi : vp_in i N0) (hg : g i.toNatClampNeg = none) (hd : decode cc pc = .ok (.aastore, 1)) (kk : zW E k n L σ φ ρ (pc + 1) lv st) : zW E k n L σ φ ρ pc lv (.null :: .int i :: .ref a :: st) := by
  obtain ⟨p, l, e, R, s, m, args, below, meth, c, D, cy, A, Q⟩ := E
  obtain ⟨hx, hb, hml, hown, hts, hK, hA, rfl, rfl, rfl, rfl⟩ := hE
  intro H locs ls hJ hl
  obtain ⟨f, hf, hP, hD, hS0⟩ := id hJ
  obtain ⟨h1, -, -⟩ := hf a ha.1
  have e1 := zsh_ra (h1.trans ha.2)
  obtain ⟨q0, hq0⟩ := z_plget (f := f) ha.1
  have hgg : va_up g i.toNatClampNeg none = g := by
    funext j
    by_cases h : j = i.toNatClampNeg
    · rw [h, va_up_self, hg]
    · rw [va_up_ne _ _ h]
  have hff : va_up f a (zRA (cy t0) N0 g) = f := by
    funext j
    by_cases h : j = a
    · rw [h, va_up_self, e1]
    · rw [va_up_ne _ _ h]
  have h9 := z_plset (e := zRA (cy t0) N0 g) hD ha.1 hq0
  rw [hff] at h9
  refine va_astqN hx hb hK.1 hP hD hS0 q0 t0 (f := g) (cA := cy t0) (n := N0) (by rw [e1] at hq0; exact hq0) ht hi hd (fun H1 locs1 hP1 hD1 hS1 => ?_)
  rw [hgg] at hP1 hD1
  exact kk H1 locs1 ls ⟨f, hf, h9 ▸ hP1, h9 ▸ hD1, hS1⟩ hl
end ZN2

set_option maxHeartbeats 4000000 in
set_option maxRecDepth 100000 in
theorem o_about (l : Launch) (D : va_G) (cy : Nat → ClassId) (L : List Nat) (σ : Nat → va_E) (φ : Nat → Nat → Nat → Int32) (ρ : Nat → Nat → Int32) {x : Nat} (w : Int32) (hx : zOR cy L σ φ x) : zMI l D cy yX11_about cX11_about 3 .int (zrm 3 0 0) [.ref x, .int w] L σ φ ρ (fun r _ => r = zabout w) := by
  refine zMI.mk (by decide) (Nat.le_of_ble_eq_true rfl) (fun E hE hret => ?_)
  show zW E 0 0 L σ φ ρ 0 [(0, .ref x), (1, .int w)] []
  obtain ⟨now, kept, tape, reader, weather, planner, ways, la, wo, sp, li, te, g, la', wo', sp', li', te', g', hx, hs, hs0, hk, hk0, htp, htp0, hrd, hrd0, hrd1, hwe, hwe0, hpl, hwy⟩ := hx
  obtain ⟨hn, hla, hwo, hsp, hli, hte⟩ := id hs
  obtain ⟨p45, p46, p00, p01, p10, p50, p51, pl0, pl1, pl2, pg⟩ := id hs0
  obtain ⟨f0, f1, f2, f3, f4, f5, f6, f7, hL, hL0, hL1, hL2, hL3, hL4, hL5, hL6, hL7⟩ := id hla
  obtain ⟨w0, w1, w2, w3, w4, w5, w6, w7, hW, hW0, hW1, hW2, hW3, hW4, hW5, hW6, hW7⟩ := id hwo
  obtain ⟨s0, s1, hSp, hSp0, hSp1, hSpW⟩ := id hsp
  obtain ⟨i0, i1, i2, i3, i4, i5, i6, i7, hLi, hLi0, hLi1, hLi2, hLi3, hLi4, hLi5, hLi6, hLi7⟩ := id hli
  obtain ⟨t0, t1, t2, t3, hTp, hTp0, hTp1, hTp2, hTp3, hTn1, hTn2⟩ := id htp
  refine x_aload_n hE dX11_about_0 rfl 0 rfl ?_
  refine h_getr hE hx rfl inZX11 0 (by decide) q556 rfl dX11_about_1 ?_
  refine h_getr hE hn rfl inZX4 1 (by decide) q369 rfl dX11_about_4 ?_
  refine x_astore_n (lv' := [(2, .ref wo), (0, .ref x), (1, .int w)]) hE dX11_about_7 rfl (by decide) rfl ?_
  refine x_iload_n hE dX11_about_8 rfl 2 rfl ?_
  rcases z_sw (w) 14 (by omega) with ho_9 | ⟨j_9, hj_9, e_9⟩
  · refine x_tableOut (tgt := 195) hE dX11_about_9 ho_9 (by decide) ?_
    refine x_bipush (v := -2) hE dX11_about_195 (by decide) ?_
    exact hret _ _ _ _ _ _ _ _ (-2) (Nat.le_of_ble_eq_true rfl) (Nat.le_of_ble_eq_true rfl) dX11_about_197 (rfl) ((zabout_out ho_9).symm)
  · rcases (show j_9 = 0 ∨ j_9 = 1 ∨ j_9 = 2 ∨ j_9 = 3 ∨ j_9 = 4 ∨ j_9 = 5 ∨ j_9 = 6 ∨ j_9 = 7 ∨ j_9 = 8 ∨ j_9 = 9 ∨ j_9 = 10 ∨ j_9 = 11 ∨ j_9 = 12 ∨ j_9 = 13 by omega) with rfl | rfl | rfl | rfl | rfl | rfl | rfl | rfl | rfl | rfl | rfl | rfl | rfl | rfl
    · rw [e_9]
      refine x_tableIn (off := 71) (tgt := 80) hE dX11_about_9 (by decide) (by decide) (by decide) (by decide) ?_
      refine x_aload_n hE dX11_about_80 rfl 1 rfl ?_
      refine h_getr hE hx rfl inZX11 0 (by decide) q556 rfl dX11_about_81 ?_
      refine h_getr hE hn rfl inZX4 0 (by decide) q362 rfl dX11_about_84 ?_
      refine h_geti hE hL rfl inZX0 0 (by decide) q156 rfl dX11_about_87 ?_
      refine x_norm (y := 0) (p00) ?_
      exact hret _ _ _ _ _ _ _ _ (0) (Nat.le_of_ble_eq_true rfl) (Nat.le_of_ble_eq_true rfl) dX11_about_90 (rfl) (by rw [e_9]; show (0 : Int32) = zabout (nI 0); decide)
    · rw [e_9]
      refine x_tableIn (off := 82) (tgt := 91) hE dX11_about_9 (by decide) (by decide) (by decide) (by decide) ?_
      refine x_aload_n hE dX11_about_91 rfl 1 rfl ?_
      refine h_getr hE hx rfl inZX11 0 (by decide) q556 rfl dX11_about_92 ?_
      refine h_getr hE hn rfl inZX4 0 (by decide) q362 rfl dX11_about_95 ?_
      refine h_geti hE hL rfl inZX0 1 (by decide) q161 rfl dX11_about_98 ?_
      refine x_norm (y := 0) (p01) ?_
      exact hret _ _ _ _ _ _ _ _ (0) (Nat.le_of_ble_eq_true rfl) (Nat.le_of_ble_eq_true rfl) dX11_about_101 (rfl) (by rw [e_9]; show (0 : Int32) = zabout (nI 1); decide)
    · rw [e_9]
      refine x_tableIn (off := 93) (tgt := 102) hE dX11_about_9 (by decide) (by decide) (by decide) (by decide) ?_
      refine x_aload_n hE dX11_about_102 rfl 0 rfl ?_
      refine h_geti hE hW rfl inZX10 9 (by decide) q249 rfl dX11_about_103 ?_
      refine x_norm (y := 0) (by simpa using p10 9) ?_
      exact hret _ _ _ _ _ _ _ _ (0) (Nat.le_of_ble_eq_true rfl) (Nat.le_of_ble_eq_true rfl) dX11_about_106 (rfl) (by rw [e_9]; show (0 : Int32) = zabout (nI 2); decide)
    · rw [e_9]
      refine x_tableIn (off := 98) (tgt := 107) hE dX11_about_9 (by decide) (by decide) (by decide) (by decide) ?_
      refine x_aload_n hE dX11_about_107 rfl 0 rfl ?_
      refine h_geti hE hW rfl inZX10 6 (by decide) q240 rfl dX11_about_108 ?_
      refine x_norm (y := 0) (by simpa using p10 6) ?_
      exact hret _ _ _ _ _ _ _ _ (0) (Nat.le_of_ble_eq_true rfl) (Nat.le_of_ble_eq_true rfl) dX11_about_111 (rfl) (by rw [e_9]; show (0 : Int32) = zabout (nI 3); decide)
    · rw [e_9]
      refine x_tableIn (off := 103) (tgt := 112) hE dX11_about_9 (by decide) (by decide) (by decide) (by decide) ?_
      refine x_aload_n hE dX11_about_112 rfl 0 rfl ?_
      refine h_geti hE hW rfl inZX10 7 (by decide) q243 rfl dX11_about_113 ?_
      refine x_norm (y := 0) (by simpa using p10 7) ?_
      exact hret _ _ _ _ _ _ _ _ (0) (Nat.le_of_ble_eq_true rfl) (Nat.le_of_ble_eq_true rfl) dX11_about_116 (rfl) (by rw [e_9]; show (0 : Int32) = zabout (nI 4); decide)
    · rw [e_9]
      refine x_tableIn (off := 108) (tgt := 117) hE dX11_about_9 (by decide) (by decide) (by decide) (by decide) ?_
      refine x_aload_n hE dX11_about_117 rfl 0 rfl ?_
      refine h_geti hE hW rfl inZX10 8 (by decide) q246 rfl dX11_about_118 ?_
      refine x_norm (y := 0) (by simpa using p10 8) ?_
      exact hret _ _ _ _ _ _ _ _ (0) (Nat.le_of_ble_eq_true rfl) (Nat.le_of_ble_eq_true rfl) dX11_about_121 (rfl) (by rw [e_9]; show (0 : Int32) = zabout (nI 5); decide)
    · rw [e_9]
      refine x_tableIn (off := 113) (tgt := 122) hE dX11_about_9 (by decide) (by decide) (by decide) (by decide) ?_
      refine x_aload_n hE dX11_about_122 rfl 0 rfl ?_
      refine h_geti hE hW rfl inZX10 10 (by decide) q251 rfl dX11_about_123 ?_
      refine x_norm (y := 37) (by simpa using p10 10) ?_
      exact hret _ _ _ _ _ _ _ _ (37) (Nat.le_of_ble_eq_true rfl) (Nat.le_of_ble_eq_true rfl) dX11_about_126 (rfl) (by rw [e_9]; show (37 : Int32) = zabout (nI 6); decide)
    · rw [e_9]
      refine x_tableIn (off := 118) (tgt := 127) hE dX11_about_9 (by decide) (by decide) (by decide) (by decide) ?_
      refine x_aload_n hE dX11_about_127 rfl 1 rfl ?_
      refine h_getr hE hx rfl inZX11 0 (by decide) q556 rfl dX11_about_128 ?_
      refine h_geti hE hn rfl inZX4 5 (by decide) q377 rfl dX11_about_131 ?_
      refine x_norm (y := 0) (p45) ?_
      exact hret _ _ _ _ _ _ _ _ (0) (Nat.le_of_ble_eq_true rfl) (Nat.le_of_ble_eq_true rfl) dX11_about_134 (rfl) (by rw [e_9]; show (0 : Int32) = zabout (nI 7); decide)
    · rw [e_9]
      refine x_tableIn (off := 126) (tgt := 135) hE dX11_about_9 (by decide) (by decide) (by decide) (by decide) ?_
      refine x_aload_n hE dX11_about_135 rfl 1 rfl ?_
      refine h_getr hE hx rfl inZX11 0 (by decide) q556 rfl dX11_about_136 ?_
      refine h_geti hE hn rfl inZX4 6 (by decide) q379 rfl dX11_about_139 ?_
      refine x_norm (y := -1) (p46) ?_
      exact hret _ _ _ _ _ _ _ _ (-1) (Nat.le_of_ble_eq_true rfl) (Nat.le_of_ble_eq_true rfl) dX11_about_142 (rfl) (by rw [e_9]; show (-1 : Int32) = zabout (nI 8); decide)
    · rw [e_9]
      refine x_tableIn (off := 134) (tgt := 143) hE dX11_about_9 (by decide) (by decide) (by decide) (by decide) ?_
      refine x_aload_n hE dX11_about_143 rfl 1 rfl ?_
      refine h_getr hE hx rfl inZX11 0 (by decide) q556 rfl dX11_about_144 ?_
      refine h_getr hE hn rfl inZX4 2 (by decide) q371 rfl dX11_about_147 ?_
      refine h_geti hE hSp rfl inZX5 0 (by decide) q299 rfl dX11_about_150 ?_
      refine x_norm (y := 0) (p50) ?_
      exact hret _ _ _ _ _ _ _ _ (0) (Nat.le_of_ble_eq_true rfl) (Nat.le_of_ble_eq_true rfl) dX11_about_153 (rfl) (by rw [e_9]; show (0 : Int32) = zabout (nI 9); decide)
    · rw [e_9]
      refine x_tableIn (off := 145) (tgt := 154) hE dX11_about_9 (by decide) (by decide) (by decide) (by decide) ?_
      refine x_aload_n hE dX11_about_154 rfl 1 rfl ?_
      refine h_getr hE hx rfl inZX11 0 (by decide) q556 rfl dX11_about_155 ?_
      refine h_getr hE hn rfl inZX4 3 (by decide) q373 rfl dX11_about_158 ?_
      refine h_geti hE hLi rfl inZX1 0 (by decide) q319 rfl dX11_about_161 ?_
      refine x_norm (y := 0) (pl0) ?_
      exact hret _ _ _ _ _ _ _ _ (0) (Nat.le_of_ble_eq_true rfl) (Nat.le_of_ble_eq_true rfl) dX11_about_164 (rfl) (by rw [e_9]; show (0 : Int32) = zabout (nI 10); decide)
    · rw [e_9]
      refine x_tableIn (off := 156) (tgt := 165) hE dX11_about_9 (by decide) (by decide) (by decide) (by decide) ?_
      refine x_aload_n hE dX11_about_165 rfl 1 rfl ?_
      refine h_getr hE hx rfl inZX11 0 (by decide) q556 rfl dX11_about_166 ?_
      refine h_getr hE hn rfl inZX4 3 (by decide) q373 rfl dX11_about_169 ?_
      refine h_geti hE hLi rfl inZX1 1 (by decide) q321 rfl dX11_about_172 ?_
      refine x_norm (y := 0) (pl1) ?_
      exact hret _ _ _ _ _ _ _ _ (0) (Nat.le_of_ble_eq_true rfl) (Nat.le_of_ble_eq_true rfl) dX11_about_175 (rfl) (by rw [e_9]; show (0 : Int32) = zabout (nI 11); decide)
    · rw [e_9]
      refine x_tableIn (off := 167) (tgt := 176) hE dX11_about_9 (by decide) (by decide) (by decide) (by decide) ?_
      refine x_aload_n hE dX11_about_176 rfl 1 rfl ?_
      refine h_getr hE hx rfl inZX11 0 (by decide) q556 rfl dX11_about_177 ?_
      refine h_getr hE hn rfl inZX4 3 (by decide) q373 rfl dX11_about_180 ?_
      refine h_geti hE hLi rfl inZX1 2 (by decide) q323 rfl dX11_about_183 ?_
      refine x_norm (y := 0) (pl2) ?_
      exact hret _ _ _ _ _ _ _ _ (0) (Nat.le_of_ble_eq_true rfl) (Nat.le_of_ble_eq_true rfl) dX11_about_186 (rfl) (by rw [e_9]; show (0 : Int32) = zabout (nI 12); decide)
    · rw [e_9]
      refine x_tableIn (off := 178) (tgt := 187) hE dX11_about_9 (by decide) (by decide) (by decide) (by decide) ?_
      refine x_aload_n hE dX11_about_187 rfl 1 rfl ?_
      refine h_getr hE hx rfl inZX11 2 (by decide) q558 rfl dX11_about_188 ?_
      refine h_geti hE hTp rfl inZX6 0 (by decide) q403 rfl dX11_about_191 ?_
      refine x_norm (y := 0) (htp0) ?_
      exact hret _ _ _ _ _ _ _ _ (0) (Nat.le_of_ble_eq_true rfl) (Nat.le_of_ble_eq_true rfl) dX11_about_194 (rfl) (by rw [e_9]; show (0 : Int32) = zabout (nI 13); decide)
set_option maxHeartbeats 4000000 in
set_option maxRecDepth 100000 in
theorem k_append0 (l : Launch) (D : va_G) (cy : Nat → ClassId) (L : List Nat) (σ : Nat → va_E) (φ : Nat → Nat → Nat → Int32) (ρ : Nat → Nat → Int32) {t t0 t1 t2 t3 : Nat} (v : Int32) (ht : zT L σ t (.inr (6, [.int 0, .int 0, .ref t0, .ref t1, .ref t2, .ref t3]))) (ht3 : zT L σ t3 (zIA cy 300)) (h0 : φ 6 0 t = 0) : zMV l D cy yX6_append cX6_append 3 (zrm 0 0 0) [.ref t, .int v] L σ φ ρ (zsv L σ (fun φ' _ => φ' 6 0 t = 4)) := by
  refine zMV.mk (by decide) (Nat.le_of_ble_eq_true rfl) (fun E hE hI hret => ?_)
  show zW E 0 0 L σ φ ρ 0 [(0, .ref t), (1, .int v)] []
  refine x_bipush (v := 24) hE dX6_append_0 (by decide) ?_
  refine x_istore_n (lv' := [(2, .int 24), (0, .ref t), (1, .int v)]) hE dX6_append_2 rfl (by decide) rfl ?_
  refine x_iload_n hE dX6_append_3 rfl 0 rfl ?_
  refine x_if_lt (tgt := 49) hE dX6_append_4 (by decide) (fun c_4 => absurd c_4 (by decide)) (fun c_4 => ?_)
  refine x_aload_n hE dX6_append_7 rfl 1 rfl ?_
  refine h_geti hE ht rfl inZX6 0 (by decide) q401 rfl dX6_append_8 ?_
  refine x_norm (y := 0) (h0) ?_
  refine x_sipush (v := 300) hE dX6_append_11 (by decide) ?_
  refine x_icmp_ge (tgt := 49) hE dX6_append_14 (by decide) (fun c_14 => absurd c_14 (by decide)) (fun c_14 => ?_)
  refine x_aload_n hE dX6_append_17 rfl 1 rfl ?_
  refine h_getr hE ht rfl inZX6 5 (by decide) q412 rfl dX6_append_18 ?_
  refine x_aload_n hE dX6_append_21 rfl 1 rfl ?_
  refine h_geti hE ht rfl inZX6 0 (by decide) q401 rfl dX6_append_22 ?_
  refine x_norm (y := 0) (h0) ?_
  refine x_iload_n hE dX6_append_25 rfl 2 rfl ?_
  refine x_iload_n hE dX6_append_26 rfl 0 rfl ?_
  refine x_ishr hE dX6_append_27 ?_
  refine x_sipush (v := 255) hE dX6_append_28 (by decide) ?_
  refine x_iand hE dX6_append_31 ?_
  refine h_iast hE ht3 (by unfold vp_in; decide) dX6_append_32 ?_
  refine x_rho (fun ρ_32 hρ_32 => ?_)
  refine x_aload_n hE dX6_append_33 rfl 1 rfl ?_
  refine x_dup hE dX6_append_34 rfl ?_
  refine h_geti hE ht rfl inZX6 0 (by decide) q401 rfl dX6_append_35 ?_
  refine x_norm (y := 0) (h0) ?_
  refine x_iconst (v := 1) hE dX6_append_38 (by decide) ?_
  refine x_iadd hE dX6_append_39 ?_
  refine x_norm (y := 1) (by decide) ?_
  refine h_puti (ty := .int) (ty0 := tyX6) hE ht rfl inZX6 tyX6_ok nmX6 0 (by decide) q401 rfl rfl (by decide +kernel) rfl rfl dX6_append_40 ?_
  refine x_iinc (v := 16) (lv' := [(2, .int 16), (0, .ref t), (1, .int v)]) hE dX6_append_43 0 rfl (by decide) (by decide) rfl ?_
  refine x_goto (tgt := 3) hE dX6_append_46 (by decide) ?_
  refine x_iload_n hE dX6_append_3 rfl 0 rfl ?_
  refine x_if_lt (tgt := 49) hE dX6_append_4 (by decide) (fun c_4 => absurd c_4 (by decide)) (fun c_4 => ?_)
  refine x_aload_n hE dX6_append_7 rfl 1 rfl ?_
  refine h_geti hE ht rfl inZX6 0 (by decide) q401 rfl dX6_append_8 ?_
  refine x_norm (y := 1) (by simp [zup]) ?_
  refine x_sipush (v := 300) hE dX6_append_11 (by decide) ?_
  refine x_icmp_ge (tgt := 49) hE dX6_append_14 (by decide) (fun c_14 => absurd c_14 (by decide)) (fun c_14 => ?_)
  refine x_aload_n hE dX6_append_17 rfl 1 rfl ?_
  refine h_getr hE ht rfl inZX6 5 (by decide) q412 rfl dX6_append_18 ?_
  refine x_aload_n hE dX6_append_21 rfl 1 rfl ?_
  refine h_geti hE ht rfl inZX6 0 (by decide) q401 rfl dX6_append_22 ?_
  refine x_norm (y := 1) (by simp [zup]) ?_
  refine x_iload_n hE dX6_append_25 rfl 2 rfl ?_
  refine x_iload_n hE dX6_append_26 rfl 0 rfl ?_
  refine x_ishr hE dX6_append_27 ?_
  refine x_sipush (v := 255) hE dX6_append_28 (by decide) ?_
  refine x_iand hE dX6_append_31 ?_
  refine h_iast hE ht3 (by unfold vp_in; decide) dX6_append_32 ?_
  refine x_rho (fun ρ_32 hρ_32 => ?_)
  refine x_aload_n hE dX6_append_33 rfl 1 rfl ?_
  refine x_dup hE dX6_append_34 rfl ?_
  refine h_geti hE ht rfl inZX6 0 (by decide) q401 rfl dX6_append_35 ?_
  refine x_norm (y := 1) (by simp [zup]) ?_
  refine x_iconst (v := 1) hE dX6_append_38 (by decide) ?_
  refine x_iadd hE dX6_append_39 ?_
  refine x_norm (y := 2) (by decide) ?_
  refine h_puti (ty := .int) (ty0 := tyX6) hE ht rfl inZX6 tyX6_ok nmX6 0 (by decide) q401 rfl rfl (by decide +kernel) rfl rfl dX6_append_40 ?_
  refine x_iinc (v := 8) (lv' := [(2, .int 8), (0, .ref t), (1, .int v)]) hE dX6_append_43 0 rfl (by decide) (by decide) rfl ?_
  refine x_goto (tgt := 3) hE dX6_append_46 (by decide) ?_
  refine x_iload_n hE dX6_append_3 rfl 0 rfl ?_
  refine x_if_lt (tgt := 49) hE dX6_append_4 (by decide) (fun c_4 => absurd c_4 (by decide)) (fun c_4 => ?_)
  refine x_aload_n hE dX6_append_7 rfl 1 rfl ?_
  refine h_geti hE ht rfl inZX6 0 (by decide) q401 rfl dX6_append_8 ?_
  refine x_norm (y := 2) (by simp [zup]) ?_
  refine x_sipush (v := 300) hE dX6_append_11 (by decide) ?_
  refine x_icmp_ge (tgt := 49) hE dX6_append_14 (by decide) (fun c_14 => absurd c_14 (by decide)) (fun c_14 => ?_)
  refine x_aload_n hE dX6_append_17 rfl 1 rfl ?_
  refine h_getr hE ht rfl inZX6 5 (by decide) q412 rfl dX6_append_18 ?_
  refine x_aload_n hE dX6_append_21 rfl 1 rfl ?_
  refine h_geti hE ht rfl inZX6 0 (by decide) q401 rfl dX6_append_22 ?_
  refine x_norm (y := 2) (by simp [zup]) ?_
  refine x_iload_n hE dX6_append_25 rfl 2 rfl ?_
  refine x_iload_n hE dX6_append_26 rfl 0 rfl ?_
  refine x_ishr hE dX6_append_27 ?_
  refine x_sipush (v := 255) hE dX6_append_28 (by decide) ?_
  refine x_iand hE dX6_append_31 ?_
  refine h_iast hE ht3 (by unfold vp_in; decide) dX6_append_32 ?_
  refine x_rho (fun ρ_32 hρ_32 => ?_)
  refine x_aload_n hE dX6_append_33 rfl 1 rfl ?_
  refine x_dup hE dX6_append_34 rfl ?_
  refine h_geti hE ht rfl inZX6 0 (by decide) q401 rfl dX6_append_35 ?_
  refine x_norm (y := 2) (by simp [zup]) ?_
  refine x_iconst (v := 1) hE dX6_append_38 (by decide) ?_
  refine x_iadd hE dX6_append_39 ?_
  refine x_norm (y := 3) (by decide) ?_
  refine h_puti (ty := .int) (ty0 := tyX6) hE ht rfl inZX6 tyX6_ok nmX6 0 (by decide) q401 rfl rfl (by decide +kernel) rfl rfl dX6_append_40 ?_
  refine x_iinc (v := 0) (lv' := [(2, .int 0), (0, .ref t), (1, .int v)]) hE dX6_append_43 0 rfl (by decide) (by decide) rfl ?_
  refine x_goto (tgt := 3) hE dX6_append_46 (by decide) ?_
  refine x_iload_n hE dX6_append_3 rfl 0 rfl ?_
  refine x_if_lt (tgt := 49) hE dX6_append_4 (by decide) (fun c_4 => absurd c_4 (by decide)) (fun c_4 => ?_)
  refine x_aload_n hE dX6_append_7 rfl 1 rfl ?_
  refine h_geti hE ht rfl inZX6 0 (by decide) q401 rfl dX6_append_8 ?_
  refine x_norm (y := 3) (by simp [zup]) ?_
  refine x_sipush (v := 300) hE dX6_append_11 (by decide) ?_
  refine x_icmp_ge (tgt := 49) hE dX6_append_14 (by decide) (fun c_14 => absurd c_14 (by decide)) (fun c_14 => ?_)
  refine x_aload_n hE dX6_append_17 rfl 1 rfl ?_
  refine h_getr hE ht rfl inZX6 5 (by decide) q412 rfl dX6_append_18 ?_
  refine x_aload_n hE dX6_append_21 rfl 1 rfl ?_
  refine h_geti hE ht rfl inZX6 0 (by decide) q401 rfl dX6_append_22 ?_
  refine x_norm (y := 3) (by simp [zup]) ?_
  refine x_iload_n hE dX6_append_25 rfl 2 rfl ?_
  refine x_iload_n hE dX6_append_26 rfl 0 rfl ?_
  refine x_ishr hE dX6_append_27 ?_
  refine x_sipush (v := 255) hE dX6_append_28 (by decide) ?_
  refine x_iand hE dX6_append_31 ?_
  refine h_iast hE ht3 (by unfold vp_in; decide) dX6_append_32 ?_
  refine x_rho (fun ρ_32 hρ_32 => ?_)
  refine x_aload_n hE dX6_append_33 rfl 1 rfl ?_
  refine x_dup hE dX6_append_34 rfl ?_
  refine h_geti hE ht rfl inZX6 0 (by decide) q401 rfl dX6_append_35 ?_
  refine x_norm (y := 3) (by simp [zup]) ?_
  refine x_iconst (v := 1) hE dX6_append_38 (by decide) ?_
  refine x_iadd hE dX6_append_39 ?_
  refine x_norm (y := 4) (by decide) ?_
  refine h_puti (ty := .int) (ty0 := tyX6) hE ht rfl inZX6 tyX6_ok nmX6 0 (by decide) q401 rfl rfl (by decide +kernel) rfl rfl dX6_append_40 ?_
  refine x_iinc (v := -8) (lv' := [(2, .int (-8)), (0, .ref t), (1, .int v)]) hE dX6_append_43 0 rfl (by decide) (by decide) rfl ?_
  refine x_goto (tgt := 3) hE dX6_append_46 (by decide) ?_
  refine x_iload_n hE dX6_append_3 rfl 0 rfl ?_
  refine x_if_lt (tgt := 49) hE dX6_append_4 (by decide) (fun c_4 => ?_) (fun c_4 => absurd (by decide) c_4)
  exact hret _ _ _ _ _ _ _ _ (Nat.le_of_ble_eq_true rfl) (Nat.le_of_ble_eq_true rfl) dX6_append_49 (⟨rfl, rfl, by simp [zup]⟩)
set_option maxHeartbeats 4000000 in
set_option maxRecDepth 100000 in
theorem k_append4 (l : Launch) (D : va_G) (cy : Nat → ClassId) (L : List Nat) (σ : Nat → va_E) (φ : Nat → Nat → Nat → Int32) (ρ : Nat → Nat → Int32) {t t0 t1 t2 t3 : Nat} (v : Int32) (ht : zT L σ t (.inr (6, [.int 0, .int 0, .ref t0, .ref t1, .ref t2, .ref t3]))) (ht3 : zT L σ t3 (zIA cy 300)) (h0 : φ 6 0 t = 4) : zMV l D cy yX6_append cX6_append 3 (zrm 0 0 0) [.ref t, .int v] L σ φ ρ (zsv L σ (fun φ' _ => φ' 6 0 t = 8)) := by
  refine zMV.mk (by decide) (Nat.le_of_ble_eq_true rfl) (fun E hE hI hret => ?_)
  show zW E 0 0 L σ φ ρ 0 [(0, .ref t), (1, .int v)] []
  refine x_bipush (v := 24) hE dX6_append_0 (by decide) ?_
  refine x_istore_n (lv' := [(2, .int 24), (0, .ref t), (1, .int v)]) hE dX6_append_2 rfl (by decide) rfl ?_
  refine x_iload_n hE dX6_append_3 rfl 0 rfl ?_
  refine x_if_lt (tgt := 49) hE dX6_append_4 (by decide) (fun c_4 => absurd c_4 (by decide)) (fun c_4 => ?_)
  refine x_aload_n hE dX6_append_7 rfl 1 rfl ?_
  refine h_geti hE ht rfl inZX6 0 (by decide) q401 rfl dX6_append_8 ?_
  refine x_norm (y := 4) (h0) ?_
  refine x_sipush (v := 300) hE dX6_append_11 (by decide) ?_
  refine x_icmp_ge (tgt := 49) hE dX6_append_14 (by decide) (fun c_14 => absurd c_14 (by decide)) (fun c_14 => ?_)
  refine x_aload_n hE dX6_append_17 rfl 1 rfl ?_
  refine h_getr hE ht rfl inZX6 5 (by decide) q412 rfl dX6_append_18 ?_
  refine x_aload_n hE dX6_append_21 rfl 1 rfl ?_
  refine h_geti hE ht rfl inZX6 0 (by decide) q401 rfl dX6_append_22 ?_
  refine x_norm (y := 4) (h0) ?_
  refine x_iload_n hE dX6_append_25 rfl 2 rfl ?_
  refine x_iload_n hE dX6_append_26 rfl 0 rfl ?_
  refine x_ishr hE dX6_append_27 ?_
  refine x_sipush (v := 255) hE dX6_append_28 (by decide) ?_
  refine x_iand hE dX6_append_31 ?_
  refine h_iast hE ht3 (by unfold vp_in; decide) dX6_append_32 ?_
  refine x_rho (fun ρ_32 hρ_32 => ?_)
  refine x_aload_n hE dX6_append_33 rfl 1 rfl ?_
  refine x_dup hE dX6_append_34 rfl ?_
  refine h_geti hE ht rfl inZX6 0 (by decide) q401 rfl dX6_append_35 ?_
  refine x_norm (y := 4) (h0) ?_
  refine x_iconst (v := 1) hE dX6_append_38 (by decide) ?_
  refine x_iadd hE dX6_append_39 ?_
  refine x_norm (y := 5) (by decide) ?_
  refine h_puti (ty := .int) (ty0 := tyX6) hE ht rfl inZX6 tyX6_ok nmX6 0 (by decide) q401 rfl rfl (by decide +kernel) rfl rfl dX6_append_40 ?_
  refine x_iinc (v := 16) (lv' := [(2, .int 16), (0, .ref t), (1, .int v)]) hE dX6_append_43 0 rfl (by decide) (by decide) rfl ?_
  refine x_goto (tgt := 3) hE dX6_append_46 (by decide) ?_
  refine x_iload_n hE dX6_append_3 rfl 0 rfl ?_
  refine x_if_lt (tgt := 49) hE dX6_append_4 (by decide) (fun c_4 => absurd c_4 (by decide)) (fun c_4 => ?_)
  refine x_aload_n hE dX6_append_7 rfl 1 rfl ?_
  refine h_geti hE ht rfl inZX6 0 (by decide) q401 rfl dX6_append_8 ?_
  refine x_norm (y := 5) (by simp [zup]) ?_
  refine x_sipush (v := 300) hE dX6_append_11 (by decide) ?_
  refine x_icmp_ge (tgt := 49) hE dX6_append_14 (by decide) (fun c_14 => absurd c_14 (by decide)) (fun c_14 => ?_)
  refine x_aload_n hE dX6_append_17 rfl 1 rfl ?_
  refine h_getr hE ht rfl inZX6 5 (by decide) q412 rfl dX6_append_18 ?_
  refine x_aload_n hE dX6_append_21 rfl 1 rfl ?_
  refine h_geti hE ht rfl inZX6 0 (by decide) q401 rfl dX6_append_22 ?_
  refine x_norm (y := 5) (by simp [zup]) ?_
  refine x_iload_n hE dX6_append_25 rfl 2 rfl ?_
  refine x_iload_n hE dX6_append_26 rfl 0 rfl ?_
  refine x_ishr hE dX6_append_27 ?_
  refine x_sipush (v := 255) hE dX6_append_28 (by decide) ?_
  refine x_iand hE dX6_append_31 ?_
  refine h_iast hE ht3 (by unfold vp_in; decide) dX6_append_32 ?_
  refine x_rho (fun ρ_32 hρ_32 => ?_)
  refine x_aload_n hE dX6_append_33 rfl 1 rfl ?_
  refine x_dup hE dX6_append_34 rfl ?_
  refine h_geti hE ht rfl inZX6 0 (by decide) q401 rfl dX6_append_35 ?_
  refine x_norm (y := 5) (by simp [zup]) ?_
  refine x_iconst (v := 1) hE dX6_append_38 (by decide) ?_
  refine x_iadd hE dX6_append_39 ?_
  refine x_norm (y := 6) (by decide) ?_
  refine h_puti (ty := .int) (ty0 := tyX6) hE ht rfl inZX6 tyX6_ok nmX6 0 (by decide) q401 rfl rfl (by decide +kernel) rfl rfl dX6_append_40 ?_
  refine x_iinc (v := 8) (lv' := [(2, .int 8), (0, .ref t), (1, .int v)]) hE dX6_append_43 0 rfl (by decide) (by decide) rfl ?_
  refine x_goto (tgt := 3) hE dX6_append_46 (by decide) ?_
  refine x_iload_n hE dX6_append_3 rfl 0 rfl ?_
  refine x_if_lt (tgt := 49) hE dX6_append_4 (by decide) (fun c_4 => absurd c_4 (by decide)) (fun c_4 => ?_)
  refine x_aload_n hE dX6_append_7 rfl 1 rfl ?_
  refine h_geti hE ht rfl inZX6 0 (by decide) q401 rfl dX6_append_8 ?_
  refine x_norm (y := 6) (by simp [zup]) ?_
  refine x_sipush (v := 300) hE dX6_append_11 (by decide) ?_
  refine x_icmp_ge (tgt := 49) hE dX6_append_14 (by decide) (fun c_14 => absurd c_14 (by decide)) (fun c_14 => ?_)
  refine x_aload_n hE dX6_append_17 rfl 1 rfl ?_
  refine h_getr hE ht rfl inZX6 5 (by decide) q412 rfl dX6_append_18 ?_
  refine x_aload_n hE dX6_append_21 rfl 1 rfl ?_
  refine h_geti hE ht rfl inZX6 0 (by decide) q401 rfl dX6_append_22 ?_
  refine x_norm (y := 6) (by simp [zup]) ?_
  refine x_iload_n hE dX6_append_25 rfl 2 rfl ?_
  refine x_iload_n hE dX6_append_26 rfl 0 rfl ?_
  refine x_ishr hE dX6_append_27 ?_
  refine x_sipush (v := 255) hE dX6_append_28 (by decide) ?_
  refine x_iand hE dX6_append_31 ?_
  refine h_iast hE ht3 (by unfold vp_in; decide) dX6_append_32 ?_
  refine x_rho (fun ρ_32 hρ_32 => ?_)
  refine x_aload_n hE dX6_append_33 rfl 1 rfl ?_
  refine x_dup hE dX6_append_34 rfl ?_
  refine h_geti hE ht rfl inZX6 0 (by decide) q401 rfl dX6_append_35 ?_
  refine x_norm (y := 6) (by simp [zup]) ?_
  refine x_iconst (v := 1) hE dX6_append_38 (by decide) ?_
  refine x_iadd hE dX6_append_39 ?_
  refine x_norm (y := 7) (by decide) ?_
  refine h_puti (ty := .int) (ty0 := tyX6) hE ht rfl inZX6 tyX6_ok nmX6 0 (by decide) q401 rfl rfl (by decide +kernel) rfl rfl dX6_append_40 ?_
  refine x_iinc (v := 0) (lv' := [(2, .int 0), (0, .ref t), (1, .int v)]) hE dX6_append_43 0 rfl (by decide) (by decide) rfl ?_
  refine x_goto (tgt := 3) hE dX6_append_46 (by decide) ?_
  refine x_iload_n hE dX6_append_3 rfl 0 rfl ?_
  refine x_if_lt (tgt := 49) hE dX6_append_4 (by decide) (fun c_4 => absurd c_4 (by decide)) (fun c_4 => ?_)
  refine x_aload_n hE dX6_append_7 rfl 1 rfl ?_
  refine h_geti hE ht rfl inZX6 0 (by decide) q401 rfl dX6_append_8 ?_
  refine x_norm (y := 7) (by simp [zup]) ?_
  refine x_sipush (v := 300) hE dX6_append_11 (by decide) ?_
  refine x_icmp_ge (tgt := 49) hE dX6_append_14 (by decide) (fun c_14 => absurd c_14 (by decide)) (fun c_14 => ?_)
  refine x_aload_n hE dX6_append_17 rfl 1 rfl ?_
  refine h_getr hE ht rfl inZX6 5 (by decide) q412 rfl dX6_append_18 ?_
  refine x_aload_n hE dX6_append_21 rfl 1 rfl ?_
  refine h_geti hE ht rfl inZX6 0 (by decide) q401 rfl dX6_append_22 ?_
  refine x_norm (y := 7) (by simp [zup]) ?_
  refine x_iload_n hE dX6_append_25 rfl 2 rfl ?_
  refine x_iload_n hE dX6_append_26 rfl 0 rfl ?_
  refine x_ishr hE dX6_append_27 ?_
  refine x_sipush (v := 255) hE dX6_append_28 (by decide) ?_
  refine x_iand hE dX6_append_31 ?_
  refine h_iast hE ht3 (by unfold vp_in; decide) dX6_append_32 ?_
  refine x_rho (fun ρ_32 hρ_32 => ?_)
  refine x_aload_n hE dX6_append_33 rfl 1 rfl ?_
  refine x_dup hE dX6_append_34 rfl ?_
  refine h_geti hE ht rfl inZX6 0 (by decide) q401 rfl dX6_append_35 ?_
  refine x_norm (y := 7) (by simp [zup]) ?_
  refine x_iconst (v := 1) hE dX6_append_38 (by decide) ?_
  refine x_iadd hE dX6_append_39 ?_
  refine x_norm (y := 8) (by decide) ?_
  refine h_puti (ty := .int) (ty0 := tyX6) hE ht rfl inZX6 tyX6_ok nmX6 0 (by decide) q401 rfl rfl (by decide +kernel) rfl rfl dX6_append_40 ?_
  refine x_iinc (v := -8) (lv' := [(2, .int (-8)), (0, .ref t), (1, .int v)]) hE dX6_append_43 0 rfl (by decide) (by decide) rfl ?_
  refine x_goto (tgt := 3) hE dX6_append_46 (by decide) ?_
  refine x_iload_n hE dX6_append_3 rfl 0 rfl ?_
  refine x_if_lt (tgt := 49) hE dX6_append_4 (by decide) (fun c_4 => ?_) (fun c_4 => absurd (by decide) c_4)
  exact hret _ _ _ _ _ _ _ _ (Nat.le_of_ble_eq_true rfl) (Nat.le_of_ble_eq_true rfl) dX6_append_49 (⟨rfl, rfl, by simp [zup]⟩)
set_option maxHeartbeats 4000000 in
set_option maxRecDepth 100000 in
theorem k_append8 (l : Launch) (D : va_G) (cy : Nat → ClassId) (L : List Nat) (σ : Nat → va_E) (φ : Nat → Nat → Nat → Int32) (ρ : Nat → Nat → Int32) {t t0 t1 t2 t3 : Nat} (v : Int32) (ht : zT L σ t (.inr (6, [.int 0, .int 0, .ref t0, .ref t1, .ref t2, .ref t3]))) (ht3 : zT L σ t3 (zIA cy 300)) (h0 : φ 6 0 t = 8) : zMV l D cy yX6_append cX6_append 3 (zrm 0 0 0) [.ref t, .int v] L σ φ ρ (zsv L σ (fun φ' _ => φ' 6 0 t = 12)) := by
  refine zMV.mk (by decide) (Nat.le_of_ble_eq_true rfl) (fun E hE hI hret => ?_)
  show zW E 0 0 L σ φ ρ 0 [(0, .ref t), (1, .int v)] []
  refine x_bipush (v := 24) hE dX6_append_0 (by decide) ?_
  refine x_istore_n (lv' := [(2, .int 24), (0, .ref t), (1, .int v)]) hE dX6_append_2 rfl (by decide) rfl ?_
  refine x_iload_n hE dX6_append_3 rfl 0 rfl ?_
  refine x_if_lt (tgt := 49) hE dX6_append_4 (by decide) (fun c_4 => absurd c_4 (by decide)) (fun c_4 => ?_)
  refine x_aload_n hE dX6_append_7 rfl 1 rfl ?_
  refine h_geti hE ht rfl inZX6 0 (by decide) q401 rfl dX6_append_8 ?_
  refine x_norm (y := 8) (h0) ?_
  refine x_sipush (v := 300) hE dX6_append_11 (by decide) ?_
  refine x_icmp_ge (tgt := 49) hE dX6_append_14 (by decide) (fun c_14 => absurd c_14 (by decide)) (fun c_14 => ?_)
  refine x_aload_n hE dX6_append_17 rfl 1 rfl ?_
  refine h_getr hE ht rfl inZX6 5 (by decide) q412 rfl dX6_append_18 ?_
  refine x_aload_n hE dX6_append_21 rfl 1 rfl ?_
  refine h_geti hE ht rfl inZX6 0 (by decide) q401 rfl dX6_append_22 ?_
  refine x_norm (y := 8) (h0) ?_
  refine x_iload_n hE dX6_append_25 rfl 2 rfl ?_
  refine x_iload_n hE dX6_append_26 rfl 0 rfl ?_
  refine x_ishr hE dX6_append_27 ?_
  refine x_sipush (v := 255) hE dX6_append_28 (by decide) ?_
  refine x_iand hE dX6_append_31 ?_
  refine h_iast hE ht3 (by unfold vp_in; decide) dX6_append_32 ?_
  refine x_rho (fun ρ_32 hρ_32 => ?_)
  refine x_aload_n hE dX6_append_33 rfl 1 rfl ?_
  refine x_dup hE dX6_append_34 rfl ?_
  refine h_geti hE ht rfl inZX6 0 (by decide) q401 rfl dX6_append_35 ?_
  refine x_norm (y := 8) (h0) ?_
  refine x_iconst (v := 1) hE dX6_append_38 (by decide) ?_
  refine x_iadd hE dX6_append_39 ?_
  refine x_norm (y := 9) (by decide) ?_
  refine h_puti (ty := .int) (ty0 := tyX6) hE ht rfl inZX6 tyX6_ok nmX6 0 (by decide) q401 rfl rfl (by decide +kernel) rfl rfl dX6_append_40 ?_
  refine x_iinc (v := 16) (lv' := [(2, .int 16), (0, .ref t), (1, .int v)]) hE dX6_append_43 0 rfl (by decide) (by decide) rfl ?_
  refine x_goto (tgt := 3) hE dX6_append_46 (by decide) ?_
  refine x_iload_n hE dX6_append_3 rfl 0 rfl ?_
  refine x_if_lt (tgt := 49) hE dX6_append_4 (by decide) (fun c_4 => absurd c_4 (by decide)) (fun c_4 => ?_)
  refine x_aload_n hE dX6_append_7 rfl 1 rfl ?_
  refine h_geti hE ht rfl inZX6 0 (by decide) q401 rfl dX6_append_8 ?_
  refine x_norm (y := 9) (by simp [zup]) ?_
  refine x_sipush (v := 300) hE dX6_append_11 (by decide) ?_
  refine x_icmp_ge (tgt := 49) hE dX6_append_14 (by decide) (fun c_14 => absurd c_14 (by decide)) (fun c_14 => ?_)
  refine x_aload_n hE dX6_append_17 rfl 1 rfl ?_
  refine h_getr hE ht rfl inZX6 5 (by decide) q412 rfl dX6_append_18 ?_
  refine x_aload_n hE dX6_append_21 rfl 1 rfl ?_
  refine h_geti hE ht rfl inZX6 0 (by decide) q401 rfl dX6_append_22 ?_
  refine x_norm (y := 9) (by simp [zup]) ?_
  refine x_iload_n hE dX6_append_25 rfl 2 rfl ?_
  refine x_iload_n hE dX6_append_26 rfl 0 rfl ?_
  refine x_ishr hE dX6_append_27 ?_
  refine x_sipush (v := 255) hE dX6_append_28 (by decide) ?_
  refine x_iand hE dX6_append_31 ?_
  refine h_iast hE ht3 (by unfold vp_in; decide) dX6_append_32 ?_
  refine x_rho (fun ρ_32 hρ_32 => ?_)
  refine x_aload_n hE dX6_append_33 rfl 1 rfl ?_
  refine x_dup hE dX6_append_34 rfl ?_
  refine h_geti hE ht rfl inZX6 0 (by decide) q401 rfl dX6_append_35 ?_
  refine x_norm (y := 9) (by simp [zup]) ?_
  refine x_iconst (v := 1) hE dX6_append_38 (by decide) ?_
  refine x_iadd hE dX6_append_39 ?_
  refine x_norm (y := 10) (by decide) ?_
  refine h_puti (ty := .int) (ty0 := tyX6) hE ht rfl inZX6 tyX6_ok nmX6 0 (by decide) q401 rfl rfl (by decide +kernel) rfl rfl dX6_append_40 ?_
  refine x_iinc (v := 8) (lv' := [(2, .int 8), (0, .ref t), (1, .int v)]) hE dX6_append_43 0 rfl (by decide) (by decide) rfl ?_
  refine x_goto (tgt := 3) hE dX6_append_46 (by decide) ?_
  refine x_iload_n hE dX6_append_3 rfl 0 rfl ?_
  refine x_if_lt (tgt := 49) hE dX6_append_4 (by decide) (fun c_4 => absurd c_4 (by decide)) (fun c_4 => ?_)
  refine x_aload_n hE dX6_append_7 rfl 1 rfl ?_
  refine h_geti hE ht rfl inZX6 0 (by decide) q401 rfl dX6_append_8 ?_
  refine x_norm (y := 10) (by simp [zup]) ?_
  refine x_sipush (v := 300) hE dX6_append_11 (by decide) ?_
  refine x_icmp_ge (tgt := 49) hE dX6_append_14 (by decide) (fun c_14 => absurd c_14 (by decide)) (fun c_14 => ?_)
  refine x_aload_n hE dX6_append_17 rfl 1 rfl ?_
  refine h_getr hE ht rfl inZX6 5 (by decide) q412 rfl dX6_append_18 ?_
  refine x_aload_n hE dX6_append_21 rfl 1 rfl ?_
  refine h_geti hE ht rfl inZX6 0 (by decide) q401 rfl dX6_append_22 ?_
  refine x_norm (y := 10) (by simp [zup]) ?_
  refine x_iload_n hE dX6_append_25 rfl 2 rfl ?_
  refine x_iload_n hE dX6_append_26 rfl 0 rfl ?_
  refine x_ishr hE dX6_append_27 ?_
  refine x_sipush (v := 255) hE dX6_append_28 (by decide) ?_
  refine x_iand hE dX6_append_31 ?_
  refine h_iast hE ht3 (by unfold vp_in; decide) dX6_append_32 ?_
  refine x_rho (fun ρ_32 hρ_32 => ?_)
  refine x_aload_n hE dX6_append_33 rfl 1 rfl ?_
  refine x_dup hE dX6_append_34 rfl ?_
  refine h_geti hE ht rfl inZX6 0 (by decide) q401 rfl dX6_append_35 ?_
  refine x_norm (y := 10) (by simp [zup]) ?_
  refine x_iconst (v := 1) hE dX6_append_38 (by decide) ?_
  refine x_iadd hE dX6_append_39 ?_
  refine x_norm (y := 11) (by decide) ?_
  refine h_puti (ty := .int) (ty0 := tyX6) hE ht rfl inZX6 tyX6_ok nmX6 0 (by decide) q401 rfl rfl (by decide +kernel) rfl rfl dX6_append_40 ?_
  refine x_iinc (v := 0) (lv' := [(2, .int 0), (0, .ref t), (1, .int v)]) hE dX6_append_43 0 rfl (by decide) (by decide) rfl ?_
  refine x_goto (tgt := 3) hE dX6_append_46 (by decide) ?_
  refine x_iload_n hE dX6_append_3 rfl 0 rfl ?_
  refine x_if_lt (tgt := 49) hE dX6_append_4 (by decide) (fun c_4 => absurd c_4 (by decide)) (fun c_4 => ?_)
  refine x_aload_n hE dX6_append_7 rfl 1 rfl ?_
  refine h_geti hE ht rfl inZX6 0 (by decide) q401 rfl dX6_append_8 ?_
  refine x_norm (y := 11) (by simp [zup]) ?_
  refine x_sipush (v := 300) hE dX6_append_11 (by decide) ?_
  refine x_icmp_ge (tgt := 49) hE dX6_append_14 (by decide) (fun c_14 => absurd c_14 (by decide)) (fun c_14 => ?_)
  refine x_aload_n hE dX6_append_17 rfl 1 rfl ?_
  refine h_getr hE ht rfl inZX6 5 (by decide) q412 rfl dX6_append_18 ?_
  refine x_aload_n hE dX6_append_21 rfl 1 rfl ?_
  refine h_geti hE ht rfl inZX6 0 (by decide) q401 rfl dX6_append_22 ?_
  refine x_norm (y := 11) (by simp [zup]) ?_
  refine x_iload_n hE dX6_append_25 rfl 2 rfl ?_
  refine x_iload_n hE dX6_append_26 rfl 0 rfl ?_
  refine x_ishr hE dX6_append_27 ?_
  refine x_sipush (v := 255) hE dX6_append_28 (by decide) ?_
  refine x_iand hE dX6_append_31 ?_
  refine h_iast hE ht3 (by unfold vp_in; decide) dX6_append_32 ?_
  refine x_rho (fun ρ_32 hρ_32 => ?_)
  refine x_aload_n hE dX6_append_33 rfl 1 rfl ?_
  refine x_dup hE dX6_append_34 rfl ?_
  refine h_geti hE ht rfl inZX6 0 (by decide) q401 rfl dX6_append_35 ?_
  refine x_norm (y := 11) (by simp [zup]) ?_
  refine x_iconst (v := 1) hE dX6_append_38 (by decide) ?_
  refine x_iadd hE dX6_append_39 ?_
  refine x_norm (y := 12) (by decide) ?_
  refine h_puti (ty := .int) (ty0 := tyX6) hE ht rfl inZX6 tyX6_ok nmX6 0 (by decide) q401 rfl rfl (by decide +kernel) rfl rfl dX6_append_40 ?_
  refine x_iinc (v := -8) (lv' := [(2, .int (-8)), (0, .ref t), (1, .int v)]) hE dX6_append_43 0 rfl (by decide) (by decide) rfl ?_
  refine x_goto (tgt := 3) hE dX6_append_46 (by decide) ?_
  refine x_iload_n hE dX6_append_3 rfl 0 rfl ?_
  refine x_if_lt (tgt := 49) hE dX6_append_4 (by decide) (fun c_4 => ?_) (fun c_4 => absurd (by decide) c_4)
  exact hret _ _ _ _ _ _ _ _ (Nat.le_of_ble_eq_true rfl) (Nat.le_of_ble_eq_true rfl) dX6_append_49 (⟨rfl, rfl, by simp [zup]⟩)
set_option maxHeartbeats 4000000 in
set_option maxRecDepth 100000 in
theorem k_append12 (l : Launch) (D : va_G) (cy : Nat → ClassId) (L : List Nat) (σ : Nat → va_E) (φ : Nat → Nat → Nat → Int32) (ρ : Nat → Nat → Int32) {t t0 t1 t2 t3 : Nat} (v : Int32) (ht : zT L σ t (.inr (6, [.int 0, .int 0, .ref t0, .ref t1, .ref t2, .ref t3]))) (ht3 : zT L σ t3 (zIA cy 300)) (h0 : φ 6 0 t = 12) : zMV l D cy yX6_append cX6_append 3 (zrm 0 0 0) [.ref t, .int v] L σ φ ρ (zsv L σ (fun φ' _ => φ' 6 0 t = 16)) := by
  refine zMV.mk (by decide) (Nat.le_of_ble_eq_true rfl) (fun E hE hI hret => ?_)
  show zW E 0 0 L σ φ ρ 0 [(0, .ref t), (1, .int v)] []
  refine x_bipush (v := 24) hE dX6_append_0 (by decide) ?_
  refine x_istore_n (lv' := [(2, .int 24), (0, .ref t), (1, .int v)]) hE dX6_append_2 rfl (by decide) rfl ?_
  refine x_iload_n hE dX6_append_3 rfl 0 rfl ?_
  refine x_if_lt (tgt := 49) hE dX6_append_4 (by decide) (fun c_4 => absurd c_4 (by decide)) (fun c_4 => ?_)
  refine x_aload_n hE dX6_append_7 rfl 1 rfl ?_
  refine h_geti hE ht rfl inZX6 0 (by decide) q401 rfl dX6_append_8 ?_
  refine x_norm (y := 12) (h0) ?_
  refine x_sipush (v := 300) hE dX6_append_11 (by decide) ?_
  refine x_icmp_ge (tgt := 49) hE dX6_append_14 (by decide) (fun c_14 => absurd c_14 (by decide)) (fun c_14 => ?_)
  refine x_aload_n hE dX6_append_17 rfl 1 rfl ?_
  refine h_getr hE ht rfl inZX6 5 (by decide) q412 rfl dX6_append_18 ?_
  refine x_aload_n hE dX6_append_21 rfl 1 rfl ?_
  refine h_geti hE ht rfl inZX6 0 (by decide) q401 rfl dX6_append_22 ?_
  refine x_norm (y := 12) (h0) ?_
  refine x_iload_n hE dX6_append_25 rfl 2 rfl ?_
  refine x_iload_n hE dX6_append_26 rfl 0 rfl ?_
  refine x_ishr hE dX6_append_27 ?_
  refine x_sipush (v := 255) hE dX6_append_28 (by decide) ?_
  refine x_iand hE dX6_append_31 ?_
  refine h_iast hE ht3 (by unfold vp_in; decide) dX6_append_32 ?_
  refine x_rho (fun ρ_32 hρ_32 => ?_)
  refine x_aload_n hE dX6_append_33 rfl 1 rfl ?_
  refine x_dup hE dX6_append_34 rfl ?_
  refine h_geti hE ht rfl inZX6 0 (by decide) q401 rfl dX6_append_35 ?_
  refine x_norm (y := 12) (h0) ?_
  refine x_iconst (v := 1) hE dX6_append_38 (by decide) ?_
  refine x_iadd hE dX6_append_39 ?_
  refine x_norm (y := 13) (by decide) ?_
  refine h_puti (ty := .int) (ty0 := tyX6) hE ht rfl inZX6 tyX6_ok nmX6 0 (by decide) q401 rfl rfl (by decide +kernel) rfl rfl dX6_append_40 ?_
  refine x_iinc (v := 16) (lv' := [(2, .int 16), (0, .ref t), (1, .int v)]) hE dX6_append_43 0 rfl (by decide) (by decide) rfl ?_
  refine x_goto (tgt := 3) hE dX6_append_46 (by decide) ?_
  refine x_iload_n hE dX6_append_3 rfl 0 rfl ?_
  refine x_if_lt (tgt := 49) hE dX6_append_4 (by decide) (fun c_4 => absurd c_4 (by decide)) (fun c_4 => ?_)
  refine x_aload_n hE dX6_append_7 rfl 1 rfl ?_
  refine h_geti hE ht rfl inZX6 0 (by decide) q401 rfl dX6_append_8 ?_
  refine x_norm (y := 13) (by simp [zup]) ?_
  refine x_sipush (v := 300) hE dX6_append_11 (by decide) ?_
  refine x_icmp_ge (tgt := 49) hE dX6_append_14 (by decide) (fun c_14 => absurd c_14 (by decide)) (fun c_14 => ?_)
  refine x_aload_n hE dX6_append_17 rfl 1 rfl ?_
  refine h_getr hE ht rfl inZX6 5 (by decide) q412 rfl dX6_append_18 ?_
  refine x_aload_n hE dX6_append_21 rfl 1 rfl ?_
  refine h_geti hE ht rfl inZX6 0 (by decide) q401 rfl dX6_append_22 ?_
  refine x_norm (y := 13) (by simp [zup]) ?_
  refine x_iload_n hE dX6_append_25 rfl 2 rfl ?_
  refine x_iload_n hE dX6_append_26 rfl 0 rfl ?_
  refine x_ishr hE dX6_append_27 ?_
  refine x_sipush (v := 255) hE dX6_append_28 (by decide) ?_
  refine x_iand hE dX6_append_31 ?_
  refine h_iast hE ht3 (by unfold vp_in; decide) dX6_append_32 ?_
  refine x_rho (fun ρ_32 hρ_32 => ?_)
  refine x_aload_n hE dX6_append_33 rfl 1 rfl ?_
  refine x_dup hE dX6_append_34 rfl ?_
  refine h_geti hE ht rfl inZX6 0 (by decide) q401 rfl dX6_append_35 ?_
  refine x_norm (y := 13) (by simp [zup]) ?_
  refine x_iconst (v := 1) hE dX6_append_38 (by decide) ?_
  refine x_iadd hE dX6_append_39 ?_
  refine x_norm (y := 14) (by decide) ?_
  refine h_puti (ty := .int) (ty0 := tyX6) hE ht rfl inZX6 tyX6_ok nmX6 0 (by decide) q401 rfl rfl (by decide +kernel) rfl rfl dX6_append_40 ?_
  refine x_iinc (v := 8) (lv' := [(2, .int 8), (0, .ref t), (1, .int v)]) hE dX6_append_43 0 rfl (by decide) (by decide) rfl ?_
  refine x_goto (tgt := 3) hE dX6_append_46 (by decide) ?_
  refine x_iload_n hE dX6_append_3 rfl 0 rfl ?_
  refine x_if_lt (tgt := 49) hE dX6_append_4 (by decide) (fun c_4 => absurd c_4 (by decide)) (fun c_4 => ?_)
  refine x_aload_n hE dX6_append_7 rfl 1 rfl ?_
  refine h_geti hE ht rfl inZX6 0 (by decide) q401 rfl dX6_append_8 ?_
  refine x_norm (y := 14) (by simp [zup]) ?_
  refine x_sipush (v := 300) hE dX6_append_11 (by decide) ?_
  refine x_icmp_ge (tgt := 49) hE dX6_append_14 (by decide) (fun c_14 => absurd c_14 (by decide)) (fun c_14 => ?_)
  refine x_aload_n hE dX6_append_17 rfl 1 rfl ?_
  refine h_getr hE ht rfl inZX6 5 (by decide) q412 rfl dX6_append_18 ?_
  refine x_aload_n hE dX6_append_21 rfl 1 rfl ?_
  refine h_geti hE ht rfl inZX6 0 (by decide) q401 rfl dX6_append_22 ?_
  refine x_norm (y := 14) (by simp [zup]) ?_
  refine x_iload_n hE dX6_append_25 rfl 2 rfl ?_
  refine x_iload_n hE dX6_append_26 rfl 0 rfl ?_
  refine x_ishr hE dX6_append_27 ?_
  refine x_sipush (v := 255) hE dX6_append_28 (by decide) ?_
  refine x_iand hE dX6_append_31 ?_
  refine h_iast hE ht3 (by unfold vp_in; decide) dX6_append_32 ?_
  refine x_rho (fun ρ_32 hρ_32 => ?_)
  refine x_aload_n hE dX6_append_33 rfl 1 rfl ?_
  refine x_dup hE dX6_append_34 rfl ?_
  refine h_geti hE ht rfl inZX6 0 (by decide) q401 rfl dX6_append_35 ?_
  refine x_norm (y := 14) (by simp [zup]) ?_
  refine x_iconst (v := 1) hE dX6_append_38 (by decide) ?_
  refine x_iadd hE dX6_append_39 ?_
  refine x_norm (y := 15) (by decide) ?_
  refine h_puti (ty := .int) (ty0 := tyX6) hE ht rfl inZX6 tyX6_ok nmX6 0 (by decide) q401 rfl rfl (by decide +kernel) rfl rfl dX6_append_40 ?_
  refine x_iinc (v := 0) (lv' := [(2, .int 0), (0, .ref t), (1, .int v)]) hE dX6_append_43 0 rfl (by decide) (by decide) rfl ?_
  refine x_goto (tgt := 3) hE dX6_append_46 (by decide) ?_
  refine x_iload_n hE dX6_append_3 rfl 0 rfl ?_
  refine x_if_lt (tgt := 49) hE dX6_append_4 (by decide) (fun c_4 => absurd c_4 (by decide)) (fun c_4 => ?_)
  refine x_aload_n hE dX6_append_7 rfl 1 rfl ?_
  refine h_geti hE ht rfl inZX6 0 (by decide) q401 rfl dX6_append_8 ?_
  refine x_norm (y := 15) (by simp [zup]) ?_
  refine x_sipush (v := 300) hE dX6_append_11 (by decide) ?_
  refine x_icmp_ge (tgt := 49) hE dX6_append_14 (by decide) (fun c_14 => absurd c_14 (by decide)) (fun c_14 => ?_)
  refine x_aload_n hE dX6_append_17 rfl 1 rfl ?_
  refine h_getr hE ht rfl inZX6 5 (by decide) q412 rfl dX6_append_18 ?_
  refine x_aload_n hE dX6_append_21 rfl 1 rfl ?_
  refine h_geti hE ht rfl inZX6 0 (by decide) q401 rfl dX6_append_22 ?_
  refine x_norm (y := 15) (by simp [zup]) ?_
  refine x_iload_n hE dX6_append_25 rfl 2 rfl ?_
  refine x_iload_n hE dX6_append_26 rfl 0 rfl ?_
  refine x_ishr hE dX6_append_27 ?_
  refine x_sipush (v := 255) hE dX6_append_28 (by decide) ?_
  refine x_iand hE dX6_append_31 ?_
  refine h_iast hE ht3 (by unfold vp_in; decide) dX6_append_32 ?_
  refine x_rho (fun ρ_32 hρ_32 => ?_)
  refine x_aload_n hE dX6_append_33 rfl 1 rfl ?_
  refine x_dup hE dX6_append_34 rfl ?_
  refine h_geti hE ht rfl inZX6 0 (by decide) q401 rfl dX6_append_35 ?_
  refine x_norm (y := 15) (by simp [zup]) ?_
  refine x_iconst (v := 1) hE dX6_append_38 (by decide) ?_
  refine x_iadd hE dX6_append_39 ?_
  refine x_norm (y := 16) (by decide) ?_
  refine h_puti (ty := .int) (ty0 := tyX6) hE ht rfl inZX6 tyX6_ok nmX6 0 (by decide) q401 rfl rfl (by decide +kernel) rfl rfl dX6_append_40 ?_
  refine x_iinc (v := -8) (lv' := [(2, .int (-8)), (0, .ref t), (1, .int v)]) hE dX6_append_43 0 rfl (by decide) (by decide) rfl ?_
  refine x_goto (tgt := 3) hE dX6_append_46 (by decide) ?_
  refine x_iload_n hE dX6_append_3 rfl 0 rfl ?_
  refine x_if_lt (tgt := 49) hE dX6_append_4 (by decide) (fun c_4 => ?_) (fun c_4 => absurd (by decide) c_4)
  exact hret _ _ _ _ _ _ _ _ (Nat.le_of_ble_eq_true rfl) (Nat.le_of_ble_eq_true rfl) dX6_append_49 (⟨rfl, rfl, by simp [zup]⟩)
set_option maxHeartbeats 4000000 in
set_option maxRecDepth 100000 in
theorem k_append16 (l : Launch) (D : va_G) (cy : Nat → ClassId) (L : List Nat) (σ : Nat → va_E) (φ : Nat → Nat → Nat → Int32) (ρ : Nat → Nat → Int32) {t t0 t1 t2 t3 : Nat} (v : Int32) (ht : zT L σ t (.inr (6, [.int 0, .int 0, .ref t0, .ref t1, .ref t2, .ref t3]))) (ht3 : zT L σ t3 (zIA cy 300)) (h0 : φ 6 0 t = 16) : zMV l D cy yX6_append cX6_append 3 (zrm 0 0 0) [.ref t, .int v] L σ φ ρ (zsv L σ (fun φ' _ => φ' 6 0 t = 20)) := by
  refine zMV.mk (by decide) (Nat.le_of_ble_eq_true rfl) (fun E hE hI hret => ?_)
  show zW E 0 0 L σ φ ρ 0 [(0, .ref t), (1, .int v)] []
  refine x_bipush (v := 24) hE dX6_append_0 (by decide) ?_
  refine x_istore_n (lv' := [(2, .int 24), (0, .ref t), (1, .int v)]) hE dX6_append_2 rfl (by decide) rfl ?_
  refine x_iload_n hE dX6_append_3 rfl 0 rfl ?_
  refine x_if_lt (tgt := 49) hE dX6_append_4 (by decide) (fun c_4 => absurd c_4 (by decide)) (fun c_4 => ?_)
  refine x_aload_n hE dX6_append_7 rfl 1 rfl ?_
  refine h_geti hE ht rfl inZX6 0 (by decide) q401 rfl dX6_append_8 ?_
  refine x_norm (y := 16) (h0) ?_
  refine x_sipush (v := 300) hE dX6_append_11 (by decide) ?_
  refine x_icmp_ge (tgt := 49) hE dX6_append_14 (by decide) (fun c_14 => absurd c_14 (by decide)) (fun c_14 => ?_)
  refine x_aload_n hE dX6_append_17 rfl 1 rfl ?_
  refine h_getr hE ht rfl inZX6 5 (by decide) q412 rfl dX6_append_18 ?_
  refine x_aload_n hE dX6_append_21 rfl 1 rfl ?_
  refine h_geti hE ht rfl inZX6 0 (by decide) q401 rfl dX6_append_22 ?_
  refine x_norm (y := 16) (h0) ?_
  refine x_iload_n hE dX6_append_25 rfl 2 rfl ?_
  refine x_iload_n hE dX6_append_26 rfl 0 rfl ?_
  refine x_ishr hE dX6_append_27 ?_
  refine x_sipush (v := 255) hE dX6_append_28 (by decide) ?_
  refine x_iand hE dX6_append_31 ?_
  refine h_iast hE ht3 (by unfold vp_in; decide) dX6_append_32 ?_
  refine x_rho (fun ρ_32 hρ_32 => ?_)
  refine x_aload_n hE dX6_append_33 rfl 1 rfl ?_
  refine x_dup hE dX6_append_34 rfl ?_
  refine h_geti hE ht rfl inZX6 0 (by decide) q401 rfl dX6_append_35 ?_
  refine x_norm (y := 16) (h0) ?_
  refine x_iconst (v := 1) hE dX6_append_38 (by decide) ?_
  refine x_iadd hE dX6_append_39 ?_
  refine x_norm (y := 17) (by decide) ?_
  refine h_puti (ty := .int) (ty0 := tyX6) hE ht rfl inZX6 tyX6_ok nmX6 0 (by decide) q401 rfl rfl (by decide +kernel) rfl rfl dX6_append_40 ?_
  refine x_iinc (v := 16) (lv' := [(2, .int 16), (0, .ref t), (1, .int v)]) hE dX6_append_43 0 rfl (by decide) (by decide) rfl ?_
  refine x_goto (tgt := 3) hE dX6_append_46 (by decide) ?_
  refine x_iload_n hE dX6_append_3 rfl 0 rfl ?_
  refine x_if_lt (tgt := 49) hE dX6_append_4 (by decide) (fun c_4 => absurd c_4 (by decide)) (fun c_4 => ?_)
  refine x_aload_n hE dX6_append_7 rfl 1 rfl ?_
  refine h_geti hE ht rfl inZX6 0 (by decide) q401 rfl dX6_append_8 ?_
  refine x_norm (y := 17) (by simp [zup]) ?_
  refine x_sipush (v := 300) hE dX6_append_11 (by decide) ?_
  refine x_icmp_ge (tgt := 49) hE dX6_append_14 (by decide) (fun c_14 => absurd c_14 (by decide)) (fun c_14 => ?_)
  refine x_aload_n hE dX6_append_17 rfl 1 rfl ?_
  refine h_getr hE ht rfl inZX6 5 (by decide) q412 rfl dX6_append_18 ?_
  refine x_aload_n hE dX6_append_21 rfl 1 rfl ?_
  refine h_geti hE ht rfl inZX6 0 (by decide) q401 rfl dX6_append_22 ?_
  refine x_norm (y := 17) (by simp [zup]) ?_
  refine x_iload_n hE dX6_append_25 rfl 2 rfl ?_
  refine x_iload_n hE dX6_append_26 rfl 0 rfl ?_
  refine x_ishr hE dX6_append_27 ?_
  refine x_sipush (v := 255) hE dX6_append_28 (by decide) ?_
  refine x_iand hE dX6_append_31 ?_
  refine h_iast hE ht3 (by unfold vp_in; decide) dX6_append_32 ?_
  refine x_rho (fun ρ_32 hρ_32 => ?_)
  refine x_aload_n hE dX6_append_33 rfl 1 rfl ?_
  refine x_dup hE dX6_append_34 rfl ?_
  refine h_geti hE ht rfl inZX6 0 (by decide) q401 rfl dX6_append_35 ?_
  refine x_norm (y := 17) (by simp [zup]) ?_
  refine x_iconst (v := 1) hE dX6_append_38 (by decide) ?_
  refine x_iadd hE dX6_append_39 ?_
  refine x_norm (y := 18) (by decide) ?_
  refine h_puti (ty := .int) (ty0 := tyX6) hE ht rfl inZX6 tyX6_ok nmX6 0 (by decide) q401 rfl rfl (by decide +kernel) rfl rfl dX6_append_40 ?_
  refine x_iinc (v := 8) (lv' := [(2, .int 8), (0, .ref t), (1, .int v)]) hE dX6_append_43 0 rfl (by decide) (by decide) rfl ?_
  refine x_goto (tgt := 3) hE dX6_append_46 (by decide) ?_
  refine x_iload_n hE dX6_append_3 rfl 0 rfl ?_
  refine x_if_lt (tgt := 49) hE dX6_append_4 (by decide) (fun c_4 => absurd c_4 (by decide)) (fun c_4 => ?_)
  refine x_aload_n hE dX6_append_7 rfl 1 rfl ?_
  refine h_geti hE ht rfl inZX6 0 (by decide) q401 rfl dX6_append_8 ?_
  refine x_norm (y := 18) (by simp [zup]) ?_
  refine x_sipush (v := 300) hE dX6_append_11 (by decide) ?_
  refine x_icmp_ge (tgt := 49) hE dX6_append_14 (by decide) (fun c_14 => absurd c_14 (by decide)) (fun c_14 => ?_)
  refine x_aload_n hE dX6_append_17 rfl 1 rfl ?_
  refine h_getr hE ht rfl inZX6 5 (by decide) q412 rfl dX6_append_18 ?_
  refine x_aload_n hE dX6_append_21 rfl 1 rfl ?_
  refine h_geti hE ht rfl inZX6 0 (by decide) q401 rfl dX6_append_22 ?_
  refine x_norm (y := 18) (by simp [zup]) ?_
  refine x_iload_n hE dX6_append_25 rfl 2 rfl ?_
  refine x_iload_n hE dX6_append_26 rfl 0 rfl ?_
  refine x_ishr hE dX6_append_27 ?_
  refine x_sipush (v := 255) hE dX6_append_28 (by decide) ?_
  refine x_iand hE dX6_append_31 ?_
  refine h_iast hE ht3 (by unfold vp_in; decide) dX6_append_32 ?_
  refine x_rho (fun ρ_32 hρ_32 => ?_)
  refine x_aload_n hE dX6_append_33 rfl 1 rfl ?_
  refine x_dup hE dX6_append_34 rfl ?_
  refine h_geti hE ht rfl inZX6 0 (by decide) q401 rfl dX6_append_35 ?_
  refine x_norm (y := 18) (by simp [zup]) ?_
  refine x_iconst (v := 1) hE dX6_append_38 (by decide) ?_
  refine x_iadd hE dX6_append_39 ?_
  refine x_norm (y := 19) (by decide) ?_
  refine h_puti (ty := .int) (ty0 := tyX6) hE ht rfl inZX6 tyX6_ok nmX6 0 (by decide) q401 rfl rfl (by decide +kernel) rfl rfl dX6_append_40 ?_
  refine x_iinc (v := 0) (lv' := [(2, .int 0), (0, .ref t), (1, .int v)]) hE dX6_append_43 0 rfl (by decide) (by decide) rfl ?_
  refine x_goto (tgt := 3) hE dX6_append_46 (by decide) ?_
  refine x_iload_n hE dX6_append_3 rfl 0 rfl ?_
  refine x_if_lt (tgt := 49) hE dX6_append_4 (by decide) (fun c_4 => absurd c_4 (by decide)) (fun c_4 => ?_)
  refine x_aload_n hE dX6_append_7 rfl 1 rfl ?_
  refine h_geti hE ht rfl inZX6 0 (by decide) q401 rfl dX6_append_8 ?_
  refine x_norm (y := 19) (by simp [zup]) ?_
  refine x_sipush (v := 300) hE dX6_append_11 (by decide) ?_
  refine x_icmp_ge (tgt := 49) hE dX6_append_14 (by decide) (fun c_14 => absurd c_14 (by decide)) (fun c_14 => ?_)
  refine x_aload_n hE dX6_append_17 rfl 1 rfl ?_
  refine h_getr hE ht rfl inZX6 5 (by decide) q412 rfl dX6_append_18 ?_
  refine x_aload_n hE dX6_append_21 rfl 1 rfl ?_
  refine h_geti hE ht rfl inZX6 0 (by decide) q401 rfl dX6_append_22 ?_
  refine x_norm (y := 19) (by simp [zup]) ?_
  refine x_iload_n hE dX6_append_25 rfl 2 rfl ?_
  refine x_iload_n hE dX6_append_26 rfl 0 rfl ?_
  refine x_ishr hE dX6_append_27 ?_
  refine x_sipush (v := 255) hE dX6_append_28 (by decide) ?_
  refine x_iand hE dX6_append_31 ?_
  refine h_iast hE ht3 (by unfold vp_in; decide) dX6_append_32 ?_
  refine x_rho (fun ρ_32 hρ_32 => ?_)
  refine x_aload_n hE dX6_append_33 rfl 1 rfl ?_
  refine x_dup hE dX6_append_34 rfl ?_
  refine h_geti hE ht rfl inZX6 0 (by decide) q401 rfl dX6_append_35 ?_
  refine x_norm (y := 19) (by simp [zup]) ?_
  refine x_iconst (v := 1) hE dX6_append_38 (by decide) ?_
  refine x_iadd hE dX6_append_39 ?_
  refine x_norm (y := 20) (by decide) ?_
  refine h_puti (ty := .int) (ty0 := tyX6) hE ht rfl inZX6 tyX6_ok nmX6 0 (by decide) q401 rfl rfl (by decide +kernel) rfl rfl dX6_append_40 ?_
  refine x_iinc (v := -8) (lv' := [(2, .int (-8)), (0, .ref t), (1, .int v)]) hE dX6_append_43 0 rfl (by decide) (by decide) rfl ?_
  refine x_goto (tgt := 3) hE dX6_append_46 (by decide) ?_
  refine x_iload_n hE dX6_append_3 rfl 0 rfl ?_
  refine x_if_lt (tgt := 49) hE dX6_append_4 (by decide) (fun c_4 => ?_) (fun c_4 => absurd (by decide) c_4)
  exact hret _ _ _ _ _ _ _ _ (Nat.le_of_ble_eq_true rfl) (Nat.le_of_ble_eq_true rfl) dX6_append_49 (⟨rfl, rfl, by simp [zup]⟩)
set_option maxHeartbeats 4000000 in
set_option maxRecDepth 100000 in
theorem o_feed (l : Launch) (D : va_G) (cy : Nat → ClassId) (L : List Nat) (σ : Nat → va_E) (φ : Nat → Nat → Nat → Int32) (ρ : Nat → Nat → Int32) {x : Nat} (a : Int32) (b : Int32) (c : Int32) (d : Int32) (e : Int32) (hx : zOR cy L σ φ x) : zMI l D cy yX11_feed cX11_feed 6 .int (zrm 3 0 0) [.ref x, .int a, .int b, .int c, .int d, .int e] L σ φ ρ (fun r _ => r = 20) := by
  refine zMI.mk (by decide) (Nat.le_of_ble_eq_true rfl) (fun E hE hret => ?_)
  show zW E 0 0 L σ φ ρ 0 [(0, .ref x), (1, .int a), (2, .int b), (3, .int c), (4, .int d), (5, .int e)] []
  obtain ⟨now, kept, tape, reader, weather, planner, ways, la, wo, sp, li, te, g, la', wo', sp', li', te', g', hx, hs, hs0, hk, hk0, htp, htp0, hrd, hrd0, hrd1, hwe, hwe0, hpl, hwy⟩ := hx
  obtain ⟨hn, hla, hwo, hsp, hli, hte⟩ := id hs
  obtain ⟨p45, p46, p00, p01, p10, p50, p51, pl0, pl1, pl2, pg⟩ := id hs0
  obtain ⟨f0, f1, f2, f3, f4, f5, f6, f7, hL, hL0, hL1, hL2, hL3, hL4, hL5, hL6, hL7⟩ := id hla
  obtain ⟨w0, w1, w2, w3, w4, w5, w6, w7, hW, hW0, hW1, hW2, hW3, hW4, hW5, hW6, hW7⟩ := id hwo
  obtain ⟨s0, s1, hSp, hSp0, hSp1, hSpW⟩ := id hsp
  obtain ⟨i0, i1, i2, i3, i4, i5, i6, i7, hLi, hLi0, hLi1, hLi2, hLi3, hLi4, hLi5, hLi6, hLi7⟩ := id hli
  obtain ⟨t0, t1, t2, t3, hTp, hTp0, hTp1, hTp2, hTp3, hTn1, hTn2⟩ := id htp
  refine x_aload_n hE dX11_feed_0 rfl 0 rfl ?_
  refine h_getr hE hx rfl inZX11 2 (by decide) q558 rfl dX11_feed_1 ?_
  refine h_geti hE hTp rfl inZX6 0 (by decide) q403 rfl dX11_feed_4 ?_
  refine x_norm (y := 0) (htp0) ?_
  refine x_bipush (v := 20) hE dX11_feed_7 (by decide) ?_
  refine x_iadd hE dX11_feed_9 ?_
  refine x_norm (y := 20) (by decide) ?_
  refine x_sipush (v := 300) hE dX11_feed_10 (by decide) ?_
  refine x_icmp_le (tgt := 18) hE dX11_feed_13 (by decide) (fun c_13 => ?_) (fun c_13 => absurd (by decide) c_13)
  refine x_aload_n hE dX11_feed_18 rfl 0 rfl ?_
  refine h_getr hE hx rfl inZX11 2 (by decide) q558 rfl dX11_feed_19 ?_
  refine x_iload_n hE dX11_feed_22 rfl 1 rfl ?_
  refine c_vs hE (r_V (st := []) hE (k_append0 l D cy L σ φ ρ (a) hTp hTp3 htp0) q621 q622 q623 q119 q624 hTp rfl ⟨by decide, by decide, pn_X6_append⟩ ⟨Nat.le_of_ble_eq_true rfl, Nat.le_of_ble_eq_true rfl⟩ ⟨Nat.le_of_ble_eq_true rfl, Nat.le_of_ble_eq_true rfl⟩ rfl (Nat.le_of_ble_eq_true rfl) dX11_feed_23) (fun φ4 ρ4 ha4 => ?_)
  refine x_widen (k' := 0) (n' := 0) (Nat.le_of_ble_eq_true rfl) (Nat.le_of_ble_eq_true rfl) ?_
  refine x_aload_n hE dX11_feed_26 rfl 0 rfl ?_
  refine h_getr hE hx rfl inZX11 2 (by decide) q558 rfl dX11_feed_27 ?_
  refine x_iload_n hE dX11_feed_30 rfl 2 rfl ?_
  refine c_vs hE (r_V (st := []) hE (k_append4 l D cy L σ φ4 ρ4 (b) hTp hTp3 ha4) q621 q622 q623 q119 q624 hTp rfl ⟨by decide, by decide, pn_X6_append⟩ ⟨Nat.le_of_ble_eq_true rfl, Nat.le_of_ble_eq_true rfl⟩ ⟨Nat.le_of_ble_eq_true rfl, Nat.le_of_ble_eq_true rfl⟩ rfl (Nat.le_of_ble_eq_true rfl) dX11_feed_31) (fun φ8 ρ8 ha8 => ?_)
  refine x_widen (k' := 0) (n' := 0) (Nat.le_of_ble_eq_true rfl) (Nat.le_of_ble_eq_true rfl) ?_
  refine x_aload_n hE dX11_feed_34 rfl 0 rfl ?_
  refine h_getr hE hx rfl inZX11 2 (by decide) q558 rfl dX11_feed_35 ?_
  refine x_iload_n hE dX11_feed_38 rfl 3 rfl ?_
  refine c_vs hE (r_V (st := []) hE (k_append8 l D cy L σ φ8 ρ8 (c) hTp hTp3 ha8) q621 q622 q623 q119 q624 hTp rfl ⟨by decide, by decide, pn_X6_append⟩ ⟨Nat.le_of_ble_eq_true rfl, Nat.le_of_ble_eq_true rfl⟩ ⟨Nat.le_of_ble_eq_true rfl, Nat.le_of_ble_eq_true rfl⟩ rfl (Nat.le_of_ble_eq_true rfl) dX11_feed_39) (fun φ12 ρ12 ha12 => ?_)
  refine x_widen (k' := 0) (n' := 0) (Nat.le_of_ble_eq_true rfl) (Nat.le_of_ble_eq_true rfl) ?_
  refine x_aload_n hE dX11_feed_42 rfl 0 rfl ?_
  refine h_getr hE hx rfl inZX11 2 (by decide) q558 rfl dX11_feed_43 ?_
  refine x_iload hE dX11_feed_46 4 rfl ?_
  refine c_vs hE (r_V (st := []) hE (k_append12 l D cy L σ φ12 ρ12 (d) hTp hTp3 ha12) q621 q622 q623 q119 q624 hTp rfl ⟨by decide, by decide, pn_X6_append⟩ ⟨Nat.le_of_ble_eq_true rfl, Nat.le_of_ble_eq_true rfl⟩ ⟨Nat.le_of_ble_eq_true rfl, Nat.le_of_ble_eq_true rfl⟩ rfl (Nat.le_of_ble_eq_true rfl) dX11_feed_48) (fun φ16 ρ16 ha16 => ?_)
  refine x_widen (k' := 0) (n' := 0) (Nat.le_of_ble_eq_true rfl) (Nat.le_of_ble_eq_true rfl) ?_
  refine x_aload_n hE dX11_feed_51 rfl 0 rfl ?_
  refine h_getr hE hx rfl inZX11 2 (by decide) q558 rfl dX11_feed_52 ?_
  refine x_iload hE dX11_feed_55 5 rfl ?_
  refine c_vs hE (r_V (st := []) hE (k_append16 l D cy L σ φ16 ρ16 (e) hTp hTp3 ha16) q621 q622 q623 q119 q624 hTp rfl ⟨by decide, by decide, pn_X6_append⟩ ⟨Nat.le_of_ble_eq_true rfl, Nat.le_of_ble_eq_true rfl⟩ ⟨Nat.le_of_ble_eq_true rfl, Nat.le_of_ble_eq_true rfl⟩ rfl (Nat.le_of_ble_eq_true rfl) dX11_feed_57) (fun φ20 ρ20 ha20 => ?_)
  refine x_widen (k' := 0) (n' := 0) (Nat.le_of_ble_eq_true rfl) (Nat.le_of_ble_eq_true rfl) ?_
  refine x_aload_n hE dX11_feed_60 rfl 0 rfl ?_
  refine h_getr hE hx rfl inZX11 2 (by decide) q558 rfl dX11_feed_61 ?_
  refine h_geti hE hTp rfl inZX6 0 (by decide) q403 rfl dX11_feed_64 ?_
  refine x_norm (y := 20) (ha20) ?_
  exact hret _ _ _ _ _ _ _ _ (20) (Nat.le_of_ble_eq_true rfl) (Nat.le_of_ble_eq_true rfl) dX11_feed_67 (rfl) (rfl)
-- market(p) of a new object
set_option maxHeartbeats 4000000 in
set_option maxRecDepth 100000 in
theorem o_market (l : Launch) (D : va_G) (cy : Nat → ClassId) (L : List Nat) (σ : Nat → va_E) (φ : Nat → Nat → Nat → Int32) (ρ : Nat → Nat → Int32) {x : Nat} (p : Int32) (hx : zOR cy L σ φ x) : zMI l D cy yX11_market cX11_market 4 .int (zrm 3 0 0) [.ref x, .int p] L σ φ ρ (fun r _ => r = if p = -1 then 0 else if 0 ≤ p ∧ p ≤ 99 then 0 else -1) := by
  refine zMI.mk (by decide) (Nat.le_of_ble_eq_true rfl) (fun E hE hret => ?_)
  show zW E 0 0 L σ φ ρ 0 [(0, .ref x), (1, .int p)] []
  obtain ⟨now, kept, tape, reader, weather, planner, ways, la, wo, sp, li, te, g, la', wo', sp', li', te', g', hx, hs, hs0, hk, hk0, htp, htp0, hrd, hrd0, hrd1, hwe, hwe0, hpl, hwy⟩ := hx
  obtain ⟨hn, hla, hwo, hsp, hli, hte⟩ := id hs
  obtain ⟨p45, p46, p00, p01, p10, p50, p51, pl0, pl1, pl2, pg⟩ := id hs0
  obtain ⟨f0, f1, f2, f3, f4, f5, f6, f7, hL, hL0, hL1, hL2, hL3, hL4, hL5, hL6, hL7⟩ := id hla
  obtain ⟨w0, w1, w2, w3, w4, w5, w6, w7, hW, hW0, hW1, hW2, hW3, hW4, hW5, hW6, hW7⟩ := id hwo
  obtain ⟨s0, s1, hSp, hSp0, hSp1, hSpW⟩ := id hsp
  obtain ⟨i0, i1, i2, i3, i4, i5, i6, i7, hLi, hLi0, hLi1, hLi2, hLi3, hLi4, hLi5, hLi6, hLi7⟩ := id hli
  obtain ⟨t0, t1, t2, t3, hTp, hTp0, hTp1, hTp2, hTp3, hTn1, hTn2⟩ := id htp
  have loop : p = -1 → ∀ (f i : Nat), i ≤ 100 → 100 - i < f → zW E 0 0 L σ φ ρ 35 [(3, .int (nI i)), (2, .int 0), (0, .ref x), (1, .int p)] [] := by
    intro hp f
    induction f with
    | zero => intro i h1 h2; omega
    | succ f ih =>
      intro i hi hf
      rcases Nat.lt_or_ge i 100 with hlt | hge
      · refine x_iload_n hE dX11_market_35 rfl 0 rfl ?_
        refine x_bipush (v := 99) hE dX11_market_36 (by decide) ?_
        refine x_icmp_gt (tgt := 74) hE dX11_market_38 (by decide) (fun c_38 => absurd c_38 (fun h => absurd ((nI_ltI (a := 99) (by omega) (by omega)).mp h) (by omega))) (fun c_38 => ?_)
        refine x_aload_n hE dX11_market_41 rfl 2 rfl ?_
        refine h_getr hE hx rfl inZX11 0 (by decide) q556 rfl dX11_market_42 ?_
        refine h_getr hE hn rfl inZX4 3 (by decide) q373 rfl dX11_market_45 ?_
        refine x_iload_n hE dX11_market_48 rfl 0 rfl ?_
        refine c_ip hE (r_V (st := []) hE (k_traded l D cy L σ φ ρ (nI i) hLi pl2) q1332 q1333 q1334 q118 q1335 hLi rfl ⟨by decide, by decide, pn_X1_traded⟩ ⟨Nat.le_of_ble_eq_true rfl, Nat.le_of_ble_eq_true rfl⟩ ⟨Nat.le_of_ble_eq_true rfl, Nat.le_of_ble_eq_true rfl⟩ rfl (Nat.le_of_ble_eq_true rfl) dX11_market_49) (fun r49 h_49 => ?_)
        refine x_widen (k' := 0) (n' := 0) (Nat.le_of_ble_eq_true rfl) (Nat.le_of_ble_eq_true rfl) ?_
        refine x_norm (y := 0) (h_49) ?_
        refine x_aload_n hE dX11_market_52 rfl 2 rfl ?_
        refine h_getr hE hx rfl inZX11 0 (by decide) q556 rfl dX11_market_53 ?_
        refine h_getr hE hn rfl inZX4 3 (by decide) q373 rfl dX11_market_56 ?_
        refine x_iload_n hE dX11_market_59 rfl 1 rfl ?_
        refine c_ip hE (r_V (st := [.int 0]) hE (k_traded l D cy L σ φ ρ (0) hLi pl2) q1332 q1333 q1334 q118 q1335 hLi rfl ⟨by decide, by decide, pn_X1_traded⟩ ⟨Nat.le_of_ble_eq_true rfl, Nat.le_of_ble_eq_true rfl⟩ ⟨Nat.le_of_ble_eq_true rfl, Nat.le_of_ble_eq_true rfl⟩ rfl (Nat.le_of_ble_eq_true rfl) dX11_market_60) (fun r60 h_60 => ?_)
        refine x_widen (k' := 0) (n' := 0) (Nat.le_of_ble_eq_true rfl) (Nat.le_of_ble_eq_true rfl) ?_
        refine x_norm (y := 0) (h_60) ?_
        refine x_icmp_le (tgt := 68) hE dX11_market_63 (by decide) (fun c_63 => ?_) (fun c_63 => absurd (by decide) c_63)
        refine x_iinc (v := nI (i + 1)) (lv' := [(3, .int (nI (i + 1))), (2, .int 0), (0, .ref x), (1, .int p)]) hE dX11_market_68 0 rfl (nI_1 i) (by decide) rfl ?_
        refine x_goto (tgt := 35) hE dX11_market_71 (by decide) ?_
        refine x_sub (lv' := [(3, .int (nI (i + 1))), (2, .int 0), (0, .ref x), (1, .int p)]) (by simp) ?_
        exact ih (i + 1) (by omega) (by omega)
      · refine x_iload_n hE dX11_market_35 rfl 0 rfl ?_
        refine x_bipush (v := 99) hE dX11_market_36 (by decide) ?_
        refine x_icmp_gt (tgt := 74) hE dX11_market_38 (by decide) (fun c_38 => ?_) (fun c_38 => absurd ((nI_ltI (a := 99) (by omega) (by omega)).mpr (by omega)) c_38)
        refine x_iload_n hE dX11_market_74 rfl 1 rfl ?_
        exact hret _ _ _ _ _ _ _ _ (0) (Nat.le_of_ble_eq_true rfl) (Nat.le_of_ble_eq_true rfl) dX11_market_75 (rfl) (by rw [if_pos hp])
  refine x_iload_n hE dX11_market_0 rfl 1 rfl ?_
  refine x_iconst (v := -1) hE dX11_market_1 (by decide) ?_
  refine x_icmp_eq (tgt := 31) hE dX11_market_2 (by decide) (fun c_2 => ?_) (fun c_2 => ?_)
  · refine x_iconst (v := 0) hE dX11_market_31 (by decide) ?_
    refine x_istore_n (lv' := [(2, .int 0), (0, .ref x), (1, .int p)]) hE dX11_market_32 rfl (by decide) rfl ?_
    refine x_iconst (v := 1) hE dX11_market_33 (by decide) ?_
    refine x_istore_n (lv' := [(3, .int 1), (2, .int 0), (0, .ref x), (1, .int p)]) hE dX11_market_34 rfl (by decide) rfl ?_
    refine x_sub (lv' := [(3, .int (nI 1)), (2, .int 0), (0, .ref x), (1, .int p)]) (by simp; rfl) ?_
    exact loop c_2 101 1 (by omega) (by omega)
  · refine x_iload_n hE dX11_market_5 rfl 1 rfl ?_
    refine x_iconst (v := 0) hE dX11_market_6 (by decide) ?_
    refine x_bipush (v := 99) hE dX11_market_7 (by decide) ?_
    refine c_ip hE (r_S (st := []) hE (k_isWithin l D cy L σ φ ρ (p) (0) (99)) q582 q583 q113 q584 ⟨by decide, by decide, pn_X11_isWithin⟩ ⟨Nat.le_of_ble_eq_true rfl, Nat.le_of_ble_eq_true rfl⟩ ⟨Nat.le_of_ble_eq_true rfl, Nat.le_of_ble_eq_true rfl⟩ rfl (Nat.le_of_ble_eq_true rfl) dX11_market_9) (fun r9 h9 => ?_)
    refine x_widen (k' := 0) (n' := 0) (Nat.le_of_ble_eq_true rfl) (Nat.le_of_ble_eq_true rfl) ?_
    refine x_if_eq (tgt := 29) hE dX11_market_12 (by decide) (fun c_12 => ?_) (fun c_12 => ?_)
    · refine x_iconst (v := -1) hE dX11_market_29 (by decide) ?_
      exact hret _ _ _ _ _ _ _ _ (-1) (Nat.le_of_ble_eq_true rfl) (Nat.le_of_ble_eq_true rfl) dX11_market_30 (rfl) (by grind [zb])
    · refine x_aload_n hE dX11_market_15 rfl 0 rfl ?_
      refine h_getr hE hx rfl inZX11 0 (by decide) q556 rfl dX11_market_16 ?_
      refine h_getr hE hn rfl inZX4 3 (by decide) q373 rfl dX11_market_19 ?_
      refine x_iload_n hE dX11_market_22 rfl 1 rfl ?_
      refine c_ip hE (r_V (st := []) hE (k_traded l D cy L σ φ ρ (p) hLi pl2) q1332 q1333 q1334 q118 q1335 hLi rfl ⟨by decide, by decide, pn_X1_traded⟩ ⟨Nat.le_of_ble_eq_true rfl, Nat.le_of_ble_eq_true rfl⟩ ⟨Nat.le_of_ble_eq_true rfl, Nat.le_of_ble_eq_true rfl⟩ rfl (Nat.le_of_ble_eq_true rfl) dX11_market_23) (fun r23 h_23 => ?_)
      refine x_widen (k' := 0) (n' := 0) (Nat.le_of_ble_eq_true rfl) (Nat.le_of_ble_eq_true rfl) ?_
      refine x_norm (y := 0) (h_23) ?_
      refine x_goto (tgt := 30) hE dX11_market_26 (by decide) ?_
      exact hret _ _ _ _ _ _ _ _ (0) (Nat.le_of_ble_eq_true rfl) (Nat.le_of_ble_eq_true rfl) dX11_market_30 (rfl) (by grind [zb])
set_option maxHeartbeats 4000000 in
set_option maxRecDepth 100000 in
theorem k_copyLand (l : Launch) (D : va_G) (cy : Nat → ClassId) (L : List Nat) (σ : Nat → va_E) (φ : Nat → Nat → Nat → Int32) (ρ : Nat → Nat → Int32) {w v : Nat} (hw : zLand cy L σ w) (hv : zLand cy L σ v) : zMV l D cy yX0_copyFrom cX0_copyFrom 2 (zrm 1 0 0) [.ref w, .ref v] L σ φ ρ (zsv L σ (fun φ' _ => ∀ c i b, c ≠ 0 → φ' c i b = φ c i b)) := by
  refine zMV.mk (by decide) (Nat.le_of_ble_eq_true rfl) (fun E hE hI hret => ?_)
  show zW E 0 0 L σ φ ρ 0 [(0, .ref w), (1, .ref v)] []
  obtain ⟨p0, p1, p2, p3, p4, p5, p6, p7, hp, hp0, hp1, hp2, hp3, hp4, hp5, hp6, hp7⟩ := id hw
  obtain ⟨q0, q1, q2, q3, q4, q5, q6, q7, hq, hq0, hq1, hq2, hq3, hq4, hq5, hq6, hq7⟩ := id hv
  refine x_aload_n hE dX0_copyFrom_0 rfl 0 rfl ?_
  refine x_aload_n hE dX0_copyFrom_1 rfl 1 rfl ?_
  refine h_geti hE hq rfl inZX0 0 (by decide) q154 rfl dX0_copyFrom_2 ?_
  refine h_puti (ty := .int) (ty0 := tyX0) hE hp rfl inZX0 tyX0_ok nmX0 0 (by decide) q154 rfl rfl (by decide +kernel) rfl rfl dX0_copyFrom_5 ?_
  refine x_aload_n hE dX0_copyFrom_8 rfl 0 rfl ?_
  refine x_aload_n hE dX0_copyFrom_9 rfl 1 rfl ?_
  refine h_geti hE hq rfl inZX0 1 (by decide) q160 rfl dX0_copyFrom_10 ?_
  refine x_norm (y := φ 0 1 v) (by simp [zup]) ?_
  refine h_puti (ty := .int) (ty0 := tyX0) hE hp rfl inZX0 tyX0_ok nmX0 1 (by decide) q160 rfl rfl (by decide +kernel) rfl rfl dX0_copyFrom_13 ?_
  refine x_aload_n hE dX0_copyFrom_16 rfl 1 rfl ?_
  refine h_getr hE hq rfl inZX0 2 (by decide) q163 rfl dX0_copyFrom_17 ?_
  refine x_iconst (v := 0) hE dX0_copyFrom_20 (by decide) ?_
  refine x_aload_n hE dX0_copyFrom_21 rfl 0 rfl ?_
  refine h_getr hE hp rfl inZX0 2 (by decide) q163 rfl dX0_copyFrom_22 ?_
  refine x_iconst (v := 0) hE dX0_copyFrom_25 (by decide) ?_
  refine x_bipush (v := 6) hE dX0_copyFrom_26 (by decide) ?_
  refine h_copy hE q1366 q960 q959 q132 hq0 hp0 (by decide) (by decide) (by decide) (by decide) (by decide) (Nat.le_of_ble_eq_true rfl) (Nat.le_of_ble_eq_true rfl) dX0_copyFrom_28 ?_
  refine x_rho (fun ρ_28 hρ_28 => ?_)
  refine x_aload_n hE dX0_copyFrom_31 rfl 1 rfl ?_
  refine h_getr hE hq rfl inZX0 3 (by decide) q166 rfl dX0_copyFrom_32 ?_
  refine x_iconst (v := 0) hE dX0_copyFrom_35 (by decide) ?_
  refine x_aload_n hE dX0_copyFrom_36 rfl 0 rfl ?_
  refine h_getr hE hp rfl inZX0 3 (by decide) q166 rfl dX0_copyFrom_37 ?_
  refine x_iconst (v := 0) hE dX0_copyFrom_40 (by decide) ?_
  refine x_bipush (v := 6) hE dX0_copyFrom_41 (by decide) ?_
  refine h_copy hE q1366 q960 q959 q132 hq1 hp1 (by decide) (by decide) (by decide) (by decide) (by decide) (Nat.le_of_ble_eq_true rfl) (Nat.le_of_ble_eq_true rfl) dX0_copyFrom_43 ?_
  refine x_rho (fun ρ_43 hρ_43 => ?_)
  refine x_aload_n hE dX0_copyFrom_46 rfl 1 rfl ?_
  refine h_getr hE hq rfl inZX0 4 (by decide) q170 rfl dX0_copyFrom_47 ?_
  refine x_iconst (v := 0) hE dX0_copyFrom_50 (by decide) ?_
  refine x_aload_n hE dX0_copyFrom_51 rfl 0 rfl ?_
  refine h_getr hE hp rfl inZX0 4 (by decide) q170 rfl dX0_copyFrom_52 ?_
  refine x_iconst (v := 0) hE dX0_copyFrom_55 (by decide) ?_
  refine x_bipush (v := 6) hE dX0_copyFrom_56 (by decide) ?_
  refine h_copy hE q1366 q960 q959 q132 hq2 hp2 (by decide) (by decide) (by decide) (by decide) (by decide) (Nat.le_of_ble_eq_true rfl) (Nat.le_of_ble_eq_true rfl) dX0_copyFrom_58 ?_
  refine x_rho (fun ρ_58 hρ_58 => ?_)
  refine x_aload_n hE dX0_copyFrom_61 rfl 1 rfl ?_
  refine h_getr hE hq rfl inZX0 5 (by decide) q174 rfl dX0_copyFrom_62 ?_
  refine x_iconst (v := 0) hE dX0_copyFrom_65 (by decide) ?_
  refine x_aload_n hE dX0_copyFrom_66 rfl 0 rfl ?_
  refine h_getr hE hp rfl inZX0 5 (by decide) q174 rfl dX0_copyFrom_67 ?_
  refine x_iconst (v := 0) hE dX0_copyFrom_70 (by decide) ?_
  refine x_bipush (v := 6) hE dX0_copyFrom_71 (by decide) ?_
  refine h_copy hE q1366 q960 q959 q132 hq3 hp3 (by decide) (by decide) (by decide) (by decide) (by decide) (Nat.le_of_ble_eq_true rfl) (Nat.le_of_ble_eq_true rfl) dX0_copyFrom_73 ?_
  refine x_rho (fun ρ_73 hρ_73 => ?_)
  refine x_aload_n hE dX0_copyFrom_76 rfl 1 rfl ?_
  refine h_getr hE hq rfl inZX0 6 (by decide) q176 rfl dX0_copyFrom_77 ?_
  refine x_iconst (v := 0) hE dX0_copyFrom_80 (by decide) ?_
  refine x_aload_n hE dX0_copyFrom_81 rfl 0 rfl ?_
  refine h_getr hE hp rfl inZX0 6 (by decide) q176 rfl dX0_copyFrom_82 ?_
  refine x_iconst (v := 0) hE dX0_copyFrom_85 (by decide) ?_
  refine x_bipush (v := 8) hE dX0_copyFrom_86 (by decide) ?_
  refine h_copy hE q1366 q960 q959 q132 hq4 hp4 (by decide) (by decide) (by decide) (by decide) (by decide) (Nat.le_of_ble_eq_true rfl) (Nat.le_of_ble_eq_true rfl) dX0_copyFrom_88 ?_
  refine x_rho (fun ρ_88 hρ_88 => ?_)
  refine x_aload_n hE dX0_copyFrom_91 rfl 1 rfl ?_
  refine h_getr hE hq rfl inZX0 7 (by decide) q179 rfl dX0_copyFrom_92 ?_
  refine x_iconst (v := 0) hE dX0_copyFrom_95 (by decide) ?_
  refine x_aload_n hE dX0_copyFrom_96 rfl 0 rfl ?_
  refine h_getr hE hp rfl inZX0 7 (by decide) q179 rfl dX0_copyFrom_97 ?_
  refine x_iconst (v := 0) hE dX0_copyFrom_100 (by decide) ?_
  refine x_bipush (v := 8) hE dX0_copyFrom_101 (by decide) ?_
  refine h_copy hE q1366 q960 q959 q132 hq5 hp5 (by decide) (by decide) (by decide) (by decide) (by decide) (Nat.le_of_ble_eq_true rfl) (Nat.le_of_ble_eq_true rfl) dX0_copyFrom_103 ?_
  refine x_rho (fun ρ_103 hρ_103 => ?_)
  refine x_aload_n hE dX0_copyFrom_106 rfl 1 rfl ?_
  refine h_getr hE hq rfl inZX0 8 (by decide) q182 rfl dX0_copyFrom_107 ?_
  refine x_iconst (v := 0) hE dX0_copyFrom_110 (by decide) ?_
  refine x_aload_n hE dX0_copyFrom_111 rfl 0 rfl ?_
  refine h_getr hE hp rfl inZX0 8 (by decide) q182 rfl dX0_copyFrom_112 ?_
  refine x_iconst (v := 0) hE dX0_copyFrom_115 (by decide) ?_
  refine x_bipush (v := 8) hE dX0_copyFrom_116 (by decide) ?_
  refine h_copy hE q1366 q960 q959 q132 hq6 hp6 (by decide) (by decide) (by decide) (by decide) (by decide) (Nat.le_of_ble_eq_true rfl) (Nat.le_of_ble_eq_true rfl) dX0_copyFrom_118 ?_
  refine x_rho (fun ρ_118 hρ_118 => ?_)
  refine x_aload_n hE dX0_copyFrom_121 rfl 1 rfl ?_
  refine h_getr hE hq rfl inZX0 9 (by decide) q184 rfl dX0_copyFrom_122 ?_
  refine x_iconst (v := 0) hE dX0_copyFrom_125 (by decide) ?_
  refine x_aload_n hE dX0_copyFrom_126 rfl 0 rfl ?_
  refine h_getr hE hp rfl inZX0 9 (by decide) q184 rfl dX0_copyFrom_127 ?_
  refine x_iconst (v := 0) hE dX0_copyFrom_130 (by decide) ?_
  refine x_bipush (v := 8) hE dX0_copyFrom_131 (by decide) ?_
  refine h_copy hE q1366 q960 q959 q132 hq7 hp7 (by decide) (by decide) (by decide) (by decide) (by decide) (Nat.le_of_ble_eq_true rfl) (Nat.le_of_ble_eq_true rfl) dX0_copyFrom_133 ?_
  refine x_rho (fun ρ_133 hρ_133 => ?_)
  exact hret _ _ _ _ _ _ _ _ (Nat.le_of_ble_eq_true rfl) (Nat.le_of_ble_eq_true rfl) dX0_copyFrom_136 (⟨rfl, rfl, fun c i b h => by simp [zup, h]⟩)
set_option maxHeartbeats 4000000 in
set_option maxRecDepth 100000 in
theorem k_copyLists (l : Launch) (D : va_G) (cy : Nat → ClassId) (L : List Nat) (σ : Nat → va_E) (φ : Nat → Nat → Nat → Int32) (ρ : Nat → Nat → Int32) {w v : Nat} (hw : zLists cy L σ w) (hv : zLists cy L σ v) : zMV l D cy yX1_copyFrom cX1_copyFrom 3 (zrm 1 0 0) [.ref w, .ref v] L σ φ ρ (zsv L σ (fun φ' _ => ∀ c i b, c ≠ 1 → φ' c i b = φ c i b)) := by
  refine zMV.mk (by decide) (Nat.le_of_ble_eq_true rfl) (fun E hE hI hret => ?_)
  show zW E 0 0 L σ φ ρ 0 [(0, .ref w), (1, .ref v)] []
  obtain ⟨p0, p1, p2, p3, p4, p5, p6, p7, hp, hp0, hp1, hp2, hp3, hp4, hp5, hp6, hp7⟩ := id hw
  obtain ⟨q0, q1, q2, q3, q4, q5, q6, q7, hq, hq0, hq1, hq2, hq3, hq4, hq5, hq6, hq7⟩ := id hv
  refine x_aload_n hE dX1_copyFrom_0 rfl 0 rfl ?_
  refine x_aload_n hE dX1_copyFrom_1 rfl 1 rfl ?_
  refine h_geti hE hq rfl inZX1 0 (by decide) q318 rfl dX1_copyFrom_2 ?_
  refine h_puti (ty := .int) (ty0 := tyX1) hE hp rfl inZX1 tyX1_ok nmX1 0 (by decide) q318 rfl rfl (by decide +kernel) rfl rfl dX1_copyFrom_5 ?_
  refine x_aload_n hE dX1_copyFrom_8 rfl 0 rfl ?_
  refine x_aload_n hE dX1_copyFrom_9 rfl 1 rfl ?_
  refine h_geti hE hq rfl inZX1 1 (by decide) q320 rfl dX1_copyFrom_10 ?_
  refine x_norm (y := φ 1 1 v) (by simp [zup]) ?_
  refine h_puti (ty := .int) (ty0 := tyX1) hE hp rfl inZX1 tyX1_ok nmX1 1 (by decide) q320 rfl rfl (by decide +kernel) rfl rfl dX1_copyFrom_13 ?_
  refine x_aload_n hE dX1_copyFrom_16 rfl 0 rfl ?_
  refine x_aload_n hE dX1_copyFrom_17 rfl 1 rfl ?_
  refine h_geti hE hq rfl inZX1 2 (by decide) q322 rfl dX1_copyFrom_18 ?_
  refine x_norm (y := φ 1 2 v) (by simp [zup]) ?_
  refine h_puti (ty := .int) (ty0 := tyX1) hE hp rfl inZX1 tyX1_ok nmX1 2 (by decide) q322 rfl rfl (by decide +kernel) rfl rfl dX1_copyFrom_21 ?_
  refine x_aload_n hE dX1_copyFrom_24 rfl 1 rfl ?_
  refine h_getr hE hq rfl inZX1 3 (by decide) q324 rfl dX1_copyFrom_25 ?_
  refine x_iconst (v := 0) hE dX1_copyFrom_28 (by decide) ?_
  refine x_aload_n hE dX1_copyFrom_29 rfl 0 rfl ?_
  refine h_getr hE hp rfl inZX1 3 (by decide) q324 rfl dX1_copyFrom_30 ?_
  refine x_iconst (v := 0) hE dX1_copyFrom_33 (by decide) ?_
  refine x_bipush (v := 6) hE dX1_copyFrom_34 (by decide) ?_
  refine h_copy hE q1376 q960 q959 q132 hq0 hp0 (by decide) (by decide) (by decide) (by decide) (by decide) (Nat.le_of_ble_eq_true rfl) (Nat.le_of_ble_eq_true rfl) dX1_copyFrom_36 ?_
  refine x_rho (fun ρ_36 hρ_36 => ?_)
  refine x_aload_n hE dX1_copyFrom_39 rfl 1 rfl ?_
  refine h_getr hE hq rfl inZX1 4 (by decide) q326 rfl dX1_copyFrom_40 ?_
  refine x_iconst (v := 0) hE dX1_copyFrom_43 (by decide) ?_
  refine x_aload_n hE dX1_copyFrom_44 rfl 0 rfl ?_
  refine h_getr hE hp rfl inZX1 4 (by decide) q326 rfl dX1_copyFrom_45 ?_
  refine x_iconst (v := 0) hE dX1_copyFrom_48 (by decide) ?_
  refine x_bipush (v := 6) hE dX1_copyFrom_49 (by decide) ?_
  refine h_copy hE q1376 q960 q959 q132 hq1 hp1 (by decide) (by decide) (by decide) (by decide) (by decide) (Nat.le_of_ble_eq_true rfl) (Nat.le_of_ble_eq_true rfl) dX1_copyFrom_51 ?_
  refine x_rho (fun ρ_51 hρ_51 => ?_)
  refine x_aload_n hE dX1_copyFrom_54 rfl 1 rfl ?_
  refine h_getr hE hq rfl inZX1 5 (by decide) q328 rfl dX1_copyFrom_55 ?_
  refine x_iconst (v := 0) hE dX1_copyFrom_58 (by decide) ?_
  refine x_aload_n hE dX1_copyFrom_59 rfl 0 rfl ?_
  refine h_getr hE hp rfl inZX1 5 (by decide) q328 rfl dX1_copyFrom_60 ?_
  refine x_iconst (v := 0) hE dX1_copyFrom_63 (by decide) ?_
  refine x_bipush (v := 6) hE dX1_copyFrom_64 (by decide) ?_
  refine h_copy hE q1376 q960 q959 q132 hq2 hp2 (by decide) (by decide) (by decide) (by decide) (by decide) (Nat.le_of_ble_eq_true rfl) (Nat.le_of_ble_eq_true rfl) dX1_copyFrom_66 ?_
  refine x_rho (fun ρ_66 hρ_66 => ?_)
  refine x_aload_n hE dX1_copyFrom_69 rfl 1 rfl ?_
  refine h_getr hE hq rfl inZX1 6 (by decide) q330 rfl dX1_copyFrom_70 ?_
  refine x_iconst (v := 0) hE dX1_copyFrom_73 (by decide) ?_
  refine x_aload_n hE dX1_copyFrom_74 rfl 0 rfl ?_
  refine h_getr hE hp rfl inZX1 6 (by decide) q330 rfl dX1_copyFrom_75 ?_
  refine x_iconst (v := 0) hE dX1_copyFrom_78 (by decide) ?_
  refine x_bipush (v := 12) hE dX1_copyFrom_79 (by decide) ?_
  refine h_copy hE q1376 q960 q959 q132 hq3 hp3 (by decide) (by decide) (by decide) (by decide) (by decide) (Nat.le_of_ble_eq_true rfl) (Nat.le_of_ble_eq_true rfl) dX1_copyFrom_81 ?_
  refine x_rho (fun ρ_81 hρ_81 => ?_)
  refine x_iconst (v := 0) hE dX1_copyFrom_84 (by decide) ?_
  refine x_istore_n (lv' := [(2, .int 0), (0, .ref w), (1, .ref v)]) hE dX1_copyFrom_85 rfl (by decide) rfl ?_
  refine x_iload_n hE dX1_copyFrom_86 rfl 0 rfl ?_
  refine x_bipush (v := 12) hE dX1_copyFrom_87 (by decide) ?_
  refine x_icmp_ge (tgt := 110) hE dX1_copyFrom_89 (by decide) (fun c_89 => absurd c_89 (by decide)) (fun c_89 => ?_)
  refine x_aload_n hE dX1_copyFrom_92 rfl 1 rfl ?_
  refine h_getr hE hp rfl inZX1 7 (by decide) q331 rfl dX1_copyFrom_93 ?_
  refine x_iload_n hE dX1_copyFrom_96 rfl 0 rfl ?_
  refine x_aload_n hE dX1_copyFrom_97 rfl 2 rfl ?_
  refine h_getr hE hq rfl inZX1 7 (by decide) q331 rfl dX1_copyFrom_98 ?_
  refine x_iload_n hE dX1_copyFrom_101 rfl 0 rfl ?_
  refine h_zald hE hq4 (by unfold vp_in; decide) dX1_copyFrom_102 ?_
  refine h_zast hE hp4 (by unfold vp_in; decide) dX1_copyFrom_103 ?_
  refine x_rho (fun ρ_103 hρ_103 => ?_)
  refine x_iinc (v := 1) (lv' := [(2, .int 1), (0, .ref w), (1, .ref v)]) hE dX1_copyFrom_104 0 rfl (by decide) (by decide) rfl ?_
  refine x_goto (tgt := 86) hE dX1_copyFrom_107 (by decide) ?_
  refine x_iload_n hE dX1_copyFrom_86 rfl 0 rfl ?_
  refine x_bipush (v := 12) hE dX1_copyFrom_87 (by decide) ?_
  refine x_icmp_ge (tgt := 110) hE dX1_copyFrom_89 (by decide) (fun c_89 => absurd c_89 (by decide)) (fun c_89 => ?_)
  refine x_aload_n hE dX1_copyFrom_92 rfl 1 rfl ?_
  refine h_getr hE hp rfl inZX1 7 (by decide) q331 rfl dX1_copyFrom_93 ?_
  refine x_iload_n hE dX1_copyFrom_96 rfl 0 rfl ?_
  refine x_aload_n hE dX1_copyFrom_97 rfl 2 rfl ?_
  refine h_getr hE hq rfl inZX1 7 (by decide) q331 rfl dX1_copyFrom_98 ?_
  refine x_iload_n hE dX1_copyFrom_101 rfl 0 rfl ?_
  refine h_zald hE hq4 (by unfold vp_in; decide) dX1_copyFrom_102 ?_
  refine h_zast hE hp4 (by unfold vp_in; decide) dX1_copyFrom_103 ?_
  refine x_rho (fun ρ_103 hρ_103 => ?_)
  refine x_iinc (v := 2) (lv' := [(2, .int 2), (0, .ref w), (1, .ref v)]) hE dX1_copyFrom_104 0 rfl (by decide) (by decide) rfl ?_
  refine x_goto (tgt := 86) hE dX1_copyFrom_107 (by decide) ?_
  refine x_iload_n hE dX1_copyFrom_86 rfl 0 rfl ?_
  refine x_bipush (v := 12) hE dX1_copyFrom_87 (by decide) ?_
  refine x_icmp_ge (tgt := 110) hE dX1_copyFrom_89 (by decide) (fun c_89 => absurd c_89 (by decide)) (fun c_89 => ?_)
  refine x_aload_n hE dX1_copyFrom_92 rfl 1 rfl ?_
  refine h_getr hE hp rfl inZX1 7 (by decide) q331 rfl dX1_copyFrom_93 ?_
  refine x_iload_n hE dX1_copyFrom_96 rfl 0 rfl ?_
  refine x_aload_n hE dX1_copyFrom_97 rfl 2 rfl ?_
  refine h_getr hE hq rfl inZX1 7 (by decide) q331 rfl dX1_copyFrom_98 ?_
  refine x_iload_n hE dX1_copyFrom_101 rfl 0 rfl ?_
  refine h_zald hE hq4 (by unfold vp_in; decide) dX1_copyFrom_102 ?_
  refine h_zast hE hp4 (by unfold vp_in; decide) dX1_copyFrom_103 ?_
  refine x_rho (fun ρ_103 hρ_103 => ?_)
  refine x_iinc (v := 3) (lv' := [(2, .int 3), (0, .ref w), (1, .ref v)]) hE dX1_copyFrom_104 0 rfl (by decide) (by decide) rfl ?_
  refine x_goto (tgt := 86) hE dX1_copyFrom_107 (by decide) ?_
  refine x_iload_n hE dX1_copyFrom_86 rfl 0 rfl ?_
  refine x_bipush (v := 12) hE dX1_copyFrom_87 (by decide) ?_
  refine x_icmp_ge (tgt := 110) hE dX1_copyFrom_89 (by decide) (fun c_89 => absurd c_89 (by decide)) (fun c_89 => ?_)
  refine x_aload_n hE dX1_copyFrom_92 rfl 1 rfl ?_
  refine h_getr hE hp rfl inZX1 7 (by decide) q331 rfl dX1_copyFrom_93 ?_
  refine x_iload_n hE dX1_copyFrom_96 rfl 0 rfl ?_
  refine x_aload_n hE dX1_copyFrom_97 rfl 2 rfl ?_
  refine h_getr hE hq rfl inZX1 7 (by decide) q331 rfl dX1_copyFrom_98 ?_
  refine x_iload_n hE dX1_copyFrom_101 rfl 0 rfl ?_
  refine h_zald hE hq4 (by unfold vp_in; decide) dX1_copyFrom_102 ?_
  refine h_zast hE hp4 (by unfold vp_in; decide) dX1_copyFrom_103 ?_
  refine x_rho (fun ρ_103 hρ_103 => ?_)
  refine x_iinc (v := 4) (lv' := [(2, .int 4), (0, .ref w), (1, .ref v)]) hE dX1_copyFrom_104 0 rfl (by decide) (by decide) rfl ?_
  refine x_goto (tgt := 86) hE dX1_copyFrom_107 (by decide) ?_
  refine x_iload_n hE dX1_copyFrom_86 rfl 0 rfl ?_
  refine x_bipush (v := 12) hE dX1_copyFrom_87 (by decide) ?_
  refine x_icmp_ge (tgt := 110) hE dX1_copyFrom_89 (by decide) (fun c_89 => absurd c_89 (by decide)) (fun c_89 => ?_)
  refine x_aload_n hE dX1_copyFrom_92 rfl 1 rfl ?_
  refine h_getr hE hp rfl inZX1 7 (by decide) q331 rfl dX1_copyFrom_93 ?_
  refine x_iload_n hE dX1_copyFrom_96 rfl 0 rfl ?_
  refine x_aload_n hE dX1_copyFrom_97 rfl 2 rfl ?_
  refine h_getr hE hq rfl inZX1 7 (by decide) q331 rfl dX1_copyFrom_98 ?_
  refine x_iload_n hE dX1_copyFrom_101 rfl 0 rfl ?_
  refine h_zald hE hq4 (by unfold vp_in; decide) dX1_copyFrom_102 ?_
  refine h_zast hE hp4 (by unfold vp_in; decide) dX1_copyFrom_103 ?_
  refine x_rho (fun ρ_103 hρ_103 => ?_)
  refine x_iinc (v := 5) (lv' := [(2, .int 5), (0, .ref w), (1, .ref v)]) hE dX1_copyFrom_104 0 rfl (by decide) (by decide) rfl ?_
  refine x_goto (tgt := 86) hE dX1_copyFrom_107 (by decide) ?_
  refine x_iload_n hE dX1_copyFrom_86 rfl 0 rfl ?_
  refine x_bipush (v := 12) hE dX1_copyFrom_87 (by decide) ?_
  refine x_icmp_ge (tgt := 110) hE dX1_copyFrom_89 (by decide) (fun c_89 => absurd c_89 (by decide)) (fun c_89 => ?_)
  refine x_aload_n hE dX1_copyFrom_92 rfl 1 rfl ?_
  refine h_getr hE hp rfl inZX1 7 (by decide) q331 rfl dX1_copyFrom_93 ?_
  refine x_iload_n hE dX1_copyFrom_96 rfl 0 rfl ?_
  refine x_aload_n hE dX1_copyFrom_97 rfl 2 rfl ?_
  refine h_getr hE hq rfl inZX1 7 (by decide) q331 rfl dX1_copyFrom_98 ?_
  refine x_iload_n hE dX1_copyFrom_101 rfl 0 rfl ?_
  refine h_zald hE hq4 (by unfold vp_in; decide) dX1_copyFrom_102 ?_
  refine h_zast hE hp4 (by unfold vp_in; decide) dX1_copyFrom_103 ?_
  refine x_rho (fun ρ_103 hρ_103 => ?_)
  refine x_iinc (v := 6) (lv' := [(2, .int 6), (0, .ref w), (1, .ref v)]) hE dX1_copyFrom_104 0 rfl (by decide) (by decide) rfl ?_
  refine x_goto (tgt := 86) hE dX1_copyFrom_107 (by decide) ?_
  refine x_iload_n hE dX1_copyFrom_86 rfl 0 rfl ?_
  refine x_bipush (v := 12) hE dX1_copyFrom_87 (by decide) ?_
  refine x_icmp_ge (tgt := 110) hE dX1_copyFrom_89 (by decide) (fun c_89 => absurd c_89 (by decide)) (fun c_89 => ?_)
  refine x_aload_n hE dX1_copyFrom_92 rfl 1 rfl ?_
  refine h_getr hE hp rfl inZX1 7 (by decide) q331 rfl dX1_copyFrom_93 ?_
  refine x_iload_n hE dX1_copyFrom_96 rfl 0 rfl ?_
  refine x_aload_n hE dX1_copyFrom_97 rfl 2 rfl ?_
  refine h_getr hE hq rfl inZX1 7 (by decide) q331 rfl dX1_copyFrom_98 ?_
  refine x_iload_n hE dX1_copyFrom_101 rfl 0 rfl ?_
  refine h_zald hE hq4 (by unfold vp_in; decide) dX1_copyFrom_102 ?_
  refine h_zast hE hp4 (by unfold vp_in; decide) dX1_copyFrom_103 ?_
  refine x_rho (fun ρ_103 hρ_103 => ?_)
  refine x_iinc (v := 7) (lv' := [(2, .int 7), (0, .ref w), (1, .ref v)]) hE dX1_copyFrom_104 0 rfl (by decide) (by decide) rfl ?_
  refine x_goto (tgt := 86) hE dX1_copyFrom_107 (by decide) ?_
  refine x_iload_n hE dX1_copyFrom_86 rfl 0 rfl ?_
  refine x_bipush (v := 12) hE dX1_copyFrom_87 (by decide) ?_
  refine x_icmp_ge (tgt := 110) hE dX1_copyFrom_89 (by decide) (fun c_89 => absurd c_89 (by decide)) (fun c_89 => ?_)
  refine x_aload_n hE dX1_copyFrom_92 rfl 1 rfl ?_
  refine h_getr hE hp rfl inZX1 7 (by decide) q331 rfl dX1_copyFrom_93 ?_
  refine x_iload_n hE dX1_copyFrom_96 rfl 0 rfl ?_
  refine x_aload_n hE dX1_copyFrom_97 rfl 2 rfl ?_
  refine h_getr hE hq rfl inZX1 7 (by decide) q331 rfl dX1_copyFrom_98 ?_
  refine x_iload_n hE dX1_copyFrom_101 rfl 0 rfl ?_
  refine h_zald hE hq4 (by unfold vp_in; decide) dX1_copyFrom_102 ?_
  refine h_zast hE hp4 (by unfold vp_in; decide) dX1_copyFrom_103 ?_
  refine x_rho (fun ρ_103 hρ_103 => ?_)
  refine x_iinc (v := 8) (lv' := [(2, .int 8), (0, .ref w), (1, .ref v)]) hE dX1_copyFrom_104 0 rfl (by decide) (by decide) rfl ?_
  refine x_goto (tgt := 86) hE dX1_copyFrom_107 (by decide) ?_
  refine x_iload_n hE dX1_copyFrom_86 rfl 0 rfl ?_
  refine x_bipush (v := 12) hE dX1_copyFrom_87 (by decide) ?_
  refine x_icmp_ge (tgt := 110) hE dX1_copyFrom_89 (by decide) (fun c_89 => absurd c_89 (by decide)) (fun c_89 => ?_)
  refine x_aload_n hE dX1_copyFrom_92 rfl 1 rfl ?_
  refine h_getr hE hp rfl inZX1 7 (by decide) q331 rfl dX1_copyFrom_93 ?_
  refine x_iload_n hE dX1_copyFrom_96 rfl 0 rfl ?_
  refine x_aload_n hE dX1_copyFrom_97 rfl 2 rfl ?_
  refine h_getr hE hq rfl inZX1 7 (by decide) q331 rfl dX1_copyFrom_98 ?_
  refine x_iload_n hE dX1_copyFrom_101 rfl 0 rfl ?_
  refine h_zald hE hq4 (by unfold vp_in; decide) dX1_copyFrom_102 ?_
  refine h_zast hE hp4 (by unfold vp_in; decide) dX1_copyFrom_103 ?_
  refine x_rho (fun ρ_103 hρ_103 => ?_)
  refine x_iinc (v := 9) (lv' := [(2, .int 9), (0, .ref w), (1, .ref v)]) hE dX1_copyFrom_104 0 rfl (by decide) (by decide) rfl ?_
  refine x_goto (tgt := 86) hE dX1_copyFrom_107 (by decide) ?_
  refine x_iload_n hE dX1_copyFrom_86 rfl 0 rfl ?_
  refine x_bipush (v := 12) hE dX1_copyFrom_87 (by decide) ?_
  refine x_icmp_ge (tgt := 110) hE dX1_copyFrom_89 (by decide) (fun c_89 => absurd c_89 (by decide)) (fun c_89 => ?_)
  refine x_aload_n hE dX1_copyFrom_92 rfl 1 rfl ?_
  refine h_getr hE hp rfl inZX1 7 (by decide) q331 rfl dX1_copyFrom_93 ?_
  refine x_iload_n hE dX1_copyFrom_96 rfl 0 rfl ?_
  refine x_aload_n hE dX1_copyFrom_97 rfl 2 rfl ?_
  refine h_getr hE hq rfl inZX1 7 (by decide) q331 rfl dX1_copyFrom_98 ?_
  refine x_iload_n hE dX1_copyFrom_101 rfl 0 rfl ?_
  refine h_zald hE hq4 (by unfold vp_in; decide) dX1_copyFrom_102 ?_
  refine h_zast hE hp4 (by unfold vp_in; decide) dX1_copyFrom_103 ?_
  refine x_rho (fun ρ_103 hρ_103 => ?_)
  refine x_iinc (v := 10) (lv' := [(2, .int 10), (0, .ref w), (1, .ref v)]) hE dX1_copyFrom_104 0 rfl (by decide) (by decide) rfl ?_
  refine x_goto (tgt := 86) hE dX1_copyFrom_107 (by decide) ?_
  refine x_iload_n hE dX1_copyFrom_86 rfl 0 rfl ?_
  refine x_bipush (v := 12) hE dX1_copyFrom_87 (by decide) ?_
  refine x_icmp_ge (tgt := 110) hE dX1_copyFrom_89 (by decide) (fun c_89 => absurd c_89 (by decide)) (fun c_89 => ?_)
  refine x_aload_n hE dX1_copyFrom_92 rfl 1 rfl ?_
  refine h_getr hE hp rfl inZX1 7 (by decide) q331 rfl dX1_copyFrom_93 ?_
  refine x_iload_n hE dX1_copyFrom_96 rfl 0 rfl ?_
  refine x_aload_n hE dX1_copyFrom_97 rfl 2 rfl ?_
  refine h_getr hE hq rfl inZX1 7 (by decide) q331 rfl dX1_copyFrom_98 ?_
  refine x_iload_n hE dX1_copyFrom_101 rfl 0 rfl ?_
  refine h_zald hE hq4 (by unfold vp_in; decide) dX1_copyFrom_102 ?_
  refine h_zast hE hp4 (by unfold vp_in; decide) dX1_copyFrom_103 ?_
  refine x_rho (fun ρ_103 hρ_103 => ?_)
  refine x_iinc (v := 11) (lv' := [(2, .int 11), (0, .ref w), (1, .ref v)]) hE dX1_copyFrom_104 0 rfl (by decide) (by decide) rfl ?_
  refine x_goto (tgt := 86) hE dX1_copyFrom_107 (by decide) ?_
  refine x_iload_n hE dX1_copyFrom_86 rfl 0 rfl ?_
  refine x_bipush (v := 12) hE dX1_copyFrom_87 (by decide) ?_
  refine x_icmp_ge (tgt := 110) hE dX1_copyFrom_89 (by decide) (fun c_89 => absurd c_89 (by decide)) (fun c_89 => ?_)
  refine x_aload_n hE dX1_copyFrom_92 rfl 1 rfl ?_
  refine h_getr hE hp rfl inZX1 7 (by decide) q331 rfl dX1_copyFrom_93 ?_
  refine x_iload_n hE dX1_copyFrom_96 rfl 0 rfl ?_
  refine x_aload_n hE dX1_copyFrom_97 rfl 2 rfl ?_
  refine h_getr hE hq rfl inZX1 7 (by decide) q331 rfl dX1_copyFrom_98 ?_
  refine x_iload_n hE dX1_copyFrom_101 rfl 0 rfl ?_
  refine h_zald hE hq4 (by unfold vp_in; decide) dX1_copyFrom_102 ?_
  refine h_zast hE hp4 (by unfold vp_in; decide) dX1_copyFrom_103 ?_
  refine x_rho (fun ρ_103 hρ_103 => ?_)
  refine x_iinc (v := 12) (lv' := [(2, .int 12), (0, .ref w), (1, .ref v)]) hE dX1_copyFrom_104 0 rfl (by decide) (by decide) rfl ?_
  refine x_goto (tgt := 86) hE dX1_copyFrom_107 (by decide) ?_
  refine x_iload_n hE dX1_copyFrom_86 rfl 0 rfl ?_
  refine x_bipush (v := 12) hE dX1_copyFrom_87 (by decide) ?_
  refine x_icmp_ge (tgt := 110) hE dX1_copyFrom_89 (by decide) (fun c_89 => ?_) (fun c_89 => absurd (by decide) c_89)
  refine x_iconst (v := 0) hE dX1_copyFrom_110 (by decide) ?_
  refine x_istore_n (lv' := [(2, .int 0), (0, .ref w), (1, .ref v)]) hE dX1_copyFrom_111 rfl (by decide) rfl ?_
  refine x_iload_n hE dX1_copyFrom_112 rfl 0 rfl ?_
  refine x_bipush (v := 10) hE dX1_copyFrom_113 (by decide) ?_
  refine x_icmp_ge (tgt := 136) hE dX1_copyFrom_115 (by decide) (fun c_115 => absurd c_115 (by decide)) (fun c_115 => ?_)
  refine x_aload_n hE dX1_copyFrom_118 rfl 1 rfl ?_
  refine h_getr hE hp rfl inZX1 8 (by decide) q332 rfl dX1_copyFrom_119 ?_
  refine x_iload_n hE dX1_copyFrom_122 rfl 0 rfl ?_
  refine x_aload_n hE dX1_copyFrom_123 rfl 2 rfl ?_
  refine h_getr hE hq rfl inZX1 8 (by decide) q332 rfl dX1_copyFrom_124 ?_
  refine x_iload_n hE dX1_copyFrom_127 rfl 0 rfl ?_
  refine h_zald hE hq5 (by unfold vp_in; decide) dX1_copyFrom_128 ?_
  refine h_zast hE hp5 (by unfold vp_in; decide) dX1_copyFrom_129 ?_
  refine x_rho (fun ρ_129 hρ_129 => ?_)
  refine x_iinc (v := 1) (lv' := [(2, .int 1), (0, .ref w), (1, .ref v)]) hE dX1_copyFrom_130 0 rfl (by decide) (by decide) rfl ?_
  refine x_goto (tgt := 112) hE dX1_copyFrom_133 (by decide) ?_
  refine x_iload_n hE dX1_copyFrom_112 rfl 0 rfl ?_
  refine x_bipush (v := 10) hE dX1_copyFrom_113 (by decide) ?_
  refine x_icmp_ge (tgt := 136) hE dX1_copyFrom_115 (by decide) (fun c_115 => absurd c_115 (by decide)) (fun c_115 => ?_)
  refine x_aload_n hE dX1_copyFrom_118 rfl 1 rfl ?_
  refine h_getr hE hp rfl inZX1 8 (by decide) q332 rfl dX1_copyFrom_119 ?_
  refine x_iload_n hE dX1_copyFrom_122 rfl 0 rfl ?_
  refine x_aload_n hE dX1_copyFrom_123 rfl 2 rfl ?_
  refine h_getr hE hq rfl inZX1 8 (by decide) q332 rfl dX1_copyFrom_124 ?_
  refine x_iload_n hE dX1_copyFrom_127 rfl 0 rfl ?_
  refine h_zald hE hq5 (by unfold vp_in; decide) dX1_copyFrom_128 ?_
  refine h_zast hE hp5 (by unfold vp_in; decide) dX1_copyFrom_129 ?_
  refine x_rho (fun ρ_129 hρ_129 => ?_)
  refine x_iinc (v := 2) (lv' := [(2, .int 2), (0, .ref w), (1, .ref v)]) hE dX1_copyFrom_130 0 rfl (by decide) (by decide) rfl ?_
  refine x_goto (tgt := 112) hE dX1_copyFrom_133 (by decide) ?_
  refine x_iload_n hE dX1_copyFrom_112 rfl 0 rfl ?_
  refine x_bipush (v := 10) hE dX1_copyFrom_113 (by decide) ?_
  refine x_icmp_ge (tgt := 136) hE dX1_copyFrom_115 (by decide) (fun c_115 => absurd c_115 (by decide)) (fun c_115 => ?_)
  refine x_aload_n hE dX1_copyFrom_118 rfl 1 rfl ?_
  refine h_getr hE hp rfl inZX1 8 (by decide) q332 rfl dX1_copyFrom_119 ?_
  refine x_iload_n hE dX1_copyFrom_122 rfl 0 rfl ?_
  refine x_aload_n hE dX1_copyFrom_123 rfl 2 rfl ?_
  refine h_getr hE hq rfl inZX1 8 (by decide) q332 rfl dX1_copyFrom_124 ?_
  refine x_iload_n hE dX1_copyFrom_127 rfl 0 rfl ?_
  refine h_zald hE hq5 (by unfold vp_in; decide) dX1_copyFrom_128 ?_
  refine h_zast hE hp5 (by unfold vp_in; decide) dX1_copyFrom_129 ?_
  refine x_rho (fun ρ_129 hρ_129 => ?_)
  refine x_iinc (v := 3) (lv' := [(2, .int 3), (0, .ref w), (1, .ref v)]) hE dX1_copyFrom_130 0 rfl (by decide) (by decide) rfl ?_
  refine x_goto (tgt := 112) hE dX1_copyFrom_133 (by decide) ?_
  refine x_iload_n hE dX1_copyFrom_112 rfl 0 rfl ?_
  refine x_bipush (v := 10) hE dX1_copyFrom_113 (by decide) ?_
  refine x_icmp_ge (tgt := 136) hE dX1_copyFrom_115 (by decide) (fun c_115 => absurd c_115 (by decide)) (fun c_115 => ?_)
  refine x_aload_n hE dX1_copyFrom_118 rfl 1 rfl ?_
  refine h_getr hE hp rfl inZX1 8 (by decide) q332 rfl dX1_copyFrom_119 ?_
  refine x_iload_n hE dX1_copyFrom_122 rfl 0 rfl ?_
  refine x_aload_n hE dX1_copyFrom_123 rfl 2 rfl ?_
  refine h_getr hE hq rfl inZX1 8 (by decide) q332 rfl dX1_copyFrom_124 ?_
  refine x_iload_n hE dX1_copyFrom_127 rfl 0 rfl ?_
  refine h_zald hE hq5 (by unfold vp_in; decide) dX1_copyFrom_128 ?_
  refine h_zast hE hp5 (by unfold vp_in; decide) dX1_copyFrom_129 ?_
  refine x_rho (fun ρ_129 hρ_129 => ?_)
  refine x_iinc (v := 4) (lv' := [(2, .int 4), (0, .ref w), (1, .ref v)]) hE dX1_copyFrom_130 0 rfl (by decide) (by decide) rfl ?_
  refine x_goto (tgt := 112) hE dX1_copyFrom_133 (by decide) ?_
  refine x_iload_n hE dX1_copyFrom_112 rfl 0 rfl ?_
  refine x_bipush (v := 10) hE dX1_copyFrom_113 (by decide) ?_
  refine x_icmp_ge (tgt := 136) hE dX1_copyFrom_115 (by decide) (fun c_115 => absurd c_115 (by decide)) (fun c_115 => ?_)
  refine x_aload_n hE dX1_copyFrom_118 rfl 1 rfl ?_
  refine h_getr hE hp rfl inZX1 8 (by decide) q332 rfl dX1_copyFrom_119 ?_
  refine x_iload_n hE dX1_copyFrom_122 rfl 0 rfl ?_
  refine x_aload_n hE dX1_copyFrom_123 rfl 2 rfl ?_
  refine h_getr hE hq rfl inZX1 8 (by decide) q332 rfl dX1_copyFrom_124 ?_
  refine x_iload_n hE dX1_copyFrom_127 rfl 0 rfl ?_
  refine h_zald hE hq5 (by unfold vp_in; decide) dX1_copyFrom_128 ?_
  refine h_zast hE hp5 (by unfold vp_in; decide) dX1_copyFrom_129 ?_
  refine x_rho (fun ρ_129 hρ_129 => ?_)
  refine x_iinc (v := 5) (lv' := [(2, .int 5), (0, .ref w), (1, .ref v)]) hE dX1_copyFrom_130 0 rfl (by decide) (by decide) rfl ?_
  refine x_goto (tgt := 112) hE dX1_copyFrom_133 (by decide) ?_
  refine x_iload_n hE dX1_copyFrom_112 rfl 0 rfl ?_
  refine x_bipush (v := 10) hE dX1_copyFrom_113 (by decide) ?_
  refine x_icmp_ge (tgt := 136) hE dX1_copyFrom_115 (by decide) (fun c_115 => absurd c_115 (by decide)) (fun c_115 => ?_)
  refine x_aload_n hE dX1_copyFrom_118 rfl 1 rfl ?_
  refine h_getr hE hp rfl inZX1 8 (by decide) q332 rfl dX1_copyFrom_119 ?_
  refine x_iload_n hE dX1_copyFrom_122 rfl 0 rfl ?_
  refine x_aload_n hE dX1_copyFrom_123 rfl 2 rfl ?_
  refine h_getr hE hq rfl inZX1 8 (by decide) q332 rfl dX1_copyFrom_124 ?_
  refine x_iload_n hE dX1_copyFrom_127 rfl 0 rfl ?_
  refine h_zald hE hq5 (by unfold vp_in; decide) dX1_copyFrom_128 ?_
  refine h_zast hE hp5 (by unfold vp_in; decide) dX1_copyFrom_129 ?_
  refine x_rho (fun ρ_129 hρ_129 => ?_)
  refine x_iinc (v := 6) (lv' := [(2, .int 6), (0, .ref w), (1, .ref v)]) hE dX1_copyFrom_130 0 rfl (by decide) (by decide) rfl ?_
  refine x_goto (tgt := 112) hE dX1_copyFrom_133 (by decide) ?_
  refine x_iload_n hE dX1_copyFrom_112 rfl 0 rfl ?_
  refine x_bipush (v := 10) hE dX1_copyFrom_113 (by decide) ?_
  refine x_icmp_ge (tgt := 136) hE dX1_copyFrom_115 (by decide) (fun c_115 => absurd c_115 (by decide)) (fun c_115 => ?_)
  refine x_aload_n hE dX1_copyFrom_118 rfl 1 rfl ?_
  refine h_getr hE hp rfl inZX1 8 (by decide) q332 rfl dX1_copyFrom_119 ?_
  refine x_iload_n hE dX1_copyFrom_122 rfl 0 rfl ?_
  refine x_aload_n hE dX1_copyFrom_123 rfl 2 rfl ?_
  refine h_getr hE hq rfl inZX1 8 (by decide) q332 rfl dX1_copyFrom_124 ?_
  refine x_iload_n hE dX1_copyFrom_127 rfl 0 rfl ?_
  refine h_zald hE hq5 (by unfold vp_in; decide) dX1_copyFrom_128 ?_
  refine h_zast hE hp5 (by unfold vp_in; decide) dX1_copyFrom_129 ?_
  refine x_rho (fun ρ_129 hρ_129 => ?_)
  refine x_iinc (v := 7) (lv' := [(2, .int 7), (0, .ref w), (1, .ref v)]) hE dX1_copyFrom_130 0 rfl (by decide) (by decide) rfl ?_
  refine x_goto (tgt := 112) hE dX1_copyFrom_133 (by decide) ?_
  refine x_iload_n hE dX1_copyFrom_112 rfl 0 rfl ?_
  refine x_bipush (v := 10) hE dX1_copyFrom_113 (by decide) ?_
  refine x_icmp_ge (tgt := 136) hE dX1_copyFrom_115 (by decide) (fun c_115 => absurd c_115 (by decide)) (fun c_115 => ?_)
  refine x_aload_n hE dX1_copyFrom_118 rfl 1 rfl ?_
  refine h_getr hE hp rfl inZX1 8 (by decide) q332 rfl dX1_copyFrom_119 ?_
  refine x_iload_n hE dX1_copyFrom_122 rfl 0 rfl ?_
  refine x_aload_n hE dX1_copyFrom_123 rfl 2 rfl ?_
  refine h_getr hE hq rfl inZX1 8 (by decide) q332 rfl dX1_copyFrom_124 ?_
  refine x_iload_n hE dX1_copyFrom_127 rfl 0 rfl ?_
  refine h_zald hE hq5 (by unfold vp_in; decide) dX1_copyFrom_128 ?_
  refine h_zast hE hp5 (by unfold vp_in; decide) dX1_copyFrom_129 ?_
  refine x_rho (fun ρ_129 hρ_129 => ?_)
  refine x_iinc (v := 8) (lv' := [(2, .int 8), (0, .ref w), (1, .ref v)]) hE dX1_copyFrom_130 0 rfl (by decide) (by decide) rfl ?_
  refine x_goto (tgt := 112) hE dX1_copyFrom_133 (by decide) ?_
  refine x_iload_n hE dX1_copyFrom_112 rfl 0 rfl ?_
  refine x_bipush (v := 10) hE dX1_copyFrom_113 (by decide) ?_
  refine x_icmp_ge (tgt := 136) hE dX1_copyFrom_115 (by decide) (fun c_115 => absurd c_115 (by decide)) (fun c_115 => ?_)
  refine x_aload_n hE dX1_copyFrom_118 rfl 1 rfl ?_
  refine h_getr hE hp rfl inZX1 8 (by decide) q332 rfl dX1_copyFrom_119 ?_
  refine x_iload_n hE dX1_copyFrom_122 rfl 0 rfl ?_
  refine x_aload_n hE dX1_copyFrom_123 rfl 2 rfl ?_
  refine h_getr hE hq rfl inZX1 8 (by decide) q332 rfl dX1_copyFrom_124 ?_
  refine x_iload_n hE dX1_copyFrom_127 rfl 0 rfl ?_
  refine h_zald hE hq5 (by unfold vp_in; decide) dX1_copyFrom_128 ?_
  refine h_zast hE hp5 (by unfold vp_in; decide) dX1_copyFrom_129 ?_
  refine x_rho (fun ρ_129 hρ_129 => ?_)
  refine x_iinc (v := 9) (lv' := [(2, .int 9), (0, .ref w), (1, .ref v)]) hE dX1_copyFrom_130 0 rfl (by decide) (by decide) rfl ?_
  refine x_goto (tgt := 112) hE dX1_copyFrom_133 (by decide) ?_
  refine x_iload_n hE dX1_copyFrom_112 rfl 0 rfl ?_
  refine x_bipush (v := 10) hE dX1_copyFrom_113 (by decide) ?_
  refine x_icmp_ge (tgt := 136) hE dX1_copyFrom_115 (by decide) (fun c_115 => absurd c_115 (by decide)) (fun c_115 => ?_)
  refine x_aload_n hE dX1_copyFrom_118 rfl 1 rfl ?_
  refine h_getr hE hp rfl inZX1 8 (by decide) q332 rfl dX1_copyFrom_119 ?_
  refine x_iload_n hE dX1_copyFrom_122 rfl 0 rfl ?_
  refine x_aload_n hE dX1_copyFrom_123 rfl 2 rfl ?_
  refine h_getr hE hq rfl inZX1 8 (by decide) q332 rfl dX1_copyFrom_124 ?_
  refine x_iload_n hE dX1_copyFrom_127 rfl 0 rfl ?_
  refine h_zald hE hq5 (by unfold vp_in; decide) dX1_copyFrom_128 ?_
  refine h_zast hE hp5 (by unfold vp_in; decide) dX1_copyFrom_129 ?_
  refine x_rho (fun ρ_129 hρ_129 => ?_)
  refine x_iinc (v := 10) (lv' := [(2, .int 10), (0, .ref w), (1, .ref v)]) hE dX1_copyFrom_130 0 rfl (by decide) (by decide) rfl ?_
  refine x_goto (tgt := 112) hE dX1_copyFrom_133 (by decide) ?_
  refine x_iload_n hE dX1_copyFrom_112 rfl 0 rfl ?_
  refine x_bipush (v := 10) hE dX1_copyFrom_113 (by decide) ?_
  refine x_icmp_ge (tgt := 136) hE dX1_copyFrom_115 (by decide) (fun c_115 => ?_) (fun c_115 => absurd (by decide) c_115)
  refine x_aload_n hE dX1_copyFrom_136 rfl 2 rfl ?_
  refine h_getr hE hq rfl inZX1 9 (by decide) q333 rfl dX1_copyFrom_137 ?_
  refine x_iconst (v := 0) hE dX1_copyFrom_140 (by decide) ?_
  refine x_aload_n hE dX1_copyFrom_141 rfl 1 rfl ?_
  refine h_getr hE hp rfl inZX1 9 (by decide) q333 rfl dX1_copyFrom_142 ?_
  refine x_iconst (v := 0) hE dX1_copyFrom_145 (by decide) ?_
  refine x_bipush (v := 10) hE dX1_copyFrom_146 (by decide) ?_
  refine h_copy hE q1376 q960 q959 q132 hq6 hp6 (by decide) (by decide) (by decide) (by decide) (by decide) (Nat.le_of_ble_eq_true rfl) (Nat.le_of_ble_eq_true rfl) dX1_copyFrom_148 ?_
  refine x_rho (fun ρ_148 hρ_148 => ?_)
  refine x_aload_n hE dX1_copyFrom_151 rfl 2 rfl ?_
  refine h_getr hE hq rfl inZX1 10 (by decide) q334 rfl dX1_copyFrom_152 ?_
  refine x_iconst (v := 0) hE dX1_copyFrom_155 (by decide) ?_
  refine x_aload_n hE dX1_copyFrom_156 rfl 1 rfl ?_
  refine h_getr hE hp rfl inZX1 10 (by decide) q334 rfl dX1_copyFrom_157 ?_
  refine x_iconst (v := 0) hE dX1_copyFrom_160 (by decide) ?_
  refine x_bipush (v := 10) hE dX1_copyFrom_161 (by decide) ?_
  refine h_copy hE q1376 q960 q959 q132 hq7 hp7 (by decide) (by decide) (by decide) (by decide) (by decide) (Nat.le_of_ble_eq_true rfl) (Nat.le_of_ble_eq_true rfl) dX1_copyFrom_163 ?_
  refine x_rho (fun ρ_163 hρ_163 => ?_)
  exact hret _ _ _ _ _ _ _ _ (Nat.le_of_ble_eq_true rfl) (Nat.le_of_ble_eq_true rfl) dX1_copyFrom_166 (⟨rfl, rfl, fun c i b h => by simp [zup, h]⟩)
-- Steps.copyFrom: all WORLDS at HOUR 0 stay so
set_option maxHeartbeats 4000000 in
set_option maxRecDepth 100000 in
theorem k_copySteps (l : Launch) (D : va_G) (cy : Nat → ClassId) (L : List Nat) (σ : Nat → va_E) (φ : Nat → Nat → Nat → Int32) (ρ : Nat → Nat → Int32) {a b : Nat} {g g' : Nat → Option Nat} (Z : Nat → Prop) (ha : zSteps cy L σ a g) (hb : zSteps cy L σ b g') (hg : ∀ i, i < 30 → ∀ x, g i = some x → Z x) (hg' : ∀ i, i < 30 → ∀ x, g' i = some x → Z x) (hz : ∀ x, Z x → φ 10 9 x = 0) : zMV l D cy yX5_copyFrom cX5_copyFrom 3 (zrm 2 0 0) [.ref a, .ref b] L σ φ ρ (zsv L σ (fun φ' _ => (∀ x, Z x → φ' 10 9 x = 0) ∧ ∀ c i x, c ≠ 10 → c ≠ 5 → φ' c i x = φ c i x)) := by
  refine zMV.mk (by decide) (Nat.le_of_ble_eq_true rfl) (fun E hE hI hret => ?_)
  show zW E 0 0 L σ φ ρ 0 [(0, .ref a), (1, .ref b)] []
  obtain ⟨a0, a1, hA, hA0, hA1, hAW⟩ := id ha
  obtain ⟨b0, b1, hB, hB0, hB1, hBW⟩ := id hb
  have loop : ∀ (f i : Nat) (φ' : Nat → Nat → Nat → Int32) (ρ' : Nat → Nat → Int32), i ≤ 30 → 30 - i < f → (∀ x, Z x → φ' 10 9 x = 0) → (∀ c i x, c ≠ 10 → c ≠ 5 → φ' c i x = φ c i x) → zW E 0 0 L σ φ' ρ' 18 [(2, .int (nI i)), (0, .ref a), (1, .ref b)] [] := by
    intro f
    induction f with
    | zero => intro i φ' ρ' h1 h2; omega
    | succ f ih =>
      intro i φ' ρ' hi hf hz' hfr
      rcases Nat.lt_or_ge i 30 with hlt | hge
      · refine x_iload_n hE dX5_copyFrom_18 rfl 0 rfl ?_
        refine x_bipush (v := 30) hE dX5_copyFrom_19 (by decide) ?_
        refine x_icmp_ge (tgt := 57) hE dX5_copyFrom_21 (by decide) (fun c_21 => absurd c_21 (fun h => absurd ((nI_leI (a := 30) (by omega) (by omega)).mp h) (by omega))) (fun c_21 => ?_)
        obtain ⟨y, hy1, hy⟩ := hAW i hlt
        obtain ⟨z, hz1, hzW⟩ := hBW i hlt
        obtain ⟨SY, hyT⟩ := hy.at
        refine x_aload_n hE dX5_copyFrom_24 rfl 1 rfl ?_
        refine h_getr hE hA rfl inZX5 2 (by decide) q301 rfl dX5_copyFrom_25 ?_
        refine x_iload_n hE dX5_copyFrom_28 rfl 0 rfl ?_
        refine h_aald (b := y) hE hA0 (vp_in_nI hlt (by omega)) ((by rw [nI_clamp (by omega)]; exact hy1)) dX5_copyFrom_29 ?_
        refine x_aload_n hE dX5_copyFrom_30 rfl 2 rfl ?_
        refine h_getr hE hB rfl inZX5 2 (by decide) q301 rfl dX5_copyFrom_31 ?_
        refine x_iload_n hE dX5_copyFrom_34 rfl 0 rfl ?_
        refine h_aald (b := z) hE hB0 (vp_in_nI hlt (by omega)) ((by rw [nI_clamp (by omega)]; exact hz1)) dX5_copyFrom_35 ?_
        refine c_vs hE (r_V (st := []) hE (k_copyWorld l D cy L σ φ' ρ' hy hzW) q954 q955 q956 q116 q957 hyT rfl ⟨by decide, by decide, pn_X10_copyFrom⟩ ⟨Nat.le_of_ble_eq_true rfl, Nat.le_of_ble_eq_true rfl⟩ ⟨Nat.le_of_ble_eq_true rfl, Nat.le_of_ble_eq_true rfl⟩ rfl (Nat.le_of_ble_eq_true rfl) dX5_copyFrom_36) (fun φ1 ρ1 hc => ?_)
        refine x_widen (k' := 0) (n' := 0) (Nat.le_of_ble_eq_true rfl) (Nat.le_of_ble_eq_true rfl) ?_
        obtain ⟨hc1, hc2⟩ := hc
        refine x_aload_n hE dX5_copyFrom_39 rfl 1 rfl ?_
        refine h_getr hE hA rfl inZX5 3 (by decide) q302 rfl dX5_copyFrom_40 ?_
        refine x_iload_n hE dX5_copyFrom_43 rfl 0 rfl ?_
        refine x_aload_n hE dX5_copyFrom_44 rfl 2 rfl ?_
        refine h_getr hE hB rfl inZX5 3 (by decide) q302 rfl dX5_copyFrom_45 ?_
        refine x_iload_n hE dX5_copyFrom_48 rfl 0 rfl ?_
        refine h_iald hE hB1 (vp_in_nI hlt (by omega)) dX5_copyFrom_49 ?_
        refine h_iast hE hA1 (vp_in_nI hlt (by omega)) dX5_copyFrom_50 ?_
        refine x_rho (fun ρ_50 hρ_50 => ?_)
        refine x_iinc (v := nI (i + 1)) (lv' := [(2, .int (nI (i + 1))), (0, .ref a), (1, .ref b)]) hE dX5_copyFrom_51 0 rfl (nI_1 i) (by decide) rfl ?_
        refine x_goto (tgt := 18) hE dX5_copyFrom_54 (by decide) ?_
        refine x_sub (lv' := [(2, .int (nI (i + 1))), (0, .ref a), (1, .ref b)]) (by simp) ?_
        refine ih (i + 1) _ _ (by omega) (by omega) (fun x hx => ?_) (fun c i x h1 h2 => (hc1 c i x (Or.inl h1)).trans (hfr c i x h1 h2))
        exact if e : x = y then (by subst e; rw [hc2 9 (by omega) (by omega)]; exact hz' z (hg' i hlt z hz1)) else (hc1 10 9 x (Or.inr e)).trans (hz' x hx)
      · refine x_iload_n hE dX5_copyFrom_18 rfl 0 rfl ?_
        refine x_bipush (v := 30) hE dX5_copyFrom_19 (by decide) ?_
        refine x_icmp_ge (tgt := 57) hE dX5_copyFrom_21 (by decide) (fun c_21 => ?_) (fun c_21 => absurd ((nI_leI (a := 30) (by omega) (by omega)).mpr (by omega)) c_21)
        exact hret _ _ _ _ _ _ _ _ (Nat.le_of_ble_eq_true rfl) (Nat.le_of_ble_eq_true rfl) dX5_copyFrom_57 (⟨rfl, rfl, hz', hfr⟩)
  refine x_aload_n hE dX5_copyFrom_0 rfl 0 rfl ?_
  refine x_aload_n hE dX5_copyFrom_1 rfl 1 rfl ?_
  refine h_geti hE hB rfl inZX5 0 (by decide) q297 rfl dX5_copyFrom_2 ?_
  refine h_puti (ty := .int) (ty0 := tyX5) hE hA rfl inZX5 tyX5_ok nmX5 0 (by decide) q297 rfl rfl (by decide +kernel) rfl rfl dX5_copyFrom_5 ?_
  refine x_aload_n hE dX5_copyFrom_8 rfl 0 rfl ?_
  refine x_aload_n hE dX5_copyFrom_9 rfl 1 rfl ?_
  refine h_geti hE hB rfl inZX5 1 (by decide) q300 rfl dX5_copyFrom_10 ?_
  refine x_norm (y := φ 5 1 b) (by simp [zup]) ?_
  refine h_puti (ty := .int) (ty0 := tyX5) hE hA rfl inZX5 tyX5_ok nmX5 1 (by decide) q300 rfl rfl (by decide +kernel) rfl rfl dX5_copyFrom_13 ?_
  refine x_iconst (v := 0) hE dX5_copyFrom_16 (by decide) ?_
  refine x_istore_n (lv' := [(2, .int 0), (0, .ref a), (1, .ref b)]) hE dX5_copyFrom_17 rfl (by decide) rfl ?_
  refine x_sub (lv' := [(2, .int (nI 0)), (0, .ref a), (1, .ref b)]) (by simp [nI_0]) ?_
  exact loop 31 0 _ _ (by omega) (by omega) (fun x hx => by simp [zup]; exact hz x hx) (fun c i x h1 h2 => by simp [zup, h2])
