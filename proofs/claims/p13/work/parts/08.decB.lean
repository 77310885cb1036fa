theorem xd_St_init_0 : decode xb_St_init 0 = .ok (.aload_n 0, 1) := by decide +kernel
theorem xd_St_init_1 : decode xb_St_init 1 = .ok (.invokespecial 3, 3) := by decide +kernel
theorem xd_St_init_4 : decode xb_St_init 4 = .ok (.aload_n 0, 1) := by decide +kernel
theorem xd_St_init_5 : decode xb_St_init 5 = .ok (.bipush 40, 2) := by decide +kernel
theorem xd_St_init_7 : decode xb_St_init 7 = .ok (.newarray .int, 2) := by decide +kernel
theorem xd_St_init_9 : decode xb_St_init 9 = .ok (.putfield 9, 3) := by decide +kernel
theorem xd_St_init_12 : decode xb_St_init 12 = .ok (.aload_n 0, 1) := by decide +kernel
theorem xd_St_init_13 : decode xb_St_init 13 = .ok (.bipush 40, 2) := by decide +kernel
theorem xd_St_init_15 : decode xb_St_init 15 = .ok (.newarray .int, 2) := by decide +kernel
theorem xd_St_init_17 : decode xb_St_init 17 = .ok (.putfield 15, 3) := by decide +kernel
theorem xd_St_init_20 : decode xb_St_init 20 = .ok (.aload_n 0, 1) := by decide +kernel
theorem xd_St_init_21 : decode xb_St_init 21 = .ok (.sipush 1040, 3) := by decide +kernel
theorem xd_St_init_24 : decode xb_St_init 24 = .ok (.newarray .int, 2) := by decide +kernel
theorem xd_St_init_26 : decode xb_St_init 26 = .ok (.putfield 18, 3) := by decide +kernel
theorem xd_St_init_29 : decode xb_St_init 29 = .ok (.aload_n 0, 1) := by decide +kernel
theorem xd_St_init_30 : decode xb_St_init 30 = .ok (.getfield 9, 3) := by decide +kernel
theorem xd_St_init_33 : decode xb_St_init 33 = .ok (.iconst 0, 1) := by decide +kernel
theorem xd_St_init_34 : decode xb_St_init 34 = .ok (.iconst 1, 1) := by decide +kernel
theorem xd_St_init_35 : decode xb_St_init 35 = .ok (.iastore, 1) := by decide +kernel
theorem xd_St_init_36 : decode xb_St_init 36 = .ok (.return_, 1) := by decide +kernel
theorem xd_Ed_init_0 : decode xb_Ed_init 0 = .ok (.aload_n 0, 1) := by decide +kernel
theorem xd_Ed_init_1 : decode xb_Ed_init 1 = .ok (.invokespecial 3, 3) := by decide +kernel
theorem xd_Ed_init_4 : decode xb_Ed_init 4 = .ok (.aload_n 0, 1) := by decide +kernel
theorem xd_Ed_init_5 : decode xb_Ed_init 5 = .ok (.new 9, 3) := by decide +kernel
theorem xd_Ed_init_8 : decode xb_Ed_init 8 = .ok (.dup, 1) := by decide +kernel
theorem xd_Ed_init_9 : decode xb_Ed_init 9 = .ok (.invokespecial 11, 3) := by decide +kernel
theorem xd_Ed_init_12 : decode xb_Ed_init 12 = .ok (.putfield 12, 3) := by decide +kernel
theorem xd_Ed_init_15 : decode xb_Ed_init 15 = .ok (.aload_n 0, 1) := by decide +kernel
theorem xd_Ed_init_16 : decode xb_Ed_init 16 = .ok (.aload_n 1, 1) := by decide +kernel
theorem xd_Ed_init_17 : decode xb_Ed_init 17 = .ok (.putfield 18, 3) := by decide +kernel
theorem xd_Ed_init_20 : decode xb_Ed_init 20 = .ok (.return_, 1) := by decide +kernel
theorem xd_Li_init_0 : decode xb_Li_init 0 = .ok (.aload_n 0, 1) := by decide +kernel
theorem xd_Li_init_1 : decode xb_Li_init 1 = .ok (.invokespecial 3, 3) := by decide +kernel
theorem xd_Li_init_4 : decode xb_Li_init 4 = .ok (.aload_n 0, 1) := by decide +kernel
theorem xd_Li_init_5 : decode xb_Li_init 5 = .ok (.new 9, 3) := by decide +kernel
theorem xd_Li_init_8 : decode xb_Li_init 8 = .ok (.dup, 1) := by decide +kernel
theorem xd_Li_init_9 : decode xb_Li_init 9 = .ok (.invokespecial 11, 3) := by decide +kernel
theorem xd_Li_init_12 : decode xb_Li_init 12 = .ok (.putfield 12, 3) := by decide +kernel
theorem xd_Li_init_15 : decode xb_Li_init 15 = .ok (.aload_n 0, 1) := by decide +kernel
theorem xd_Li_init_16 : decode xb_Li_init 16 = .ok (.new 9, 3) := by decide +kernel
theorem xd_Li_init_19 : decode xb_Li_init 19 = .ok (.dup, 1) := by decide +kernel
theorem xd_Li_init_20 : decode xb_Li_init 20 = .ok (.invokespecial 11, 3) := by decide +kernel
theorem xd_Li_init_23 : decode xb_Li_init 23 = .ok (.putfield 18, 3) := by decide +kernel
theorem xd_Li_init_26 : decode xb_Li_init 26 = .ok (.return_, 1) := by decide +kernel
theorem xd_St_copyFrom_0 : decode xb_St_copyFrom 0 = .ok (.aload_n 1, 1) := by decide +kernel
theorem xd_St_copyFrom_1 : decode xb_St_copyFrom 1 = .ok (.getfield 9, 3) := by decide +kernel
theorem xd_St_copyFrom_4 : decode xb_St_copyFrom 4 = .ok (.iconst 0, 1) := by decide +kernel
theorem xd_St_copyFrom_5 : decode xb_St_copyFrom 5 = .ok (.aload_n 0, 1) := by decide +kernel
theorem xd_St_copyFrom_6 : decode xb_St_copyFrom 6 = .ok (.getfield 9, 3) := by decide +kernel
theorem xd_St_copyFrom_9 : decode xb_St_copyFrom 9 = .ok (.iconst 0, 1) := by decide +kernel
theorem xd_St_copyFrom_10 : decode xb_St_copyFrom 10 = .ok (.bipush 40, 2) := by decide +kernel
theorem xd_St_copyFrom_12 : decode xb_St_copyFrom 12 = .ok (.invokestatic 21, 3) := by decide +kernel
theorem xd_St_copyFrom_15 : decode xb_St_copyFrom 15 = .ok (.aload_n 1, 1) := by decide +kernel
theorem xd_St_copyFrom_16 : decode xb_St_copyFrom 16 = .ok (.getfield 15, 3) := by decide +kernel
theorem xd_St_copyFrom_19 : decode xb_St_copyFrom 19 = .ok (.iconst 0, 1) := by decide +kernel
theorem xd_St_copyFrom_20 : decode xb_St_copyFrom 20 = .ok (.aload_n 0, 1) := by decide +kernel
theorem xd_St_copyFrom_21 : decode xb_St_copyFrom 21 = .ok (.getfield 15, 3) := by decide +kernel
theorem xd_St_copyFrom_24 : decode xb_St_copyFrom 24 = .ok (.iconst 0, 1) := by decide +kernel
theorem xd_St_copyFrom_25 : decode xb_St_copyFrom 25 = .ok (.bipush 40, 2) := by decide +kernel
theorem xd_St_copyFrom_27 : decode xb_St_copyFrom 27 = .ok (.invokestatic 21, 3) := by decide +kernel
theorem xd_St_copyFrom_30 : decode xb_St_copyFrom 30 = .ok (.aload_n 1, 1) := by decide +kernel
theorem xd_St_copyFrom_31 : decode xb_St_copyFrom 31 = .ok (.getfield 18, 3) := by decide +kernel
theorem xd_St_copyFrom_34 : decode xb_St_copyFrom 34 = .ok (.iconst 0, 1) := by decide +kernel
theorem xd_St_copyFrom_35 : decode xb_St_copyFrom 35 = .ok (.aload_n 0, 1) := by decide +kernel
theorem xd_St_copyFrom_36 : decode xb_St_copyFrom 36 = .ok (.getfield 18, 3) := by decide +kernel
theorem xd_St_copyFrom_39 : decode xb_St_copyFrom 39 = .ok (.iconst 0, 1) := by decide +kernel
theorem xd_St_copyFrom_40 : decode xb_St_copyFrom 40 = .ok (.sipush 1040, 3) := by decide +kernel
theorem xd_St_copyFrom_43 : decode xb_St_copyFrom 43 = .ok (.invokestatic 21, 3) := by decide +kernel
theorem xd_St_copyFrom_46 : decode xb_St_copyFrom 46 = .ok (.return_, 1) := by decide +kernel
theorem xd_Ed_doText_0 : decode xb_Ed_doText 0 = .ok (.aload_n 0, 1) := by decide +kernel
theorem xd_Ed_doText_1 : decode xb_Ed_doText 1 = .ok (.iload_n 2, 1) := by decide +kernel
theorem xd_Ed_doText_2 : decode xb_Ed_doText 2 = .ok (.putfield 29, 3) := by decide +kernel
theorem xd_Ed_doText_5 : decode xb_Ed_doText 5 = .ok (.aload_n 0, 1) := by decide +kernel
theorem xd_Ed_doText_6 : decode xb_Ed_doText 6 = .ok (.iconst 0, 1) := by decide +kernel
theorem xd_Ed_doText_7 : decode xb_Ed_doText 7 = .ok (.putfield 22, 3) := by decide +kernel
theorem xd_Ed_doText_10 : decode xb_Ed_doText 10 = .ok (.aload_n 0, 1) := by decide +kernel
theorem xd_Ed_doText_11 : decode xb_Ed_doText 11 = .ok (.iconst 0, 1) := by decide +kernel
theorem xd_Ed_doText_12 : decode xb_Ed_doText 12 = .ok (.putfield 26, 3) := by decide +kernel
theorem xd_Ed_doText_15 : decode xb_Ed_doText 15 = .ok (.aload_n 1, 1) := by decide +kernel
theorem xd_Ed_doText_16 : decode xb_Ed_doText 16 = .ok (.invokevirtual 33, 3) := by decide +kernel
theorem xd_Ed_doText_19 : decode xb_Ed_doText 19 = .ok (.aload_n 0, 1) := by decide +kernel
theorem xd_Ed_doText_20 : decode xb_Ed_doText 20 = .ok (.getfield 22, 3) := by decide +kernel
theorem xd_Ed_doText_23 : decode xb_Ed_doText 23 = .ok (.sipush 300, 3) := by decide +kernel
theorem xd_Ed_doText_26 : decode xb_Ed_doText 26 = .ok (.if_icmp .ge 74, 3) := by decide +kernel
theorem xd_Ed_doText_29 : decode xb_Ed_doText 29 = .ok (.aload_n 1, 1) := by decide +kernel
theorem xd_Ed_doText_30 : decode xb_Ed_doText 30 = .ok (.invokevirtual 38, 3) := by decide +kernel
theorem xd_Ed_doText_33 : decode xb_Ed_doText 33 = .ok (.ifCond .eq 67, 3) := by decide +kernel
theorem xd_Ed_doText_36 : decode xb_Ed_doText 36 = .ok (.aload_n 0, 1) := by decide +kernel
theorem xd_Ed_doText_37 : decode xb_Ed_doText 37 = .ok (.getfield 12, 3) := by decide +kernel
theorem xd_Ed_doText_40 : decode xb_Ed_doText 40 = .ok (.aload_n 1, 1) := by decide +kernel
theorem xd_Ed_doText_41 : decode xb_Ed_doText 41 = .ok (.invokevirtual 42, 3) := by decide +kernel
theorem xd_Ed_doText_44 : decode xb_Ed_doText 44 = .ok (.ifCond .eq 10, 3) := by decide +kernel
theorem xd_Ed_doText_47 : decode xb_Ed_doText 47 = .ok (.aload_n 0, 1) := by decide +kernel
theorem xd_Ed_doText_48 : decode xb_Ed_doText 48 = .ok (.invokevirtual 46, 3) := by decide +kernel
theorem xd_Ed_doText_51 : decode xb_Ed_doText 51 = .ok (.goto 4, 3) := by decide +kernel
theorem xd_Ed_doText_54 : decode xb_Ed_doText 54 = .ok (.iconst 1, 1) := by decide +kernel
theorem xd_Ed_doText_55 : decode xb_Ed_doText 55 = .ok (.istore_n 3, 1) := by decide +kernel
theorem xd_Ed_doText_56 : decode xb_Ed_doText 56 = .ok (.iload_n 3, 1) := by decide +kernel
theorem xd_Ed_doText_57 : decode xb_Ed_doText 57 = .ok (.ifCond .le 15, 3) := by decide +kernel
theorem xd_Ed_doText_60 : decode xb_Ed_doText 60 = .ok (.iconst (-1), 1) := by decide +kernel
theorem xd_Ed_doText_61 : decode xb_Ed_doText 61 = .ok (.bipush 10, 2) := by decide +kernel
theorem xd_Ed_doText_63 : decode xb_Ed_doText 63 = .ok (.aload_n 0, 1) := by decide +kernel
theorem xd_Ed_doText_64 : decode xb_Ed_doText 64 = .ok (.getfield 22, 3) := by decide +kernel
theorem xd_Ed_doText_67 : decode xb_Ed_doText 67 = .ok (.imul, 1) := by decide +kernel
theorem xd_Ed_doText_68 : decode xb_Ed_doText 68 = .ok (.iload_n 3, 1) := by decide +kernel
theorem xd_Ed_doText_69 : decode xb_Ed_doText 69 = .ok (.iadd, 1) := by decide +kernel
theorem xd_Ed_doText_70 : decode xb_Ed_doText 70 = .ok (.isub, 1) := by decide +kernel
theorem xd_Ed_doText_71 : decode xb_Ed_doText 71 = .ok (.ireturn, 1) := by decide +kernel
theorem xd_Ed_doText_72 : decode xb_Ed_doText 72 = .ok (.iload_n 3, 1) := by decide +kernel
theorem xd_Ed_doText_73 : decode xb_Ed_doText 73 = .ok (.iconst (-1), 1) := by decide +kernel
theorem xd_Ed_doText_74 : decode xb_Ed_doText 74 = .ok (.if_icmp .ne 13, 3) := by decide +kernel
theorem xd_Ed_doText_77 : decode xb_Ed_doText 77 = .ok (.aload_n 0, 1) := by decide +kernel
theorem xd_Ed_doText_78 : decode xb_Ed_doText 78 = .ok (.dup, 1) := by decide +kernel
theorem xd_Ed_doText_79 : decode xb_Ed_doText 79 = .ok (.getfield 26, 3) := by decide +kernel
theorem xd_Ed_doText_82 : decode xb_Ed_doText 82 = .ok (.iconst 1, 1) := by decide +kernel
theorem xd_Ed_doText_83 : decode xb_Ed_doText 83 = .ok (.iadd, 1) := by decide +kernel
theorem xd_Ed_doText_84 : decode xb_Ed_doText 84 = .ok (.putfield 26, 3) := by decide +kernel
theorem xd_Ed_doText_87 : decode xb_Ed_doText 87 = .ok (.aload_n 0, 1) := by decide +kernel
theorem xd_Ed_doText_88 : decode xb_Ed_doText 88 = .ok (.dup, 1) := by decide +kernel
theorem xd_Ed_doText_89 : decode xb_Ed_doText 89 = .ok (.getfield 22, 3) := by decide +kernel
theorem xd_Ed_doText_92 : decode xb_Ed_doText 92 = .ok (.iconst 1, 1) := by decide +kernel
theorem xd_Ed_doText_93 : decode xb_Ed_doText 93 = .ok (.iadd, 1) := by decide +kernel
theorem xd_Ed_doText_94 : decode xb_Ed_doText 94 = .ok (.putfield 22, 3) := by decide +kernel
theorem xd_Ed_doText_97 : decode xb_Ed_doText 97 = .ok (.goto (-78), 3) := by decide +kernel
theorem xd_Ed_doText_100 : decode xb_Ed_doText 100 = .ok (.iconst 0, 1) := by decide +kernel
theorem xd_Ed_doText_101 : decode xb_Ed_doText 101 = .ok (.ireturn, 1) := by decide +kernel
theorem xd_Li_readFrom_0 : decode xb_Li_readFrom 0 = .ok (.aload_n 0, 1) := by decide +kernel
theorem xd_Li_readFrom_1 : decode xb_Li_readFrom 1 = .ok (.iconst 0, 1) := by decide +kernel
theorem xd_Li_readFrom_2 : decode xb_Li_readFrom 2 = .ok (.putfield 21, 3) := by decide +kernel
theorem xd_Li_readFrom_5 : decode xb_Li_readFrom 5 = .ok (.aload_n 0, 1) := by decide +kernel
theorem xd_Li_readFrom_6 : decode xb_Li_readFrom 6 = .ok (.iconst 0, 1) := by decide +kernel
theorem xd_Li_readFrom_7 : decode xb_Li_readFrom 7 = .ok (.putfield 25, 3) := by decide +kernel
theorem xd_Li_readFrom_10 : decode xb_Li_readFrom 10 = .ok (.aload_n 0, 1) := by decide +kernel
theorem xd_Li_readFrom_11 : decode xb_Li_readFrom 11 = .ok (.iconst 0, 1) := by decide +kernel
theorem xd_Li_readFrom_12 : decode xb_Li_readFrom 12 = .ok (.putfield 28, 3) := by decide +kernel
theorem xd_Li_readFrom_15 : decode xb_Li_readFrom 15 = .ok (.aload_n 0, 1) := by decide +kernel
theorem xd_Li_readFrom_16 : decode xb_Li_readFrom 16 = .ok (.aload_n 1, 1) := by decide +kernel
theorem xd_Li_readFrom_17 : decode xb_Li_readFrom 17 = .ok (.invokevirtual 31, 3) := by decide +kernel
theorem xd_Li_readFrom_20 : decode xb_Li_readFrom 20 = .ok (.putfield 37, 3) := by decide +kernel
theorem xd_Li_readFrom_23 : decode xb_Li_readFrom 23 = .ok (.aload_n 1, 1) := by decide +kernel
theorem xd_Li_readFrom_24 : decode xb_Li_readFrom 24 = .ok (.bipush 32, 2) := by decide +kernel
theorem xd_Li_readFrom_26 : decode xb_Li_readFrom 26 = .ok (.invokevirtual 40, 3) := by decide +kernel
theorem xd_Li_readFrom_29 : decode xb_Li_readFrom 29 = .ok (.istore_n 2, 1) := by decide +kernel
theorem xd_Li_readFrom_30 : decode xb_Li_readFrom 30 = .ok (.aload_n 0, 1) := by decide +kernel
theorem xd_Li_readFrom_31 : decode xb_Li_readFrom 31 = .ok (.getfield 37, 3) := by decide +kernel
theorem xd_Li_readFrom_34 : decode xb_Li_readFrom 34 = .ok (.tableswitch 287 65 83 #[90, 287, 229, 161, 287, 287, 90, 287, 287, 287, 287, 287, 185, 287, 287, 287, 287, 90, 120], 90) := by decide +kernel
theorem xd_Li_readFrom_124 : decode xb_Li_readFrom 124 = .ok (.aload_n 0, 1) := by decide +kernel
theorem xd_Li_readFrom_125 : decode xb_Li_readFrom 125 = .ok (.aload_n 1, 1) := by decide +kernel
theorem xd_Li_readFrom_126 : decode xb_Li_readFrom 126 = .ok (.iconst 2, 1) := by decide +kernel
theorem xd_Li_readFrom_127 : decode xb_Li_readFrom 127 = .ok (.invokevirtual 44, 3) := by decide +kernel
theorem xd_Li_readFrom_130 : decode xb_Li_readFrom 130 = .ok (.putfield 21, 3) := by decide +kernel
theorem xd_Li_readFrom_133 : decode xb_Li_readFrom 133 = .ok (.iload_n 2, 1) := by decide +kernel
theorem xd_Li_readFrom_134 : decode xb_Li_readFrom 134 = .ok (.ifCond .eq 15, 3) := by decide +kernel
theorem xd_Li_readFrom_137 : decode xb_Li_readFrom 137 = .ok (.aload_n 0, 1) := by decide +kernel
theorem xd_Li_readFrom_138 : decode xb_Li_readFrom 138 = .ok (.getfield 21, 3) := by decide +kernel
theorem xd_Li_readFrom_141 : decode xb_Li_readFrom 141 = .ok (.iconst (-1), 1) := by decide +kernel
theorem xd_Li_readFrom_142 : decode xb_Li_readFrom 142 = .ok (.if_icmp .eq 7, 3) := by decide +kernel
theorem xd_Li_readFrom_145 : decode xb_Li_readFrom 145 = .ok (.iconst 1, 1) := by decide +kernel
theorem xd_Li_readFrom_146 : decode xb_Li_readFrom 146 = .ok (.goto 4, 3) := by decide +kernel
theorem xd_Li_readFrom_149 : decode xb_Li_readFrom 149 = .ok (.iconst 0, 1) := by decide +kernel
theorem xd_Li_readFrom_150 : decode xb_Li_readFrom 150 = .ok (.istore_n 2, 1) := by decide +kernel
theorem xd_Li_readFrom_151 : decode xb_Li_readFrom 151 = .ok (.goto 172, 3) := by decide +kernel
theorem xd_Li_readFrom_154 : decode xb_Li_readFrom 154 = .ok (.iload_n 2, 1) := by decide +kernel
theorem xd_Li_readFrom_155 : decode xb_Li_readFrom 155 = .ok (.ifCond .eq 35, 3) := by decide +kernel
theorem xd_Li_readFrom_158 : decode xb_Li_readFrom 158 = .ok (.aload_n 0, 1) := by decide +kernel
theorem xd_Li_readFrom_159 : decode xb_Li_readFrom 159 = .ok (.getfield 12, 3) := by decide +kernel
theorem xd_Li_readFrom_162 : decode xb_Li_readFrom 162 = .ok (.aload_n 1, 1) := by decide +kernel
theorem xd_Li_readFrom_163 : decode xb_Li_readFrom 163 = .ok (.invokevirtual 48, 3) := by decide +kernel
theorem xd_Li_readFrom_166 : decode xb_Li_readFrom 166 = .ok (.ifCond .eq 24, 3) := by decide +kernel
theorem xd_Li_readFrom_169 : decode xb_Li_readFrom 169 = .ok (.aload_n 1, 1) := by decide +kernel
theorem xd_Li_readFrom_170 : decode xb_Li_readFrom 170 = .ok (.bipush 32, 2) := by decide +kernel
theorem xd_Li_readFrom_172 : decode xb_Li_readFrom 172 = .ok (.invokevirtual 40, 3) := by decide +kernel
theorem xd_Li_readFrom_175 : decode xb_Li_readFrom 175 = .ok (.ifCond .eq 15, 3) := by decide +kernel
theorem xd_Li_readFrom_178 : decode xb_Li_readFrom 178 = .ok (.aload_n 0, 1) := by decide +kernel
theorem xd_Li_readFrom_179 : decode xb_Li_readFrom 179 = .ok (.aload_n 1, 1) := by decide +kernel
theorem xd_Li_readFrom_180 : decode xb_Li_readFrom 180 = .ok (.invokevirtual 52, 3) := by decide +kernel
theorem xd_Li_readFrom_183 : decode xb_Li_readFrom 183 = .ok (.ifCond .eq 7, 3) := by decide +kernel
theorem xd_Li_readFrom_186 : decode xb_Li_readFrom 186 = .ok (.iconst 1, 1) := by decide +kernel
theorem xd_Li_readFrom_187 : decode xb_Li_readFrom 187 = .ok (.goto 4, 3) := by decide +kernel
theorem xd_Li_readFrom_190 : decode xb_Li_readFrom 190 = .ok (.iconst 0, 1) := by decide +kernel
theorem xd_Li_readFrom_191 : decode xb_Li_readFrom 191 = .ok (.istore_n 2, 1) := by decide +kernel
theorem xd_Li_readFrom_192 : decode xb_Li_readFrom 192 = .ok (.goto 131, 3) := by decide +kernel
theorem xd_Li_readFrom_195 : decode xb_Li_readFrom 195 = .ok (.iload_n 2, 1) := by decide +kernel
theorem xd_Li_readFrom_196 : decode xb_Li_readFrom 196 = .ok (.ifCond .eq 18, 3) := by decide +kernel
theorem xd_Li_readFrom_199 : decode xb_Li_readFrom 199 = .ok (.aload_n 0, 1) := by decide +kernel
theorem xd_Li_readFrom_200 : decode xb_Li_readFrom 200 = .ok (.getfield 12, 3) := by decide +kernel
theorem xd_Li_readFrom_203 : decode xb_Li_readFrom 203 = .ok (.aload_n 1, 1) := by decide +kernel
theorem xd_Li_readFrom_204 : decode xb_Li_readFrom 204 = .ok (.invokevirtual 48, 3) := by decide +kernel
theorem xd_Li_readFrom_207 : decode xb_Li_readFrom 207 = .ok (.ifCond .eq 7, 3) := by decide +kernel
theorem xd_Li_readFrom_210 : decode xb_Li_readFrom 210 = .ok (.iconst 1, 1) := by decide +kernel
theorem xd_Li_readFrom_211 : decode xb_Li_readFrom 211 = .ok (.goto 4, 3) := by decide +kernel
theorem xd_Li_readFrom_214 : decode xb_Li_readFrom 214 = .ok (.iconst 0, 1) := by decide +kernel
theorem xd_Li_readFrom_215 : decode xb_Li_readFrom 215 = .ok (.istore_n 2, 1) := by decide +kernel
theorem xd_Li_readFrom_216 : decode xb_Li_readFrom 216 = .ok (.goto 107, 3) := by decide +kernel
theorem xd_Li_readFrom_219 : decode xb_Li_readFrom 219 = .ok (.iload_n 2, 1) := by decide +kernel
theorem xd_Li_readFrom_220 : decode xb_Li_readFrom 220 = .ok (.ifCond .eq 38, 3) := by decide +kernel
theorem xd_Li_readFrom_223 : decode xb_Li_readFrom 223 = .ok (.aload_n 0, 1) := by decide +kernel
theorem xd_Li_readFrom_224 : decode xb_Li_readFrom 224 = .ok (.getfield 12, 3) := by decide +kernel
theorem xd_Li_readFrom_227 : decode xb_Li_readFrom 227 = .ok (.aload_n 1, 1) := by decide +kernel
theorem xd_Li_readFrom_228 : decode xb_Li_readFrom 228 = .ok (.invokevirtual 48, 3) := by decide +kernel
theorem xd_Li_readFrom_231 : decode xb_Li_readFrom 231 = .ok (.ifCond .eq 27, 3) := by decide +kernel
theorem xd_Li_readFrom_234 : decode xb_Li_readFrom 234 = .ok (.aload_n 1, 1) := by decide +kernel
theorem xd_Li_readFrom_235 : decode xb_Li_readFrom 235 = .ok (.bipush 32, 2) := by decide +kernel
theorem xd_Li_readFrom_237 : decode xb_Li_readFrom 237 = .ok (.invokevirtual 40, 3) := by decide +kernel
theorem xd_Li_readFrom_240 : decode xb_Li_readFrom 240 = .ok (.ifCond .eq 18, 3) := by decide +kernel
theorem xd_Li_readFrom_243 : decode xb_Li_readFrom 243 = .ok (.aload_n 0, 1) := by decide +kernel
theorem xd_Li_readFrom_244 : decode xb_Li_readFrom 244 = .ok (.getfield 18, 3) := by decide +kernel
theorem xd_Li_readFrom_247 : decode xb_Li_readFrom 247 = .ok (.aload_n 1, 1) := by decide +kernel
theorem xd_Li_readFrom_248 : decode xb_Li_readFrom 248 = .ok (.invokevirtual 48, 3) := by decide +kernel
theorem xd_Li_readFrom_251 : decode xb_Li_readFrom 251 = .ok (.ifCond .eq 7, 3) := by decide +kernel
theorem xd_Li_readFrom_254 : decode xb_Li_readFrom 254 = .ok (.iconst 1, 1) := by decide +kernel
theorem xd_Li_readFrom_255 : decode xb_Li_readFrom 255 = .ok (.goto 4, 3) := by decide +kernel
theorem xd_Li_readFrom_258 : decode xb_Li_readFrom 258 = .ok (.iconst 0, 1) := by decide +kernel
theorem xd_Li_readFrom_259 : decode xb_Li_readFrom 259 = .ok (.istore_n 2, 1) := by decide +kernel
theorem xd_Li_readFrom_260 : decode xb_Li_readFrom 260 = .ok (.goto 63, 3) := by decide +kernel
theorem xd_Li_readFrom_263 : decode xb_Li_readFrom 263 = .ok (.iload_n 2, 1) := by decide +kernel
theorem xd_Li_readFrom_264 : decode xb_Li_readFrom 264 = .ok (.ifCond .eq 52, 3) := by decide +kernel
theorem xd_Li_readFrom_267 : decode xb_Li_readFrom 267 = .ok (.aload_n 0, 1) := by decide +kernel
theorem xd_Li_readFrom_268 : decode xb_Li_readFrom 268 = .ok (.getfield 12, 3) := by decide +kernel
theorem xd_Li_readFrom_271 : decode xb_Li_readFrom 271 = .ok (.aload_n 1, 1) := by decide +kernel
theorem xd_Li_readFrom_272 : decode xb_Li_readFrom 272 = .ok (.invokevirtual 48, 3) := by decide +kernel
theorem xd_Li_readFrom_275 : decode xb_Li_readFrom 275 = .ok (.ifCond .eq 41, 3) := by decide +kernel
theorem xd_Li_readFrom_278 : decode xb_Li_readFrom 278 = .ok (.aload_n 1, 1) := by decide +kernel
theorem xd_Li_readFrom_279 : decode xb_Li_readFrom 279 = .ok (.bipush 32, 2) := by decide +kernel
theorem xd_Li_readFrom_281 : decode xb_Li_readFrom 281 = .ok (.invokevirtual 40, 3) := by decide +kernel
theorem xd_Li_readFrom_284 : decode xb_Li_readFrom 284 = .ok (.ifCond .eq 32, 3) := by decide +kernel
theorem xd_Li_readFrom_287 : decode xb_Li_readFrom 287 = .ok (.aload_n 0, 1) := by decide +kernel
theorem xd_Li_readFrom_288 : decode xb_Li_readFrom 288 = .ok (.aload_n 1, 1) := by decide +kernel
theorem xd_Li_readFrom_289 : decode xb_Li_readFrom 289 = .ok (.invokevirtual 55, 3) := by decide +kernel
theorem xd_Li_readFrom_292 : decode xb_Li_readFrom 292 = .ok (.ifCond .eq 24, 3) := by decide +kernel
theorem xd_Li_readFrom_295 : decode xb_Li_readFrom 295 = .ok (.aload_n 1, 1) := by decide +kernel
theorem xd_Li_readFrom_296 : decode xb_Li_readFrom 296 = .ok (.bipush 32, 2) := by decide +kernel
theorem xd_Li_readFrom_298 : decode xb_Li_readFrom 298 = .ok (.invokevirtual 40, 3) := by decide +kernel
theorem xd_Li_readFrom_301 : decode xb_Li_readFrom 301 = .ok (.ifCond .eq 15, 3) := by decide +kernel
theorem xd_Li_readFrom_304 : decode xb_Li_readFrom 304 = .ok (.aload_n 0, 1) := by decide +kernel
theorem xd_Li_readFrom_305 : decode xb_Li_readFrom 305 = .ok (.aload_n 1, 1) := by decide +kernel
theorem xd_Li_readFrom_306 : decode xb_Li_readFrom 306 = .ok (.invokevirtual 52, 3) := by decide +kernel
theorem xd_Li_readFrom_309 : decode xb_Li_readFrom 309 = .ok (.ifCond .eq 7, 3) := by decide +kernel
theorem xd_Li_readFrom_312 : decode xb_Li_readFrom 312 = .ok (.iconst 1, 1) := by decide +kernel
theorem xd_Li_readFrom_313 : decode xb_Li_readFrom 313 = .ok (.goto 4, 3) := by decide +kernel
theorem xd_Li_readFrom_316 : decode xb_Li_readFrom 316 = .ok (.iconst 0, 1) := by decide +kernel
theorem xd_Li_readFrom_317 : decode xb_Li_readFrom 317 = .ok (.istore_n 2, 1) := by decide +kernel
theorem xd_Li_readFrom_318 : decode xb_Li_readFrom 318 = .ok (.goto 5, 3) := by decide +kernel
theorem xd_Li_readFrom_321 : decode xb_Li_readFrom 321 = .ok (.iconst 0, 1) := by decide +kernel
theorem xd_Li_readFrom_322 : decode xb_Li_readFrom 322 = .ok (.istore_n 2, 1) := by decide +kernel
theorem xd_Li_readFrom_323 : decode xb_Li_readFrom 323 = .ok (.iload_n 2, 1) := by decide +kernel
theorem xd_Li_readFrom_324 : decode xb_Li_readFrom 324 = .ok (.ifCond .eq 16, 3) := by decide +kernel
theorem xd_Li_readFrom_327 : decode xb_Li_readFrom 327 = .ok (.aload_n 1, 1) := by decide +kernel
theorem xd_Li_readFrom_328 : decode xb_Li_readFrom 328 = .ok (.bipush 59, 2) := by decide +kernel
theorem xd_Li_readFrom_330 : decode xb_Li_readFrom 330 = .ok (.invokevirtual 40, 3) := by decide +kernel
theorem xd_Li_readFrom_333 : decode xb_Li_readFrom 333 = .ok (.ifCond .eq 7, 3) := by decide +kernel
theorem xd_Li_readFrom_336 : decode xb_Li_readFrom 336 = .ok (.iconst 1, 1) := by decide +kernel
theorem xd_Li_readFrom_337 : decode xb_Li_readFrom 337 = .ok (.goto 4, 3) := by decide +kernel
theorem xd_Li_readFrom_340 : decode xb_Li_readFrom 340 = .ok (.iconst 0, 1) := by decide +kernel
theorem xd_Li_readFrom_341 : decode xb_Li_readFrom 341 = .ok (.ireturn, 1) := by decide +kernel
theorem xd_Li_readGiven_0 : decode xb_Li_readGiven 0 = .ok (.aload_n 0, 1) := by decide +kernel
theorem xd_Li_readGiven_1 : decode xb_Li_readGiven 1 = .ok (.aload_n 1, 1) := by decide +kernel
theorem xd_Li_readGiven_2 : decode xb_Li_readGiven 2 = .ok (.invokevirtual 58, 3) := by decide +kernel
theorem xd_Li_readGiven_5 : decode xb_Li_readGiven 5 = .ok (.putfield 28, 3) := by decide +kernel
theorem xd_Li_readGiven_8 : decode xb_Li_readGiven 8 = .ok (.aload_n 0, 1) := by decide +kernel
theorem xd_Li_readGiven_9 : decode xb_Li_readGiven 9 = .ok (.getfield 28, 3) := by decide +kernel
theorem xd_Li_readGiven_12 : decode xb_Li_readGiven 12 = .ok (.ifCond .eq 7, 3) := by decide +kernel
theorem xd_Li_readGiven_15 : decode xb_Li_readGiven 15 = .ok (.iconst 1, 1) := by decide +kernel
theorem xd_Li_readGiven_16 : decode xb_Li_readGiven 16 = .ok (.goto 4, 3) := by decide +kernel
theorem xd_Li_readGiven_19 : decode xb_Li_readGiven 19 = .ok (.iconst 0, 1) := by decide +kernel
theorem xd_Li_readGiven_20 : decode xb_Li_readGiven 20 = .ok (.ireturn, 1) := by decide +kernel
theorem xd_Li_readWanted_0 : decode xb_Li_readWanted 0 = .ok (.aload_n 0, 1) := by decide +kernel
theorem xd_Li_readWanted_1 : decode xb_Li_readWanted 1 = .ok (.aload_n 1, 1) := by decide +kernel
theorem xd_Li_readWanted_2 : decode xb_Li_readWanted 2 = .ok (.invokevirtual 58, 3) := by decide +kernel
theorem xd_Li_readWanted_5 : decode xb_Li_readWanted 5 = .ok (.putfield 25, 3) := by decide +kernel
theorem xd_Li_readWanted_8 : decode xb_Li_readWanted 8 = .ok (.aload_n 0, 1) := by decide +kernel
theorem xd_Li_readWanted_9 : decode xb_Li_readWanted 9 = .ok (.getfield 25, 3) := by decide +kernel
theorem xd_Li_readWanted_12 : decode xb_Li_readWanted 12 = .ok (.ifCond .eq 7, 3) := by decide +kernel
theorem xd_Li_readWanted_15 : decode xb_Li_readWanted 15 = .ok (.iconst 1, 1) := by decide +kernel
theorem xd_Li_readWanted_16 : decode xb_Li_readWanted 16 = .ok (.goto 4, 3) := by decide +kernel
theorem xd_Li_readWanted_19 : decode xb_Li_readWanted 19 = .ok (.iconst 0, 1) := by decide +kernel
theorem xd_Li_readWanted_20 : decode xb_Li_readWanted 20 = .ok (.ireturn, 1) := by decide +kernel
theorem xd_Ed_doLine_0 : decode xb_Ed_doLine 0 = .ok (.aload_n 0, 1) := by decide +kernel
theorem xd_Ed_doLine_1 : decode xb_Ed_doLine 1 = .ok (.getfield 12, 3) := by decide +kernel
theorem xd_Ed_doLine_4 : decode xb_Ed_doLine 4 = .ok (.invokevirtual 50, 3) := by decide +kernel
theorem xd_Ed_doLine_7 : decode xb_Ed_doLine 7 = .ok (.ifCond .eq 5, 3) := by decide +kernel
theorem xd_Ed_doLine_10 : decode xb_Ed_doLine 10 = .ok (.iconst 2, 1) := by decide +kernel
theorem xd_Ed_doLine_11 : decode xb_Ed_doLine 11 = .ok (.ireturn, 1) := by decide +kernel
theorem xd_Ed_doLine_12 : decode xb_Ed_doLine 12 = .ok (.aload_n 0, 1) := by decide +kernel
theorem xd_Ed_doLine_13 : decode xb_Ed_doLine 13 = .ok (.getfield 12, 3) := by decide +kernel
theorem xd_Ed_doLine_16 : decode xb_Ed_doLine 16 = .ok (.getfield 53, 3) := by decide +kernel
theorem xd_Ed_doLine_19 : decode xb_Ed_doLine 19 = .ok (.tableswitch 124 65 83 #[89, 124, 119, 109, 124, 124, 99, 124, 124, 124, 124, 124, 114, 124, 124, 124, 124, 94, 104], 89) := by decide +kernel
theorem xd_Ed_doLine_108 : decode xb_Ed_doLine 108 = .ok (.aload_n 0, 1) := by decide +kernel
theorem xd_Ed_doLine_109 : decode xb_Ed_doLine 109 = .ok (.invokevirtual 56, 3) := by decide +kernel
theorem xd_Ed_doLine_112 : decode xb_Ed_doLine 112 = .ok (.ireturn, 1) := by decide +kernel
theorem xd_Ed_doLine_113 : decode xb_Ed_doLine 113 = .ok (.aload_n 0, 1) := by decide +kernel
theorem xd_Ed_doLine_114 : decode xb_Ed_doLine 114 = .ok (.invokevirtual 59, 3) := by decide +kernel
theorem xd_Ed_doLine_117 : decode xb_Ed_doLine 117 = .ok (.ireturn, 1) := by decide +kernel
theorem xd_Ed_doLine_118 : decode xb_Ed_doLine 118 = .ok (.aload_n 0, 1) := by decide +kernel
theorem xd_Ed_doLine_119 : decode xb_Ed_doLine 119 = .ok (.invokevirtual 62, 3) := by decide +kernel
theorem xd_Ed_doLine_122 : decode xb_Ed_doLine 122 = .ok (.ireturn, 1) := by decide +kernel
theorem xd_Ed_doLine_123 : decode xb_Ed_doLine 123 = .ok (.aload_n 0, 1) := by decide +kernel
theorem xd_Ed_doLine_124 : decode xb_Ed_doLine 124 = .ok (.invokevirtual 65, 3) := by decide +kernel
theorem xd_Ed_doLine_127 : decode xb_Ed_doLine 127 = .ok (.ireturn, 1) := by decide +kernel
theorem xd_Ed_doLine_128 : decode xb_Ed_doLine 128 = .ok (.aload_n 0, 1) := by decide +kernel
theorem xd_Ed_doLine_129 : decode xb_Ed_doLine 129 = .ok (.invokevirtual 68, 3) := by decide +kernel
theorem xd_Ed_doLine_132 : decode xb_Ed_doLine 132 = .ok (.ireturn, 1) := by decide +kernel
theorem xd_Ed_doLine_133 : decode xb_Ed_doLine 133 = .ok (.aload_n 0, 1) := by decide +kernel
theorem xd_Ed_doLine_134 : decode xb_Ed_doLine 134 = .ok (.invokevirtual 71, 3) := by decide +kernel
theorem xd_Ed_doLine_137 : decode xb_Ed_doLine 137 = .ok (.ireturn, 1) := by decide +kernel
theorem xd_Ed_doLine_138 : decode xb_Ed_doLine 138 = .ok (.aload_n 0, 1) := by decide +kernel
theorem xd_Ed_doLine_139 : decode xb_Ed_doLine 139 = .ok (.invokevirtual 74, 3) := by decide +kernel
theorem xd_Ed_doLine_142 : decode xb_Ed_doLine 142 = .ok (.ireturn, 1) := by decide +kernel
theorem xd_Ed_doLine_143 : decode xb_Ed_doLine 143 = .ok (.iconst 1, 1) := by decide +kernel
theorem xd_Ed_doLine_144 : decode xb_Ed_doLine 144 = .ok (.ireturn, 1) := by decide +kernel
theorem xd_Li_hasWrongNumber_0 : decode xb_Li_hasWrongNumber 0 = .ok (.aload_n 0, 1) := by decide +kernel
theorem xd_Li_hasWrongNumber_1 : decode xb_Li_hasWrongNumber 1 = .ok (.getfield 21, 3) := by decide +kernel
theorem xd_Li_hasWrongNumber_4 : decode xb_Li_hasWrongNumber 4 = .ok (.invokestatic 61, 3) := by decide +kernel
theorem xd_Li_hasWrongNumber_7 : decode xb_Li_hasWrongNumber 7 = .ok (.ifCond .eq 39, 3) := by decide +kernel
theorem xd_Li_hasWrongNumber_10 : decode xb_Li_hasWrongNumber 10 = .ok (.aload_n 0, 1) := by decide +kernel
theorem xd_Li_hasWrongNumber_11 : decode xb_Li_hasWrongNumber 11 = .ok (.getfield 37, 3) := by decide +kernel
theorem xd_Li_hasWrongNumber_14 : decode xb_Li_hasWrongNumber 14 = .ok (.bipush 82, 2) := by decide +kernel
theorem xd_Li_hasWrongNumber_16 : decode xb_Li_hasWrongNumber 16 = .ok (.if_icmp .ne 10, 3) := by decide +kernel
theorem xd_Li_hasWrongNumber_19 : decode xb_Li_hasWrongNumber 19 = .ok (.aload_n 0, 1) := by decide +kernel
theorem xd_Li_hasWrongNumber_20 : decode xb_Li_hasWrongNumber 20 = .ok (.getfield 21, 3) := by decide +kernel
theorem xd_Li_hasWrongNumber_23 : decode xb_Li_hasWrongNumber 23 = .ok (.ifCond .eq 23, 3) := by decide +kernel
theorem xd_Li_hasWrongNumber_26 : decode xb_Li_hasWrongNumber 26 = .ok (.aload_n 0, 1) := by decide +kernel
theorem xd_Li_hasWrongNumber_27 : decode xb_Li_hasWrongNumber 27 = .ok (.getfield 25, 3) := by decide +kernel
theorem xd_Li_hasWrongNumber_30 : decode xb_Li_hasWrongNumber 30 = .ok (.invokestatic 65, 3) := by decide +kernel
theorem xd_Li_hasWrongNumber_33 : decode xb_Li_hasWrongNumber 33 = .ok (.ifCond .ne 13, 3) := by decide +kernel
theorem xd_Li_hasWrongNumber_36 : decode xb_Li_hasWrongNumber 36 = .ok (.aload_n 0, 1) := by decide +kernel
theorem xd_Li_hasWrongNumber_37 : decode xb_Li_hasWrongNumber 37 = .ok (.getfield 28, 3) := by decide +kernel
theorem xd_Li_hasWrongNumber_40 : decode xb_Li_hasWrongNumber 40 = .ok (.invokestatic 65, 3) := by decide +kernel
theorem xd_Li_hasWrongNumber_43 : decode xb_Li_hasWrongNumber 43 = .ok (.ifCond .eq 7, 3) := by decide +kernel
theorem xd_Li_hasWrongNumber_46 : decode xb_Li_hasWrongNumber 46 = .ok (.iconst 1, 1) := by decide +kernel
theorem xd_Li_hasWrongNumber_47 : decode xb_Li_hasWrongNumber 47 = .ok (.goto 4, 3) := by decide +kernel
theorem xd_Li_hasWrongNumber_50 : decode xb_Li_hasWrongNumber 50 = .ok (.iconst 0, 1) := by decide +kernel
theorem xd_Li_hasWrongNumber_51 : decode xb_Li_hasWrongNumber 51 = .ok (.ireturn, 1) := by decide +kernel
theorem xd_Li_refersToNoObject_0 : decode xb_Li_refersToNoObject 0 = .ok (.iload_n 0, 1) := by decide +kernel
theorem xd_Li_refersToNoObject_1 : decode xb_Li_refersToNoObject 1 = .ok (.invokestatic 68, 3) := by decide +kernel
theorem xd_Li_refersToNoObject_4 : decode xb_Li_refersToNoObject 4 = .ok (.iconst 2, 1) := by decide +kernel
theorem xd_Li_refersToNoObject_5 : decode xb_Li_refersToNoObject 5 = .ok (.if_icmp .ne 17, 3) := by decide +kernel
theorem xd_Li_refersToNoObject_8 : decode xb_Li_refersToNoObject 8 = .ok (.iload_n 0, 1) := by decide +kernel
theorem xd_Li_refersToNoObject_9 : decode xb_Li_refersToNoObject 9 = .ok (.invokestatic 71, 3) := by decide +kernel
theorem xd_Li_refersToNoObject_12 : decode xb_Li_refersToNoObject 12 = .ok (.invokestatic 61, 3) := by decide +kernel
theorem xd_Li_refersToNoObject_15 : decode xb_Li_refersToNoObject 15 = .ok (.ifCond .ne 7, 3) := by decide +kernel
theorem xd_Li_refersToNoObject_18 : decode xb_Li_refersToNoObject 18 = .ok (.iconst 1, 1) := by decide +kernel
theorem xd_Li_refersToNoObject_19 : decode xb_Li_refersToNoObject 19 = .ok (.goto 4, 3) := by decide +kernel
theorem xd_Li_refersToNoObject_22 : decode xb_Li_refersToNoObject 22 = .ok (.iconst 0, 1) := by decide +kernel
theorem xd_Li_refersToNoObject_23 : decode xb_Li_refersToNoObject 23 = .ok (.ireturn, 1) := by decide +kernel
theorem xd_Ed_doMake_0 : decode xb_Ed_doMake 0 = .ok (.aload_n 0, 1) := by decide +kernel
theorem xd_Ed_doMake_1 : decode xb_Ed_doMake 1 = .ok (.getfield 18, 3) := by decide +kernel
theorem xd_Ed_doMake_4 : decode xb_Ed_doMake 4 = .ok (.aload_n 0, 1) := by decide +kernel
theorem xd_Ed_doMake_5 : decode xb_Ed_doMake 5 = .ok (.getfield 12, 3) := by decide +kernel
theorem xd_Ed_doMake_8 : decode xb_Ed_doMake 8 = .ok (.getfield 77, 3) := by decide +kernel
theorem xd_Ed_doMake_11 : decode xb_Ed_doMake 11 = .ok (.invokevirtual 80, 3) := by decide +kernel
theorem xd_Ed_doMake_14 : decode xb_Ed_doMake 14 = .ok (.ifCond .eq 5, 3) := by decide +kernel
theorem xd_Ed_doMake_17 : decode xb_Ed_doMake 17 = .ok (.iconst 3, 1) := by decide +kernel
theorem xd_Ed_doMake_18 : decode xb_Ed_doMake 18 = .ok (.ireturn, 1) := by decide +kernel
theorem xd_Ed_doMake_19 : decode xb_Ed_doMake 19 = .ok (.aload_n 0, 1) := by decide +kernel
theorem xd_Ed_doMake_20 : decode xb_Ed_doMake 20 = .ok (.getfield 18, 3) := by decide +kernel
theorem xd_Ed_doMake_23 : decode xb_Ed_doMake 23 = .ok (.aload_n 0, 1) := by decide +kernel
theorem xd_Ed_doMake_24 : decode xb_Ed_doMake 24 = .ok (.getfield 12, 3) := by decide +kernel
theorem xd_Ed_doMake_27 : decode xb_Ed_doMake 27 = .ok (.getfield 77, 3) := by decide +kernel
theorem xd_Ed_doMake_30 : decode xb_Ed_doMake 30 = .ok (.invokevirtual 86, 3) := by decide +kernel
theorem xd_Ed_doMake_33 : decode xb_Ed_doMake 33 = .ok (.iconst 0, 1) := by decide +kernel
theorem xd_Ed_doMake_34 : decode xb_Ed_doMake 34 = .ok (.ireturn, 1) := by decide +kernel
theorem xd_St_isThere_0 : decode xb_St_isThere 0 = .ok (.iload_n 1, 1) := by decide +kernel
theorem xd_St_isThere_1 : decode xb_St_isThere 1 = .ok (.invokestatic 27, 3) := by decide +kernel
theorem xd_St_isThere_4 : decode xb_St_isThere 4 = .ok (.ifCond .eq 16, 3) := by decide +kernel
theorem xd_St_isThere_7 : decode xb_St_isThere 7 = .ok (.aload_n 0, 1) := by decide +kernel
theorem xd_St_isThere_8 : decode xb_St_isThere 8 = .ok (.getfield 9, 3) := by decide +kernel
theorem xd_St_isThere_11 : decode xb_St_isThere 11 = .ok (.iload_n 1, 1) := by decide +kernel
theorem xd_St_isThere_12 : decode xb_St_isThere 12 = .ok (.iaload, 1) := by decide +kernel
theorem xd_St_isThere_13 : decode xb_St_isThere 13 = .ok (.ifCond .eq 7, 3) := by decide +kernel
theorem xd_St_isThere_16 : decode xb_St_isThere 16 = .ok (.iconst 1, 1) := by decide +kernel
theorem xd_St_isThere_17 : decode xb_St_isThere 17 = .ok (.goto 4, 3) := by decide +kernel
theorem xd_St_isThere_20 : decode xb_St_isThere 20 = .ok (.iconst 0, 1) := by decide +kernel
theorem xd_St_isThere_21 : decode xb_St_isThere 21 = .ok (.ireturn, 1) := by decide +kernel
theorem xd_St_make_0 : decode xb_St_make 0 = .ok (.iload_n 1, 1) := by decide +kernel
theorem xd_St_make_1 : decode xb_St_make 1 = .ok (.invokestatic 27, 3) := by decide +kernel
theorem xd_St_make_4 : decode xb_St_make 4 = .ok (.ifCond .eq 10, 3) := by decide +kernel
theorem xd_St_make_7 : decode xb_St_make 7 = .ok (.aload_n 0, 1) := by decide +kernel
theorem xd_St_make_8 : decode xb_St_make 8 = .ok (.getfield 9, 3) := by decide +kernel
theorem xd_St_make_11 : decode xb_St_make 11 = .ok (.iload_n 1, 1) := by decide +kernel
theorem xd_St_make_12 : decode xb_St_make 12 = .ok (.iconst 1, 1) := by decide +kernel
theorem xd_St_make_13 : decode xb_St_make 13 = .ok (.iastore, 1) := by decide +kernel
theorem xd_St_make_14 : decode xb_St_make 14 = .ok (.return_, 1) := by decide +kernel
theorem xd_Ed_doTakeAway_0 : decode xb_Ed_doTakeAway 0 = .ok (.aload_n 0, 1) := by decide +kernel
theorem xd_Ed_doTakeAway_1 : decode xb_Ed_doTakeAway 1 = .ok (.getfield 18, 3) := by decide +kernel
theorem xd_Ed_doTakeAway_4 : decode xb_Ed_doTakeAway 4 = .ok (.aload_n 0, 1) := by decide +kernel
theorem xd_Ed_doTakeAway_5 : decode xb_Ed_doTakeAway 5 = .ok (.getfield 12, 3) := by decide +kernel
theorem xd_Ed_doTakeAway_8 : decode xb_Ed_doTakeAway 8 = .ok (.getfield 77, 3) := by decide +kernel
theorem xd_Ed_doTakeAway_11 : decode xb_Ed_doTakeAway 11 = .ok (.invokevirtual 80, 3) := by decide +kernel
theorem xd_Ed_doTakeAway_14 : decode xb_Ed_doTakeAway 14 = .ok (.ifCond .ne 5, 3) := by decide +kernel
theorem xd_Ed_doTakeAway_17 : decode xb_Ed_doTakeAway 17 = .ok (.iconst 3, 1) := by decide +kernel
theorem xd_Ed_doTakeAway_18 : decode xb_Ed_doTakeAway 18 = .ok (.ireturn, 1) := by decide +kernel
theorem xd_Ed_doTakeAway_19 : decode xb_Ed_doTakeAway 19 = .ok (.aload_n 0, 1) := by decide +kernel
theorem xd_Ed_doTakeAway_20 : decode xb_Ed_doTakeAway 20 = .ok (.aload_n 0, 1) := by decide +kernel
theorem xd_Ed_doTakeAway_21 : decode xb_Ed_doTakeAway 21 = .ok (.getfield 12, 3) := by decide +kernel
theorem xd_Ed_doTakeAway_24 : decode xb_Ed_doTakeAway 24 = .ok (.getfield 77, 3) := by decide +kernel
theorem xd_Ed_doTakeAway_27 : decode xb_Ed_doTakeAway 27 = .ok (.invokevirtual 90, 3) := by decide +kernel
theorem xd_Ed_doTakeAway_30 : decode xb_Ed_doTakeAway 30 = .ok (.ifCond .eq 6, 3) := by decide +kernel
theorem xd_Ed_doTakeAway_33 : decode xb_Ed_doTakeAway 33 = .ok (.bipush 6, 2) := by decide +kernel
theorem xd_Ed_doTakeAway_35 : decode xb_Ed_doTakeAway 35 = .ok (.ireturn, 1) := by decide +kernel
theorem xd_Ed_doTakeAway_36 : decode xb_Ed_doTakeAway 36 = .ok (.aload_n 0, 1) := by decide +kernel
theorem xd_Ed_doTakeAway_37 : decode xb_Ed_doTakeAway 37 = .ok (.getfield 18, 3) := by decide +kernel
theorem xd_Ed_doTakeAway_40 : decode xb_Ed_doTakeAway 40 = .ok (.aload_n 0, 1) := by decide +kernel
theorem xd_Ed_doTakeAway_41 : decode xb_Ed_doTakeAway 41 = .ok (.getfield 12, 3) := by decide +kernel
theorem xd_Ed_doTakeAway_44 : decode xb_Ed_doTakeAway 44 = .ok (.getfield 77, 3) := by decide +kernel
theorem xd_Ed_doTakeAway_47 : decode xb_Ed_doTakeAway 47 = .ok (.invokevirtual 93, 3) := by decide +kernel
theorem xd_Ed_doTakeAway_50 : decode xb_Ed_doTakeAway 50 = .ok (.iconst 0, 1) := by decide +kernel
theorem xd_Ed_doTakeAway_51 : decode xb_Ed_doTakeAway 51 = .ok (.ireturn, 1) := by decide +kernel
theorem xd_Ed_isClosed_0 : decode xb_Ed_isClosed 0 = .ok (.aload_n 0, 1) := by decide +kernel
theorem xd_Ed_isClosed_1 : decode xb_Ed_isClosed 1 = .ok (.getfield 29, 3) := by decide +kernel
theorem xd_Ed_isClosed_4 : decode xb_Ed_isClosed 4 = .ok (.ifCond .ne 18, 3) := by decide +kernel
theorem xd_Ed_isClosed_7 : decode xb_Ed_isClosed 7 = .ok (.aload_n 0, 1) := by decide +kernel
theorem xd_Ed_isClosed_8 : decode xb_Ed_isClosed 8 = .ok (.getfield 18, 3) := by decide +kernel
theorem xd_Ed_isClosed_11 : decode xb_Ed_isClosed 11 = .ok (.iload_n 1, 1) := by decide +kernel
theorem xd_Ed_isClosed_12 : decode xb_Ed_isClosed 12 = .ok (.invokevirtual 129, 3) := by decide +kernel
theorem xd_Ed_isClosed_15 : decode xb_Ed_isClosed 15 = .ok (.ifCond .eq 7, 3) := by decide +kernel
theorem xd_Ed_isClosed_18 : decode xb_Ed_isClosed 18 = .ok (.iconst 1, 1) := by decide +kernel
theorem xd_Ed_isClosed_19 : decode xb_Ed_isClosed 19 = .ok (.goto 4, 3) := by decide +kernel
theorem xd_Ed_isClosed_22 : decode xb_Ed_isClosed 22 = .ok (.iconst 0, 1) := by decide +kernel
theorem xd_Ed_isClosed_23 : decode xb_Ed_isClosed 23 = .ok (.ireturn, 1) := by decide +kernel
theorem xd_St_isSigned_0 : decode xb_St_isSigned 0 = .ok (.iload_n 1, 1) := by decide +kernel
theorem xd_St_isSigned_1 : decode xb_St_isSigned 1 = .ok (.invokestatic 27, 3) := by decide +kernel
theorem xd_St_isSigned_4 : decode xb_St_isSigned 4 = .ok (.ifCond .eq 17, 3) := by decide +kernel
theorem xd_St_isSigned_7 : decode xb_St_isSigned 7 = .ok (.aload_n 0, 1) := by decide +kernel
theorem xd_St_isSigned_8 : decode xb_St_isSigned 8 = .ok (.getfield 9, 3) := by decide +kernel
theorem xd_St_isSigned_11 : decode xb_St_isSigned 11 = .ok (.iload_n 1, 1) := by decide +kernel
theorem xd_St_isSigned_12 : decode xb_St_isSigned 12 = .ok (.iaload, 1) := by decide +kernel
theorem xd_St_isSigned_13 : decode xb_St_isSigned 13 = .ok (.iconst 2, 1) := by decide +kernel
theorem xd_St_isSigned_14 : decode xb_St_isSigned 14 = .ok (.if_icmp .ne 7, 3) := by decide +kernel
theorem xd_St_isSigned_17 : decode xb_St_isSigned 17 = .ok (.iconst 1, 1) := by decide +kernel
theorem xd_St_isSigned_18 : decode xb_St_isSigned 18 = .ok (.goto 4, 3) := by decide +kernel
theorem xd_St_isSigned_21 : decode xb_St_isSigned 21 = .ok (.iconst 0, 1) := by decide +kernel
theorem xd_St_isSigned_22 : decode xb_St_isSigned 22 = .ok (.ireturn, 1) := by decide +kernel
theorem xd_St_takeAway_0 : decode xb_St_takeAway 0 = .ok (.iload_n 1, 1) := by decide +kernel
theorem xd_St_takeAway_1 : decode xb_St_takeAway 1 = .ok (.invokestatic 27, 3) := by decide +kernel
theorem xd_St_takeAway_4 : decode xb_St_takeAway 4 = .ok (.ifCond .ne 4, 3) := by decide +kernel
theorem xd_St_takeAway_7 : decode xb_St_takeAway 7 = .ok (.return_, 1) := by decide +kernel
theorem xd_St_takeAway_8 : decode xb_St_takeAway 8 = .ok (.aload_n 0, 1) := by decide +kernel
theorem xd_St_takeAway_9 : decode xb_St_takeAway 9 = .ok (.getfield 9, 3) := by decide +kernel
theorem xd_St_takeAway_12 : decode xb_St_takeAway 12 = .ok (.iload_n 1, 1) := by decide +kernel
theorem xd_St_takeAway_13 : decode xb_St_takeAway 13 = .ok (.iconst 0, 1) := by decide +kernel
theorem xd_St_takeAway_14 : decode xb_St_takeAway 14 = .ok (.iastore, 1) := by decide +kernel
theorem xd_St_takeAway_15 : decode xb_St_takeAway 15 = .ok (.iconst 0, 1) := by decide +kernel
theorem xd_St_takeAway_16 : decode xb_St_takeAway 16 = .ok (.istore_n 2, 1) := by decide +kernel
theorem xd_St_takeAway_17 : decode xb_St_takeAway 17 = .ok (.iload_n 2, 1) := by decide +kernel
theorem xd_St_takeAway_18 : decode xb_St_takeAway 18 = .ok (.bipush 26, 2) := by decide +kernel
theorem xd_St_takeAway_20 : decode xb_St_takeAway 20 = .ok (.if_icmp .ge 16, 3) := by decide +kernel
theorem xd_St_takeAway_23 : decode xb_St_takeAway 23 = .ok (.aload_n 0, 1) := by decide +kernel
theorem xd_St_takeAway_24 : decode xb_St_takeAway 24 = .ok (.iload_n 1, 1) := by decide +kernel
theorem xd_St_takeAway_25 : decode xb_St_takeAway 25 = .ok (.iload_n 2, 1) := by decide +kernel
theorem xd_St_takeAway_26 : decode xb_St_takeAway 26 = .ok (.iconst 0, 1) := by decide +kernel
theorem xd_St_takeAway_27 : decode xb_St_takeAway 27 = .ok (.invokevirtual 34, 3) := by decide +kernel
theorem xd_St_takeAway_30 : decode xb_St_takeAway 30 = .ok (.iinc 2 1, 3) := by decide +kernel
theorem xd_St_takeAway_33 : decode xb_St_takeAway 33 = .ok (.goto (-16), 3) := by decide +kernel
theorem xd_St_takeAway_36 : decode xb_St_takeAway 36 = .ok (.return_, 1) := by decide +kernel
theorem xd_St_put_0 : decode xb_St_put 0 = .ok (.iload_n 1, 1) := by decide +kernel
theorem xd_St_put_1 : decode xb_St_put 1 = .ok (.invokestatic 27, 3) := by decide +kernel
theorem xd_St_put_4 : decode xb_St_put 4 = .ok (.ifCond .eq 10, 3) := by decide +kernel
theorem xd_St_put_7 : decode xb_St_put 7 = .ok (.iload_n 2, 1) := by decide +kernel
theorem xd_St_put_8 : decode xb_St_put 8 = .ok (.invokestatic 31, 3) := by decide +kernel
theorem xd_St_put_11 : decode xb_St_put 11 = .ok (.ifCond .ne 4, 3) := by decide +kernel
theorem xd_St_put_14 : decode xb_St_put 14 = .ok (.return_, 1) := by decide +kernel
theorem xd_St_put_15 : decode xb_St_put 15 = .ok (.iload_n 1, 1) := by decide +kernel
theorem xd_St_put_16 : decode xb_St_put 16 = .ok (.bipush 26, 2) := by decide +kernel
theorem xd_St_put_18 : decode xb_St_put 18 = .ok (.imul, 1) := by decide +kernel
theorem xd_St_put_19 : decode xb_St_put 19 = .ok (.iload_n 2, 1) := by decide +kernel
theorem xd_St_put_20 : decode xb_St_put 20 = .ok (.iadd, 1) := by decide +kernel
theorem xd_St_put_21 : decode xb_St_put 21 = .ok (.istore 4, 2) := by decide +kernel
theorem xd_St_put_23 : decode xb_St_put 23 = .ok (.aload_n 0, 1) := by decide +kernel
theorem xd_St_put_24 : decode xb_St_put 24 = .ok (.getfield 15, 3) := by decide +kernel
theorem xd_St_put_27 : decode xb_St_put 27 = .ok (.iload_n 1, 1) := by decide +kernel
theorem xd_St_put_28 : decode xb_St_put 28 = .ok (.dup2, 1) := by decide +kernel
theorem xd_St_put_29 : decode xb_St_put 29 = .ok (.iaload, 1) := by decide +kernel
theorem xd_St_put_30 : decode xb_St_put 30 = .ok (.iload_n 3, 1) := by decide +kernel
theorem xd_St_put_31 : decode xb_St_put 31 = .ok (.ifCond .ne 7, 3) := by decide +kernel
theorem xd_St_put_34 : decode xb_St_put 34 = .ok (.iconst 0, 1) := by decide +kernel
theorem xd_St_put_35 : decode xb_St_put 35 = .ok (.goto 4, 3) := by decide +kernel
theorem xd_St_put_38 : decode xb_St_put 38 = .ok (.iconst 1, 1) := by decide +kernel
theorem xd_St_put_39 : decode xb_St_put 39 = .ok (.aload_n 0, 1) := by decide +kernel
theorem xd_St_put_40 : decode xb_St_put 40 = .ok (.getfield 18, 3) := by decide +kernel
theorem xd_St_put_43 : decode xb_St_put 43 = .ok (.iload 4, 2) := by decide +kernel
theorem xd_St_put_45 : decode xb_St_put 45 = .ok (.iaload, 1) := by decide +kernel
theorem xd_St_put_46 : decode xb_St_put 46 = .ok (.ifCond .ne 7, 3) := by decide +kernel
theorem xd_St_put_49 : decode xb_St_put 49 = .ok (.iconst 0, 1) := by decide +kernel
theorem xd_St_put_50 : decode xb_St_put 50 = .ok (.goto 4, 3) := by decide +kernel
theorem xd_St_put_53 : decode xb_St_put 53 = .ok (.iconst 1, 1) := by decide +kernel
theorem xd_St_put_54 : decode xb_St_put 54 = .ok (.isub, 1) := by decide +kernel
theorem xd_St_put_55 : decode xb_St_put 55 = .ok (.iadd, 1) := by decide +kernel
theorem xd_St_put_56 : decode xb_St_put 56 = .ok (.iastore, 1) := by decide +kernel
theorem xd_St_put_57 : decode xb_St_put 57 = .ok (.aload_n 0, 1) := by decide +kernel
theorem xd_St_put_58 : decode xb_St_put 58 = .ok (.getfield 18, 3) := by decide +kernel
theorem xd_St_put_61 : decode xb_St_put 61 = .ok (.iload 4, 2) := by decide +kernel
theorem xd_St_put_63 : decode xb_St_put 63 = .ok (.iload_n 3, 1) := by decide +kernel
theorem xd_St_put_64 : decode xb_St_put 64 = .ok (.iastore, 1) := by decide +kernel
theorem xd_St_put_65 : decode xb_St_put 65 = .ok (.return_, 1) := by decide +kernel
theorem xd_Ed_doSeal_0 : decode xb_Ed_doSeal 0 = .ok (.aload_n 0, 1) := by decide +kernel
theorem xd_Ed_doSeal_1 : decode xb_Ed_doSeal 1 = .ok (.getfield 18, 3) := by decide +kernel
theorem xd_Ed_doSeal_4 : decode xb_Ed_doSeal 4 = .ok (.aload_n 0, 1) := by decide +kernel
theorem xd_Ed_doSeal_5 : decode xb_Ed_doSeal 5 = .ok (.getfield 12, 3) := by decide +kernel
theorem xd_Ed_doSeal_8 : decode xb_Ed_doSeal 8 = .ok (.getfield 77, 3) := by decide +kernel
theorem xd_Ed_doSeal_11 : decode xb_Ed_doSeal 11 = .ok (.invokevirtual 80, 3) := by decide +kernel
theorem xd_Ed_doSeal_14 : decode xb_Ed_doSeal 14 = .ok (.ifCond .ne 5, 3) := by decide +kernel
theorem xd_Ed_doSeal_17 : decode xb_Ed_doSeal 17 = .ok (.iconst 3, 1) := by decide +kernel
theorem xd_Ed_doSeal_18 : decode xb_Ed_doSeal 18 = .ok (.ireturn, 1) := by decide +kernel
theorem xd_Ed_doSeal_19 : decode xb_Ed_doSeal 19 = .ok (.aload_n 0, 1) := by decide +kernel
theorem xd_Ed_doSeal_20 : decode xb_Ed_doSeal 20 = .ok (.getfield 18, 3) := by decide +kernel
theorem xd_Ed_doSeal_23 : decode xb_Ed_doSeal 23 = .ok (.aload_n 0, 1) := by decide +kernel
theorem xd_Ed_doSeal_24 : decode xb_Ed_doSeal 24 = .ok (.getfield 12, 3) := by decide +kernel
theorem xd_Ed_doSeal_27 : decode xb_Ed_doSeal 27 = .ok (.getfield 77, 3) := by decide +kernel
theorem xd_Ed_doSeal_30 : decode xb_Ed_doSeal 30 = .ok (.invokevirtual 96, 3) := by decide +kernel
theorem xd_Ed_doSeal_33 : decode xb_Ed_doSeal 33 = .ok (.iconst 0, 1) := by decide +kernel
theorem xd_Ed_doSeal_34 : decode xb_Ed_doSeal 34 = .ok (.ireturn, 1) := by decide +kernel
theorem xd_St_seal_0 : decode xb_St_seal 0 = .ok (.iload_n 1, 1) := by decide +kernel
theorem xd_St_seal_1 : decode xb_St_seal 1 = .ok (.invokestatic 27, 3) := by decide +kernel
theorem xd_St_seal_4 : decode xb_St_seal 4 = .ok (.ifCond .eq 10, 3) := by decide +kernel
theorem xd_St_seal_7 : decode xb_St_seal 7 = .ok (.aload_n 0, 1) := by decide +kernel
theorem xd_St_seal_8 : decode xb_St_seal 8 = .ok (.getfield 9, 3) := by decide +kernel
theorem xd_St_seal_11 : decode xb_St_seal 11 = .ok (.iload_n 1, 1) := by decide +kernel
theorem xd_St_seal_12 : decode xb_St_seal 12 = .ok (.iconst 2, 1) := by decide +kernel
theorem xd_St_seal_13 : decode xb_St_seal 13 = .ok (.iastore, 1) := by decide +kernel
theorem xd_St_seal_14 : decode xb_St_seal 14 = .ok (.return_, 1) := by decide +kernel
theorem xd_Ed_doSet_0 : decode xb_Ed_doSet 0 = .ok (.aload_n 0, 1) := by decide +kernel
theorem xd_Ed_doSet_1 : decode xb_Ed_doSet 1 = .ok (.aload_n 0, 1) := by decide +kernel
theorem xd_Ed_doSet_2 : decode xb_Ed_doSet 2 = .ok (.getfield 12, 3) := by decide +kernel
theorem xd_Ed_doSet_5 : decode xb_Ed_doSet 5 = .ok (.getfield 99, 3) := by decide +kernel
theorem xd_Ed_doSet_8 : decode xb_Ed_doSet 8 = .ok (.invokevirtual 103, 3) := by decide +kernel
theorem xd_Ed_doSet_11 : decode xb_Ed_doSet 11 = .ok (.istore_n 1, 1) := by decide +kernel
theorem xd_Ed_doSet_12 : decode xb_Ed_doSet 12 = .ok (.iload_n 1, 1) := by decide +kernel
theorem xd_Ed_doSet_13 : decode xb_Ed_doSet 13 = .ok (.iconst (-1), 1) := by decide +kernel
theorem xd_Ed_doSet_14 : decode xb_Ed_doSet 14 = .ok (.if_icmp .ne 5, 3) := by decide +kernel
theorem xd_Ed_doSet_17 : decode xb_Ed_doSet 17 = .ok (.iconst 4, 1) := by decide +kernel
theorem xd_Ed_doSet_18 : decode xb_Ed_doSet 18 = .ok (.ireturn, 1) := by decide +kernel
theorem xd_Ed_doSet_19 : decode xb_Ed_doSet 19 = .ok (.aload_n 0, 1) := by decide +kernel
theorem xd_Ed_doSet_20 : decode xb_Ed_doSet 20 = .ok (.iload_n 1, 1) := by decide +kernel
theorem xd_Ed_doSet_21 : decode xb_Ed_doSet 21 = .ok (.invokevirtual 90, 3) := by decide +kernel
theorem xd_Ed_doSet_24 : decode xb_Ed_doSet 24 = .ok (.ifCond .eq 6, 3) := by decide +kernel
theorem xd_Ed_doSet_27 : decode xb_Ed_doSet 27 = .ok (.bipush 6, 2) := by decide +kernel
theorem xd_Ed_doSet_29 : decode xb_Ed_doSet 29 = .ok (.ireturn, 1) := by decide +kernel
theorem xd_Ed_doSet_30 : decode xb_Ed_doSet 30 = .ok (.aload_n 0, 1) := by decide +kernel
theorem xd_Ed_doSet_31 : decode xb_Ed_doSet 31 = .ok (.getfield 18, 3) := by decide +kernel
theorem xd_Ed_doSet_34 : decode xb_Ed_doSet 34 = .ok (.iload_n 1, 1) := by decide +kernel
theorem xd_Ed_doSet_35 : decode xb_Ed_doSet 35 = .ok (.aload_n 0, 1) := by decide +kernel
theorem xd_Ed_doSet_36 : decode xb_Ed_doSet 36 = .ok (.getfield 12, 3) := by decide +kernel
theorem xd_Ed_doSet_39 : decode xb_Ed_doSet 39 = .ok (.getfield 99, 3) := by decide +kernel
theorem xd_Ed_doSet_42 : decode xb_Ed_doSet 42 = .ok (.invokevirtual 107, 3) := by decide +kernel
theorem xd_Ed_doSet_45 : decode xb_Ed_doSet 45 = .ok (.aload_n 0, 1) := by decide +kernel
theorem xd_Ed_doSet_46 : decode xb_Ed_doSet 46 = .ok (.getfield 12, 3) := by decide +kernel
theorem xd_Ed_doSet_49 : decode xb_Ed_doSet 49 = .ok (.getfield 112, 3) := by decide +kernel
theorem xd_Ed_doSet_52 : decode xb_Ed_doSet 52 = .ok (.invokevirtual 115, 3) := by decide +kernel
theorem xd_Ed_doSet_55 : decode xb_Ed_doSet 55 = .ok (.iconst 0, 1) := by decide +kernel
theorem xd_Ed_doSet_56 : decode xb_Ed_doSet 56 = .ok (.ireturn, 1) := by decide +kernel
theorem xd_Ed_follow_0 : decode xb_Ed_follow 0 = .ok (.iconst 0, 1) := by decide +kernel
theorem xd_Ed_follow_1 : decode xb_Ed_follow 1 = .ok (.istore_n 2, 1) := by decide +kernel
theorem xd_Ed_follow_2 : decode xb_Ed_follow 2 = .ok (.iconst 0, 1) := by decide +kernel
theorem xd_Ed_follow_3 : decode xb_Ed_follow 3 = .ok (.istore_n 3, 1) := by decide +kernel
theorem xd_Ed_follow_4 : decode xb_Ed_follow 4 = .ok (.iload_n 3, 1) := by decide +kernel
theorem xd_Ed_follow_5 : decode xb_Ed_follow 5 = .ok (.aload_n 1, 1) := by decide +kernel
theorem xd_Ed_follow_6 : decode xb_Ed_follow 6 = .ok (.invokevirtual 132, 3) := by decide +kernel
theorem xd_Ed_follow_9 : decode xb_Ed_follow 9 = .ok (.iconst 1, 1) := by decide +kernel
theorem xd_Ed_follow_10 : decode xb_Ed_follow 10 = .ok (.isub, 1) := by decide +kernel
theorem xd_Ed_follow_11 : decode xb_Ed_follow 11 = .ok (.if_icmp .ge 56, 3) := by decide +kernel
theorem xd_Ed_follow_14 : decode xb_Ed_follow 14 = .ok (.aload_n 0, 1) := by decide +kernel
theorem xd_Ed_follow_15 : decode xb_Ed_follow 15 = .ok (.getfield 18, 3) := by decide +kernel
theorem xd_Ed_follow_18 : decode xb_Ed_follow 18 = .ok (.iload_n 2, 1) := by decide +kernel
theorem xd_Ed_follow_19 : decode xb_Ed_follow 19 = .ok (.aload_n 1, 1) := by decide +kernel
theorem xd_Ed_follow_20 : decode xb_Ed_follow 20 = .ok (.iload_n 3, 1) := by decide +kernel
theorem xd_Ed_follow_21 : decode xb_Ed_follow 21 = .ok (.invokevirtual 135, 3) := by decide +kernel
theorem xd_Ed_follow_24 : decode xb_Ed_follow 24 = .ok (.invokevirtual 119, 3) := by decide +kernel
theorem xd_Ed_follow_27 : decode xb_Ed_follow 27 = .ok (.istore 4, 2) := by decide +kernel
theorem xd_Ed_follow_29 : decode xb_Ed_follow 29 = .ok (.iload 4, 2) := by decide +kernel
theorem xd_Ed_follow_31 : decode xb_Ed_follow 31 = .ok (.invokestatic 139, 3) := by decide +kernel
theorem xd_Ed_follow_34 : decode xb_Ed_follow 34 = .ok (.iconst 2, 1) := by decide +kernel
theorem xd_Ed_follow_35 : decode xb_Ed_follow 35 = .ok (.if_icmp .ne 18, 3) := by decide +kernel
theorem xd_Ed_follow_38 : decode xb_Ed_follow 38 = .ok (.aload_n 0, 1) := by decide +kernel
theorem xd_Ed_follow_39 : decode xb_Ed_follow 39 = .ok (.getfield 18, 3) := by decide +kernel
theorem xd_Ed_follow_42 : decode xb_Ed_follow 42 = .ok (.iload 4, 2) := by decide +kernel
theorem xd_Ed_follow_44 : decode xb_Ed_follow 44 = .ok (.invokestatic 142, 3) := by decide +kernel
theorem xd_Ed_follow_47 : decode xb_Ed_follow 47 = .ok (.invokevirtual 80, 3) := by decide +kernel
theorem xd_Ed_follow_50 : decode xb_Ed_follow 50 = .ok (.ifCond .ne 5, 3) := by decide +kernel
theorem xd_Ed_follow_53 : decode xb_Ed_follow 53 = .ok (.iconst (-1), 1) := by decide +kernel
theorem xd_Ed_follow_54 : decode xb_Ed_follow 54 = .ok (.ireturn, 1) := by decide +kernel
theorem xd_Ed_follow_55 : decode xb_Ed_follow 55 = .ok (.iload 4, 2) := by decide +kernel
theorem xd_Ed_follow_57 : decode xb_Ed_follow 57 = .ok (.invokestatic 142, 3) := by decide +kernel
theorem xd_Ed_follow_60 : decode xb_Ed_follow 60 = .ok (.istore_n 2, 1) := by decide +kernel
theorem xd_Ed_follow_61 : decode xb_Ed_follow 61 = .ok (.iinc 3 1, 3) := by decide +kernel
theorem xd_Ed_follow_64 : decode xb_Ed_follow 64 = .ok (.goto (-60), 3) := by decide +kernel
theorem xd_Ed_follow_67 : decode xb_Ed_follow 67 = .ok (.iload_n 2, 1) := by decide +kernel
theorem xd_Ed_follow_68 : decode xb_Ed_follow 68 = .ok (.ireturn, 1) := by decide +kernel
theorem xd_St_cellAt_0 : decode xb_St_cellAt 0 = .ok (.iload_n 1, 1) := by decide +kernel
theorem xd_St_cellAt_1 : decode xb_St_cellAt 1 = .ok (.invokestatic 27, 3) := by decide +kernel
theorem xd_St_cellAt_4 : decode xb_St_cellAt 4 = .ok (.ifCond .eq 24, 3) := by decide +kernel
theorem xd_St_cellAt_7 : decode xb_St_cellAt 7 = .ok (.iload_n 2, 1) := by decide +kernel
theorem xd_St_cellAt_8 : decode xb_St_cellAt 8 = .ok (.invokestatic 31, 3) := by decide +kernel
theorem xd_St_cellAt_11 : decode xb_St_cellAt 11 = .ok (.ifCond .eq 17, 3) := by decide +kernel
theorem xd_St_cellAt_14 : decode xb_St_cellAt 14 = .ok (.aload_n 0, 1) := by decide +kernel
theorem xd_St_cellAt_15 : decode xb_St_cellAt 15 = .ok (.getfield 18, 3) := by decide +kernel
theorem xd_St_cellAt_18 : decode xb_St_cellAt 18 = .ok (.iload_n 1, 1) := by decide +kernel
theorem xd_St_cellAt_19 : decode xb_St_cellAt 19 = .ok (.bipush 26, 2) := by decide +kernel
theorem xd_St_cellAt_21 : decode xb_St_cellAt 21 = .ok (.imul, 1) := by decide +kernel
theorem xd_St_cellAt_22 : decode xb_St_cellAt 22 = .ok (.iload_n 2, 1) := by decide +kernel
theorem xd_St_cellAt_23 : decode xb_St_cellAt 23 = .ok (.iadd, 1) := by decide +kernel
theorem xd_St_cellAt_24 : decode xb_St_cellAt 24 = .ok (.iaload, 1) := by decide +kernel
theorem xd_St_cellAt_25 : decode xb_St_cellAt 25 = .ok (.goto 4, 3) := by decide +kernel
theorem xd_St_cellAt_28 : decode xb_St_cellAt 28 = .ok (.iconst 0, 1) := by decide +kernel
theorem xd_St_cellAt_29 : decode xb_St_cellAt 29 = .ok (.ireturn, 1) := by decide +kernel
theorem xd_Ed_doDelete_0 : decode xb_Ed_doDelete 0 = .ok (.aload_n 0, 1) := by decide +kernel
theorem xd_Ed_doDelete_1 : decode xb_Ed_doDelete 1 = .ok (.aload_n 0, 1) := by decide +kernel
theorem xd_Ed_doDelete_2 : decode xb_Ed_doDelete 2 = .ok (.getfield 12, 3) := by decide +kernel
theorem xd_Ed_doDelete_5 : decode xb_Ed_doDelete 5 = .ok (.getfield 99, 3) := by decide +kernel
theorem xd_Ed_doDelete_8 : decode xb_Ed_doDelete 8 = .ok (.invokevirtual 103, 3) := by decide +kernel
theorem xd_Ed_doDelete_11 : decode xb_Ed_doDelete 11 = .ok (.istore_n 1, 1) := by decide +kernel
theorem xd_Ed_doDelete_12 : decode xb_Ed_doDelete 12 = .ok (.iload_n 1, 1) := by decide +kernel
theorem xd_Ed_doDelete_13 : decode xb_Ed_doDelete 13 = .ok (.iconst (-1), 1) := by decide +kernel
theorem xd_Ed_doDelete_14 : decode xb_Ed_doDelete 14 = .ok (.if_icmp .ne 5, 3) := by decide +kernel
theorem xd_Ed_doDelete_17 : decode xb_Ed_doDelete 17 = .ok (.iconst 4, 1) := by decide +kernel
theorem xd_Ed_doDelete_18 : decode xb_Ed_doDelete 18 = .ok (.ireturn, 1) := by decide +kernel
theorem xd_Ed_doDelete_19 : decode xb_Ed_doDelete 19 = .ok (.aload_n 0, 1) := by decide +kernel
theorem xd_Ed_doDelete_20 : decode xb_Ed_doDelete 20 = .ok (.getfield 12, 3) := by decide +kernel
theorem xd_Ed_doDelete_23 : decode xb_Ed_doDelete 23 = .ok (.getfield 99, 3) := by decide +kernel
theorem xd_Ed_doDelete_26 : decode xb_Ed_doDelete 26 = .ok (.invokevirtual 107, 3) := by decide +kernel
theorem xd_Ed_doDelete_29 : decode xb_Ed_doDelete 29 = .ok (.istore_n 2, 1) := by decide +kernel
theorem xd_Ed_doDelete_30 : decode xb_Ed_doDelete 30 = .ok (.aload_n 0, 1) := by decide +kernel
theorem xd_Ed_doDelete_31 : decode xb_Ed_doDelete 31 = .ok (.getfield 18, 3) := by decide +kernel
theorem xd_Ed_doDelete_34 : decode xb_Ed_doDelete 34 = .ok (.iload_n 1, 1) := by decide +kernel
theorem xd_Ed_doDelete_35 : decode xb_Ed_doDelete 35 = .ok (.iload_n 2, 1) := by decide +kernel
theorem xd_Ed_doDelete_36 : decode xb_Ed_doDelete 36 = .ok (.invokevirtual 119, 3) := by decide +kernel
theorem xd_Ed_doDelete_39 : decode xb_Ed_doDelete 39 = .ok (.ifCond .ne 5, 3) := by decide +kernel
theorem xd_Ed_doDelete_42 : decode xb_Ed_doDelete 42 = .ok (.iconst 5, 1) := by decide +kernel
theorem xd_Ed_doDelete_43 : decode xb_Ed_doDelete 43 = .ok (.ireturn, 1) := by decide +kernel
theorem xd_Ed_doDelete_44 : decode xb_Ed_doDelete 44 = .ok (.aload_n 0, 1) := by decide +kernel
theorem xd_Ed_doDelete_45 : decode xb_Ed_doDelete 45 = .ok (.iload_n 1, 1) := by decide +kernel
theorem xd_Ed_doDelete_46 : decode xb_Ed_doDelete 46 = .ok (.invokevirtual 90, 3) := by decide +kernel
theorem xd_Ed_doDelete_49 : decode xb_Ed_doDelete 49 = .ok (.ifCond .eq 6, 3) := by decide +kernel
theorem xd_Ed_doDelete_52 : decode xb_Ed_doDelete 52 = .ok (.bipush 6, 2) := by decide +kernel
theorem xd_Ed_doDelete_54 : decode xb_Ed_doDelete 54 = .ok (.ireturn, 1) := by decide +kernel
theorem xd_Ed_doDelete_55 : decode xb_Ed_doDelete 55 = .ok (.aload_n 0, 1) := by decide +kernel
theorem xd_Ed_doDelete_56 : decode xb_Ed_doDelete 56 = .ok (.getfield 18, 3) := by decide +kernel
theorem xd_Ed_doDelete_59 : decode xb_Ed_doDelete 59 = .ok (.iload_n 1, 1) := by decide +kernel
theorem xd_Ed_doDelete_60 : decode xb_Ed_doDelete 60 = .ok (.iload_n 2, 1) := by decide +kernel
theorem xd_Ed_doDelete_61 : decode xb_Ed_doDelete 61 = .ok (.iconst 0, 1) := by decide +kernel
theorem xd_Ed_doDelete_62 : decode xb_Ed_doDelete 62 = .ok (.invokevirtual 115, 3) := by decide +kernel
theorem xd_Ed_doDelete_65 : decode xb_Ed_doDelete 65 = .ok (.iconst 0, 1) := by decide +kernel
theorem xd_Ed_doDelete_66 : decode xb_Ed_doDelete 66 = .ok (.ireturn, 1) := by decide +kernel
theorem xd_Ed_doMove_0 : decode xb_Ed_doMove 0 = .ok (.aload_n 0, 1) := by decide +kernel
theorem xd_Ed_doMove_1 : decode xb_Ed_doMove 1 = .ok (.aload_n 0, 1) := by decide +kernel
theorem xd_Ed_doMove_2 : decode xb_Ed_doMove 2 = .ok (.getfield 12, 3) := by decide +kernel
theorem xd_Ed_doMove_5 : decode xb_Ed_doMove 5 = .ok (.getfield 99, 3) := by decide +kernel
theorem xd_Ed_doMove_8 : decode xb_Ed_doMove 8 = .ok (.invokevirtual 103, 3) := by decide +kernel
theorem xd_Ed_doMove_11 : decode xb_Ed_doMove 11 = .ok (.istore_n 1, 1) := by decide +kernel
theorem xd_Ed_doMove_12 : decode xb_Ed_doMove 12 = .ok (.aload_n 0, 1) := by decide +kernel
theorem xd_Ed_doMove_13 : decode xb_Ed_doMove 13 = .ok (.aload_n 0, 1) := by decide +kernel
theorem xd_Ed_doMove_14 : decode xb_Ed_doMove 14 = .ok (.getfield 12, 3) := by decide +kernel
theorem xd_Ed_doMove_17 : decode xb_Ed_doMove 17 = .ok (.getfield 123, 3) := by decide +kernel
theorem xd_Ed_doMove_20 : decode xb_Ed_doMove 20 = .ok (.invokevirtual 103, 3) := by decide +kernel
theorem xd_Ed_doMove_23 : decode xb_Ed_doMove 23 = .ok (.istore_n 2, 1) := by decide +kernel
theorem xd_Ed_doMove_24 : decode xb_Ed_doMove 24 = .ok (.iload_n 1, 1) := by decide +kernel
theorem xd_Ed_doMove_25 : decode xb_Ed_doMove 25 = .ok (.iconst (-1), 1) := by decide +kernel
theorem xd_Ed_doMove_26 : decode xb_Ed_doMove 26 = .ok (.if_icmp .eq 8, 3) := by decide +kernel
theorem xd_Ed_doMove_29 : decode xb_Ed_doMove 29 = .ok (.iload_n 2, 1) := by decide +kernel
theorem xd_Ed_doMove_30 : decode xb_Ed_doMove 30 = .ok (.iconst (-1), 1) := by decide +kernel
theorem xd_Ed_doMove_31 : decode xb_Ed_doMove 31 = .ok (.if_icmp .ne 5, 3) := by decide +kernel
theorem xd_Ed_doMove_34 : decode xb_Ed_doMove 34 = .ok (.iconst 4, 1) := by decide +kernel
theorem xd_Ed_doMove_35 : decode xb_Ed_doMove 35 = .ok (.ireturn, 1) := by decide +kernel
theorem xd_Ed_doMove_36 : decode xb_Ed_doMove 36 = .ok (.aload_n 0, 1) := by decide +kernel
theorem xd_Ed_doMove_37 : decode xb_Ed_doMove 37 = .ok (.getfield 12, 3) := by decide +kernel
theorem xd_Ed_doMove_40 : decode xb_Ed_doMove 40 = .ok (.getfield 99, 3) := by decide +kernel
theorem xd_Ed_doMove_43 : decode xb_Ed_doMove 43 = .ok (.invokevirtual 107, 3) := by decide +kernel
theorem xd_Ed_doMove_46 : decode xb_Ed_doMove 46 = .ok (.istore_n 3, 1) := by decide +kernel
theorem xd_Ed_doMove_47 : decode xb_Ed_doMove 47 = .ok (.aload_n 0, 1) := by decide +kernel
theorem xd_Ed_doMove_48 : decode xb_Ed_doMove 48 = .ok (.getfield 18, 3) := by decide +kernel
theorem xd_Ed_doMove_51 : decode xb_Ed_doMove 51 = .ok (.iload_n 1, 1) := by decide +kernel
theorem xd_Ed_doMove_52 : decode xb_Ed_doMove 52 = .ok (.iload_n 3, 1) := by decide +kernel
theorem xd_Ed_doMove_53 : decode xb_Ed_doMove 53 = .ok (.invokevirtual 119, 3) := by decide +kernel
theorem xd_Ed_doMove_56 : decode xb_Ed_doMove 56 = .ok (.istore 4, 2) := by decide +kernel
theorem xd_Ed_doMove_58 : decode xb_Ed_doMove 58 = .ok (.iload 4, 2) := by decide +kernel
theorem xd_Ed_doMove_60 : decode xb_Ed_doMove 60 = .ok (.ifCond .ne 5, 3) := by decide +kernel
theorem xd_Ed_doMove_63 : decode xb_Ed_doMove 63 = .ok (.iconst 5, 1) := by decide +kernel
theorem xd_Ed_doMove_64 : decode xb_Ed_doMove 64 = .ok (.ireturn, 1) := by decide +kernel
theorem xd_Ed_doMove_65 : decode xb_Ed_doMove 65 = .ok (.aload_n 0, 1) := by decide +kernel
theorem xd_Ed_doMove_66 : decode xb_Ed_doMove 66 = .ok (.iload_n 1, 1) := by decide +kernel
theorem xd_Ed_doMove_67 : decode xb_Ed_doMove 67 = .ok (.invokevirtual 90, 3) := by decide +kernel
theorem xd_Ed_doMove_70 : decode xb_Ed_doMove 70 = .ok (.ifCond .ne 11, 3) := by decide +kernel
theorem xd_Ed_doMove_73 : decode xb_Ed_doMove 73 = .ok (.aload_n 0, 1) := by decide +kernel
theorem xd_Ed_doMove_74 : decode xb_Ed_doMove 74 = .ok (.iload_n 2, 1) := by decide +kernel
theorem xd_Ed_doMove_75 : decode xb_Ed_doMove 75 = .ok (.invokevirtual 90, 3) := by decide +kernel
theorem xd_Ed_doMove_78 : decode xb_Ed_doMove 78 = .ok (.ifCond .eq 6, 3) := by decide +kernel
theorem xd_Ed_doMove_81 : decode xb_Ed_doMove 81 = .ok (.bipush 6, 2) := by decide +kernel
theorem xd_Ed_doMove_83 : decode xb_Ed_doMove 83 = .ok (.ireturn, 1) := by decide +kernel
theorem xd_Ed_doMove_84 : decode xb_Ed_doMove 84 = .ok (.aload_n 0, 1) := by decide +kernel
theorem xd_Ed_doMove_85 : decode xb_Ed_doMove 85 = .ok (.getfield 18, 3) := by decide +kernel
theorem xd_Ed_doMove_88 : decode xb_Ed_doMove 88 = .ok (.iload_n 1, 1) := by decide +kernel
theorem xd_Ed_doMove_89 : decode xb_Ed_doMove 89 = .ok (.iload_n 3, 1) := by decide +kernel
theorem xd_Ed_doMove_90 : decode xb_Ed_doMove 90 = .ok (.iconst 0, 1) := by decide +kernel
theorem xd_Ed_doMove_91 : decode xb_Ed_doMove 91 = .ok (.invokevirtual 115, 3) := by decide +kernel
theorem xd_Ed_doMove_94 : decode xb_Ed_doMove 94 = .ok (.aload_n 0, 1) := by decide +kernel
theorem xd_Ed_doMove_95 : decode xb_Ed_doMove 95 = .ok (.getfield 18, 3) := by decide +kernel
theorem xd_Ed_doMove_98 : decode xb_Ed_doMove 98 = .ok (.iload_n 2, 1) := by decide +kernel
theorem xd_Ed_doMove_99 : decode xb_Ed_doMove 99 = .ok (.aload_n 0, 1) := by decide +kernel
theorem xd_Ed_doMove_100 : decode xb_Ed_doMove 100 = .ok (.getfield 12, 3) := by decide +kernel
theorem xd_Ed_doMove_103 : decode xb_Ed_doMove 103 = .ok (.getfield 123, 3) := by decide +kernel
theorem xd_Ed_doMove_106 : decode xb_Ed_doMove 106 = .ok (.invokevirtual 107, 3) := by decide +kernel
theorem xd_Ed_doMove_109 : decode xb_Ed_doMove 109 = .ok (.iload 4, 2) := by decide +kernel
theorem xd_Ed_doMove_111 : decode xb_Ed_doMove 111 = .ok (.invokevirtual 115, 3) := by decide +kernel
theorem xd_Ed_doMove_114 : decode xb_Ed_doMove 114 = .ok (.iconst 0, 1) := by decide +kernel
theorem xd_Ed_doMove_115 : decode xb_Ed_doMove 115 = .ok (.ireturn, 1) := by decide +kernel
theorem xd_Ed_doChange_0 : decode xb_Ed_doChange 0 = .ok (.aload_n 0, 1) := by decide +kernel
theorem xd_Ed_doChange_1 : decode xb_Ed_doChange 1 = .ok (.aload_n 0, 1) := by decide +kernel
theorem xd_Ed_doChange_2 : decode xb_Ed_doChange 2 = .ok (.getfield 12, 3) := by decide +kernel
theorem xd_Ed_doChange_5 : decode xb_Ed_doChange 5 = .ok (.getfield 99, 3) := by decide +kernel
theorem xd_Ed_doChange_8 : decode xb_Ed_doChange 8 = .ok (.invokevirtual 103, 3) := by decide +kernel
theorem xd_Ed_doChange_11 : decode xb_Ed_doChange 11 = .ok (.istore_n 1, 1) := by decide +kernel
theorem xd_Ed_doChange_12 : decode xb_Ed_doChange 12 = .ok (.iload_n 1, 1) := by decide +kernel
theorem xd_Ed_doChange_13 : decode xb_Ed_doChange 13 = .ok (.iconst (-1), 1) := by decide +kernel
theorem xd_Ed_doChange_14 : decode xb_Ed_doChange 14 = .ok (.if_icmp .ne 5, 3) := by decide +kernel
theorem xd_Ed_doChange_17 : decode xb_Ed_doChange 17 = .ok (.iconst 4, 1) := by decide +kernel
theorem xd_Ed_doChange_18 : decode xb_Ed_doChange 18 = .ok (.ireturn, 1) := by decide +kernel
theorem xd_Ed_doChange_19 : decode xb_Ed_doChange 19 = .ok (.aload_n 0, 1) := by decide +kernel
theorem xd_Ed_doChange_20 : decode xb_Ed_doChange 20 = .ok (.getfield 12, 3) := by decide +kernel
theorem xd_Ed_doChange_23 : decode xb_Ed_doChange 23 = .ok (.getfield 99, 3) := by decide +kernel
theorem xd_Ed_doChange_26 : decode xb_Ed_doChange 26 = .ok (.invokevirtual 107, 3) := by decide +kernel
theorem xd_Ed_doChange_29 : decode xb_Ed_doChange 29 = .ok (.istore_n 2, 1) := by decide +kernel
theorem xd_Ed_doChange_30 : decode xb_Ed_doChange 30 = .ok (.aload_n 0, 1) := by decide +kernel
theorem xd_Ed_doChange_31 : decode xb_Ed_doChange 31 = .ok (.getfield 18, 3) := by decide +kernel
theorem xd_Ed_doChange_34 : decode xb_Ed_doChange 34 = .ok (.iload_n 1, 1) := by decide +kernel
theorem xd_Ed_doChange_35 : decode xb_Ed_doChange 35 = .ok (.iload_n 2, 1) := by decide +kernel
theorem xd_Ed_doChange_36 : decode xb_Ed_doChange 36 = .ok (.invokevirtual 119, 3) := by decide +kernel
theorem xd_Ed_doChange_39 : decode xb_Ed_doChange 39 = .ok (.istore_n 3, 1) := by decide +kernel
theorem xd_Ed_doChange_40 : decode xb_Ed_doChange 40 = .ok (.iload_n 3, 1) := by decide +kernel
theorem xd_Ed_doChange_41 : decode xb_Ed_doChange 41 = .ok (.ifCond .ne 5, 3) := by decide +kernel
theorem xd_Ed_doChange_44 : decode xb_Ed_doChange 44 = .ok (.iconst 5, 1) := by decide +kernel
theorem xd_Ed_doChange_45 : decode xb_Ed_doChange 45 = .ok (.ireturn, 1) := by decide +kernel
theorem xd_Ed_doChange_46 : decode xb_Ed_doChange 46 = .ok (.iload_n 3, 1) := by decide +kernel
theorem xd_Ed_doChange_47 : decode xb_Ed_doChange 47 = .ok (.aload_n 0, 1) := by decide +kernel
theorem xd_Ed_doChange_48 : decode xb_Ed_doChange 48 = .ok (.getfield 12, 3) := by decide +kernel
theorem xd_Ed_doChange_51 : decode xb_Ed_doChange 51 = .ok (.getfield 126, 3) := by decide +kernel
theorem xd_Ed_doChange_54 : decode xb_Ed_doChange 54 = .ok (.if_icmp .eq 5, 3) := by decide +kernel
theorem xd_Ed_doChange_57 : decode xb_Ed_doChange 57 = .ok (.iconst (-1), 1) := by decide +kernel
theorem xd_Ed_doChange_58 : decode xb_Ed_doChange 58 = .ok (.ireturn, 1) := by decide +kernel
theorem xd_Ed_doChange_59 : decode xb_Ed_doChange 59 = .ok (.aload_n 0, 1) := by decide +kernel
theorem xd_Ed_doChange_60 : decode xb_Ed_doChange 60 = .ok (.iload_n 1, 1) := by decide +kernel
theorem xd_Ed_doChange_61 : decode xb_Ed_doChange 61 = .ok (.invokevirtual 90, 3) := by decide +kernel
theorem xd_Ed_doChange_64 : decode xb_Ed_doChange 64 = .ok (.ifCond .eq 6, 3) := by decide +kernel
theorem xd_Ed_doChange_67 : decode xb_Ed_doChange 67 = .ok (.bipush 6, 2) := by decide +kernel
theorem xd_Ed_doChange_69 : decode xb_Ed_doChange 69 = .ok (.ireturn, 1) := by decide +kernel
theorem xd_Ed_doChange_70 : decode xb_Ed_doChange 70 = .ok (.aload_n 0, 1) := by decide +kernel
theorem xd_Ed_doChange_71 : decode xb_Ed_doChange 71 = .ok (.getfield 18, 3) := by decide +kernel
theorem xd_Ed_doChange_74 : decode xb_Ed_doChange 74 = .ok (.iload_n 1, 1) := by decide +kernel
theorem xd_Ed_doChange_75 : decode xb_Ed_doChange 75 = .ok (.iload_n 2, 1) := by decide +kernel
theorem xd_Ed_doChange_76 : decode xb_Ed_doChange 76 = .ok (.aload_n 0, 1) := by decide +kernel
theorem xd_Ed_doChange_77 : decode xb_Ed_doChange 77 = .ok (.getfield 12, 3) := by decide +kernel
theorem xd_Ed_doChange_80 : decode xb_Ed_doChange 80 = .ok (.getfield 112, 3) := by decide +kernel
theorem xd_Ed_doChange_83 : decode xb_Ed_doChange 83 = .ok (.invokevirtual 115, 3) := by decide +kernel
theorem xd_Ed_doChange_86 : decode xb_Ed_doChange 86 = .ok (.iconst 0, 1) := by decide +kernel
theorem xd_Ed_doChange_87 : decode xb_Ed_doChange 87 = .ok (.ireturn, 1) := by decide +kernel
theorem xd_Ed_passedLines_0 : decode xb_Ed_passedLines 0 = .ok (.aload_n 0, 1) := by decide +kernel
theorem xd_Ed_passedLines_1 : decode xb_Ed_passedLines 1 = .ok (.getfield 26, 3) := by decide +kernel
theorem xd_Ed_passedLines_4 : decode xb_Ed_passedLines 4 = .ok (.ireturn, 1) := by decide +kernel
theorem xd_Ed_lines_0 : decode xb_Ed_lines 0 = .ok (.aload_n 0, 1) := by decide +kernel
theorem xd_Ed_lines_1 : decode xb_Ed_lines 1 = .ok (.getfield 22, 3) := by decide +kernel
theorem xd_Ed_lines_4 : decode xb_Ed_lines 4 = .ok (.ireturn, 1) := by decide +kernel
theorem xd_St_isUnlike_0 : decode xb_St_isUnlike 0 = .ok (.aload_n 0, 1) := by decide +kernel
theorem xd_St_isUnlike_1 : decode xb_St_isUnlike 1 = .ok (.iload_n 2, 1) := by decide +kernel
theorem xd_St_isUnlike_2 : decode xb_St_isUnlike 2 = .ok (.invokevirtual 42, 3) := by decide +kernel
theorem xd_St_isUnlike_5 : decode xb_St_isUnlike 5 = .ok (.aload_n 1, 1) := by decide +kernel
theorem xd_St_isUnlike_6 : decode xb_St_isUnlike 6 = .ok (.iload_n 2, 1) := by decide +kernel
theorem xd_St_isUnlike_7 : decode xb_St_isUnlike 7 = .ok (.invokevirtual 42, 3) := by decide +kernel
theorem xd_St_isUnlike_10 : decode xb_St_isUnlike 10 = .ok (.if_icmp .ne 29, 3) := by decide +kernel
theorem xd_St_isUnlike_13 : decode xb_St_isUnlike 13 = .ok (.aload_n 0, 1) := by decide +kernel
theorem xd_St_isUnlike_14 : decode xb_St_isUnlike 14 = .ok (.iload_n 2, 1) := by decide +kernel
theorem xd_St_isUnlike_15 : decode xb_St_isUnlike 15 = .ok (.invokevirtual 45, 3) := by decide +kernel
theorem xd_St_isUnlike_18 : decode xb_St_isUnlike 18 = .ok (.aload_n 1, 1) := by decide +kernel
theorem xd_St_isUnlike_19 : decode xb_St_isUnlike 19 = .ok (.iload_n 2, 1) := by decide +kernel
theorem xd_St_isUnlike_20 : decode xb_St_isUnlike 20 = .ok (.invokevirtual 45, 3) := by decide +kernel
theorem xd_St_isUnlike_23 : decode xb_St_isUnlike 23 = .ok (.if_icmp .ne 16, 3) := by decide +kernel
theorem xd_St_isUnlike_26 : decode xb_St_isUnlike 26 = .ok (.aload_n 0, 1) := by decide +kernel
theorem xd_St_isUnlike_27 : decode xb_St_isUnlike 27 = .ok (.iload_n 2, 1) := by decide +kernel
theorem xd_St_isUnlike_28 : decode xb_St_isUnlike 28 = .ok (.invokevirtual 48, 3) := by decide +kernel
theorem xd_St_isUnlike_31 : decode xb_St_isUnlike 31 = .ok (.aload_n 1, 1) := by decide +kernel
theorem xd_St_isUnlike_32 : decode xb_St_isUnlike 32 = .ok (.iload_n 2, 1) := by decide +kernel
theorem xd_St_isUnlike_33 : decode xb_St_isUnlike 33 = .ok (.invokevirtual 48, 3) := by decide +kernel
theorem xd_St_isUnlike_36 : decode xb_St_isUnlike 36 = .ok (.if_icmp .eq 5, 3) := by decide +kernel
theorem xd_St_isUnlike_39 : decode xb_St_isUnlike 39 = .ok (.iconst 1, 1) := by decide +kernel
theorem xd_St_isUnlike_40 : decode xb_St_isUnlike 40 = .ok (.ireturn, 1) := by decide +kernel
theorem xd_St_isUnlike_41 : decode xb_St_isUnlike 41 = .ok (.aload_n 0, 1) := by decide +kernel
theorem xd_St_isUnlike_42 : decode xb_St_isUnlike 42 = .ok (.iload_n 2, 1) := by decide +kernel
theorem xd_St_isUnlike_43 : decode xb_St_isUnlike 43 = .ok (.invokevirtual 48, 3) := by decide +kernel
theorem xd_St_isUnlike_46 : decode xb_St_isUnlike 46 = .ok (.ifCond .ne 5, 3) := by decide +kernel
theorem xd_St_isUnlike_49 : decode xb_St_isUnlike 49 = .ok (.iconst 0, 1) := by decide +kernel
theorem xd_St_isUnlike_50 : decode xb_St_isUnlike 50 = .ok (.ireturn, 1) := by decide +kernel
theorem xd_St_isUnlike_51 : decode xb_St_isUnlike 51 = .ok (.iconst 0, 1) := by decide +kernel
theorem xd_St_isUnlike_52 : decode xb_St_isUnlike 52 = .ok (.istore_n 3, 1) := by decide +kernel
theorem xd_St_isUnlike_53 : decode xb_St_isUnlike 53 = .ok (.iload_n 3, 1) := by decide +kernel
theorem xd_St_isUnlike_54 : decode xb_St_isUnlike 54 = .ok (.bipush 26, 2) := by decide +kernel
theorem xd_St_isUnlike_56 : decode xb_St_isUnlike 56 = .ok (.if_icmp .ge 26, 3) := by decide +kernel
theorem xd_St_isUnlike_59 : decode xb_St_isUnlike 59 = .ok (.aload_n 0, 1) := by decide +kernel
theorem xd_St_isUnlike_60 : decode xb_St_isUnlike 60 = .ok (.iload_n 2, 1) := by decide +kernel
theorem xd_St_isUnlike_61 : decode xb_St_isUnlike 61 = .ok (.iload_n 3, 1) := by decide +kernel
theorem xd_St_isUnlike_62 : decode xb_St_isUnlike 62 = .ok (.invokevirtual 52, 3) := by decide +kernel
theorem xd_St_isUnlike_65 : decode xb_St_isUnlike 65 = .ok (.aload_n 1, 1) := by decide +kernel
theorem xd_St_isUnlike_66 : decode xb_St_isUnlike 66 = .ok (.iload_n 2, 1) := by decide +kernel
theorem xd_St_isUnlike_67 : decode xb_St_isUnlike 67 = .ok (.iload_n 3, 1) := by decide +kernel
theorem xd_St_isUnlike_68 : decode xb_St_isUnlike 68 = .ok (.invokevirtual 52, 3) := by decide +kernel
theorem xd_St_isUnlike_71 : decode xb_St_isUnlike 71 = .ok (.if_icmp .eq 5, 3) := by decide +kernel
theorem xd_St_isUnlike_74 : decode xb_St_isUnlike 74 = .ok (.iconst 1, 1) := by decide +kernel
theorem xd_St_isUnlike_75 : decode xb_St_isUnlike 75 = .ok (.ireturn, 1) := by decide +kernel
theorem xd_St_isUnlike_76 : decode xb_St_isUnlike 76 = .ok (.iinc 3 1, 3) := by decide +kernel
theorem xd_St_isUnlike_79 : decode xb_St_isUnlike 79 = .ok (.goto (-26), 3) := by decide +kernel
theorem xd_St_isUnlike_82 : decode xb_St_isUnlike 82 = .ok (.iconst 0, 1) := by decide +kernel
theorem xd_St_isUnlike_83 : decode xb_St_isUnlike 83 = .ok (.ireturn, 1) := by decide +kernel
theorem xd_St_keyCount_0 : decode xb_St_keyCount 0 = .ok (.iload_n 1, 1) := by decide +kernel
theorem xd_St_keyCount_1 : decode xb_St_keyCount 1 = .ok (.invokestatic 27, 3) := by decide +kernel
theorem xd_St_keyCount_4 : decode xb_St_keyCount 4 = .ok (.ifCond .eq 12, 3) := by decide +kernel
theorem xd_St_keyCount_7 : decode xb_St_keyCount 7 = .ok (.aload_n 0, 1) := by decide +kernel
theorem xd_St_keyCount_8 : decode xb_St_keyCount 8 = .ok (.getfield 15, 3) := by decide +kernel
theorem xd_St_keyCount_11 : decode xb_St_keyCount 11 = .ok (.iload_n 1, 1) := by decide +kernel
theorem xd_St_keyCount_12 : decode xb_St_keyCount 12 = .ok (.iaload, 1) := by decide +kernel
theorem xd_St_keyCount_13 : decode xb_St_keyCount 13 = .ok (.goto 4, 3) := by decide +kernel
theorem xd_St_keyCount_16 : decode xb_St_keyCount 16 = .ok (.iconst 0, 1) := by decide +kernel
theorem xd_St_keyCount_17 : decode xb_St_keyCount 17 = .ok (.ireturn, 1) := by decide +kernel
theorem xd_St_joinFirstPair_0 : decode xb_St_joinFirstPair 0 = .ok (.iconst 0, 1) := by decide +kernel
theorem xd_St_joinFirstPair_1 : decode xb_St_joinFirstPair 1 = .ok (.istore_n 1, 1) := by decide +kernel
theorem xd_St_joinFirstPair_2 : decode xb_St_joinFirstPair 2 = .ok (.iload_n 1, 1) := by decide +kernel
theorem xd_St_joinFirstPair_3 : decode xb_St_joinFirstPair 3 = .ok (.bipush 40, 2) := by decide +kernel
theorem xd_St_joinFirstPair_5 : decode xb_St_joinFirstPair 5 = .ok (.if_icmp .ge 66, 3) := by decide +kernel
theorem xd_St_joinFirstPair_8 : decode xb_St_joinFirstPair 8 = .ok (.aload_n 0, 1) := by decide +kernel
theorem xd_St_joinFirstPair_9 : decode xb_St_joinFirstPair 9 = .ok (.iload_n 1, 1) := by decide +kernel
theorem xd_St_joinFirstPair_10 : decode xb_St_joinFirstPair 10 = .ok (.invokevirtual 55, 3) := by decide +kernel
theorem xd_St_joinFirstPair_13 : decode xb_St_joinFirstPair 13 = .ok (.ifCond .ne 6, 3) := by decide +kernel
theorem xd_St_joinFirstPair_16 : decode xb_St_joinFirstPair 16 = .ok (.goto 49, 3) := by decide +kernel
theorem xd_St_joinFirstPair_19 : decode xb_St_joinFirstPair 19 = .ok (.iload_n 1, 1) := by decide +kernel
theorem xd_St_joinFirstPair_20 : decode xb_St_joinFirstPair 20 = .ok (.iconst 1, 1) := by decide +kernel
theorem xd_St_joinFirstPair_21 : decode xb_St_joinFirstPair 21 = .ok (.iadd, 1) := by decide +kernel
theorem xd_St_joinFirstPair_22 : decode xb_St_joinFirstPair 22 = .ok (.istore_n 2, 1) := by decide +kernel
theorem xd_St_joinFirstPair_23 : decode xb_St_joinFirstPair 23 = .ok (.iload_n 2, 1) := by decide +kernel
theorem xd_St_joinFirstPair_24 : decode xb_St_joinFirstPair 24 = .ok (.bipush 40, 2) := by decide +kernel
theorem xd_St_joinFirstPair_26 : decode xb_St_joinFirstPair 26 = .ok (.if_icmp .ge 39, 3) := by decide +kernel
theorem xd_St_joinFirstPair_29 : decode xb_St_joinFirstPair 29 = .ok (.aload_n 0, 1) := by decide +kernel
theorem xd_St_joinFirstPair_30 : decode xb_St_joinFirstPair 30 = .ok (.iload_n 2, 1) := by decide +kernel
theorem xd_St_joinFirstPair_31 : decode xb_St_joinFirstPair 31 = .ok (.invokevirtual 55, 3) := by decide +kernel
theorem xd_St_joinFirstPair_34 : decode xb_St_joinFirstPair 34 = .ok (.ifCond .eq 25, 3) := by decide +kernel
theorem xd_St_joinFirstPair_37 : decode xb_St_joinFirstPair 37 = .ok (.aload_n 0, 1) := by decide +kernel
theorem xd_St_joinFirstPair_38 : decode xb_St_joinFirstPair 38 = .ok (.iload_n 1, 1) := by decide +kernel
theorem xd_St_joinFirstPair_39 : decode xb_St_joinFirstPair 39 = .ok (.iload_n 2, 1) := by decide +kernel
theorem xd_St_joinFirstPair_40 : decode xb_St_joinFirstPair 40 = .ok (.invokevirtual 58, 3) := by decide +kernel
theorem xd_St_joinFirstPair_43 : decode xb_St_joinFirstPair 43 = .ok (.ifCond .eq 16, 3) := by decide +kernel
theorem xd_St_joinFirstPair_46 : decode xb_St_joinFirstPair 46 = .ok (.aload_n 0, 1) := by decide +kernel
theorem xd_St_joinFirstPair_47 : decode xb_St_joinFirstPair 47 = .ok (.iload_n 2, 1) := by decide +kernel
theorem xd_St_joinFirstPair_48 : decode xb_St_joinFirstPair 48 = .ok (.invokevirtual 62, 3) := by decide +kernel
theorem xd_St_joinFirstPair_51 : decode xb_St_joinFirstPair 51 = .ok (.aload_n 0, 1) := by decide +kernel
theorem xd_St_joinFirstPair_52 : decode xb_St_joinFirstPair 52 = .ok (.iload_n 2, 1) := by decide +kernel
theorem xd_St_joinFirstPair_53 : decode xb_St_joinFirstPair 53 = .ok (.iload_n 1, 1) := by decide +kernel
theorem xd_St_joinFirstPair_54 : decode xb_St_joinFirstPair 54 = .ok (.invokevirtual 66, 3) := by decide +kernel
theorem xd_St_joinFirstPair_57 : decode xb_St_joinFirstPair 57 = .ok (.iconst 1, 1) := by decide +kernel
theorem xd_St_joinFirstPair_58 : decode xb_St_joinFirstPair 58 = .ok (.ireturn, 1) := by decide +kernel
theorem xd_St_joinFirstPair_59 : decode xb_St_joinFirstPair 59 = .ok (.iinc 2 1, 3) := by decide +kernel
theorem xd_St_joinFirstPair_62 : decode xb_St_joinFirstPair 62 = .ok (.goto (-39), 3) := by decide +kernel
theorem xd_St_joinFirstPair_65 : decode xb_St_joinFirstPair 65 = .ok (.iinc 1 1, 3) := by decide +kernel
theorem xd_St_joinFirstPair_68 : decode xb_St_joinFirstPair 68 = .ok (.goto (-66), 3) := by decide +kernel
theorem xd_St_joinFirstPair_71 : decode xb_St_joinFirstPair 71 = .ok (.iconst 0, 1) := by decide +kernel
theorem xd_St_joinFirstPair_72 : decode xb_St_joinFirstPair 72 = .ok (.ireturn, 1) := by decide +kernel
theorem xd_St_mayJoin_0 : decode xb_St_mayJoin 0 = .ok (.iload_n 1, 1) := by decide +kernel
theorem xd_St_mayJoin_1 : decode xb_St_mayJoin 1 = .ok (.ifCond .eq 23, 3) := by decide +kernel
theorem xd_St_mayJoin_4 : decode xb_St_mayJoin 4 = .ok (.aload_n 0, 1) := by decide +kernel
theorem xd_St_mayJoin_5 : decode xb_St_mayJoin 5 = .ok (.iload_n 1, 1) := by decide +kernel
theorem xd_St_mayJoin_6 : decode xb_St_mayJoin 6 = .ok (.invokevirtual 42, 3) := by decide +kernel
theorem xd_St_mayJoin_9 : decode xb_St_mayJoin 9 = .ok (.ifCond .eq 15, 3) := by decide +kernel
theorem xd_St_mayJoin_12 : decode xb_St_mayJoin 12 = .ok (.aload_n 0, 1) := by decide +kernel
theorem xd_St_mayJoin_13 : decode xb_St_mayJoin 13 = .ok (.iload_n 1, 1) := by decide +kernel
theorem xd_St_mayJoin_14 : decode xb_St_mayJoin 14 = .ok (.invokevirtual 45, 3) := by decide +kernel
theorem xd_St_mayJoin_17 : decode xb_St_mayJoin 17 = .ok (.ifCond .ne 7, 3) := by decide +kernel
theorem xd_St_mayJoin_20 : decode xb_St_mayJoin 20 = .ok (.iconst 1, 1) := by decide +kernel
theorem xd_St_mayJoin_21 : decode xb_St_mayJoin 21 = .ok (.goto 4, 3) := by decide +kernel
theorem xd_St_mayJoin_24 : decode xb_St_mayJoin 24 = .ok (.iconst 0, 1) := by decide +kernel
theorem xd_St_mayJoin_25 : decode xb_St_mayJoin 25 = .ok (.ireturn, 1) := by decide +kernel
theorem xd_St_areAlike_0 : decode xb_St_areAlike 0 = .ok (.aload_n 0, 1) := by decide +kernel
theorem xd_St_areAlike_1 : decode xb_St_areAlike 1 = .ok (.iload_n 1, 1) := by decide +kernel
theorem xd_St_areAlike_2 : decode xb_St_areAlike 2 = .ok (.invokevirtual 48, 3) := by decide +kernel
theorem xd_St_areAlike_5 : decode xb_St_areAlike 5 = .ok (.aload_n 0, 1) := by decide +kernel
theorem xd_St_areAlike_6 : decode xb_St_areAlike 6 = .ok (.iload_n 2, 1) := by decide +kernel
theorem xd_St_areAlike_7 : decode xb_St_areAlike 7 = .ok (.invokevirtual 48, 3) := by decide +kernel
theorem xd_St_areAlike_10 : decode xb_St_areAlike 10 = .ok (.if_icmp .eq 5, 3) := by decide +kernel
theorem xd_St_areAlike_13 : decode xb_St_areAlike 13 = .ok (.iconst 0, 1) := by decide +kernel
theorem xd_St_areAlike_14 : decode xb_St_areAlike 14 = .ok (.ireturn, 1) := by decide +kernel
theorem xd_St_areAlike_15 : decode xb_St_areAlike 15 = .ok (.iconst 2, 1) := by decide +kernel
theorem xd_St_areAlike_16 : decode xb_St_areAlike 16 = .ok (.iload_n 1, 1) := by decide +kernel
theorem xd_St_areAlike_17 : decode xb_St_areAlike 17 = .ok (.invokestatic 38, 3) := by decide +kernel
theorem xd_St_areAlike_20 : decode xb_St_areAlike 20 = .ok (.istore_n 3, 1) := by decide +kernel
theorem xd_St_areAlike_21 : decode xb_St_areAlike 21 = .ok (.iconst 2, 1) := by decide +kernel
theorem xd_St_areAlike_22 : decode xb_St_areAlike 22 = .ok (.iload_n 2, 1) := by decide +kernel
theorem xd_St_areAlike_23 : decode xb_St_areAlike 23 = .ok (.invokestatic 38, 3) := by decide +kernel
theorem xd_St_areAlike_26 : decode xb_St_areAlike 26 = .ok (.istore 4, 2) := by decide +kernel
theorem xd_St_areAlike_28 : decode xb_St_areAlike 28 = .ok (.iconst 0, 1) := by decide +kernel
theorem xd_St_areAlike_29 : decode xb_St_areAlike 29 = .ok (.istore 5, 2) := by decide +kernel
theorem xd_St_areAlike_31 : decode xb_St_areAlike 31 = .ok (.iload 5, 2) := by decide +kernel
theorem xd_St_areAlike_33 : decode xb_St_areAlike 33 = .ok (.bipush 26, 2) := by decide +kernel
theorem xd_St_areAlike_35 : decode xb_St_areAlike 35 = .ok (.if_icmp .ge 49, 3) := by decide +kernel
theorem xd_St_areAlike_38 : decode xb_St_areAlike 38 = .ok (.aload_n 0, 1) := by decide +kernel
theorem xd_St_areAlike_39 : decode xb_St_areAlike 39 = .ok (.iload_n 1, 1) := by decide +kernel
theorem xd_St_areAlike_40 : decode xb_St_areAlike 40 = .ok (.iload 5, 2) := by decide +kernel
theorem xd_St_areAlike_42 : decode xb_St_areAlike 42 = .ok (.invokevirtual 52, 3) := by decide +kernel
theorem xd_St_areAlike_45 : decode xb_St_areAlike 45 = .ok (.istore 6, 2) := by decide +kernel
theorem xd_St_areAlike_47 : decode xb_St_areAlike 47 = .ok (.aload_n 0, 1) := by decide +kernel
theorem xd_St_areAlike_48 : decode xb_St_areAlike 48 = .ok (.iload_n 2, 1) := by decide +kernel
theorem xd_St_areAlike_49 : decode xb_St_areAlike 49 = .ok (.iload 5, 2) := by decide +kernel
theorem xd_St_areAlike_51 : decode xb_St_areAlike 51 = .ok (.invokevirtual 52, 3) := by decide +kernel
theorem xd_St_areAlike_54 : decode xb_St_areAlike 54 = .ok (.istore 7, 2) := by decide +kernel
theorem xd_St_areAlike_56 : decode xb_St_areAlike 56 = .ok (.iload 6, 2) := by decide +kernel
theorem xd_St_areAlike_58 : decode xb_St_areAlike 58 = .ok (.iload 7, 2) := by decide +kernel
theorem xd_St_areAlike_60 : decode xb_St_areAlike 60 = .ok (.if_icmp .eq 18, 3) := by decide +kernel
theorem xd_St_areAlike_63 : decode xb_St_areAlike 63 = .ok (.iload 6, 2) := by decide +kernel
theorem xd_St_areAlike_65 : decode xb_St_areAlike 65 = .ok (.iload_n 3, 1) := by decide +kernel
theorem xd_St_areAlike_66 : decode xb_St_areAlike 66 = .ok (.if_icmp .ne 10, 3) := by decide +kernel
theorem xd_St_areAlike_69 : decode xb_St_areAlike 69 = .ok (.iload 7, 2) := by decide +kernel
theorem xd_St_areAlike_71 : decode xb_St_areAlike 71 = .ok (.iload 4, 2) := by decide +kernel
theorem xd_St_areAlike_73 : decode xb_St_areAlike 73 = .ok (.if_icmp .eq 5, 3) := by decide +kernel
theorem xd_St_areAlike_76 : decode xb_St_areAlike 76 = .ok (.iconst 0, 1) := by decide +kernel
theorem xd_St_areAlike_77 : decode xb_St_areAlike 77 = .ok (.ireturn, 1) := by decide +kernel
theorem xd_St_areAlike_78 : decode xb_St_areAlike 78 = .ok (.iinc 5 1, 3) := by decide +kernel
theorem xd_St_areAlike_81 : decode xb_St_areAlike 81 = .ok (.goto (-50), 3) := by decide +kernel
theorem xd_St_areAlike_84 : decode xb_St_areAlike 84 = .ok (.iconst 1, 1) := by decide +kernel
theorem xd_St_areAlike_85 : decode xb_St_areAlike 85 = .ok (.ireturn, 1) := by decide +kernel
theorem xd_St_redirect_0 : decode xb_St_redirect 0 = .ok (.iconst 0, 1) := by decide +kernel
theorem xd_St_redirect_1 : decode xb_St_redirect 1 = .ok (.istore_n 3, 1) := by decide +kernel
theorem xd_St_redirect_2 : decode xb_St_redirect 2 = .ok (.iload_n 3, 1) := by decide +kernel
theorem xd_St_redirect_3 : decode xb_St_redirect 3 = .ok (.bipush 40, 2) := by decide +kernel
theorem xd_St_redirect_5 : decode xb_St_redirect 5 = .ok (.if_icmp .ge 33, 3) := by decide +kernel
theorem xd_St_redirect_8 : decode xb_St_redirect 8 = .ok (.aload_n 0, 1) := by decide +kernel
theorem xd_St_redirect_9 : decode xb_St_redirect 9 = .ok (.getfield 15, 3) := by decide +kernel
theorem xd_St_redirect_12 : decode xb_St_redirect 12 = .ok (.iload_n 3, 1) := by decide +kernel
theorem xd_St_redirect_13 : decode xb_St_redirect 13 = .ok (.iaload, 1) := by decide +kernel
theorem xd_St_redirect_14 : decode xb_St_redirect 14 = .ok (.ifCond .le 18, 3) := by decide +kernel
theorem xd_St_redirect_17 : decode xb_St_redirect 17 = .ok (.aload_n 0, 1) := by decide +kernel
theorem xd_St_redirect_18 : decode xb_St_redirect 18 = .ok (.iload_n 3, 1) := by decide +kernel
theorem xd_St_redirect_19 : decode xb_St_redirect 19 = .ok (.iconst 2, 1) := by decide +kernel
theorem xd_St_redirect_20 : decode xb_St_redirect 20 = .ok (.iload_n 1, 1) := by decide +kernel
theorem xd_St_redirect_21 : decode xb_St_redirect 21 = .ok (.invokestatic 38, 3) := by decide +kernel
theorem xd_St_redirect_24 : decode xb_St_redirect 24 = .ok (.iconst 2, 1) := by decide +kernel
theorem xd_St_redirect_25 : decode xb_St_redirect 25 = .ok (.iload_n 2, 1) := by decide +kernel
theorem xd_St_redirect_26 : decode xb_St_redirect 26 = .ok (.invokestatic 38, 3) := by decide +kernel
theorem xd_St_redirect_29 : decode xb_St_redirect 29 = .ok (.invokevirtual 70, 3) := by decide +kernel
theorem xd_St_redirect_32 : decode xb_St_redirect 32 = .ok (.iinc 3 1, 3) := by decide +kernel
theorem xd_St_redirect_35 : decode xb_St_redirect 35 = .ok (.goto (-33), 3) := by decide +kernel
theorem xd_St_redirect_38 : decode xb_St_redirect 38 = .ok (.return_, 1) := by decide +kernel
theorem xd_St_redirectKeys_0 : decode xb_St_redirectKeys 0 = .ok (.iconst 0, 1) := by decide +kernel
theorem xd_St_redirectKeys_1 : decode xb_St_redirectKeys 1 = .ok (.istore 4, 2) := by decide +kernel
theorem xd_St_redirectKeys_3 : decode xb_St_redirectKeys 3 = .ok (.iload 4, 2) := by decide +kernel
theorem xd_St_redirectKeys_5 : decode xb_St_redirectKeys 5 = .ok (.bipush 26, 2) := by decide +kernel
theorem xd_St_redirectKeys_7 : decode xb_St_redirectKeys 7 = .ok (.if_icmp .ge 28, 3) := by decide +kernel
theorem xd_St_redirectKeys_10 : decode xb_St_redirectKeys 10 = .ok (.aload_n 0, 1) := by decide +kernel
theorem xd_St_redirectKeys_11 : decode xb_St_redirectKeys 11 = .ok (.iload_n 1, 1) := by decide +kernel
theorem xd_St_redirectKeys_12 : decode xb_St_redirectKeys 12 = .ok (.iload 4, 2) := by decide +kernel
theorem xd_St_redirectKeys_14 : decode xb_St_redirectKeys 14 = .ok (.invokevirtual 52, 3) := by decide +kernel
theorem xd_St_redirectKeys_17 : decode xb_St_redirectKeys 17 = .ok (.iload_n 2, 1) := by decide +kernel
theorem xd_St_redirectKeys_18 : decode xb_St_redirectKeys 18 = .ok (.if_icmp .ne 11, 3) := by decide +kernel
theorem xd_St_redirectKeys_21 : decode xb_St_redirectKeys 21 = .ok (.aload_n 0, 1) := by decide +kernel
theorem xd_St_redirectKeys_22 : decode xb_St_redirectKeys 22 = .ok (.iload_n 1, 1) := by decide +kernel
theorem xd_St_redirectKeys_23 : decode xb_St_redirectKeys 23 = .ok (.iload 4, 2) := by decide +kernel
theorem xd_St_redirectKeys_25 : decode xb_St_redirectKeys 25 = .ok (.iload_n 3, 1) := by decide +kernel
theorem xd_St_redirectKeys_26 : decode xb_St_redirectKeys 26 = .ok (.invokevirtual 34, 3) := by decide +kernel
theorem xd_St_redirectKeys_29 : decode xb_St_redirectKeys 29 = .ok (.iinc 4 1, 3) := by decide +kernel
theorem xd_St_redirectKeys_32 : decode xb_St_redirectKeys 32 = .ok (.goto (-29), 3) := by decide +kernel
theorem xd_St_redirectKeys_35 : decode xb_St_redirectKeys 35 = .ok (.return_, 1) := by decide +kernel
theorem xd_St_countThere_0 : decode xb_St_countThere 0 = .ok (.iconst 0, 1) := by decide +kernel
theorem xd_St_countThere_1 : decode xb_St_countThere 1 = .ok (.istore_n 1, 1) := by decide +kernel
theorem xd_St_countThere_2 : decode xb_St_countThere 2 = .ok (.iconst 0, 1) := by decide +kernel
theorem xd_St_countThere_3 : decode xb_St_countThere 3 = .ok (.istore_n 2, 1) := by decide +kernel
theorem xd_St_countThere_4 : decode xb_St_countThere 4 = .ok (.iload_n 2, 1) := by decide +kernel
theorem xd_St_countThere_5 : decode xb_St_countThere 5 = .ok (.bipush 40, 2) := by decide +kernel
theorem xd_St_countThere_7 : decode xb_St_countThere 7 = .ok (.if_icmp .ge 21, 3) := by decide +kernel
theorem xd_St_countThere_10 : decode xb_St_countThere 10 = .ok (.aload_n 0, 1) := by decide +kernel
theorem xd_St_countThere_11 : decode xb_St_countThere 11 = .ok (.getfield 9, 3) := by decide +kernel
theorem xd_St_countThere_14 : decode xb_St_countThere 14 = .ok (.iload_n 2, 1) := by decide +kernel
theorem xd_St_countThere_15 : decode xb_St_countThere 15 = .ok (.iaload, 1) := by decide +kernel
theorem xd_St_countThere_16 : decode xb_St_countThere 16 = .ok (.ifCond .eq 6, 3) := by decide +kernel
theorem xd_St_countThere_19 : decode xb_St_countThere 19 = .ok (.iinc 1 1, 3) := by decide +kernel
theorem xd_St_countThere_22 : decode xb_St_countThere 22 = .ok (.iinc 2 1, 3) := by decide +kernel
theorem xd_St_countThere_25 : decode xb_St_countThere 25 = .ok (.goto (-21), 3) := by decide +kernel
theorem xd_St_countThere_28 : decode xb_St_countThere 28 = .ok (.iload_n 1, 1) := by decide +kernel
theorem xd_St_countThere_29 : decode xb_St_countThere 29 = .ok (.ireturn, 1) := by decide +kernel
theorem xd_St_referencesTo_0 : decode xb_St_referencesTo 0 = .ok (.iconst 2, 1) := by decide +kernel
theorem xd_St_referencesTo_1 : decode xb_St_referencesTo 1 = .ok (.iload_n 1, 1) := by decide +kernel
theorem xd_St_referencesTo_2 : decode xb_St_referencesTo 2 = .ok (.invokestatic 38, 3) := by decide +kernel
theorem xd_St_referencesTo_5 : decode xb_St_referencesTo 5 = .ok (.istore_n 2, 1) := by decide +kernel
theorem xd_St_referencesTo_6 : decode xb_St_referencesTo 6 = .ok (.iconst 0, 1) := by decide +kernel
theorem xd_St_referencesTo_7 : decode xb_St_referencesTo 7 = .ok (.istore_n 3, 1) := by decide +kernel
theorem xd_St_referencesTo_8 : decode xb_St_referencesTo 8 = .ok (.iconst 0, 1) := by decide +kernel
theorem xd_St_referencesTo_9 : decode xb_St_referencesTo 9 = .ok (.istore 4, 2) := by decide +kernel
theorem xd_St_referencesTo_11 : decode xb_St_referencesTo 11 = .ok (.iload 4, 2) := by decide +kernel
theorem xd_St_referencesTo_13 : decode xb_St_referencesTo 13 = .ok (.aload_n 0, 1) := by decide +kernel
theorem xd_St_referencesTo_14 : decode xb_St_referencesTo 14 = .ok (.getfield 18, 3) := by decide +kernel
theorem xd_St_referencesTo_17 : decode xb_St_referencesTo 17 = .ok (.arraylength, 1) := by decide +kernel
theorem xd_St_referencesTo_18 : decode xb_St_referencesTo 18 = .ok (.if_icmp .ge 23, 3) := by decide +kernel
theorem xd_St_referencesTo_21 : decode xb_St_referencesTo 21 = .ok (.aload_n 0, 1) := by decide +kernel
theorem xd_St_referencesTo_22 : decode xb_St_referencesTo 22 = .ok (.getfield 18, 3) := by decide +kernel
theorem xd_St_referencesTo_25 : decode xb_St_referencesTo 25 = .ok (.iload 4, 2) := by decide +kernel
theorem xd_St_referencesTo_27 : decode xb_St_referencesTo 27 = .ok (.iaload, 1) := by decide +kernel
theorem xd_St_referencesTo_28 : decode xb_St_referencesTo 28 = .ok (.iload_n 2, 1) := by decide +kernel
theorem xd_St_referencesTo_29 : decode xb_St_referencesTo 29 = .ok (.if_icmp .ne 6, 3) := by decide +kernel
theorem xd_St_referencesTo_32 : decode xb_St_referencesTo 32 = .ok (.iinc 3 1, 3) := by decide +kernel
theorem xd_St_referencesTo_35 : decode xb_St_referencesTo 35 = .ok (.iinc 4 1, 3) := by decide +kernel
theorem xd_St_referencesTo_38 : decode xb_St_referencesTo 38 = .ok (.goto (-27), 3) := by decide +kernel
theorem xd_St_referencesTo_41 : decode xb_St_referencesTo 41 = .ok (.iload_n 3, 1) := by decide +kernel
theorem xd_St_referencesTo_42 : decode xb_St_referencesTo 42 = .ok (.ireturn, 1) := by decide +kernel
