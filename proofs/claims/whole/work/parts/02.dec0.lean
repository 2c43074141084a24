theorem dX0_init_0 : decode cX0_init 0 = .ok (.aload_n 0, 1) := by decide +kernel
theorem dX0_init_1 : decode cX0_init 1 = .ok (.invokespecial 3, 3) := by decide +kernel
theorem dX0_init_4 : decode cX0_init 4 = .ok (.aload_n 0, 1) := by decide +kernel
theorem dX0_init_5 : decode cX0_init 5 = .ok (.bipush 7, 2) := by decide +kernel
theorem dX0_init_7 : decode cX0_init 7 = .ok (.newarray .int, 2) := by decide +kernel
theorem dX0_init_9 : decode cX0_init 9 = .ok (.putfield 9, 3) := by decide +kernel
theorem dX0_init_12 : decode cX0_init 12 = .ok (.aload_n 0, 1) := by decide +kernel
theorem dX0_init_13 : decode cX0_init 13 = .ok (.bipush 7, 2) := by decide +kernel
theorem dX0_init_15 : decode cX0_init 15 = .ok (.newarray .int, 2) := by decide +kernel
theorem dX0_init_17 : decode cX0_init 17 = .ok (.putfield 15, 3) := by decide +kernel
theorem dX0_init_20 : decode cX0_init 20 = .ok (.aload_n 0, 1) := by decide +kernel
theorem dX0_init_21 : decode cX0_init 21 = .ok (.bipush 28, 2) := by decide +kernel
theorem dX0_init_23 : decode cX0_init 23 = .ok (.newarray .int, 2) := by decide +kernel
theorem dX0_init_25 : decode cX0_init 25 = .ok (.putfield 18, 3) := by decide +kernel
theorem dX0_init_28 : decode cX0_init 28 = .ok (.aload_n 0, 1) := by decide +kernel
theorem dX0_init_29 : decode cX0_init 29 = .ok (.bipush 7, 2) := by decide +kernel
theorem dX0_init_31 : decode cX0_init 31 = .ok (.newarray .int, 2) := by decide +kernel
theorem dX0_init_33 : decode cX0_init 33 = .ok (.putfield 21, 3) := by decide +kernel
theorem dX0_init_36 : decode cX0_init 36 = .ok (.aload_n 0, 1) := by decide +kernel
theorem dX0_init_37 : decode cX0_init 37 = .ok (.bipush 7, 2) := by decide +kernel
theorem dX0_init_39 : decode cX0_init 39 = .ok (.newarray .int, 2) := by decide +kernel
theorem dX0_init_41 : decode cX0_init 41 = .ok (.putfield 24, 3) := by decide +kernel
theorem dX0_init_44 : decode cX0_init 44 = .ok (.aload_n 0, 1) := by decide +kernel
theorem dX0_init_45 : decode cX0_init 45 = .ok (.bipush 6, 2) := by decide +kernel
theorem dX0_init_47 : decode cX0_init 47 = .ok (.newarray .int, 2) := by decide +kernel
theorem dX0_init_49 : decode cX0_init 49 = .ok (.putfield 27, 3) := by decide +kernel
theorem dX0_init_52 : decode cX0_init 52 = .ok (.aload_n 0, 1) := by decide +kernel
theorem dX0_init_53 : decode cX0_init 53 = .ok (.bipush 6, 2) := by decide +kernel
theorem dX0_init_55 : decode cX0_init 55 = .ok (.newarray .int, 2) := by decide +kernel
theorem dX0_init_57 : decode cX0_init 57 = .ok (.putfield 30, 3) := by decide +kernel
theorem dX0_init_60 : decode cX0_init 60 = .ok (.aload_n 0, 1) := by decide +kernel
theorem dX0_init_61 : decode cX0_init 61 = .ok (.bipush 6, 2) := by decide +kernel
theorem dX0_init_63 : decode cX0_init 63 = .ok (.newarray .int, 2) := by decide +kernel
theorem dX0_init_65 : decode cX0_init 65 = .ok (.putfield 33, 3) := by decide +kernel
theorem dX0_init_68 : decode cX0_init 68 = .ok (.aload_n 0, 1) := by decide +kernel
theorem dX0_init_69 : decode cX0_init 69 = .ok (.bipush 6, 2) := by decide +kernel
theorem dX0_init_71 : decode cX0_init 71 = .ok (.newarray .int, 2) := by decide +kernel
theorem dX0_init_73 : decode cX0_init 73 = .ok (.putfield 36, 3) := by decide +kernel
theorem dX0_init_76 : decode cX0_init 76 = .ok (.aload_n 0, 1) := by decide +kernel
theorem dX0_init_77 : decode cX0_init 77 = .ok (.bipush 6, 2) := by decide +kernel
theorem dX0_init_79 : decode cX0_init 79 = .ok (.newarray .int, 2) := by decide +kernel
theorem dX0_init_81 : decode cX0_init 81 = .ok (.putfield 39, 3) := by decide +kernel
theorem dX0_init_84 : decode cX0_init 84 = .ok (.aload_n 0, 1) := by decide +kernel
theorem dX0_init_85 : decode cX0_init 85 = .ok (.bipush 7, 2) := by decide +kernel
theorem dX0_init_87 : decode cX0_init 87 = .ok (.newarray .int, 2) := by decide +kernel
theorem dX0_init_89 : decode cX0_init 89 = .ok (.putfield 42, 3) := by decide +kernel
theorem dX0_init_92 : decode cX0_init 92 = .ok (.return_, 1) := by decide +kernel
theorem dX0_row_0 : decode cX0_row 0 = .ok (.iconst 4, 1) := by decide +kernel
theorem dX0_row_1 : decode cX0_row 1 = .ok (.iload_n 0, 1) := by decide +kernel
theorem dX0_row_2 : decode cX0_row 2 = .ok (.imul, 1) := by decide +kernel
theorem dX0_row_3 : decode cX0_row 3 = .ok (.iconst 2, 1) := by decide +kernel
theorem dX0_row_4 : decode cX0_row 4 = .ok (.iload_n 1, 1) := by decide +kernel
theorem dX0_row_5 : decode cX0_row 5 = .ok (.imul, 1) := by decide +kernel
theorem dX0_row_6 : decode cX0_row 6 = .ok (.iadd, 1) := by decide +kernel
theorem dX0_row_7 : decode cX0_row 7 = .ok (.iload_n 2, 1) := by decide +kernel
theorem dX0_row_8 : decode cX0_row 8 = .ok (.iadd, 1) := by decide +kernel
theorem dX0_row_9 : decode cX0_row 9 = .ok (.ireturn, 1) := by decide +kernel
theorem dX0_empty_0 : decode cX0_empty 0 = .ok (.aload_n 0, 1) := by decide +kernel
theorem dX0_empty_1 : decode cX0_empty 1 = .ok (.iconst 0, 1) := by decide +kernel
theorem dX0_empty_2 : decode cX0_empty 2 = .ok (.putfield 45, 3) := by decide +kernel
theorem dX0_empty_5 : decode cX0_empty 5 = .ok (.aload_n 0, 1) := by decide +kernel
theorem dX0_empty_6 : decode cX0_empty 6 = .ok (.iconst 0, 1) := by decide +kernel
theorem dX0_empty_7 : decode cX0_empty 7 = .ok (.putfield 49, 3) := by decide +kernel
theorem dX0_empty_10 : decode cX0_empty 10 = .ok (.aload_n 0, 1) := by decide +kernel
theorem dX0_empty_11 : decode cX0_empty 11 = .ok (.iconst 0, 1) := by decide +kernel
theorem dX0_empty_12 : decode cX0_empty 12 = .ok (.putfield 52, 3) := by decide +kernel
theorem dX0_empty_15 : decode cX0_empty 15 = .ok (.iconst 0, 1) := by decide +kernel
theorem dX0_empty_16 : decode cX0_empty 16 = .ok (.istore_n 1, 1) := by decide +kernel
theorem dX0_empty_17 : decode cX0_empty 17 = .ok (.iload_n 1, 1) := by decide +kernel
theorem dX0_empty_18 : decode cX0_empty 18 = .ok (.bipush 7, 2) := by decide +kernel
theorem dX0_empty_20 : decode cX0_empty 20 = .ok (.if_icmp .ge 16, 3) := by decide +kernel
theorem dX0_empty_23 : decode cX0_empty 23 = .ok (.aload_n 0, 1) := by decide +kernel
theorem dX0_empty_24 : decode cX0_empty 24 = .ok (.getfield 42, 3) := by decide +kernel
theorem dX0_empty_27 : decode cX0_empty 27 = .ok (.iload_n 1, 1) := by decide +kernel
theorem dX0_empty_28 : decode cX0_empty 28 = .ok (.iconst 0, 1) := by decide +kernel
theorem dX0_empty_29 : decode cX0_empty 29 = .ok (.iastore, 1) := by decide +kernel
theorem dX0_empty_30 : decode cX0_empty 30 = .ok (.iinc 1 1, 3) := by decide +kernel
theorem dX0_empty_33 : decode cX0_empty 33 = .ok (.goto (-16), 3) := by decide +kernel
theorem dX0_empty_36 : decode cX0_empty 36 = .ok (.return_, 1) := by decide +kernel
theorem dX0_become_0 : decode cX0_become 0 = .ok (.aload_n 0, 1) := by decide +kernel
theorem dX0_become_1 : decode cX0_become 1 = .ok (.aload_n 1, 1) := by decide +kernel
theorem dX0_become_2 : decode cX0_become 2 = .ok (.getfield 45, 3) := by decide +kernel
theorem dX0_become_5 : decode cX0_become 5 = .ok (.putfield 45, 3) := by decide +kernel
theorem dX0_become_8 : decode cX0_become 8 = .ok (.aload_n 0, 1) := by decide +kernel
theorem dX0_become_9 : decode cX0_become 9 = .ok (.aload_n 1, 1) := by decide +kernel
theorem dX0_become_10 : decode cX0_become 10 = .ok (.getfield 49, 3) := by decide +kernel
theorem dX0_become_13 : decode cX0_become 13 = .ok (.putfield 49, 3) := by decide +kernel
theorem dX0_become_16 : decode cX0_become 16 = .ok (.aload_n 0, 1) := by decide +kernel
theorem dX0_become_17 : decode cX0_become 17 = .ok (.aload_n 1, 1) := by decide +kernel
theorem dX0_become_18 : decode cX0_become 18 = .ok (.getfield 52, 3) := by decide +kernel
theorem dX0_become_21 : decode cX0_become 21 = .ok (.putfield 52, 3) := by decide +kernel
theorem dX0_become_24 : decode cX0_become 24 = .ok (.aload_n 1, 1) := by decide +kernel
theorem dX0_become_25 : decode cX0_become 25 = .ok (.getfield 9, 3) := by decide +kernel
theorem dX0_become_28 : decode cX0_become 28 = .ok (.iconst 0, 1) := by decide +kernel
theorem dX0_become_29 : decode cX0_become 29 = .ok (.aload_n 0, 1) := by decide +kernel
theorem dX0_become_30 : decode cX0_become 30 = .ok (.getfield 9, 3) := by decide +kernel
theorem dX0_become_33 : decode cX0_become 33 = .ok (.iconst 0, 1) := by decide +kernel
theorem dX0_become_34 : decode cX0_become 34 = .ok (.bipush 7, 2) := by decide +kernel
theorem dX0_become_36 : decode cX0_become 36 = .ok (.invokestatic 55, 3) := by decide +kernel
theorem dX0_become_39 : decode cX0_become 39 = .ok (.aload_n 1, 1) := by decide +kernel
theorem dX0_become_40 : decode cX0_become 40 = .ok (.getfield 15, 3) := by decide +kernel
theorem dX0_become_43 : decode cX0_become 43 = .ok (.iconst 0, 1) := by decide +kernel
theorem dX0_become_44 : decode cX0_become 44 = .ok (.aload_n 0, 1) := by decide +kernel
theorem dX0_become_45 : decode cX0_become 45 = .ok (.getfield 15, 3) := by decide +kernel
theorem dX0_become_48 : decode cX0_become 48 = .ok (.iconst 0, 1) := by decide +kernel
theorem dX0_become_49 : decode cX0_become 49 = .ok (.bipush 7, 2) := by decide +kernel
theorem dX0_become_51 : decode cX0_become 51 = .ok (.invokestatic 55, 3) := by decide +kernel
theorem dX0_become_54 : decode cX0_become 54 = .ok (.aload_n 1, 1) := by decide +kernel
theorem dX0_become_55 : decode cX0_become 55 = .ok (.getfield 18, 3) := by decide +kernel
theorem dX0_become_58 : decode cX0_become 58 = .ok (.iconst 0, 1) := by decide +kernel
theorem dX0_become_59 : decode cX0_become 59 = .ok (.aload_n 0, 1) := by decide +kernel
theorem dX0_become_60 : decode cX0_become 60 = .ok (.getfield 18, 3) := by decide +kernel
theorem dX0_become_63 : decode cX0_become 63 = .ok (.iconst 0, 1) := by decide +kernel
theorem dX0_become_64 : decode cX0_become 64 = .ok (.bipush 28, 2) := by decide +kernel
theorem dX0_become_66 : decode cX0_become 66 = .ok (.invokestatic 55, 3) := by decide +kernel
theorem dX0_become_69 : decode cX0_become 69 = .ok (.aload_n 1, 1) := by decide +kernel
theorem dX0_become_70 : decode cX0_become 70 = .ok (.getfield 21, 3) := by decide +kernel
theorem dX0_become_73 : decode cX0_become 73 = .ok (.iconst 0, 1) := by decide +kernel
theorem dX0_become_74 : decode cX0_become 74 = .ok (.aload_n 0, 1) := by decide +kernel
theorem dX0_become_75 : decode cX0_become 75 = .ok (.getfield 21, 3) := by decide +kernel
theorem dX0_become_78 : decode cX0_become 78 = .ok (.iconst 0, 1) := by decide +kernel
theorem dX0_become_79 : decode cX0_become 79 = .ok (.bipush 7, 2) := by decide +kernel
theorem dX0_become_81 : decode cX0_become 81 = .ok (.invokestatic 55, 3) := by decide +kernel
theorem dX0_become_84 : decode cX0_become 84 = .ok (.aload_n 1, 1) := by decide +kernel
theorem dX0_become_85 : decode cX0_become 85 = .ok (.getfield 24, 3) := by decide +kernel
theorem dX0_become_88 : decode cX0_become 88 = .ok (.iconst 0, 1) := by decide +kernel
theorem dX0_become_89 : decode cX0_become 89 = .ok (.aload_n 0, 1) := by decide +kernel
theorem dX0_become_90 : decode cX0_become 90 = .ok (.getfield 24, 3) := by decide +kernel
theorem dX0_become_93 : decode cX0_become 93 = .ok (.iconst 0, 1) := by decide +kernel
theorem dX0_become_94 : decode cX0_become 94 = .ok (.bipush 7, 2) := by decide +kernel
theorem dX0_become_96 : decode cX0_become 96 = .ok (.invokestatic 55, 3) := by decide +kernel
theorem dX0_become_99 : decode cX0_become 99 = .ok (.aload_n 1, 1) := by decide +kernel
theorem dX0_become_100 : decode cX0_become 100 = .ok (.getfield 27, 3) := by decide +kernel
theorem dX0_become_103 : decode cX0_become 103 = .ok (.iconst 0, 1) := by decide +kernel
theorem dX0_become_104 : decode cX0_become 104 = .ok (.aload_n 0, 1) := by decide +kernel
theorem dX0_become_105 : decode cX0_become 105 = .ok (.getfield 27, 3) := by decide +kernel
theorem dX0_become_108 : decode cX0_become 108 = .ok (.iconst 0, 1) := by decide +kernel
theorem dX0_become_109 : decode cX0_become 109 = .ok (.bipush 6, 2) := by decide +kernel
theorem dX0_become_111 : decode cX0_become 111 = .ok (.invokestatic 55, 3) := by decide +kernel
theorem dX0_become_114 : decode cX0_become 114 = .ok (.aload_n 1, 1) := by decide +kernel
theorem dX0_become_115 : decode cX0_become 115 = .ok (.getfield 30, 3) := by decide +kernel
theorem dX0_become_118 : decode cX0_become 118 = .ok (.iconst 0, 1) := by decide +kernel
theorem dX0_become_119 : decode cX0_become 119 = .ok (.aload_n 0, 1) := by decide +kernel
theorem dX0_become_120 : decode cX0_become 120 = .ok (.getfield 30, 3) := by decide +kernel
theorem dX0_become_123 : decode cX0_become 123 = .ok (.iconst 0, 1) := by decide +kernel
theorem dX0_become_124 : decode cX0_become 124 = .ok (.bipush 6, 2) := by decide +kernel
theorem dX0_become_126 : decode cX0_become 126 = .ok (.invokestatic 55, 3) := by decide +kernel
theorem dX0_become_129 : decode cX0_become 129 = .ok (.aload_n 1, 1) := by decide +kernel
theorem dX0_become_130 : decode cX0_become 130 = .ok (.getfield 33, 3) := by decide +kernel
theorem dX0_become_133 : decode cX0_become 133 = .ok (.iconst 0, 1) := by decide +kernel
theorem dX0_become_134 : decode cX0_become 134 = .ok (.aload_n 0, 1) := by decide +kernel
theorem dX0_become_135 : decode cX0_become 135 = .ok (.getfield 33, 3) := by decide +kernel
theorem dX0_become_138 : decode cX0_become 138 = .ok (.iconst 0, 1) := by decide +kernel
theorem dX0_become_139 : decode cX0_become 139 = .ok (.bipush 6, 2) := by decide +kernel
theorem dX0_become_141 : decode cX0_become 141 = .ok (.invokestatic 55, 3) := by decide +kernel
theorem dX0_become_144 : decode cX0_become 144 = .ok (.aload_n 1, 1) := by decide +kernel
theorem dX0_become_145 : decode cX0_become 145 = .ok (.getfield 36, 3) := by decide +kernel
theorem dX0_become_148 : decode cX0_become 148 = .ok (.iconst 0, 1) := by decide +kernel
theorem dX0_become_149 : decode cX0_become 149 = .ok (.aload_n 0, 1) := by decide +kernel
theorem dX0_become_150 : decode cX0_become 150 = .ok (.getfield 36, 3) := by decide +kernel
theorem dX0_become_153 : decode cX0_become 153 = .ok (.iconst 0, 1) := by decide +kernel
theorem dX0_become_154 : decode cX0_become 154 = .ok (.bipush 6, 2) := by decide +kernel
theorem dX0_become_156 : decode cX0_become 156 = .ok (.invokestatic 55, 3) := by decide +kernel
theorem dX0_become_159 : decode cX0_become 159 = .ok (.aload_n 1, 1) := by decide +kernel
theorem dX0_become_160 : decode cX0_become 160 = .ok (.getfield 39, 3) := by decide +kernel
theorem dX0_become_163 : decode cX0_become 163 = .ok (.iconst 0, 1) := by decide +kernel
theorem dX0_become_164 : decode cX0_become 164 = .ok (.aload_n 0, 1) := by decide +kernel
theorem dX0_become_165 : decode cX0_become 165 = .ok (.getfield 39, 3) := by decide +kernel
theorem dX0_become_168 : decode cX0_become 168 = .ok (.iconst 0, 1) := by decide +kernel
theorem dX0_become_169 : decode cX0_become 169 = .ok (.bipush 6, 2) := by decide +kernel
theorem dX0_become_171 : decode cX0_become 171 = .ok (.invokestatic 55, 3) := by decide +kernel
theorem dX0_become_174 : decode cX0_become 174 = .ok (.aload_n 1, 1) := by decide +kernel
theorem dX0_become_175 : decode cX0_become 175 = .ok (.getfield 42, 3) := by decide +kernel
theorem dX0_become_178 : decode cX0_become 178 = .ok (.iconst 0, 1) := by decide +kernel
theorem dX0_become_179 : decode cX0_become 179 = .ok (.aload_n 0, 1) := by decide +kernel
theorem dX0_become_180 : decode cX0_become 180 = .ok (.getfield 42, 3) := by decide +kernel
theorem dX0_become_183 : decode cX0_become 183 = .ok (.iconst 0, 1) := by decide +kernel
theorem dX0_become_184 : decode cX0_become 184 = .ok (.bipush 7, 2) := by decide +kernel
theorem dX0_become_186 : decode cX0_become 186 = .ok (.invokestatic 55, 3) := by decide +kernel
theorem dX0_become_189 : decode cX0_become 189 = .ok (.return_, 1) := by decide +kernel
theorem dX0_addRoof_0 : decode cX0_addRoof 0 = .ok (.aload_n 0, 1) := by decide +kernel
theorem dX0_addRoof_1 : decode cX0_addRoof 1 = .ok (.getfield 45, 3) := by decide +kernel
theorem dX0_addRoof_4 : decode cX0_addRoof 4 = .ok (.bipush 7, 2) := by decide +kernel
theorem dX0_addRoof_6 : decode cX0_addRoof 6 = .ok (.if_icmp .lt 6, 3) := by decide +kernel
theorem dX0_addRoof_9 : decode cX0_addRoof 9 = .ok (.bipush (-4), 2) := by decide +kernel
theorem dX0_addRoof_11 : decode cX0_addRoof 11 = .ok (.ireturn, 1) := by decide +kernel
theorem dX0_addRoof_12 : decode cX0_addRoof 12 = .ok (.aload_n 0, 1) := by decide +kernel
theorem dX0_addRoof_13 : decode cX0_addRoof 13 = .ok (.getfield 9, 3) := by decide +kernel
theorem dX0_addRoof_16 : decode cX0_addRoof 16 = .ok (.aload_n 0, 1) := by decide +kernel
theorem dX0_addRoof_17 : decode cX0_addRoof 17 = .ok (.getfield 45, 3) := by decide +kernel
theorem dX0_addRoof_20 : decode cX0_addRoof 20 = .ok (.iload_n 1, 1) := by decide +kernel
theorem dX0_addRoof_21 : decode cX0_addRoof 21 = .ok (.iastore, 1) := by decide +kernel
theorem dX0_addRoof_22 : decode cX0_addRoof 22 = .ok (.aload_n 0, 1) := by decide +kernel
theorem dX0_addRoof_23 : decode cX0_addRoof 23 = .ok (.getfield 15, 3) := by decide +kernel
theorem dX0_addRoof_26 : decode cX0_addRoof 26 = .ok (.aload_n 0, 1) := by decide +kernel
theorem dX0_addRoof_27 : decode cX0_addRoof 27 = .ok (.getfield 45, 3) := by decide +kernel
theorem dX0_addRoof_30 : decode cX0_addRoof 30 = .ok (.iload_n 2, 1) := by decide +kernel
theorem dX0_addRoof_31 : decode cX0_addRoof 31 = .ok (.iastore, 1) := by decide +kernel
theorem dX0_addRoof_32 : decode cX0_addRoof 32 = .ok (.aload_n 0, 1) := by decide +kernel
theorem dX0_addRoof_33 : decode cX0_addRoof 33 = .ok (.getfield 18, 3) := by decide +kernel
theorem dX0_addRoof_36 : decode cX0_addRoof 36 = .ok (.aload_n 0, 1) := by decide +kernel
theorem dX0_addRoof_37 : decode cX0_addRoof 37 = .ok (.getfield 45, 3) := by decide +kernel
theorem dX0_addRoof_40 : decode cX0_addRoof 40 = .ok (.iconst 0, 1) := by decide +kernel
theorem dX0_addRoof_41 : decode cX0_addRoof 41 = .ok (.iconst 0, 1) := by decide +kernel
theorem dX0_addRoof_42 : decode cX0_addRoof 42 = .ok (.invokestatic 61, 3) := by decide +kernel
theorem dX0_addRoof_45 : decode cX0_addRoof 45 = .ok (.iload_n 3, 1) := by decide +kernel
theorem dX0_addRoof_46 : decode cX0_addRoof 46 = .ok (.iastore, 1) := by decide +kernel
theorem dX0_addRoof_47 : decode cX0_addRoof 47 = .ok (.aload_n 0, 1) := by decide +kernel
theorem dX0_addRoof_48 : decode cX0_addRoof 48 = .ok (.getfield 18, 3) := by decide +kernel
theorem dX0_addRoof_51 : decode cX0_addRoof 51 = .ok (.aload_n 0, 1) := by decide +kernel
theorem dX0_addRoof_52 : decode cX0_addRoof 52 = .ok (.getfield 45, 3) := by decide +kernel
theorem dX0_addRoof_55 : decode cX0_addRoof 55 = .ok (.iconst 0, 1) := by decide +kernel
theorem dX0_addRoof_56 : decode cX0_addRoof 56 = .ok (.iconst 1, 1) := by decide +kernel
theorem dX0_addRoof_57 : decode cX0_addRoof 57 = .ok (.invokestatic 61, 3) := by decide +kernel
theorem dX0_addRoof_60 : decode cX0_addRoof 60 = .ok (.iload 4, 2) := by decide +kernel
theorem dX0_addRoof_62 : decode cX0_addRoof 62 = .ok (.iastore, 1) := by decide +kernel
theorem dX0_addRoof_63 : decode cX0_addRoof 63 = .ok (.aload_n 0, 1) := by decide +kernel
theorem dX0_addRoof_64 : decode cX0_addRoof 64 = .ok (.getfield 18, 3) := by decide +kernel
theorem dX0_addRoof_67 : decode cX0_addRoof 67 = .ok (.aload_n 0, 1) := by decide +kernel
theorem dX0_addRoof_68 : decode cX0_addRoof 68 = .ok (.getfield 45, 3) := by decide +kernel
theorem dX0_addRoof_71 : decode cX0_addRoof 71 = .ok (.iconst 1, 1) := by decide +kernel
theorem dX0_addRoof_72 : decode cX0_addRoof 72 = .ok (.iconst 0, 1) := by decide +kernel
theorem dX0_addRoof_73 : decode cX0_addRoof 73 = .ok (.invokestatic 61, 3) := by decide +kernel
theorem dX0_addRoof_76 : decode cX0_addRoof 76 = .ok (.iload 5, 2) := by decide +kernel
theorem dX0_addRoof_78 : decode cX0_addRoof 78 = .ok (.iastore, 1) := by decide +kernel
theorem dX0_addRoof_79 : decode cX0_addRoof 79 = .ok (.aload_n 0, 1) := by decide +kernel
theorem dX0_addRoof_80 : decode cX0_addRoof 80 = .ok (.getfield 18, 3) := by decide +kernel
theorem dX0_addRoof_83 : decode cX0_addRoof 83 = .ok (.aload_n 0, 1) := by decide +kernel
theorem dX0_addRoof_84 : decode cX0_addRoof 84 = .ok (.getfield 45, 3) := by decide +kernel
theorem dX0_addRoof_87 : decode cX0_addRoof 87 = .ok (.iconst 1, 1) := by decide +kernel
theorem dX0_addRoof_88 : decode cX0_addRoof 88 = .ok (.iconst 1, 1) := by decide +kernel
theorem dX0_addRoof_89 : decode cX0_addRoof 89 = .ok (.invokestatic 61, 3) := by decide +kernel
theorem dX0_addRoof_92 : decode cX0_addRoof 92 = .ok (.iload 6, 2) := by decide +kernel
theorem dX0_addRoof_94 : decode cX0_addRoof 94 = .ok (.iastore, 1) := by decide +kernel
theorem dX0_addRoof_95 : decode cX0_addRoof 95 = .ok (.aload_n 0, 1) := by decide +kernel
theorem dX0_addRoof_96 : decode cX0_addRoof 96 = .ok (.getfield 21, 3) := by decide +kernel
theorem dX0_addRoof_99 : decode cX0_addRoof 99 = .ok (.aload_n 0, 1) := by decide +kernel
theorem dX0_addRoof_100 : decode cX0_addRoof 100 = .ok (.getfield 45, 3) := by decide +kernel
theorem dX0_addRoof_103 : decode cX0_addRoof 103 = .ok (.iconst (-1), 1) := by decide +kernel
theorem dX0_addRoof_104 : decode cX0_addRoof 104 = .ok (.iastore, 1) := by decide +kernel
theorem dX0_addRoof_105 : decode cX0_addRoof 105 = .ok (.aload_n 0, 1) := by decide +kernel
theorem dX0_addRoof_106 : decode cX0_addRoof 106 = .ok (.getfield 24, 3) := by decide +kernel
theorem dX0_addRoof_109 : decode cX0_addRoof 109 = .ok (.aload_n 0, 1) := by decide +kernel
theorem dX0_addRoof_110 : decode cX0_addRoof 110 = .ok (.getfield 45, 3) := by decide +kernel
theorem dX0_addRoof_113 : decode cX0_addRoof 113 = .ok (.iconst (-1), 1) := by decide +kernel
theorem dX0_addRoof_114 : decode cX0_addRoof 114 = .ok (.iastore, 1) := by decide +kernel
theorem dX0_addRoof_115 : decode cX0_addRoof 115 = .ok (.aload_n 0, 1) := by decide +kernel
theorem dX0_addRoof_116 : decode cX0_addRoof 116 = .ok (.dup, 1) := by decide +kernel
theorem dX0_addRoof_117 : decode cX0_addRoof 117 = .ok (.getfield 45, 3) := by decide +kernel
theorem dX0_addRoof_120 : decode cX0_addRoof 120 = .ok (.dup_x1, 1) := by decide +kernel
theorem dX0_addRoof_121 : decode cX0_addRoof 121 = .ok (.iconst 1, 1) := by decide +kernel
theorem dX0_addRoof_122 : decode cX0_addRoof 122 = .ok (.iadd, 1) := by decide +kernel
theorem dX0_addRoof_123 : decode cX0_addRoof 123 = .ok (.putfield 45, 3) := by decide +kernel
theorem dX0_addRoof_126 : decode cX0_addRoof 126 = .ok (.ireturn, 1) := by decide +kernel
theorem dX0_addStorm_0 : decode cX0_addStorm 0 = .ok (.aload_n 0, 1) := by decide +kernel
theorem dX0_addStorm_1 : decode cX0_addStorm 1 = .ok (.getfield 49, 3) := by decide +kernel
theorem dX0_addStorm_4 : decode cX0_addStorm 4 = .ok (.bipush 6, 2) := by decide +kernel
theorem dX0_addStorm_6 : decode cX0_addStorm 6 = .ok (.if_icmp .lt 6, 3) := by decide +kernel
theorem dX0_addStorm_9 : decode cX0_addStorm 9 = .ok (.bipush (-4), 2) := by decide +kernel
theorem dX0_addStorm_11 : decode cX0_addStorm 11 = .ok (.ireturn, 1) := by decide +kernel
theorem dX0_addStorm_12 : decode cX0_addStorm 12 = .ok (.aload_n 0, 1) := by decide +kernel
theorem dX0_addStorm_13 : decode cX0_addStorm 13 = .ok (.getfield 27, 3) := by decide +kernel
theorem dX0_addStorm_16 : decode cX0_addStorm 16 = .ok (.aload_n 0, 1) := by decide +kernel
theorem dX0_addStorm_17 : decode cX0_addStorm 17 = .ok (.getfield 49, 3) := by decide +kernel
theorem dX0_addStorm_20 : decode cX0_addStorm 20 = .ok (.iload_n 1, 1) := by decide +kernel
theorem dX0_addStorm_21 : decode cX0_addStorm 21 = .ok (.iastore, 1) := by decide +kernel
theorem dX0_addStorm_22 : decode cX0_addStorm 22 = .ok (.aload_n 0, 1) := by decide +kernel
theorem dX0_addStorm_23 : decode cX0_addStorm 23 = .ok (.getfield 30, 3) := by decide +kernel
theorem dX0_addStorm_26 : decode cX0_addStorm 26 = .ok (.aload_n 0, 1) := by decide +kernel
theorem dX0_addStorm_27 : decode cX0_addStorm 27 = .ok (.getfield 49, 3) := by decide +kernel
theorem dX0_addStorm_30 : decode cX0_addStorm 30 = .ok (.iload_n 2, 1) := by decide +kernel
theorem dX0_addStorm_31 : decode cX0_addStorm 31 = .ok (.iastore, 1) := by decide +kernel
theorem dX0_addStorm_32 : decode cX0_addStorm 32 = .ok (.aload_n 0, 1) := by decide +kernel
theorem dX0_addStorm_33 : decode cX0_addStorm 33 = .ok (.getfield 33, 3) := by decide +kernel
theorem dX0_addStorm_36 : decode cX0_addStorm 36 = .ok (.aload_n 0, 1) := by decide +kernel
theorem dX0_addStorm_37 : decode cX0_addStorm 37 = .ok (.getfield 49, 3) := by decide +kernel
theorem dX0_addStorm_40 : decode cX0_addStorm 40 = .ok (.iload_n 3, 1) := by decide +kernel
theorem dX0_addStorm_41 : decode cX0_addStorm 41 = .ok (.iastore, 1) := by decide +kernel
theorem dX0_addStorm_42 : decode cX0_addStorm 42 = .ok (.aload_n 0, 1) := by decide +kernel
theorem dX0_addStorm_43 : decode cX0_addStorm 43 = .ok (.getfield 36, 3) := by decide +kernel
theorem dX0_addStorm_46 : decode cX0_addStorm 46 = .ok (.aload_n 0, 1) := by decide +kernel
theorem dX0_addStorm_47 : decode cX0_addStorm 47 = .ok (.getfield 49, 3) := by decide +kernel
theorem dX0_addStorm_50 : decode cX0_addStorm 50 = .ok (.iload 4, 2) := by decide +kernel
theorem dX0_addStorm_52 : decode cX0_addStorm 52 = .ok (.iastore, 1) := by decide +kernel
theorem dX0_addStorm_53 : decode cX0_addStorm 53 = .ok (.aload_n 0, 1) := by decide +kernel
theorem dX0_addStorm_54 : decode cX0_addStorm 54 = .ok (.getfield 39, 3) := by decide +kernel
theorem dX0_addStorm_57 : decode cX0_addStorm 57 = .ok (.aload_n 0, 1) := by decide +kernel
theorem dX0_addStorm_58 : decode cX0_addStorm 58 = .ok (.getfield 49, 3) := by decide +kernel
theorem dX0_addStorm_61 : decode cX0_addStorm 61 = .ok (.iload 5, 2) := by decide +kernel
theorem dX0_addStorm_63 : decode cX0_addStorm 63 = .ok (.iastore, 1) := by decide +kernel
theorem dX0_addStorm_64 : decode cX0_addStorm 64 = .ok (.aload_n 0, 1) := by decide +kernel
theorem dX0_addStorm_65 : decode cX0_addStorm 65 = .ok (.dup, 1) := by decide +kernel
theorem dX0_addStorm_66 : decode cX0_addStorm 66 = .ok (.getfield 49, 3) := by decide +kernel
theorem dX0_addStorm_69 : decode cX0_addStorm 69 = .ok (.dup_x1, 1) := by decide +kernel
theorem dX0_addStorm_70 : decode cX0_addStorm 70 = .ok (.iconst 1, 1) := by decide +kernel
theorem dX0_addStorm_71 : decode cX0_addStorm 71 = .ok (.iadd, 1) := by decide +kernel
theorem dX0_addStorm_72 : decode cX0_addStorm 72 = .ok (.putfield 49, 3) := by decide +kernel
theorem dX0_addStorm_75 : decode cX0_addStorm 75 = .ok (.ireturn, 1) := by decide +kernel
theorem dX0_allGuns_0 : decode cX0_allGuns 0 = .ok (.iconst 0, 1) := by decide +kernel
theorem dX0_allGuns_1 : decode cX0_allGuns 1 = .ok (.istore_n 1, 1) := by decide +kernel
theorem dX0_allGuns_2 : decode cX0_allGuns 2 = .ok (.iconst 0, 1) := by decide +kernel
theorem dX0_allGuns_3 : decode cX0_allGuns 3 = .ok (.istore_n 2, 1) := by decide +kernel
theorem dX0_allGuns_4 : decode cX0_allGuns 4 = .ok (.iload_n 2, 1) := by decide +kernel
theorem dX0_allGuns_5 : decode cX0_allGuns 5 = .ok (.bipush 7, 2) := by decide +kernel
theorem dX0_allGuns_7 : decode cX0_allGuns 7 = .ok (.if_icmp .ge 18, 3) := by decide +kernel
theorem dX0_allGuns_10 : decode cX0_allGuns 10 = .ok (.iload_n 1, 1) := by decide +kernel
theorem dX0_allGuns_11 : decode cX0_allGuns 11 = .ok (.aload_n 0, 1) := by decide +kernel
theorem dX0_allGuns_12 : decode cX0_allGuns 12 = .ok (.getfield 42, 3) := by decide +kernel
theorem dX0_allGuns_15 : decode cX0_allGuns 15 = .ok (.iload_n 2, 1) := by decide +kernel
theorem dX0_allGuns_16 : decode cX0_allGuns 16 = .ok (.iaload, 1) := by decide +kernel
theorem dX0_allGuns_17 : decode cX0_allGuns 17 = .ok (.iadd, 1) := by decide +kernel
theorem dX0_allGuns_18 : decode cX0_allGuns 18 = .ok (.istore_n 1, 1) := by decide +kernel
theorem dX0_allGuns_19 : decode cX0_allGuns 19 = .ok (.iinc 2 1, 3) := by decide +kernel
theorem dX0_allGuns_22 : decode cX0_allGuns 22 = .ok (.goto (-18), 3) := by decide +kernel
theorem dX0_allGuns_25 : decode cX0_allGuns 25 = .ok (.iload_n 1, 1) := by decide +kernel
theorem dX0_allGuns_26 : decode cX0_allGuns 26 = .ok (.ireturn, 1) := by decide +kernel
theorem dX0_forceOn_0 : decode cX0_forceOn 0 = .ok (.iload_n 2, 1) := by decide +kernel
theorem dX0_forceOn_1 : decode cX0_forceOn 1 = .ok (.aload_n 0, 1) := by decide +kernel
theorem dX0_forceOn_2 : decode cX0_forceOn 2 = .ok (.getfield 27, 3) := by decide +kernel
theorem dX0_forceOn_5 : decode cX0_forceOn 5 = .ok (.iload_n 1, 1) := by decide +kernel
theorem dX0_forceOn_6 : decode cX0_forceOn 6 = .ok (.iaload, 1) := by decide +kernel
theorem dX0_forceOn_7 : decode cX0_forceOn 7 = .ok (.if_icmp .lt 13, 3) := by decide +kernel
theorem dX0_forceOn_10 : decode cX0_forceOn 10 = .ok (.iload_n 2, 1) := by decide +kernel
theorem dX0_forceOn_11 : decode cX0_forceOn 11 = .ok (.aload_n 0, 1) := by decide +kernel
theorem dX0_forceOn_12 : decode cX0_forceOn 12 = .ok (.getfield 30, 3) := by decide +kernel
theorem dX0_forceOn_15 : decode cX0_forceOn 15 = .ok (.iload_n 1, 1) := by decide +kernel
theorem dX0_forceOn_16 : decode cX0_forceOn 16 = .ok (.iaload, 1) := by decide +kernel
theorem dX0_forceOn_17 : decode cX0_forceOn 17 = .ok (.if_icmp .le 5, 3) := by decide +kernel
theorem dX0_forceOn_20 : decode cX0_forceOn 20 = .ok (.iconst 0, 1) := by decide +kernel
theorem dX0_forceOn_21 : decode cX0_forceOn 21 = .ok (.ireturn, 1) := by decide +kernel
theorem dX0_forceOn_22 : decode cX0_forceOn 22 = .ok (.iload_n 3, 1) := by decide +kernel
theorem dX0_forceOn_23 : decode cX0_forceOn 23 = .ok (.aload_n 0, 1) := by decide +kernel
theorem dX0_forceOn_24 : decode cX0_forceOn 24 = .ok (.getfield 33, 3) := by decide +kernel
theorem dX0_forceOn_27 : decode cX0_forceOn 27 = .ok (.iload_n 1, 1) := by decide +kernel
theorem dX0_forceOn_28 : decode cX0_forceOn 28 = .ok (.iaload, 1) := by decide +kernel
theorem dX0_forceOn_29 : decode cX0_forceOn 29 = .ok (.if_icmp .ne 12, 3) := by decide +kernel
theorem dX0_forceOn_32 : decode cX0_forceOn 32 = .ok (.aload_n 0, 1) := by decide +kernel
theorem dX0_forceOn_33 : decode cX0_forceOn 33 = .ok (.getfield 36, 3) := by decide +kernel
theorem dX0_forceOn_36 : decode cX0_forceOn 36 = .ok (.iload_n 1, 1) := by decide +kernel
theorem dX0_forceOn_37 : decode cX0_forceOn 37 = .ok (.iaload, 1) := by decide +kernel
theorem dX0_forceOn_38 : decode cX0_forceOn 38 = .ok (.goto 11, 3) := by decide +kernel
theorem dX0_forceOn_41 : decode cX0_forceOn 41 = .ok (.aload_n 0, 1) := by decide +kernel
theorem dX0_forceOn_42 : decode cX0_forceOn 42 = .ok (.getfield 36, 3) := by decide +kernel
theorem dX0_forceOn_45 : decode cX0_forceOn 45 = .ok (.iload_n 1, 1) := by decide +kernel
theorem dX0_forceOn_46 : decode cX0_forceOn 46 = .ok (.iaload, 1) := by decide +kernel
theorem dX0_forceOn_47 : decode cX0_forceOn 47 = .ok (.iconst 2, 1) := by decide +kernel
theorem dX0_forceOn_48 : decode cX0_forceOn 48 = .ok (.idiv, 1) := by decide +kernel
theorem dX0_forceOn_49 : decode cX0_forceOn 49 = .ok (.istore 4, 2) := by decide +kernel
theorem dX0_forceOn_51 : decode cX0_forceOn 51 = .ok (.iload_n 2, 1) := by decide +kernel
theorem dX0_forceOn_52 : decode cX0_forceOn 52 = .ok (.ifCond .le 14, 3) := by decide +kernel
theorem dX0_forceOn_55 : decode cX0_forceOn 55 = .ok (.aload_n 0, 1) := by decide +kernel
theorem dX0_forceOn_56 : decode cX0_forceOn 56 = .ok (.getfield 42, 3) := by decide +kernel
theorem dX0_forceOn_59 : decode cX0_forceOn 59 = .ok (.iload_n 2, 1) := by decide +kernel
theorem dX0_forceOn_60 : decode cX0_forceOn 60 = .ok (.iconst 1, 1) := by decide +kernel
theorem dX0_forceOn_61 : decode cX0_forceOn 61 = .ok (.isub, 1) := by decide +kernel
theorem dX0_forceOn_62 : decode cX0_forceOn 62 = .ok (.iaload, 1) := by decide +kernel
theorem dX0_forceOn_63 : decode cX0_forceOn 63 = .ok (.goto 4, 3) := by decide +kernel
theorem dX0_forceOn_66 : decode cX0_forceOn 66 = .ok (.iconst 0, 1) := by decide +kernel
theorem dX0_forceOn_67 : decode cX0_forceOn 67 = .ok (.istore 5, 2) := by decide +kernel
theorem dX0_forceOn_69 : decode cX0_forceOn 69 = .ok (.iload_n 2, 1) := by decide +kernel
theorem dX0_forceOn_70 : decode cX0_forceOn 70 = .ok (.bipush 6, 2) := by decide +kernel
theorem dX0_forceOn_72 : decode cX0_forceOn 72 = .ok (.if_icmp .ge 14, 3) := by decide +kernel
theorem dX0_forceOn_75 : decode cX0_forceOn 75 = .ok (.aload_n 0, 1) := by decide +kernel
theorem dX0_forceOn_76 : decode cX0_forceOn 76 = .ok (.getfield 42, 3) := by decide +kernel
theorem dX0_forceOn_79 : decode cX0_forceOn 79 = .ok (.iload_n 2, 1) := by decide +kernel
theorem dX0_forceOn_80 : decode cX0_forceOn 80 = .ok (.iconst 1, 1) := by decide +kernel
theorem dX0_forceOn_81 : decode cX0_forceOn 81 = .ok (.iadd, 1) := by decide +kernel
theorem dX0_forceOn_82 : decode cX0_forceOn 82 = .ok (.iaload, 1) := by decide +kernel
theorem dX0_forceOn_83 : decode cX0_forceOn 83 = .ok (.goto 4, 3) := by decide +kernel
theorem dX0_forceOn_86 : decode cX0_forceOn 86 = .ok (.iconst 0, 1) := by decide +kernel
theorem dX0_forceOn_87 : decode cX0_forceOn 87 = .ok (.istore 6, 2) := by decide +kernel
theorem dX0_forceOn_89 : decode cX0_forceOn 89 = .ok (.iload 4, 2) := by decide +kernel
theorem dX0_forceOn_91 : decode cX0_forceOn 91 = .ok (.iconst 2, 1) := by decide +kernel
theorem dX0_forceOn_92 : decode cX0_forceOn 92 = .ok (.aload_n 0, 1) := by decide +kernel
theorem dX0_forceOn_93 : decode cX0_forceOn 93 = .ok (.getfield 42, 3) := by decide +kernel
theorem dX0_forceOn_96 : decode cX0_forceOn 96 = .ok (.iload_n 2, 1) := by decide +kernel
theorem dX0_forceOn_97 : decode cX0_forceOn 97 = .ok (.iaload, 1) := by decide +kernel
theorem dX0_forceOn_98 : decode cX0_forceOn 98 = .ok (.imul, 1) := by decide +kernel
theorem dX0_forceOn_99 : decode cX0_forceOn 99 = .ok (.isub, 1) := by decide +kernel
theorem dX0_forceOn_100 : decode cX0_forceOn 100 = .ok (.iload 5, 2) := by decide +kernel
theorem dX0_forceOn_102 : decode cX0_forceOn 102 = .ok (.isub, 1) := by decide +kernel
theorem dX0_forceOn_103 : decode cX0_forceOn 103 = .ok (.iload 6, 2) := by decide +kernel
theorem dX0_forceOn_105 : decode cX0_forceOn 105 = .ok (.isub, 1) := by decide +kernel
theorem dX0_forceOn_106 : decode cX0_forceOn 106 = .ok (.istore 7, 2) := by decide +kernel
theorem dX0_forceOn_108 : decode cX0_forceOn 108 = .ok (.iload 7, 2) := by decide +kernel
theorem dX0_forceOn_110 : decode cX0_forceOn 110 = .ok (.ifCond .le 8, 3) := by decide +kernel
theorem dX0_forceOn_113 : decode cX0_forceOn 113 = .ok (.iload 7, 2) := by decide +kernel
theorem dX0_forceOn_115 : decode cX0_forceOn 115 = .ok (.goto 4, 3) := by decide +kernel
theorem dX0_forceOn_118 : decode cX0_forceOn 118 = .ok (.iconst 0, 1) := by decide +kernel
theorem dX0_forceOn_119 : decode cX0_forceOn 119 = .ok (.ireturn, 1) := by decide +kernel
theorem dX0_toll_0 : decode cX0_toll 0 = .ok (.aload_n 0, 1) := by decide +kernel
theorem dX0_toll_1 : decode cX0_toll 1 = .ok (.iload_n 1, 1) := by decide +kernel
theorem dX0_toll_2 : decode cX0_toll 2 = .ok (.iload_n 2, 1) := by decide +kernel
theorem dX0_toll_3 : decode cX0_toll 3 = .ok (.iload_n 3, 1) := by decide +kernel
theorem dX0_toll_4 : decode cX0_toll 4 = .ok (.invokevirtual 65, 3) := by decide +kernel
theorem dX0_toll_7 : decode cX0_toll 7 = .ok (.istore 4, 2) := by decide +kernel
theorem dX0_toll_9 : decode cX0_toll 9 = .ok (.iload 4, 2) := by decide +kernel
theorem dX0_toll_11 : decode cX0_toll 11 = .ok (.ifCond .ne 5, 3) := by decide +kernel
theorem dX0_toll_14 : decode cX0_toll 14 = .ok (.iconst 0, 1) := by decide +kernel
theorem dX0_toll_15 : decode cX0_toll 15 = .ok (.ireturn, 1) := by decide +kernel
theorem dX0_toll_16 : decode cX0_toll 16 = .ok (.aload_n 0, 1) := by decide +kernel
theorem dX0_toll_17 : decode cX0_toll 17 = .ok (.getfield 9, 3) := by decide +kernel
theorem dX0_toll_20 : decode cX0_toll 20 = .ok (.iload_n 2, 1) := by decide +kernel
theorem dX0_toll_21 : decode cX0_toll 21 = .ok (.iaload, 1) := by decide +kernel
theorem dX0_toll_22 : decode cX0_toll 22 = .ok (.tableswitch 78 1 5 #[34, 44, 49, 60, 76], 34) := by decide +kernel
theorem dX0_toll_56 : decode cX0_toll 56 = .ok (.iload 4, 2) := by decide +kernel
theorem dX0_toll_58 : decode cX0_toll 58 = .ok (.aload_n 0, 1) := by decide +kernel
theorem dX0_toll_59 : decode cX0_toll 59 = .ok (.getfield 15, 3) := by decide +kernel
theorem dX0_toll_62 : decode cX0_toll 62 = .ok (.iload_n 2, 1) := by decide +kernel
theorem dX0_toll_63 : decode cX0_toll 63 = .ok (.iaload, 1) := by decide +kernel
theorem dX0_toll_64 : decode cX0_toll 64 = .ok (.iadd, 1) := by decide +kernel
theorem dX0_toll_65 : decode cX0_toll 65 = .ok (.ireturn, 1) := by decide +kernel
theorem dX0_toll_66 : decode cX0_toll 66 = .ok (.iload 4, 2) := by decide +kernel
theorem dX0_toll_68 : decode cX0_toll 68 = .ok (.iconst 2, 1) := by decide +kernel
theorem dX0_toll_69 : decode cX0_toll 69 = .ok (.idiv, 1) := by decide +kernel
theorem dX0_toll_70 : decode cX0_toll 70 = .ok (.ireturn, 1) := by decide +kernel
theorem dX0_toll_71 : decode cX0_toll 71 = .ok (.iconst 0, 1) := by decide +kernel
theorem dX0_toll_72 : decode cX0_toll 72 = .ok (.iload 4, 2) := by decide +kernel
theorem dX0_toll_74 : decode cX0_toll 74 = .ok (.iconst 2, 1) := by decide +kernel
theorem dX0_toll_75 : decode cX0_toll 75 = .ok (.idiv, 1) := by decide +kernel
theorem dX0_toll_76 : decode cX0_toll 76 = .ok (.iconst 1, 1) := by decide +kernel
theorem dX0_toll_77 : decode cX0_toll 77 = .ok (.isub, 1) := by decide +kernel
theorem dX0_toll_78 : decode cX0_toll 78 = .ok (.invokestatic 68, 3) := by decide +kernel
theorem dX0_toll_81 : decode cX0_toll 81 = .ok (.ireturn, 1) := by decide +kernel
theorem dX0_toll_82 : decode cX0_toll 82 = .ok (.iconst 0, 1) := by decide +kernel
theorem dX0_toll_83 : decode cX0_toll 83 = .ok (.iload 4, 2) := by decide +kernel
theorem dX0_toll_85 : decode cX0_toll 85 = .ok (.aload_n 0, 1) := by decide +kernel
theorem dX0_toll_86 : decode cX0_toll 86 = .ok (.getfield 15, 3) := by decide +kernel
theorem dX0_toll_89 : decode cX0_toll 89 = .ok (.iload_n 2, 1) := by decide +kernel
theorem dX0_toll_90 : decode cX0_toll 90 = .ok (.iaload, 1) := by decide +kernel
theorem dX0_toll_91 : decode cX0_toll 91 = .ok (.iadd, 1) := by decide +kernel
theorem dX0_toll_92 : decode cX0_toll 92 = .ok (.iconst 3, 1) := by decide +kernel
theorem dX0_toll_93 : decode cX0_toll 93 = .ok (.isub, 1) := by decide +kernel
theorem dX0_toll_94 : decode cX0_toll 94 = .ok (.invokestatic 68, 3) := by decide +kernel
theorem dX0_toll_97 : decode cX0_toll 97 = .ok (.ireturn, 1) := by decide +kernel
theorem dX0_toll_98 : decode cX0_toll 98 = .ok (.iconst 0, 1) := by decide +kernel
theorem dX0_toll_99 : decode cX0_toll 99 = .ok (.ireturn, 1) := by decide +kernel
theorem dX0_toll_100 : decode cX0_toll 100 = .ok (.iload 4, 2) := by decide +kernel
theorem dX0_toll_102 : decode cX0_toll 102 = .ok (.ireturn, 1) := by decide +kernel
theorem dX0_brokenOf_0 : decode cX0_brokenOf 0 = .ok (.aload_n 0, 1) := by decide +kernel
theorem dX0_brokenOf_1 : decode cX0_brokenOf 1 = .ok (.iload_n 1, 1) := by decide +kernel
theorem dX0_brokenOf_2 : decode cX0_brokenOf 2 = .ok (.iload_n 2, 1) := by decide +kernel
theorem dX0_brokenOf_3 : decode cX0_brokenOf 3 = .ok (.iconst 0, 1) := by decide +kernel
theorem dX0_brokenOf_4 : decode cX0_brokenOf 4 = .ok (.invokevirtual 74, 3) := by decide +kernel
theorem dX0_brokenOf_7 : decode cX0_brokenOf 7 = .ok (.aload_n 0, 1) := by decide +kernel
theorem dX0_brokenOf_8 : decode cX0_brokenOf 8 = .ok (.getfield 18, 3) := by decide +kernel
theorem dX0_brokenOf_11 : decode cX0_brokenOf 11 = .ok (.iload_n 2, 1) := by decide +kernel
theorem dX0_brokenOf_12 : decode cX0_brokenOf 12 = .ok (.iconst 0, 1) := by decide +kernel
theorem dX0_brokenOf_13 : decode cX0_brokenOf 13 = .ok (.iload_n 3, 1) := by decide +kernel
theorem dX0_brokenOf_14 : decode cX0_brokenOf 14 = .ok (.invokestatic 61, 3) := by decide +kernel
theorem dX0_brokenOf_17 : decode cX0_brokenOf 17 = .ok (.iaload, 1) := by decide +kernel
theorem dX0_brokenOf_18 : decode cX0_brokenOf 18 = .ok (.invokestatic 77, 3) := by decide +kernel
theorem dX0_brokenOf_21 : decode cX0_brokenOf 21 = .ok (.aload_n 0, 1) := by decide +kernel
theorem dX0_brokenOf_22 : decode cX0_brokenOf 22 = .ok (.iload_n 1, 1) := by decide +kernel
theorem dX0_brokenOf_23 : decode cX0_brokenOf 23 = .ok (.iload_n 2, 1) := by decide +kernel
theorem dX0_brokenOf_24 : decode cX0_brokenOf 24 = .ok (.iconst 1, 1) := by decide +kernel
theorem dX0_brokenOf_25 : decode cX0_brokenOf 25 = .ok (.invokevirtual 74, 3) := by decide +kernel
theorem dX0_brokenOf_28 : decode cX0_brokenOf 28 = .ok (.aload_n 0, 1) := by decide +kernel
theorem dX0_brokenOf_29 : decode cX0_brokenOf 29 = .ok (.getfield 18, 3) := by decide +kernel
theorem dX0_brokenOf_32 : decode cX0_brokenOf 32 = .ok (.iload_n 2, 1) := by decide +kernel
theorem dX0_brokenOf_33 : decode cX0_brokenOf 33 = .ok (.iconst 1, 1) := by decide +kernel
theorem dX0_brokenOf_34 : decode cX0_brokenOf 34 = .ok (.iload_n 3, 1) := by decide +kernel
theorem dX0_brokenOf_35 : decode cX0_brokenOf 35 = .ok (.invokestatic 61, 3) := by decide +kernel
theorem dX0_brokenOf_38 : decode cX0_brokenOf 38 = .ok (.iaload, 1) := by decide +kernel
theorem dX0_brokenOf_39 : decode cX0_brokenOf 39 = .ok (.invokestatic 77, 3) := by decide +kernel
theorem dX0_brokenOf_42 : decode cX0_brokenOf 42 = .ok (.iadd, 1) := by decide +kernel
theorem dX0_brokenOf_43 : decode cX0_brokenOf 43 = .ok (.ireturn, 1) := by decide +kernel
theorem dX0_brokenInAll_0 : decode cX0_brokenInAll 0 = .ok (.iconst 0, 1) := by decide +kernel
theorem dX0_brokenInAll_1 : decode cX0_brokenInAll 1 = .ok (.istore_n 3, 1) := by decide +kernel
theorem dX0_brokenInAll_2 : decode cX0_brokenInAll 2 = .ok (.iconst 0, 1) := by decide +kernel
theorem dX0_brokenInAll_3 : decode cX0_brokenInAll 3 = .ok (.istore 4, 2) := by decide +kernel
theorem dX0_brokenInAll_5 : decode cX0_brokenInAll 5 = .ok (.iload 4, 2) := by decide +kernel
theorem dX0_brokenInAll_7 : decode cX0_brokenInAll 7 = .ok (.aload_n 0, 1) := by decide +kernel
theorem dX0_brokenInAll_8 : decode cX0_brokenInAll 8 = .ok (.getfield 45, 3) := by decide +kernel
theorem dX0_brokenInAll_11 : decode cX0_brokenInAll 11 = .ok (.if_icmp .ge 20, 3) := by decide +kernel
theorem dX0_brokenInAll_14 : decode cX0_brokenInAll 14 = .ok (.iload_n 3, 1) := by decide +kernel
theorem dX0_brokenInAll_15 : decode cX0_brokenInAll 15 = .ok (.aload_n 0, 1) := by decide +kernel
theorem dX0_brokenInAll_16 : decode cX0_brokenInAll 16 = .ok (.iload_n 1, 1) := by decide +kernel
theorem dX0_brokenInAll_17 : decode cX0_brokenInAll 17 = .ok (.iload 4, 2) := by decide +kernel
theorem dX0_brokenInAll_19 : decode cX0_brokenInAll 19 = .ok (.iload_n 2, 1) := by decide +kernel
theorem dX0_brokenInAll_20 : decode cX0_brokenInAll 20 = .ok (.invokevirtual 80, 3) := by decide +kernel
theorem dX0_brokenInAll_23 : decode cX0_brokenInAll 23 = .ok (.iadd, 1) := by decide +kernel
theorem dX0_brokenInAll_24 : decode cX0_brokenInAll 24 = .ok (.istore_n 3, 1) := by decide +kernel
theorem dX0_brokenInAll_25 : decode cX0_brokenInAll 25 = .ok (.iinc 4 1, 3) := by decide +kernel
theorem dX0_brokenInAll_28 : decode cX0_brokenInAll 28 = .ok (.goto (-23), 3) := by decide +kernel
theorem dX0_brokenInAll_31 : decode cX0_brokenInAll 31 = .ok (.iload_n 3, 1) := by decide +kernel
theorem dX0_brokenInAll_32 : decode cX0_brokenInAll 32 = .ok (.ireturn, 1) := by decide +kernel
theorem dX0_lead_0 : decode cX0_lead 0 = .ok (.iconst 0, 1) := by decide +kernel
theorem dX0_lead_1 : decode cX0_lead 1 = .ok (.istore_n 2, 1) := by decide +kernel
theorem dX0_lead_2 : decode cX0_lead 2 = .ok (.iconst 0, 1) := by decide +kernel
theorem dX0_lead_3 : decode cX0_lead 3 = .ok (.istore_n 3, 1) := by decide +kernel
theorem dX0_lead_4 : decode cX0_lead 4 = .ok (.iload_n 3, 1) := by decide +kernel
theorem dX0_lead_5 : decode cX0_lead 5 = .ok (.aload_n 0, 1) := by decide +kernel
theorem dX0_lead_6 : decode cX0_lead 6 = .ok (.getfield 45, 3) := by decide +kernel
theorem dX0_lead_9 : decode cX0_lead 9 = .ok (.if_icmp .ge 27, 3) := by decide +kernel
theorem dX0_lead_12 : decode cX0_lead 12 = .ok (.iload_n 2, 1) := by decide +kernel
theorem dX0_lead_13 : decode cX0_lead 13 = .ok (.aload_n 0, 1) := by decide +kernel
theorem dX0_lead_14 : decode cX0_lead 14 = .ok (.iload_n 1, 1) := by decide +kernel
theorem dX0_lead_15 : decode cX0_lead 15 = .ok (.iload_n 3, 1) := by decide +kernel
theorem dX0_lead_16 : decode cX0_lead 16 = .ok (.iconst 0, 1) := by decide +kernel
theorem dX0_lead_17 : decode cX0_lead 17 = .ok (.invokevirtual 80, 3) := by decide +kernel
theorem dX0_lead_20 : decode cX0_lead 20 = .ok (.aload_n 0, 1) := by decide +kernel
theorem dX0_lead_21 : decode cX0_lead 21 = .ok (.iload_n 1, 1) := by decide +kernel
theorem dX0_lead_22 : decode cX0_lead 22 = .ok (.iload_n 3, 1) := by decide +kernel
theorem dX0_lead_23 : decode cX0_lead 23 = .ok (.iconst 1, 1) := by decide +kernel
theorem dX0_lead_24 : decode cX0_lead 24 = .ok (.invokevirtual 80, 3) := by decide +kernel
theorem dX0_lead_27 : decode cX0_lead 27 = .ok (.isub, 1) := by decide +kernel
theorem dX0_lead_28 : decode cX0_lead 28 = .ok (.iadd, 1) := by decide +kernel
theorem dX0_lead_29 : decode cX0_lead 29 = .ok (.istore_n 2, 1) := by decide +kernel
theorem dX0_lead_30 : decode cX0_lead 30 = .ok (.iinc 3 1, 3) := by decide +kernel
theorem dX0_lead_33 : decode cX0_lead 33 = .ok (.goto (-29), 3) := by decide +kernel
theorem dX0_lead_36 : decode cX0_lead 36 = .ok (.iload_n 2, 1) := by decide +kernel
theorem dX0_lead_37 : decode cX0_lead 37 = .ok (.ireturn, 1) := by decide +kernel
theorem dX0_winnerBy_0 : decode cX0_winnerBy 0 = .ok (.iload_n 0, 1) := by decide +kernel
theorem dX0_winnerBy_1 : decode cX0_winnerBy 1 = .ok (.ifCond .ne 5, 3) := by decide +kernel
theorem dX0_winnerBy_4 : decode cX0_winnerBy 4 = .ok (.iconst (-1), 1) := by decide +kernel
theorem dX0_winnerBy_5 : decode cX0_winnerBy 5 = .ok (.ireturn, 1) := by decide +kernel
theorem dX0_winnerBy_6 : decode cX0_winnerBy 6 = .ok (.iload_n 0, 1) := by decide +kernel
theorem dX0_winnerBy_7 : decode cX0_winnerBy 7 = .ok (.ifCond .le 7, 3) := by decide +kernel
theorem dX0_winnerBy_10 : decode cX0_winnerBy 10 = .ok (.iconst 1, 1) := by decide +kernel
theorem dX0_winnerBy_11 : decode cX0_winnerBy 11 = .ok (.goto 4, 3) := by decide +kernel
theorem dX0_winnerBy_14 : decode cX0_winnerBy 14 = .ok (.iconst 0, 1) := by decide +kernel
theorem dX0_winnerBy_15 : decode cX0_winnerBy 15 = .ok (.ireturn, 1) := by decide +kernel
theorem dX0_isDecidedBy_0 : decode cX0_isDecidedBy 0 = .ok (.aload_n 0, 1) := by decide +kernel
theorem dX0_isDecidedBy_1 : decode cX0_isDecidedBy 1 = .ok (.iload_n 1, 1) := by decide +kernel
theorem dX0_isDecidedBy_2 : decode cX0_isDecidedBy 2 = .ok (.invokevirtual 83, 3) := by decide +kernel
theorem dX0_isDecidedBy_5 : decode cX0_isDecidedBy 5 = .ok (.istore_n 3, 1) := by decide +kernel
theorem dX0_isDecidedBy_6 : decode cX0_isDecidedBy 6 = .ok (.iload_n 3, 1) := by decide +kernel
theorem dX0_isDecidedBy_7 : decode cX0_isDecidedBy 7 = .ok (.aload_n 0, 1) := by decide +kernel
theorem dX0_isDecidedBy_8 : decode cX0_isDecidedBy 8 = .ok (.iload_n 1, 1) := by decide +kernel
theorem dX0_isDecidedBy_9 : decode cX0_isDecidedBy 9 = .ok (.iload_n 2, 1) := by decide +kernel
theorem dX0_isDecidedBy_10 : decode cX0_isDecidedBy 10 = .ok (.iconst 0, 1) := by decide +kernel
theorem dX0_isDecidedBy_11 : decode cX0_isDecidedBy 11 = .ok (.invokevirtual 80, 3) := by decide +kernel
theorem dX0_isDecidedBy_14 : decode cX0_isDecidedBy 14 = .ok (.isub, 1) := by decide +kernel
theorem dX0_isDecidedBy_15 : decode cX0_isDecidedBy 15 = .ok (.aload_n 0, 1) := by decide +kernel
theorem dX0_isDecidedBy_16 : decode cX0_isDecidedBy 16 = .ok (.iload_n 1, 1) := by decide +kernel
theorem dX0_isDecidedBy_17 : decode cX0_isDecidedBy 17 = .ok (.iload_n 2, 1) := by decide +kernel
theorem dX0_isDecidedBy_18 : decode cX0_isDecidedBy 18 = .ok (.iconst 1, 1) := by decide +kernel
theorem dX0_isDecidedBy_19 : decode cX0_isDecidedBy 19 = .ok (.invokevirtual 80, 3) := by decide +kernel
theorem dX0_isDecidedBy_22 : decode cX0_isDecidedBy 22 = .ok (.iadd, 1) := by decide +kernel
theorem dX0_isDecidedBy_23 : decode cX0_isDecidedBy 23 = .ok (.istore 4, 2) := by decide +kernel
theorem dX0_isDecidedBy_25 : decode cX0_isDecidedBy 25 = .ok (.iload_n 3, 1) := by decide +kernel
theorem dX0_isDecidedBy_26 : decode cX0_isDecidedBy 26 = .ok (.invokestatic 87, 3) := by decide +kernel
theorem dX0_isDecidedBy_29 : decode cX0_isDecidedBy 29 = .ok (.iload 4, 2) := by decide +kernel
theorem dX0_isDecidedBy_31 : decode cX0_isDecidedBy 31 = .ok (.invokestatic 87, 3) := by decide +kernel
theorem dX0_isDecidedBy_34 : decode cX0_isDecidedBy 34 = .ok (.if_icmp .eq 7, 3) := by decide +kernel
theorem dX0_isDecidedBy_37 : decode cX0_isDecidedBy 37 = .ok (.iconst 1, 1) := by decide +kernel
theorem dX0_isDecidedBy_38 : decode cX0_isDecidedBy 38 = .ok (.goto 4, 3) := by decide +kernel
theorem dX0_isDecidedBy_41 : decode cX0_isDecidedBy 41 = .ok (.iconst 0, 1) := by decide +kernel
theorem dX0_isDecidedBy_42 : decode cX0_isDecidedBy 42 = .ok (.ireturn, 1) := by decide +kernel
theorem dX0_allChances_0 : decode cX0_allChances 0 = .ok (.iconst 0, 1) := by decide +kernel
theorem dX0_allChances_1 : decode cX0_allChances 1 = .ok (.istore_n 1, 1) := by decide +kernel
theorem dX0_allChances_2 : decode cX0_allChances 2 = .ok (.iconst 0, 1) := by decide +kernel
theorem dX0_allChances_3 : decode cX0_allChances 3 = .ok (.istore_n 2, 1) := by decide +kernel
theorem dX0_allChances_4 : decode cX0_allChances 4 = .ok (.iload_n 2, 1) := by decide +kernel
theorem dX0_allChances_5 : decode cX0_allChances 5 = .ok (.aload_n 0, 1) := by decide +kernel
theorem dX0_allChances_6 : decode cX0_allChances 6 = .ok (.getfield 49, 3) := by decide +kernel
theorem dX0_allChances_9 : decode cX0_allChances 9 = .ok (.if_icmp .ge 18, 3) := by decide +kernel
theorem dX0_allChances_12 : decode cX0_allChances 12 = .ok (.iload_n 1, 1) := by decide +kernel
theorem dX0_allChances_13 : decode cX0_allChances 13 = .ok (.aload_n 0, 1) := by decide +kernel
theorem dX0_allChances_14 : decode cX0_allChances 14 = .ok (.getfield 39, 3) := by decide +kernel
theorem dX0_allChances_17 : decode cX0_allChances 17 = .ok (.iload_n 2, 1) := by decide +kernel
theorem dX0_allChances_18 : decode cX0_allChances 18 = .ok (.iaload, 1) := by decide +kernel
theorem dX0_allChances_19 : decode cX0_allChances 19 = .ok (.iadd, 1) := by decide +kernel
theorem dX0_allChances_20 : decode cX0_allChances 20 = .ok (.istore_n 1, 1) := by decide +kernel
theorem dX0_allChances_21 : decode cX0_allChances 21 = .ok (.iinc 2 1, 3) := by decide +kernel
theorem dX0_allChances_24 : decode cX0_allChances 24 = .ok (.goto (-20), 3) := by decide +kernel
theorem dX0_allChances_27 : decode cX0_allChances 27 = .ok (.iload_n 1, 1) := by decide +kernel
theorem dX0_allChances_28 : decode cX0_allChances 28 = .ok (.ireturn, 1) := by decide +kernel
theorem dX0_chancesOf_0 : decode cX0_chancesOf 0 = .ok (.iconst 0, 1) := by decide +kernel
theorem dX0_chancesOf_1 : decode cX0_chancesOf 1 = .ok (.istore_n 2, 1) := by decide +kernel
theorem dX0_chancesOf_2 : decode cX0_chancesOf 2 = .ok (.iconst 0, 1) := by decide +kernel
theorem dX0_chancesOf_3 : decode cX0_chancesOf 3 = .ok (.istore_n 3, 1) := by decide +kernel
theorem dX0_chancesOf_4 : decode cX0_chancesOf 4 = .ok (.iload_n 3, 1) := by decide +kernel
theorem dX0_chancesOf_5 : decode cX0_chancesOf 5 = .ok (.aload_n 0, 1) := by decide +kernel
theorem dX0_chancesOf_6 : decode cX0_chancesOf 6 = .ok (.getfield 49, 3) := by decide +kernel
theorem dX0_chancesOf_9 : decode cX0_chancesOf 9 = .ok (.if_icmp .ge 30, 3) := by decide +kernel
theorem dX0_chancesOf_12 : decode cX0_chancesOf 12 = .ok (.aload_n 0, 1) := by decide +kernel
theorem dX0_chancesOf_13 : decode cX0_chancesOf 13 = .ok (.iload_n 3, 1) := by decide +kernel
theorem dX0_chancesOf_14 : decode cX0_chancesOf 14 = .ok (.invokevirtual 83, 3) := by decide +kernel
theorem dX0_chancesOf_17 : decode cX0_chancesOf 17 = .ok (.invokestatic 87, 3) := by decide +kernel
theorem dX0_chancesOf_20 : decode cX0_chancesOf 20 = .ok (.iload_n 1, 1) := by decide +kernel
theorem dX0_chancesOf_21 : decode cX0_chancesOf 21 = .ok (.if_icmp .ne 12, 3) := by decide +kernel
theorem dX0_chancesOf_24 : decode cX0_chancesOf 24 = .ok (.iload_n 2, 1) := by decide +kernel
theorem dX0_chancesOf_25 : decode cX0_chancesOf 25 = .ok (.aload_n 0, 1) := by decide +kernel
theorem dX0_chancesOf_26 : decode cX0_chancesOf 26 = .ok (.getfield 39, 3) := by decide +kernel
theorem dX0_chancesOf_29 : decode cX0_chancesOf 29 = .ok (.iload_n 3, 1) := by decide +kernel
theorem dX0_chancesOf_30 : decode cX0_chancesOf 30 = .ok (.iaload, 1) := by decide +kernel
theorem dX0_chancesOf_31 : decode cX0_chancesOf 31 = .ok (.iadd, 1) := by decide +kernel
theorem dX0_chancesOf_32 : decode cX0_chancesOf 32 = .ok (.istore_n 2, 1) := by decide +kernel
theorem dX0_chancesOf_33 : decode cX0_chancesOf 33 = .ok (.iinc 3 1, 3) := by decide +kernel
theorem dX0_chancesOf_36 : decode cX0_chancesOf 36 = .ok (.goto (-32), 3) := by decide +kernel
theorem dX0_chancesOf_39 : decode cX0_chancesOf 39 = .ok (.iload_n 2, 1) := by decide +kernel
theorem dX0_chancesOf_40 : decode cX0_chancesOf 40 = .ok (.ireturn, 1) := by decide +kernel
theorem dX0_chancesWithGun_0 : decode cX0_chancesWithGun 0 = .ok (.aload_n 0, 1) := by decide +kernel
theorem dX0_chancesWithGun_1 : decode cX0_chancesWithGun 1 = .ok (.getfield 42, 3) := by decide +kernel
theorem dX0_chancesWithGun_4 : decode cX0_chancesWithGun 4 = .ok (.iload_n 1, 1) := by decide +kernel
theorem dX0_chancesWithGun_5 : decode cX0_chancesWithGun 5 = .ok (.iconst 1, 1) := by decide +kernel
theorem dX0_chancesWithGun_6 : decode cX0_chancesWithGun 6 = .ok (.iastore, 1) := by decide +kernel
theorem dX0_chancesWithGun_7 : decode cX0_chancesWithGun 7 = .ok (.aload_n 0, 1) := by decide +kernel
theorem dX0_chancesWithGun_8 : decode cX0_chancesWithGun 8 = .ok (.iload_n 2, 1) := by decide +kernel
theorem dX0_chancesWithGun_9 : decode cX0_chancesWithGun 9 = .ok (.invokevirtual 90, 3) := by decide +kernel
theorem dX0_chancesWithGun_12 : decode cX0_chancesWithGun 12 = .ok (.istore_n 3, 1) := by decide +kernel
theorem dX0_chancesWithGun_13 : decode cX0_chancesWithGun 13 = .ok (.aload_n 0, 1) := by decide +kernel
theorem dX0_chancesWithGun_14 : decode cX0_chancesWithGun 14 = .ok (.getfield 42, 3) := by decide +kernel
theorem dX0_chancesWithGun_17 : decode cX0_chancesWithGun 17 = .ok (.iload_n 1, 1) := by decide +kernel
theorem dX0_chancesWithGun_18 : decode cX0_chancesWithGun 18 = .ok (.iconst 0, 1) := by decide +kernel
theorem dX0_chancesWithGun_19 : decode cX0_chancesWithGun 19 = .ok (.iastore, 1) := by decide +kernel
theorem dX0_chancesWithGun_20 : decode cX0_chancesWithGun 20 = .ok (.iload_n 3, 1) := by decide +kernel
theorem dX0_chancesWithGun_21 : decode cX0_chancesWithGun 21 = .ok (.ireturn, 1) := by decide +kernel
theorem dX0_edgeOfBlue_0 : decode cX0_edgeOfBlue 0 = .ok (.iconst 0, 1) := by decide +kernel
theorem dX0_edgeOfBlue_1 : decode cX0_edgeOfBlue 1 = .ok (.istore_n 1, 1) := by decide +kernel
theorem dX0_edgeOfBlue_2 : decode cX0_edgeOfBlue 2 = .ok (.iconst 0, 1) := by decide +kernel
theorem dX0_edgeOfBlue_3 : decode cX0_edgeOfBlue 3 = .ok (.istore_n 2, 1) := by decide +kernel
theorem dX0_edgeOfBlue_4 : decode cX0_edgeOfBlue 4 = .ok (.iload_n 2, 1) := by decide +kernel
theorem dX0_edgeOfBlue_5 : decode cX0_edgeOfBlue 5 = .ok (.aload_n 0, 1) := by decide +kernel
theorem dX0_edgeOfBlue_6 : decode cX0_edgeOfBlue 6 = .ok (.getfield 49, 3) := by decide +kernel
theorem dX0_edgeOfBlue_9 : decode cX0_edgeOfBlue 9 = .ok (.if_icmp .ge 44, 3) := by decide +kernel
theorem dX0_edgeOfBlue_12 : decode cX0_edgeOfBlue 12 = .ok (.aload_n 0, 1) := by decide +kernel
theorem dX0_edgeOfBlue_13 : decode cX0_edgeOfBlue 13 = .ok (.iload_n 2, 1) := by decide +kernel
theorem dX0_edgeOfBlue_14 : decode cX0_edgeOfBlue 14 = .ok (.invokevirtual 83, 3) := by decide +kernel
theorem dX0_edgeOfBlue_17 : decode cX0_edgeOfBlue 17 = .ok (.istore_n 3, 1) := by decide +kernel
theorem dX0_edgeOfBlue_18 : decode cX0_edgeOfBlue 18 = .ok (.iload_n 3, 1) := by decide +kernel
theorem dX0_edgeOfBlue_19 : decode cX0_edgeOfBlue 19 = .ok (.ifCond .ge 15, 3) := by decide +kernel
theorem dX0_edgeOfBlue_22 : decode cX0_edgeOfBlue 22 = .ok (.iload_n 1, 1) := by decide +kernel
theorem dX0_edgeOfBlue_23 : decode cX0_edgeOfBlue 23 = .ok (.aload_n 0, 1) := by decide +kernel
theorem dX0_edgeOfBlue_24 : decode cX0_edgeOfBlue 24 = .ok (.getfield 39, 3) := by decide +kernel
theorem dX0_edgeOfBlue_27 : decode cX0_edgeOfBlue 27 = .ok (.iload_n 2, 1) := by decide +kernel
theorem dX0_edgeOfBlue_28 : decode cX0_edgeOfBlue 28 = .ok (.iaload, 1) := by decide +kernel
theorem dX0_edgeOfBlue_29 : decode cX0_edgeOfBlue 29 = .ok (.iadd, 1) := by decide +kernel
theorem dX0_edgeOfBlue_30 : decode cX0_edgeOfBlue 30 = .ok (.istore_n 1, 1) := by decide +kernel
theorem dX0_edgeOfBlue_31 : decode cX0_edgeOfBlue 31 = .ok (.goto 16, 3) := by decide +kernel
theorem dX0_edgeOfBlue_34 : decode cX0_edgeOfBlue 34 = .ok (.iload_n 3, 1) := by decide +kernel
theorem dX0_edgeOfBlue_35 : decode cX0_edgeOfBlue 35 = .ok (.ifCond .le 12, 3) := by decide +kernel
theorem dX0_edgeOfBlue_38 : decode cX0_edgeOfBlue 38 = .ok (.iload_n 1, 1) := by decide +kernel
theorem dX0_edgeOfBlue_39 : decode cX0_edgeOfBlue 39 = .ok (.aload_n 0, 1) := by decide +kernel
theorem dX0_edgeOfBlue_40 : decode cX0_edgeOfBlue 40 = .ok (.getfield 39, 3) := by decide +kernel
theorem dX0_edgeOfBlue_43 : decode cX0_edgeOfBlue 43 = .ok (.iload_n 2, 1) := by decide +kernel
theorem dX0_edgeOfBlue_44 : decode cX0_edgeOfBlue 44 = .ok (.iaload, 1) := by decide +kernel
theorem dX0_edgeOfBlue_45 : decode cX0_edgeOfBlue 45 = .ok (.isub, 1) := by decide +kernel
theorem dX0_edgeOfBlue_46 : decode cX0_edgeOfBlue 46 = .ok (.istore_n 1, 1) := by decide +kernel
theorem dX0_edgeOfBlue_47 : decode cX0_edgeOfBlue 47 = .ok (.iinc 2 1, 3) := by decide +kernel
theorem dX0_edgeOfBlue_50 : decode cX0_edgeOfBlue 50 = .ok (.goto (-46), 3) := by decide +kernel
theorem dX0_edgeOfBlue_53 : decode cX0_edgeOfBlue 53 = .ok (.iload_n 1, 1) := by decide +kernel
theorem dX0_edgeOfBlue_54 : decode cX0_edgeOfBlue 54 = .ok (.ireturn, 1) := by decide +kernel
theorem dX0_keepsEdge_0 : decode cX0_keepsEdge 0 = .ok (.iconst 0, 1) := by decide +kernel
theorem dX0_keepsEdge_1 : decode cX0_keepsEdge 1 = .ok (.iload_n 1, 1) := by decide +kernel
theorem dX0_keepsEdge_2 : decode cX0_keepsEdge 2 = .ok (.iconst 0, 1) := by decide +kernel
theorem dX0_keepsEdge_3 : decode cX0_keepsEdge 3 = .ok (.invokestatic 61, 3) := by decide +kernel
theorem dX0_keepsEdge_6 : decode cX0_keepsEdge 6 = .ok (.istore_n 3, 1) := by decide +kernel
theorem dX0_keepsEdge_7 : decode cX0_keepsEdge 7 = .ok (.iconst 0, 1) := by decide +kernel
theorem dX0_keepsEdge_8 : decode cX0_keepsEdge 8 = .ok (.iload_n 1, 1) := by decide +kernel
theorem dX0_keepsEdge_9 : decode cX0_keepsEdge 9 = .ok (.iconst 1, 1) := by decide +kernel
theorem dX0_keepsEdge_10 : decode cX0_keepsEdge 10 = .ok (.invokestatic 61, 3) := by decide +kernel
theorem dX0_keepsEdge_13 : decode cX0_keepsEdge 13 = .ok (.istore 4, 2) := by decide +kernel
theorem dX0_keepsEdge_15 : decode cX0_keepsEdge 15 = .ok (.aload_n 0, 1) := by decide +kernel
theorem dX0_keepsEdge_16 : decode cX0_keepsEdge 16 = .ok (.getfield 18, 3) := by decide +kernel
theorem dX0_keepsEdge_19 : decode cX0_keepsEdge 19 = .ok (.iload 4, 2) := by decide +kernel
theorem dX0_keepsEdge_21 : decode cX0_keepsEdge 21 = .ok (.iaload, 1) := by decide +kernel
theorem dX0_keepsEdge_22 : decode cX0_keepsEdge 22 = .ok (.ifCond .ne 5, 3) := by decide +kernel
theorem dX0_keepsEdge_25 : decode cX0_keepsEdge 25 = .ok (.iconst 0, 1) := by decide +kernel
theorem dX0_keepsEdge_26 : decode cX0_keepsEdge 26 = .ok (.ireturn, 1) := by decide +kernel
theorem dX0_keepsEdge_27 : decode cX0_keepsEdge 27 = .ok (.aload_n 0, 1) := by decide +kernel
theorem dX0_keepsEdge_28 : decode cX0_keepsEdge 28 = .ok (.getfield 18, 3) := by decide +kernel
theorem dX0_keepsEdge_31 : decode cX0_keepsEdge 31 = .ok (.iload 4, 2) := by decide +kernel
theorem dX0_keepsEdge_33 : decode cX0_keepsEdge 33 = .ok (.dup2, 1) := by decide +kernel
theorem dX0_keepsEdge_34 : decode cX0_keepsEdge 34 = .ok (.iaload, 1) := by decide +kernel
theorem dX0_keepsEdge_35 : decode cX0_keepsEdge 35 = .ok (.iconst 1, 1) := by decide +kernel
theorem dX0_keepsEdge_36 : decode cX0_keepsEdge 36 = .ok (.isub, 1) := by decide +kernel
theorem dX0_keepsEdge_37 : decode cX0_keepsEdge 37 = .ok (.iastore, 1) := by decide +kernel
theorem dX0_keepsEdge_38 : decode cX0_keepsEdge 38 = .ok (.aload_n 0, 1) := by decide +kernel
theorem dX0_keepsEdge_39 : decode cX0_keepsEdge 39 = .ok (.getfield 18, 3) := by decide +kernel
theorem dX0_keepsEdge_42 : decode cX0_keepsEdge 42 = .ok (.iload_n 3, 1) := by decide +kernel
theorem dX0_keepsEdge_43 : decode cX0_keepsEdge 43 = .ok (.dup2, 1) := by decide +kernel
theorem dX0_keepsEdge_44 : decode cX0_keepsEdge 44 = .ok (.iaload, 1) := by decide +kernel
theorem dX0_keepsEdge_45 : decode cX0_keepsEdge 45 = .ok (.iconst 1, 1) := by decide +kernel
theorem dX0_keepsEdge_46 : decode cX0_keepsEdge 46 = .ok (.iadd, 1) := by decide +kernel
theorem dX0_keepsEdge_47 : decode cX0_keepsEdge 47 = .ok (.iastore, 1) := by decide +kernel
theorem dX0_keepsEdge_48 : decode cX0_keepsEdge 48 = .ok (.aload_n 0, 1) := by decide +kernel
theorem dX0_keepsEdge_49 : decode cX0_keepsEdge 49 = .ok (.invokevirtual 93, 3) := by decide +kernel
theorem dX0_keepsEdge_52 : decode cX0_keepsEdge 52 = .ok (.iload_n 2, 1) := by decide +kernel
theorem dX0_keepsEdge_53 : decode cX0_keepsEdge 53 = .ok (.if_icmp .ne 7, 3) := by decide +kernel
theorem dX0_keepsEdge_56 : decode cX0_keepsEdge 56 = .ok (.iconst 1, 1) := by decide +kernel
theorem dX0_keepsEdge_57 : decode cX0_keepsEdge 57 = .ok (.goto 4, 3) := by decide +kernel
theorem dX0_keepsEdge_60 : decode cX0_keepsEdge 60 = .ok (.iconst 0, 1) := by decide +kernel
theorem dX0_keepsEdge_61 : decode cX0_keepsEdge 61 = .ok (.istore 5, 2) := by decide +kernel
theorem dX0_keepsEdge_63 : decode cX0_keepsEdge 63 = .ok (.aload_n 0, 1) := by decide +kernel
theorem dX0_keepsEdge_64 : decode cX0_keepsEdge 64 = .ok (.getfield 18, 3) := by decide +kernel
theorem dX0_keepsEdge_67 : decode cX0_keepsEdge 67 = .ok (.iload_n 3, 1) := by decide +kernel
theorem dX0_keepsEdge_68 : decode cX0_keepsEdge 68 = .ok (.dup2, 1) := by decide +kernel
theorem dX0_keepsEdge_69 : decode cX0_keepsEdge 69 = .ok (.iaload, 1) := by decide +kernel
theorem dX0_keepsEdge_70 : decode cX0_keepsEdge 70 = .ok (.iconst 1, 1) := by decide +kernel
theorem dX0_keepsEdge_71 : decode cX0_keepsEdge 71 = .ok (.isub, 1) := by decide +kernel
theorem dX0_keepsEdge_72 : decode cX0_keepsEdge 72 = .ok (.iastore, 1) := by decide +kernel
theorem dX0_keepsEdge_73 : decode cX0_keepsEdge 73 = .ok (.aload_n 0, 1) := by decide +kernel
theorem dX0_keepsEdge_74 : decode cX0_keepsEdge 74 = .ok (.getfield 18, 3) := by decide +kernel
theorem dX0_keepsEdge_77 : decode cX0_keepsEdge 77 = .ok (.iload 4, 2) := by decide +kernel
theorem dX0_keepsEdge_79 : decode cX0_keepsEdge 79 = .ok (.dup2, 1) := by decide +kernel
theorem dX0_keepsEdge_80 : decode cX0_keepsEdge 80 = .ok (.iaload, 1) := by decide +kernel
theorem dX0_keepsEdge_81 : decode cX0_keepsEdge 81 = .ok (.iconst 1, 1) := by decide +kernel
theorem dX0_keepsEdge_82 : decode cX0_keepsEdge 82 = .ok (.iadd, 1) := by decide +kernel
theorem dX0_keepsEdge_83 : decode cX0_keepsEdge 83 = .ok (.iastore, 1) := by decide +kernel
theorem dX0_keepsEdge_84 : decode cX0_keepsEdge 84 = .ok (.iload 5, 2) := by decide +kernel
theorem dX0_keepsEdge_86 : decode cX0_keepsEdge 86 = .ok (.ireturn, 1) := by decide +kernel
theorem dX0_isTold_0 : decode cX0_isTold 0 = .ok (.aload_n 0, 1) := by decide +kernel
theorem dX0_isTold_1 : decode cX0_isTold 1 = .ok (.getfield 21, 3) := by decide +kernel
theorem dX0_isTold_4 : decode cX0_isTold 4 = .ok (.iload_n 1, 1) := by decide +kernel
theorem dX0_isTold_5 : decode cX0_isTold 5 = .ok (.iaload, 1) := by decide +kernel
theorem dX0_isTold_6 : decode cX0_isTold 6 = .ok (.iconst (-1), 1) := by decide +kernel
theorem dX0_isTold_7 : decode cX0_isTold 7 = .ok (.if_icmp .eq 7, 3) := by decide +kernel
theorem dX0_isTold_10 : decode cX0_isTold 10 = .ok (.iconst 1, 1) := by decide +kernel
theorem dX0_isTold_11 : decode cX0_isTold 11 = .ok (.goto 4, 3) := by decide +kernel
theorem dX0_isTold_14 : decode cX0_isTold 14 = .ok (.iconst 0, 1) := by decide +kernel
theorem dX0_isTold_15 : decode cX0_isTold 15 = .ok (.ireturn, 1) := by decide +kernel
theorem dX0_breaksAsTold_0 : decode cX0_breaksAsTold 0 = .ok (.aload_n 0, 1) := by decide +kernel
theorem dX0_breaksAsTold_1 : decode cX0_breaksAsTold 1 = .ok (.iload_n 1, 1) := by decide +kernel
theorem dX0_breaksAsTold_2 : decode cX0_breaksAsTold 2 = .ok (.iload_n 2, 1) := by decide +kernel
theorem dX0_breaksAsTold_3 : decode cX0_breaksAsTold 3 = .ok (.iconst 0, 1) := by decide +kernel
theorem dX0_breaksAsTold_4 : decode cX0_breaksAsTold 4 = .ok (.invokevirtual 80, 3) := by decide +kernel
theorem dX0_breaksAsTold_7 : decode cX0_breaksAsTold 7 = .ok (.aload_n 0, 1) := by decide +kernel
theorem dX0_breaksAsTold_8 : decode cX0_breaksAsTold 8 = .ok (.getfield 21, 3) := by decide +kernel
theorem dX0_breaksAsTold_11 : decode cX0_breaksAsTold 11 = .ok (.iload_n 2, 1) := by decide +kernel
theorem dX0_breaksAsTold_12 : decode cX0_breaksAsTold 12 = .ok (.iaload, 1) := by decide +kernel
theorem dX0_breaksAsTold_13 : decode cX0_breaksAsTold 13 = .ok (.if_icmp .ne 23, 3) := by decide +kernel
theorem dX0_breaksAsTold_16 : decode cX0_breaksAsTold 16 = .ok (.aload_n 0, 1) := by decide +kernel
theorem dX0_breaksAsTold_17 : decode cX0_breaksAsTold 17 = .ok (.iload_n 1, 1) := by decide +kernel
theorem dX0_breaksAsTold_18 : decode cX0_breaksAsTold 18 = .ok (.iload_n 2, 1) := by decide +kernel
theorem dX0_breaksAsTold_19 : decode cX0_breaksAsTold 19 = .ok (.iconst 1, 1) := by decide +kernel
theorem dX0_breaksAsTold_20 : decode cX0_breaksAsTold 20 = .ok (.invokevirtual 80, 3) := by decide +kernel
theorem dX0_breaksAsTold_23 : decode cX0_breaksAsTold 23 = .ok (.aload_n 0, 1) := by decide +kernel
theorem dX0_breaksAsTold_24 : decode cX0_breaksAsTold 24 = .ok (.getfield 24, 3) := by decide +kernel
theorem dX0_breaksAsTold_27 : decode cX0_breaksAsTold 27 = .ok (.iload_n 2, 1) := by decide +kernel
theorem dX0_breaksAsTold_28 : decode cX0_breaksAsTold 28 = .ok (.iaload, 1) := by decide +kernel
theorem dX0_breaksAsTold_29 : decode cX0_breaksAsTold 29 = .ok (.if_icmp .ne 7, 3) := by decide +kernel
theorem dX0_breaksAsTold_32 : decode cX0_breaksAsTold 32 = .ok (.iconst 1, 1) := by decide +kernel
theorem dX0_breaksAsTold_33 : decode cX0_breaksAsTold 33 = .ok (.goto 4, 3) := by decide +kernel
theorem dX0_breaksAsTold_36 : decode cX0_breaksAsTold 36 = .ok (.iconst 0, 1) := by decide +kernel
theorem dX0_breaksAsTold_37 : decode cX0_breaksAsTold 37 = .ok (.ireturn, 1) := by decide +kernel
theorem dX0_stormsThatFit_0 : decode cX0_stormsThatFit 0 = .ok (.iconst 0, 1) := by decide +kernel
theorem dX0_stormsThatFit_1 : decode cX0_stormsThatFit 1 = .ok (.istore_n 1, 1) := by decide +kernel
theorem dX0_stormsThatFit_2 : decode cX0_stormsThatFit 2 = .ok (.iconst 0, 1) := by decide +kernel
theorem dX0_stormsThatFit_3 : decode cX0_stormsThatFit 3 = .ok (.istore_n 2, 1) := by decide +kernel
theorem dX0_stormsThatFit_4 : decode cX0_stormsThatFit 4 = .ok (.iload_n 2, 1) := by decide +kernel
theorem dX0_stormsThatFit_5 : decode cX0_stormsThatFit 5 = .ok (.aload_n 0, 1) := by decide +kernel
theorem dX0_stormsThatFit_6 : decode cX0_stormsThatFit 6 = .ok (.getfield 49, 3) := by decide +kernel
theorem dX0_stormsThatFit_9 : decode cX0_stormsThatFit 9 = .ok (.if_icmp .ge 68, 3) := by decide +kernel
theorem dX0_stormsThatFit_12 : decode cX0_stormsThatFit 12 = .ok (.iconst 1, 1) := by decide +kernel
theorem dX0_stormsThatFit_13 : decode cX0_stormsThatFit 13 = .ok (.istore_n 3, 1) := by decide +kernel
theorem dX0_stormsThatFit_14 : decode cX0_stormsThatFit 14 = .ok (.iconst 0, 1) := by decide +kernel
theorem dX0_stormsThatFit_15 : decode cX0_stormsThatFit 15 = .ok (.istore 4, 2) := by decide +kernel
theorem dX0_stormsThatFit_17 : decode cX0_stormsThatFit 17 = .ok (.iload 4, 2) := by decide +kernel
theorem dX0_stormsThatFit_19 : decode cX0_stormsThatFit 19 = .ok (.aload_n 0, 1) := by decide +kernel
theorem dX0_stormsThatFit_20 : decode cX0_stormsThatFit 20 = .ok (.getfield 45, 3) := by decide +kernel
theorem dX0_stormsThatFit_23 : decode cX0_stormsThatFit 23 = .ok (.if_icmp .ge 38, 3) := by decide +kernel
theorem dX0_stormsThatFit_26 : decode cX0_stormsThatFit 26 = .ok (.iload_n 3, 1) := by decide +kernel
theorem dX0_stormsThatFit_27 : decode cX0_stormsThatFit 27 = .ok (.ifCond .eq 26, 3) := by decide +kernel
theorem dX0_stormsThatFit_30 : decode cX0_stormsThatFit 30 = .ok (.aload_n 0, 1) := by decide +kernel
theorem dX0_stormsThatFit_31 : decode cX0_stormsThatFit 31 = .ok (.iload 4, 2) := by decide +kernel
theorem dX0_stormsThatFit_33 : decode cX0_stormsThatFit 33 = .ok (.invokevirtual 97, 3) := by decide +kernel
theorem dX0_stormsThatFit_36 : decode cX0_stormsThatFit 36 = .ok (.ifCond .eq 13, 3) := by decide +kernel
theorem dX0_stormsThatFit_39 : decode cX0_stormsThatFit 39 = .ok (.aload_n 0, 1) := by decide +kernel
theorem dX0_stormsThatFit_40 : decode cX0_stormsThatFit 40 = .ok (.iload_n 2, 1) := by decide +kernel
theorem dX0_stormsThatFit_41 : decode cX0_stormsThatFit 41 = .ok (.iload 4, 2) := by decide +kernel
theorem dX0_stormsThatFit_43 : decode cX0_stormsThatFit 43 = .ok (.invokevirtual 101, 3) := by decide +kernel
theorem dX0_stormsThatFit_46 : decode cX0_stormsThatFit 46 = .ok (.ifCond .eq 7, 3) := by decide +kernel
theorem dX0_stormsThatFit_49 : decode cX0_stormsThatFit 49 = .ok (.iconst 1, 1) := by decide +kernel
theorem dX0_stormsThatFit_50 : decode cX0_stormsThatFit 50 = .ok (.goto 4, 3) := by decide +kernel
theorem dX0_stormsThatFit_53 : decode cX0_stormsThatFit 53 = .ok (.iconst 0, 1) := by decide +kernel
theorem dX0_stormsThatFit_54 : decode cX0_stormsThatFit 54 = .ok (.istore_n 3, 1) := by decide +kernel
theorem dX0_stormsThatFit_55 : decode cX0_stormsThatFit 55 = .ok (.iinc 4 1, 3) := by decide +kernel
theorem dX0_stormsThatFit_58 : decode cX0_stormsThatFit 58 = .ok (.goto (-41), 3) := by decide +kernel
theorem dX0_stormsThatFit_61 : decode cX0_stormsThatFit 61 = .ok (.iload_n 3, 1) := by decide +kernel
theorem dX0_stormsThatFit_62 : decode cX0_stormsThatFit 62 = .ok (.ifCond .eq 9, 3) := by decide +kernel
theorem dX0_stormsThatFit_65 : decode cX0_stormsThatFit 65 = .ok (.iload_n 1, 1) := by decide +kernel
theorem dX0_stormsThatFit_66 : decode cX0_stormsThatFit 66 = .ok (.iconst 1, 1) := by decide +kernel
theorem dX0_stormsThatFit_67 : decode cX0_stormsThatFit 67 = .ok (.iload_n 2, 1) := by decide +kernel
theorem dX0_stormsThatFit_68 : decode cX0_stormsThatFit 68 = .ok (.ishl, 1) := by decide +kernel
theorem dX0_stormsThatFit_69 : decode cX0_stormsThatFit 69 = .ok (.ior, 1) := by decide +kernel
theorem dX0_stormsThatFit_70 : decode cX0_stormsThatFit 70 = .ok (.istore_n 1, 1) := by decide +kernel
theorem dX0_stormsThatFit_71 : decode cX0_stormsThatFit 71 = .ok (.iinc 2 1, 3) := by decide +kernel
theorem dX0_stormsThatFit_74 : decode cX0_stormsThatFit 74 = .ok (.goto (-70), 3) := by decide +kernel
theorem dX0_stormsThatFit_77 : decode cX0_stormsThatFit 77 = .ok (.iload_n 1, 1) := by decide +kernel
theorem dX0_stormsThatFit_78 : decode cX0_stormsThatFit 78 = .ok (.ireturn, 1) := by decide +kernel
theorem dX0_roofsByHand_0 : decode cX0_roofsByHand 0 = .ok (.iconst 0, 1) := by decide +kernel
theorem dX0_roofsByHand_1 : decode cX0_roofsByHand 1 = .ok (.istore_n 1, 1) := by decide +kernel
theorem dX0_roofsByHand_2 : decode cX0_roofsByHand 2 = .ok (.iconst 0, 1) := by decide +kernel
theorem dX0_roofsByHand_3 : decode cX0_roofsByHand 3 = .ok (.istore_n 2, 1) := by decide +kernel
theorem dX0_roofsByHand_4 : decode cX0_roofsByHand 4 = .ok (.iload_n 2, 1) := by decide +kernel
theorem dX0_roofsByHand_5 : decode cX0_roofsByHand 5 = .ok (.aload_n 0, 1) := by decide +kernel
theorem dX0_roofsByHand_6 : decode cX0_roofsByHand 6 = .ok (.getfield 45, 3) := by decide +kernel
theorem dX0_roofsByHand_9 : decode cX0_roofsByHand 9 = .ok (.if_icmp .ge 63, 3) := by decide +kernel
theorem dX0_roofsByHand_12 : decode cX0_roofsByHand 12 = .ok (.aload_n 0, 1) := by decide +kernel
theorem dX0_roofsByHand_13 : decode cX0_roofsByHand 13 = .ok (.iload_n 2, 1) := by decide +kernel
theorem dX0_roofsByHand_14 : decode cX0_roofsByHand 14 = .ok (.invokevirtual 97, 3) := by decide +kernel
theorem dX0_roofsByHand_17 : decode cX0_roofsByHand 17 = .ok (.istore_n 3, 1) := by decide +kernel
theorem dX0_roofsByHand_18 : decode cX0_roofsByHand 18 = .ok (.iconst 0, 1) := by decide +kernel
theorem dX0_roofsByHand_19 : decode cX0_roofsByHand 19 = .ok (.istore 4, 2) := by decide +kernel
theorem dX0_roofsByHand_21 : decode cX0_roofsByHand 21 = .ok (.iload 4, 2) := by decide +kernel
theorem dX0_roofsByHand_23 : decode cX0_roofsByHand 23 = .ok (.aload_n 0, 1) := by decide +kernel
theorem dX0_roofsByHand_24 : decode cX0_roofsByHand 24 = .ok (.getfield 49, 3) := by decide +kernel
theorem dX0_roofsByHand_27 : decode cX0_roofsByHand 27 = .ok (.if_icmp .ge 29, 3) := by decide +kernel
theorem dX0_roofsByHand_30 : decode cX0_roofsByHand 30 = .ok (.iload_n 3, 1) := by decide +kernel
theorem dX0_roofsByHand_31 : decode cX0_roofsByHand 31 = .ok (.ifCond .eq 17, 3) := by decide +kernel
theorem dX0_roofsByHand_34 : decode cX0_roofsByHand 34 = .ok (.aload_n 0, 1) := by decide +kernel
theorem dX0_roofsByHand_35 : decode cX0_roofsByHand 35 = .ok (.iload 4, 2) := by decide +kernel
theorem dX0_roofsByHand_37 : decode cX0_roofsByHand 37 = .ok (.iload_n 2, 1) := by decide +kernel
theorem dX0_roofsByHand_38 : decode cX0_roofsByHand 38 = .ok (.invokevirtual 101, 3) := by decide +kernel
theorem dX0_roofsByHand_41 : decode cX0_roofsByHand 41 = .ok (.ifCond .ne 7, 3) := by decide +kernel
theorem dX0_roofsByHand_44 : decode cX0_roofsByHand 44 = .ok (.iconst 1, 1) := by decide +kernel
theorem dX0_roofsByHand_45 : decode cX0_roofsByHand 45 = .ok (.goto 4, 3) := by decide +kernel
theorem dX0_roofsByHand_48 : decode cX0_roofsByHand 48 = .ok (.iconst 0, 1) := by decide +kernel
theorem dX0_roofsByHand_49 : decode cX0_roofsByHand 49 = .ok (.istore_n 3, 1) := by decide +kernel
theorem dX0_roofsByHand_50 : decode cX0_roofsByHand 50 = .ok (.iinc 4 1, 3) := by decide +kernel
theorem dX0_roofsByHand_53 : decode cX0_roofsByHand 53 = .ok (.goto (-32), 3) := by decide +kernel
theorem dX0_roofsByHand_56 : decode cX0_roofsByHand 56 = .ok (.iload_n 3, 1) := by decide +kernel
theorem dX0_roofsByHand_57 : decode cX0_roofsByHand 57 = .ok (.ifCond .eq 9, 3) := by decide +kernel
theorem dX0_roofsByHand_60 : decode cX0_roofsByHand 60 = .ok (.iload_n 1, 1) := by decide +kernel
theorem dX0_roofsByHand_61 : decode cX0_roofsByHand 61 = .ok (.iconst 1, 1) := by decide +kernel
theorem dX0_roofsByHand_62 : decode cX0_roofsByHand 62 = .ok (.iload_n 2, 1) := by decide +kernel
theorem dX0_roofsByHand_63 : decode cX0_roofsByHand 63 = .ok (.ishl, 1) := by decide +kernel
theorem dX0_roofsByHand_64 : decode cX0_roofsByHand 64 = .ok (.ior, 1) := by decide +kernel
theorem dX0_roofsByHand_65 : decode cX0_roofsByHand 65 = .ok (.istore_n 1, 1) := by decide +kernel
theorem dX0_roofsByHand_66 : decode cX0_roofsByHand 66 = .ok (.iinc 2 1, 3) := by decide +kernel
theorem dX0_roofsByHand_69 : decode cX0_roofsByHand 69 = .ok (.goto (-65), 3) := by decide +kernel
theorem dX0_roofsByHand_72 : decode cX0_roofsByHand 72 = .ok (.iload_n 1, 1) := by decide +kernel
theorem dX0_roofsByHand_73 : decode cX0_roofsByHand 73 = .ok (.ireturn, 1) := by decide +kernel
theorem dX0_passYear_0 : decode cX0_passYear 0 = .ok (.iconst 0, 1) := by decide +kernel
theorem dX0_passYear_1 : decode cX0_passYear 1 = .ok (.istore_n 2, 1) := by decide +kernel
theorem dX0_passYear_2 : decode cX0_passYear 2 = .ok (.iconst 0, 1) := by decide +kernel
theorem dX0_passYear_3 : decode cX0_passYear 3 = .ok (.istore_n 3, 1) := by decide +kernel
theorem dX0_passYear_4 : decode cX0_passYear 4 = .ok (.iload_n 3, 1) := by decide +kernel
theorem dX0_passYear_5 : decode cX0_passYear 5 = .ok (.aload_n 0, 1) := by decide +kernel
theorem dX0_passYear_6 : decode cX0_passYear 6 = .ok (.getfield 45, 3) := by decide +kernel
theorem dX0_passYear_9 : decode cX0_passYear 9 = .ok (.if_icmp .ge 51, 3) := by decide +kernel
theorem dX0_passYear_12 : decode cX0_passYear 12 = .ok (.iload_n 1, 1) := by decide +kernel
theorem dX0_passYear_13 : decode cX0_passYear 13 = .ok (.iconst (-1), 1) := by decide +kernel
theorem dX0_passYear_14 : decode cX0_passYear 14 = .ok (.if_icmp .eq 21, 3) := by decide +kernel
theorem dX0_passYear_17 : decode cX0_passYear 17 = .ok (.iload_n 2, 1) := by decide +kernel
theorem dX0_passYear_18 : decode cX0_passYear 18 = .ok (.aload_n 0, 1) := by decide +kernel
theorem dX0_passYear_19 : decode cX0_passYear 19 = .ok (.iload_n 1, 1) := by decide +kernel
theorem dX0_passYear_20 : decode cX0_passYear 20 = .ok (.iload_n 3, 1) := by decide +kernel
theorem dX0_passYear_21 : decode cX0_passYear 21 = .ok (.iconst 0, 1) := by decide +kernel
theorem dX0_passYear_22 : decode cX0_passYear 22 = .ok (.invokevirtual 105, 3) := by decide +kernel
theorem dX0_passYear_25 : decode cX0_passYear 25 = .ok (.aload_n 0, 1) := by decide +kernel
theorem dX0_passYear_26 : decode cX0_passYear 26 = .ok (.iload_n 1, 1) := by decide +kernel
theorem dX0_passYear_27 : decode cX0_passYear 27 = .ok (.iload_n 3, 1) := by decide +kernel
theorem dX0_passYear_28 : decode cX0_passYear 28 = .ok (.iconst 1, 1) := by decide +kernel
theorem dX0_passYear_29 : decode cX0_passYear 29 = .ok (.invokevirtual 105, 3) := by decide +kernel
theorem dX0_passYear_32 : decode cX0_passYear 32 = .ok (.iadd, 1) := by decide +kernel
theorem dX0_passYear_33 : decode cX0_passYear 33 = .ok (.iadd, 1) := by decide +kernel
theorem dX0_passYear_34 : decode cX0_passYear 34 = .ok (.istore_n 2, 1) := by decide +kernel
theorem dX0_passYear_35 : decode cX0_passYear 35 = .ok (.aload_n 0, 1) := by decide +kernel
theorem dX0_passYear_36 : decode cX0_passYear 36 = .ok (.getfield 15, 3) := by decide +kernel
theorem dX0_passYear_39 : decode cX0_passYear 39 = .ok (.iload_n 3, 1) := by decide +kernel
theorem dX0_passYear_40 : decode cX0_passYear 40 = .ok (.aload_n 0, 1) := by decide +kernel
theorem dX0_passYear_41 : decode cX0_passYear 41 = .ok (.getfield 15, 3) := by decide +kernel
theorem dX0_passYear_44 : decode cX0_passYear 44 = .ok (.iload_n 3, 1) := by decide +kernel
theorem dX0_passYear_45 : decode cX0_passYear 45 = .ok (.iaload, 1) := by decide +kernel
theorem dX0_passYear_46 : decode cX0_passYear 46 = .ok (.iconst 1, 1) := by decide +kernel
theorem dX0_passYear_47 : decode cX0_passYear 47 = .ok (.iadd, 1) := by decide +kernel
theorem dX0_passYear_48 : decode cX0_passYear 48 = .ok (.bipush 9, 2) := by decide +kernel
theorem dX0_passYear_50 : decode cX0_passYear 50 = .ok (.invokestatic 77, 3) := by decide +kernel
theorem dX0_passYear_53 : decode cX0_passYear 53 = .ok (.iastore, 1) := by decide +kernel
theorem dX0_passYear_54 : decode cX0_passYear 54 = .ok (.iinc 3 1, 3) := by decide +kernel
theorem dX0_passYear_57 : decode cX0_passYear 57 = .ok (.goto (-53), 3) := by decide +kernel
theorem dX0_passYear_60 : decode cX0_passYear 60 = .ok (.aload_n 0, 1) := by decide +kernel
theorem dX0_passYear_61 : decode cX0_passYear 61 = .ok (.dup, 1) := by decide +kernel
theorem dX0_passYear_62 : decode cX0_passYear 62 = .ok (.getfield 52, 3) := by decide +kernel
theorem dX0_passYear_65 : decode cX0_passYear 65 = .ok (.iconst 1, 1) := by decide +kernel
theorem dX0_passYear_66 : decode cX0_passYear 66 = .ok (.iadd, 1) := by decide +kernel
theorem dX0_passYear_67 : decode cX0_passYear 67 = .ok (.putfield 52, 3) := by decide +kernel
theorem dX0_passYear_70 : decode cX0_passYear 70 = .ok (.iload_n 2, 1) := by decide +kernel
theorem dX0_passYear_71 : decode cX0_passYear 71 = .ok (.ireturn, 1) := by decide +kernel
theorem dX0_breakSlope_0 : decode cX0_breakSlope 0 = .ok (.aload_n 0, 1) := by decide +kernel
theorem dX0_breakSlope_1 : decode cX0_breakSlope 1 = .ok (.iload_n 1, 1) := by decide +kernel
theorem dX0_breakSlope_2 : decode cX0_breakSlope 2 = .ok (.iload_n 2, 1) := by decide +kernel
theorem dX0_breakSlope_3 : decode cX0_breakSlope 3 = .ok (.iload_n 3, 1) := by decide +kernel
theorem dX0_breakSlope_4 : decode cX0_breakSlope 4 = .ok (.invokevirtual 74, 3) := by decide +kernel
theorem dX0_breakSlope_7 : decode cX0_breakSlope 7 = .ok (.istore 4, 2) := by decide +kernel
theorem dX0_breakSlope_9 : decode cX0_breakSlope 9 = .ok (.iload_n 2, 1) := by decide +kernel
theorem dX0_breakSlope_10 : decode cX0_breakSlope 10 = .ok (.iload_n 3, 1) := by decide +kernel
theorem dX0_breakSlope_11 : decode cX0_breakSlope 11 = .ok (.iconst 0, 1) := by decide +kernel
theorem dX0_breakSlope_12 : decode cX0_breakSlope 12 = .ok (.invokestatic 61, 3) := by decide +kernel
theorem dX0_breakSlope_15 : decode cX0_breakSlope 15 = .ok (.istore 5, 2) := by decide +kernel
theorem dX0_breakSlope_17 : decode cX0_breakSlope 17 = .ok (.iload_n 2, 1) := by decide +kernel
theorem dX0_breakSlope_18 : decode cX0_breakSlope 18 = .ok (.iload_n 3, 1) := by decide +kernel
theorem dX0_breakSlope_19 : decode cX0_breakSlope 19 = .ok (.iconst 1, 1) := by decide +kernel
theorem dX0_breakSlope_20 : decode cX0_breakSlope 20 = .ok (.invokestatic 61, 3) := by decide +kernel
theorem dX0_breakSlope_23 : decode cX0_breakSlope 23 = .ok (.istore 6, 2) := by decide +kernel
theorem dX0_breakSlope_25 : decode cX0_breakSlope 25 = .ok (.iload 4, 2) := by decide +kernel
theorem dX0_breakSlope_27 : decode cX0_breakSlope 27 = .ok (.aload_n 0, 1) := by decide +kernel
theorem dX0_breakSlope_28 : decode cX0_breakSlope 28 = .ok (.getfield 18, 3) := by decide +kernel
theorem dX0_breakSlope_31 : decode cX0_breakSlope 31 = .ok (.iload 5, 2) := by decide +kernel
theorem dX0_breakSlope_33 : decode cX0_breakSlope 33 = .ok (.iaload, 1) := by decide +kernel
theorem dX0_breakSlope_34 : decode cX0_breakSlope 34 = .ok (.invokestatic 77, 3) := by decide +kernel
theorem dX0_breakSlope_37 : decode cX0_breakSlope 37 = .ok (.istore 7, 2) := by decide +kernel
theorem dX0_breakSlope_39 : decode cX0_breakSlope 39 = .ok (.iload 4, 2) := by decide +kernel
theorem dX0_breakSlope_41 : decode cX0_breakSlope 41 = .ok (.aload_n 0, 1) := by decide +kernel
theorem dX0_breakSlope_42 : decode cX0_breakSlope 42 = .ok (.getfield 18, 3) := by decide +kernel
theorem dX0_breakSlope_45 : decode cX0_breakSlope 45 = .ok (.iload 6, 2) := by decide +kernel
theorem dX0_breakSlope_47 : decode cX0_breakSlope 47 = .ok (.iaload, 1) := by decide +kernel
theorem dX0_breakSlope_48 : decode cX0_breakSlope 48 = .ok (.invokestatic 77, 3) := by decide +kernel
theorem dX0_breakSlope_51 : decode cX0_breakSlope 51 = .ok (.istore 8, 2) := by decide +kernel
theorem dX0_breakSlope_53 : decode cX0_breakSlope 53 = .ok (.aload_n 0, 1) := by decide +kernel
theorem dX0_breakSlope_54 : decode cX0_breakSlope 54 = .ok (.getfield 18, 3) := by decide +kernel
theorem dX0_breakSlope_57 : decode cX0_breakSlope 57 = .ok (.iload 5, 2) := by decide +kernel
theorem dX0_breakSlope_59 : decode cX0_breakSlope 59 = .ok (.dup2, 1) := by decide +kernel
theorem dX0_breakSlope_60 : decode cX0_breakSlope 60 = .ok (.iaload, 1) := by decide +kernel
theorem dX0_breakSlope_61 : decode cX0_breakSlope 61 = .ok (.iload 7, 2) := by decide +kernel
theorem dX0_breakSlope_63 : decode cX0_breakSlope 63 = .ok (.isub, 1) := by decide +kernel
theorem dX0_breakSlope_64 : decode cX0_breakSlope 64 = .ok (.iastore, 1) := by decide +kernel
theorem dX0_breakSlope_65 : decode cX0_breakSlope 65 = .ok (.aload_n 0, 1) := by decide +kernel
theorem dX0_breakSlope_66 : decode cX0_breakSlope 66 = .ok (.getfield 18, 3) := by decide +kernel
theorem dX0_breakSlope_69 : decode cX0_breakSlope 69 = .ok (.iload 6, 2) := by decide +kernel
theorem dX0_breakSlope_71 : decode cX0_breakSlope 71 = .ok (.dup2, 1) := by decide +kernel
theorem dX0_breakSlope_72 : decode cX0_breakSlope 72 = .ok (.iaload, 1) := by decide +kernel
theorem dX0_breakSlope_73 : decode cX0_breakSlope 73 = .ok (.iload 8, 2) := by decide +kernel
theorem dX0_breakSlope_75 : decode cX0_breakSlope 75 = .ok (.isub, 1) := by decide +kernel
theorem dX0_breakSlope_76 : decode cX0_breakSlope 76 = .ok (.iastore, 1) := by decide +kernel
theorem dX0_breakSlope_77 : decode cX0_breakSlope 77 = .ok (.iload 7, 2) := by decide +kernel
theorem dX0_breakSlope_79 : decode cX0_breakSlope 79 = .ok (.iload 8, 2) := by decide +kernel
theorem dX0_breakSlope_81 : decode cX0_breakSlope 81 = .ok (.iadd, 1) := by decide +kernel
theorem dX0_breakSlope_82 : decode cX0_breakSlope 82 = .ok (.ireturn, 1) := by decide +kernel
theorem dX0_stormAt_0 : decode cX0_stormAt 0 = .ok (.lconst 0, 1) := by decide +kernel
theorem dX0_stormAt_1 : decode cX0_stormAt 1 = .ok (.lstore_n 3, 1) := by decide +kernel
theorem dX0_stormAt_2 : decode cX0_stormAt 2 = .ok (.iconst 0, 1) := by decide +kernel
theorem dX0_stormAt_3 : decode cX0_stormAt 3 = .ok (.istore 5, 2) := by decide +kernel
theorem dX0_stormAt_5 : decode cX0_stormAt 5 = .ok (.iload 5, 2) := by decide +kernel
theorem dX0_stormAt_7 : decode cX0_stormAt 7 = .ok (.aload_n 0, 1) := by decide +kernel
theorem dX0_stormAt_8 : decode cX0_stormAt 8 = .ok (.getfield 49, 3) := by decide +kernel
theorem dX0_stormAt_11 : decode cX0_stormAt 11 = .ok (.if_icmp .ge 29, 3) := by decide +kernel
theorem dX0_stormAt_14 : decode cX0_stormAt 14 = .ok (.lload_n 3, 1) := by decide +kernel
theorem dX0_stormAt_15 : decode cX0_stormAt 15 = .ok (.aload_n 0, 1) := by decide +kernel
theorem dX0_stormAt_16 : decode cX0_stormAt 16 = .ok (.getfield 39, 3) := by decide +kernel
theorem dX0_stormAt_19 : decode cX0_stormAt 19 = .ok (.iload 5, 2) := by decide +kernel
theorem dX0_stormAt_21 : decode cX0_stormAt 21 = .ok (.iaload, 1) := by decide +kernel
theorem dX0_stormAt_22 : decode cX0_stormAt 22 = .ok (.i2l, 1) := by decide +kernel
theorem dX0_stormAt_23 : decode cX0_stormAt 23 = .ok (.ladd, 1) := by decide +kernel
theorem dX0_stormAt_24 : decode cX0_stormAt 24 = .ok (.lstore_n 3, 1) := by decide +kernel
theorem dX0_stormAt_25 : decode cX0_stormAt 25 = .ok (.lload_n 3, 1) := by decide +kernel
theorem dX0_stormAt_26 : decode cX0_stormAt 26 = .ok (.lload_n 1, 1) := by decide +kernel
theorem dX0_stormAt_27 : decode cX0_stormAt 27 = .ok (.lcmp, 1) := by decide +kernel
theorem dX0_stormAt_28 : decode cX0_stormAt 28 = .ok (.ifCond .le 6, 3) := by decide +kernel
theorem dX0_stormAt_31 : decode cX0_stormAt 31 = .ok (.iload 5, 2) := by decide +kernel
theorem dX0_stormAt_33 : decode cX0_stormAt 33 = .ok (.ireturn, 1) := by decide +kernel
theorem dX0_stormAt_34 : decode cX0_stormAt 34 = .ok (.iinc 5 1, 3) := by decide +kernel
theorem dX0_stormAt_37 : decode cX0_stormAt 37 = .ok (.goto (-32), 3) := by decide +kernel
theorem dX0_stormAt_40 : decode cX0_stormAt 40 = .ok (.iconst (-1), 1) := by decide +kernel
theorem dX0_stormAt_41 : decode cX0_stormAt 41 = .ok (.ireturn, 1) := by decide +kernel
theorem dX0_mixRoofs_0 : decode cX0_mixRoofs 0 = .ok (.iconst 0, 1) := by decide +kernel
theorem dX0_mixRoofs_1 : decode cX0_mixRoofs 1 = .ok (.istore_n 3, 1) := by decide +kernel
theorem dX0_mixRoofs_2 : decode cX0_mixRoofs 2 = .ok (.iload_n 3, 1) := by decide +kernel
theorem dX0_mixRoofs_3 : decode cX0_mixRoofs 3 = .ok (.aload_n 0, 1) := by decide +kernel
theorem dX0_mixRoofs_4 : decode cX0_mixRoofs 4 = .ok (.getfield 45, 3) := by decide +kernel
theorem dX0_mixRoofs_7 : decode cX0_mixRoofs 7 = .ok (.if_icmp .ge 99, 3) := by decide +kernel
theorem dX0_mixRoofs_10 : decode cX0_mixRoofs 10 = .ok (.ldc2_w 108, 3) := by decide +kernel
theorem dX0_mixRoofs_13 : decode cX0_mixRoofs 13 = .ok (.lload_n 1, 1) := by decide +kernel
theorem dX0_mixRoofs_14 : decode cX0_mixRoofs 14 = .ok (.lmul, 1) := by decide +kernel
theorem dX0_mixRoofs_15 : decode cX0_mixRoofs 15 = .ok (.aload_n 0, 1) := by decide +kernel
theorem dX0_mixRoofs_16 : decode cX0_mixRoofs 16 = .ok (.getfield 9, 3) := by decide +kernel
theorem dX0_mixRoofs_19 : decode cX0_mixRoofs 19 = .ok (.iload_n 3, 1) := by decide +kernel
theorem dX0_mixRoofs_20 : decode cX0_mixRoofs 20 = .ok (.iaload, 1) := by decide +kernel
theorem dX0_mixRoofs_21 : decode cX0_mixRoofs 21 = .ok (.i2l, 1) := by decide +kernel
theorem dX0_mixRoofs_22 : decode cX0_mixRoofs 22 = .ok (.ladd, 1) := by decide +kernel
theorem dX0_mixRoofs_23 : decode cX0_mixRoofs 23 = .ok (.lstore_n 1, 1) := by decide +kernel
theorem dX0_mixRoofs_24 : decode cX0_mixRoofs 24 = .ok (.ldc2_w 108, 3) := by decide +kernel
theorem dX0_mixRoofs_27 : decode cX0_mixRoofs 27 = .ok (.lload_n 1, 1) := by decide +kernel
theorem dX0_mixRoofs_28 : decode cX0_mixRoofs 28 = .ok (.lmul, 1) := by decide +kernel
theorem dX0_mixRoofs_29 : decode cX0_mixRoofs 29 = .ok (.aload_n 0, 1) := by decide +kernel
theorem dX0_mixRoofs_30 : decode cX0_mixRoofs 30 = .ok (.getfield 15, 3) := by decide +kernel
theorem dX0_mixRoofs_33 : decode cX0_mixRoofs 33 = .ok (.iload_n 3, 1) := by decide +kernel
theorem dX0_mixRoofs_34 : decode cX0_mixRoofs 34 = .ok (.iaload, 1) := by decide +kernel
theorem dX0_mixRoofs_35 : decode cX0_mixRoofs 35 = .ok (.i2l, 1) := by decide +kernel
theorem dX0_mixRoofs_36 : decode cX0_mixRoofs 36 = .ok (.ladd, 1) := by decide +kernel
theorem dX0_mixRoofs_37 : decode cX0_mixRoofs 37 = .ok (.lstore_n 1, 1) := by decide +kernel
theorem dX0_mixRoofs_38 : decode cX0_mixRoofs 38 = .ok (.iconst 0, 1) := by decide +kernel
theorem dX0_mixRoofs_39 : decode cX0_mixRoofs 39 = .ok (.istore 4, 2) := by decide +kernel
theorem dX0_mixRoofs_41 : decode cX0_mixRoofs 41 = .ok (.iload 4, 2) := by decide +kernel
theorem dX0_mixRoofs_43 : decode cX0_mixRoofs 43 = .ok (.iconst 4, 1) := by decide +kernel
theorem dX0_mixRoofs_44 : decode cX0_mixRoofs 44 = .ok (.if_icmp .ge 28, 3) := by decide +kernel
theorem dX0_mixRoofs_47 : decode cX0_mixRoofs 47 = .ok (.ldc2_w 108, 3) := by decide +kernel
theorem dX0_mixRoofs_50 : decode cX0_mixRoofs 50 = .ok (.lload_n 1, 1) := by decide +kernel
theorem dX0_mixRoofs_51 : decode cX0_mixRoofs 51 = .ok (.lmul, 1) := by decide +kernel
theorem dX0_mixRoofs_52 : decode cX0_mixRoofs 52 = .ok (.aload_n 0, 1) := by decide +kernel
theorem dX0_mixRoofs_53 : decode cX0_mixRoofs 53 = .ok (.getfield 18, 3) := by decide +kernel
theorem dX0_mixRoofs_56 : decode cX0_mixRoofs 56 = .ok (.iconst 4, 1) := by decide +kernel
theorem dX0_mixRoofs_57 : decode cX0_mixRoofs 57 = .ok (.iload_n 3, 1) := by decide +kernel
theorem dX0_mixRoofs_58 : decode cX0_mixRoofs 58 = .ok (.imul, 1) := by decide +kernel
theorem dX0_mixRoofs_59 : decode cX0_mixRoofs 59 = .ok (.iload 4, 2) := by decide +kernel
theorem dX0_mixRoofs_61 : decode cX0_mixRoofs 61 = .ok (.iadd, 1) := by decide +kernel
theorem dX0_mixRoofs_62 : decode cX0_mixRoofs 62 = .ok (.iaload, 1) := by decide +kernel
theorem dX0_mixRoofs_63 : decode cX0_mixRoofs 63 = .ok (.i2l, 1) := by decide +kernel
theorem dX0_mixRoofs_64 : decode cX0_mixRoofs 64 = .ok (.ladd, 1) := by decide +kernel
theorem dX0_mixRoofs_65 : decode cX0_mixRoofs 65 = .ok (.lstore_n 1, 1) := by decide +kernel
theorem dX0_mixRoofs_66 : decode cX0_mixRoofs 66 = .ok (.iinc 4 1, 3) := by decide +kernel
theorem dX0_mixRoofs_69 : decode cX0_mixRoofs 69 = .ok (.goto (-28), 3) := by decide +kernel
theorem dX0_mixRoofs_72 : decode cX0_mixRoofs 72 = .ok (.ldc2_w 108, 3) := by decide +kernel
theorem dX0_mixRoofs_75 : decode cX0_mixRoofs 75 = .ok (.lload_n 1, 1) := by decide +kernel
theorem dX0_mixRoofs_76 : decode cX0_mixRoofs 76 = .ok (.lmul, 1) := by decide +kernel
theorem dX0_mixRoofs_77 : decode cX0_mixRoofs 77 = .ok (.aload_n 0, 1) := by decide +kernel
theorem dX0_mixRoofs_78 : decode cX0_mixRoofs 78 = .ok (.getfield 21, 3) := by decide +kernel
theorem dX0_mixRoofs_81 : decode cX0_mixRoofs 81 = .ok (.iload_n 3, 1) := by decide +kernel
theorem dX0_mixRoofs_82 : decode cX0_mixRoofs 82 = .ok (.iaload, 1) := by decide +kernel
theorem dX0_mixRoofs_83 : decode cX0_mixRoofs 83 = .ok (.i2l, 1) := by decide +kernel
theorem dX0_mixRoofs_84 : decode cX0_mixRoofs 84 = .ok (.ladd, 1) := by decide +kernel
theorem dX0_mixRoofs_85 : decode cX0_mixRoofs 85 = .ok (.lstore_n 1, 1) := by decide +kernel
theorem dX0_mixRoofs_86 : decode cX0_mixRoofs 86 = .ok (.ldc2_w 108, 3) := by decide +kernel
theorem dX0_mixRoofs_89 : decode cX0_mixRoofs 89 = .ok (.lload_n 1, 1) := by decide +kernel
theorem dX0_mixRoofs_90 : decode cX0_mixRoofs 90 = .ok (.lmul, 1) := by decide +kernel
theorem dX0_mixRoofs_91 : decode cX0_mixRoofs 91 = .ok (.aload_n 0, 1) := by decide +kernel
theorem dX0_mixRoofs_92 : decode cX0_mixRoofs 92 = .ok (.getfield 24, 3) := by decide +kernel
theorem dX0_mixRoofs_95 : decode cX0_mixRoofs 95 = .ok (.iload_n 3, 1) := by decide +kernel
theorem dX0_mixRoofs_96 : decode cX0_mixRoofs 96 = .ok (.iaload, 1) := by decide +kernel
theorem dX0_mixRoofs_97 : decode cX0_mixRoofs 97 = .ok (.i2l, 1) := by decide +kernel
theorem dX0_mixRoofs_98 : decode cX0_mixRoofs 98 = .ok (.ladd, 1) := by decide +kernel
theorem dX0_mixRoofs_99 : decode cX0_mixRoofs 99 = .ok (.lstore_n 1, 1) := by decide +kernel
theorem dX0_mixRoofs_100 : decode cX0_mixRoofs 100 = .ok (.iinc 3 1, 3) := by decide +kernel
theorem dX0_mixRoofs_103 : decode cX0_mixRoofs 103 = .ok (.goto (-101), 3) := by decide +kernel
theorem dX0_mixRoofs_106 : decode cX0_mixRoofs 106 = .ok (.lload_n 1, 1) := by decide +kernel
theorem dX0_mixRoofs_107 : decode cX0_mixRoofs 107 = .ok (.lreturn, 1) := by decide +kernel
theorem dX0_mixStorms_0 : decode cX0_mixStorms 0 = .ok (.iconst 0, 1) := by decide +kernel
theorem dX0_mixStorms_1 : decode cX0_mixStorms 1 = .ok (.istore_n 3, 1) := by decide +kernel
theorem dX0_mixStorms_2 : decode cX0_mixStorms 2 = .ok (.iload_n 3, 1) := by decide +kernel
theorem dX0_mixStorms_3 : decode cX0_mixStorms 3 = .ok (.aload_n 0, 1) := by decide +kernel
theorem dX0_mixStorms_4 : decode cX0_mixStorms 4 = .ok (.getfield 49, 3) := by decide +kernel
theorem dX0_mixStorms_7 : decode cX0_mixStorms 7 = .ok (.if_icmp .ge 79, 3) := by decide +kernel
theorem dX0_mixStorms_10 : decode cX0_mixStorms 10 = .ok (.ldc2_w 108, 3) := by decide +kernel
theorem dX0_mixStorms_13 : decode cX0_mixStorms 13 = .ok (.lload_n 1, 1) := by decide +kernel
theorem dX0_mixStorms_14 : decode cX0_mixStorms 14 = .ok (.lmul, 1) := by decide +kernel
theorem dX0_mixStorms_15 : decode cX0_mixStorms 15 = .ok (.aload_n 0, 1) := by decide +kernel
theorem dX0_mixStorms_16 : decode cX0_mixStorms 16 = .ok (.getfield 27, 3) := by decide +kernel
theorem dX0_mixStorms_19 : decode cX0_mixStorms 19 = .ok (.iload_n 3, 1) := by decide +kernel
theorem dX0_mixStorms_20 : decode cX0_mixStorms 20 = .ok (.iaload, 1) := by decide +kernel
theorem dX0_mixStorms_21 : decode cX0_mixStorms 21 = .ok (.i2l, 1) := by decide +kernel
theorem dX0_mixStorms_22 : decode cX0_mixStorms 22 = .ok (.ladd, 1) := by decide +kernel
theorem dX0_mixStorms_23 : decode cX0_mixStorms 23 = .ok (.lstore_n 1, 1) := by decide +kernel
theorem dX0_mixStorms_24 : decode cX0_mixStorms 24 = .ok (.ldc2_w 108, 3) := by decide +kernel
theorem dX0_mixStorms_27 : decode cX0_mixStorms 27 = .ok (.lload_n 1, 1) := by decide +kernel
theorem dX0_mixStorms_28 : decode cX0_mixStorms 28 = .ok (.lmul, 1) := by decide +kernel
theorem dX0_mixStorms_29 : decode cX0_mixStorms 29 = .ok (.aload_n 0, 1) := by decide +kernel
theorem dX0_mixStorms_30 : decode cX0_mixStorms 30 = .ok (.getfield 30, 3) := by decide +kernel
theorem dX0_mixStorms_33 : decode cX0_mixStorms 33 = .ok (.iload_n 3, 1) := by decide +kernel
theorem dX0_mixStorms_34 : decode cX0_mixStorms 34 = .ok (.iaload, 1) := by decide +kernel
theorem dX0_mixStorms_35 : decode cX0_mixStorms 35 = .ok (.i2l, 1) := by decide +kernel
theorem dX0_mixStorms_36 : decode cX0_mixStorms 36 = .ok (.ladd, 1) := by decide +kernel
theorem dX0_mixStorms_37 : decode cX0_mixStorms 37 = .ok (.lstore_n 1, 1) := by decide +kernel
theorem dX0_mixStorms_38 : decode cX0_mixStorms 38 = .ok (.ldc2_w 108, 3) := by decide +kernel
theorem dX0_mixStorms_41 : decode cX0_mixStorms 41 = .ok (.lload_n 1, 1) := by decide +kernel
theorem dX0_mixStorms_42 : decode cX0_mixStorms 42 = .ok (.lmul, 1) := by decide +kernel
theorem dX0_mixStorms_43 : decode cX0_mixStorms 43 = .ok (.aload_n 0, 1) := by decide +kernel
theorem dX0_mixStorms_44 : decode cX0_mixStorms 44 = .ok (.getfield 33, 3) := by decide +kernel
theorem dX0_mixStorms_47 : decode cX0_mixStorms 47 = .ok (.iload_n 3, 1) := by decide +kernel
theorem dX0_mixStorms_48 : decode cX0_mixStorms 48 = .ok (.iaload, 1) := by decide +kernel
theorem dX0_mixStorms_49 : decode cX0_mixStorms 49 = .ok (.i2l, 1) := by decide +kernel
theorem dX0_mixStorms_50 : decode cX0_mixStorms 50 = .ok (.ladd, 1) := by decide +kernel
theorem dX0_mixStorms_51 : decode cX0_mixStorms 51 = .ok (.lstore_n 1, 1) := by decide +kernel
theorem dX0_mixStorms_52 : decode cX0_mixStorms 52 = .ok (.ldc2_w 108, 3) := by decide +kernel
theorem dX0_mixStorms_55 : decode cX0_mixStorms 55 = .ok (.lload_n 1, 1) := by decide +kernel
theorem dX0_mixStorms_56 : decode cX0_mixStorms 56 = .ok (.lmul, 1) := by decide +kernel
theorem dX0_mixStorms_57 : decode cX0_mixStorms 57 = .ok (.aload_n 0, 1) := by decide +kernel
theorem dX0_mixStorms_58 : decode cX0_mixStorms 58 = .ok (.getfield 36, 3) := by decide +kernel
theorem dX0_mixStorms_61 : decode cX0_mixStorms 61 = .ok (.iload_n 3, 1) := by decide +kernel
theorem dX0_mixStorms_62 : decode cX0_mixStorms 62 = .ok (.iaload, 1) := by decide +kernel
theorem dX0_mixStorms_63 : decode cX0_mixStorms 63 = .ok (.i2l, 1) := by decide +kernel
theorem dX0_mixStorms_64 : decode cX0_mixStorms 64 = .ok (.ladd, 1) := by decide +kernel
theorem dX0_mixStorms_65 : decode cX0_mixStorms 65 = .ok (.lstore_n 1, 1) := by decide +kernel
theorem dX0_mixStorms_66 : decode cX0_mixStorms 66 = .ok (.ldc2_w 108, 3) := by decide +kernel
theorem dX0_mixStorms_69 : decode cX0_mixStorms 69 = .ok (.lload_n 1, 1) := by decide +kernel
theorem dX0_mixStorms_70 : decode cX0_mixStorms 70 = .ok (.lmul, 1) := by decide +kernel
theorem dX0_mixStorms_71 : decode cX0_mixStorms 71 = .ok (.aload_n 0, 1) := by decide +kernel
theorem dX0_mixStorms_72 : decode cX0_mixStorms 72 = .ok (.getfield 39, 3) := by decide +kernel
theorem dX0_mixStorms_75 : decode cX0_mixStorms 75 = .ok (.iload_n 3, 1) := by decide +kernel
theorem dX0_mixStorms_76 : decode cX0_mixStorms 76 = .ok (.iaload, 1) := by decide +kernel
theorem dX0_mixStorms_77 : decode cX0_mixStorms 77 = .ok (.i2l, 1) := by decide +kernel
theorem dX0_mixStorms_78 : decode cX0_mixStorms 78 = .ok (.ladd, 1) := by decide +kernel
theorem dX0_mixStorms_79 : decode cX0_mixStorms 79 = .ok (.lstore_n 1, 1) := by decide +kernel
theorem dX0_mixStorms_80 : decode cX0_mixStorms 80 = .ok (.iinc 3 1, 3) := by decide +kernel
theorem dX0_mixStorms_83 : decode cX0_mixStorms 83 = .ok (.goto (-81), 3) := by decide +kernel
theorem dX0_mixStorms_86 : decode cX0_mixStorms 86 = .ok (.lload_n 1, 1) := by decide +kernel
theorem dX0_mixStorms_87 : decode cX0_mixStorms 87 = .ok (.lreturn, 1) := by decide +kernel
theorem dX0_mixGuns_0 : decode cX0_mixGuns 0 = .ok (.iconst 0, 1) := by decide +kernel
theorem dX0_mixGuns_1 : decode cX0_mixGuns 1 = .ok (.istore_n 3, 1) := by decide +kernel
theorem dX0_mixGuns_2 : decode cX0_mixGuns 2 = .ok (.iload_n 3, 1) := by decide +kernel
theorem dX0_mixGuns_3 : decode cX0_mixGuns 3 = .ok (.bipush 7, 2) := by decide +kernel
theorem dX0_mixGuns_5 : decode cX0_mixGuns 5 = .ok (.if_icmp .ge 23, 3) := by decide +kernel
theorem dX0_mixGuns_8 : decode cX0_mixGuns 8 = .ok (.ldc2_w 108, 3) := by decide +kernel
theorem dX0_mixGuns_11 : decode cX0_mixGuns 11 = .ok (.lload_n 1, 1) := by decide +kernel
theorem dX0_mixGuns_12 : decode cX0_mixGuns 12 = .ok (.lmul, 1) := by decide +kernel
theorem dX0_mixGuns_13 : decode cX0_mixGuns 13 = .ok (.aload_n 0, 1) := by decide +kernel
theorem dX0_mixGuns_14 : decode cX0_mixGuns 14 = .ok (.getfield 42, 3) := by decide +kernel
theorem dX0_mixGuns_17 : decode cX0_mixGuns 17 = .ok (.iload_n 3, 1) := by decide +kernel
theorem dX0_mixGuns_18 : decode cX0_mixGuns 18 = .ok (.iaload, 1) := by decide +kernel
theorem dX0_mixGuns_19 : decode cX0_mixGuns 19 = .ok (.i2l, 1) := by decide +kernel
theorem dX0_mixGuns_20 : decode cX0_mixGuns 20 = .ok (.ladd, 1) := by decide +kernel
theorem dX0_mixGuns_21 : decode cX0_mixGuns 21 = .ok (.lstore_n 1, 1) := by decide +kernel
theorem dX0_mixGuns_22 : decode cX0_mixGuns 22 = .ok (.iinc 3 1, 3) := by decide +kernel
theorem dX0_mixGuns_25 : decode cX0_mixGuns 25 = .ok (.goto (-23), 3) := by decide +kernel
theorem dX0_mixGuns_28 : decode cX0_mixGuns 28 = .ok (.lload_n 1, 1) := by decide +kernel
theorem dX0_mixGuns_29 : decode cX0_mixGuns 29 = .ok (.lreturn, 1) := by decide +kernel
theorem dX1_init_0 : decode cX1_init 0 = .ok (.aload_n 0, 1) := by decide +kernel
theorem dX1_init_1 : decode cX1_init 1 = .ok (.invokespecial 1, 3) := by decide +kernel
theorem dX1_init_4 : decode cX1_init 4 = .ok (.aload_n 0, 1) := by decide +kernel
theorem dX1_init_5 : decode cX1_init 5 = .ok (.lconst 0, 1) := by decide +kernel
theorem dX1_init_6 : decode cX1_init 6 = .ok (.putfield 7, 3) := by decide +kernel
theorem dX1_init_9 : decode cX1_init 9 = .ok (.aload_n 0, 1) := by decide +kernel
theorem dX1_init_10 : decode cX1_init 10 = .ok (.lconst 1, 1) := by decide +kernel
theorem dX1_init_11 : decode cX1_init 11 = .ok (.putfield 13, 3) := by decide +kernel
theorem dX1_init_14 : decode cX1_init 14 = .ok (.return_, 1) := by decide +kernel
theorem dX1_become_0 : decode cX1_become 0 = .ok (.lload_n 1, 1) := by decide +kernel
theorem dX1_become_1 : decode cX1_become 1 = .ok (.invokestatic 16, 3) := by decide +kernel
theorem dX1_become_4 : decode cX1_become 4 = .ok (.lload_n 3, 1) := by decide +kernel
theorem dX1_become_5 : decode cX1_become 5 = .ok (.invokestatic 22, 3) := by decide +kernel
theorem dX1_become_8 : decode cX1_become 8 = .ok (.lstore 5, 2) := by decide +kernel
theorem dX1_become_10 : decode cX1_become 10 = .ok (.lload 5, 2) := by decide +kernel
theorem dX1_become_12 : decode cX1_become 12 = .ok (.lconst 0, 1) := by decide +kernel
theorem dX1_become_13 : decode cX1_become 13 = .ok (.lcmp, 1) := by decide +kernel
theorem dX1_become_14 : decode cX1_become 14 = .ok (.ifCond .gt 4, 3) := by decide +kernel
theorem dX1_become_17 : decode cX1_become 17 = .ok (.return_, 1) := by decide +kernel
theorem dX1_become_18 : decode cX1_become 18 = .ok (.aload_n 0, 1) := by decide +kernel
theorem dX1_become_19 : decode cX1_become 19 = .ok (.lload_n 1, 1) := by decide +kernel
theorem dX1_become_20 : decode cX1_become 20 = .ok (.lload 5, 2) := by decide +kernel
theorem dX1_become_22 : decode cX1_become 22 = .ok (.ldiv, 1) := by decide +kernel
theorem dX1_become_23 : decode cX1_become 23 = .ok (.putfield 7, 3) := by decide +kernel
theorem dX1_become_26 : decode cX1_become 26 = .ok (.aload_n 0, 1) := by decide +kernel
theorem dX1_become_27 : decode cX1_become 27 = .ok (.lload_n 3, 1) := by decide +kernel
theorem dX1_become_28 : decode cX1_become 28 = .ok (.lload 5, 2) := by decide +kernel
theorem dX1_become_30 : decode cX1_become 30 = .ok (.ldiv, 1) := by decide +kernel
theorem dX1_become_31 : decode cX1_become 31 = .ok (.putfield 13, 3) := by decide +kernel
theorem dX1_become_34 : decode cX1_become 34 = .ok (.return_, 1) := by decide +kernel
theorem dX1_greatestShared_0 : decode cX1_greatestShared 0 = .ok (.iconst 0, 1) := by decide +kernel
theorem dX1_greatestShared_1 : decode cX1_greatestShared 1 = .ok (.istore 4, 2) := by decide +kernel
theorem dX1_greatestShared_3 : decode cX1_greatestShared 3 = .ok (.iload 4, 2) := by decide +kernel
theorem dX1_greatestShared_5 : decode cX1_greatestShared 5 = .ok (.bipush 100, 2) := by decide +kernel
theorem dX1_greatestShared_7 : decode cX1_greatestShared 7 = .ok (.if_icmp .ge 25, 3) := by decide +kernel
theorem dX1_greatestShared_10 : decode cX1_greatestShared 10 = .ok (.lload_n 2, 1) := by decide +kernel
theorem dX1_greatestShared_11 : decode cX1_greatestShared 11 = .ok (.lconst 0, 1) := by decide +kernel
theorem dX1_greatestShared_12 : decode cX1_greatestShared 12 = .ok (.lcmp, 1) := by decide +kernel
theorem dX1_greatestShared_13 : decode cX1_greatestShared 13 = .ok (.ifCond .eq 19, 3) := by decide +kernel
theorem dX1_greatestShared_16 : decode cX1_greatestShared 16 = .ok (.lload_n 0, 1) := by decide +kernel
theorem dX1_greatestShared_17 : decode cX1_greatestShared 17 = .ok (.lload_n 2, 1) := by decide +kernel
theorem dX1_greatestShared_18 : decode cX1_greatestShared 18 = .ok (.lrem, 1) := by decide +kernel
theorem dX1_greatestShared_19 : decode cX1_greatestShared 19 = .ok (.lstore 5, 2) := by decide +kernel
theorem dX1_greatestShared_21 : decode cX1_greatestShared 21 = .ok (.lload_n 2, 1) := by decide +kernel
theorem dX1_greatestShared_22 : decode cX1_greatestShared 22 = .ok (.lstore_n 0, 1) := by decide +kernel
theorem dX1_greatestShared_23 : decode cX1_greatestShared 23 = .ok (.lload 5, 2) := by decide +kernel
theorem dX1_greatestShared_25 : decode cX1_greatestShared 25 = .ok (.lstore_n 2, 1) := by decide +kernel
theorem dX1_greatestShared_26 : decode cX1_greatestShared 26 = .ok (.iinc 4 1, 3) := by decide +kernel
theorem dX1_greatestShared_29 : decode cX1_greatestShared 29 = .ok (.goto (-26), 3) := by decide +kernel
theorem dX1_greatestShared_32 : decode cX1_greatestShared 32 = .ok (.lload_n 0, 1) := by decide +kernel
theorem dX1_greatestShared_33 : decode cX1_greatestShared 33 = .ok (.lreturn, 1) := by decide +kernel
theorem dX1_choose_0 : decode cX1_choose 0 = .ok (.lconst 1, 1) := by decide +kernel
theorem dX1_choose_1 : decode cX1_choose 1 = .ok (.lstore_n 2, 1) := by decide +kernel
theorem dX1_choose_2 : decode cX1_choose 2 = .ok (.iconst 0, 1) := by decide +kernel
theorem dX1_choose_3 : decode cX1_choose 3 = .ok (.istore 4, 2) := by decide +kernel
theorem dX1_choose_5 : decode cX1_choose 5 = .ok (.iload 4, 2) := by decide +kernel
theorem dX1_choose_7 : decode cX1_choose 7 = .ok (.iload_n 1, 1) := by decide +kernel
theorem dX1_choose_8 : decode cX1_choose 8 = .ok (.if_icmp .ge 23, 3) := by decide +kernel
theorem dX1_choose_11 : decode cX1_choose 11 = .ok (.lload_n 2, 1) := by decide +kernel
theorem dX1_choose_12 : decode cX1_choose 12 = .ok (.iload_n 0, 1) := by decide +kernel
theorem dX1_choose_13 : decode cX1_choose 13 = .ok (.iload 4, 2) := by decide +kernel
theorem dX1_choose_15 : decode cX1_choose 15 = .ok (.isub, 1) := by decide +kernel
theorem dX1_choose_16 : decode cX1_choose 16 = .ok (.i2l, 1) := by decide +kernel
theorem dX1_choose_17 : decode cX1_choose 17 = .ok (.lmul, 1) := by decide +kernel
theorem dX1_choose_18 : decode cX1_choose 18 = .ok (.iload 4, 2) := by decide +kernel
theorem dX1_choose_20 : decode cX1_choose 20 = .ok (.iconst 1, 1) := by decide +kernel
theorem dX1_choose_21 : decode cX1_choose 21 = .ok (.iadd, 1) := by decide +kernel
theorem dX1_choose_22 : decode cX1_choose 22 = .ok (.i2l, 1) := by decide +kernel
theorem dX1_choose_23 : decode cX1_choose 23 = .ok (.ldiv, 1) := by decide +kernel
theorem dX1_choose_24 : decode cX1_choose 24 = .ok (.lstore_n 2, 1) := by decide +kernel
theorem dX1_choose_25 : decode cX1_choose 25 = .ok (.iinc 4 1, 3) := by decide +kernel
theorem dX1_choose_28 : decode cX1_choose 28 = .ok (.goto (-23), 3) := by decide +kernel
theorem dX1_choose_31 : decode cX1_choose 31 = .ok (.lload_n 2, 1) := by decide +kernel
theorem dX1_choose_32 : decode cX1_choose 32 = .ok (.lreturn, 1) := by decide +kernel
theorem dX2_init_0 : decode cX2_init 0 = .ok (.aload_n 0, 1) := by decide +kernel
theorem dX2_init_1 : decode cX2_init 1 = .ok (.invokespecial 3, 3) := by decide +kernel
theorem dX2_init_4 : decode cX2_init 4 = .ok (.aload_n 0, 1) := by decide +kernel
theorem dX2_init_5 : decode cX2_init 5 = .ok (.sipush 250, 3) := by decide +kernel
theorem dX2_init_8 : decode cX2_init 8 = .ok (.newarray .int, 2) := by decide +kernel
theorem dX2_init_10 : decode cX2_init 10 = .ok (.putfield 9, 3) := by decide +kernel
theorem dX2_init_13 : decode cX2_init 13 = .ok (.aload_n 0, 1) := by decide +kernel
theorem dX2_init_14 : decode cX2_init 14 = .ok (.bipush 6, 2) := by decide +kernel
theorem dX2_init_16 : decode cX2_init 16 = .ok (.newarray .int, 2) := by decide +kernel
theorem dX2_init_18 : decode cX2_init 18 = .ok (.putfield 15, 3) := by decide +kernel
theorem dX2_init_21 : decode cX2_init 21 = .ok (.return_, 1) := by decide +kernel
theorem dX2_put_0 : decode cX2_put 0 = .ok (.aload_n 0, 1) := by decide +kernel
theorem dX2_put_1 : decode cX2_put 1 = .ok (.getfield 18, 3) := by decide +kernel
theorem dX2_put_4 : decode cX2_put 4 = .ok (.sipush 250, 3) := by decide +kernel
theorem dX2_put_7 : decode cX2_put 7 = .ok (.if_icmp .ge 23, 3) := by decide +kernel
theorem dX2_put_10 : decode cX2_put 10 = .ok (.aload_n 0, 1) := by decide +kernel
theorem dX2_put_11 : decode cX2_put 11 = .ok (.getfield 9, 3) := by decide +kernel
theorem dX2_put_14 : decode cX2_put 14 = .ok (.aload_n 0, 1) := by decide +kernel
theorem dX2_put_15 : decode cX2_put 15 = .ok (.getfield 18, 3) := by decide +kernel
theorem dX2_put_18 : decode cX2_put 18 = .ok (.iload_n 1, 1) := by decide +kernel
theorem dX2_put_19 : decode cX2_put 19 = .ok (.iastore, 1) := by decide +kernel
theorem dX2_put_20 : decode cX2_put 20 = .ok (.aload_n 0, 1) := by decide +kernel
theorem dX2_put_21 : decode cX2_put 21 = .ok (.dup, 1) := by decide +kernel
theorem dX2_put_22 : decode cX2_put 22 = .ok (.getfield 18, 3) := by decide +kernel
theorem dX2_put_25 : decode cX2_put 25 = .ok (.iconst 1, 1) := by decide +kernel
theorem dX2_put_26 : decode cX2_put 26 = .ok (.iadd, 1) := by decide +kernel
theorem dX2_put_27 : decode cX2_put 27 = .ok (.putfield 18, 3) := by decide +kernel
theorem dX2_put_30 : decode cX2_put 30 = .ok (.return_, 1) := by decide +kernel
theorem dX2_readInto_0 : decode cX2_readInto 0 = .ok (.aload_n 1, 1) := by decide +kernel
theorem dX2_readInto_1 : decode cX2_readInto 1 = .ok (.invokevirtual 22, 3) := by decide +kernel
theorem dX2_readInto_4 : decode cX2_readInto 4 = .ok (.aload_n 0, 1) := by decide +kernel
theorem dX2_readInto_5 : decode cX2_readInto 5 = .ok (.iconst 0, 1) := by decide +kernel
theorem dX2_readInto_6 : decode cX2_readInto 6 = .ok (.putfield 27, 3) := by decide +kernel
theorem dX2_readInto_9 : decode cX2_readInto 9 = .ok (.iconst 0, 1) := by decide +kernel
theorem dX2_readInto_10 : decode cX2_readInto 10 = .ok (.istore_n 2, 1) := by decide +kernel
theorem dX2_readInto_11 : decode cX2_readInto 11 = .ok (.aload_n 0, 1) := by decide +kernel
theorem dX2_readInto_12 : decode cX2_readInto 12 = .ok (.invokevirtual 30, 3) := by decide +kernel
theorem dX2_readInto_15 : decode cX2_readInto 15 = .ok (.iload_n 2, 1) := by decide +kernel
theorem dX2_readInto_16 : decode cX2_readInto 16 = .ok (.sipush 250, 3) := by decide +kernel
theorem dX2_readInto_19 : decode cX2_readInto 19 = .ok (.if_icmp .ge 36, 3) := by decide +kernel
theorem dX2_readInto_22 : decode cX2_readInto 22 = .ok (.aload_n 0, 1) := by decide +kernel
theorem dX2_readInto_23 : decode cX2_readInto 23 = .ok (.getfield 33, 3) := by decide +kernel
theorem dX2_readInto_26 : decode cX2_readInto 26 = .ok (.ifCond .eq 29, 3) := by decide +kernel
theorem dX2_readInto_29 : decode cX2_readInto 29 = .ok (.aload_n 0, 1) := by decide +kernel
theorem dX2_readInto_30 : decode cX2_readInto 30 = .ok (.aload_n 1, 1) := by decide +kernel
theorem dX2_readInto_31 : decode cX2_readInto 31 = .ok (.invokevirtual 36, 3) := by decide +kernel
theorem dX2_readInto_34 : decode cX2_readInto 34 = .ok (.ifCond .ne 11, 3) := by decide +kernel
theorem dX2_readInto_37 : decode cX2_readInto 37 = .ok (.bipush (-10), 2) := by decide +kernel
theorem dX2_readInto_39 : decode cX2_readInto 39 = .ok (.aload_n 0, 1) := by decide +kernel
theorem dX2_readInto_40 : decode cX2_readInto 40 = .ok (.getfield 40, 3) := by decide +kernel
theorem dX2_readInto_43 : decode cX2_readInto 43 = .ok (.isub, 1) := by decide +kernel
theorem dX2_readInto_44 : decode cX2_readInto 44 = .ok (.ireturn, 1) := by decide +kernel
theorem dX2_readInto_45 : decode cX2_readInto 45 = .ok (.iinc 2 1, 3) := by decide +kernel
theorem dX2_readInto_48 : decode cX2_readInto 48 = .ok (.aload_n 0, 1) := by decide +kernel
theorem dX2_readInto_49 : decode cX2_readInto 49 = .ok (.invokevirtual 30, 3) := by decide +kernel
theorem dX2_readInto_52 : decode cX2_readInto 52 = .ok (.goto (-37), 3) := by decide +kernel
theorem dX2_readInto_55 : decode cX2_readInto 55 = .ok (.iload_n 2, 1) := by decide +kernel
theorem dX2_readInto_56 : decode cX2_readInto 56 = .ok (.ireturn, 1) := by decide +kernel
theorem dX2_readItem_0 : decode cX2_readItem 0 = .ok (.aload_n 0, 1) := by decide +kernel
theorem dX2_readItem_1 : decode cX2_readItem 1 = .ok (.ldc 43, 2) := by decide +kernel
theorem dX2_readItem_3 : decode cX2_readItem 3 = .ok (.invokevirtual 45, 3) := by decide +kernel
theorem dX2_readItem_6 : decode cX2_readItem 6 = .ok (.ifCond .eq 26, 3) := by decide +kernel
theorem dX2_readItem_9 : decode cX2_readItem 9 = .ok (.aload_n 1, 1) := by decide +kernel
theorem dX2_readItem_10 : decode cX2_readItem 10 = .ok (.getfield 49, 3) := by decide +kernel
theorem dX2_readItem_13 : decode cX2_readItem 13 = .ok (.bipush 7, 2) := by decide +kernel
theorem dX2_readItem_15 : decode cX2_readItem 15 = .ok (.if_icmp .ge 15, 3) := by decide +kernel
theorem dX2_readItem_18 : decode cX2_readItem 18 = .ok (.aload_n 0, 1) := by decide +kernel
theorem dX2_readItem_19 : decode cX2_readItem 19 = .ok (.aload_n 1, 1) := by decide +kernel
theorem dX2_readItem_20 : decode cX2_readItem 20 = .ok (.invokevirtual 52, 3) := by decide +kernel
theorem dX2_readItem_23 : decode cX2_readItem 23 = .ok (.ifCond .eq 7, 3) := by decide +kernel
theorem dX2_readItem_26 : decode cX2_readItem 26 = .ok (.iconst 1, 1) := by decide +kernel
theorem dX2_readItem_27 : decode cX2_readItem 27 = .ok (.goto 4, 3) := by decide +kernel
theorem dX2_readItem_30 : decode cX2_readItem 30 = .ok (.iconst 0, 1) := by decide +kernel
theorem dX2_readItem_31 : decode cX2_readItem 31 = .ok (.ireturn, 1) := by decide +kernel
theorem dX2_readItem_32 : decode cX2_readItem 32 = .ok (.aload_n 0, 1) := by decide +kernel
theorem dX2_readItem_33 : decode cX2_readItem 33 = .ok (.ldc 55, 2) := by decide +kernel
theorem dX2_readItem_35 : decode cX2_readItem 35 = .ok (.invokevirtual 45, 3) := by decide +kernel
theorem dX2_readItem_38 : decode cX2_readItem 38 = .ok (.ifCond .eq 26, 3) := by decide +kernel
theorem dX2_readItem_41 : decode cX2_readItem 41 = .ok (.aload_n 1, 1) := by decide +kernel
theorem dX2_readItem_42 : decode cX2_readItem 42 = .ok (.getfield 57, 3) := by decide +kernel
theorem dX2_readItem_45 : decode cX2_readItem 45 = .ok (.bipush 6, 2) := by decide +kernel
theorem dX2_readItem_47 : decode cX2_readItem 47 = .ok (.if_icmp .ge 15, 3) := by decide +kernel
theorem dX2_readItem_50 : decode cX2_readItem 50 = .ok (.aload_n 0, 1) := by decide +kernel
theorem dX2_readItem_51 : decode cX2_readItem 51 = .ok (.aload_n 1, 1) := by decide +kernel
theorem dX2_readItem_52 : decode cX2_readItem 52 = .ok (.invokevirtual 60, 3) := by decide +kernel
theorem dX2_readItem_55 : decode cX2_readItem 55 = .ok (.ifCond .eq 7, 3) := by decide +kernel
theorem dX2_readItem_58 : decode cX2_readItem 58 = .ok (.iconst 1, 1) := by decide +kernel
theorem dX2_readItem_59 : decode cX2_readItem 59 = .ok (.goto 4, 3) := by decide +kernel
theorem dX2_readItem_62 : decode cX2_readItem 62 = .ok (.iconst 0, 1) := by decide +kernel
theorem dX2_readItem_63 : decode cX2_readItem 63 = .ok (.ireturn, 1) := by decide +kernel
theorem dX2_readItem_64 : decode cX2_readItem 64 = .ok (.aload_n 0, 1) := by decide +kernel
theorem dX2_readItem_65 : decode cX2_readItem 65 = .ok (.ldc 63, 2) := by decide +kernel
theorem dX2_readItem_67 : decode cX2_readItem 67 = .ok (.invokevirtual 45, 3) := by decide +kernel
theorem dX2_readItem_70 : decode cX2_readItem 70 = .ok (.ifCond .eq 15, 3) := by decide +kernel
theorem dX2_readItem_73 : decode cX2_readItem 73 = .ok (.aload_n 0, 1) := by decide +kernel
theorem dX2_readItem_74 : decode cX2_readItem 74 = .ok (.aload_n 1, 1) := by decide +kernel
theorem dX2_readItem_75 : decode cX2_readItem 75 = .ok (.invokevirtual 65, 3) := by decide +kernel
theorem dX2_readItem_78 : decode cX2_readItem 78 = .ok (.ifCond .eq 7, 3) := by decide +kernel
theorem dX2_readItem_81 : decode cX2_readItem 81 = .ok (.iconst 1, 1) := by decide +kernel
theorem dX2_readItem_82 : decode cX2_readItem 82 = .ok (.goto 4, 3) := by decide +kernel
theorem dX2_readItem_85 : decode cX2_readItem 85 = .ok (.iconst 0, 1) := by decide +kernel
theorem dX2_readItem_86 : decode cX2_readItem 86 = .ok (.ireturn, 1) := by decide +kernel
theorem dX2_readRoof_0 : decode cX2_readRoof 0 = .ok (.aload_n 0, 1) := by decide +kernel
theorem dX2_readRoof_1 : decode cX2_readRoof 1 = .ok (.iconst 0, 1) := by decide +kernel
theorem dX2_readRoof_2 : decode cX2_readRoof 2 = .ok (.iconst 0, 1) := by decide +kernel
theorem dX2_readRoof_3 : decode cX2_readRoof 3 = .ok (.iconst 5, 1) := by decide +kernel
theorem dX2_readRoof_4 : decode cX2_readRoof 4 = .ok (.invokevirtual 68, 3) := by decide +kernel
theorem dX2_readRoof_7 : decode cX2_readRoof 7 = .ok (.ifCond .eq 69, 3) := by decide +kernel
theorem dX2_readRoof_10 : decode cX2_readRoof 10 = .ok (.aload_n 0, 1) := by decide +kernel
theorem dX2_readRoof_11 : decode cX2_readRoof 11 = .ok (.iconst 1, 1) := by decide +kernel
theorem dX2_readRoof_12 : decode cX2_readRoof 12 = .ok (.iconst 0, 1) := by decide +kernel
theorem dX2_readRoof_13 : decode cX2_readRoof 13 = .ok (.bipush 9, 2) := by decide +kernel
theorem dX2_readRoof_15 : decode cX2_readRoof 15 = .ok (.invokevirtual 68, 3) := by decide +kernel
theorem dX2_readRoof_18 : decode cX2_readRoof 18 = .ok (.ifCond .eq 58, 3) := by decide +kernel
theorem dX2_readRoof_21 : decode cX2_readRoof 21 = .ok (.aload_n 0, 1) := by decide +kernel
theorem dX2_readRoof_22 : decode cX2_readRoof 22 = .ok (.iconst 2, 1) := by decide +kernel
theorem dX2_readRoof_23 : decode cX2_readRoof 23 = .ok (.iconst 0, 1) := by decide +kernel
theorem dX2_readRoof_24 : decode cX2_readRoof 24 = .ok (.bipush 9, 2) := by decide +kernel
theorem dX2_readRoof_26 : decode cX2_readRoof 26 = .ok (.invokevirtual 68, 3) := by decide +kernel
theorem dX2_readRoof_29 : decode cX2_readRoof 29 = .ok (.ifCond .eq 47, 3) := by decide +kernel
theorem dX2_readRoof_32 : decode cX2_readRoof 32 = .ok (.aload_n 0, 1) := by decide +kernel
theorem dX2_readRoof_33 : decode cX2_readRoof 33 = .ok (.iconst 3, 1) := by decide +kernel
theorem dX2_readRoof_34 : decode cX2_readRoof 34 = .ok (.iconst 0, 1) := by decide +kernel
theorem dX2_readRoof_35 : decode cX2_readRoof 35 = .ok (.bipush 9, 2) := by decide +kernel
theorem dX2_readRoof_37 : decode cX2_readRoof 37 = .ok (.invokevirtual 68, 3) := by decide +kernel
theorem dX2_readRoof_40 : decode cX2_readRoof 40 = .ok (.ifCond .eq 36, 3) := by decide +kernel
theorem dX2_readRoof_43 : decode cX2_readRoof 43 = .ok (.aload_n 0, 1) := by decide +kernel
theorem dX2_readRoof_44 : decode cX2_readRoof 44 = .ok (.iconst 4, 1) := by decide +kernel
theorem dX2_readRoof_45 : decode cX2_readRoof 45 = .ok (.iconst 0, 1) := by decide +kernel
theorem dX2_readRoof_46 : decode cX2_readRoof 46 = .ok (.bipush 9, 2) := by decide +kernel
theorem dX2_readRoof_48 : decode cX2_readRoof 48 = .ok (.invokevirtual 68, 3) := by decide +kernel
theorem dX2_readRoof_51 : decode cX2_readRoof 51 = .ok (.ifCond .eq 25, 3) := by decide +kernel
theorem dX2_readRoof_54 : decode cX2_readRoof 54 = .ok (.aload_n 0, 1) := by decide +kernel
theorem dX2_readRoof_55 : decode cX2_readRoof 55 = .ok (.iconst 5, 1) := by decide +kernel
theorem dX2_readRoof_56 : decode cX2_readRoof 56 = .ok (.iconst 0, 1) := by decide +kernel
theorem dX2_readRoof_57 : decode cX2_readRoof 57 = .ok (.bipush 9, 2) := by decide +kernel
theorem dX2_readRoof_59 : decode cX2_readRoof 59 = .ok (.invokevirtual 68, 3) := by decide +kernel
theorem dX2_readRoof_62 : decode cX2_readRoof 62 = .ok (.ifCond .eq 14, 3) := by decide +kernel
theorem dX2_readRoof_65 : decode cX2_readRoof 65 = .ok (.aload_n 0, 1) := by decide +kernel
theorem dX2_readRoof_66 : decode cX2_readRoof 66 = .ok (.invokevirtual 72, 3) := by decide +kernel
theorem dX2_readRoof_69 : decode cX2_readRoof 69 = .ok (.ifCond .eq 7, 3) := by decide +kernel
theorem dX2_readRoof_72 : decode cX2_readRoof 72 = .ok (.iconst 1, 1) := by decide +kernel
theorem dX2_readRoof_73 : decode cX2_readRoof 73 = .ok (.goto 4, 3) := by decide +kernel
theorem dX2_readRoof_76 : decode cX2_readRoof 76 = .ok (.iconst 0, 1) := by decide +kernel
theorem dX2_readRoof_77 : decode cX2_readRoof 77 = .ok (.istore_n 2, 1) := by decide +kernel
theorem dX2_readRoof_78 : decode cX2_readRoof 78 = .ok (.iload_n 2, 1) := by decide +kernel
theorem dX2_readRoof_79 : decode cX2_readRoof 79 = .ok (.ifCond .eq 44, 3) := by decide +kernel
theorem dX2_readRoof_82 : decode cX2_readRoof 82 = .ok (.aload_n 1, 1) := by decide +kernel
theorem dX2_readRoof_83 : decode cX2_readRoof 83 = .ok (.aload_n 0, 1) := by decide +kernel
theorem dX2_readRoof_84 : decode cX2_readRoof 84 = .ok (.getfield 15, 3) := by decide +kernel
theorem dX2_readRoof_87 : decode cX2_readRoof 87 = .ok (.iconst 0, 1) := by decide +kernel
theorem dX2_readRoof_88 : decode cX2_readRoof 88 = .ok (.iaload, 1) := by decide +kernel
theorem dX2_readRoof_89 : decode cX2_readRoof 89 = .ok (.aload_n 0, 1) := by decide +kernel
theorem dX2_readRoof_90 : decode cX2_readRoof 90 = .ok (.getfield 15, 3) := by decide +kernel
theorem dX2_readRoof_93 : decode cX2_readRoof 93 = .ok (.iconst 1, 1) := by decide +kernel
theorem dX2_readRoof_94 : decode cX2_readRoof 94 = .ok (.iaload, 1) := by decide +kernel
theorem dX2_readRoof_95 : decode cX2_readRoof 95 = .ok (.aload_n 0, 1) := by decide +kernel
theorem dX2_readRoof_96 : decode cX2_readRoof 96 = .ok (.getfield 15, 3) := by decide +kernel
theorem dX2_readRoof_99 : decode cX2_readRoof 99 = .ok (.iconst 2, 1) := by decide +kernel
theorem dX2_readRoof_100 : decode cX2_readRoof 100 = .ok (.iaload, 1) := by decide +kernel
theorem dX2_readRoof_101 : decode cX2_readRoof 101 = .ok (.aload_n 0, 1) := by decide +kernel
theorem dX2_readRoof_102 : decode cX2_readRoof 102 = .ok (.getfield 15, 3) := by decide +kernel
theorem dX2_readRoof_105 : decode cX2_readRoof 105 = .ok (.iconst 3, 1) := by decide +kernel
theorem dX2_readRoof_106 : decode cX2_readRoof 106 = .ok (.iaload, 1) := by decide +kernel
theorem dX2_readRoof_107 : decode cX2_readRoof 107 = .ok (.aload_n 0, 1) := by decide +kernel
theorem dX2_readRoof_108 : decode cX2_readRoof 108 = .ok (.getfield 15, 3) := by decide +kernel
theorem dX2_readRoof_111 : decode cX2_readRoof 111 = .ok (.iconst 4, 1) := by decide +kernel
theorem dX2_readRoof_112 : decode cX2_readRoof 112 = .ok (.iaload, 1) := by decide +kernel
theorem dX2_readRoof_113 : decode cX2_readRoof 113 = .ok (.aload_n 0, 1) := by decide +kernel
theorem dX2_readRoof_114 : decode cX2_readRoof 114 = .ok (.getfield 15, 3) := by decide +kernel
theorem dX2_readRoof_117 : decode cX2_readRoof 117 = .ok (.iconst 5, 1) := by decide +kernel
theorem dX2_readRoof_118 : decode cX2_readRoof 118 = .ok (.iaload, 1) := by decide +kernel
theorem dX2_readRoof_119 : decode cX2_readRoof 119 = .ok (.invokevirtual 76, 3) := by decide +kernel
theorem dX2_readRoof_122 : decode cX2_readRoof 122 = .ok (.pop, 1) := by decide +kernel
theorem dX2_readRoof_123 : decode cX2_readRoof 123 = .ok (.iload_n 2, 1) := by decide +kernel
theorem dX2_readRoof_124 : decode cX2_readRoof 124 = .ok (.ireturn, 1) := by decide +kernel
theorem dX2_readStorm_0 : decode cX2_readStorm 0 = .ok (.aload_n 0, 1) := by decide +kernel
theorem dX2_readStorm_1 : decode cX2_readStorm 1 = .ok (.iconst 0, 1) := by decide +kernel
theorem dX2_readStorm_2 : decode cX2_readStorm 2 = .ok (.iconst 0, 1) := by decide +kernel
theorem dX2_readStorm_3 : decode cX2_readStorm 3 = .ok (.bipush 6, 2) := by decide +kernel
theorem dX2_readStorm_5 : decode cX2_readStorm 5 = .ok (.invokevirtual 68, 3) := by decide +kernel
theorem dX2_readStorm_8 : decode cX2_readStorm 8 = .ok (.ifCond .eq 62, 3) := by decide +kernel
theorem dX2_readStorm_11 : decode cX2_readStorm 11 = .ok (.aload_n 0, 1) := by decide +kernel
theorem dX2_readStorm_12 : decode cX2_readStorm 12 = .ok (.iconst 1, 1) := by decide +kernel
theorem dX2_readStorm_13 : decode cX2_readStorm 13 = .ok (.aload_n 0, 1) := by decide +kernel
theorem dX2_readStorm_14 : decode cX2_readStorm 14 = .ok (.getfield 15, 3) := by decide +kernel
theorem dX2_readStorm_17 : decode cX2_readStorm 17 = .ok (.iconst 0, 1) := by decide +kernel
theorem dX2_readStorm_18 : decode cX2_readStorm 18 = .ok (.iaload, 1) := by decide +kernel
theorem dX2_readStorm_19 : decode cX2_readStorm 19 = .ok (.bipush 6, 2) := by decide +kernel
theorem dX2_readStorm_21 : decode cX2_readStorm 21 = .ok (.invokevirtual 68, 3) := by decide +kernel
theorem dX2_readStorm_24 : decode cX2_readStorm 24 = .ok (.ifCond .eq 46, 3) := by decide +kernel
theorem dX2_readStorm_27 : decode cX2_readStorm 27 = .ok (.aload_n 0, 1) := by decide +kernel
theorem dX2_readStorm_28 : decode cX2_readStorm 28 = .ok (.iconst 2, 1) := by decide +kernel
theorem dX2_readStorm_29 : decode cX2_readStorm 29 = .ok (.iconst 0, 1) := by decide +kernel
theorem dX2_readStorm_30 : decode cX2_readStorm 30 = .ok (.iconst 1, 1) := by decide +kernel
theorem dX2_readStorm_31 : decode cX2_readStorm 31 = .ok (.invokevirtual 68, 3) := by decide +kernel
theorem dX2_readStorm_34 : decode cX2_readStorm 34 = .ok (.ifCond .eq 36, 3) := by decide +kernel
theorem dX2_readStorm_37 : decode cX2_readStorm 37 = .ok (.aload_n 0, 1) := by decide +kernel
theorem dX2_readStorm_38 : decode cX2_readStorm 38 = .ok (.iconst 3, 1) := by decide +kernel
theorem dX2_readStorm_39 : decode cX2_readStorm 39 = .ok (.iconst 1, 1) := by decide +kernel
theorem dX2_readStorm_40 : decode cX2_readStorm 40 = .ok (.bipush 9, 2) := by decide +kernel
theorem dX2_readStorm_42 : decode cX2_readStorm 42 = .ok (.invokevirtual 68, 3) := by decide +kernel
theorem dX2_readStorm_45 : decode cX2_readStorm 45 = .ok (.ifCond .eq 25, 3) := by decide +kernel
theorem dX2_readStorm_48 : decode cX2_readStorm 48 = .ok (.aload_n 0, 1) := by decide +kernel
theorem dX2_readStorm_49 : decode cX2_readStorm 49 = .ok (.iconst 4, 1) := by decide +kernel
theorem dX2_readStorm_50 : decode cX2_readStorm 50 = .ok (.iconst 1, 1) := by decide +kernel
theorem dX2_readStorm_51 : decode cX2_readStorm 51 = .ok (.bipush 9, 2) := by decide +kernel
theorem dX2_readStorm_53 : decode cX2_readStorm 53 = .ok (.invokevirtual 68, 3) := by decide +kernel
theorem dX2_readStorm_56 : decode cX2_readStorm 56 = .ok (.ifCond .eq 14, 3) := by decide +kernel
theorem dX2_readStorm_59 : decode cX2_readStorm 59 = .ok (.aload_n 0, 1) := by decide +kernel
theorem dX2_readStorm_60 : decode cX2_readStorm 60 = .ok (.invokevirtual 72, 3) := by decide +kernel
theorem dX2_readStorm_63 : decode cX2_readStorm 63 = .ok (.ifCond .eq 7, 3) := by decide +kernel
theorem dX2_readStorm_66 : decode cX2_readStorm 66 = .ok (.iconst 1, 1) := by decide +kernel
theorem dX2_readStorm_67 : decode cX2_readStorm 67 = .ok (.goto 4, 3) := by decide +kernel
theorem dX2_readStorm_70 : decode cX2_readStorm 70 = .ok (.iconst 0, 1) := by decide +kernel
theorem dX2_readStorm_71 : decode cX2_readStorm 71 = .ok (.istore_n 2, 1) := by decide +kernel
theorem dX2_readStorm_72 : decode cX2_readStorm 72 = .ok (.iload_n 2, 1) := by decide +kernel
theorem dX2_readStorm_73 : decode cX2_readStorm 73 = .ok (.ifCond .eq 38, 3) := by decide +kernel
theorem dX2_readStorm_76 : decode cX2_readStorm 76 = .ok (.aload_n 1, 1) := by decide +kernel
theorem dX2_readStorm_77 : decode cX2_readStorm 77 = .ok (.aload_n 0, 1) := by decide +kernel
theorem dX2_readStorm_78 : decode cX2_readStorm 78 = .ok (.getfield 15, 3) := by decide +kernel
theorem dX2_readStorm_81 : decode cX2_readStorm 81 = .ok (.iconst 0, 1) := by decide +kernel
theorem dX2_readStorm_82 : decode cX2_readStorm 82 = .ok (.iaload, 1) := by decide +kernel
theorem dX2_readStorm_83 : decode cX2_readStorm 83 = .ok (.aload_n 0, 1) := by decide +kernel
theorem dX2_readStorm_84 : decode cX2_readStorm 84 = .ok (.getfield 15, 3) := by decide +kernel
theorem dX2_readStorm_87 : decode cX2_readStorm 87 = .ok (.iconst 1, 1) := by decide +kernel
theorem dX2_readStorm_88 : decode cX2_readStorm 88 = .ok (.iaload, 1) := by decide +kernel
