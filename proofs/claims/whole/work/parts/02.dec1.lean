theorem dX2_readStorm_89 : decode cX2_readStorm 89 = .ok (.aload_n 0, 1) := by decide +kernel
theorem dX2_readStorm_90 : decode cX2_readStorm 90 = .ok (.getfield 15, 3) := by decide +kernel
theorem dX2_readStorm_93 : decode cX2_readStorm 93 = .ok (.iconst 2, 1) := by decide +kernel
theorem dX2_readStorm_94 : decode cX2_readStorm 94 = .ok (.iaload, 1) := by decide +kernel
theorem dX2_readStorm_95 : decode cX2_readStorm 95 = .ok (.aload_n 0, 1) := by decide +kernel
theorem dX2_readStorm_96 : decode cX2_readStorm 96 = .ok (.getfield 15, 3) := by decide +kernel
theorem dX2_readStorm_99 : decode cX2_readStorm 99 = .ok (.iconst 3, 1) := by decide +kernel
theorem dX2_readStorm_100 : decode cX2_readStorm 100 = .ok (.iaload, 1) := by decide +kernel
theorem dX2_readStorm_101 : decode cX2_readStorm 101 = .ok (.aload_n 0, 1) := by decide +kernel
theorem dX2_readStorm_102 : decode cX2_readStorm 102 = .ok (.getfield 15, 3) := by decide +kernel
theorem dX2_readStorm_105 : decode cX2_readStorm 105 = .ok (.iconst 4, 1) := by decide +kernel
theorem dX2_readStorm_106 : decode cX2_readStorm 106 = .ok (.iaload, 1) := by decide +kernel
theorem dX2_readStorm_107 : decode cX2_readStorm 107 = .ok (.invokevirtual 80, 3) := by decide +kernel
theorem dX2_readStorm_110 : decode cX2_readStorm 110 = .ok (.pop, 1) := by decide +kernel
theorem dX2_readStorm_111 : decode cX2_readStorm 111 = .ok (.iload_n 2, 1) := by decide +kernel
theorem dX2_readStorm_112 : decode cX2_readStorm 112 = .ok (.ireturn, 1) := by decide +kernel
theorem dX2_readCannon_0 : decode cX2_readCannon 0 = .ok (.aload_n 0, 1) := by decide +kernel
theorem dX2_readCannon_1 : decode cX2_readCannon 1 = .ok (.iconst 0, 1) := by decide +kernel
theorem dX2_readCannon_2 : decode cX2_readCannon 2 = .ok (.iconst 0, 1) := by decide +kernel
theorem dX2_readCannon_3 : decode cX2_readCannon 3 = .ok (.bipush 6, 2) := by decide +kernel
theorem dX2_readCannon_5 : decode cX2_readCannon 5 = .ok (.invokevirtual 68, 3) := by decide +kernel
theorem dX2_readCannon_8 : decode cX2_readCannon 8 = .ok (.ifCond .eq 28, 3) := by decide +kernel
theorem dX2_readCannon_11 : decode cX2_readCannon 11 = .ok (.aload_n 1, 1) := by decide +kernel
theorem dX2_readCannon_12 : decode cX2_readCannon 12 = .ok (.getfield 84, 3) := by decide +kernel
theorem dX2_readCannon_15 : decode cX2_readCannon 15 = .ok (.aload_n 0, 1) := by decide +kernel
theorem dX2_readCannon_16 : decode cX2_readCannon 16 = .ok (.getfield 15, 3) := by decide +kernel
theorem dX2_readCannon_19 : decode cX2_readCannon 19 = .ok (.iconst 0, 1) := by decide +kernel
theorem dX2_readCannon_20 : decode cX2_readCannon 20 = .ok (.iaload, 1) := by decide +kernel
theorem dX2_readCannon_21 : decode cX2_readCannon 21 = .ok (.iaload, 1) := by decide +kernel
theorem dX2_readCannon_22 : decode cX2_readCannon 22 = .ok (.ifCond .ne 14, 3) := by decide +kernel
theorem dX2_readCannon_25 : decode cX2_readCannon 25 = .ok (.aload_n 0, 1) := by decide +kernel
theorem dX2_readCannon_26 : decode cX2_readCannon 26 = .ok (.invokevirtual 72, 3) := by decide +kernel
theorem dX2_readCannon_29 : decode cX2_readCannon 29 = .ok (.ifCond .eq 7, 3) := by decide +kernel
theorem dX2_readCannon_32 : decode cX2_readCannon 32 = .ok (.iconst 1, 1) := by decide +kernel
theorem dX2_readCannon_33 : decode cX2_readCannon 33 = .ok (.goto 4, 3) := by decide +kernel
theorem dX2_readCannon_36 : decode cX2_readCannon 36 = .ok (.iconst 0, 1) := by decide +kernel
theorem dX2_readCannon_37 : decode cX2_readCannon 37 = .ok (.istore_n 2, 1) := by decide +kernel
theorem dX2_readCannon_38 : decode cX2_readCannon 38 = .ok (.iload_n 2, 1) := by decide +kernel
theorem dX2_readCannon_39 : decode cX2_readCannon 39 = .ok (.ifCond .eq 15, 3) := by decide +kernel
theorem dX2_readCannon_42 : decode cX2_readCannon 42 = .ok (.aload_n 1, 1) := by decide +kernel
theorem dX2_readCannon_43 : decode cX2_readCannon 43 = .ok (.getfield 84, 3) := by decide +kernel
theorem dX2_readCannon_46 : decode cX2_readCannon 46 = .ok (.aload_n 0, 1) := by decide +kernel
theorem dX2_readCannon_47 : decode cX2_readCannon 47 = .ok (.getfield 15, 3) := by decide +kernel
theorem dX2_readCannon_50 : decode cX2_readCannon 50 = .ok (.iconst 0, 1) := by decide +kernel
theorem dX2_readCannon_51 : decode cX2_readCannon 51 = .ok (.iaload, 1) := by decide +kernel
theorem dX2_readCannon_52 : decode cX2_readCannon 52 = .ok (.iconst 1, 1) := by decide +kernel
theorem dX2_readCannon_53 : decode cX2_readCannon 53 = .ok (.iastore, 1) := by decide +kernel
theorem dX2_readCannon_54 : decode cX2_readCannon 54 = .ok (.iload_n 2, 1) := by decide +kernel
theorem dX2_readCannon_55 : decode cX2_readCannon 55 = .ok (.ireturn, 1) := by decide +kernel
theorem dX2_readNumber_0 : decode cX2_readNumber 0 = .ok (.aload_n 0, 1) := by decide +kernel
theorem dX2_readNumber_1 : decode cX2_readNumber 1 = .ok (.invokevirtual 30, 3) := by decide +kernel
theorem dX2_readNumber_4 : decode cX2_readNumber 4 = .ok (.aload_n 0, 1) := by decide +kernel
theorem dX2_readNumber_5 : decode cX2_readNumber 5 = .ok (.getfield 33, 3) := by decide +kernel
theorem dX2_readNumber_8 : decode cX2_readNumber 8 = .ok (.iconst 2, 1) := by decide +kernel
theorem dX2_readNumber_9 : decode cX2_readNumber 9 = .ok (.if_icmp .eq 5, 3) := by decide +kernel
theorem dX2_readNumber_12 : decode cX2_readNumber 12 = .ok (.iconst 0, 1) := by decide +kernel
theorem dX2_readNumber_13 : decode cX2_readNumber 13 = .ok (.ireturn, 1) := by decide +kernel
theorem dX2_readNumber_14 : decode cX2_readNumber 14 = .ok (.aload_n 0, 1) := by decide +kernel
theorem dX2_readNumber_15 : decode cX2_readNumber 15 = .ok (.getfield 15, 3) := by decide +kernel
theorem dX2_readNumber_18 : decode cX2_readNumber 18 = .ok (.iload_n 1, 1) := by decide +kernel
theorem dX2_readNumber_19 : decode cX2_readNumber 19 = .ok (.aload_n 0, 1) := by decide +kernel
theorem dX2_readNumber_20 : decode cX2_readNumber 20 = .ok (.getfield 9, 3) := by decide +kernel
theorem dX2_readNumber_23 : decode cX2_readNumber 23 = .ok (.aload_n 0, 1) := by decide +kernel
theorem dX2_readNumber_24 : decode cX2_readNumber 24 = .ok (.getfield 40, 3) := by decide +kernel
theorem dX2_readNumber_27 : decode cX2_readNumber 27 = .ok (.iaload, 1) := by decide +kernel
theorem dX2_readNumber_28 : decode cX2_readNumber 28 = .ok (.bipush 48, 2) := by decide +kernel
theorem dX2_readNumber_30 : decode cX2_readNumber 30 = .ok (.isub, 1) := by decide +kernel
theorem dX2_readNumber_31 : decode cX2_readNumber 31 = .ok (.iastore, 1) := by decide +kernel
theorem dX2_readNumber_32 : decode cX2_readNumber 32 = .ok (.aload_n 0, 1) := by decide +kernel
theorem dX2_readNumber_33 : decode cX2_readNumber 33 = .ok (.getfield 15, 3) := by decide +kernel
theorem dX2_readNumber_36 : decode cX2_readNumber 36 = .ok (.iload_n 1, 1) := by decide +kernel
theorem dX2_readNumber_37 : decode cX2_readNumber 37 = .ok (.iaload, 1) := by decide +kernel
theorem dX2_readNumber_38 : decode cX2_readNumber 38 = .ok (.iload_n 2, 1) := by decide +kernel
theorem dX2_readNumber_39 : decode cX2_readNumber 39 = .ok (.iload_n 3, 1) := by decide +kernel
theorem dX2_readNumber_40 : decode cX2_readNumber 40 = .ok (.invokestatic 87, 3) := by decide +kernel
theorem dX2_readNumber_43 : decode cX2_readNumber 43 = .ok (.ireturn, 1) := by decide +kernel
theorem dX2_readStop_0 : decode cX2_readStop 0 = .ok (.aload_n 0, 1) := by decide +kernel
theorem dX2_readStop_1 : decode cX2_readStop 1 = .ok (.invokevirtual 30, 3) := by decide +kernel
theorem dX2_readStop_4 : decode cX2_readStop 4 = .ok (.aload_n 0, 1) := by decide +kernel
theorem dX2_readStop_5 : decode cX2_readStop 5 = .ok (.getfield 33, 3) := by decide +kernel
theorem dX2_readStop_8 : decode cX2_readStop 8 = .ok (.iconst 3, 1) := by decide +kernel
theorem dX2_readStop_9 : decode cX2_readStop 9 = .ok (.if_icmp .ne 7, 3) := by decide +kernel
theorem dX2_readStop_12 : decode cX2_readStop 12 = .ok (.iconst 1, 1) := by decide +kernel
theorem dX2_readStop_13 : decode cX2_readStop 13 = .ok (.goto 4, 3) := by decide +kernel
theorem dX2_readStop_16 : decode cX2_readStop 16 = .ok (.iconst 0, 1) := by decide +kernel
theorem dX2_readStop_17 : decode cX2_readStop 17 = .ok (.ireturn, 1) := by decide +kernel
theorem dX2_isWord_0 : decode cX2_isWord 0 = .ok (.aload_n 0, 1) := by decide +kernel
theorem dX2_isWord_1 : decode cX2_isWord 1 = .ok (.getfield 33, 3) := by decide +kernel
theorem dX2_isWord_4 : decode cX2_isWord 4 = .ok (.iconst 1, 1) := by decide +kernel
theorem dX2_isWord_5 : decode cX2_isWord 5 = .ok (.if_icmp .ne 19, 3) := by decide +kernel
theorem dX2_isWord_8 : decode cX2_isWord 8 = .ok (.aload_n 0, 1) := by decide +kernel
theorem dX2_isWord_9 : decode cX2_isWord 9 = .ok (.getfield 27, 3) := by decide +kernel
theorem dX2_isWord_12 : decode cX2_isWord 12 = .ok (.aload_n 0, 1) := by decide +kernel
theorem dX2_isWord_13 : decode cX2_isWord 13 = .ok (.getfield 40, 3) := by decide +kernel
theorem dX2_isWord_16 : decode cX2_isWord 16 = .ok (.isub, 1) := by decide +kernel
theorem dX2_isWord_17 : decode cX2_isWord 17 = .ok (.aload_n 1, 1) := by decide +kernel
theorem dX2_isWord_18 : decode cX2_isWord 18 = .ok (.invokevirtual 90, 3) := by decide +kernel
theorem dX2_isWord_21 : decode cX2_isWord 21 = .ok (.if_icmp .eq 5, 3) := by decide +kernel
theorem dX2_isWord_24 : decode cX2_isWord 24 = .ok (.iconst 0, 1) := by decide +kernel
theorem dX2_isWord_25 : decode cX2_isWord 25 = .ok (.ireturn, 1) := by decide +kernel
theorem dX2_isWord_26 : decode cX2_isWord 26 = .ok (.iconst 0, 1) := by decide +kernel
theorem dX2_isWord_27 : decode cX2_isWord 27 = .ok (.istore_n 2, 1) := by decide +kernel
theorem dX2_isWord_28 : decode cX2_isWord 28 = .ok (.iload_n 2, 1) := by decide +kernel
theorem dX2_isWord_29 : decode cX2_isWord 29 = .ok (.aload_n 1, 1) := by decide +kernel
theorem dX2_isWord_30 : decode cX2_isWord 30 = .ok (.invokevirtual 90, 3) := by decide +kernel
theorem dX2_isWord_33 : decode cX2_isWord 33 = .ok (.if_icmp .ge 30, 3) := by decide +kernel
theorem dX2_isWord_36 : decode cX2_isWord 36 = .ok (.aload_n 0, 1) := by decide +kernel
theorem dX2_isWord_37 : decode cX2_isWord 37 = .ok (.getfield 9, 3) := by decide +kernel
theorem dX2_isWord_40 : decode cX2_isWord 40 = .ok (.aload_n 0, 1) := by decide +kernel
theorem dX2_isWord_41 : decode cX2_isWord 41 = .ok (.getfield 40, 3) := by decide +kernel
theorem dX2_isWord_44 : decode cX2_isWord 44 = .ok (.iload_n 2, 1) := by decide +kernel
theorem dX2_isWord_45 : decode cX2_isWord 45 = .ok (.iadd, 1) := by decide +kernel
theorem dX2_isWord_46 : decode cX2_isWord 46 = .ok (.iaload, 1) := by decide +kernel
theorem dX2_isWord_47 : decode cX2_isWord 47 = .ok (.aload_n 1, 1) := by decide +kernel
theorem dX2_isWord_48 : decode cX2_isWord 48 = .ok (.iload_n 2, 1) := by decide +kernel
theorem dX2_isWord_49 : decode cX2_isWord 49 = .ok (.invokevirtual 95, 3) := by decide +kernel
theorem dX2_isWord_52 : decode cX2_isWord 52 = .ok (.if_icmp .eq 5, 3) := by decide +kernel
theorem dX2_isWord_55 : decode cX2_isWord 55 = .ok (.iconst 0, 1) := by decide +kernel
theorem dX2_isWord_56 : decode cX2_isWord 56 = .ok (.ireturn, 1) := by decide +kernel
theorem dX2_isWord_57 : decode cX2_isWord 57 = .ok (.iinc 2 1, 3) := by decide +kernel
theorem dX2_isWord_60 : decode cX2_isWord 60 = .ok (.goto (-32), 3) := by decide +kernel
theorem dX2_isWord_63 : decode cX2_isWord 63 = .ok (.iconst 1, 1) := by decide +kernel
theorem dX2_isWord_64 : decode cX2_isWord 64 = .ok (.ireturn, 1) := by decide +kernel
theorem dX2_nextToken_0 : decode cX2_nextToken 0 = .ok (.aload_n 0, 1) := by decide +kernel
theorem dX2_nextToken_1 : decode cX2_nextToken 1 = .ok (.aload_n 0, 1) := by decide +kernel
theorem dX2_nextToken_2 : decode cX2_nextToken 2 = .ok (.aload_n 0, 1) := by decide +kernel
theorem dX2_nextToken_3 : decode cX2_nextToken 3 = .ok (.getfield 27, 3) := by decide +kernel
theorem dX2_nextToken_6 : decode cX2_nextToken 6 = .ok (.bipush 32, 2) := by decide +kernel
theorem dX2_nextToken_8 : decode cX2_nextToken 8 = .ok (.bipush 32, 2) := by decide +kernel
theorem dX2_nextToken_10 : decode cX2_nextToken 10 = .ok (.invokevirtual 99, 3) := by decide +kernel
theorem dX2_nextToken_13 : decode cX2_nextToken 13 = .ok (.putfield 40, 3) := by decide +kernel
theorem dX2_nextToken_16 : decode cX2_nextToken 16 = .ok (.aload_n 0, 1) := by decide +kernel
theorem dX2_nextToken_17 : decode cX2_nextToken 17 = .ok (.aload_n 0, 1) := by decide +kernel
theorem dX2_nextToken_18 : decode cX2_nextToken 18 = .ok (.getfield 40, 3) := by decide +kernel
theorem dX2_nextToken_21 : decode cX2_nextToken 21 = .ok (.iconst 1, 1) := by decide +kernel
theorem dX2_nextToken_22 : decode cX2_nextToken 22 = .ok (.iadd, 1) := by decide +kernel
theorem dX2_nextToken_23 : decode cX2_nextToken 23 = .ok (.putfield 27, 3) := by decide +kernel
theorem dX2_nextToken_26 : decode cX2_nextToken 26 = .ok (.aload_n 0, 1) := by decide +kernel
theorem dX2_nextToken_27 : decode cX2_nextToken 27 = .ok (.getfield 40, 3) := by decide +kernel
theorem dX2_nextToken_30 : decode cX2_nextToken 30 = .ok (.aload_n 0, 1) := by decide +kernel
theorem dX2_nextToken_31 : decode cX2_nextToken 31 = .ok (.getfield 18, 3) := by decide +kernel
theorem dX2_nextToken_34 : decode cX2_nextToken 34 = .ok (.if_icmp .lt 19, 3) := by decide +kernel
theorem dX2_nextToken_37 : decode cX2_nextToken 37 = .ok (.aload_n 0, 1) := by decide +kernel
theorem dX2_nextToken_38 : decode cX2_nextToken 38 = .ok (.iconst 0, 1) := by decide +kernel
theorem dX2_nextToken_39 : decode cX2_nextToken 39 = .ok (.putfield 33, 3) := by decide +kernel
theorem dX2_nextToken_42 : decode cX2_nextToken 42 = .ok (.aload_n 0, 1) := by decide +kernel
theorem dX2_nextToken_43 : decode cX2_nextToken 43 = .ok (.aload_n 0, 1) := by decide +kernel
theorem dX2_nextToken_44 : decode cX2_nextToken 44 = .ok (.getfield 18, 3) := by decide +kernel
theorem dX2_nextToken_47 : decode cX2_nextToken 47 = .ok (.putfield 27, 3) := by decide +kernel
theorem dX2_nextToken_50 : decode cX2_nextToken 50 = .ok (.goto 129, 3) := by decide +kernel
theorem dX2_nextToken_53 : decode cX2_nextToken 53 = .ok (.aload_n 0, 1) := by decide +kernel
theorem dX2_nextToken_54 : decode cX2_nextToken 54 = .ok (.getfield 9, 3) := by decide +kernel
theorem dX2_nextToken_57 : decode cX2_nextToken 57 = .ok (.aload_n 0, 1) := by decide +kernel
theorem dX2_nextToken_58 : decode cX2_nextToken 58 = .ok (.getfield 40, 3) := by decide +kernel
theorem dX2_nextToken_61 : decode cX2_nextToken 61 = .ok (.iaload, 1) := by decide +kernel
theorem dX2_nextToken_62 : decode cX2_nextToken 62 = .ok (.bipush 97, 2) := by decide +kernel
theorem dX2_nextToken_64 : decode cX2_nextToken 64 = .ok (.bipush 122, 2) := by decide +kernel
theorem dX2_nextToken_66 : decode cX2_nextToken 66 = .ok (.invokestatic 87, 3) := by decide +kernel
theorem dX2_nextToken_69 : decode cX2_nextToken 69 = .ok (.ifCond .eq 27, 3) := by decide +kernel
theorem dX2_nextToken_72 : decode cX2_nextToken 72 = .ok (.aload_n 0, 1) := by decide +kernel
theorem dX2_nextToken_73 : decode cX2_nextToken 73 = .ok (.iconst 1, 1) := by decide +kernel
theorem dX2_nextToken_74 : decode cX2_nextToken 74 = .ok (.putfield 33, 3) := by decide +kernel
theorem dX2_nextToken_77 : decode cX2_nextToken 77 = .ok (.aload_n 0, 1) := by decide +kernel
theorem dX2_nextToken_78 : decode cX2_nextToken 78 = .ok (.aload_n 0, 1) := by decide +kernel
theorem dX2_nextToken_79 : decode cX2_nextToken 79 = .ok (.aload_n 0, 1) := by decide +kernel
theorem dX2_nextToken_80 : decode cX2_nextToken 80 = .ok (.getfield 40, 3) := by decide +kernel
theorem dX2_nextToken_83 : decode cX2_nextToken 83 = .ok (.bipush 97, 2) := by decide +kernel
theorem dX2_nextToken_85 : decode cX2_nextToken 85 = .ok (.bipush 122, 2) := by decide +kernel
theorem dX2_nextToken_87 : decode cX2_nextToken 87 = .ok (.invokevirtual 99, 3) := by decide +kernel
theorem dX2_nextToken_90 : decode cX2_nextToken 90 = .ok (.putfield 27, 3) := by decide +kernel
theorem dX2_nextToken_93 : decode cX2_nextToken 93 = .ok (.goto 86, 3) := by decide +kernel
theorem dX2_nextToken_96 : decode cX2_nextToken 96 = .ok (.aload_n 0, 1) := by decide +kernel
theorem dX2_nextToken_97 : decode cX2_nextToken 97 = .ok (.getfield 9, 3) := by decide +kernel
theorem dX2_nextToken_100 : decode cX2_nextToken 100 = .ok (.aload_n 0, 1) := by decide +kernel
theorem dX2_nextToken_101 : decode cX2_nextToken 101 = .ok (.getfield 40, 3) := by decide +kernel
theorem dX2_nextToken_104 : decode cX2_nextToken 104 = .ok (.iaload, 1) := by decide +kernel
theorem dX2_nextToken_105 : decode cX2_nextToken 105 = .ok (.bipush 48, 2) := by decide +kernel
theorem dX2_nextToken_107 : decode cX2_nextToken 107 = .ok (.bipush 57, 2) := by decide +kernel
theorem dX2_nextToken_109 : decode cX2_nextToken 109 = .ok (.invokestatic 87, 3) := by decide +kernel
theorem dX2_nextToken_112 : decode cX2_nextToken 112 = .ok (.ifCond .eq 44, 3) := by decide +kernel
theorem dX2_nextToken_115 : decode cX2_nextToken 115 = .ok (.aload_n 0, 1) := by decide +kernel
theorem dX2_nextToken_116 : decode cX2_nextToken 116 = .ok (.aload_n 0, 1) := by decide +kernel
theorem dX2_nextToken_117 : decode cX2_nextToken 117 = .ok (.aload_n 0, 1) := by decide +kernel
theorem dX2_nextToken_118 : decode cX2_nextToken 118 = .ok (.getfield 40, 3) := by decide +kernel
theorem dX2_nextToken_121 : decode cX2_nextToken 121 = .ok (.bipush 48, 2) := by decide +kernel
theorem dX2_nextToken_123 : decode cX2_nextToken 123 = .ok (.bipush 57, 2) := by decide +kernel
theorem dX2_nextToken_125 : decode cX2_nextToken 125 = .ok (.invokevirtual 99, 3) := by decide +kernel
theorem dX2_nextToken_128 : decode cX2_nextToken 128 = .ok (.putfield 27, 3) := by decide +kernel
theorem dX2_nextToken_131 : decode cX2_nextToken 131 = .ok (.aload_n 0, 1) := by decide +kernel
theorem dX2_nextToken_132 : decode cX2_nextToken 132 = .ok (.aload_n 0, 1) := by decide +kernel
theorem dX2_nextToken_133 : decode cX2_nextToken 133 = .ok (.getfield 27, 3) := by decide +kernel
theorem dX2_nextToken_136 : decode cX2_nextToken 136 = .ok (.aload_n 0, 1) := by decide +kernel
theorem dX2_nextToken_137 : decode cX2_nextToken 137 = .ok (.getfield 40, 3) := by decide +kernel
theorem dX2_nextToken_140 : decode cX2_nextToken 140 = .ok (.isub, 1) := by decide +kernel
theorem dX2_nextToken_141 : decode cX2_nextToken 141 = .ok (.iconst 1, 1) := by decide +kernel
theorem dX2_nextToken_142 : decode cX2_nextToken 142 = .ok (.if_icmp .ne 7, 3) := by decide +kernel
theorem dX2_nextToken_145 : decode cX2_nextToken 145 = .ok (.iconst 2, 1) := by decide +kernel
theorem dX2_nextToken_146 : decode cX2_nextToken 146 = .ok (.goto 4, 3) := by decide +kernel
theorem dX2_nextToken_149 : decode cX2_nextToken 149 = .ok (.iconst 4, 1) := by decide +kernel
theorem dX2_nextToken_150 : decode cX2_nextToken 150 = .ok (.putfield 33, 3) := by decide +kernel
theorem dX2_nextToken_153 : decode cX2_nextToken 153 = .ok (.goto 26, 3) := by decide +kernel
theorem dX2_nextToken_156 : decode cX2_nextToken 156 = .ok (.aload_n 0, 1) := by decide +kernel
theorem dX2_nextToken_157 : decode cX2_nextToken 157 = .ok (.aload_n 0, 1) := by decide +kernel
theorem dX2_nextToken_158 : decode cX2_nextToken 158 = .ok (.getfield 9, 3) := by decide +kernel
theorem dX2_nextToken_161 : decode cX2_nextToken 161 = .ok (.aload_n 0, 1) := by decide +kernel
theorem dX2_nextToken_162 : decode cX2_nextToken 162 = .ok (.getfield 40, 3) := by decide +kernel
theorem dX2_nextToken_165 : decode cX2_nextToken 165 = .ok (.iaload, 1) := by decide +kernel
theorem dX2_nextToken_166 : decode cX2_nextToken 166 = .ok (.bipush 59, 2) := by decide +kernel
theorem dX2_nextToken_168 : decode cX2_nextToken 168 = .ok (.if_icmp .ne 7, 3) := by decide +kernel
theorem dX2_nextToken_171 : decode cX2_nextToken 171 = .ok (.iconst 3, 1) := by decide +kernel
theorem dX2_nextToken_172 : decode cX2_nextToken 172 = .ok (.goto 4, 3) := by decide +kernel
theorem dX2_nextToken_175 : decode cX2_nextToken 175 = .ok (.iconst 4, 1) := by decide +kernel
theorem dX2_nextToken_176 : decode cX2_nextToken 176 = .ok (.putfield 33, 3) := by decide +kernel
theorem dX2_nextToken_179 : decode cX2_nextToken 179 = .ok (.return_, 1) := by decide +kernel
theorem dX2_endOfRun_0 : decode cX2_endOfRun 0 = .ok (.iload_n 1, 1) := by decide +kernel
theorem dX2_endOfRun_1 : decode cX2_endOfRun 1 = .ok (.istore 4, 2) := by decide +kernel
theorem dX2_endOfRun_3 : decode cX2_endOfRun 3 = .ok (.iload 4, 2) := by decide +kernel
theorem dX2_endOfRun_5 : decode cX2_endOfRun 5 = .ok (.aload_n 0, 1) := by decide +kernel
theorem dX2_endOfRun_6 : decode cX2_endOfRun 6 = .ok (.getfield 18, 3) := by decide +kernel
theorem dX2_endOfRun_9 : decode cX2_endOfRun 9 = .ok (.if_icmp .ge 34, 3) := by decide +kernel
theorem dX2_endOfRun_12 : decode cX2_endOfRun 12 = .ok (.aload_n 0, 1) := by decide +kernel
theorem dX2_endOfRun_13 : decode cX2_endOfRun 13 = .ok (.getfield 9, 3) := by decide +kernel
theorem dX2_endOfRun_16 : decode cX2_endOfRun 16 = .ok (.iload 4, 2) := by decide +kernel
theorem dX2_endOfRun_18 : decode cX2_endOfRun 18 = .ok (.iaload, 1) := by decide +kernel
theorem dX2_endOfRun_19 : decode cX2_endOfRun 19 = .ok (.iload_n 2, 1) := by decide +kernel
theorem dX2_endOfRun_20 : decode cX2_endOfRun 20 = .ok (.if_icmp .lt 14, 3) := by decide +kernel
theorem dX2_endOfRun_23 : decode cX2_endOfRun 23 = .ok (.aload_n 0, 1) := by decide +kernel
theorem dX2_endOfRun_24 : decode cX2_endOfRun 24 = .ok (.getfield 9, 3) := by decide +kernel
theorem dX2_endOfRun_27 : decode cX2_endOfRun 27 = .ok (.iload 4, 2) := by decide +kernel
theorem dX2_endOfRun_29 : decode cX2_endOfRun 29 = .ok (.iaload, 1) := by decide +kernel
theorem dX2_endOfRun_30 : decode cX2_endOfRun 30 = .ok (.iload_n 3, 1) := by decide +kernel
theorem dX2_endOfRun_31 : decode cX2_endOfRun 31 = .ok (.if_icmp .le 6, 3) := by decide +kernel
theorem dX2_endOfRun_34 : decode cX2_endOfRun 34 = .ok (.iload 4, 2) := by decide +kernel
theorem dX2_endOfRun_36 : decode cX2_endOfRun 36 = .ok (.ireturn, 1) := by decide +kernel
theorem dX2_endOfRun_37 : decode cX2_endOfRun 37 = .ok (.iinc 4 1, 3) := by decide +kernel
theorem dX2_endOfRun_40 : decode cX2_endOfRun 40 = .ok (.goto (-37), 3) := by decide +kernel
theorem dX2_endOfRun_43 : decode cX2_endOfRun 43 = .ok (.aload_n 0, 1) := by decide +kernel
theorem dX2_endOfRun_44 : decode cX2_endOfRun 44 = .ok (.getfield 18, 3) := by decide +kernel
theorem dX2_endOfRun_47 : decode cX2_endOfRun 47 = .ok (.ireturn, 1) := by decide +kernel
theorem dX3_init_0 : decode cX3_init 0 = .ok (.aload_n 0, 1) := by decide +kernel
theorem dX3_init_1 : decode cX3_init 1 = .ok (.invokespecial 3, 3) := by decide +kernel
theorem dX3_init_4 : decode cX3_init 4 = .ok (.aload_n 0, 1) := by decide +kernel
theorem dX3_init_5 : decode cX3_init 5 = .ok (.new 9, 3) := by decide +kernel
theorem dX3_init_8 : decode cX3_init 8 = .ok (.dup, 1) := by decide +kernel
theorem dX3_init_9 : decode cX3_init 9 = .ok (.invokespecial 11, 3) := by decide +kernel
theorem dX3_init_12 : decode cX3_init 12 = .ok (.putfield 12, 3) := by decide +kernel
theorem dX3_init_15 : decode cX3_init 15 = .ok (.aload_n 0, 1) := by decide +kernel
theorem dX3_init_16 : decode cX3_init 16 = .ok (.iconst 3, 1) := by decide +kernel
theorem dX3_init_17 : decode cX3_init 17 = .ok (.anewarray 9, 3) := by decide +kernel
theorem dX3_init_20 : decode cX3_init 20 = .ok (.dup, 1) := by decide +kernel
theorem dX3_init_21 : decode cX3_init 21 = .ok (.iconst 0, 1) := by decide +kernel
theorem dX3_init_22 : decode cX3_init 22 = .ok (.new 9, 3) := by decide +kernel
theorem dX3_init_25 : decode cX3_init 25 = .ok (.dup, 1) := by decide +kernel
theorem dX3_init_26 : decode cX3_init 26 = .ok (.invokespecial 11, 3) := by decide +kernel
theorem dX3_init_29 : decode cX3_init 29 = .ok (.aastore, 1) := by decide +kernel
theorem dX3_init_30 : decode cX3_init 30 = .ok (.dup, 1) := by decide +kernel
theorem dX3_init_31 : decode cX3_init 31 = .ok (.iconst 1, 1) := by decide +kernel
theorem dX3_init_32 : decode cX3_init 32 = .ok (.new 9, 3) := by decide +kernel
theorem dX3_init_35 : decode cX3_init 35 = .ok (.dup, 1) := by decide +kernel
theorem dX3_init_36 : decode cX3_init 36 = .ok (.invokespecial 11, 3) := by decide +kernel
theorem dX3_init_39 : decode cX3_init 39 = .ok (.aastore, 1) := by decide +kernel
theorem dX3_init_40 : decode cX3_init 40 = .ok (.dup, 1) := by decide +kernel
theorem dX3_init_41 : decode cX3_init 41 = .ok (.iconst 2, 1) := by decide +kernel
theorem dX3_init_42 : decode cX3_init 42 = .ok (.new 9, 3) := by decide +kernel
theorem dX3_init_45 : decode cX3_init 45 = .ok (.dup, 1) := by decide +kernel
theorem dX3_init_46 : decode cX3_init 46 = .ok (.invokespecial 11, 3) := by decide +kernel
theorem dX3_init_49 : decode cX3_init 49 = .ok (.aastore, 1) := by decide +kernel
theorem dX3_init_50 : decode cX3_init 50 = .ok (.putfield 18, 3) := by decide +kernel
theorem dX3_init_53 : decode cX3_init 53 = .ok (.return_, 1) := by decide +kernel
theorem dX3_remember_0 : decode cX3_remember 0 = .ok (.aload_n 0, 1) := by decide +kernel
theorem dX3_remember_1 : decode cX3_remember 1 = .ok (.getfield 22, 3) := by decide +kernel
theorem dX3_remember_4 : decode cX3_remember 4 = .ok (.iconst 3, 1) := by decide +kernel
theorem dX3_remember_5 : decode cX3_remember 5 = .ok (.if_icmp .lt 7, 3) := by decide +kernel
theorem dX3_remember_8 : decode cX3_remember 8 = .ok (.aload_n 0, 1) := by decide +kernel
theorem dX3_remember_9 : decode cX3_remember 9 = .ok (.invokevirtual 26, 3) := by decide +kernel
theorem dX3_remember_12 : decode cX3_remember 12 = .ok (.aload_n 0, 1) := by decide +kernel
theorem dX3_remember_13 : decode cX3_remember 13 = .ok (.getfield 18, 3) := by decide +kernel
theorem dX3_remember_16 : decode cX3_remember 16 = .ok (.aload_n 0, 1) := by decide +kernel
theorem dX3_remember_17 : decode cX3_remember 17 = .ok (.getfield 22, 3) := by decide +kernel
theorem dX3_remember_20 : decode cX3_remember 20 = .ok (.aaload, 1) := by decide +kernel
theorem dX3_remember_21 : decode cX3_remember 21 = .ok (.aload_n 0, 1) := by decide +kernel
theorem dX3_remember_22 : decode cX3_remember 22 = .ok (.getfield 12, 3) := by decide +kernel
theorem dX3_remember_25 : decode cX3_remember 25 = .ok (.invokevirtual 29, 3) := by decide +kernel
theorem dX3_remember_28 : decode cX3_remember 28 = .ok (.aload_n 0, 1) := by decide +kernel
theorem dX3_remember_29 : decode cX3_remember 29 = .ok (.dup, 1) := by decide +kernel
theorem dX3_remember_30 : decode cX3_remember 30 = .ok (.getfield 22, 3) := by decide +kernel
theorem dX3_remember_33 : decode cX3_remember 33 = .ok (.iconst 1, 1) := by decide +kernel
theorem dX3_remember_34 : decode cX3_remember 34 = .ok (.iadd, 1) := by decide +kernel
theorem dX3_remember_35 : decode cX3_remember 35 = .ok (.putfield 22, 3) := by decide +kernel
theorem dX3_remember_38 : decode cX3_remember 38 = .ok (.return_, 1) := by decide +kernel
theorem dX3_forgetOldest_0 : decode cX3_forgetOldest 0 = .ok (.aload_n 0, 1) := by decide +kernel
theorem dX3_forgetOldest_1 : decode cX3_forgetOldest 1 = .ok (.getfield 18, 3) := by decide +kernel
theorem dX3_forgetOldest_4 : decode cX3_forgetOldest 4 = .ok (.iconst 0, 1) := by decide +kernel
theorem dX3_forgetOldest_5 : decode cX3_forgetOldest 5 = .ok (.aaload, 1) := by decide +kernel
theorem dX3_forgetOldest_6 : decode cX3_forgetOldest 6 = .ok (.astore_n 1, 1) := by decide +kernel
theorem dX3_forgetOldest_7 : decode cX3_forgetOldest 7 = .ok (.aload_n 0, 1) := by decide +kernel
theorem dX3_forgetOldest_8 : decode cX3_forgetOldest 8 = .ok (.getfield 18, 3) := by decide +kernel
theorem dX3_forgetOldest_11 : decode cX3_forgetOldest 11 = .ok (.iconst 0, 1) := by decide +kernel
theorem dX3_forgetOldest_12 : decode cX3_forgetOldest 12 = .ok (.aload_n 0, 1) := by decide +kernel
theorem dX3_forgetOldest_13 : decode cX3_forgetOldest 13 = .ok (.getfield 18, 3) := by decide +kernel
theorem dX3_forgetOldest_16 : decode cX3_forgetOldest 16 = .ok (.iconst 1, 1) := by decide +kernel
theorem dX3_forgetOldest_17 : decode cX3_forgetOldest 17 = .ok (.aaload, 1) := by decide +kernel
theorem dX3_forgetOldest_18 : decode cX3_forgetOldest 18 = .ok (.aastore, 1) := by decide +kernel
theorem dX3_forgetOldest_19 : decode cX3_forgetOldest 19 = .ok (.aload_n 0, 1) := by decide +kernel
theorem dX3_forgetOldest_20 : decode cX3_forgetOldest 20 = .ok (.getfield 18, 3) := by decide +kernel
theorem dX3_forgetOldest_23 : decode cX3_forgetOldest 23 = .ok (.iconst 1, 1) := by decide +kernel
theorem dX3_forgetOldest_24 : decode cX3_forgetOldest 24 = .ok (.aload_n 0, 1) := by decide +kernel
theorem dX3_forgetOldest_25 : decode cX3_forgetOldest 25 = .ok (.getfield 18, 3) := by decide +kernel
theorem dX3_forgetOldest_28 : decode cX3_forgetOldest 28 = .ok (.iconst 2, 1) := by decide +kernel
theorem dX3_forgetOldest_29 : decode cX3_forgetOldest 29 = .ok (.aaload, 1) := by decide +kernel
theorem dX3_forgetOldest_30 : decode cX3_forgetOldest 30 = .ok (.aastore, 1) := by decide +kernel
theorem dX3_forgetOldest_31 : decode cX3_forgetOldest 31 = .ok (.aload_n 0, 1) := by decide +kernel
theorem dX3_forgetOldest_32 : decode cX3_forgetOldest 32 = .ok (.getfield 18, 3) := by decide +kernel
theorem dX3_forgetOldest_35 : decode cX3_forgetOldest 35 = .ok (.iconst 2, 1) := by decide +kernel
theorem dX3_forgetOldest_36 : decode cX3_forgetOldest 36 = .ok (.aload_n 1, 1) := by decide +kernel
theorem dX3_forgetOldest_37 : decode cX3_forgetOldest 37 = .ok (.aastore, 1) := by decide +kernel
theorem dX3_forgetOldest_38 : decode cX3_forgetOldest 38 = .ok (.aload_n 0, 1) := by decide +kernel
theorem dX3_forgetOldest_39 : decode cX3_forgetOldest 39 = .ok (.iconst 2, 1) := by decide +kernel
theorem dX3_forgetOldest_40 : decode cX3_forgetOldest 40 = .ok (.putfield 22, 3) := by decide +kernel
theorem dX3_forgetOldest_43 : decode cX3_forgetOldest 43 = .ok (.return_, 1) := by decide +kernel
theorem dX3_goBack_0 : decode cX3_goBack 0 = .ok (.aload_n 0, 1) := by decide +kernel
theorem dX3_goBack_1 : decode cX3_goBack 1 = .ok (.getfield 22, 3) := by decide +kernel
theorem dX3_goBack_4 : decode cX3_goBack 4 = .ok (.ifCond .gt 5, 3) := by decide +kernel
theorem dX3_goBack_7 : decode cX3_goBack 7 = .ok (.iconst 0, 1) := by decide +kernel
theorem dX3_goBack_8 : decode cX3_goBack 8 = .ok (.ireturn, 1) := by decide +kernel
theorem dX3_goBack_9 : decode cX3_goBack 9 = .ok (.aload_n 0, 1) := by decide +kernel
theorem dX3_goBack_10 : decode cX3_goBack 10 = .ok (.dup, 1) := by decide +kernel
theorem dX3_goBack_11 : decode cX3_goBack 11 = .ok (.getfield 22, 3) := by decide +kernel
theorem dX3_goBack_14 : decode cX3_goBack 14 = .ok (.iconst 1, 1) := by decide +kernel
theorem dX3_goBack_15 : decode cX3_goBack 15 = .ok (.isub, 1) := by decide +kernel
theorem dX3_goBack_16 : decode cX3_goBack 16 = .ok (.putfield 22, 3) := by decide +kernel
theorem dX3_goBack_19 : decode cX3_goBack 19 = .ok (.aload_n 0, 1) := by decide +kernel
theorem dX3_goBack_20 : decode cX3_goBack 20 = .ok (.getfield 12, 3) := by decide +kernel
theorem dX3_goBack_23 : decode cX3_goBack 23 = .ok (.aload_n 0, 1) := by decide +kernel
theorem dX3_goBack_24 : decode cX3_goBack 24 = .ok (.getfield 18, 3) := by decide +kernel
theorem dX3_goBack_27 : decode cX3_goBack 27 = .ok (.aload_n 0, 1) := by decide +kernel
theorem dX3_goBack_28 : decode cX3_goBack 28 = .ok (.getfield 22, 3) := by decide +kernel
theorem dX3_goBack_31 : decode cX3_goBack 31 = .ok (.aaload, 1) := by decide +kernel
theorem dX3_goBack_32 : decode cX3_goBack 32 = .ok (.invokevirtual 29, 3) := by decide +kernel
theorem dX3_goBack_35 : decode cX3_goBack 35 = .ok (.iconst 1, 1) := by decide +kernel
theorem dX3_goBack_36 : decode cX3_goBack 36 = .ok (.ireturn, 1) := by decide +kernel
theorem dX3_become_0 : decode cX3_become 0 = .ok (.aload_n 0, 1) := by decide +kernel
theorem dX3_become_1 : decode cX3_become 1 = .ok (.getfield 12, 3) := by decide +kernel
theorem dX3_become_4 : decode cX3_become 4 = .ok (.aload_n 1, 1) := by decide +kernel
theorem dX3_become_5 : decode cX3_become 5 = .ok (.getfield 12, 3) := by decide +kernel
theorem dX3_become_8 : decode cX3_become 8 = .ok (.invokevirtual 29, 3) := by decide +kernel
theorem dX3_become_11 : decode cX3_become 11 = .ok (.aload_n 0, 1) := by decide +kernel
theorem dX3_become_12 : decode cX3_become 12 = .ok (.aload_n 1, 1) := by decide +kernel
theorem dX3_become_13 : decode cX3_become 13 = .ok (.getfield 22, 3) := by decide +kernel
theorem dX3_become_16 : decode cX3_become 16 = .ok (.putfield 22, 3) := by decide +kernel
theorem dX3_become_19 : decode cX3_become 19 = .ok (.iconst 0, 1) := by decide +kernel
theorem dX3_become_20 : decode cX3_become 20 = .ok (.istore_n 2, 1) := by decide +kernel
theorem dX3_become_21 : decode cX3_become 21 = .ok (.iload_n 2, 1) := by decide +kernel
theorem dX3_become_22 : decode cX3_become 22 = .ok (.aload_n 0, 1) := by decide +kernel
theorem dX3_become_23 : decode cX3_become 23 = .ok (.getfield 22, 3) := by decide +kernel
theorem dX3_become_26 : decode cX3_become 26 = .ok (.if_icmp .ge 24, 3) := by decide +kernel
theorem dX3_become_29 : decode cX3_become 29 = .ok (.aload_n 0, 1) := by decide +kernel
theorem dX3_become_30 : decode cX3_become 30 = .ok (.getfield 18, 3) := by decide +kernel
theorem dX3_become_33 : decode cX3_become 33 = .ok (.iload_n 2, 1) := by decide +kernel
theorem dX3_become_34 : decode cX3_become 34 = .ok (.aaload, 1) := by decide +kernel
theorem dX3_become_35 : decode cX3_become 35 = .ok (.aload_n 1, 1) := by decide +kernel
theorem dX3_become_36 : decode cX3_become 36 = .ok (.getfield 18, 3) := by decide +kernel
theorem dX3_become_39 : decode cX3_become 39 = .ok (.iload_n 2, 1) := by decide +kernel
theorem dX3_become_40 : decode cX3_become 40 = .ok (.aaload, 1) := by decide +kernel
theorem dX3_become_41 : decode cX3_become 41 = .ok (.invokevirtual 29, 3) := by decide +kernel
theorem dX3_become_44 : decode cX3_become 44 = .ok (.iinc 2 1, 3) := by decide +kernel
theorem dX3_become_47 : decode cX3_become 47 = .ok (.goto (-26), 3) := by decide +kernel
theorem dX3_become_50 : decode cX3_become 50 = .ok (.return_, 1) := by decide +kernel
theorem dX4_init_0 : decode cX4_init 0 = .ok (.aload_n 0, 1) := by decide +kernel
theorem dX4_init_1 : decode cX4_init 1 = .ok (.invokespecial 1, 3) := by decide +kernel
theorem dX4_init_4 : decode cX4_init 4 = .ok (.aload_n 0, 1) := by decide +kernel
theorem dX4_init_5 : decode cX4_init 5 = .ok (.new 7, 3) := by decide +kernel
theorem dX4_init_8 : decode cX4_init 8 = .ok (.dup, 1) := by decide +kernel
theorem dX4_init_9 : decode cX4_init 9 = .ok (.invokespecial 9, 3) := by decide +kernel
theorem dX4_init_12 : decode cX4_init 12 = .ok (.putfield 10, 3) := by decide +kernel
theorem dX4_init_15 : decode cX4_init 15 = .ok (.aload_n 0, 1) := by decide +kernel
theorem dX4_init_16 : decode cX4_init 16 = .ok (.new 7, 3) := by decide +kernel
theorem dX4_init_19 : decode cX4_init 19 = .ok (.dup, 1) := by decide +kernel
theorem dX4_init_20 : decode cX4_init 20 = .ok (.invokespecial 9, 3) := by decide +kernel
theorem dX4_init_23 : decode cX4_init 23 = .ok (.putfield 16, 3) := by decide +kernel
theorem dX4_init_26 : decode cX4_init 26 = .ok (.aload_n 0, 1) := by decide +kernel
theorem dX4_init_27 : decode cX4_init 27 = .ok (.new 7, 3) := by decide +kernel
theorem dX4_init_30 : decode cX4_init 30 = .ok (.dup, 1) := by decide +kernel
theorem dX4_init_31 : decode cX4_init 31 = .ok (.invokespecial 9, 3) := by decide +kernel
theorem dX4_init_34 : decode cX4_init 34 = .ok (.putfield 19, 3) := by decide +kernel
theorem dX4_init_37 : decode cX4_init 37 = .ok (.aload_n 0, 1) := by decide +kernel
theorem dX4_init_38 : decode cX4_init 38 = .ok (.new 22, 3) := by decide +kernel
theorem dX4_init_41 : decode cX4_init 41 = .ok (.dup, 1) := by decide +kernel
theorem dX4_init_42 : decode cX4_init 42 = .ok (.invokespecial 24, 3) := by decide +kernel
theorem dX4_init_45 : decode cX4_init 45 = .ok (.putfield 25, 3) := by decide +kernel
theorem dX4_init_48 : decode cX4_init 48 = .ok (.aload_n 0, 1) := by decide +kernel
theorem dX4_init_49 : decode cX4_init 49 = .ok (.new 29, 3) := by decide +kernel
theorem dX4_init_52 : decode cX4_init 52 = .ok (.dup, 1) := by decide +kernel
theorem dX4_init_53 : decode cX4_init 53 = .ok (.invokespecial 31, 3) := by decide +kernel
theorem dX4_init_56 : decode cX4_init 56 = .ok (.putfield 32, 3) := by decide +kernel
theorem dX4_init_59 : decode cX4_init 59 = .ok (.aload_n 0, 1) := by decide +kernel
theorem dX4_init_60 : decode cX4_init 60 = .ok (.new 36, 3) := by decide +kernel
theorem dX4_init_63 : decode cX4_init 63 = .ok (.dup, 1) := by decide +kernel
theorem dX4_init_64 : decode cX4_init 64 = .ok (.invokespecial 38, 3) := by decide +kernel
theorem dX4_init_67 : decode cX4_init 67 = .ok (.putfield 39, 3) := by decide +kernel
theorem dX4_init_70 : decode cX4_init 70 = .ok (.return_, 1) := by decide +kernel
theorem dX4_roof_0 : decode cX4_roof 0 = .ok (.iload_n 1, 1) := by decide +kernel
theorem dX4_roof_1 : decode cX4_roof 1 = .ok (.iconst 0, 1) := by decide +kernel
theorem dX4_roof_2 : decode cX4_roof 2 = .ok (.iconst 5, 1) := by decide +kernel
theorem dX4_roof_3 : decode cX4_roof 3 = .ok (.invokestatic 43, 3) := by decide +kernel
theorem dX4_roof_6 : decode cX4_roof 6 = .ok (.ifCond .eq 36, 3) := by decide +kernel
theorem dX4_roof_9 : decode cX4_roof 9 = .ok (.iload_n 2, 1) := by decide +kernel
theorem dX4_roof_10 : decode cX4_roof 10 = .ok (.iconst 0, 1) := by decide +kernel
theorem dX4_roof_11 : decode cX4_roof 11 = .ok (.bipush 9, 2) := by decide +kernel
theorem dX4_roof_13 : decode cX4_roof 13 = .ok (.invokestatic 43, 3) := by decide +kernel
theorem dX4_roof_16 : decode cX4_roof 16 = .ok (.ifCond .eq 26, 3) := by decide +kernel
theorem dX4_roof_19 : decode cX4_roof 19 = .ok (.iload_n 3, 1) := by decide +kernel
theorem dX4_roof_20 : decode cX4_roof 20 = .ok (.iload 4, 2) := by decide +kernel
theorem dX4_roof_22 : decode cX4_roof 22 = .ok (.invokestatic 47, 3) := by decide +kernel
theorem dX4_roof_25 : decode cX4_roof 25 = .ok (.ifCond .eq 17, 3) := by decide +kernel
theorem dX4_roof_28 : decode cX4_roof 28 = .ok (.iload 5, 2) := by decide +kernel
theorem dX4_roof_30 : decode cX4_roof 30 = .ok (.iload 6, 2) := by decide +kernel
theorem dX4_roof_32 : decode cX4_roof 32 = .ok (.invokestatic 47, 3) := by decide +kernel
theorem dX4_roof_35 : decode cX4_roof 35 = .ok (.ifCond .eq 7, 3) := by decide +kernel
theorem dX4_roof_38 : decode cX4_roof 38 = .ok (.iconst 1, 1) := by decide +kernel
theorem dX4_roof_39 : decode cX4_roof 39 = .ok (.goto 4, 3) := by decide +kernel
theorem dX4_roof_42 : decode cX4_roof 42 = .ok (.iconst 0, 1) := by decide +kernel
theorem dX4_roof_43 : decode cX4_roof 43 = .ok (.istore 7, 2) := by decide +kernel
theorem dX4_roof_45 : decode cX4_roof 45 = .ok (.iload 7, 2) := by decide +kernel
theorem dX4_roof_47 : decode cX4_roof 47 = .ok (.ifCond .ne 10, 3) := by decide +kernel
theorem dX4_roof_50 : decode cX4_roof 50 = .ok (.aload_n 0, 1) := by decide +kernel
theorem dX4_roof_51 : decode cX4_roof 51 = .ok (.bipush (-2), 2) := by decide +kernel
theorem dX4_roof_53 : decode cX4_roof 53 = .ok (.invokevirtual 51, 3) := by decide +kernel
theorem dX4_roof_56 : decode cX4_roof 56 = .ok (.ireturn, 1) := by decide +kernel
theorem dX4_roof_57 : decode cX4_roof 57 = .ok (.aload_n 0, 1) := by decide +kernel
theorem dX4_roof_58 : decode cX4_roof 58 = .ok (.getfield 10, 3) := by decide +kernel
theorem dX4_roof_61 : decode cX4_roof 61 = .ok (.getfield 55, 3) := by decide +kernel
theorem dX4_roof_64 : decode cX4_roof 64 = .ok (.getfield 58, 3) := by decide +kernel
theorem dX4_roof_67 : decode cX4_roof 67 = .ok (.bipush 7, 2) := by decide +kernel
theorem dX4_roof_69 : decode cX4_roof 69 = .ok (.if_icmp .lt 10, 3) := by decide +kernel
theorem dX4_roof_72 : decode cX4_roof 72 = .ok (.aload_n 0, 1) := by decide +kernel
theorem dX4_roof_73 : decode cX4_roof 73 = .ok (.bipush (-4), 2) := by decide +kernel
theorem dX4_roof_75 : decode cX4_roof 75 = .ok (.invokevirtual 51, 3) := by decide +kernel
theorem dX4_roof_78 : decode cX4_roof 78 = .ok (.ireturn, 1) := by decide +kernel
theorem dX4_roof_79 : decode cX4_roof 79 = .ok (.aload_n 0, 1) := by decide +kernel
theorem dX4_roof_80 : decode cX4_roof 80 = .ok (.getfield 10, 3) := by decide +kernel
theorem dX4_roof_83 : decode cX4_roof 83 = .ok (.getfield 55, 3) := by decide +kernel
theorem dX4_roof_86 : decode cX4_roof 86 = .ok (.iload_n 1, 1) := by decide +kernel
theorem dX4_roof_87 : decode cX4_roof 87 = .ok (.iload_n 2, 1) := by decide +kernel
theorem dX4_roof_88 : decode cX4_roof 88 = .ok (.iload_n 3, 1) := by decide +kernel
theorem dX4_roof_89 : decode cX4_roof 89 = .ok (.iload 4, 2) := by decide +kernel
theorem dX4_roof_91 : decode cX4_roof 91 = .ok (.iload 5, 2) := by decide +kernel
theorem dX4_roof_93 : decode cX4_roof 93 = .ok (.iload 6, 2) := by decide +kernel
theorem dX4_roof_95 : decode cX4_roof 95 = .ok (.invokevirtual 62, 3) := by decide +kernel
theorem dX4_roof_98 : decode cX4_roof 98 = .ok (.ireturn, 1) := by decide +kernel
theorem dX4_storm_0 : decode cX4_storm 0 = .ok (.iload_n 1, 1) := by decide +kernel
theorem dX4_storm_1 : decode cX4_storm 1 = .ok (.iconst 0, 1) := by decide +kernel
theorem dX4_storm_2 : decode cX4_storm 2 = .ok (.bipush 6, 2) := by decide +kernel
theorem dX4_storm_4 : decode cX4_storm 4 = .ok (.invokestatic 43, 3) := by decide +kernel
theorem dX4_storm_7 : decode cX4_storm 7 = .ok (.ifCond .eq 48, 3) := by decide +kernel
theorem dX4_storm_10 : decode cX4_storm 10 = .ok (.iload_n 2, 1) := by decide +kernel
theorem dX4_storm_11 : decode cX4_storm 11 = .ok (.iload_n 1, 1) := by decide +kernel
theorem dX4_storm_12 : decode cX4_storm 12 = .ok (.bipush 6, 2) := by decide +kernel
theorem dX4_storm_14 : decode cX4_storm 14 = .ok (.invokestatic 43, 3) := by decide +kernel
theorem dX4_storm_17 : decode cX4_storm 17 = .ok (.ifCond .eq 38, 3) := by decide +kernel
theorem dX4_storm_20 : decode cX4_storm 20 = .ok (.iload_n 3, 1) := by decide +kernel
theorem dX4_storm_21 : decode cX4_storm 21 = .ok (.iconst 0, 1) := by decide +kernel
theorem dX4_storm_22 : decode cX4_storm 22 = .ok (.iconst 1, 1) := by decide +kernel
theorem dX4_storm_23 : decode cX4_storm 23 = .ok (.invokestatic 43, 3) := by decide +kernel
theorem dX4_storm_26 : decode cX4_storm 26 = .ok (.ifCond .eq 29, 3) := by decide +kernel
theorem dX4_storm_29 : decode cX4_storm 29 = .ok (.iload 4, 2) := by decide +kernel
theorem dX4_storm_31 : decode cX4_storm 31 = .ok (.iconst 1, 1) := by decide +kernel
theorem dX4_storm_32 : decode cX4_storm 32 = .ok (.bipush 9, 2) := by decide +kernel
theorem dX4_storm_34 : decode cX4_storm 34 = .ok (.invokestatic 43, 3) := by decide +kernel
theorem dX4_storm_37 : decode cX4_storm 37 = .ok (.ifCond .eq 18, 3) := by decide +kernel
theorem dX4_storm_40 : decode cX4_storm 40 = .ok (.iload 5, 2) := by decide +kernel
theorem dX4_storm_42 : decode cX4_storm 42 = .ok (.iconst 1, 1) := by decide +kernel
theorem dX4_storm_43 : decode cX4_storm 43 = .ok (.bipush 9, 2) := by decide +kernel
theorem dX4_storm_45 : decode cX4_storm 45 = .ok (.invokestatic 43, 3) := by decide +kernel
theorem dX4_storm_48 : decode cX4_storm 48 = .ok (.ifCond .eq 7, 3) := by decide +kernel
theorem dX4_storm_51 : decode cX4_storm 51 = .ok (.iconst 1, 1) := by decide +kernel
theorem dX4_storm_52 : decode cX4_storm 52 = .ok (.goto 4, 3) := by decide +kernel
theorem dX4_storm_55 : decode cX4_storm 55 = .ok (.iconst 0, 1) := by decide +kernel
theorem dX4_storm_56 : decode cX4_storm 56 = .ok (.istore 6, 2) := by decide +kernel
theorem dX4_storm_58 : decode cX4_storm 58 = .ok (.iload 6, 2) := by decide +kernel
theorem dX4_storm_60 : decode cX4_storm 60 = .ok (.ifCond .ne 10, 3) := by decide +kernel
theorem dX4_storm_63 : decode cX4_storm 63 = .ok (.aload_n 0, 1) := by decide +kernel
theorem dX4_storm_64 : decode cX4_storm 64 = .ok (.bipush (-2), 2) := by decide +kernel
theorem dX4_storm_66 : decode cX4_storm 66 = .ok (.invokevirtual 51, 3) := by decide +kernel
theorem dX4_storm_69 : decode cX4_storm 69 = .ok (.ireturn, 1) := by decide +kernel
theorem dX4_storm_70 : decode cX4_storm 70 = .ok (.aload_n 0, 1) := by decide +kernel
theorem dX4_storm_71 : decode cX4_storm 71 = .ok (.getfield 10, 3) := by decide +kernel
theorem dX4_storm_74 : decode cX4_storm 74 = .ok (.getfield 55, 3) := by decide +kernel
theorem dX4_storm_77 : decode cX4_storm 77 = .ok (.getfield 66, 3) := by decide +kernel
theorem dX4_storm_80 : decode cX4_storm 80 = .ok (.bipush 6, 2) := by decide +kernel
theorem dX4_storm_82 : decode cX4_storm 82 = .ok (.if_icmp .lt 10, 3) := by decide +kernel
theorem dX4_storm_85 : decode cX4_storm 85 = .ok (.aload_n 0, 1) := by decide +kernel
theorem dX4_storm_86 : decode cX4_storm 86 = .ok (.bipush (-4), 2) := by decide +kernel
theorem dX4_storm_88 : decode cX4_storm 88 = .ok (.invokevirtual 51, 3) := by decide +kernel
theorem dX4_storm_91 : decode cX4_storm 91 = .ok (.ireturn, 1) := by decide +kernel
theorem dX4_storm_92 : decode cX4_storm 92 = .ok (.aload_n 0, 1) := by decide +kernel
theorem dX4_storm_93 : decode cX4_storm 93 = .ok (.getfield 10, 3) := by decide +kernel
theorem dX4_storm_96 : decode cX4_storm 96 = .ok (.getfield 55, 3) := by decide +kernel
theorem dX4_storm_99 : decode cX4_storm 99 = .ok (.iload_n 1, 1) := by decide +kernel
theorem dX4_storm_100 : decode cX4_storm 100 = .ok (.iload_n 2, 1) := by decide +kernel
theorem dX4_storm_101 : decode cX4_storm 101 = .ok (.iload_n 3, 1) := by decide +kernel
theorem dX4_storm_102 : decode cX4_storm 102 = .ok (.iload 4, 2) := by decide +kernel
theorem dX4_storm_104 : decode cX4_storm 104 = .ok (.iload 5, 2) := by decide +kernel
theorem dX4_storm_106 : decode cX4_storm 106 = .ok (.invokevirtual 69, 3) := by decide +kernel
theorem dX4_storm_109 : decode cX4_storm 109 = .ok (.ireturn, 1) := by decide +kernel
theorem dX4_cannon_0 : decode cX4_cannon 0 = .ok (.iload_n 1, 1) := by decide +kernel
theorem dX4_cannon_1 : decode cX4_cannon 1 = .ok (.iconst 0, 1) := by decide +kernel
theorem dX4_cannon_2 : decode cX4_cannon 2 = .ok (.bipush 6, 2) := by decide +kernel
theorem dX4_cannon_4 : decode cX4_cannon 4 = .ok (.invokestatic 43, 3) := by decide +kernel
theorem dX4_cannon_7 : decode cX4_cannon 7 = .ok (.ifCond .ne 10, 3) := by decide +kernel
theorem dX4_cannon_10 : decode cX4_cannon 10 = .ok (.aload_n 0, 1) := by decide +kernel
theorem dX4_cannon_11 : decode cX4_cannon 11 = .ok (.bipush (-2), 2) := by decide +kernel
theorem dX4_cannon_13 : decode cX4_cannon 13 = .ok (.invokevirtual 51, 3) := by decide +kernel
theorem dX4_cannon_16 : decode cX4_cannon 16 = .ok (.ireturn, 1) := by decide +kernel
theorem dX4_cannon_17 : decode cX4_cannon 17 = .ok (.iload_n 2, 1) := by decide +kernel
theorem dX4_cannon_18 : decode cX4_cannon 18 = .ok (.ifCond .eq 7, 3) := by decide +kernel
theorem dX4_cannon_21 : decode cX4_cannon 21 = .ok (.iconst 1, 1) := by decide +kernel
theorem dX4_cannon_22 : decode cX4_cannon 22 = .ok (.goto 4, 3) := by decide +kernel
theorem dX4_cannon_25 : decode cX4_cannon 25 = .ok (.iconst 0, 1) := by decide +kernel
theorem dX4_cannon_26 : decode cX4_cannon 26 = .ok (.istore_n 3, 1) := by decide +kernel
theorem dX4_cannon_27 : decode cX4_cannon 27 = .ok (.aload_n 0, 1) := by decide +kernel
theorem dX4_cannon_28 : decode cX4_cannon 28 = .ok (.getfield 10, 3) := by decide +kernel
theorem dX4_cannon_31 : decode cX4_cannon 31 = .ok (.getfield 55, 3) := by decide +kernel
theorem dX4_cannon_34 : decode cX4_cannon 34 = .ok (.getfield 73, 3) := by decide +kernel
theorem dX4_cannon_37 : decode cX4_cannon 37 = .ok (.iload_n 1, 1) := by decide +kernel
theorem dX4_cannon_38 : decode cX4_cannon 38 = .ok (.iaload, 1) := by decide +kernel
theorem dX4_cannon_39 : decode cX4_cannon 39 = .ok (.iload_n 3, 1) := by decide +kernel
theorem dX4_cannon_40 : decode cX4_cannon 40 = .ok (.if_icmp .ne 10, 3) := by decide +kernel
theorem dX4_cannon_43 : decode cX4_cannon 43 = .ok (.aload_n 0, 1) := by decide +kernel
theorem dX4_cannon_44 : decode cX4_cannon 44 = .ok (.bipush (-3), 2) := by decide +kernel
theorem dX4_cannon_46 : decode cX4_cannon 46 = .ok (.invokevirtual 51, 3) := by decide +kernel
theorem dX4_cannon_49 : decode cX4_cannon 49 = .ok (.ireturn, 1) := by decide +kernel
theorem dX4_cannon_50 : decode cX4_cannon 50 = .ok (.aload_n 0, 1) := by decide +kernel
theorem dX4_cannon_51 : decode cX4_cannon 51 = .ok (.getfield 10, 3) := by decide +kernel
theorem dX4_cannon_54 : decode cX4_cannon 54 = .ok (.getfield 55, 3) := by decide +kernel
theorem dX4_cannon_57 : decode cX4_cannon 57 = .ok (.getfield 73, 3) := by decide +kernel
theorem dX4_cannon_60 : decode cX4_cannon 60 = .ok (.iload_n 1, 1) := by decide +kernel
theorem dX4_cannon_61 : decode cX4_cannon 61 = .ok (.iload_n 3, 1) := by decide +kernel
theorem dX4_cannon_62 : decode cX4_cannon 62 = .ok (.iastore, 1) := by decide +kernel
theorem dX4_cannon_63 : decode cX4_cannon 63 = .ok (.iconst 1, 1) := by decide +kernel
theorem dX4_cannon_64 : decode cX4_cannon 64 = .ok (.ireturn, 1) := by decide +kernel
theorem dX4_tiles_0 : decode cX4_tiles 0 = .ok (.aload_n 0, 1) := by decide +kernel
theorem dX4_tiles_1 : decode cX4_tiles 1 = .ok (.iload_n 1, 1) := by decide +kernel
theorem dX4_tiles_2 : decode cX4_tiles 2 = .ok (.invokevirtual 77, 3) := by decide +kernel
theorem dX4_tiles_5 : decode cX4_tiles 5 = .ok (.ifCond .eq 19, 3) := by decide +kernel
theorem dX4_tiles_8 : decode cX4_tiles 8 = .ok (.iload_n 2, 1) := by decide +kernel
theorem dX4_tiles_9 : decode cX4_tiles 9 = .ok (.iconst 0, 1) := by decide +kernel
theorem dX4_tiles_10 : decode cX4_tiles 10 = .ok (.iconst 1, 1) := by decide +kernel
theorem dX4_tiles_11 : decode cX4_tiles 11 = .ok (.invokestatic 43, 3) := by decide +kernel
theorem dX4_tiles_14 : decode cX4_tiles 14 = .ok (.ifCond .eq 10, 3) := by decide +kernel
theorem dX4_tiles_17 : decode cX4_tiles 17 = .ok (.iload_n 3, 1) := by decide +kernel
theorem dX4_tiles_18 : decode cX4_tiles 18 = .ok (.invokestatic 81, 3) := by decide +kernel
theorem dX4_tiles_21 : decode cX4_tiles 21 = .ok (.ifCond .ne 10, 3) := by decide +kernel
theorem dX4_tiles_24 : decode cX4_tiles 24 = .ok (.aload_n 0, 1) := by decide +kernel
theorem dX4_tiles_25 : decode cX4_tiles 25 = .ok (.bipush (-2), 2) := by decide +kernel
theorem dX4_tiles_27 : decode cX4_tiles 27 = .ok (.invokevirtual 51, 3) := by decide +kernel
theorem dX4_tiles_30 : decode cX4_tiles 30 = .ok (.ireturn, 1) := by decide +kernel
theorem dX4_tiles_31 : decode cX4_tiles 31 = .ok (.aload_n 0, 1) := by decide +kernel
theorem dX4_tiles_32 : decode cX4_tiles 32 = .ok (.getfield 10, 3) := by decide +kernel
theorem dX4_tiles_35 : decode cX4_tiles 35 = .ok (.getfield 55, 3) := by decide +kernel
theorem dX4_tiles_38 : decode cX4_tiles 38 = .ok (.getfield 84, 3) := by decide +kernel
theorem dX4_tiles_41 : decode cX4_tiles 41 = .ok (.iload_n 1, 1) := by decide +kernel
theorem dX4_tiles_42 : decode cX4_tiles 42 = .ok (.iload_n 2, 1) := by decide +kernel
theorem dX4_tiles_43 : decode cX4_tiles 43 = .ok (.iload_n 3, 1) := by decide +kernel
theorem dX4_tiles_44 : decode cX4_tiles 44 = .ok (.invokestatic 87, 3) := by decide +kernel
theorem dX4_tiles_47 : decode cX4_tiles 47 = .ok (.iaload, 1) := by decide +kernel
theorem dX4_tiles_48 : decode cX4_tiles 48 = .ok (.ireturn, 1) := by decide +kernel
theorem dX4_type_0 : decode cX4_type 0 = .ok (.iload_n 3, 1) := by decide +kernel
theorem dX4_type_1 : decode cX4_type 1 = .ok (.iconst 1, 1) := by decide +kernel
theorem dX4_type_2 : decode cX4_type 2 = .ok (.bipush 8, 2) := by decide +kernel
theorem dX4_type_4 : decode cX4_type 4 = .ok (.invokestatic 43, 3) := by decide +kernel
theorem dX4_type_7 : decode cX4_type 7 = .ok (.ifCond .ne 10, 3) := by decide +kernel
theorem dX4_type_10 : decode cX4_type 10 = .ok (.aload_n 0, 1) := by decide +kernel
theorem dX4_type_11 : decode cX4_type 11 = .ok (.bipush (-2), 2) := by decide +kernel
theorem dX4_type_13 : decode cX4_type 13 = .ok (.invokevirtual 51, 3) := by decide +kernel
theorem dX4_type_16 : decode cX4_type 16 = .ok (.ireturn, 1) := by decide +kernel
theorem dX4_type_17 : decode cX4_type 17 = .ok (.aload_n 0, 1) := by decide +kernel
theorem dX4_type_18 : decode cX4_type 18 = .ok (.getfield 25, 3) := by decide +kernel
theorem dX4_type_21 : decode cX4_type 21 = .ok (.getfield 91, 3) := by decide +kernel
theorem dX4_type_24 : decode cX4_type 24 = .ok (.iload_n 3, 1) := by decide +kernel
theorem dX4_type_25 : decode cX4_type 25 = .ok (.iadd, 1) := by decide +kernel
theorem dX4_type_26 : decode cX4_type 26 = .ok (.sipush 250, 3) := by decide +kernel
theorem dX4_type_29 : decode cX4_type 29 = .ok (.if_icmp .le 10, 3) := by decide +kernel
theorem dX4_type_32 : decode cX4_type 32 = .ok (.aload_n 0, 1) := by decide +kernel
theorem dX4_type_33 : decode cX4_type 33 = .ok (.bipush (-4), 2) := by decide +kernel
theorem dX4_type_35 : decode cX4_type 35 = .ok (.invokevirtual 51, 3) := by decide +kernel
theorem dX4_type_38 : decode cX4_type 38 = .ok (.ireturn, 1) := by decide +kernel
theorem dX4_type_39 : decode cX4_type 39 = .ok (.iload_n 3, 1) := by decide +kernel
theorem dX4_type_40 : decode cX4_type 40 = .ok (.iconst 1, 1) := by decide +kernel
theorem dX4_type_41 : decode cX4_type 41 = .ok (.isub, 1) := by decide +kernel
theorem dX4_type_42 : decode cX4_type 42 = .ok (.istore 4, 2) := by decide +kernel
theorem dX4_type_44 : decode cX4_type 44 = .ok (.iload 4, 2) := by decide +kernel
theorem dX4_type_46 : decode cX4_type 46 = .ok (.ifCond .lt 28, 3) := by decide +kernel
theorem dX4_type_49 : decode cX4_type 49 = .ok (.aload_n 0, 1) := by decide +kernel
theorem dX4_type_50 : decode cX4_type 50 = .ok (.getfield 25, 3) := by decide +kernel
theorem dX4_type_53 : decode cX4_type 53 = .ok (.lload_n 1, 1) := by decide +kernel
theorem dX4_type_54 : decode cX4_type 54 = .ok (.bipush 8, 2) := by decide +kernel
theorem dX4_type_56 : decode cX4_type 56 = .ok (.iload 4, 2) := by decide +kernel
theorem dX4_type_58 : decode cX4_type 58 = .ok (.imul, 1) := by decide +kernel
theorem dX4_type_59 : decode cX4_type 59 = .ok (.lushr, 1) := by decide +kernel
theorem dX4_type_60 : decode cX4_type 60 = .ok (.l2i, 1) := by decide +kernel
theorem dX4_type_61 : decode cX4_type 61 = .ok (.sipush 255, 3) := by decide +kernel
theorem dX4_type_64 : decode cX4_type 64 = .ok (.iand, 1) := by decide +kernel
theorem dX4_type_65 : decode cX4_type 65 = .ok (.invokevirtual 94, 3) := by decide +kernel
theorem dX4_type_68 : decode cX4_type 68 = .ok (.iinc 4 (-1), 3) := by decide +kernel
theorem dX4_type_71 : decode cX4_type 71 = .ok (.goto (-27), 3) := by decide +kernel
theorem dX4_type_74 : decode cX4_type 74 = .ok (.aload_n 0, 1) := by decide +kernel
theorem dX4_type_75 : decode cX4_type 75 = .ok (.getfield 25, 3) := by decide +kernel
theorem dX4_type_78 : decode cX4_type 78 = .ok (.getfield 91, 3) := by decide +kernel
theorem dX4_type_81 : decode cX4_type 81 = .ok (.ireturn, 1) := by decide +kernel
theorem dX4_clear_0 : decode cX4_clear 0 = .ok (.aload_n 0, 1) := by decide +kernel
theorem dX4_clear_1 : decode cX4_clear 1 = .ok (.getfield 25, 3) := by decide +kernel
theorem dX4_clear_4 : decode cX4_clear 4 = .ok (.getfield 91, 3) := by decide +kernel
theorem dX4_clear_7 : decode cX4_clear 7 = .ok (.istore_n 1, 1) := by decide +kernel
theorem dX4_clear_8 : decode cX4_clear 8 = .ok (.aload_n 0, 1) := by decide +kernel
theorem dX4_clear_9 : decode cX4_clear 9 = .ok (.getfield 25, 3) := by decide +kernel
theorem dX4_clear_12 : decode cX4_clear 12 = .ok (.iconst 0, 1) := by decide +kernel
theorem dX4_clear_13 : decode cX4_clear 13 = .ok (.putfield 91, 3) := by decide +kernel
theorem dX4_clear_16 : decode cX4_clear 16 = .ok (.iload_n 1, 1) := by decide +kernel
theorem dX4_clear_17 : decode cX4_clear 17 = .ok (.ireturn, 1) := by decide +kernel
theorem dX4_read_0 : decode cX4_read 0 = .ok (.aload_n 0, 1) := by decide +kernel
theorem dX4_read_1 : decode cX4_read 1 = .ok (.getfield 25, 3) := by decide +kernel
theorem dX4_read_4 : decode cX4_read 4 = .ok (.aload_n 0, 1) := by decide +kernel
theorem dX4_read_5 : decode cX4_read 5 = .ok (.getfield 39, 3) := by decide +kernel
theorem dX4_read_8 : decode cX4_read 8 = .ok (.invokevirtual 98, 3) := by decide +kernel
theorem dX4_read_11 : decode cX4_read 11 = .ok (.istore_n 1, 1) := by decide +kernel
theorem dX4_read_12 : decode cX4_read 12 = .ok (.iload_n 1, 1) := by decide +kernel
theorem dX4_read_13 : decode cX4_read 13 = .ok (.ifCond .ge 5, 3) := by decide +kernel
theorem dX4_read_16 : decode cX4_read 16 = .ok (.iload_n 1, 1) := by decide +kernel
theorem dX4_read_17 : decode cX4_read 17 = .ok (.ireturn, 1) := by decide +kernel
theorem dX4_read_18 : decode cX4_read 18 = .ok (.aload_n 0, 1) := by decide +kernel
theorem dX4_read_19 : decode cX4_read 19 = .ok (.getfield 10, 3) := by decide +kernel
theorem dX4_read_22 : decode cX4_read 22 = .ok (.getfield 55, 3) := by decide +kernel
theorem dX4_read_25 : decode cX4_read 25 = .ok (.aload_n 0, 1) := by decide +kernel
theorem dX4_read_26 : decode cX4_read 26 = .ok (.getfield 39, 3) := by decide +kernel
theorem dX4_read_29 : decode cX4_read 29 = .ok (.invokevirtual 102, 3) := by decide +kernel
theorem dX4_read_32 : decode cX4_read 32 = .ok (.aload_n 0, 1) := by decide +kernel
theorem dX4_read_33 : decode cX4_read 33 = .ok (.getfield 10, 3) := by decide +kernel
theorem dX4_read_36 : decode cX4_read 36 = .ok (.iconst 0, 1) := by decide +kernel
theorem dX4_read_37 : decode cX4_read 37 = .ok (.putfield 106, 3) := by decide +kernel
theorem dX4_read_40 : decode cX4_read 40 = .ok (.iload_n 1, 1) := by decide +kernel
theorem dX4_read_41 : decode cX4_read 41 = .ok (.ireturn, 1) := by decide +kernel
theorem dX4_force_0 : decode cX4_force 0 = .ok (.aload_n 0, 1) := by decide +kernel
theorem dX4_force_1 : decode cX4_force 1 = .ok (.iload_n 1, 1) := by decide +kernel
theorem dX4_force_2 : decode cX4_force 2 = .ok (.invokevirtual 109, 3) := by decide +kernel
theorem dX4_force_5 : decode cX4_force 5 = .ok (.ifCond .eq 20, 3) := by decide +kernel
theorem dX4_force_8 : decode cX4_force 8 = .ok (.aload_n 0, 1) := by decide +kernel
theorem dX4_force_9 : decode cX4_force 9 = .ok (.iload_n 2, 1) := by decide +kernel
theorem dX4_force_10 : decode cX4_force 10 = .ok (.invokevirtual 77, 3) := by decide +kernel
theorem dX4_force_13 : decode cX4_force 13 = .ok (.ifCond .eq 12, 3) := by decide +kernel
theorem dX4_force_16 : decode cX4_force 16 = .ok (.iload_n 3, 1) := by decide +kernel
theorem dX4_force_17 : decode cX4_force 17 = .ok (.iconst 0, 1) := by decide +kernel
theorem dX4_force_18 : decode cX4_force 18 = .ok (.iconst 1, 1) := by decide +kernel
theorem dX4_force_19 : decode cX4_force 19 = .ok (.invokestatic 43, 3) := by decide +kernel
theorem dX4_force_22 : decode cX4_force 22 = .ok (.ifCond .ne 10, 3) := by decide +kernel
theorem dX4_force_25 : decode cX4_force 25 = .ok (.aload_n 0, 1) := by decide +kernel
theorem dX4_force_26 : decode cX4_force 26 = .ok (.bipush (-2), 2) := by decide +kernel
theorem dX4_force_28 : decode cX4_force 28 = .ok (.invokevirtual 51, 3) := by decide +kernel
theorem dX4_force_31 : decode cX4_force 31 = .ok (.ireturn, 1) := by decide +kernel
theorem dX4_force_32 : decode cX4_force 32 = .ok (.aload_n 0, 1) := by decide +kernel
theorem dX4_force_33 : decode cX4_force 33 = .ok (.getfield 10, 3) := by decide +kernel
theorem dX4_force_36 : decode cX4_force 36 = .ok (.getfield 55, 3) := by decide +kernel
theorem dX4_force_39 : decode cX4_force 39 = .ok (.iload_n 1, 1) := by decide +kernel
theorem dX4_force_40 : decode cX4_force 40 = .ok (.iload_n 2, 1) := by decide +kernel
theorem dX4_force_41 : decode cX4_force 41 = .ok (.iload_n 3, 1) := by decide +kernel
theorem dX4_force_42 : decode cX4_force 42 = .ok (.invokevirtual 112, 3) := by decide +kernel
theorem dX4_force_45 : decode cX4_force 45 = .ok (.ireturn, 1) := by decide +kernel
theorem dX4_breaks_0 : decode cX4_breaks 0 = .ok (.aload_n 0, 1) := by decide +kernel
theorem dX4_breaks_1 : decode cX4_breaks 1 = .ok (.iload_n 1, 1) := by decide +kernel
theorem dX4_breaks_2 : decode cX4_breaks 2 = .ok (.invokevirtual 109, 3) := by decide +kernel
theorem dX4_breaks_5 : decode cX4_breaks 5 = .ok (.ifCond .eq 23, 3) := by decide +kernel
theorem dX4_breaks_8 : decode cX4_breaks 8 = .ok (.iload_n 2, 1) := by decide +kernel
theorem dX4_breaks_9 : decode cX4_breaks 9 = .ok (.iconst (-1), 1) := by decide +kernel
theorem dX4_breaks_10 : decode cX4_breaks 10 = .ok (.if_icmp .eq 11, 3) := by decide +kernel
theorem dX4_breaks_13 : decode cX4_breaks 13 = .ok (.aload_n 0, 1) := by decide +kernel
theorem dX4_breaks_14 : decode cX4_breaks 14 = .ok (.iload_n 2, 1) := by decide +kernel
theorem dX4_breaks_15 : decode cX4_breaks 15 = .ok (.invokevirtual 77, 3) := by decide +kernel
theorem dX4_breaks_18 : decode cX4_breaks 18 = .ok (.ifCond .eq 10, 3) := by decide +kernel
theorem dX4_breaks_21 : decode cX4_breaks 21 = .ok (.iload_n 3, 1) := by decide +kernel
theorem dX4_breaks_22 : decode cX4_breaks 22 = .ok (.invokestatic 81, 3) := by decide +kernel
theorem dX4_breaks_25 : decode cX4_breaks 25 = .ok (.ifCond .ne 10, 3) := by decide +kernel
theorem dX4_breaks_28 : decode cX4_breaks 28 = .ok (.aload_n 0, 1) := by decide +kernel
theorem dX4_breaks_29 : decode cX4_breaks 29 = .ok (.bipush (-2), 2) := by decide +kernel
theorem dX4_breaks_31 : decode cX4_breaks 31 = .ok (.invokevirtual 51, 3) := by decide +kernel
theorem dX4_breaks_34 : decode cX4_breaks 34 = .ok (.ireturn, 1) := by decide +kernel
theorem dX4_breaks_35 : decode cX4_breaks 35 = .ok (.iload_n 2, 1) := by decide +kernel
theorem dX4_breaks_36 : decode cX4_breaks 36 = .ok (.iconst (-1), 1) := by decide +kernel
theorem dX4_breaks_37 : decode cX4_breaks 37 = .ok (.if_icmp .ne 18, 3) := by decide +kernel
theorem dX4_breaks_40 : decode cX4_breaks 40 = .ok (.aload_n 0, 1) := by decide +kernel
theorem dX4_breaks_41 : decode cX4_breaks 41 = .ok (.getfield 10, 3) := by decide +kernel
theorem dX4_breaks_44 : decode cX4_breaks 44 = .ok (.getfield 55, 3) := by decide +kernel
theorem dX4_breaks_47 : decode cX4_breaks 47 = .ok (.iload_n 1, 1) := by decide +kernel
theorem dX4_breaks_48 : decode cX4_breaks 48 = .ok (.iload_n 3, 1) := by decide +kernel
theorem dX4_breaks_49 : decode cX4_breaks 49 = .ok (.invokevirtual 115, 3) := by decide +kernel
theorem dX4_breaks_52 : decode cX4_breaks 52 = .ok (.goto 16, 3) := by decide +kernel
theorem dX4_breaks_55 : decode cX4_breaks 55 = .ok (.aload_n 0, 1) := by decide +kernel
theorem dX4_breaks_56 : decode cX4_breaks 56 = .ok (.getfield 10, 3) := by decide +kernel
theorem dX4_breaks_59 : decode cX4_breaks 59 = .ok (.getfield 55, 3) := by decide +kernel
theorem dX4_breaks_62 : decode cX4_breaks 62 = .ok (.iload_n 1, 1) := by decide +kernel
theorem dX4_breaks_63 : decode cX4_breaks 63 = .ok (.iload_n 2, 1) := by decide +kernel
theorem dX4_breaks_64 : decode cX4_breaks 64 = .ok (.iload_n 3, 1) := by decide +kernel
theorem dX4_breaks_65 : decode cX4_breaks 65 = .ok (.invokevirtual 119, 3) := by decide +kernel
theorem dX4_breaks_68 : decode cX4_breaks 68 = .ok (.ireturn, 1) := by decide +kernel
theorem dX4_wins_0 : decode cX4_wins 0 = .ok (.aload_n 0, 1) := by decide +kernel
theorem dX4_wins_1 : decode cX4_wins 1 = .ok (.iload_n 1, 1) := by decide +kernel
theorem dX4_wins_2 : decode cX4_wins 2 = .ok (.invokevirtual 109, 3) := by decide +kernel
theorem dX4_wins_5 : decode cX4_wins 5 = .ok (.ifCond .ne 10, 3) := by decide +kernel
theorem dX4_wins_8 : decode cX4_wins 8 = .ok (.aload_n 0, 1) := by decide +kernel
theorem dX4_wins_9 : decode cX4_wins 9 = .ok (.bipush (-2), 2) := by decide +kernel
theorem dX4_wins_11 : decode cX4_wins 11 = .ok (.invokevirtual 51, 3) := by decide +kernel
theorem dX4_wins_14 : decode cX4_wins 14 = .ok (.ireturn, 1) := by decide +kernel
theorem dX4_wins_15 : decode cX4_wins 15 = .ok (.aload_n 0, 1) := by decide +kernel
theorem dX4_wins_16 : decode cX4_wins 16 = .ok (.getfield 10, 3) := by decide +kernel
theorem dX4_wins_19 : decode cX4_wins 19 = .ok (.getfield 55, 3) := by decide +kernel
theorem dX4_wins_22 : decode cX4_wins 22 = .ok (.iload_n 1, 1) := by decide +kernel
theorem dX4_wins_23 : decode cX4_wins 23 = .ok (.invokevirtual 122, 3) := by decide +kernel
theorem dX4_wins_26 : decode cX4_wins 26 = .ok (.invokestatic 125, 3) := by decide +kernel
theorem dX4_wins_29 : decode cX4_wins 29 = .ok (.ireturn, 1) := by decide +kernel
theorem dX4_odds_0 : decode cX4_odds 0 = .ok (.iload_n 1, 1) := by decide +kernel
theorem dX4_odds_1 : decode cX4_odds 1 = .ok (.iconst 0, 1) := by decide +kernel
theorem dX4_odds_2 : decode cX4_odds 2 = .ok (.iconst 2, 1) := by decide +kernel
theorem dX4_odds_3 : decode cX4_odds 3 = .ok (.invokestatic 43, 3) := by decide +kernel
theorem dX4_odds_6 : decode cX4_odds 6 = .ok (.ifCond .ne 10, 3) := by decide +kernel
theorem dX4_odds_9 : decode cX4_odds 9 = .ok (.aload_n 0, 1) := by decide +kernel
theorem dX4_odds_10 : decode cX4_odds 10 = .ok (.bipush (-2), 2) := by decide +kernel
theorem dX4_odds_12 : decode cX4_odds 12 = .ok (.invokevirtual 51, 3) := by decide +kernel
theorem dX4_odds_15 : decode cX4_odds 15 = .ok (.ireturn, 1) := by decide +kernel
theorem dX4_odds_16 : decode cX4_odds 16 = .ok (.aload_n 0, 1) := by decide +kernel
theorem dX4_odds_17 : decode cX4_odds 17 = .ok (.getfield 10, 3) := by decide +kernel
theorem dX4_odds_20 : decode cX4_odds 20 = .ok (.getfield 55, 3) := by decide +kernel
theorem dX4_odds_23 : decode cX4_odds 23 = .ok (.getfield 66, 3) := by decide +kernel
theorem dX4_odds_26 : decode cX4_odds 26 = .ok (.ifCond .ne 10, 3) := by decide +kernel
theorem dX4_odds_29 : decode cX4_odds 29 = .ok (.aload_n 0, 1) := by decide +kernel
theorem dX4_odds_30 : decode cX4_odds 30 = .ok (.bipush (-3), 2) := by decide +kernel
theorem dX4_odds_32 : decode cX4_odds 32 = .ok (.invokevirtual 51, 3) := by decide +kernel
theorem dX4_odds_35 : decode cX4_odds 35 = .ok (.ireturn, 1) := by decide +kernel
theorem dX4_odds_36 : decode cX4_odds 36 = .ok (.iload_n 1, 1) := by decide +kernel
theorem dX4_odds_37 : decode cX4_odds 37 = .ok (.iconst 2, 1) := by decide +kernel
theorem dX4_odds_38 : decode cX4_odds 38 = .ok (.if_icmp .ne 7, 3) := by decide +kernel
theorem dX4_odds_41 : decode cX4_odds 41 = .ok (.iconst (-1), 1) := by decide +kernel
theorem dX4_odds_42 : decode cX4_odds 42 = .ok (.goto 4, 3) := by decide +kernel
theorem dX4_odds_45 : decode cX4_odds 45 = .ok (.iload_n 1, 1) := by decide +kernel
theorem dX4_odds_46 : decode cX4_odds 46 = .ok (.istore_n 2, 1) := by decide +kernel
theorem dX4_odds_47 : decode cX4_odds 47 = .ok (.aload_n 0, 1) := by decide +kernel
theorem dX4_odds_48 : decode cX4_odds 48 = .ok (.getfield 32, 3) := by decide +kernel
theorem dX4_odds_51 : decode cX4_odds 51 = .ok (.aload_n 0, 1) := by decide +kernel
theorem dX4_odds_52 : decode cX4_odds 52 = .ok (.getfield 10, 3) := by decide +kernel
theorem dX4_odds_55 : decode cX4_odds 55 = .ok (.getfield 55, 3) := by decide +kernel
theorem dX4_odds_58 : decode cX4_odds 58 = .ok (.iload_n 2, 1) := by decide +kernel
theorem dX4_odds_59 : decode cX4_odds 59 = .ok (.invokevirtual 128, 3) := by decide +kernel
theorem dX4_odds_62 : decode cX4_odds 62 = .ok (.i2l, 1) := by decide +kernel
theorem dX4_odds_63 : decode cX4_odds 63 = .ok (.aload_n 0, 1) := by decide +kernel
theorem dX4_odds_64 : decode cX4_odds 64 = .ok (.getfield 10, 3) := by decide +kernel
theorem dX4_odds_67 : decode cX4_odds 67 = .ok (.getfield 55, 3) := by decide +kernel
theorem dX4_odds_70 : decode cX4_odds 70 = .ok (.invokevirtual 131, 3) := by decide +kernel
theorem dX4_odds_73 : decode cX4_odds 73 = .ok (.i2l, 1) := by decide +kernel
theorem dX4_odds_74 : decode cX4_odds 74 = .ok (.invokevirtual 135, 3) := by decide +kernel
theorem dX4_odds_77 : decode cX4_odds 77 = .ok (.iconst 1, 1) := by decide +kernel
theorem dX4_odds_78 : decode cX4_odds 78 = .ok (.ireturn, 1) := by decide +kernel
theorem dX4_paint_0 : decode cX4_paint 0 = .ok (.iload_n 1, 1) := by decide +kernel
theorem dX4_paint_1 : decode cX4_paint 1 = .ok (.invokestatic 81, 3) := by decide +kernel
theorem dX4_paint_4 : decode cX4_paint 4 = .ok (.ifCond .eq 12, 3) := by decide +kernel
theorem dX4_paint_7 : decode cX4_paint 7 = .ok (.iload_n 2, 1) := by decide +kernel
theorem dX4_paint_8 : decode cX4_paint 8 = .ok (.iconst 0, 1) := by decide +kernel
theorem dX4_paint_9 : decode cX4_paint 9 = .ok (.iconst 4, 1) := by decide +kernel
theorem dX4_paint_10 : decode cX4_paint 10 = .ok (.invokestatic 43, 3) := by decide +kernel
theorem dX4_paint_13 : decode cX4_paint 13 = .ok (.ifCond .ne 10, 3) := by decide +kernel
theorem dX4_paint_16 : decode cX4_paint 16 = .ok (.aload_n 0, 1) := by decide +kernel
theorem dX4_paint_17 : decode cX4_paint 17 = .ok (.bipush (-2), 2) := by decide +kernel
theorem dX4_paint_19 : decode cX4_paint 19 = .ok (.invokevirtual 51, 3) := by decide +kernel
theorem dX4_paint_22 : decode cX4_paint 22 = .ok (.ireturn, 1) := by decide +kernel
theorem dX4_paint_23 : decode cX4_paint 23 = .ok (.aload_n 0, 1) := by decide +kernel
theorem dX4_paint_24 : decode cX4_paint 24 = .ok (.getfield 10, 3) := by decide +kernel
theorem dX4_paint_27 : decode cX4_paint 27 = .ok (.getfield 55, 3) := by decide +kernel
theorem dX4_paint_30 : decode cX4_paint 30 = .ok (.getfield 66, 3) := by decide +kernel
theorem dX4_paint_33 : decode cX4_paint 33 = .ok (.ifCond .ne 10, 3) := by decide +kernel
theorem dX4_paint_36 : decode cX4_paint 36 = .ok (.aload_n 0, 1) := by decide +kernel
theorem dX4_paint_37 : decode cX4_paint 37 = .ok (.bipush (-3), 2) := by decide +kernel
theorem dX4_paint_39 : decode cX4_paint 39 = .ok (.invokevirtual 51, 3) := by decide +kernel
theorem dX4_paint_42 : decode cX4_paint 42 = .ok (.ireturn, 1) := by decide +kernel
theorem dX4_paint_43 : decode cX4_paint 43 = .ok (.aload_n 0, 1) := by decide +kernel
theorem dX4_paint_44 : decode cX4_paint 44 = .ok (.getfield 32, 3) := by decide +kernel
theorem dX4_paint_47 : decode cX4_paint 47 = .ok (.aload_n 0, 1) := by decide +kernel
theorem dX4_paint_48 : decode cX4_paint 48 = .ok (.getfield 10, 3) := by decide +kernel
theorem dX4_paint_51 : decode cX4_paint 51 = .ok (.getfield 55, 3) := by decide +kernel
theorem dX4_paint_54 : decode cX4_paint 54 = .ok (.iload_n 1, 1) := by decide +kernel
theorem dX4_paint_55 : decode cX4_paint 55 = .ok (.invokevirtual 128, 3) := by decide +kernel
theorem dX4_paint_58 : decode cX4_paint 58 = .ok (.i2l, 1) := by decide +kernel
theorem dX4_paint_59 : decode cX4_paint 59 = .ok (.aload_n 0, 1) := by decide +kernel
theorem dX4_paint_60 : decode cX4_paint 60 = .ok (.getfield 10, 3) := by decide +kernel
theorem dX4_paint_63 : decode cX4_paint 63 = .ok (.getfield 55, 3) := by decide +kernel
theorem dX4_paint_66 : decode cX4_paint 66 = .ok (.invokevirtual 131, 3) := by decide +kernel
theorem dX4_paint_69 : decode cX4_paint 69 = .ok (.i2l, 1) := by decide +kernel
theorem dX4_paint_70 : decode cX4_paint 70 = .ok (.invokevirtual 135, 3) := by decide +kernel
theorem dX4_paint_73 : decode cX4_paint 73 = .ok (.iconst 1, 1) := by decide +kernel
theorem dX4_paint_74 : decode cX4_paint 74 = .ok (.ireturn, 1) := by decide +kernel
theorem dX4_brush_0 : decode cX4_brush 0 = .ok (.iload_n 1, 1) := by decide +kernel
theorem dX4_brush_1 : decode cX4_brush 1 = .ok (.invokestatic 81, 3) := by decide +kernel
theorem dX4_brush_4 : decode cX4_brush 4 = .ok (.ifCond .eq 30, 3) := by decide +kernel
theorem dX4_brush_7 : decode cX4_brush 7 = .ok (.iload_n 2, 1) := by decide +kernel
theorem dX4_brush_8 : decode cX4_brush 8 = .ok (.iconst 0, 1) := by decide +kernel
theorem dX4_brush_9 : decode cX4_brush 9 = .ok (.iconst 4, 1) := by decide +kernel
theorem dX4_brush_10 : decode cX4_brush 10 = .ok (.invokestatic 43, 3) := by decide +kernel
theorem dX4_brush_13 : decode cX4_brush 13 = .ok (.ifCond .eq 21, 3) := by decide +kernel
theorem dX4_brush_16 : decode cX4_brush 16 = .ok (.aload_n 0, 1) := by decide +kernel
theorem dX4_brush_17 : decode cX4_brush 17 = .ok (.iload_n 3, 1) := by decide +kernel
theorem dX4_brush_18 : decode cX4_brush 18 = .ok (.invokevirtual 77, 3) := by decide +kernel
theorem dX4_brush_21 : decode cX4_brush 21 = .ok (.ifCond .eq 13, 3) := by decide +kernel
theorem dX4_brush_24 : decode cX4_brush 24 = .ok (.iload 4, 2) := by decide +kernel
theorem dX4_brush_26 : decode cX4_brush 26 = .ok (.iconst 0, 1) := by decide +kernel
theorem dX4_brush_27 : decode cX4_brush 27 = .ok (.iconst 1, 1) := by decide +kernel
theorem dX4_brush_28 : decode cX4_brush 28 = .ok (.invokestatic 43, 3) := by decide +kernel
theorem dX4_brush_31 : decode cX4_brush 31 = .ok (.ifCond .ne 10, 3) := by decide +kernel
theorem dX4_brush_34 : decode cX4_brush 34 = .ok (.aload_n 0, 1) := by decide +kernel
theorem dX4_brush_35 : decode cX4_brush 35 = .ok (.bipush (-2), 2) := by decide +kernel
theorem dX4_brush_37 : decode cX4_brush 37 = .ok (.invokevirtual 51, 3) := by decide +kernel
theorem dX4_brush_40 : decode cX4_brush 40 = .ok (.ireturn, 1) := by decide +kernel
theorem dX4_brush_41 : decode cX4_brush 41 = .ok (.aload_n 0, 1) := by decide +kernel
theorem dX4_brush_42 : decode cX4_brush 42 = .ok (.getfield 10, 3) := by decide +kernel
theorem dX4_brush_45 : decode cX4_brush 45 = .ok (.getfield 55, 3) := by decide +kernel
theorem dX4_brush_48 : decode cX4_brush 48 = .ok (.getfield 66, 3) := by decide +kernel
theorem dX4_brush_51 : decode cX4_brush 51 = .ok (.ifCond .ne 10, 3) := by decide +kernel
theorem dX4_brush_54 : decode cX4_brush 54 = .ok (.aload_n 0, 1) := by decide +kernel
theorem dX4_brush_55 : decode cX4_brush 55 = .ok (.bipush (-3), 2) := by decide +kernel
theorem dX4_brush_57 : decode cX4_brush 57 = .ok (.invokevirtual 51, 3) := by decide +kernel
theorem dX4_brush_60 : decode cX4_brush 60 = .ok (.ireturn, 1) := by decide +kernel
theorem dX4_brush_61 : decode cX4_brush 61 = .ok (.iconst 0, 1) := by decide +kernel
theorem dX4_brush_62 : decode cX4_brush 62 = .ok (.ireturn, 1) := by decide +kernel
theorem dX4_against_0 : decode cX4_against 0 = .ok (.aload_n 0, 1) := by decide +kernel
theorem dX4_against_1 : decode cX4_against 1 = .ok (.getfield 10, 3) := by decide +kernel
theorem dX4_against_4 : decode cX4_against 4 = .ok (.getfield 55, 3) := by decide +kernel
theorem dX4_against_7 : decode cX4_against 7 = .ok (.getfield 66, 3) := by decide +kernel
theorem dX4_against_10 : decode cX4_against 10 = .ok (.ifCond .ne 13, 3) := by decide +kernel
theorem dX4_against_13 : decode cX4_against 13 = .ok (.aload_n 0, 1) := by decide +kernel
theorem dX4_against_14 : decode cX4_against 14 = .ok (.bipush (-3), 2) := by decide +kernel
theorem dX4_against_16 : decode cX4_against 16 = .ok (.invokevirtual 51, 3) := by decide +kernel
theorem dX4_against_19 : decode cX4_against 19 = .ok (.pop, 1) := by decide +kernel
theorem dX4_against_20 : decode cX4_against 20 = .ok (.bipush (-20), 2) := by decide +kernel
theorem dX4_against_22 : decode cX4_against 22 = .ok (.ireturn, 1) := by decide +kernel
theorem dX4_against_23 : decode cX4_against 23 = .ok (.aload_n 0, 1) := by decide +kernel
theorem dX4_against_24 : decode cX4_against 24 = .ok (.getfield 39, 3) := by decide +kernel
theorem dX4_against_27 : decode cX4_against 27 = .ok (.aload_n 0, 1) := by decide +kernel
theorem dX4_against_28 : decode cX4_against 28 = .ok (.getfield 10, 3) := by decide +kernel
theorem dX4_against_31 : decode cX4_against 31 = .ok (.getfield 55, 3) := by decide +kernel
theorem dX4_against_34 : decode cX4_against 34 = .ok (.invokevirtual 102, 3) := by decide +kernel
theorem dX4_against_37 : decode cX4_against 37 = .ok (.aload_n 0, 1) := by decide +kernel
theorem dX4_against_38 : decode cX4_against 38 = .ok (.getfield 39, 3) := by decide +kernel
theorem dX4_against_41 : decode cX4_against 41 = .ok (.invokevirtual 138, 3) := by decide +kernel
theorem dX4_against_44 : decode cX4_against 44 = .ok (.istore_n 1, 1) := by decide +kernel
theorem dX4_against_45 : decode cX4_against 45 = .ok (.aload_n 0, 1) := by decide +kernel
theorem dX4_against_46 : decode cX4_against 46 = .ok (.getfield 32, 3) := by decide +kernel
theorem dX4_against_49 : decode cX4_against 49 = .ok (.iload_n 1, 1) := by decide +kernel
theorem dX4_against_50 : decode cX4_against 50 = .ok (.i2l, 1) := by decide +kernel
theorem dX4_against_51 : decode cX4_against 51 = .ok (.aload_n 0, 1) := by decide +kernel
theorem dX4_against_52 : decode cX4_against 52 = .ok (.getfield 39, 3) := by decide +kernel
theorem dX4_against_55 : decode cX4_against 55 = .ok (.invokevirtual 131, 3) := by decide +kernel
theorem dX4_against_58 : decode cX4_against 58 = .ok (.i2l, 1) := by decide +kernel
theorem dX4_against_59 : decode cX4_against 59 = .ok (.invokevirtual 135, 3) := by decide +kernel
theorem dX4_against_62 : decode cX4_against 62 = .ok (.iconst 0, 1) := by decide +kernel
theorem dX4_against_63 : decode cX4_against 63 = .ok (.istore_n 2, 1) := by decide +kernel
theorem dX4_against_64 : decode cX4_against 64 = .ok (.iload_n 2, 1) := by decide +kernel
theorem dX4_against_65 : decode cX4_against 65 = .ok (.iconst 2, 1) := by decide +kernel
theorem dX4_against_66 : decode cX4_against 66 = .ok (.aload_n 0, 1) := by decide +kernel
theorem dX4_against_67 : decode cX4_against 67 = .ok (.getfield 39, 3) := by decide +kernel
theorem dX4_against_70 : decode cX4_against 70 = .ok (.getfield 58, 3) := by decide +kernel
theorem dX4_against_73 : decode cX4_against 73 = .ok (.imul, 1) := by decide +kernel
theorem dX4_against_74 : decode cX4_against 74 = .ok (.if_icmp .ge 23, 3) := by decide +kernel
theorem dX4_against_77 : decode cX4_against 77 = .ok (.aload_n 0, 1) := by decide +kernel
theorem dX4_against_78 : decode cX4_against 78 = .ok (.getfield 39, 3) := by decide +kernel
theorem dX4_against_81 : decode cX4_against 81 = .ok (.iload_n 2, 1) := by decide +kernel
theorem dX4_against_82 : decode cX4_against 82 = .ok (.iload_n 1, 1) := by decide +kernel
theorem dX4_against_83 : decode cX4_against 83 = .ok (.invokevirtual 141, 3) := by decide +kernel
theorem dX4_against_86 : decode cX4_against 86 = .ok (.ifCond .eq 5, 3) := by decide +kernel
theorem dX4_against_89 : decode cX4_against 89 = .ok (.iload_n 2, 1) := by decide +kernel
theorem dX4_against_90 : decode cX4_against 90 = .ok (.ireturn, 1) := by decide +kernel
theorem dX4_against_91 : decode cX4_against 91 = .ok (.iinc 2 1, 3) := by decide +kernel
theorem dX4_against_94 : decode cX4_against 94 = .ok (.goto (-30), 3) := by decide +kernel
theorem dX4_against_97 : decode cX4_against 97 = .ok (.iconst (-1), 1) := by decide +kernel
theorem dX4_against_98 : decode cX4_against 98 = .ok (.ireturn, 1) := by decide +kernel
theorem dX4_decides_0 : decode cX4_decides 0 = .ok (.aload_n 0, 1) := by decide +kernel
theorem dX4_decides_1 : decode cX4_decides 1 = .ok (.iload_n 1, 1) := by decide +kernel
theorem dX4_decides_2 : decode cX4_decides 2 = .ok (.invokevirtual 77, 3) := by decide +kernel
theorem dX4_decides_5 : decode cX4_decides 5 = .ok (.ifCond .ne 10, 3) := by decide +kernel
theorem dX4_decides_8 : decode cX4_decides 8 = .ok (.aload_n 0, 1) := by decide +kernel
theorem dX4_decides_9 : decode cX4_decides 9 = .ok (.bipush (-2), 2) := by decide +kernel
theorem dX4_decides_11 : decode cX4_decides 11 = .ok (.invokevirtual 51, 3) := by decide +kernel
theorem dX4_decides_14 : decode cX4_decides 14 = .ok (.ireturn, 1) := by decide +kernel
theorem dX4_decides_15 : decode cX4_decides 15 = .ok (.iconst 0, 1) := by decide +kernel
theorem dX4_decides_16 : decode cX4_decides 16 = .ok (.istore_n 2, 1) := by decide +kernel
theorem dX4_decides_17 : decode cX4_decides 17 = .ok (.iconst 0, 1) := by decide +kernel
theorem dX4_decides_18 : decode cX4_decides 18 = .ok (.istore_n 3, 1) := by decide +kernel
theorem dX4_decides_19 : decode cX4_decides 19 = .ok (.iload_n 3, 1) := by decide +kernel
theorem dX4_decides_20 : decode cX4_decides 20 = .ok (.aload_n 0, 1) := by decide +kernel
theorem dX4_decides_21 : decode cX4_decides 21 = .ok (.getfield 10, 3) := by decide +kernel
theorem dX4_decides_24 : decode cX4_decides 24 = .ok (.getfield 55, 3) := by decide +kernel
theorem dX4_decides_27 : decode cX4_decides 27 = .ok (.getfield 66, 3) := by decide +kernel
theorem dX4_decides_30 : decode cX4_decides 30 = .ok (.if_icmp .ge 27, 3) := by decide +kernel
theorem dX4_decides_33 : decode cX4_decides 33 = .ok (.aload_n 0, 1) := by decide +kernel
theorem dX4_decides_34 : decode cX4_decides 34 = .ok (.getfield 10, 3) := by decide +kernel
theorem dX4_decides_37 : decode cX4_decides 37 = .ok (.getfield 55, 3) := by decide +kernel
theorem dX4_decides_40 : decode cX4_decides 40 = .ok (.iload_n 3, 1) := by decide +kernel
theorem dX4_decides_41 : decode cX4_decides 41 = .ok (.iload_n 1, 1) := by decide +kernel
theorem dX4_decides_42 : decode cX4_decides 42 = .ok (.invokevirtual 144, 3) := by decide +kernel
theorem dX4_decides_45 : decode cX4_decides 45 = .ok (.ifCond .eq 6, 3) := by decide +kernel
theorem dX4_decides_48 : decode cX4_decides 48 = .ok (.iinc 2 1, 3) := by decide +kernel
theorem dX4_decides_51 : decode cX4_decides 51 = .ok (.iinc 3 1, 3) := by decide +kernel
theorem dX4_decides_54 : decode cX4_decides 54 = .ok (.goto (-35), 3) := by decide +kernel
theorem dX4_decides_57 : decode cX4_decides 57 = .ok (.iload_n 2, 1) := by decide +kernel
theorem dX4_decides_58 : decode cX4_decides 58 = .ok (.ireturn, 1) := by decide +kernel
theorem dX4_power_0 : decode cX4_power 0 = .ok (.aload_n 0, 1) := by decide +kernel
theorem dX4_power_1 : decode cX4_power 1 = .ok (.iload_n 1, 1) := by decide +kernel
theorem dX4_power_2 : decode cX4_power 2 = .ok (.invokevirtual 77, 3) := by decide +kernel
theorem dX4_power_5 : decode cX4_power 5 = .ok (.ifCond .ne 10, 3) := by decide +kernel
theorem dX4_power_8 : decode cX4_power 8 = .ok (.aload_n 0, 1) := by decide +kernel
theorem dX4_power_9 : decode cX4_power 9 = .ok (.bipush (-2), 2) := by decide +kernel
theorem dX4_power_11 : decode cX4_power 11 = .ok (.invokevirtual 51, 3) := by decide +kernel
theorem dX4_power_14 : decode cX4_power 14 = .ok (.ireturn, 1) := by decide +kernel
theorem dX4_power_15 : decode cX4_power 15 = .ok (.aload_n 0, 1) := by decide +kernel
theorem dX4_power_16 : decode cX4_power 16 = .ok (.getfield 10, 3) := by decide +kernel
theorem dX4_power_19 : decode cX4_power 19 = .ok (.getfield 55, 3) := by decide +kernel
theorem dX4_power_22 : decode cX4_power 22 = .ok (.getfield 66, 3) := by decide +kernel
theorem dX4_power_25 : decode cX4_power 25 = .ok (.ifCond .ne 10, 3) := by decide +kernel
theorem dX4_power_28 : decode cX4_power 28 = .ok (.aload_n 0, 1) := by decide +kernel
theorem dX4_power_29 : decode cX4_power 29 = .ok (.bipush (-3), 2) := by decide +kernel
theorem dX4_power_31 : decode cX4_power 31 = .ok (.invokevirtual 51, 3) := by decide +kernel
theorem dX4_power_34 : decode cX4_power 34 = .ok (.ireturn, 1) := by decide +kernel
theorem dX4_power_35 : decode cX4_power 35 = .ok (.iconst 0, 1) := by decide +kernel
theorem dX4_power_36 : decode cX4_power 36 = .ok (.istore_n 2, 1) := by decide +kernel
theorem dX4_power_37 : decode cX4_power 37 = .ok (.iconst 0, 1) := by decide +kernel
theorem dX4_power_38 : decode cX4_power 38 = .ok (.istore_n 3, 1) := by decide +kernel
theorem dX4_power_39 : decode cX4_power 39 = .ok (.iload_n 3, 1) := by decide +kernel
theorem dX4_power_40 : decode cX4_power 40 = .ok (.aload_n 0, 1) := by decide +kernel
theorem dX4_power_41 : decode cX4_power 41 = .ok (.getfield 10, 3) := by decide +kernel
theorem dX4_power_44 : decode cX4_power 44 = .ok (.getfield 55, 3) := by decide +kernel
theorem dX4_power_47 : decode cX4_power 47 = .ok (.getfield 66, 3) := by decide +kernel
theorem dX4_power_50 : decode cX4_power 50 = .ok (.if_icmp .ge 39, 3) := by decide +kernel
theorem dX4_power_53 : decode cX4_power 53 = .ok (.aload_n 0, 1) := by decide +kernel
theorem dX4_power_54 : decode cX4_power 54 = .ok (.getfield 10, 3) := by decide +kernel
theorem dX4_power_57 : decode cX4_power 57 = .ok (.getfield 55, 3) := by decide +kernel
theorem dX4_power_60 : decode cX4_power 60 = .ok (.iload_n 3, 1) := by decide +kernel
theorem dX4_power_61 : decode cX4_power 61 = .ok (.iload_n 1, 1) := by decide +kernel
theorem dX4_power_62 : decode cX4_power 62 = .ok (.invokevirtual 144, 3) := by decide +kernel
theorem dX4_power_65 : decode cX4_power 65 = .ok (.ifCond .eq 18, 3) := by decide +kernel
theorem dX4_power_68 : decode cX4_power 68 = .ok (.iload_n 2, 1) := by decide +kernel
theorem dX4_power_69 : decode cX4_power 69 = .ok (.aload_n 0, 1) := by decide +kernel
theorem dX4_power_70 : decode cX4_power 70 = .ok (.getfield 10, 3) := by decide +kernel
theorem dX4_power_73 : decode cX4_power 73 = .ok (.getfield 55, 3) := by decide +kernel
theorem dX4_power_76 : decode cX4_power 76 = .ok (.getfield 147, 3) := by decide +kernel
theorem dX4_power_79 : decode cX4_power 79 = .ok (.iload_n 3, 1) := by decide +kernel
theorem dX4_power_80 : decode cX4_power 80 = .ok (.iaload, 1) := by decide +kernel
theorem dX4_power_81 : decode cX4_power 81 = .ok (.iadd, 1) := by decide +kernel
theorem dX4_power_82 : decode cX4_power 82 = .ok (.istore_n 2, 1) := by decide +kernel
theorem dX4_power_83 : decode cX4_power 83 = .ok (.iinc 3 1, 3) := by decide +kernel
theorem dX4_power_86 : decode cX4_power 86 = .ok (.goto (-47), 3) := by decide +kernel
theorem dX4_power_89 : decode cX4_power 89 = .ok (.aload_n 0, 1) := by decide +kernel
theorem dX4_power_90 : decode cX4_power 90 = .ok (.getfield 32, 3) := by decide +kernel
theorem dX4_power_93 : decode cX4_power 93 = .ok (.iload_n 2, 1) := by decide +kernel
theorem dX4_power_94 : decode cX4_power 94 = .ok (.i2l, 1) := by decide +kernel
theorem dX4_power_95 : decode cX4_power 95 = .ok (.aload_n 0, 1) := by decide +kernel
theorem dX4_power_96 : decode cX4_power 96 = .ok (.getfield 10, 3) := by decide +kernel
theorem dX4_power_99 : decode cX4_power 99 = .ok (.getfield 55, 3) := by decide +kernel
theorem dX4_power_102 : decode cX4_power 102 = .ok (.invokevirtual 131, 3) := by decide +kernel
theorem dX4_power_105 : decode cX4_power 105 = .ok (.i2l, 1) := by decide +kernel
theorem dX4_power_106 : decode cX4_power 106 = .ok (.invokevirtual 135, 3) := by decide +kernel
theorem dX4_power_109 : decode cX4_power 109 = .ok (.iconst 1, 1) := by decide +kernel
theorem dX4_power_110 : decode cX4_power 110 = .ok (.ireturn, 1) := by decide +kernel
theorem dX4_shield_0 : decode cX4_shield 0 = .ok (.iload_n 1, 1) := by decide +kernel
theorem dX4_shield_1 : decode cX4_shield 1 = .ok (.invokestatic 81, 3) := by decide +kernel
theorem dX4_shield_4 : decode cX4_shield 4 = .ok (.ifCond .ne 10, 3) := by decide +kernel
theorem dX4_shield_7 : decode cX4_shield 7 = .ok (.aload_n 0, 1) := by decide +kernel
theorem dX4_shield_8 : decode cX4_shield 8 = .ok (.bipush (-2), 2) := by decide +kernel
theorem dX4_shield_10 : decode cX4_shield 10 = .ok (.invokevirtual 51, 3) := by decide +kernel
theorem dX4_shield_13 : decode cX4_shield 13 = .ok (.ireturn, 1) := by decide +kernel
theorem dX4_shield_14 : decode cX4_shield 14 = .ok (.aload_n 0, 1) := by decide +kernel
theorem dX4_shield_15 : decode cX4_shield 15 = .ok (.getfield 10, 3) := by decide +kernel
theorem dX4_shield_18 : decode cX4_shield 18 = .ok (.getfield 55, 3) := by decide +kernel
theorem dX4_shield_21 : decode cX4_shield 21 = .ok (.getfield 66, 3) := by decide +kernel
theorem dX4_shield_24 : decode cX4_shield 24 = .ok (.ifCond .ne 10, 3) := by decide +kernel
theorem dX4_shield_27 : decode cX4_shield 27 = .ok (.aload_n 0, 1) := by decide +kernel
theorem dX4_shield_28 : decode cX4_shield 28 = .ok (.bipush (-3), 2) := by decide +kernel
theorem dX4_shield_30 : decode cX4_shield 30 = .ok (.invokevirtual 51, 3) := by decide +kernel
theorem dX4_shield_33 : decode cX4_shield 33 = .ok (.ireturn, 1) := by decide +kernel
theorem dX4_shield_34 : decode cX4_shield 34 = .ok (.aload_n 0, 1) := by decide +kernel
theorem dX4_shield_35 : decode cX4_shield 35 = .ok (.getfield 39, 3) := by decide +kernel
theorem dX4_shield_38 : decode cX4_shield 38 = .ok (.aload_n 0, 1) := by decide +kernel
theorem dX4_shield_39 : decode cX4_shield 39 = .ok (.getfield 10, 3) := by decide +kernel
theorem dX4_shield_42 : decode cX4_shield 42 = .ok (.getfield 55, 3) := by decide +kernel
theorem dX4_shield_45 : decode cX4_shield 45 = .ok (.invokevirtual 102, 3) := by decide +kernel
theorem dX4_shield_48 : decode cX4_shield 48 = .ok (.iconst (-1), 1) := by decide +kernel
theorem dX4_shield_49 : decode cX4_shield 49 = .ok (.istore_n 2, 1) := by decide +kernel
theorem dX4_shield_50 : decode cX4_shield 50 = .ok (.iconst (-1), 1) := by decide +kernel
theorem dX4_shield_51 : decode cX4_shield 51 = .ok (.istore_n 3, 1) := by decide +kernel
theorem dX4_shield_52 : decode cX4_shield 52 = .ok (.iconst 0, 1) := by decide +kernel
theorem dX4_shield_53 : decode cX4_shield 53 = .ok (.istore 4, 2) := by decide +kernel
theorem dX4_shield_55 : decode cX4_shield 55 = .ok (.iload 4, 2) := by decide +kernel
theorem dX4_shield_57 : decode cX4_shield 57 = .ok (.bipush 7, 2) := by decide +kernel
theorem dX4_shield_59 : decode cX4_shield 59 = .ok (.if_icmp .ge 46, 3) := by decide +kernel
theorem dX4_shield_62 : decode cX4_shield 62 = .ok (.aload_n 0, 1) := by decide +kernel
theorem dX4_shield_63 : decode cX4_shield 63 = .ok (.getfield 39, 3) := by decide +kernel
theorem dX4_shield_66 : decode cX4_shield 66 = .ok (.getfield 73, 3) := by decide +kernel
theorem dX4_shield_69 : decode cX4_shield 69 = .ok (.iload 4, 2) := by decide +kernel
theorem dX4_shield_71 : decode cX4_shield 71 = .ok (.iaload, 1) := by decide +kernel
theorem dX4_shield_72 : decode cX4_shield 72 = .ok (.ifCond .ne 27, 3) := by decide +kernel
theorem dX4_shield_75 : decode cX4_shield 75 = .ok (.aload_n 0, 1) := by decide +kernel
theorem dX4_shield_76 : decode cX4_shield 76 = .ok (.getfield 39, 3) := by decide +kernel
theorem dX4_shield_79 : decode cX4_shield 79 = .ok (.iload 4, 2) := by decide +kernel
theorem dX4_shield_81 : decode cX4_shield 81 = .ok (.iload_n 1, 1) := by decide +kernel
theorem dX4_shield_82 : decode cX4_shield 82 = .ok (.invokevirtual 150, 3) := by decide +kernel
theorem dX4_shield_85 : decode cX4_shield 85 = .ok (.istore 5, 2) := by decide +kernel
theorem dX4_shield_87 : decode cX4_shield 87 = .ok (.iload 5, 2) := by decide +kernel
theorem dX4_shield_89 : decode cX4_shield 89 = .ok (.iload_n 3, 1) := by decide +kernel
theorem dX4_shield_90 : decode cX4_shield 90 = .ok (.if_icmp .le 9, 3) := by decide +kernel
theorem dX4_shield_93 : decode cX4_shield 93 = .ok (.iload 5, 2) := by decide +kernel
theorem dX4_shield_95 : decode cX4_shield 95 = .ok (.istore_n 3, 1) := by decide +kernel
theorem dX4_shield_96 : decode cX4_shield 96 = .ok (.iload 4, 2) := by decide +kernel
theorem dX4_shield_98 : decode cX4_shield 98 = .ok (.istore_n 2, 1) := by decide +kernel
theorem dX4_shield_99 : decode cX4_shield 99 = .ok (.iinc 4 1, 3) := by decide +kernel
theorem dX4_shield_102 : decode cX4_shield 102 = .ok (.goto (-47), 3) := by decide +kernel
theorem dX4_shield_105 : decode cX4_shield 105 = .ok (.iload_n 2, 1) := by decide +kernel
theorem dX4_shield_106 : decode cX4_shield 106 = .ok (.iconst (-1), 1) := by decide +kernel
theorem dX4_shield_107 : decode cX4_shield 107 = .ok (.if_icmp .eq 20, 3) := by decide +kernel
theorem dX4_shield_110 : decode cX4_shield 110 = .ok (.aload_n 0, 1) := by decide +kernel
theorem dX4_shield_111 : decode cX4_shield 111 = .ok (.getfield 32, 3) := by decide +kernel
theorem dX4_shield_114 : decode cX4_shield 114 = .ok (.iload_n 3, 1) := by decide +kernel
theorem dX4_shield_115 : decode cX4_shield 115 = .ok (.i2l, 1) := by decide +kernel
theorem dX4_shield_116 : decode cX4_shield 116 = .ok (.aload_n 0, 1) := by decide +kernel
theorem dX4_shield_117 : decode cX4_shield 117 = .ok (.getfield 39, 3) := by decide +kernel
theorem dX4_shield_120 : decode cX4_shield 120 = .ok (.invokevirtual 131, 3) := by decide +kernel
theorem dX4_shield_123 : decode cX4_shield 123 = .ok (.i2l, 1) := by decide +kernel
theorem dX4_shield_124 : decode cX4_shield 124 = .ok (.invokevirtual 135, 3) := by decide +kernel
theorem dX4_shield_127 : decode cX4_shield 127 = .ok (.iload_n 2, 1) := by decide +kernel
theorem dX4_shield_128 : decode cX4_shield 128 = .ok (.ireturn, 1) := by decide +kernel
theorem dX4_shards_0 : decode cX4_shards 0 = .ok (.iload_n 2, 1) := by decide +kernel
theorem dX4_shards_1 : decode cX4_shards 1 = .ok (.iconst 0, 1) := by decide +kernel
theorem dX4_shards_2 : decode cX4_shards 2 = .ok (.bipush 18, 2) := by decide +kernel
theorem dX4_shards_4 : decode cX4_shards 4 = .ok (.invokestatic 43, 3) := by decide +kernel
theorem dX4_shards_7 : decode cX4_shards 7 = .ok (.ifCond .eq 17, 3) := by decide +kernel
theorem dX4_shards_10 : decode cX4_shards 10 = .ok (.iload_n 3, 1) := by decide +kernel
theorem dX4_shards_11 : decode cX4_shards 11 = .ok (.iconst 0, 1) := by decide +kernel
theorem dX4_shards_12 : decode cX4_shards 12 = .ok (.bipush 18, 2) := by decide +kernel
theorem dX4_shards_14 : decode cX4_shards 14 = .ok (.invokestatic 43, 3) := by decide +kernel
theorem dX4_shards_17 : decode cX4_shards 17 = .ok (.ifCond .eq 7, 3) := by decide +kernel
theorem dX4_shards_20 : decode cX4_shards 20 = .ok (.iconst 1, 1) := by decide +kernel
theorem dX4_shards_21 : decode cX4_shards 21 = .ok (.goto 4, 3) := by decide +kernel
theorem dX4_shards_24 : decode cX4_shards 24 = .ok (.iconst 0, 1) := by decide +kernel
theorem dX4_shards_25 : decode cX4_shards 25 = .ok (.istore 4, 2) := by decide +kernel
theorem dX4_shards_27 : decode cX4_shards 27 = .ok (.iload_n 2, 1) := by decide +kernel
theorem dX4_shards_28 : decode cX4_shards 28 = .ok (.iconst (-1), 1) := by decide +kernel
theorem dX4_shards_29 : decode cX4_shards 29 = .ok (.if_icmp .ne 12, 3) := by decide +kernel
theorem dX4_shards_32 : decode cX4_shards 32 = .ok (.iload_n 3, 1) := by decide +kernel
theorem dX4_shards_33 : decode cX4_shards 33 = .ok (.iconst (-1), 1) := by decide +kernel
theorem dX4_shards_34 : decode cX4_shards 34 = .ok (.if_icmp .ne 7, 3) := by decide +kernel
theorem dX4_shards_37 : decode cX4_shards 37 = .ok (.iconst 1, 1) := by decide +kernel
theorem dX4_shards_38 : decode cX4_shards 38 = .ok (.goto 4, 3) := by decide +kernel
theorem dX4_shards_41 : decode cX4_shards 41 = .ok (.iconst 0, 1) := by decide +kernel
theorem dX4_shards_42 : decode cX4_shards 42 = .ok (.istore 5, 2) := by decide +kernel
theorem dX4_shards_44 : decode cX4_shards 44 = .ok (.aload_n 0, 1) := by decide +kernel
theorem dX4_shards_45 : decode cX4_shards 45 = .ok (.iload_n 1, 1) := by decide +kernel
theorem dX4_shards_46 : decode cX4_shards 46 = .ok (.invokevirtual 77, 3) := by decide +kernel
theorem dX4_shards_49 : decode cX4_shards 49 = .ok (.ifCond .eq 13, 3) := by decide +kernel
theorem dX4_shards_52 : decode cX4_shards 52 = .ok (.iload 4, 2) := by decide +kernel
theorem dX4_shards_54 : decode cX4_shards 54 = .ok (.ifCond .ne 15, 3) := by decide +kernel
theorem dX4_shards_57 : decode cX4_shards 57 = .ok (.iload 5, 2) := by decide +kernel
theorem dX4_shards_59 : decode cX4_shards 59 = .ok (.ifCond .ne 10, 3) := by decide +kernel
theorem dX4_shards_62 : decode cX4_shards 62 = .ok (.aload_n 0, 1) := by decide +kernel
theorem dX4_shards_63 : decode cX4_shards 63 = .ok (.bipush (-2), 2) := by decide +kernel
theorem dX4_shards_65 : decode cX4_shards 65 = .ok (.invokevirtual 51, 3) := by decide +kernel
theorem dX4_shards_68 : decode cX4_shards 68 = .ok (.ireturn, 1) := by decide +kernel
theorem dX4_shards_69 : decode cX4_shards 69 = .ok (.aload_n 0, 1) := by decide +kernel
theorem dX4_shards_70 : decode cX4_shards 70 = .ok (.getfield 10, 3) := by decide +kernel
theorem dX4_shards_73 : decode cX4_shards 73 = .ok (.getfield 55, 3) := by decide +kernel
theorem dX4_shards_76 : decode cX4_shards 76 = .ok (.getfield 153, 3) := by decide +kernel
theorem dX4_shards_79 : decode cX4_shards 79 = .ok (.iload_n 1, 1) := by decide +kernel
theorem dX4_shards_80 : decode cX4_shards 80 = .ok (.iload_n 2, 1) := by decide +kernel
theorem dX4_shards_81 : decode cX4_shards 81 = .ok (.iastore, 1) := by decide +kernel
theorem dX4_shards_82 : decode cX4_shards 82 = .ok (.aload_n 0, 1) := by decide +kernel
theorem dX4_shards_83 : decode cX4_shards 83 = .ok (.getfield 10, 3) := by decide +kernel
theorem dX4_shards_86 : decode cX4_shards 86 = .ok (.getfield 55, 3) := by decide +kernel
theorem dX4_shards_89 : decode cX4_shards 89 = .ok (.getfield 156, 3) := by decide +kernel
theorem dX4_shards_92 : decode cX4_shards 92 = .ok (.iload_n 1, 1) := by decide +kernel
theorem dX4_shards_93 : decode cX4_shards 93 = .ok (.iload_n 3, 1) := by decide +kernel
theorem dX4_shards_94 : decode cX4_shards 94 = .ok (.iastore, 1) := by decide +kernel
theorem dX4_shards_95 : decode cX4_shards 95 = .ok (.iconst 1, 1) := by decide +kernel
theorem dX4_shards_96 : decode cX4_shards 96 = .ok (.ireturn, 1) := by decide +kernel
theorem dX4_which_0 : decode cX4_which 0 = .ok (.iload_n 1, 1) := by decide +kernel
theorem dX4_which_1 : decode cX4_which 1 = .ok (.iconst 0, 1) := by decide +kernel
theorem dX4_which_2 : decode cX4_which 2 = .ok (.iconst 1, 1) := by decide +kernel
theorem dX4_which_3 : decode cX4_which 3 = .ok (.invokestatic 43, 3) := by decide +kernel
theorem dX4_which_6 : decode cX4_which 6 = .ok (.ifCond .ne 10, 3) := by decide +kernel
theorem dX4_which_9 : decode cX4_which 9 = .ok (.aload_n 0, 1) := by decide +kernel
theorem dX4_which_10 : decode cX4_which 10 = .ok (.bipush (-2), 2) := by decide +kernel
theorem dX4_which_12 : decode cX4_which 12 = .ok (.invokevirtual 51, 3) := by decide +kernel
theorem dX4_which_15 : decode cX4_which 15 = .ok (.ireturn, 1) := by decide +kernel
theorem dX4_which_16 : decode cX4_which 16 = .ok (.iload_n 1, 1) := by decide +kernel
theorem dX4_which_17 : decode cX4_which 17 = .ok (.ifCond .ne 16, 3) := by decide +kernel
theorem dX4_which_20 : decode cX4_which 20 = .ok (.aload_n 0, 1) := by decide +kernel
theorem dX4_which_21 : decode cX4_which 21 = .ok (.getfield 10, 3) := by decide +kernel
theorem dX4_which_24 : decode cX4_which 24 = .ok (.getfield 55, 3) := by decide +kernel
theorem dX4_which_27 : decode cX4_which 27 = .ok (.invokevirtual 159, 3) := by decide +kernel
theorem dX4_which_30 : decode cX4_which 30 = .ok (.goto 13, 3) := by decide +kernel
theorem dX4_which_33 : decode cX4_which 33 = .ok (.aload_n 0, 1) := by decide +kernel
theorem dX4_which_34 : decode cX4_which 34 = .ok (.getfield 10, 3) := by decide +kernel
theorem dX4_which_37 : decode cX4_which 37 = .ok (.getfield 55, 3) := by decide +kernel
theorem dX4_which_40 : decode cX4_which 40 = .ok (.invokevirtual 162, 3) := by decide +kernel
theorem dX4_which_43 : decode cX4_which 43 = .ok (.ireturn, 1) := by decide +kernel
theorem dX4_recount_0 : decode cX4_recount 0 = .ok (.aload_n 0, 1) := by decide +kernel
theorem dX4_recount_1 : decode cX4_recount 1 = .ok (.iload_n 1, 1) := by decide +kernel
theorem dX4_recount_2 : decode cX4_recount 2 = .ok (.invokevirtual 109, 3) := by decide +kernel
theorem dX4_recount_5 : decode cX4_recount 5 = .ok (.ifCond .eq 13, 3) := by decide +kernel
theorem dX4_recount_8 : decode cX4_recount 8 = .ok (.iload_n 2, 1) := by decide +kernel
theorem dX4_recount_9 : decode cX4_recount 9 = .ok (.iconst 1, 1) := by decide +kernel
theorem dX4_recount_10 : decode cX4_recount 10 = .ok (.bipush 8, 2) := by decide +kernel
theorem dX4_recount_12 : decode cX4_recount 12 = .ok (.invokestatic 43, 3) := by decide +kernel
theorem dX4_recount_15 : decode cX4_recount 15 = .ok (.ifCond .ne 10, 3) := by decide +kernel
theorem dX4_recount_18 : decode cX4_recount 18 = .ok (.aload_n 0, 1) := by decide +kernel
theorem dX4_recount_19 : decode cX4_recount 19 = .ok (.bipush (-2), 2) := by decide +kernel
theorem dX4_recount_21 : decode cX4_recount 21 = .ok (.invokevirtual 51, 3) := by decide +kernel
theorem dX4_recount_24 : decode cX4_recount 24 = .ok (.ireturn, 1) := by decide +kernel
theorem dX4_recount_25 : decode cX4_recount 25 = .ok (.aload_n 0, 1) := by decide +kernel
theorem dX4_recount_26 : decode cX4_recount 26 = .ok (.getfield 10, 3) := by decide +kernel
theorem dX4_recount_29 : decode cX4_recount 29 = .ok (.getfield 55, 3) := by decide +kernel
theorem dX4_recount_32 : decode cX4_recount 32 = .ok (.iload_n 1, 1) := by decide +kernel
theorem dX4_recount_33 : decode cX4_recount 33 = .ok (.iconst 0, 1) := by decide +kernel
theorem dX4_recount_34 : decode cX4_recount 34 = .ok (.invokevirtual 115, 3) := by decide +kernel
theorem dX4_recount_37 : decode cX4_recount 37 = .ok (.istore_n 3, 1) := by decide +kernel
theorem dX4_recount_38 : decode cX4_recount 38 = .ok (.aload_n 0, 1) := by decide +kernel
theorem dX4_recount_39 : decode cX4_recount 39 = .ok (.getfield 10, 3) := by decide +kernel
theorem dX4_recount_42 : decode cX4_recount 42 = .ok (.getfield 55, 3) := by decide +kernel
theorem dX4_recount_45 : decode cX4_recount 45 = .ok (.iload_n 1, 1) := by decide +kernel
theorem dX4_recount_46 : decode cX4_recount 46 = .ok (.iconst 1, 1) := by decide +kernel
theorem dX4_recount_47 : decode cX4_recount 47 = .ok (.invokevirtual 115, 3) := by decide +kernel
theorem dX4_recount_50 : decode cX4_recount 50 = .ok (.istore 4, 2) := by decide +kernel
theorem dX4_recount_52 : decode cX4_recount 52 = .ok (.iload_n 2, 1) := by decide +kernel
theorem dX4_recount_53 : decode cX4_recount 53 = .ok (.iload_n 3, 1) := by decide +kernel
theorem dX4_recount_54 : decode cX4_recount 54 = .ok (.iload 4, 2) := by decide +kernel
theorem dX4_recount_56 : decode cX4_recount 56 = .ok (.iadd, 1) := by decide +kernel
theorem dX4_recount_57 : decode cX4_recount 57 = .ok (.if_icmp .le 10, 3) := by decide +kernel
theorem dX4_recount_60 : decode cX4_recount 60 = .ok (.aload_n 0, 1) := by decide +kernel
theorem dX4_recount_61 : decode cX4_recount 61 = .ok (.bipush (-2), 2) := by decide +kernel
theorem dX4_recount_63 : decode cX4_recount 63 = .ok (.invokevirtual 51, 3) := by decide +kernel
theorem dX4_recount_66 : decode cX4_recount 66 = .ok (.ireturn, 1) := by decide +kernel
theorem dX4_recount_67 : decode cX4_recount 67 = .ok (.iload_n 3, 1) := by decide +kernel
theorem dX4_recount_68 : decode cX4_recount 68 = .ok (.iload 4, 2) := by decide +kernel
theorem dX4_recount_70 : decode cX4_recount 70 = .ok (.if_icmp .ne 10, 3) := by decide +kernel
theorem dX4_recount_73 : decode cX4_recount 73 = .ok (.aload_n 0, 1) := by decide +kernel
theorem dX4_recount_74 : decode cX4_recount 74 = .ok (.bipush (-3), 2) := by decide +kernel
theorem dX4_recount_76 : decode cX4_recount 76 = .ok (.invokevirtual 51, 3) := by decide +kernel
theorem dX4_recount_79 : decode cX4_recount 79 = .ok (.ireturn, 1) := by decide +kernel
theorem dX4_recount_80 : decode cX4_recount 80 = .ok (.iload_n 3, 1) := by decide +kernel
theorem dX4_recount_81 : decode cX4_recount 81 = .ok (.iload 4, 2) := by decide +kernel
theorem dX4_recount_83 : decode cX4_recount 83 = .ok (.invokestatic 165, 3) := by decide +kernel
theorem dX4_recount_86 : decode cX4_recount 86 = .ok (.istore 5, 2) := by decide +kernel
theorem dX4_recount_88 : decode cX4_recount 88 = .ok (.iload_n 3, 1) := by decide +kernel
theorem dX4_recount_89 : decode cX4_recount 89 = .ok (.iload 4, 2) := by decide +kernel
theorem dX4_recount_91 : decode cX4_recount 91 = .ok (.invokestatic 170, 3) := by decide +kernel
theorem dX4_recount_94 : decode cX4_recount 94 = .ok (.istore 6, 2) := by decide +kernel
theorem dX4_recount_96 : decode cX4_recount 96 = .ok (.lconst 0, 1) := by decide +kernel
theorem dX4_recount_97 : decode cX4_recount 97 = .ok (.lstore 7, 2) := by decide +kernel
theorem dX4_recount_99 : decode cX4_recount 99 = .ok (.iload_n 2, 1) := by decide +kernel
theorem dX4_recount_100 : decode cX4_recount 100 = .ok (.iconst 2, 1) := by decide +kernel
theorem dX4_recount_101 : decode cX4_recount 101 = .ok (.idiv, 1) := by decide +kernel
theorem dX4_recount_102 : decode cX4_recount 102 = .ok (.iconst 1, 1) := by decide +kernel
theorem dX4_recount_103 : decode cX4_recount 103 = .ok (.iadd, 1) := by decide +kernel
theorem dX4_recount_104 : decode cX4_recount 104 = .ok (.istore 9, 2) := by decide +kernel
theorem dX4_recount_106 : decode cX4_recount 106 = .ok (.iload 9, 2) := by decide +kernel
theorem dX4_recount_108 : decode cX4_recount 108 = .ok (.iload_n 2, 1) := by decide +kernel
theorem dX4_recount_109 : decode cX4_recount 109 = .ok (.if_icmp .gt 31, 3) := by decide +kernel
theorem dX4_recount_112 : decode cX4_recount 112 = .ok (.lload 7, 2) := by decide +kernel
theorem dX4_recount_114 : decode cX4_recount 114 = .ok (.iload 5, 2) := by decide +kernel
theorem dX4_recount_116 : decode cX4_recount 116 = .ok (.iload 9, 2) := by decide +kernel
theorem dX4_recount_118 : decode cX4_recount 118 = .ok (.invokestatic 173, 3) := by decide +kernel
theorem dX4_recount_121 : decode cX4_recount 121 = .ok (.iload 6, 2) := by decide +kernel
theorem dX4_recount_123 : decode cX4_recount 123 = .ok (.iload_n 2, 1) := by decide +kernel
theorem dX4_recount_124 : decode cX4_recount 124 = .ok (.iload 9, 2) := by decide +kernel
theorem dX4_recount_126 : decode cX4_recount 126 = .ok (.isub, 1) := by decide +kernel
theorem dX4_recount_127 : decode cX4_recount 127 = .ok (.invokestatic 173, 3) := by decide +kernel
theorem dX4_recount_130 : decode cX4_recount 130 = .ok (.lmul, 1) := by decide +kernel
theorem dX4_recount_131 : decode cX4_recount 131 = .ok (.ladd, 1) := by decide +kernel
theorem dX4_recount_132 : decode cX4_recount 132 = .ok (.lstore 7, 2) := by decide +kernel
theorem dX4_recount_134 : decode cX4_recount 134 = .ok (.iinc 9 1, 3) := by decide +kernel
theorem dX4_recount_137 : decode cX4_recount 137 = .ok (.goto (-31), 3) := by decide +kernel
theorem dX4_recount_140 : decode cX4_recount 140 = .ok (.aload_n 0, 1) := by decide +kernel
theorem dX4_recount_141 : decode cX4_recount 141 = .ok (.getfield 32, 3) := by decide +kernel
theorem dX4_recount_144 : decode cX4_recount 144 = .ok (.lload 7, 2) := by decide +kernel
theorem dX4_recount_146 : decode cX4_recount 146 = .ok (.iload 5, 2) := by decide +kernel
theorem dX4_recount_148 : decode cX4_recount 148 = .ok (.iload 6, 2) := by decide +kernel
theorem dX4_recount_150 : decode cX4_recount 150 = .ok (.iadd, 1) := by decide +kernel
theorem dX4_recount_151 : decode cX4_recount 151 = .ok (.iload_n 2, 1) := by decide +kernel
theorem dX4_recount_152 : decode cX4_recount 152 = .ok (.invokestatic 173, 3) := by decide +kernel
theorem dX4_recount_155 : decode cX4_recount 155 = .ok (.invokevirtual 135, 3) := by decide +kernel
theorem dX4_recount_158 : decode cX4_recount 158 = .ok (.iconst 1, 1) := by decide +kernel
theorem dX4_recount_159 : decode cX4_recount 159 = .ok (.ireturn, 1) := by decide +kernel
theorem dX4_year_0 : decode cX4_year 0 = .ok (.iload_n 1, 1) := by decide +kernel
theorem dX4_year_1 : decode cX4_year 1 = .ok (.iconst (-1), 1) := by decide +kernel
theorem dX4_year_2 : decode cX4_year 2 = .ok (.if_icmp .eq 18, 3) := by decide +kernel
theorem dX4_year_5 : decode cX4_year 5 = .ok (.aload_n 0, 1) := by decide +kernel
theorem dX4_year_6 : decode cX4_year 6 = .ok (.iload_n 1, 1) := by decide +kernel
theorem dX4_year_7 : decode cX4_year 7 = .ok (.invokevirtual 109, 3) := by decide +kernel
theorem dX4_year_10 : decode cX4_year 10 = .ok (.ifCond .ne 10, 3) := by decide +kernel
theorem dX4_year_13 : decode cX4_year 13 = .ok (.aload_n 0, 1) := by decide +kernel
theorem dX4_year_14 : decode cX4_year 14 = .ok (.bipush (-2), 2) := by decide +kernel
theorem dX4_year_16 : decode cX4_year 16 = .ok (.invokevirtual 51, 3) := by decide +kernel
theorem dX4_year_19 : decode cX4_year 19 = .ok (.ireturn, 1) := by decide +kernel
theorem dX4_year_20 : decode cX4_year 20 = .ok (.aload_n 0, 1) := by decide +kernel
theorem dX4_year_21 : decode cX4_year 21 = .ok (.getfield 10, 3) := by decide +kernel
theorem dX4_year_24 : decode cX4_year 24 = .ok (.invokevirtual 177, 3) := by decide +kernel
theorem dX4_year_27 : decode cX4_year 27 = .ok (.aload_n 0, 1) := by decide +kernel
theorem dX4_year_28 : decode cX4_year 28 = .ok (.getfield 10, 3) := by decide +kernel
theorem dX4_year_31 : decode cX4_year 31 = .ok (.getfield 55, 3) := by decide +kernel
theorem dX4_year_34 : decode cX4_year 34 = .ok (.iload_n 1, 1) := by decide +kernel
theorem dX4_year_35 : decode cX4_year 35 = .ok (.invokevirtual 180, 3) := by decide +kernel
theorem dX4_year_38 : decode cX4_year 38 = .ok (.ireturn, 1) := by decide +kernel
theorem dX4_undo_0 : decode cX4_undo 0 = .ok (.aload_n 0, 1) := by decide +kernel
theorem dX4_undo_1 : decode cX4_undo 1 = .ok (.getfield 10, 3) := by decide +kernel
theorem dX4_undo_4 : decode cX4_undo 4 = .ok (.invokevirtual 183, 3) := by decide +kernel
theorem dX4_undo_7 : decode cX4_undo 7 = .ok (.ifCond .eq 7, 3) := by decide +kernel
theorem dX4_undo_10 : decode cX4_undo 10 = .ok (.iconst 1, 1) := by decide +kernel
theorem dX4_undo_11 : decode cX4_undo 11 = .ok (.goto 9, 3) := by decide +kernel
theorem dX4_undo_14 : decode cX4_undo 14 = .ok (.aload_n 0, 1) := by decide +kernel
theorem dX4_undo_15 : decode cX4_undo 15 = .ok (.bipush (-3), 2) := by decide +kernel
theorem dX4_undo_17 : decode cX4_undo 17 = .ok (.invokevirtual 51, 3) := by decide +kernel
theorem dX4_undo_20 : decode cX4_undo 20 = .ok (.ireturn, 1) := by decide +kernel
theorem dX4_drawn_0 : decode cX4_drawn 0 = .ok (.iload_n 1, 1) := by decide +kernel
theorem dX4_drawn_1 : decode cX4_drawn 1 = .ok (.iconst 0, 1) := by decide +kernel
theorem dX4_drawn_2 : decode cX4_drawn 2 = .ok (.ldc 187, 2) := by decide +kernel
theorem dX4_drawn_4 : decode cX4_drawn 4 = .ok (.invokestatic 43, 3) := by decide +kernel
theorem dX4_drawn_7 : decode cX4_drawn 7 = .ok (.ifCond .eq 13, 3) := by decide +kernel
theorem dX4_drawn_10 : decode cX4_drawn 10 = .ok (.iload_n 2, 1) := by decide +kernel
theorem dX4_drawn_11 : decode cX4_drawn 11 = .ok (.iconst 0, 1) := by decide +kernel
theorem dX4_drawn_12 : decode cX4_drawn 12 = .ok (.bipush 20, 2) := by decide +kernel
theorem dX4_drawn_14 : decode cX4_drawn 14 = .ok (.invokestatic 43, 3) := by decide +kernel
theorem dX4_drawn_17 : decode cX4_drawn 17 = .ok (.ifCond .ne 14, 3) := by decide +kernel
theorem dX4_drawn_20 : decode cX4_drawn 20 = .ok (.aload_n 0, 1) := by decide +kernel
theorem dX4_drawn_21 : decode cX4_drawn 21 = .ok (.bipush (-2), 2) := by decide +kernel
theorem dX4_drawn_23 : decode cX4_drawn 23 = .ok (.invokevirtual 51, 3) := by decide +kernel
theorem dX4_drawn_26 : decode cX4_drawn 26 = .ok (.pop, 1) := by decide +kernel
theorem dX4_drawn_27 : decode cX4_drawn 27 = .ok (.sipush (-1000), 3) := by decide +kernel
theorem dX4_drawn_30 : decode cX4_drawn 30 = .ok (.ireturn, 1) := by decide +kernel
theorem dX4_drawn_31 : decode cX4_drawn 31 = .ok (.aload_n 0, 1) := by decide +kernel
theorem dX4_drawn_32 : decode cX4_drawn 32 = .ok (.getfield 39, 3) := by decide +kernel
theorem dX4_drawn_35 : decode cX4_drawn 35 = .ok (.aload_n 0, 1) := by decide +kernel
theorem dX4_drawn_36 : decode cX4_drawn 36 = .ok (.getfield 10, 3) := by decide +kernel
theorem dX4_drawn_39 : decode cX4_drawn 39 = .ok (.getfield 55, 3) := by decide +kernel
theorem dX4_drawn_42 : decode cX4_drawn 42 = .ok (.invokevirtual 102, 3) := by decide +kernel
theorem dX4_drawn_45 : decode cX4_drawn 45 = .ok (.aload_n 0, 1) := by decide +kernel
theorem dX4_drawn_46 : decode cX4_drawn 46 = .ok (.getfield 39, 3) := by decide +kernel
theorem dX4_drawn_49 : decode cX4_drawn 49 = .ok (.invokevirtual 131, 3) := by decide +kernel
theorem dX4_drawn_52 : decode cX4_drawn 52 = .ok (.i2l, 1) := by decide +kernel
theorem dX4_drawn_53 : decode cX4_drawn 53 = .ok (.lconst 1, 1) := by decide +kernel
theorem dX4_drawn_54 : decode cX4_drawn 54 = .ok (.ladd, 1) := by decide +kernel
theorem dX4_drawn_55 : decode cX4_drawn 55 = .ok (.lstore_n 3, 1) := by decide +kernel
theorem dX4_drawn_56 : decode cX4_drawn 56 = .ok (.iload_n 1, 1) := by decide +kernel
theorem dX4_drawn_57 : decode cX4_drawn 57 = .ok (.i2l, 1) := by decide +kernel
theorem dX4_drawn_58 : decode cX4_drawn 58 = .ok (.lstore 5, 2) := by decide +kernel
theorem dX4_drawn_60 : decode cX4_drawn 60 = .ok (.iconst 0, 1) := by decide +kernel
theorem dX4_drawn_61 : decode cX4_drawn 61 = .ok (.istore 7, 2) := by decide +kernel
theorem dX4_drawn_63 : decode cX4_drawn 63 = .ok (.iconst 0, 1) := by decide +kernel
theorem dX4_drawn_64 : decode cX4_drawn 64 = .ok (.istore 8, 2) := by decide +kernel
theorem dX4_drawn_66 : decode cX4_drawn 66 = .ok (.iload 8, 2) := by decide +kernel
theorem dX4_drawn_68 : decode cX4_drawn 68 = .ok (.iload_n 2, 1) := by decide +kernel
theorem dX4_drawn_69 : decode cX4_drawn 69 = .ok (.if_icmp .ge 102, 3) := by decide +kernel
theorem dX4_drawn_72 : decode cX4_drawn 72 = .ok (.lload_n 3, 1) := by decide +kernel
theorem dX4_drawn_73 : decode cX4_drawn 73 = .ok (.lconst 0, 1) := by decide +kernel
theorem dX4_drawn_74 : decode cX4_drawn 74 = .ok (.lcmp, 1) := by decide +kernel
theorem dX4_drawn_75 : decode cX4_drawn 75 = .ok (.ifCond .le 96, 3) := by decide +kernel
theorem dX4_drawn_78 : decode cX4_drawn 78 = .ok (.lload 5, 2) := by decide +kernel
theorem dX4_drawn_80 : decode cX4_drawn 80 = .ok (.ldc2_w 188, 3) := by decide +kernel
theorem dX4_drawn_83 : decode cX4_drawn 83 = .ok (.lmul, 1) := by decide +kernel
theorem dX4_drawn_84 : decode cX4_drawn 84 = .ok (.ldc2_w 190, 3) := by decide +kernel
theorem dX4_drawn_87 : decode cX4_drawn 87 = .ok (.ladd, 1) := by decide +kernel
theorem dX4_drawn_88 : decode cX4_drawn 88 = .ok (.ldc2_w 192, 3) := by decide +kernel
theorem dX4_drawn_91 : decode cX4_drawn 91 = .ok (.lrem, 1) := by decide +kernel
theorem dX4_drawn_92 : decode cX4_drawn 92 = .ok (.lstore 5, 2) := by decide +kernel
theorem dX4_drawn_94 : decode cX4_drawn 94 = .ok (.aload_n 0, 1) := by decide +kernel
theorem dX4_drawn_95 : decode cX4_drawn 95 = .ok (.getfield 39, 3) := by decide +kernel
theorem dX4_drawn_98 : decode cX4_drawn 98 = .ok (.lload 5, 2) := by decide +kernel
theorem dX4_drawn_100 : decode cX4_drawn 100 = .ok (.ldc2_w 194, 3) := by decide +kernel
theorem dX4_drawn_103 : decode cX4_drawn 103 = .ok (.ldiv, 1) := by decide +kernel
theorem dX4_drawn_104 : decode cX4_drawn 104 = .ok (.lload_n 3, 1) := by decide +kernel
theorem dX4_drawn_105 : decode cX4_drawn 105 = .ok (.lrem, 1) := by decide +kernel
theorem dX4_drawn_106 : decode cX4_drawn 106 = .ok (.invokevirtual 196, 3) := by decide +kernel
theorem dX4_drawn_109 : decode cX4_drawn 109 = .ok (.istore 9, 2) := by decide +kernel
theorem dX4_drawn_111 : decode cX4_drawn 111 = .ok (.iload 9, 2) := by decide +kernel
theorem dX4_drawn_113 : decode cX4_drawn 113 = .ok (.iconst (-1), 1) := by decide +kernel
theorem dX4_drawn_114 : decode cX4_drawn 114 = .ok (.if_icmp .ne 7, 3) := by decide +kernel
theorem dX4_drawn_117 : decode cX4_drawn 117 = .ok (.iconst (-1), 1) := by decide +kernel
theorem dX4_drawn_118 : decode cX4_drawn 118 = .ok (.goto 15, 3) := by decide +kernel
theorem dX4_drawn_121 : decode cX4_drawn 121 = .ok (.aload_n 0, 1) := by decide +kernel
theorem dX4_drawn_122 : decode cX4_drawn 122 = .ok (.getfield 39, 3) := by decide +kernel
theorem dX4_drawn_125 : decode cX4_drawn 125 = .ok (.iload 9, 2) := by decide +kernel
theorem dX4_drawn_127 : decode cX4_drawn 127 = .ok (.invokevirtual 122, 3) := by decide +kernel
theorem dX4_drawn_130 : decode cX4_drawn 130 = .ok (.invokestatic 125, 3) := by decide +kernel
theorem dX4_drawn_133 : decode cX4_drawn 133 = .ok (.istore 10, 2) := by decide +kernel
theorem dX4_drawn_135 : decode cX4_drawn 135 = .ok (.iload 10, 2) := by decide +kernel
theorem dX4_drawn_137 : decode cX4_drawn 137 = .ok (.ifCond .ne 9, 3) := by decide +kernel
theorem dX4_drawn_140 : decode cX4_drawn 140 = .ok (.iinc 7 1, 3) := by decide +kernel
theorem dX4_drawn_143 : decode cX4_drawn 143 = .ok (.goto 12, 3) := by decide +kernel
theorem dX4_drawn_146 : decode cX4_drawn 146 = .ok (.iload 10, 2) := by decide +kernel
theorem dX4_drawn_148 : decode cX4_drawn 148 = .ok (.iconst 1, 1) := by decide +kernel
theorem dX4_drawn_149 : decode cX4_drawn 149 = .ok (.if_icmp .ne 6, 3) := by decide +kernel
theorem dX4_drawn_152 : decode cX4_drawn 152 = .ok (.iinc 7 (-1), 3) := by decide +kernel
theorem dX4_drawn_155 : decode cX4_drawn 155 = .ok (.aload_n 0, 1) := by decide +kernel
theorem dX4_drawn_156 : decode cX4_drawn 156 = .ok (.getfield 39, 3) := by decide +kernel
theorem dX4_drawn_159 : decode cX4_drawn 159 = .ok (.iload 9, 2) := by decide +kernel
theorem dX4_drawn_161 : decode cX4_drawn 161 = .ok (.invokevirtual 180, 3) := by decide +kernel
theorem dX4_drawn_164 : decode cX4_drawn 164 = .ok (.pop, 1) := by decide +kernel
theorem dX4_drawn_165 : decode cX4_drawn 165 = .ok (.iinc 8 1, 3) := by decide +kernel
theorem dX4_drawn_168 : decode cX4_drawn 168 = .ok (.goto (-102), 3) := by decide +kernel
theorem dX4_drawn_171 : decode cX4_drawn 171 = .ok (.iload 7, 2) := by decide +kernel
theorem dX4_drawn_173 : decode cX4_drawn 173 = .ok (.ireturn, 1) := by decide +kernel
theorem dX4_part_0 : decode cX4_part 0 = .ok (.iload_n 1, 1) := by decide +kernel
theorem dX4_part_1 : decode cX4_part 1 = .ok (.iconst 0, 1) := by decide +kernel
theorem dX4_part_2 : decode cX4_part 2 = .ok (.iconst 1, 1) := by decide +kernel
theorem dX4_part_3 : decode cX4_part 3 = .ok (.invokestatic 43, 3) := by decide +kernel
theorem dX4_part_6 : decode cX4_part 6 = .ok (.ifCond .ne 14, 3) := by decide +kernel
theorem dX4_part_9 : decode cX4_part 9 = .ok (.aload_n 0, 1) := by decide +kernel
theorem dX4_part_10 : decode cX4_part 10 = .ok (.bipush (-2), 2) := by decide +kernel
theorem dX4_part_12 : decode cX4_part 12 = .ok (.invokevirtual 51, 3) := by decide +kernel
theorem dX4_part_15 : decode cX4_part 15 = .ok (.pop, 1) := by decide +kernel
theorem dX4_part_16 : decode cX4_part 16 = .ok (.ldc2_w 200, 3) := by decide +kernel
theorem dX4_part_19 : decode cX4_part 19 = .ok (.lreturn, 1) := by decide +kernel
theorem dX4_part_20 : decode cX4_part 20 = .ok (.iload_n 1, 1) := by decide +kernel
theorem dX4_part_21 : decode cX4_part 21 = .ok (.ifCond .ne 13, 3) := by decide +kernel
theorem dX4_part_24 : decode cX4_part 24 = .ok (.aload_n 0, 1) := by decide +kernel
theorem dX4_part_25 : decode cX4_part 25 = .ok (.getfield 32, 3) := by decide +kernel
theorem dX4_part_28 : decode cX4_part 28 = .ok (.getfield 202, 3) := by decide +kernel
theorem dX4_part_31 : decode cX4_part 31 = .ok (.goto 10, 3) := by decide +kernel
theorem dX4_part_34 : decode cX4_part 34 = .ok (.aload_n 0, 1) := by decide +kernel
theorem dX4_part_35 : decode cX4_part 35 = .ok (.getfield 32, 3) := by decide +kernel
theorem dX4_part_38 : decode cX4_part 38 = .ok (.getfield 206, 3) := by decide +kernel
theorem dX4_part_41 : decode cX4_part 41 = .ok (.lreturn, 1) := by decide +kernel
theorem dX4_image_0 : decode cX4_image 0 = .ok (.iload_n 1, 1) := by decide +kernel
theorem dX4_image_1 : decode cX4_image 1 = .ok (.iconst 0, 1) := by decide +kernel
theorem dX4_image_2 : decode cX4_image 2 = .ok (.iconst 1, 1) := by decide +kernel
theorem dX4_image_3 : decode cX4_image 3 = .ok (.invokestatic 43, 3) := by decide +kernel
theorem dX4_image_6 : decode cX4_image 6 = .ok (.ifCond .ne 10, 3) := by decide +kernel
theorem dX4_image_9 : decode cX4_image 9 = .ok (.aload_n 0, 1) := by decide +kernel
theorem dX4_image_10 : decode cX4_image 10 = .ok (.bipush (-2), 2) := by decide +kernel
theorem dX4_image_12 : decode cX4_image 12 = .ok (.invokevirtual 51, 3) := by decide +kernel
theorem dX4_image_15 : decode cX4_image 15 = .ok (.ireturn, 1) := by decide +kernel
theorem dX4_image_16 : decode cX4_image 16 = .ok (.iload_n 1, 1) := by decide +kernel
theorem dX4_image_17 : decode cX4_image 17 = .ok (.ifCond .ne 10, 3) := by decide +kernel
theorem dX4_image_20 : decode cX4_image 20 = .ok (.aload_n 0, 1) := by decide +kernel
theorem dX4_image_21 : decode cX4_image 21 = .ok (.getfield 16, 3) := by decide +kernel
theorem dX4_image_24 : decode cX4_image 24 = .ok (.goto 7, 3) := by decide +kernel
theorem dX4_image_27 : decode cX4_image 27 = .ok (.aload_n 0, 1) := by decide +kernel
theorem dX4_image_28 : decode cX4_image 28 = .ok (.getfield 19, 3) := by decide +kernel
theorem dX4_image_31 : decode cX4_image 31 = .ok (.astore_n 2, 1) := by decide +kernel
theorem dX4_image_32 : decode cX4_image 32 = .ok (.aload_n 2, 1) := by decide +kernel
theorem dX4_image_33 : decode cX4_image 33 = .ok (.aload_n 0, 1) := by decide +kernel
theorem dX4_image_34 : decode cX4_image 34 = .ok (.getfield 10, 3) := by decide +kernel
theorem dX4_image_37 : decode cX4_image 37 = .ok (.invokevirtual 209, 3) := by decide +kernel
theorem dX4_image_40 : decode cX4_image 40 = .ok (.aload_n 2, 1) := by decide +kernel
theorem dX4_image_41 : decode cX4_image 41 = .ok (.iconst 1, 1) := by decide +kernel
theorem dX4_image_42 : decode cX4_image 42 = .ok (.putfield 212, 3) := by decide +kernel
theorem dX4_image_45 : decode cX4_image 45 = .ok (.iconst 1, 1) := by decide +kernel
theorem dX4_image_46 : decode cX4_image 46 = .ok (.ireturn, 1) := by decide +kernel
theorem dX4_from_0 : decode cX4_from 0 = .ok (.iload_n 1, 1) := by decide +kernel
theorem dX4_from_1 : decode cX4_from 1 = .ok (.iconst 0, 1) := by decide +kernel
theorem dX4_from_2 : decode cX4_from 2 = .ok (.iconst 1, 1) := by decide +kernel
theorem dX4_from_3 : decode cX4_from 3 = .ok (.invokestatic 43, 3) := by decide +kernel
theorem dX4_from_6 : decode cX4_from 6 = .ok (.ifCond .ne 10, 3) := by decide +kernel
theorem dX4_from_9 : decode cX4_from 9 = .ok (.aload_n 0, 1) := by decide +kernel
theorem dX4_from_10 : decode cX4_from 10 = .ok (.bipush (-2), 2) := by decide +kernel
theorem dX4_from_12 : decode cX4_from 12 = .ok (.invokevirtual 51, 3) := by decide +kernel
theorem dX4_from_15 : decode cX4_from 15 = .ok (.ireturn, 1) := by decide +kernel
theorem dX4_from_16 : decode cX4_from 16 = .ok (.iload_n 1, 1) := by decide +kernel
theorem dX4_from_17 : decode cX4_from 17 = .ok (.ifCond .ne 10, 3) := by decide +kernel
theorem dX4_from_20 : decode cX4_from 20 = .ok (.aload_n 0, 1) := by decide +kernel
theorem dX4_from_21 : decode cX4_from 21 = .ok (.getfield 16, 3) := by decide +kernel
theorem dX4_from_24 : decode cX4_from 24 = .ok (.goto 7, 3) := by decide +kernel
theorem dX4_from_27 : decode cX4_from 27 = .ok (.aload_n 0, 1) := by decide +kernel
theorem dX4_from_28 : decode cX4_from 28 = .ok (.getfield 19, 3) := by decide +kernel
theorem dX4_from_31 : decode cX4_from 31 = .ok (.astore_n 2, 1) := by decide +kernel
theorem dX4_from_32 : decode cX4_from 32 = .ok (.aload_n 2, 1) := by decide +kernel
theorem dX4_from_33 : decode cX4_from 33 = .ok (.getfield 212, 3) := by decide +kernel
theorem dX4_from_36 : decode cX4_from 36 = .ok (.ifCond .ne 10, 3) := by decide +kernel
theorem dX4_from_39 : decode cX4_from 39 = .ok (.aload_n 0, 1) := by decide +kernel
theorem dX4_from_40 : decode cX4_from 40 = .ok (.bipush (-3), 2) := by decide +kernel
theorem dX4_from_42 : decode cX4_from 42 = .ok (.invokevirtual 51, 3) := by decide +kernel
theorem dX4_from_45 : decode cX4_from 45 = .ok (.ireturn, 1) := by decide +kernel
theorem dX4_from_46 : decode cX4_from 46 = .ok (.aload_n 0, 1) := by decide +kernel
theorem dX4_from_47 : decode cX4_from 47 = .ok (.getfield 10, 3) := by decide +kernel
theorem dX4_from_50 : decode cX4_from 50 = .ok (.aload_n 2, 1) := by decide +kernel
theorem dX4_from_51 : decode cX4_from 51 = .ok (.invokevirtual 209, 3) := by decide +kernel
theorem dX4_from_54 : decode cX4_from 54 = .ok (.iconst 1, 1) := by decide +kernel
theorem dX4_from_55 : decode cX4_from 55 = .ok (.ireturn, 1) := by decide +kernel
theorem dX4_status_0 : decode cX4_status 0 = .ok (.iload_n 1, 1) := by decide +kernel
theorem dX4_status_1 : decode cX4_status 1 = .ok (.tableswitch 42 0 2 #[27, 32, 37], 27) := by decide +kernel
theorem dX4_status_28 : decode cX4_status 28 = .ok (.aload_n 0, 1) := by decide +kernel
theorem dX4_status_29 : decode cX4_status 29 = .ok (.getfield 216, 3) := by decide +kernel
theorem dX4_status_32 : decode cX4_status 32 = .ok (.ireturn, 1) := by decide +kernel
theorem dX4_status_33 : decode cX4_status 33 = .ok (.aload_n 0, 1) := by decide +kernel
theorem dX4_status_34 : decode cX4_status 34 = .ok (.getfield 219, 3) := by decide +kernel
theorem dX4_status_37 : decode cX4_status 37 = .ok (.ireturn, 1) := by decide +kernel
theorem dX4_status_38 : decode cX4_status 38 = .ok (.aload_n 0, 1) := by decide +kernel
theorem dX4_status_39 : decode cX4_status 39 = .ok (.getfield 222, 3) := by decide +kernel
theorem dX4_status_42 : decode cX4_status 42 = .ok (.ireturn, 1) := by decide +kernel
theorem dX4_status_43 : decode cX4_status 43 = .ok (.aload_n 0, 1) := by decide +kernel
theorem dX4_status_44 : decode cX4_status 44 = .ok (.bipush (-2), 2) := by decide +kernel
