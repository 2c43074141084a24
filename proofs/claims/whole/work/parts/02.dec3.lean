theorem dX5_against_46 : decode cX5_against 46 = .ok (.iconst 1, 1) := by decide +kernel
theorem dX5_against_47 : decode cX5_against 47 = .ok (.iadd, 1) := by decide +kernel
theorem dX5_against_48 : decode cX5_against 48 = .ok (.iaload, 1) := by decide +kernel
theorem dX5_against_49 : decode cX5_against 49 = .ok (.ifCond .le 43, 3) := by decide +kernel
theorem dX5_against_52 : decode cX5_against 52 = .ok (.aload_n 0, 1) := by decide +kernel
theorem dX5_against_53 : decode cX5_against 53 = .ok (.iload 4, 2) := by decide +kernel
theorem dX5_against_55 : decode cX5_against 55 = .ok (.iconst 0, 1) := by decide +kernel
theorem dX5_against_56 : decode cX5_against 56 = .ok (.iconst 1, 1) := by decide +kernel
theorem dX5_against_57 : decode cX5_against 57 = .ok (.invokevirtual 146, 3) := by decide +kernel
theorem dX5_against_60 : decode cX5_against 60 = .ok (.aload_n 0, 1) := by decide +kernel
theorem dX5_against_61 : decode cX5_against 61 = .ok (.invokevirtual 156, 3) := by decide +kernel
theorem dX5_against_64 : decode cX5_against 64 = .ok (.istore 5, 2) := by decide +kernel
theorem dX5_against_66 : decode cX5_against 66 = .ok (.aload_n 0, 1) := by decide +kernel
theorem dX5_against_67 : decode cX5_against 67 = .ok (.iload 4, 2) := by decide +kernel
theorem dX5_against_69 : decode cX5_against 69 = .ok (.iconst 0, 1) := by decide +kernel
theorem dX5_against_70 : decode cX5_against 70 = .ok (.iconst (-1), 1) := by decide +kernel
theorem dX5_against_71 : decode cX5_against 71 = .ok (.invokevirtual 146, 3) := by decide +kernel
theorem dX5_against_74 : decode cX5_against 74 = .ok (.iload_n 3, 1) := by decide +kernel
theorem dX5_against_75 : decode cX5_against 75 = .ok (.ifCond .eq 9, 3) := by decide +kernel
theorem dX5_against_78 : decode cX5_against 78 = .ok (.iload 5, 2) := by decide +kernel
theorem dX5_against_80 : decode cX5_against 80 = .ok (.iload_n 2, 1) := by decide +kernel
theorem dX5_against_81 : decode cX5_against 81 = .ok (.if_icmp .le 11, 3) := by decide +kernel
theorem dX5_against_84 : decode cX5_against 84 = .ok (.iload 4, 2) := by decide +kernel
theorem dX5_against_86 : decode cX5_against 86 = .ok (.istore_n 1, 1) := by decide +kernel
theorem dX5_against_87 : decode cX5_against 87 = .ok (.iload 5, 2) := by decide +kernel
theorem dX5_against_89 : decode cX5_against 89 = .ok (.istore_n 2, 1) := by decide +kernel
theorem dX5_against_90 : decode cX5_against 90 = .ok (.iconst 1, 1) := by decide +kernel
theorem dX5_against_91 : decode cX5_against 91 = .ok (.istore_n 3, 1) := by decide +kernel
theorem dX5_against_92 : decode cX5_against 92 = .ok (.iinc 4 1, 3) := by decide +kernel
theorem dX5_against_95 : decode cX5_against 95 = .ok (.goto (-68), 3) := by decide +kernel
theorem dX5_against_98 : decode cX5_against 98 = .ok (.aload_n 0, 1) := by decide +kernel
theorem dX5_against_99 : decode cX5_against 99 = .ok (.invokevirtual 156, 3) := by decide +kernel
theorem dX5_against_102 : decode cX5_against 102 = .ok (.istore 4, 2) := by decide +kernel
theorem dX5_against_104 : decode cX5_against 104 = .ok (.iload_n 3, 1) := by decide +kernel
theorem dX5_against_105 : decode cX5_against 105 = .ok (.ifCond .eq 9, 3) := by decide +kernel
theorem dX5_against_108 : decode cX5_against 108 = .ok (.iload 4, 2) := by decide +kernel
theorem dX5_against_110 : decode cX5_against 110 = .ok (.iload_n 2, 1) := by decide +kernel
theorem dX5_against_111 : decode cX5_against 111 = .ok (.if_icmp .le 8, 3) := by decide +kernel
theorem dX5_against_114 : decode cX5_against 114 = .ok (.iconst (-1), 1) := by decide +kernel
theorem dX5_against_115 : decode cX5_against 115 = .ok (.istore_n 1, 1) := by decide +kernel
theorem dX5_against_116 : decode cX5_against 116 = .ok (.iload 4, 2) := by decide +kernel
theorem dX5_against_118 : decode cX5_against 118 = .ok (.istore_n 2, 1) := by decide +kernel
theorem dX5_against_119 : decode cX5_against 119 = .ok (.aload_n 0, 1) := by decide +kernel
theorem dX5_against_120 : decode cX5_against 120 = .ok (.iload_n 2, 1) := by decide +kernel
theorem dX5_against_121 : decode cX5_against 121 = .ok (.i2l, 1) := by decide +kernel
theorem dX5_against_122 : decode cX5_against 122 = .ok (.aload_n 0, 1) := by decide +kernel
theorem dX5_against_123 : decode cX5_against 123 = .ok (.invokevirtual 135, 3) := by decide +kernel
theorem dX5_against_126 : decode cX5_against 126 = .ok (.i2l, 1) := by decide +kernel
theorem dX5_against_127 : decode cX5_against 127 = .ok (.invokevirtual 138, 3) := by decide +kernel
theorem dX5_against_130 : decode cX5_against 130 = .ok (.istore 5, 2) := by decide +kernel
theorem dX5_against_132 : decode cX5_against 132 = .ok (.iload_n 1, 1) := by decide +kernel
theorem dX5_against_133 : decode cX5_against 133 = .ok (.ireturn, 1) := by decide +kernel
theorem dX5_findDecided_0 : decode cX5_findDecided 0 = .ok (.aload_n 0, 1) := by decide +kernel
theorem dX5_findDecided_1 : decode cX5_findDecided 1 = .ok (.invokevirtual 121, 3) := by decide +kernel
theorem dX5_findDecided_4 : decode cX5_findDecided 4 = .ok (.iconst 0, 1) := by decide +kernel
theorem dX5_findDecided_5 : decode cX5_findDecided 5 = .ok (.istore_n 2, 1) := by decide +kernel
theorem dX5_findDecided_6 : decode cX5_findDecided 6 = .ok (.iload_n 2, 1) := by decide +kernel
theorem dX5_findDecided_7 : decode cX5_findDecided 7 = .ok (.aload_n 0, 1) := by decide +kernel
theorem dX5_findDecided_8 : decode cX5_findDecided 8 = .ok (.invokevirtual 62, 3) := by decide +kernel
theorem dX5_findDecided_11 : decode cX5_findDecided 11 = .ok (.if_icmp .ge 20, 3) := by decide +kernel
theorem dX5_findDecided_14 : decode cX5_findDecided 14 = .ok (.aload_n 0, 1) := by decide +kernel
theorem dX5_findDecided_15 : decode cX5_findDecided 15 = .ok (.getfield 36, 3) := by decide +kernel
theorem dX5_findDecided_18 : decode cX5_findDecided 18 = .ok (.iload_n 2, 1) := by decide +kernel
theorem dX5_findDecided_19 : decode cX5_findDecided 19 = .ok (.aload_n 0, 1) := by decide +kernel
theorem dX5_findDecided_20 : decode cX5_findDecided 20 = .ok (.iload_n 2, 1) := by decide +kernel
theorem dX5_findDecided_21 : decode cX5_findDecided 21 = .ok (.invokevirtual 127, 3) := by decide +kernel
theorem dX5_findDecided_24 : decode cX5_findDecided 24 = .ok (.iastore, 1) := by decide +kernel
theorem dX5_findDecided_25 : decode cX5_findDecided 25 = .ok (.iinc 2 1, 3) := by decide +kernel
theorem dX5_findDecided_28 : decode cX5_findDecided 28 = .ok (.goto (-22), 3) := by decide +kernel
theorem dX5_findDecided_31 : decode cX5_findDecided 31 = .ok (.iconst 0, 1) := by decide +kernel
theorem dX5_findDecided_32 : decode cX5_findDecided 32 = .ok (.istore_n 2, 1) := by decide +kernel
theorem dX5_findDecided_33 : decode cX5_findDecided 33 = .ok (.iload_n 2, 1) := by decide +kernel
theorem dX5_findDecided_34 : decode cX5_findDecided 34 = .ok (.iconst 4, 1) := by decide +kernel
theorem dX5_findDecided_35 : decode cX5_findDecided 35 = .ok (.if_icmp .ge 20, 3) := by decide +kernel
theorem dX5_findDecided_38 : decode cX5_findDecided 38 = .ok (.aload_n 0, 1) := by decide +kernel
theorem dX5_findDecided_39 : decode cX5_findDecided 39 = .ok (.getfield 27, 3) := by decide +kernel
theorem dX5_findDecided_42 : decode cX5_findDecided 42 = .ok (.iconst 4, 1) := by decide +kernel
theorem dX5_findDecided_43 : decode cX5_findDecided 43 = .ok (.iload_n 1, 1) := by decide +kernel
theorem dX5_findDecided_44 : decode cX5_findDecided 44 = .ok (.imul, 1) := by decide +kernel
theorem dX5_findDecided_45 : decode cX5_findDecided 45 = .ok (.iload_n 2, 1) := by decide +kernel
theorem dX5_findDecided_46 : decode cX5_findDecided 46 = .ok (.iadd, 1) := by decide +kernel
theorem dX5_findDecided_47 : decode cX5_findDecided 47 = .ok (.iconst 0, 1) := by decide +kernel
theorem dX5_findDecided_48 : decode cX5_findDecided 48 = .ok (.iastore, 1) := by decide +kernel
theorem dX5_findDecided_49 : decode cX5_findDecided 49 = .ok (.iinc 2 1, 3) := by decide +kernel
theorem dX5_findDecided_52 : decode cX5_findDecided 52 = .ok (.goto (-19), 3) := by decide +kernel
theorem dX5_findDecided_55 : decode cX5_findDecided 55 = .ok (.iconst 0, 1) := by decide +kernel
theorem dX5_findDecided_56 : decode cX5_findDecided 56 = .ok (.istore_n 2, 1) := by decide +kernel
theorem dX5_findDecided_57 : decode cX5_findDecided 57 = .ok (.iconst 0, 1) := by decide +kernel
theorem dX5_findDecided_58 : decode cX5_findDecided 58 = .ok (.istore_n 3, 1) := by decide +kernel
theorem dX5_findDecided_59 : decode cX5_findDecided 59 = .ok (.iload_n 3, 1) := by decide +kernel
theorem dX5_findDecided_60 : decode cX5_findDecided 60 = .ok (.aload_n 0, 1) := by decide +kernel
theorem dX5_findDecided_61 : decode cX5_findDecided 61 = .ok (.invokevirtual 62, 3) := by decide +kernel
theorem dX5_findDecided_64 : decode cX5_findDecided 64 = .ok (.if_icmp .ge 51, 3) := by decide +kernel
theorem dX5_findDecided_67 : decode cX5_findDecided 67 = .ok (.aload_n 0, 1) := by decide +kernel
theorem dX5_findDecided_68 : decode cX5_findDecided 68 = .ok (.getfield 39, 3) := by decide +kernel
theorem dX5_findDecided_71 : decode cX5_findDecided 71 = .ok (.iload_n 3, 1) := by decide +kernel
theorem dX5_findDecided_72 : decode cX5_findDecided 72 = .ok (.aload_n 0, 1) := by decide +kernel
theorem dX5_findDecided_73 : decode cX5_findDecided 73 = .ok (.iload_n 3, 1) := by decide +kernel
theorem dX5_findDecided_74 : decode cX5_findDecided 74 = .ok (.invokevirtual 127, 3) := by decide +kernel
theorem dX5_findDecided_77 : decode cX5_findDecided 77 = .ok (.aload_n 0, 1) := by decide +kernel
theorem dX5_findDecided_78 : decode cX5_findDecided 78 = .ok (.getfield 36, 3) := by decide +kernel
theorem dX5_findDecided_81 : decode cX5_findDecided 81 = .ok (.iload_n 3, 1) := by decide +kernel
theorem dX5_findDecided_82 : decode cX5_findDecided 82 = .ok (.iaload, 1) := by decide +kernel
theorem dX5_findDecided_83 : decode cX5_findDecided 83 = .ok (.if_icmp .eq 7, 3) := by decide +kernel
theorem dX5_findDecided_86 : decode cX5_findDecided 86 = .ok (.iconst 1, 1) := by decide +kernel
theorem dX5_findDecided_87 : decode cX5_findDecided 87 = .ok (.goto 4, 3) := by decide +kernel
theorem dX5_findDecided_90 : decode cX5_findDecided 90 = .ok (.iconst 0, 1) := by decide +kernel
theorem dX5_findDecided_91 : decode cX5_findDecided 91 = .ok (.bastore, 1) := by decide +kernel
theorem dX5_findDecided_92 : decode cX5_findDecided 92 = .ok (.iload_n 2, 1) := by decide +kernel
theorem dX5_findDecided_93 : decode cX5_findDecided 93 = .ok (.aload_n 0, 1) := by decide +kernel
theorem dX5_findDecided_94 : decode cX5_findDecided 94 = .ok (.getfield 39, 3) := by decide +kernel
theorem dX5_findDecided_97 : decode cX5_findDecided 97 = .ok (.iload_n 3, 1) := by decide +kernel
theorem dX5_findDecided_98 : decode cX5_findDecided 98 = .ok (.baload, 1) := by decide +kernel
theorem dX5_findDecided_99 : decode cX5_findDecided 99 = .ok (.ifCond .eq 7, 3) := by decide +kernel
theorem dX5_findDecided_102 : decode cX5_findDecided 102 = .ok (.iconst 1, 1) := by decide +kernel
theorem dX5_findDecided_103 : decode cX5_findDecided 103 = .ok (.goto 4, 3) := by decide +kernel
theorem dX5_findDecided_106 : decode cX5_findDecided 106 = .ok (.iconst 0, 1) := by decide +kernel
theorem dX5_findDecided_107 : decode cX5_findDecided 107 = .ok (.iadd, 1) := by decide +kernel
theorem dX5_findDecided_108 : decode cX5_findDecided 108 = .ok (.istore_n 2, 1) := by decide +kernel
theorem dX5_findDecided_109 : decode cX5_findDecided 109 = .ok (.iinc 3 1, 3) := by decide +kernel
theorem dX5_findDecided_112 : decode cX5_findDecided 112 = .ok (.goto (-53), 3) := by decide +kernel
theorem dX5_findDecided_115 : decode cX5_findDecided 115 = .ok (.iload_n 2, 1) := by decide +kernel
theorem dX5_findDecided_116 : decode cX5_findDecided 116 = .ok (.ireturn, 1) := by decide +kernel
theorem dX5_decides_0 : decode cX5_decides 0 = .ok (.aload_n 0, 1) := by decide +kernel
theorem dX5_decides_1 : decode cX5_decides 1 = .ok (.iload_n 1, 1) := by decide +kernel
theorem dX5_decides_2 : decode cX5_decides 2 = .ok (.invokevirtual 93, 3) := by decide +kernel
theorem dX5_decides_5 : decode cX5_decides 5 = .ok (.ifCond .eq 11, 3) := by decide +kernel
theorem dX5_decides_8 : decode cX5_decides 8 = .ok (.aload_n 0, 1) := by decide +kernel
theorem dX5_decides_9 : decode cX5_decides 9 = .ok (.iload_n 1, 1) := by decide +kernel
theorem dX5_decides_10 : decode cX5_decides 10 = .ok (.invokevirtual 159, 3) := by decide +kernel
theorem dX5_decides_13 : decode cX5_decides 13 = .ok (.goto 9, 3) := by decide +kernel
theorem dX5_decides_16 : decode cX5_decides 16 = .ok (.aload_n 0, 1) := by decide +kernel
theorem dX5_decides_17 : decode cX5_decides 17 = .ok (.bipush (-2), 2) := by decide +kernel
theorem dX5_decides_19 : decode cX5_decides 19 = .ok (.invokevirtual 73, 3) := by decide +kernel
theorem dX5_decides_22 : decode cX5_decides 22 = .ok (.ireturn, 1) := by decide +kernel
theorem dX5_power_0 : decode cX5_power 0 = .ok (.aload_n 0, 1) := by decide +kernel
theorem dX5_power_1 : decode cX5_power 1 = .ok (.iload_n 1, 1) := by decide +kernel
theorem dX5_power_2 : decode cX5_power 2 = .ok (.invokevirtual 93, 3) := by decide +kernel
theorem dX5_power_5 : decode cX5_power 5 = .ok (.ifCond .ne 10, 3) := by decide +kernel
theorem dX5_power_8 : decode cX5_power 8 = .ok (.aload_n 0, 1) := by decide +kernel
theorem dX5_power_9 : decode cX5_power 9 = .ok (.bipush (-2), 2) := by decide +kernel
theorem dX5_power_11 : decode cX5_power 11 = .ok (.invokevirtual 73, 3) := by decide +kernel
theorem dX5_power_14 : decode cX5_power 14 = .ok (.ireturn, 1) := by decide +kernel
theorem dX5_power_15 : decode cX5_power 15 = .ok (.aload_n 0, 1) := by decide +kernel
theorem dX5_power_16 : decode cX5_power 16 = .ok (.invokevirtual 62, 3) := by decide +kernel
theorem dX5_power_19 : decode cX5_power 19 = .ok (.ifCond .ne 10, 3) := by decide +kernel
theorem dX5_power_22 : decode cX5_power 22 = .ok (.aload_n 0, 1) := by decide +kernel
theorem dX5_power_23 : decode cX5_power 23 = .ok (.bipush (-3), 2) := by decide +kernel
theorem dX5_power_25 : decode cX5_power 25 = .ok (.invokevirtual 90, 3) := by decide +kernel
theorem dX5_power_28 : decode cX5_power 28 = .ok (.ireturn, 1) := by decide +kernel
theorem dX5_power_29 : decode cX5_power 29 = .ok (.aload_n 0, 1) := by decide +kernel
theorem dX5_power_30 : decode cX5_power 30 = .ok (.iload_n 1, 1) := by decide +kernel
theorem dX5_power_31 : decode cX5_power 31 = .ok (.invokevirtual 159, 3) := by decide +kernel
theorem dX5_power_34 : decode cX5_power 34 = .ok (.istore_n 2, 1) := by decide +kernel
theorem dX5_power_35 : decode cX5_power 35 = .ok (.iconst 0, 1) := by decide +kernel
theorem dX5_power_36 : decode cX5_power 36 = .ok (.istore_n 3, 1) := by decide +kernel
theorem dX5_power_37 : decode cX5_power 37 = .ok (.iconst 0, 1) := by decide +kernel
theorem dX5_power_38 : decode cX5_power 38 = .ok (.istore 4, 2) := by decide +kernel
theorem dX5_power_40 : decode cX5_power 40 = .ok (.iload 4, 2) := by decide +kernel
theorem dX5_power_42 : decode cX5_power 42 = .ok (.aload_n 0, 1) := by decide +kernel
theorem dX5_power_43 : decode cX5_power 43 = .ok (.invokevirtual 62, 3) := by decide +kernel
theorem dX5_power_46 : decode cX5_power 46 = .ok (.if_icmp .ge 33, 3) := by decide +kernel
theorem dX5_power_49 : decode cX5_power 49 = .ok (.iload_n 3, 1) := by decide +kernel
theorem dX5_power_50 : decode cX5_power 50 = .ok (.aload_n 0, 1) := by decide +kernel
theorem dX5_power_51 : decode cX5_power 51 = .ok (.getfield 39, 3) := by decide +kernel
theorem dX5_power_54 : decode cX5_power 54 = .ok (.iload 4, 2) := by decide +kernel
theorem dX5_power_56 : decode cX5_power 56 = .ok (.baload, 1) := by decide +kernel
theorem dX5_power_57 : decode cX5_power 57 = .ok (.ifCond .eq 13, 3) := by decide +kernel
theorem dX5_power_60 : decode cX5_power 60 = .ok (.aload_n 0, 1) := by decide +kernel
theorem dX5_power_61 : decode cX5_power 61 = .ok (.iload 4, 2) := by decide +kernel
theorem dX5_power_63 : decode cX5_power 63 = .ok (.iconst 4, 1) := by decide +kernel
theorem dX5_power_64 : decode cX5_power 64 = .ok (.invokevirtual 97, 3) := by decide +kernel
theorem dX5_power_67 : decode cX5_power 67 = .ok (.goto 4, 3) := by decide +kernel
theorem dX5_power_70 : decode cX5_power 70 = .ok (.iconst 0, 1) := by decide +kernel
theorem dX5_power_71 : decode cX5_power 71 = .ok (.iadd, 1) := by decide +kernel
theorem dX5_power_72 : decode cX5_power 72 = .ok (.istore_n 3, 1) := by decide +kernel
theorem dX5_power_73 : decode cX5_power 73 = .ok (.iinc 4 1, 3) := by decide +kernel
theorem dX5_power_76 : decode cX5_power 76 = .ok (.goto (-36), 3) := by decide +kernel
theorem dX5_power_79 : decode cX5_power 79 = .ok (.aload_n 0, 1) := by decide +kernel
theorem dX5_power_80 : decode cX5_power 80 = .ok (.iload_n 3, 1) := by decide +kernel
theorem dX5_power_81 : decode cX5_power 81 = .ok (.i2l, 1) := by decide +kernel
theorem dX5_power_82 : decode cX5_power 82 = .ok (.aload_n 0, 1) := by decide +kernel
theorem dX5_power_83 : decode cX5_power 83 = .ok (.invokevirtual 135, 3) := by decide +kernel
theorem dX5_power_86 : decode cX5_power 86 = .ok (.i2l, 1) := by decide +kernel
theorem dX5_power_87 : decode cX5_power 87 = .ok (.invokevirtual 138, 3) := by decide +kernel
theorem dX5_power_90 : decode cX5_power 90 = .ok (.ireturn, 1) := by decide +kernel
theorem dX5_shield_0 : decode cX5_shield 0 = .ok (.iload_n 1, 1) := by decide +kernel
theorem dX5_shield_1 : decode cX5_shield 1 = .ok (.i2l, 1) := by decide +kernel
theorem dX5_shield_2 : decode cX5_shield 2 = .ok (.lconst 0, 1) := by decide +kernel
theorem dX5_shield_3 : decode cX5_shield 3 = .ok (.lconst 1, 1) := by decide +kernel
theorem dX5_shield_4 : decode cX5_shield 4 = .ok (.invokestatic 58, 3) := by decide +kernel
theorem dX5_shield_7 : decode cX5_shield 7 = .ok (.ifCond .ne 10, 3) := by decide +kernel
theorem dX5_shield_10 : decode cX5_shield 10 = .ok (.aload_n 0, 1) := by decide +kernel
theorem dX5_shield_11 : decode cX5_shield 11 = .ok (.bipush (-2), 2) := by decide +kernel
theorem dX5_shield_13 : decode cX5_shield 13 = .ok (.invokevirtual 73, 3) := by decide +kernel
theorem dX5_shield_16 : decode cX5_shield 16 = .ok (.ireturn, 1) := by decide +kernel
theorem dX5_shield_17 : decode cX5_shield 17 = .ok (.aload_n 0, 1) := by decide +kernel
theorem dX5_shield_18 : decode cX5_shield 18 = .ok (.invokevirtual 62, 3) := by decide +kernel
theorem dX5_shield_21 : decode cX5_shield 21 = .ok (.ifCond .ne 10, 3) := by decide +kernel
theorem dX5_shield_24 : decode cX5_shield 24 = .ok (.aload_n 0, 1) := by decide +kernel
theorem dX5_shield_25 : decode cX5_shield 25 = .ok (.bipush (-3), 2) := by decide +kernel
theorem dX5_shield_27 : decode cX5_shield 27 = .ok (.invokevirtual 90, 3) := by decide +kernel
theorem dX5_shield_30 : decode cX5_shield 30 = .ok (.ireturn, 1) := by decide +kernel
theorem dX5_shield_31 : decode cX5_shield 31 = .ok (.aload_n 0, 1) := by decide +kernel
theorem dX5_shield_32 : decode cX5_shield 32 = .ok (.invokevirtual 121, 3) := by decide +kernel
theorem dX5_shield_35 : decode cX5_shield 35 = .ok (.iconst (-1), 1) := by decide +kernel
theorem dX5_shield_36 : decode cX5_shield 36 = .ok (.istore_n 2, 1) := by decide +kernel
theorem dX5_shield_37 : decode cX5_shield 37 = .ok (.iconst (-1), 1) := by decide +kernel
theorem dX5_shield_38 : decode cX5_shield 38 = .ok (.istore_n 3, 1) := by decide +kernel
theorem dX5_shield_39 : decode cX5_shield 39 = .ok (.iconst 0, 1) := by decide +kernel
theorem dX5_shield_40 : decode cX5_shield 40 = .ok (.istore 4, 2) := by decide +kernel
theorem dX5_shield_42 : decode cX5_shield 42 = .ok (.iload 4, 2) := by decide +kernel
theorem dX5_shield_44 : decode cX5_shield 44 = .ok (.bipush 7, 2) := by decide +kernel
theorem dX5_shield_46 : decode cX5_shield 46 = .ok (.if_icmp .ge 77, 3) := by decide +kernel
theorem dX5_shield_49 : decode cX5_shield 49 = .ok (.aload_n 0, 1) := by decide +kernel
theorem dX5_shield_50 : decode cX5_shield 50 = .ok (.getfield 7, 3) := by decide +kernel
theorem dX5_shield_53 : decode cX5_shield 53 = .ok (.bipush 86, 2) := by decide +kernel
theorem dX5_shield_55 : decode cX5_shield 55 = .ok (.iload 4, 2) := by decide +kernel
theorem dX5_shield_57 : decode cX5_shield 57 = .ok (.iadd, 1) := by decide +kernel
theorem dX5_shield_58 : decode cX5_shield 58 = .ok (.iaload, 1) := by decide +kernel
theorem dX5_shield_59 : decode cX5_shield 59 = .ok (.ifCond .ne 58, 3) := by decide +kernel
theorem dX5_shield_62 : decode cX5_shield 62 = .ok (.aload_n 0, 1) := by decide +kernel
theorem dX5_shield_63 : decode cX5_shield 63 = .ok (.getfield 7, 3) := by decide +kernel
theorem dX5_shield_66 : decode cX5_shield 66 = .ok (.bipush 86, 2) := by decide +kernel
theorem dX5_shield_68 : decode cX5_shield 68 = .ok (.iload 4, 2) := by decide +kernel
theorem dX5_shield_70 : decode cX5_shield 70 = .ok (.iadd, 1) := by decide +kernel
theorem dX5_shield_71 : decode cX5_shield 71 = .ok (.iconst 1, 1) := by decide +kernel
theorem dX5_shield_72 : decode cX5_shield 72 = .ok (.iastore, 1) := by decide +kernel
theorem dX5_shield_73 : decode cX5_shield 73 = .ok (.aload_n 0, 1) := by decide +kernel
theorem dX5_shield_74 : decode cX5_shield 74 = .ok (.iload_n 1, 1) := by decide +kernel
theorem dX5_shield_75 : decode cX5_shield 75 = .ok (.invokevirtual 132, 3) := by decide +kernel
theorem dX5_shield_78 : decode cX5_shield 78 = .ok (.istore 5, 2) := by decide +kernel
theorem dX5_shield_80 : decode cX5_shield 80 = .ok (.aload_n 0, 1) := by decide +kernel
theorem dX5_shield_81 : decode cX5_shield 81 = .ok (.getfield 7, 3) := by decide +kernel
theorem dX5_shield_84 : decode cX5_shield 84 = .ok (.bipush 86, 2) := by decide +kernel
theorem dX5_shield_86 : decode cX5_shield 86 = .ok (.iload 4, 2) := by decide +kernel
theorem dX5_shield_88 : decode cX5_shield 88 = .ok (.iadd, 1) := by decide +kernel
theorem dX5_shield_89 : decode cX5_shield 89 = .ok (.iconst 0, 1) := by decide +kernel
theorem dX5_shield_90 : decode cX5_shield 90 = .ok (.iastore, 1) := by decide +kernel
theorem dX5_shield_91 : decode cX5_shield 91 = .ok (.iload 5, 2) := by decide +kernel
theorem dX5_shield_93 : decode cX5_shield 93 = .ok (.iload_n 3, 1) := by decide +kernel
theorem dX5_shield_94 : decode cX5_shield 94 = .ok (.if_icmp .le 8, 3) := by decide +kernel
theorem dX5_shield_97 : decode cX5_shield 97 = .ok (.iload 4, 2) := by decide +kernel
theorem dX5_shield_99 : decode cX5_shield 99 = .ok (.goto 4, 3) := by decide +kernel
theorem dX5_shield_102 : decode cX5_shield 102 = .ok (.iload_n 2, 1) := by decide +kernel
theorem dX5_shield_103 : decode cX5_shield 103 = .ok (.istore_n 2, 1) := by decide +kernel
theorem dX5_shield_104 : decode cX5_shield 104 = .ok (.iload 5, 2) := by decide +kernel
theorem dX5_shield_106 : decode cX5_shield 106 = .ok (.iload_n 3, 1) := by decide +kernel
theorem dX5_shield_107 : decode cX5_shield 107 = .ok (.if_icmp .le 8, 3) := by decide +kernel
theorem dX5_shield_110 : decode cX5_shield 110 = .ok (.iload 5, 2) := by decide +kernel
theorem dX5_shield_112 : decode cX5_shield 112 = .ok (.goto 4, 3) := by decide +kernel
theorem dX5_shield_115 : decode cX5_shield 115 = .ok (.iload_n 3, 1) := by decide +kernel
theorem dX5_shield_116 : decode cX5_shield 116 = .ok (.istore_n 3, 1) := by decide +kernel
theorem dX5_shield_117 : decode cX5_shield 117 = .ok (.iinc 4 1, 3) := by decide +kernel
theorem dX5_shield_120 : decode cX5_shield 120 = .ok (.goto (-78), 3) := by decide +kernel
theorem dX5_shield_123 : decode cX5_shield 123 = .ok (.iload_n 2, 1) := by decide +kernel
theorem dX5_shield_124 : decode cX5_shield 124 = .ok (.iconst (-1), 1) := by decide +kernel
theorem dX5_shield_125 : decode cX5_shield 125 = .ok (.if_icmp .ne 7, 3) := by decide +kernel
theorem dX5_shield_128 : decode cX5_shield 128 = .ok (.iconst 0, 1) := by decide +kernel
theorem dX5_shield_129 : decode cX5_shield 129 = .ok (.goto 14, 3) := by decide +kernel
theorem dX5_shield_132 : decode cX5_shield 132 = .ok (.aload_n 0, 1) := by decide +kernel
theorem dX5_shield_133 : decode cX5_shield 133 = .ok (.iload_n 3, 1) := by decide +kernel
theorem dX5_shield_134 : decode cX5_shield 134 = .ok (.i2l, 1) := by decide +kernel
theorem dX5_shield_135 : decode cX5_shield 135 = .ok (.aload_n 0, 1) := by decide +kernel
theorem dX5_shield_136 : decode cX5_shield 136 = .ok (.invokevirtual 135, 3) := by decide +kernel
theorem dX5_shield_139 : decode cX5_shield 139 = .ok (.i2l, 1) := by decide +kernel
theorem dX5_shield_140 : decode cX5_shield 140 = .ok (.invokevirtual 138, 3) := by decide +kernel
theorem dX5_shield_143 : decode cX5_shield 143 = .ok (.istore 4, 2) := by decide +kernel
theorem dX5_shield_145 : decode cX5_shield 145 = .ok (.iload_n 2, 1) := by decide +kernel
theorem dX5_shield_146 : decode cX5_shield 146 = .ok (.ireturn, 1) := by decide +kernel
theorem dX5_shards_0 : decode cX5_shards 0 = .ok (.iload_n 2, 1) := by decide +kernel
theorem dX5_shards_1 : decode cX5_shards 1 = .ok (.iconst (-1), 1) := by decide +kernel
theorem dX5_shards_2 : decode cX5_shards 2 = .ok (.if_icmp .ne 12, 3) := by decide +kernel
theorem dX5_shards_5 : decode cX5_shards 5 = .ok (.iload_n 3, 1) := by decide +kernel
theorem dX5_shards_6 : decode cX5_shards 6 = .ok (.iconst (-1), 1) := by decide +kernel
theorem dX5_shards_7 : decode cX5_shards 7 = .ok (.if_icmp .ne 7, 3) := by decide +kernel
theorem dX5_shards_10 : decode cX5_shards 10 = .ok (.iconst 1, 1) := by decide +kernel
theorem dX5_shards_11 : decode cX5_shards 11 = .ok (.goto 4, 3) := by decide +kernel
theorem dX5_shards_14 : decode cX5_shards 14 = .ok (.iconst 0, 1) := by decide +kernel
theorem dX5_shards_15 : decode cX5_shards 15 = .ok (.istore 4, 2) := by decide +kernel
theorem dX5_shards_17 : decode cX5_shards 17 = .ok (.aload_n 0, 1) := by decide +kernel
theorem dX5_shards_18 : decode cX5_shards 18 = .ok (.iload_n 1, 1) := by decide +kernel
theorem dX5_shards_19 : decode cX5_shards 19 = .ok (.invokevirtual 93, 3) := by decide +kernel
theorem dX5_shards_22 : decode cX5_shards 22 = .ok (.ifCond .eq 32, 3) := by decide +kernel
theorem dX5_shards_25 : decode cX5_shards 25 = .ok (.iload 4, 2) := by decide +kernel
theorem dX5_shards_27 : decode cX5_shards 27 = .ok (.ifCond .ne 34, 3) := by decide +kernel
theorem dX5_shards_30 : decode cX5_shards 30 = .ok (.iload_n 2, 1) := by decide +kernel
theorem dX5_shards_31 : decode cX5_shards 31 = .ok (.i2l, 1) := by decide +kernel
theorem dX5_shards_32 : decode cX5_shards 32 = .ok (.lconst 0, 1) := by decide +kernel
theorem dX5_shards_33 : decode cX5_shards 33 = .ok (.ldc2_w 162, 3) := by decide +kernel
theorem dX5_shards_36 : decode cX5_shards 36 = .ok (.invokestatic 58, 3) := by decide +kernel
theorem dX5_shards_39 : decode cX5_shards 39 = .ok (.ifCond .eq 15, 3) := by decide +kernel
theorem dX5_shards_42 : decode cX5_shards 42 = .ok (.iload_n 3, 1) := by decide +kernel
theorem dX5_shards_43 : decode cX5_shards 43 = .ok (.i2l, 1) := by decide +kernel
theorem dX5_shards_44 : decode cX5_shards 44 = .ok (.lconst 0, 1) := by decide +kernel
theorem dX5_shards_45 : decode cX5_shards 45 = .ok (.ldc2_w 162, 3) := by decide +kernel
theorem dX5_shards_48 : decode cX5_shards 48 = .ok (.invokestatic 58, 3) := by decide +kernel
theorem dX5_shards_51 : decode cX5_shards 51 = .ok (.ifCond .ne 10, 3) := by decide +kernel
theorem dX5_shards_54 : decode cX5_shards 54 = .ok (.aload_n 0, 1) := by decide +kernel
theorem dX5_shards_55 : decode cX5_shards 55 = .ok (.bipush (-2), 2) := by decide +kernel
theorem dX5_shards_57 : decode cX5_shards 57 = .ok (.invokevirtual 73, 3) := by decide +kernel
theorem dX5_shards_60 : decode cX5_shards 60 = .ok (.ireturn, 1) := by decide +kernel
theorem dX5_shards_61 : decode cX5_shards 61 = .ok (.aload_n 0, 1) := by decide +kernel
theorem dX5_shards_62 : decode cX5_shards 62 = .ok (.getfield 7, 3) := by decide +kernel
theorem dX5_shards_65 : decode cX5_shards 65 = .ok (.iconst 0, 1) := by decide +kernel
theorem dX5_shards_66 : decode cX5_shards 66 = .ok (.bipush 8, 2) := by decide +kernel
theorem dX5_shards_68 : decode cX5_shards 68 = .ok (.iload_n 1, 1) := by decide +kernel
theorem dX5_shards_69 : decode cX5_shards 69 = .ok (.imul, 1) := by decide +kernel
theorem dX5_shards_70 : decode cX5_shards 70 = .ok (.iadd, 1) := by decide +kernel
theorem dX5_shards_71 : decode cX5_shards 71 = .ok (.bipush 6, 2) := by decide +kernel
theorem dX5_shards_73 : decode cX5_shards 73 = .ok (.iadd, 1) := by decide +kernel
theorem dX5_shards_74 : decode cX5_shards 74 = .ok (.iload_n 2, 1) := by decide +kernel
theorem dX5_shards_75 : decode cX5_shards 75 = .ok (.iastore, 1) := by decide +kernel
theorem dX5_shards_76 : decode cX5_shards 76 = .ok (.aload_n 0, 1) := by decide +kernel
theorem dX5_shards_77 : decode cX5_shards 77 = .ok (.getfield 7, 3) := by decide +kernel
theorem dX5_shards_80 : decode cX5_shards 80 = .ok (.iconst 0, 1) := by decide +kernel
theorem dX5_shards_81 : decode cX5_shards 81 = .ok (.bipush 8, 2) := by decide +kernel
theorem dX5_shards_83 : decode cX5_shards 83 = .ok (.iload_n 1, 1) := by decide +kernel
theorem dX5_shards_84 : decode cX5_shards 84 = .ok (.imul, 1) := by decide +kernel
theorem dX5_shards_85 : decode cX5_shards 85 = .ok (.iadd, 1) := by decide +kernel
theorem dX5_shards_86 : decode cX5_shards 86 = .ok (.bipush 6, 2) := by decide +kernel
theorem dX5_shards_88 : decode cX5_shards 88 = .ok (.iadd, 1) := by decide +kernel
theorem dX5_shards_89 : decode cX5_shards 89 = .ok (.iconst 1, 1) := by decide +kernel
theorem dX5_shards_90 : decode cX5_shards 90 = .ok (.iadd, 1) := by decide +kernel
theorem dX5_shards_91 : decode cX5_shards 91 = .ok (.iload_n 3, 1) := by decide +kernel
theorem dX5_shards_92 : decode cX5_shards 92 = .ok (.iastore, 1) := by decide +kernel
theorem dX5_shards_93 : decode cX5_shards 93 = .ok (.iconst 1, 1) := by decide +kernel
theorem dX5_shards_94 : decode cX5_shards 94 = .ok (.ireturn, 1) := by decide +kernel
theorem dX5_isTold_0 : decode cX5_isTold 0 = .ok (.aload_n 0, 1) := by decide +kernel
theorem dX5_isTold_1 : decode cX5_isTold 1 = .ok (.getfield 7, 3) := by decide +kernel
theorem dX5_isTold_4 : decode cX5_isTold 4 = .ok (.iconst 0, 1) := by decide +kernel
theorem dX5_isTold_5 : decode cX5_isTold 5 = .ok (.bipush 8, 2) := by decide +kernel
theorem dX5_isTold_7 : decode cX5_isTold 7 = .ok (.iload_n 1, 1) := by decide +kernel
theorem dX5_isTold_8 : decode cX5_isTold 8 = .ok (.imul, 1) := by decide +kernel
theorem dX5_isTold_9 : decode cX5_isTold 9 = .ok (.iadd, 1) := by decide +kernel
theorem dX5_isTold_10 : decode cX5_isTold 10 = .ok (.bipush 6, 2) := by decide +kernel
theorem dX5_isTold_12 : decode cX5_isTold 12 = .ok (.iadd, 1) := by decide +kernel
theorem dX5_isTold_13 : decode cX5_isTold 13 = .ok (.iaload, 1) := by decide +kernel
theorem dX5_isTold_14 : decode cX5_isTold 14 = .ok (.iconst (-1), 1) := by decide +kernel
theorem dX5_isTold_15 : decode cX5_isTold 15 = .ok (.if_icmp .eq 7, 3) := by decide +kernel
theorem dX5_isTold_18 : decode cX5_isTold 18 = .ok (.iconst 1, 1) := by decide +kernel
theorem dX5_isTold_19 : decode cX5_isTold 19 = .ok (.goto 4, 3) := by decide +kernel
theorem dX5_isTold_22 : decode cX5_isTold 22 = .ok (.iconst 0, 1) := by decide +kernel
theorem dX5_isTold_23 : decode cX5_isTold 23 = .ok (.ireturn, 1) := by decide +kernel
theorem dX5_breaksSo_0 : decode cX5_breaksSo 0 = .ok (.aload_n 0, 1) := by decide +kernel
theorem dX5_breaksSo_1 : decode cX5_breaksSo 1 = .ok (.iload_n 1, 1) := by decide +kernel
theorem dX5_breaksSo_2 : decode cX5_breaksSo 2 = .ok (.iload_n 2, 1) := by decide +kernel
theorem dX5_breaksSo_3 : decode cX5_breaksSo 3 = .ok (.iconst 0, 1) := by decide +kernel
theorem dX5_breaksSo_4 : decode cX5_breaksSo 4 = .ok (.invokevirtual 118, 3) := by decide +kernel
theorem dX5_breaksSo_7 : decode cX5_breaksSo 7 = .ok (.aload_n 0, 1) := by decide +kernel
theorem dX5_breaksSo_8 : decode cX5_breaksSo 8 = .ok (.getfield 7, 3) := by decide +kernel
theorem dX5_breaksSo_11 : decode cX5_breaksSo 11 = .ok (.iconst 0, 1) := by decide +kernel
theorem dX5_breaksSo_12 : decode cX5_breaksSo 12 = .ok (.bipush 8, 2) := by decide +kernel
theorem dX5_breaksSo_14 : decode cX5_breaksSo 14 = .ok (.iload_n 2, 1) := by decide +kernel
theorem dX5_breaksSo_15 : decode cX5_breaksSo 15 = .ok (.imul, 1) := by decide +kernel
theorem dX5_breaksSo_16 : decode cX5_breaksSo 16 = .ok (.iadd, 1) := by decide +kernel
theorem dX5_breaksSo_17 : decode cX5_breaksSo 17 = .ok (.bipush 6, 2) := by decide +kernel
theorem dX5_breaksSo_19 : decode cX5_breaksSo 19 = .ok (.iadd, 1) := by decide +kernel
theorem dX5_breaksSo_20 : decode cX5_breaksSo 20 = .ok (.iaload, 1) := by decide +kernel
theorem dX5_breaksSo_21 : decode cX5_breaksSo 21 = .ok (.if_icmp .ne 7, 3) := by decide +kernel
theorem dX5_breaksSo_24 : decode cX5_breaksSo 24 = .ok (.iconst 1, 1) := by decide +kernel
theorem dX5_breaksSo_25 : decode cX5_breaksSo 25 = .ok (.goto 4, 3) := by decide +kernel
theorem dX5_breaksSo_28 : decode cX5_breaksSo 28 = .ok (.iconst 0, 1) := by decide +kernel
theorem dX5_breaksSo_29 : decode cX5_breaksSo 29 = .ok (.istore_n 3, 1) := by decide +kernel
theorem dX5_breaksSo_30 : decode cX5_breaksSo 30 = .ok (.iload_n 3, 1) := by decide +kernel
theorem dX5_breaksSo_31 : decode cX5_breaksSo 31 = .ok (.ifCond .eq 33, 3) := by decide +kernel
theorem dX5_breaksSo_34 : decode cX5_breaksSo 34 = .ok (.aload_n 0, 1) := by decide +kernel
theorem dX5_breaksSo_35 : decode cX5_breaksSo 35 = .ok (.iload_n 1, 1) := by decide +kernel
theorem dX5_breaksSo_36 : decode cX5_breaksSo 36 = .ok (.iload_n 2, 1) := by decide +kernel
theorem dX5_breaksSo_37 : decode cX5_breaksSo 37 = .ok (.iconst 1, 1) := by decide +kernel
theorem dX5_breaksSo_38 : decode cX5_breaksSo 38 = .ok (.invokevirtual 118, 3) := by decide +kernel
theorem dX5_breaksSo_41 : decode cX5_breaksSo 41 = .ok (.aload_n 0, 1) := by decide +kernel
theorem dX5_breaksSo_42 : decode cX5_breaksSo 42 = .ok (.getfield 7, 3) := by decide +kernel
theorem dX5_breaksSo_45 : decode cX5_breaksSo 45 = .ok (.iconst 0, 1) := by decide +kernel
theorem dX5_breaksSo_46 : decode cX5_breaksSo 46 = .ok (.bipush 8, 2) := by decide +kernel
theorem dX5_breaksSo_48 : decode cX5_breaksSo 48 = .ok (.iload_n 2, 1) := by decide +kernel
theorem dX5_breaksSo_49 : decode cX5_breaksSo 49 = .ok (.imul, 1) := by decide +kernel
theorem dX5_breaksSo_50 : decode cX5_breaksSo 50 = .ok (.iadd, 1) := by decide +kernel
theorem dX5_breaksSo_51 : decode cX5_breaksSo 51 = .ok (.bipush 6, 2) := by decide +kernel
theorem dX5_breaksSo_53 : decode cX5_breaksSo 53 = .ok (.iadd, 1) := by decide +kernel
theorem dX5_breaksSo_54 : decode cX5_breaksSo 54 = .ok (.iconst 1, 1) := by decide +kernel
theorem dX5_breaksSo_55 : decode cX5_breaksSo 55 = .ok (.iadd, 1) := by decide +kernel
theorem dX5_breaksSo_56 : decode cX5_breaksSo 56 = .ok (.iaload, 1) := by decide +kernel
theorem dX5_breaksSo_57 : decode cX5_breaksSo 57 = .ok (.if_icmp .ne 7, 3) := by decide +kernel
theorem dX5_breaksSo_60 : decode cX5_breaksSo 60 = .ok (.iconst 1, 1) := by decide +kernel
theorem dX5_breaksSo_61 : decode cX5_breaksSo 61 = .ok (.goto 4, 3) := by decide +kernel
theorem dX5_breaksSo_64 : decode cX5_breaksSo 64 = .ok (.iconst 0, 1) := by decide +kernel
theorem dX5_breaksSo_65 : decode cX5_breaksSo 65 = .ok (.ireturn, 1) := by decide +kernel
theorem dX5_which_0 : decode cX5_which 0 = .ok (.iload_n 1, 1) := by decide +kernel
theorem dX5_which_1 : decode cX5_which 1 = .ok (.i2l, 1) := by decide +kernel
theorem dX5_which_2 : decode cX5_which 2 = .ok (.lconst 0, 1) := by decide +kernel
theorem dX5_which_3 : decode cX5_which 3 = .ok (.lconst 1, 1) := by decide +kernel
theorem dX5_which_4 : decode cX5_which 4 = .ok (.invokestatic 58, 3) := by decide +kernel
theorem dX5_which_7 : decode cX5_which 7 = .ok (.ifCond .ne 10, 3) := by decide +kernel
theorem dX5_which_10 : decode cX5_which 10 = .ok (.aload_n 0, 1) := by decide +kernel
theorem dX5_which_11 : decode cX5_which 11 = .ok (.bipush (-2), 2) := by decide +kernel
theorem dX5_which_13 : decode cX5_which 13 = .ok (.invokevirtual 73, 3) := by decide +kernel
theorem dX5_which_16 : decode cX5_which 16 = .ok (.ireturn, 1) := by decide +kernel
theorem dX5_which_17 : decode cX5_which 17 = .ok (.aload_n 0, 1) := by decide +kernel
theorem dX5_which_18 : decode cX5_which 18 = .ok (.invokevirtual 121, 3) := by decide +kernel
theorem dX5_which_21 : decode cX5_which 21 = .ok (.iconst 0, 1) := by decide +kernel
theorem dX5_which_22 : decode cX5_which 22 = .ok (.istore_n 2, 1) := by decide +kernel
theorem dX5_which_23 : decode cX5_which 23 = .ok (.iconst 0, 1) := by decide +kernel
theorem dX5_which_24 : decode cX5_which 24 = .ok (.istore_n 3, 1) := by decide +kernel
theorem dX5_which_25 : decode cX5_which 25 = .ok (.iconst 0, 1) := by decide +kernel
theorem dX5_which_26 : decode cX5_which 26 = .ok (.istore 4, 2) := by decide +kernel
theorem dX5_which_28 : decode cX5_which 28 = .ok (.iload 4, 2) := by decide +kernel
theorem dX5_which_30 : decode cX5_which 30 = .ok (.aload_n 0, 1) := by decide +kernel
theorem dX5_which_31 : decode cX5_which 31 = .ok (.invokevirtual 62, 3) := by decide +kernel
theorem dX5_which_34 : decode cX5_which 34 = .ok (.if_icmp .ge 78, 3) := by decide +kernel
theorem dX5_which_37 : decode cX5_which 37 = .ok (.iconst 1, 1) := by decide +kernel
theorem dX5_which_38 : decode cX5_which 38 = .ok (.istore 5, 2) := by decide +kernel
theorem dX5_which_40 : decode cX5_which 40 = .ok (.iconst 0, 1) := by decide +kernel
theorem dX5_which_41 : decode cX5_which 41 = .ok (.istore 6, 2) := by decide +kernel
theorem dX5_which_43 : decode cX5_which 43 = .ok (.iload 6, 2) := by decide +kernel
theorem dX5_which_45 : decode cX5_which 45 = .ok (.aload_n 0, 1) := by decide +kernel
theorem dX5_which_46 : decode cX5_which 46 = .ok (.invokevirtual 54, 3) := by decide +kernel
theorem dX5_which_49 : decode cX5_which 49 = .ok (.if_icmp .ge 41, 3) := by decide +kernel
theorem dX5_which_52 : decode cX5_which 52 = .ok (.iload 5, 2) := by decide +kernel
theorem dX5_which_54 : decode cX5_which 54 = .ok (.ifCond .eq 27, 3) := by decide +kernel
theorem dX5_which_57 : decode cX5_which 57 = .ok (.aload_n 0, 1) := by decide +kernel
theorem dX5_which_58 : decode cX5_which 58 = .ok (.iload 6, 2) := by decide +kernel
theorem dX5_which_60 : decode cX5_which 60 = .ok (.invokevirtual 164, 3) := by decide +kernel
theorem dX5_which_63 : decode cX5_which 63 = .ok (.ifCond .eq 14, 3) := by decide +kernel
theorem dX5_which_66 : decode cX5_which 66 = .ok (.aload_n 0, 1) := by decide +kernel
theorem dX5_which_67 : decode cX5_which 67 = .ok (.iload 4, 2) := by decide +kernel
theorem dX5_which_69 : decode cX5_which 69 = .ok (.iload 6, 2) := by decide +kernel
theorem dX5_which_71 : decode cX5_which 71 = .ok (.invokevirtual 167, 3) := by decide +kernel
theorem dX5_which_74 : decode cX5_which 74 = .ok (.ifCond .eq 7, 3) := by decide +kernel
theorem dX5_which_77 : decode cX5_which 77 = .ok (.iconst 1, 1) := by decide +kernel
theorem dX5_which_78 : decode cX5_which 78 = .ok (.goto 4, 3) := by decide +kernel
theorem dX5_which_81 : decode cX5_which 81 = .ok (.iconst 0, 1) := by decide +kernel
theorem dX5_which_82 : decode cX5_which 82 = .ok (.istore 5, 2) := by decide +kernel
theorem dX5_which_84 : decode cX5_which 84 = .ok (.iinc 6 1, 3) := by decide +kernel
theorem dX5_which_87 : decode cX5_which 87 = .ok (.goto (-44), 3) := by decide +kernel
theorem dX5_which_90 : decode cX5_which 90 = .ok (.iload_n 2, 1) := by decide +kernel
theorem dX5_which_91 : decode cX5_which 91 = .ok (.iload 5, 2) := by decide +kernel
theorem dX5_which_93 : decode cX5_which 93 = .ok (.ifCond .eq 10, 3) := by decide +kernel
theorem dX5_which_96 : decode cX5_which 96 = .ok (.iconst 1, 1) := by decide +kernel
theorem dX5_which_97 : decode cX5_which 97 = .ok (.iload 4, 2) := by decide +kernel
theorem dX5_which_99 : decode cX5_which 99 = .ok (.ishl, 1) := by decide +kernel
theorem dX5_which_100 : decode cX5_which 100 = .ok (.goto 4, 3) := by decide +kernel
theorem dX5_which_103 : decode cX5_which 103 = .ok (.iconst 0, 1) := by decide +kernel
theorem dX5_which_104 : decode cX5_which 104 = .ok (.ior, 1) := by decide +kernel
theorem dX5_which_105 : decode cX5_which 105 = .ok (.istore_n 2, 1) := by decide +kernel
theorem dX5_which_106 : decode cX5_which 106 = .ok (.iinc 4 1, 3) := by decide +kernel
theorem dX5_which_109 : decode cX5_which 109 = .ok (.goto (-81), 3) := by decide +kernel
theorem dX5_which_112 : decode cX5_which 112 = .ok (.iconst 0, 1) := by decide +kernel
theorem dX5_which_113 : decode cX5_which 113 = .ok (.istore 4, 2) := by decide +kernel
theorem dX5_which_115 : decode cX5_which 115 = .ok (.iload 4, 2) := by decide +kernel
theorem dX5_which_117 : decode cX5_which 117 = .ok (.aload_n 0, 1) := by decide +kernel
theorem dX5_which_118 : decode cX5_which 118 = .ok (.invokevirtual 54, 3) := by decide +kernel
theorem dX5_which_121 : decode cX5_which 121 = .ok (.if_icmp .ge 78, 3) := by decide +kernel
theorem dX5_which_124 : decode cX5_which 124 = .ok (.iconst 0, 1) := by decide +kernel
theorem dX5_which_125 : decode cX5_which 125 = .ok (.istore 5, 2) := by decide +kernel
theorem dX5_which_127 : decode cX5_which 127 = .ok (.iconst 0, 1) := by decide +kernel
theorem dX5_which_128 : decode cX5_which 128 = .ok (.istore 6, 2) := by decide +kernel
theorem dX5_which_130 : decode cX5_which 130 = .ok (.iload 6, 2) := by decide +kernel
theorem dX5_which_132 : decode cX5_which 132 = .ok (.aload_n 0, 1) := by decide +kernel
theorem dX5_which_133 : decode cX5_which 133 = .ok (.invokevirtual 62, 3) := by decide +kernel
theorem dX5_which_136 : decode cX5_which 136 = .ok (.if_icmp .ge 32, 3) := by decide +kernel
theorem dX5_which_139 : decode cX5_which 139 = .ok (.iload 5, 2) := by decide +kernel
theorem dX5_which_141 : decode cX5_which 141 = .ok (.ifCond .ne 14, 3) := by decide +kernel
theorem dX5_which_144 : decode cX5_which 144 = .ok (.aload_n 0, 1) := by decide +kernel
theorem dX5_which_145 : decode cX5_which 145 = .ok (.iload 6, 2) := by decide +kernel
theorem dX5_which_147 : decode cX5_which 147 = .ok (.iload 4, 2) := by decide +kernel
theorem dX5_which_149 : decode cX5_which 149 = .ok (.invokevirtual 167, 3) := by decide +kernel
theorem dX5_which_152 : decode cX5_which 152 = .ok (.ifCond .eq 7, 3) := by decide +kernel
theorem dX5_which_155 : decode cX5_which 155 = .ok (.iconst 1, 1) := by decide +kernel
theorem dX5_which_156 : decode cX5_which 156 = .ok (.goto 4, 3) := by decide +kernel
theorem dX5_which_159 : decode cX5_which 159 = .ok (.iconst 0, 1) := by decide +kernel
theorem dX5_which_160 : decode cX5_which 160 = .ok (.istore 5, 2) := by decide +kernel
theorem dX5_which_162 : decode cX5_which 162 = .ok (.iinc 6 1, 3) := by decide +kernel
theorem dX5_which_165 : decode cX5_which 165 = .ok (.goto (-35), 3) := by decide +kernel
theorem dX5_which_168 : decode cX5_which 168 = .ok (.iload_n 3, 1) := by decide +kernel
theorem dX5_which_169 : decode cX5_which 169 = .ok (.aload_n 0, 1) := by decide +kernel
theorem dX5_which_170 : decode cX5_which 170 = .ok (.iload 4, 2) := by decide +kernel
theorem dX5_which_172 : decode cX5_which 172 = .ok (.invokevirtual 164, 3) := by decide +kernel
theorem dX5_which_175 : decode cX5_which 175 = .ok (.ifCond .eq 15, 3) := by decide +kernel
theorem dX5_which_178 : decode cX5_which 178 = .ok (.iload 5, 2) := by decide +kernel
theorem dX5_which_180 : decode cX5_which 180 = .ok (.ifCond .ne 10, 3) := by decide +kernel
theorem dX5_which_183 : decode cX5_which 183 = .ok (.iconst 1, 1) := by decide +kernel
theorem dX5_which_184 : decode cX5_which 184 = .ok (.iload 4, 2) := by decide +kernel
theorem dX5_which_186 : decode cX5_which 186 = .ok (.ishl, 1) := by decide +kernel
theorem dX5_which_187 : decode cX5_which 187 = .ok (.goto 4, 3) := by decide +kernel
theorem dX5_which_190 : decode cX5_which 190 = .ok (.iconst 0, 1) := by decide +kernel
theorem dX5_which_191 : decode cX5_which 191 = .ok (.ior, 1) := by decide +kernel
theorem dX5_which_192 : decode cX5_which 192 = .ok (.istore_n 3, 1) := by decide +kernel
theorem dX5_which_193 : decode cX5_which 193 = .ok (.iinc 4 1, 3) := by decide +kernel
theorem dX5_which_196 : decode cX5_which 196 = .ok (.goto (-81), 3) := by decide +kernel
theorem dX5_which_199 : decode cX5_which 199 = .ok (.iload_n 1, 1) := by decide +kernel
theorem dX5_which_200 : decode cX5_which 200 = .ok (.ifCond .ne 7, 3) := by decide +kernel
theorem dX5_which_203 : decode cX5_which 203 = .ok (.iload_n 2, 1) := by decide +kernel
theorem dX5_which_204 : decode cX5_which 204 = .ok (.goto 4, 3) := by decide +kernel
theorem dX5_which_207 : decode cX5_which 207 = .ok (.iload_n 3, 1) := by decide +kernel
theorem dX5_which_208 : decode cX5_which 208 = .ok (.ireturn, 1) := by decide +kernel
theorem dX5_choose_0 : decode cX5_choose 0 = .ok (.lconst 1, 1) := by decide +kernel
theorem dX5_choose_1 : decode cX5_choose 1 = .ok (.lstore_n 2, 1) := by decide +kernel
theorem dX5_choose_2 : decode cX5_choose 2 = .ok (.iconst 0, 1) := by decide +kernel
theorem dX5_choose_3 : decode cX5_choose 3 = .ok (.istore 4, 2) := by decide +kernel
theorem dX5_choose_5 : decode cX5_choose 5 = .ok (.iload 4, 2) := by decide +kernel
theorem dX5_choose_7 : decode cX5_choose 7 = .ok (.iload_n 1, 1) := by decide +kernel
theorem dX5_choose_8 : decode cX5_choose 8 = .ok (.if_icmp .ge 23, 3) := by decide +kernel
theorem dX5_choose_11 : decode cX5_choose 11 = .ok (.lload_n 2, 1) := by decide +kernel
theorem dX5_choose_12 : decode cX5_choose 12 = .ok (.iload_n 0, 1) := by decide +kernel
theorem dX5_choose_13 : decode cX5_choose 13 = .ok (.iload 4, 2) := by decide +kernel
theorem dX5_choose_15 : decode cX5_choose 15 = .ok (.isub, 1) := by decide +kernel
theorem dX5_choose_16 : decode cX5_choose 16 = .ok (.i2l, 1) := by decide +kernel
theorem dX5_choose_17 : decode cX5_choose 17 = .ok (.lmul, 1) := by decide +kernel
theorem dX5_choose_18 : decode cX5_choose 18 = .ok (.iload 4, 2) := by decide +kernel
theorem dX5_choose_20 : decode cX5_choose 20 = .ok (.iconst 1, 1) := by decide +kernel
theorem dX5_choose_21 : decode cX5_choose 21 = .ok (.iadd, 1) := by decide +kernel
theorem dX5_choose_22 : decode cX5_choose 22 = .ok (.i2l, 1) := by decide +kernel
theorem dX5_choose_23 : decode cX5_choose 23 = .ok (.ldiv, 1) := by decide +kernel
theorem dX5_choose_24 : decode cX5_choose 24 = .ok (.lstore_n 2, 1) := by decide +kernel
theorem dX5_choose_25 : decode cX5_choose 25 = .ok (.iinc 4 1, 3) := by decide +kernel
theorem dX5_choose_28 : decode cX5_choose 28 = .ok (.goto (-23), 3) := by decide +kernel
theorem dX5_choose_31 : decode cX5_choose 31 = .ok (.lload_n 2, 1) := by decide +kernel
theorem dX5_choose_32 : decode cX5_choose 32 = .ok (.lreturn, 1) := by decide +kernel
theorem dX5_recount_0 : decode cX5_recount 0 = .ok (.aload_n 0, 1) := by decide +kernel
theorem dX5_recount_1 : decode cX5_recount 1 = .ok (.iload_n 1, 1) := by decide +kernel
theorem dX5_recount_2 : decode cX5_recount 2 = .ok (.invokevirtual 104, 3) := by decide +kernel
theorem dX5_recount_5 : decode cX5_recount 5 = .ok (.ifCond .eq 15, 3) := by decide +kernel
theorem dX5_recount_8 : decode cX5_recount 8 = .ok (.iload_n 2, 1) := by decide +kernel
theorem dX5_recount_9 : decode cX5_recount 9 = .ok (.i2l, 1) := by decide +kernel
theorem dX5_recount_10 : decode cX5_recount 10 = .ok (.lconst 1, 1) := by decide +kernel
theorem dX5_recount_11 : decode cX5_recount 11 = .ok (.ldc2_w 171, 3) := by decide +kernel
theorem dX5_recount_14 : decode cX5_recount 14 = .ok (.invokestatic 58, 3) := by decide +kernel
theorem dX5_recount_17 : decode cX5_recount 17 = .ok (.ifCond .ne 10, 3) := by decide +kernel
theorem dX5_recount_20 : decode cX5_recount 20 = .ok (.aload_n 0, 1) := by decide +kernel
theorem dX5_recount_21 : decode cX5_recount 21 = .ok (.bipush (-2), 2) := by decide +kernel
theorem dX5_recount_23 : decode cX5_recount 23 = .ok (.invokevirtual 73, 3) := by decide +kernel
theorem dX5_recount_26 : decode cX5_recount 26 = .ok (.ireturn, 1) := by decide +kernel
theorem dX5_recount_27 : decode cX5_recount 27 = .ok (.aload_n 0, 1) := by decide +kernel
theorem dX5_recount_28 : decode cX5_recount 28 = .ok (.invokevirtual 121, 3) := by decide +kernel
theorem dX5_recount_31 : decode cX5_recount 31 = .ok (.aload_n 0, 1) := by decide +kernel
theorem dX5_recount_32 : decode cX5_recount 32 = .ok (.iload_n 1, 1) := by decide +kernel
theorem dX5_recount_33 : decode cX5_recount 33 = .ok (.iconst 0, 1) := by decide +kernel
theorem dX5_recount_34 : decode cX5_recount 34 = .ok (.invokevirtual 124, 3) := by decide +kernel
theorem dX5_recount_37 : decode cX5_recount 37 = .ok (.istore_n 3, 1) := by decide +kernel
theorem dX5_recount_38 : decode cX5_recount 38 = .ok (.aload_n 0, 1) := by decide +kernel
theorem dX5_recount_39 : decode cX5_recount 39 = .ok (.iload_n 1, 1) := by decide +kernel
theorem dX5_recount_40 : decode cX5_recount 40 = .ok (.iconst 1, 1) := by decide +kernel
theorem dX5_recount_41 : decode cX5_recount 41 = .ok (.invokevirtual 124, 3) := by decide +kernel
theorem dX5_recount_44 : decode cX5_recount 44 = .ok (.istore 4, 2) := by decide +kernel
theorem dX5_recount_46 : decode cX5_recount 46 = .ok (.iload_n 2, 1) := by decide +kernel
theorem dX5_recount_47 : decode cX5_recount 47 = .ok (.iload_n 3, 1) := by decide +kernel
theorem dX5_recount_48 : decode cX5_recount 48 = .ok (.iload 4, 2) := by decide +kernel
theorem dX5_recount_50 : decode cX5_recount 50 = .ok (.iadd, 1) := by decide +kernel
theorem dX5_recount_51 : decode cX5_recount 51 = .ok (.if_icmp .le 10, 3) := by decide +kernel
theorem dX5_recount_54 : decode cX5_recount 54 = .ok (.aload_n 0, 1) := by decide +kernel
theorem dX5_recount_55 : decode cX5_recount 55 = .ok (.bipush (-2), 2) := by decide +kernel
theorem dX5_recount_57 : decode cX5_recount 57 = .ok (.invokevirtual 73, 3) := by decide +kernel
theorem dX5_recount_60 : decode cX5_recount 60 = .ok (.ireturn, 1) := by decide +kernel
theorem dX5_recount_61 : decode cX5_recount 61 = .ok (.iload_n 3, 1) := by decide +kernel
theorem dX5_recount_62 : decode cX5_recount 62 = .ok (.iload 4, 2) := by decide +kernel
theorem dX5_recount_64 : decode cX5_recount 64 = .ok (.if_icmp .ne 10, 3) := by decide +kernel
theorem dX5_recount_67 : decode cX5_recount 67 = .ok (.aload_n 0, 1) := by decide +kernel
theorem dX5_recount_68 : decode cX5_recount 68 = .ok (.bipush (-3), 2) := by decide +kernel
theorem dX5_recount_70 : decode cX5_recount 70 = .ok (.invokevirtual 90, 3) := by decide +kernel
theorem dX5_recount_73 : decode cX5_recount 73 = .ok (.ireturn, 1) := by decide +kernel
theorem dX5_recount_74 : decode cX5_recount 74 = .ok (.iload_n 3, 1) := by decide +kernel
theorem dX5_recount_75 : decode cX5_recount 75 = .ok (.iload 4, 2) := by decide +kernel
theorem dX5_recount_77 : decode cX5_recount 77 = .ok (.if_icmp .le 7, 3) := by decide +kernel
theorem dX5_recount_80 : decode cX5_recount 80 = .ok (.iload_n 3, 1) := by decide +kernel
theorem dX5_recount_81 : decode cX5_recount 81 = .ok (.goto 5, 3) := by decide +kernel
theorem dX5_recount_84 : decode cX5_recount 84 = .ok (.iload 4, 2) := by decide +kernel
theorem dX5_recount_86 : decode cX5_recount 86 = .ok (.istore 5, 2) := by decide +kernel
theorem dX5_recount_88 : decode cX5_recount 88 = .ok (.iload_n 3, 1) := by decide +kernel
theorem dX5_recount_89 : decode cX5_recount 89 = .ok (.iload 4, 2) := by decide +kernel
theorem dX5_recount_91 : decode cX5_recount 91 = .ok (.if_icmp .le 8, 3) := by decide +kernel
theorem dX5_recount_94 : decode cX5_recount 94 = .ok (.iload 4, 2) := by decide +kernel
theorem dX5_recount_96 : decode cX5_recount 96 = .ok (.goto 4, 3) := by decide +kernel
theorem dX5_recount_99 : decode cX5_recount 99 = .ok (.iload_n 3, 1) := by decide +kernel
theorem dX5_recount_100 : decode cX5_recount 100 = .ok (.istore 6, 2) := by decide +kernel
theorem dX5_recount_102 : decode cX5_recount 102 = .ok (.lconst 0, 1) := by decide +kernel
theorem dX5_recount_103 : decode cX5_recount 103 = .ok (.lstore 7, 2) := by decide +kernel
theorem dX5_recount_105 : decode cX5_recount 105 = .ok (.iconst 0, 1) := by decide +kernel
theorem dX5_recount_106 : decode cX5_recount 106 = .ok (.istore 9, 2) := by decide +kernel
theorem dX5_recount_108 : decode cX5_recount 108 = .ok (.iload 9, 2) := by decide +kernel
theorem dX5_recount_110 : decode cX5_recount 110 = .ok (.iload_n 2, 1) := by decide +kernel
theorem dX5_recount_111 : decode cX5_recount 111 = .ok (.if_icmp .gt 59, 3) := by decide +kernel
theorem dX5_recount_114 : decode cX5_recount 114 = .ok (.lload 7, 2) := by decide +kernel
theorem dX5_recount_116 : decode cX5_recount 116 = .ok (.iconst 2, 1) := by decide +kernel
theorem dX5_recount_117 : decode cX5_recount 117 = .ok (.iload 9, 2) := by decide +kernel
theorem dX5_recount_119 : decode cX5_recount 119 = .ok (.imul, 1) := by decide +kernel
theorem dX5_recount_120 : decode cX5_recount 120 = .ok (.iload_n 2, 1) := by decide +kernel
theorem dX5_recount_121 : decode cX5_recount 121 = .ok (.if_icmp .le 39, 3) := by decide +kernel
theorem dX5_recount_124 : decode cX5_recount 124 = .ok (.iload 9, 2) := by decide +kernel
theorem dX5_recount_126 : decode cX5_recount 126 = .ok (.iload 5, 2) := by decide +kernel
theorem dX5_recount_128 : decode cX5_recount 128 = .ok (.if_icmp .gt 32, 3) := by decide +kernel
theorem dX5_recount_131 : decode cX5_recount 131 = .ok (.iload_n 2, 1) := by decide +kernel
theorem dX5_recount_132 : decode cX5_recount 132 = .ok (.iload 9, 2) := by decide +kernel
theorem dX5_recount_134 : decode cX5_recount 134 = .ok (.isub, 1) := by decide +kernel
theorem dX5_recount_135 : decode cX5_recount 135 = .ok (.iload 6, 2) := by decide +kernel
theorem dX5_recount_137 : decode cX5_recount 137 = .ok (.if_icmp .gt 23, 3) := by decide +kernel
theorem dX5_recount_140 : decode cX5_recount 140 = .ok (.iload 5, 2) := by decide +kernel
theorem dX5_recount_142 : decode cX5_recount 142 = .ok (.iload 9, 2) := by decide +kernel
theorem dX5_recount_144 : decode cX5_recount 144 = .ok (.invokestatic 173, 3) := by decide +kernel
theorem dX5_recount_147 : decode cX5_recount 147 = .ok (.iload 6, 2) := by decide +kernel
theorem dX5_recount_149 : decode cX5_recount 149 = .ok (.iload_n 2, 1) := by decide +kernel
theorem dX5_recount_150 : decode cX5_recount 150 = .ok (.iload 9, 2) := by decide +kernel
theorem dX5_recount_152 : decode cX5_recount 152 = .ok (.isub, 1) := by decide +kernel
theorem dX5_recount_153 : decode cX5_recount 153 = .ok (.invokestatic 173, 3) := by decide +kernel
theorem dX5_recount_156 : decode cX5_recount 156 = .ok (.lmul, 1) := by decide +kernel
theorem dX5_recount_157 : decode cX5_recount 157 = .ok (.goto 4, 3) := by decide +kernel
theorem dX5_recount_160 : decode cX5_recount 160 = .ok (.lconst 0, 1) := by decide +kernel
theorem dX5_recount_161 : decode cX5_recount 161 = .ok (.ladd, 1) := by decide +kernel
theorem dX5_recount_162 : decode cX5_recount 162 = .ok (.lstore 7, 2) := by decide +kernel
theorem dX5_recount_164 : decode cX5_recount 164 = .ok (.iinc 9 1, 3) := by decide +kernel
theorem dX5_recount_167 : decode cX5_recount 167 = .ok (.goto (-59), 3) := by decide +kernel
theorem dX5_recount_170 : decode cX5_recount 170 = .ok (.aload_n 0, 1) := by decide +kernel
theorem dX5_recount_171 : decode cX5_recount 171 = .ok (.lload 7, 2) := by decide +kernel
theorem dX5_recount_173 : decode cX5_recount 173 = .ok (.iload 5, 2) := by decide +kernel
theorem dX5_recount_175 : decode cX5_recount 175 = .ok (.iload 6, 2) := by decide +kernel
theorem dX5_recount_177 : decode cX5_recount 177 = .ok (.iadd, 1) := by decide +kernel
theorem dX5_recount_178 : decode cX5_recount 178 = .ok (.iload_n 2, 1) := by decide +kernel
theorem dX5_recount_179 : decode cX5_recount 179 = .ok (.invokestatic 173, 3) := by decide +kernel
theorem dX5_recount_182 : decode cX5_recount 182 = .ok (.invokevirtual 138, 3) := by decide +kernel
theorem dX5_recount_185 : decode cX5_recount 185 = .ok (.ireturn, 1) := by decide +kernel
theorem dX5_goYear_0 : decode cX5_goYear 0 = .ok (.iconst 0, 1) := by decide +kernel
theorem dX5_goYear_1 : decode cX5_goYear 1 = .ok (.istore_n 2, 1) := by decide +kernel
theorem dX5_goYear_2 : decode cX5_goYear 2 = .ok (.iconst 0, 1) := by decide +kernel
theorem dX5_goYear_3 : decode cX5_goYear 3 = .ok (.istore_n 3, 1) := by decide +kernel
theorem dX5_goYear_4 : decode cX5_goYear 4 = .ok (.iload_n 3, 1) := by decide +kernel
theorem dX5_goYear_5 : decode cX5_goYear 5 = .ok (.iconst 4, 1) := by decide +kernel
theorem dX5_goYear_6 : decode cX5_goYear 6 = .ok (.aload_n 0, 1) := by decide +kernel
theorem dX5_goYear_7 : decode cX5_goYear 7 = .ok (.invokevirtual 54, 3) := by decide +kernel
theorem dX5_goYear_10 : decode cX5_goYear 10 = .ok (.imul, 1) := by decide +kernel
theorem dX5_goYear_11 : decode cX5_goYear 11 = .ok (.if_icmp .ge 52, 3) := by decide +kernel
theorem dX5_goYear_14 : decode cX5_goYear 14 = .ok (.iload_n 1, 1) := by decide +kernel
theorem dX5_goYear_15 : decode cX5_goYear 15 = .ok (.iconst (-1), 1) := by decide +kernel
theorem dX5_goYear_16 : decode cX5_goYear 16 = .ok (.if_icmp .ne 7, 3) := by decide +kernel
theorem dX5_goYear_19 : decode cX5_goYear 19 = .ok (.iconst 0, 1) := by decide +kernel
theorem dX5_goYear_20 : decode cX5_goYear 20 = .ok (.goto 19, 3) := by decide +kernel
theorem dX5_goYear_23 : decode cX5_goYear 23 = .ok (.aload_n 0, 1) := by decide +kernel
theorem dX5_goYear_24 : decode cX5_goYear 24 = .ok (.iload_n 1, 1) := by decide +kernel
theorem dX5_goYear_25 : decode cX5_goYear 25 = .ok (.iload_n 3, 1) := by decide +kernel
theorem dX5_goYear_26 : decode cX5_goYear 26 = .ok (.iconst 4, 1) := by decide +kernel
theorem dX5_goYear_27 : decode cX5_goYear 27 = .ok (.idiv, 1) := by decide +kernel
theorem dX5_goYear_28 : decode cX5_goYear 28 = .ok (.iload_n 3, 1) := by decide +kernel
theorem dX5_goYear_29 : decode cX5_goYear 29 = .ok (.iconst 2, 1) := by decide +kernel
theorem dX5_goYear_30 : decode cX5_goYear 30 = .ok (.idiv, 1) := by decide +kernel
theorem dX5_goYear_31 : decode cX5_goYear 31 = .ok (.iconst 2, 1) := by decide +kernel
theorem dX5_goYear_32 : decode cX5_goYear 32 = .ok (.irem, 1) := by decide +kernel
theorem dX5_goYear_33 : decode cX5_goYear 33 = .ok (.iload_n 3, 1) := by decide +kernel
theorem dX5_goYear_34 : decode cX5_goYear 34 = .ok (.iconst 2, 1) := by decide +kernel
theorem dX5_goYear_35 : decode cX5_goYear 35 = .ok (.irem, 1) := by decide +kernel
theorem dX5_goYear_36 : decode cX5_goYear 36 = .ok (.invokevirtual 114, 3) := by decide +kernel
theorem dX5_goYear_39 : decode cX5_goYear 39 = .ok (.istore 4, 2) := by decide +kernel
theorem dX5_goYear_41 : decode cX5_goYear 41 = .ok (.aload_n 0, 1) := by decide +kernel
theorem dX5_goYear_42 : decode cX5_goYear 42 = .ok (.getfield 27, 3) := by decide +kernel
theorem dX5_goYear_45 : decode cX5_goYear 45 = .ok (.iload_n 3, 1) := by decide +kernel
theorem dX5_goYear_46 : decode cX5_goYear 46 = .ok (.dup2, 1) := by decide +kernel
theorem dX5_goYear_47 : decode cX5_goYear 47 = .ok (.iaload, 1) := by decide +kernel
theorem dX5_goYear_48 : decode cX5_goYear 48 = .ok (.iload 4, 2) := by decide +kernel
theorem dX5_goYear_50 : decode cX5_goYear 50 = .ok (.isub, 1) := by decide +kernel
theorem dX5_goYear_51 : decode cX5_goYear 51 = .ok (.iastore, 1) := by decide +kernel
theorem dX5_goYear_52 : decode cX5_goYear 52 = .ok (.iload_n 2, 1) := by decide +kernel
theorem dX5_goYear_53 : decode cX5_goYear 53 = .ok (.iload 4, 2) := by decide +kernel
theorem dX5_goYear_55 : decode cX5_goYear 55 = .ok (.iadd, 1) := by decide +kernel
theorem dX5_goYear_56 : decode cX5_goYear 56 = .ok (.istore_n 2, 1) := by decide +kernel
theorem dX5_goYear_57 : decode cX5_goYear 57 = .ok (.iinc 3 1, 3) := by decide +kernel
theorem dX5_goYear_60 : decode cX5_goYear 60 = .ok (.goto (-56), 3) := by decide +kernel
theorem dX5_goYear_63 : decode cX5_goYear 63 = .ok (.iconst 0, 1) := by decide +kernel
theorem dX5_goYear_64 : decode cX5_goYear 64 = .ok (.istore_n 3, 1) := by decide +kernel
theorem dX5_goYear_65 : decode cX5_goYear 65 = .ok (.iload_n 3, 1) := by decide +kernel
theorem dX5_goYear_66 : decode cX5_goYear 66 = .ok (.aload_n 0, 1) := by decide +kernel
theorem dX5_goYear_67 : decode cX5_goYear 67 = .ok (.invokevirtual 54, 3) := by decide +kernel
theorem dX5_goYear_70 : decode cX5_goYear 70 = .ok (.if_icmp .ge 39, 3) := by decide +kernel
theorem dX5_goYear_73 : decode cX5_goYear 73 = .ok (.aload_n 0, 1) := by decide +kernel
theorem dX5_goYear_74 : decode cX5_goYear 74 = .ok (.getfield 30, 3) := by decide +kernel
theorem dX5_goYear_77 : decode cX5_goYear 77 = .ok (.iload_n 3, 1) := by decide +kernel
theorem dX5_goYear_78 : decode cX5_goYear 78 = .ok (.aload_n 0, 1) := by decide +kernel
theorem dX5_goYear_79 : decode cX5_goYear 79 = .ok (.getfield 30, 3) := by decide +kernel
theorem dX5_goYear_82 : decode cX5_goYear 82 = .ok (.iload_n 3, 1) := by decide +kernel
theorem dX5_goYear_83 : decode cX5_goYear 83 = .ok (.iaload, 1) := by decide +kernel
theorem dX5_goYear_84 : decode cX5_goYear 84 = .ok (.bipush 9, 2) := by decide +kernel
theorem dX5_goYear_86 : decode cX5_goYear 86 = .ok (.if_icmp .ne 8, 3) := by decide +kernel
theorem dX5_goYear_89 : decode cX5_goYear 89 = .ok (.bipush 9, 2) := by decide +kernel
theorem dX5_goYear_91 : decode cX5_goYear 91 = .ok (.goto 11, 3) := by decide +kernel
theorem dX5_goYear_94 : decode cX5_goYear 94 = .ok (.aload_n 0, 1) := by decide +kernel
theorem dX5_goYear_95 : decode cX5_goYear 95 = .ok (.getfield 30, 3) := by decide +kernel
theorem dX5_goYear_98 : decode cX5_goYear 98 = .ok (.iload_n 3, 1) := by decide +kernel
theorem dX5_goYear_99 : decode cX5_goYear 99 = .ok (.iaload, 1) := by decide +kernel
theorem dX5_goYear_100 : decode cX5_goYear 100 = .ok (.iconst 1, 1) := by decide +kernel
theorem dX5_goYear_101 : decode cX5_goYear 101 = .ok (.iadd, 1) := by decide +kernel
theorem dX5_goYear_102 : decode cX5_goYear 102 = .ok (.iastore, 1) := by decide +kernel
theorem dX5_goYear_103 : decode cX5_goYear 103 = .ok (.iinc 3 1, 3) := by decide +kernel
theorem dX5_goYear_106 : decode cX5_goYear 106 = .ok (.goto (-41), 3) := by decide +kernel
theorem dX5_goYear_109 : decode cX5_goYear 109 = .ok (.iload_n 2, 1) := by decide +kernel
theorem dX5_goYear_110 : decode cX5_goYear 110 = .ok (.ireturn, 1) := by decide +kernel
theorem dX5_keepYear_0 : decode cX5_keepYear 0 = .ok (.aload_n 0, 1) := by decide +kernel
theorem dX5_keepYear_1 : decode cX5_keepYear 1 = .ok (.getfield 7, 3) := by decide +kernel
theorem dX5_keepYear_4 : decode cX5_keepYear 4 = .ok (.bipush 96, 2) := by decide +kernel
theorem dX5_keepYear_6 : decode cX5_keepYear 6 = .ok (.iaload, 1) := by decide +kernel
theorem dX5_keepYear_7 : decode cX5_keepYear 7 = .ok (.iconst 3, 1) := by decide +kernel
theorem dX5_keepYear_8 : decode cX5_keepYear 8 = .ok (.if_icmp .ne 45, 3) := by decide +kernel
theorem dX5_keepYear_11 : decode cX5_keepYear 11 = .ok (.iconst 0, 1) := by decide +kernel
theorem dX5_keepYear_12 : decode cX5_keepYear 12 = .ok (.istore_n 1, 1) := by decide +kernel
theorem dX5_keepYear_13 : decode cX5_keepYear 13 = .ok (.iload_n 1, 1) := by decide +kernel
theorem dX5_keepYear_14 : decode cX5_keepYear 14 = .ok (.sipush 190, 3) := by decide +kernel
theorem dX5_keepYear_17 : decode cX5_keepYear 17 = .ok (.if_icmp .ge 28, 3) := by decide +kernel
theorem dX5_keepYear_20 : decode cX5_keepYear 20 = .ok (.aload_n 0, 1) := by decide +kernel
theorem dX5_keepYear_21 : decode cX5_keepYear 21 = .ok (.getfield 7, 3) := by decide +kernel
theorem dX5_keepYear_24 : decode cX5_keepYear 24 = .ok (.bipush 97, 2) := by decide +kernel
theorem dX5_keepYear_26 : decode cX5_keepYear 26 = .ok (.iload_n 1, 1) := by decide +kernel
theorem dX5_keepYear_27 : decode cX5_keepYear 27 = .ok (.iadd, 1) := by decide +kernel
theorem dX5_keepYear_28 : decode cX5_keepYear 28 = .ok (.aload_n 0, 1) := by decide +kernel
theorem dX5_keepYear_29 : decode cX5_keepYear 29 = .ok (.getfield 7, 3) := by decide +kernel
theorem dX5_keepYear_32 : decode cX5_keepYear 32 = .ok (.sipush 192, 3) := by decide +kernel
theorem dX5_keepYear_35 : decode cX5_keepYear 35 = .ok (.iload_n 1, 1) := by decide +kernel
theorem dX5_keepYear_36 : decode cX5_keepYear 36 = .ok (.iadd, 1) := by decide +kernel
theorem dX5_keepYear_37 : decode cX5_keepYear 37 = .ok (.iaload, 1) := by decide +kernel
theorem dX5_keepYear_38 : decode cX5_keepYear 38 = .ok (.iastore, 1) := by decide +kernel
theorem dX5_keepYear_39 : decode cX5_keepYear 39 = .ok (.iinc 1 1, 3) := by decide +kernel
theorem dX5_keepYear_42 : decode cX5_keepYear 42 = .ok (.goto (-29), 3) := by decide +kernel
theorem dX5_keepYear_45 : decode cX5_keepYear 45 = .ok (.aload_n 0, 1) := by decide +kernel
theorem dX5_keepYear_46 : decode cX5_keepYear 46 = .ok (.getfield 7, 3) := by decide +kernel
theorem dX5_keepYear_49 : decode cX5_keepYear 49 = .ok (.bipush 96, 2) := by decide +kernel
theorem dX5_keepYear_51 : decode cX5_keepYear 51 = .ok (.iconst 2, 1) := by decide +kernel
theorem dX5_keepYear_52 : decode cX5_keepYear 52 = .ok (.iastore, 1) := by decide +kernel
theorem dX5_keepYear_53 : decode cX5_keepYear 53 = .ok (.bipush 97, 2) := by decide +kernel
theorem dX5_keepYear_55 : decode cX5_keepYear 55 = .ok (.bipush 95, 2) := by decide +kernel
theorem dX5_keepYear_57 : decode cX5_keepYear 57 = .ok (.aload_n 0, 1) := by decide +kernel
theorem dX5_keepYear_58 : decode cX5_keepYear 58 = .ok (.getfield 7, 3) := by decide +kernel
theorem dX5_keepYear_61 : decode cX5_keepYear 61 = .ok (.bipush 96, 2) := by decide +kernel
theorem dX5_keepYear_63 : decode cX5_keepYear 63 = .ok (.iaload, 1) := by decide +kernel
theorem dX5_keepYear_64 : decode cX5_keepYear 64 = .ok (.imul, 1) := by decide +kernel
theorem dX5_keepYear_65 : decode cX5_keepYear 65 = .ok (.iadd, 1) := by decide +kernel
theorem dX5_keepYear_66 : decode cX5_keepYear 66 = .ok (.istore_n 1, 1) := by decide +kernel
theorem dX5_keepYear_67 : decode cX5_keepYear 67 = .ok (.iconst 0, 1) := by decide +kernel
theorem dX5_keepYear_68 : decode cX5_keepYear 68 = .ok (.istore_n 2, 1) := by decide +kernel
theorem dX5_keepYear_69 : decode cX5_keepYear 69 = .ok (.iload_n 2, 1) := by decide +kernel
theorem dX5_keepYear_70 : decode cX5_keepYear 70 = .ok (.bipush 95, 2) := by decide +kernel
theorem dX5_keepYear_72 : decode cX5_keepYear 72 = .ok (.if_icmp .ge 23, 3) := by decide +kernel
theorem dX5_keepYear_75 : decode cX5_keepYear 75 = .ok (.aload_n 0, 1) := by decide +kernel
theorem dX5_keepYear_76 : decode cX5_keepYear 76 = .ok (.getfield 7, 3) := by decide +kernel
theorem dX5_keepYear_79 : decode cX5_keepYear 79 = .ok (.iload_n 1, 1) := by decide +kernel
theorem dX5_keepYear_80 : decode cX5_keepYear 80 = .ok (.iload_n 2, 1) := by decide +kernel
theorem dX5_keepYear_81 : decode cX5_keepYear 81 = .ok (.iadd, 1) := by decide +kernel
theorem dX5_keepYear_82 : decode cX5_keepYear 82 = .ok (.aload_n 0, 1) := by decide +kernel
theorem dX5_keepYear_83 : decode cX5_keepYear 83 = .ok (.getfield 7, 3) := by decide +kernel
theorem dX5_keepYear_86 : decode cX5_keepYear 86 = .ok (.iload_n 2, 1) := by decide +kernel
theorem dX5_keepYear_87 : decode cX5_keepYear 87 = .ok (.iaload, 1) := by decide +kernel
theorem dX5_keepYear_88 : decode cX5_keepYear 88 = .ok (.iastore, 1) := by decide +kernel
theorem dX5_keepYear_89 : decode cX5_keepYear 89 = .ok (.iinc 2 1, 3) := by decide +kernel
theorem dX5_keepYear_92 : decode cX5_keepYear 92 = .ok (.goto (-23), 3) := by decide +kernel
theorem dX5_keepYear_95 : decode cX5_keepYear 95 = .ok (.aload_n 0, 1) := by decide +kernel
theorem dX5_keepYear_96 : decode cX5_keepYear 96 = .ok (.getfield 7, 3) := by decide +kernel
theorem dX5_keepYear_99 : decode cX5_keepYear 99 = .ok (.bipush 96, 2) := by decide +kernel
theorem dX5_keepYear_101 : decode cX5_keepYear 101 = .ok (.dup2, 1) := by decide +kernel
theorem dX5_keepYear_102 : decode cX5_keepYear 102 = .ok (.iaload, 1) := by decide +kernel
theorem dX5_keepYear_103 : decode cX5_keepYear 103 = .ok (.iconst 1, 1) := by decide +kernel
theorem dX5_keepYear_104 : decode cX5_keepYear 104 = .ok (.iadd, 1) := by decide +kernel
theorem dX5_keepYear_105 : decode cX5_keepYear 105 = .ok (.iastore, 1) := by decide +kernel
theorem dX5_keepYear_106 : decode cX5_keepYear 106 = .ok (.return_, 1) := by decide +kernel
theorem dX5_year_0 : decode cX5_year 0 = .ok (.iload_n 1, 1) := by decide +kernel
theorem dX5_year_1 : decode cX5_year 1 = .ok (.iconst (-1), 1) := by decide +kernel
theorem dX5_year_2 : decode cX5_year 2 = .ok (.if_icmp .eq 18, 3) := by decide +kernel
theorem dX5_year_5 : decode cX5_year 5 = .ok (.aload_n 0, 1) := by decide +kernel
theorem dX5_year_6 : decode cX5_year 6 = .ok (.iload_n 1, 1) := by decide +kernel
theorem dX5_year_7 : decode cX5_year 7 = .ok (.invokevirtual 104, 3) := by decide +kernel
theorem dX5_year_10 : decode cX5_year 10 = .ok (.ifCond .ne 10, 3) := by decide +kernel
theorem dX5_year_13 : decode cX5_year 13 = .ok (.aload_n 0, 1) := by decide +kernel
theorem dX5_year_14 : decode cX5_year 14 = .ok (.bipush (-2), 2) := by decide +kernel
theorem dX5_year_16 : decode cX5_year 16 = .ok (.invokevirtual 73, 3) := by decide +kernel
theorem dX5_year_19 : decode cX5_year 19 = .ok (.ireturn, 1) := by decide +kernel
theorem dX5_year_20 : decode cX5_year 20 = .ok (.aload_n 0, 1) := by decide +kernel
theorem dX5_year_21 : decode cX5_year 21 = .ok (.invokevirtual 177, 3) := by decide +kernel
theorem dX5_year_24 : decode cX5_year 24 = .ok (.aload_n 0, 1) := by decide +kernel
theorem dX5_year_25 : decode cX5_year 25 = .ok (.invokevirtual 121, 3) := by decide +kernel
theorem dX5_year_28 : decode cX5_year 28 = .ok (.aload_n 0, 1) := by decide +kernel
theorem dX5_year_29 : decode cX5_year 29 = .ok (.iload_n 1, 1) := by decide +kernel
theorem dX5_year_30 : decode cX5_year 30 = .ok (.invokevirtual 180, 3) := by decide +kernel
theorem dX5_year_33 : decode cX5_year 33 = .ok (.istore_n 2, 1) := by decide +kernel
theorem dX5_year_34 : decode cX5_year 34 = .ok (.iconst 0, 1) := by decide +kernel
theorem dX5_year_35 : decode cX5_year 35 = .ok (.istore_n 3, 1) := by decide +kernel
theorem dX5_year_36 : decode cX5_year 36 = .ok (.iload_n 3, 1) := by decide +kernel
theorem dX5_year_37 : decode cX5_year 37 = .ok (.aload_n 0, 1) := by decide +kernel
theorem dX5_year_38 : decode cX5_year 38 = .ok (.invokevirtual 54, 3) := by decide +kernel
theorem dX5_year_41 : decode cX5_year 41 = .ok (.if_icmp .ge 70, 3) := by decide +kernel
theorem dX5_year_44 : decode cX5_year 44 = .ok (.iconst 0, 1) := by decide +kernel
theorem dX5_year_45 : decode cX5_year 45 = .ok (.istore 4, 2) := by decide +kernel
theorem dX5_year_47 : decode cX5_year 47 = .ok (.iload 4, 2) := by decide +kernel
theorem dX5_year_49 : decode cX5_year 49 = .ok (.iconst 4, 1) := by decide +kernel
theorem dX5_year_50 : decode cX5_year 50 = .ok (.if_icmp .ge 36, 3) := by decide +kernel
theorem dX5_year_53 : decode cX5_year 53 = .ok (.aload_n 0, 1) := by decide +kernel
theorem dX5_year_54 : decode cX5_year 54 = .ok (.getfield 7, 3) := by decide +kernel
theorem dX5_year_57 : decode cX5_year 57 = .ok (.iconst 0, 1) := by decide +kernel
theorem dX5_year_58 : decode cX5_year 58 = .ok (.bipush 8, 2) := by decide +kernel
theorem dX5_year_60 : decode cX5_year 60 = .ok (.iload_n 3, 1) := by decide +kernel
theorem dX5_year_61 : decode cX5_year 61 = .ok (.imul, 1) := by decide +kernel
theorem dX5_year_62 : decode cX5_year 62 = .ok (.iadd, 1) := by decide +kernel
theorem dX5_year_63 : decode cX5_year 63 = .ok (.iconst 2, 1) := by decide +kernel
theorem dX5_year_64 : decode cX5_year 64 = .ok (.iadd, 1) := by decide +kernel
theorem dX5_year_65 : decode cX5_year 65 = .ok (.iload 4, 2) := by decide +kernel
theorem dX5_year_67 : decode cX5_year 67 = .ok (.iadd, 1) := by decide +kernel
theorem dX5_year_68 : decode cX5_year 68 = .ok (.aload_n 0, 1) := by decide +kernel
theorem dX5_year_69 : decode cX5_year 69 = .ok (.getfield 27, 3) := by decide +kernel
theorem dX5_year_72 : decode cX5_year 72 = .ok (.iconst 4, 1) := by decide +kernel
theorem dX5_year_73 : decode cX5_year 73 = .ok (.iload_n 3, 1) := by decide +kernel
theorem dX5_year_74 : decode cX5_year 74 = .ok (.imul, 1) := by decide +kernel
theorem dX5_year_75 : decode cX5_year 75 = .ok (.iload 4, 2) := by decide +kernel
theorem dX5_year_77 : decode cX5_year 77 = .ok (.iadd, 1) := by decide +kernel
theorem dX5_year_78 : decode cX5_year 78 = .ok (.iaload, 1) := by decide +kernel
theorem dX5_year_79 : decode cX5_year 79 = .ok (.iastore, 1) := by decide +kernel
theorem dX5_year_80 : decode cX5_year 80 = .ok (.iinc 4 1, 3) := by decide +kernel
theorem dX5_year_83 : decode cX5_year 83 = .ok (.goto (-36), 3) := by decide +kernel
theorem dX5_year_86 : decode cX5_year 86 = .ok (.aload_n 0, 1) := by decide +kernel
theorem dX5_year_87 : decode cX5_year 87 = .ok (.getfield 7, 3) := by decide +kernel
theorem dX5_year_90 : decode cX5_year 90 = .ok (.iconst 0, 1) := by decide +kernel
theorem dX5_year_91 : decode cX5_year 91 = .ok (.bipush 8, 2) := by decide +kernel
theorem dX5_year_93 : decode cX5_year 93 = .ok (.iload_n 3, 1) := by decide +kernel
theorem dX5_year_94 : decode cX5_year 94 = .ok (.imul, 1) := by decide +kernel
theorem dX5_year_95 : decode cX5_year 95 = .ok (.iadd, 1) := by decide +kernel
theorem dX5_year_96 : decode cX5_year 96 = .ok (.iconst 1, 1) := by decide +kernel
theorem dX5_year_97 : decode cX5_year 97 = .ok (.iadd, 1) := by decide +kernel
theorem dX5_year_98 : decode cX5_year 98 = .ok (.aload_n 0, 1) := by decide +kernel
theorem dX5_year_99 : decode cX5_year 99 = .ok (.getfield 30, 3) := by decide +kernel
theorem dX5_year_102 : decode cX5_year 102 = .ok (.iload_n 3, 1) := by decide +kernel
theorem dX5_year_103 : decode cX5_year 103 = .ok (.iaload, 1) := by decide +kernel
theorem dX5_year_104 : decode cX5_year 104 = .ok (.iastore, 1) := by decide +kernel
theorem dX5_year_105 : decode cX5_year 105 = .ok (.iinc 3 1, 3) := by decide +kernel
theorem dX5_year_108 : decode cX5_year 108 = .ok (.goto (-72), 3) := by decide +kernel
theorem dX5_year_111 : decode cX5_year 111 = .ok (.aload_n 0, 1) := by decide +kernel
theorem dX5_year_112 : decode cX5_year 112 = .ok (.getfield 7, 3) := by decide +kernel
theorem dX5_year_115 : decode cX5_year 115 = .ok (.bipush 95, 2) := by decide +kernel
theorem dX5_year_117 : decode cX5_year 117 = .ok (.dup2, 1) := by decide +kernel
theorem dX5_year_118 : decode cX5_year 118 = .ok (.iaload, 1) := by decide +kernel
theorem dX5_year_119 : decode cX5_year 119 = .ok (.iconst 1, 1) := by decide +kernel
theorem dX5_year_120 : decode cX5_year 120 = .ok (.iadd, 1) := by decide +kernel
theorem dX5_year_121 : decode cX5_year 121 = .ok (.iastore, 1) := by decide +kernel
theorem dX5_year_122 : decode cX5_year 122 = .ok (.iload_n 2, 1) := by decide +kernel
theorem dX5_year_123 : decode cX5_year 123 = .ok (.ireturn, 1) := by decide +kernel
theorem dX5_undo_0 : decode cX5_undo 0 = .ok (.aload_n 0, 1) := by decide +kernel
theorem dX5_undo_1 : decode cX5_undo 1 = .ok (.getfield 7, 3) := by decide +kernel
theorem dX5_undo_4 : decode cX5_undo 4 = .ok (.bipush 96, 2) := by decide +kernel
theorem dX5_undo_6 : decode cX5_undo 6 = .ok (.iaload, 1) := by decide +kernel
theorem dX5_undo_7 : decode cX5_undo 7 = .ok (.ifCond .ne 10, 3) := by decide +kernel
theorem dX5_undo_10 : decode cX5_undo 10 = .ok (.aload_n 0, 1) := by decide +kernel
theorem dX5_undo_11 : decode cX5_undo 11 = .ok (.bipush (-3), 2) := by decide +kernel
theorem dX5_undo_13 : decode cX5_undo 13 = .ok (.invokevirtual 90, 3) := by decide +kernel
theorem dX5_undo_16 : decode cX5_undo 16 = .ok (.ireturn, 1) := by decide +kernel
theorem dX5_undo_17 : decode cX5_undo 17 = .ok (.aload_n 0, 1) := by decide +kernel
theorem dX5_undo_18 : decode cX5_undo 18 = .ok (.getfield 7, 3) := by decide +kernel
theorem dX5_undo_21 : decode cX5_undo 21 = .ok (.bipush 96, 2) := by decide +kernel
theorem dX5_undo_23 : decode cX5_undo 23 = .ok (.dup2, 1) := by decide +kernel
theorem dX5_undo_24 : decode cX5_undo 24 = .ok (.iaload, 1) := by decide +kernel
theorem dX5_undo_25 : decode cX5_undo 25 = .ok (.iconst 1, 1) := by decide +kernel
theorem dX5_undo_26 : decode cX5_undo 26 = .ok (.isub, 1) := by decide +kernel
theorem dX5_undo_27 : decode cX5_undo 27 = .ok (.iastore, 1) := by decide +kernel
theorem dX5_undo_28 : decode cX5_undo 28 = .ok (.aload_n 0, 1) := by decide +kernel
theorem dX5_undo_29 : decode cX5_undo 29 = .ok (.getfield 7, 3) := by decide +kernel
theorem dX5_undo_32 : decode cX5_undo 32 = .ok (.bipush 95, 2) := by decide +kernel
theorem dX5_undo_34 : decode cX5_undo 34 = .ok (.dup2, 1) := by decide +kernel
theorem dX5_undo_35 : decode cX5_undo 35 = .ok (.iaload, 1) := by decide +kernel
theorem dX5_undo_36 : decode cX5_undo 36 = .ok (.iconst 1, 1) := by decide +kernel
theorem dX5_undo_37 : decode cX5_undo 37 = .ok (.isub, 1) := by decide +kernel
theorem dX5_undo_38 : decode cX5_undo 38 = .ok (.iastore, 1) := by decide +kernel
theorem dX5_undo_39 : decode cX5_undo 39 = .ok (.bipush 97, 2) := by decide +kernel
theorem dX5_undo_41 : decode cX5_undo 41 = .ok (.bipush 95, 2) := by decide +kernel
theorem dX5_undo_43 : decode cX5_undo 43 = .ok (.aload_n 0, 1) := by decide +kernel
theorem dX5_undo_44 : decode cX5_undo 44 = .ok (.getfield 7, 3) := by decide +kernel
theorem dX5_undo_47 : decode cX5_undo 47 = .ok (.bipush 96, 2) := by decide +kernel
theorem dX5_undo_49 : decode cX5_undo 49 = .ok (.iaload, 1) := by decide +kernel
theorem dX5_undo_50 : decode cX5_undo 50 = .ok (.imul, 1) := by decide +kernel
theorem dX5_undo_51 : decode cX5_undo 51 = .ok (.iadd, 1) := by decide +kernel
theorem dX5_undo_52 : decode cX5_undo 52 = .ok (.istore_n 1, 1) := by decide +kernel
theorem dX5_undo_53 : decode cX5_undo 53 = .ok (.iconst 0, 1) := by decide +kernel
theorem dX5_undo_54 : decode cX5_undo 54 = .ok (.istore_n 2, 1) := by decide +kernel
theorem dX5_undo_55 : decode cX5_undo 55 = .ok (.iload_n 2, 1) := by decide +kernel
theorem dX5_undo_56 : decode cX5_undo 56 = .ok (.bipush 95, 2) := by decide +kernel
theorem dX5_undo_58 : decode cX5_undo 58 = .ok (.if_icmp .ge 23, 3) := by decide +kernel
theorem dX5_undo_61 : decode cX5_undo 61 = .ok (.aload_n 0, 1) := by decide +kernel
theorem dX5_undo_62 : decode cX5_undo 62 = .ok (.getfield 7, 3) := by decide +kernel
theorem dX5_undo_65 : decode cX5_undo 65 = .ok (.iload_n 2, 1) := by decide +kernel
theorem dX5_undo_66 : decode cX5_undo 66 = .ok (.aload_n 0, 1) := by decide +kernel
theorem dX5_undo_67 : decode cX5_undo 67 = .ok (.getfield 7, 3) := by decide +kernel
theorem dX5_undo_70 : decode cX5_undo 70 = .ok (.iload_n 1, 1) := by decide +kernel
theorem dX5_undo_71 : decode cX5_undo 71 = .ok (.iload_n 2, 1) := by decide +kernel
theorem dX5_undo_72 : decode cX5_undo 72 = .ok (.iadd, 1) := by decide +kernel
theorem dX5_undo_73 : decode cX5_undo 73 = .ok (.iaload, 1) := by decide +kernel
theorem dX5_undo_74 : decode cX5_undo 74 = .ok (.iastore, 1) := by decide +kernel
theorem dX5_undo_75 : decode cX5_undo 75 = .ok (.iinc 2 1, 3) := by decide +kernel
theorem dX5_undo_78 : decode cX5_undo 78 = .ok (.goto (-23), 3) := by decide +kernel
theorem dX5_undo_81 : decode cX5_undo 81 = .ok (.iconst 1, 1) := by decide +kernel
theorem dX5_undo_82 : decode cX5_undo 82 = .ok (.ireturn, 1) := by decide +kernel
theorem dX5_drawn_0 : decode cX5_drawn 0 = .ok (.iload_n 1, 1) := by decide +kernel
theorem dX5_drawn_1 : decode cX5_drawn 1 = .ok (.i2l, 1) := by decide +kernel
theorem dX5_drawn_2 : decode cX5_drawn 2 = .ok (.lconst 0, 1) := by decide +kernel
theorem dX5_drawn_3 : decode cX5_drawn 3 = .ok (.ldc2_w 183, 3) := by decide +kernel
theorem dX5_drawn_6 : decode cX5_drawn 6 = .ok (.invokestatic 58, 3) := by decide +kernel
theorem dX5_drawn_9 : decode cX5_drawn 9 = .ok (.ifCond .eq 15, 3) := by decide +kernel
theorem dX5_drawn_12 : decode cX5_drawn 12 = .ok (.iload_n 2, 1) := by decide +kernel
theorem dX5_drawn_13 : decode cX5_drawn 13 = .ok (.i2l, 1) := by decide +kernel
theorem dX5_drawn_14 : decode cX5_drawn 14 = .ok (.lconst 0, 1) := by decide +kernel
theorem dX5_drawn_15 : decode cX5_drawn 15 = .ok (.ldc2_w 185, 3) := by decide +kernel
theorem dX5_drawn_18 : decode cX5_drawn 18 = .ok (.invokestatic 58, 3) := by decide +kernel
theorem dX5_drawn_21 : decode cX5_drawn 21 = .ok (.ifCond .ne 11, 3) := by decide +kernel
theorem dX5_drawn_24 : decode cX5_drawn 24 = .ok (.aload_n 0, 1) := by decide +kernel
theorem dX5_drawn_25 : decode cX5_drawn 25 = .ok (.sipush (-1000), 3) := by decide +kernel
theorem dX5_drawn_28 : decode cX5_drawn 28 = .ok (.invokevirtual 73, 3) := by decide +kernel
theorem dX5_drawn_31 : decode cX5_drawn 31 = .ok (.ireturn, 1) := by decide +kernel
theorem dX5_drawn_32 : decode cX5_drawn 32 = .ok (.aload_n 0, 1) := by decide +kernel
theorem dX5_drawn_33 : decode cX5_drawn 33 = .ok (.invokevirtual 121, 3) := by decide +kernel
theorem dX5_drawn_36 : decode cX5_drawn 36 = .ok (.iload_n 1, 1) := by decide +kernel
theorem dX5_drawn_37 : decode cX5_drawn 37 = .ok (.i2l, 1) := by decide +kernel
theorem dX5_drawn_38 : decode cX5_drawn 38 = .ok (.lstore_n 3, 1) := by decide +kernel
theorem dX5_drawn_39 : decode cX5_drawn 39 = .ok (.iconst 0, 1) := by decide +kernel
theorem dX5_drawn_40 : decode cX5_drawn 40 = .ok (.istore 5, 2) := by decide +kernel
theorem dX5_drawn_42 : decode cX5_drawn 42 = .ok (.iconst 0, 1) := by decide +kernel
theorem dX5_drawn_43 : decode cX5_drawn 43 = .ok (.istore 6, 2) := by decide +kernel
theorem dX5_drawn_45 : decode cX5_drawn 45 = .ok (.iload 6, 2) := by decide +kernel
theorem dX5_drawn_47 : decode cX5_drawn 47 = .ok (.iload_n 2, 1) := by decide +kernel
theorem dX5_drawn_48 : decode cX5_drawn 48 = .ok (.if_icmp .ge 177, 3) := by decide +kernel
theorem dX5_drawn_51 : decode cX5_drawn 51 = .ok (.lload_n 3, 1) := by decide +kernel
theorem dX5_drawn_52 : decode cX5_drawn 52 = .ok (.ldc2_w 187, 3) := by decide +kernel
theorem dX5_drawn_55 : decode cX5_drawn 55 = .ok (.lmul, 1) := by decide +kernel
theorem dX5_drawn_56 : decode cX5_drawn 56 = .ok (.ldc2_w 189, 3) := by decide +kernel
theorem dX5_drawn_59 : decode cX5_drawn 59 = .ok (.ladd, 1) := by decide +kernel
theorem dX5_drawn_60 : decode cX5_drawn 60 = .ok (.ldc2_w 191, 3) := by decide +kernel
theorem dX5_drawn_63 : decode cX5_drawn 63 = .ok (.lrem, 1) := by decide +kernel
theorem dX5_drawn_64 : decode cX5_drawn 64 = .ok (.lstore_n 3, 1) := by decide +kernel
theorem dX5_drawn_65 : decode cX5_drawn 65 = .ok (.lload_n 3, 1) := by decide +kernel
theorem dX5_drawn_66 : decode cX5_drawn 66 = .ok (.ldc2_w 193, 3) := by decide +kernel
theorem dX5_drawn_69 : decode cX5_drawn 69 = .ok (.ldiv, 1) := by decide +kernel
theorem dX5_drawn_70 : decode cX5_drawn 70 = .ok (.aload_n 0, 1) := by decide +kernel
theorem dX5_drawn_71 : decode cX5_drawn 71 = .ok (.invokevirtual 135, 3) := by decide +kernel
theorem dX5_drawn_74 : decode cX5_drawn 74 = .ok (.iconst 1, 1) := by decide +kernel
theorem dX5_drawn_75 : decode cX5_drawn 75 = .ok (.iadd, 1) := by decide +kernel
theorem dX5_drawn_76 : decode cX5_drawn 76 = .ok (.i2l, 1) := by decide +kernel
theorem dX5_drawn_77 : decode cX5_drawn 77 = .ok (.lrem, 1) := by decide +kernel
theorem dX5_drawn_78 : decode cX5_drawn 78 = .ok (.l2i, 1) := by decide +kernel
theorem dX5_drawn_79 : decode cX5_drawn 79 = .ok (.istore 7, 2) := by decide +kernel
theorem dX5_drawn_81 : decode cX5_drawn 81 = .ok (.iconst 0, 1) := by decide +kernel
theorem dX5_drawn_82 : decode cX5_drawn 82 = .ok (.istore 8, 2) := by decide +kernel
theorem dX5_drawn_84 : decode cX5_drawn 84 = .ok (.iload 8, 2) := by decide +kernel
theorem dX5_drawn_86 : decode cX5_drawn 86 = .ok (.aload_n 0, 1) := by decide +kernel
theorem dX5_drawn_87 : decode cX5_drawn 87 = .ok (.invokevirtual 62, 3) := by decide +kernel
theorem dX5_drawn_90 : decode cX5_drawn 90 = .ok (.if_icmp .ge 12, 3) := by decide +kernel
theorem dX5_drawn_93 : decode cX5_drawn 93 = .ok (.aload_n 0, 1) := by decide +kernel
theorem dX5_drawn_94 : decode cX5_drawn 94 = .ok (.iconst 0, 1) := by decide +kernel
theorem dX5_drawn_95 : decode cX5_drawn 95 = .ok (.iconst 4, 1) := by decide +kernel
theorem dX5_drawn_96 : decode cX5_drawn 96 = .ok (.invokevirtual 97, 3) := by decide +kernel
theorem dX5_drawn_99 : decode cX5_drawn 99 = .ok (.goto 4, 3) := by decide +kernel
theorem dX5_drawn_102 : decode cX5_drawn 102 = .ok (.iconst 0, 1) := by decide +kernel
theorem dX5_drawn_103 : decode cX5_drawn 103 = .ok (.istore 9, 2) := by decide +kernel
theorem dX5_drawn_105 : decode cX5_drawn 105 = .ok (.iload 8, 2) := by decide +kernel
theorem dX5_drawn_107 : decode cX5_drawn 107 = .ok (.aload_n 0, 1) := by decide +kernel
theorem dX5_drawn_108 : decode cX5_drawn 108 = .ok (.invokevirtual 62, 3) := by decide +kernel
theorem dX5_drawn_111 : decode cX5_drawn 111 = .ok (.if_icmp .ge 41, 3) := by decide +kernel
theorem dX5_drawn_114 : decode cX5_drawn 114 = .ok (.iload 9, 2) := by decide +kernel
theorem dX5_drawn_116 : decode cX5_drawn 116 = .ok (.iload 7, 2) := by decide +kernel
theorem dX5_drawn_118 : decode cX5_drawn 118 = .ok (.if_icmp .gt 34, 3) := by decide +kernel
theorem dX5_drawn_121 : decode cX5_drawn 121 = .ok (.iinc 8 1, 3) := by decide +kernel
theorem dX5_drawn_124 : decode cX5_drawn 124 = .ok (.iload 9, 2) := by decide +kernel
theorem dX5_drawn_126 : decode cX5_drawn 126 = .ok (.iload 8, 2) := by decide +kernel
theorem dX5_drawn_128 : decode cX5_drawn 128 = .ok (.aload_n 0, 1) := by decide +kernel
theorem dX5_drawn_129 : decode cX5_drawn 129 = .ok (.invokevirtual 62, 3) := by decide +kernel
theorem dX5_drawn_132 : decode cX5_drawn 132 = .ok (.if_icmp .ge 13, 3) := by decide +kernel
theorem dX5_drawn_135 : decode cX5_drawn 135 = .ok (.aload_n 0, 1) := by decide +kernel
theorem dX5_drawn_136 : decode cX5_drawn 136 = .ok (.iload 8, 2) := by decide +kernel
theorem dX5_drawn_138 : decode cX5_drawn 138 = .ok (.iconst 4, 1) := by decide +kernel
theorem dX5_drawn_139 : decode cX5_drawn 139 = .ok (.invokevirtual 97, 3) := by decide +kernel
theorem dX5_drawn_142 : decode cX5_drawn 142 = .ok (.goto 4, 3) := by decide +kernel
theorem dX5_drawn_145 : decode cX5_drawn 145 = .ok (.iconst 0, 1) := by decide +kernel
theorem dX5_drawn_146 : decode cX5_drawn 146 = .ok (.iadd, 1) := by decide +kernel
theorem dX5_drawn_147 : decode cX5_drawn 147 = .ok (.istore 9, 2) := by decide +kernel
theorem dX5_drawn_149 : decode cX5_drawn 149 = .ok (.goto (-44), 3) := by decide +kernel
theorem dX5_drawn_152 : decode cX5_drawn 152 = .ok (.iload 8, 2) := by decide +kernel
theorem dX5_drawn_154 : decode cX5_drawn 154 = .ok (.aload_n 0, 1) := by decide +kernel
theorem dX5_drawn_155 : decode cX5_drawn 155 = .ok (.invokevirtual 62, 3) := by decide +kernel
theorem dX5_drawn_158 : decode cX5_drawn 158 = .ok (.if_icmp .ge 12, 3) := by decide +kernel
theorem dX5_drawn_161 : decode cX5_drawn 161 = .ok (.aload_n 0, 1) := by decide +kernel
theorem dX5_drawn_162 : decode cX5_drawn 162 = .ok (.iload 8, 2) := by decide +kernel
theorem dX5_drawn_164 : decode cX5_drawn 164 = .ok (.invokevirtual 127, 3) := by decide +kernel
theorem dX5_drawn_167 : decode cX5_drawn 167 = .ok (.goto 4, 3) := by decide +kernel
theorem dX5_drawn_170 : decode cX5_drawn 170 = .ok (.iconst (-1), 1) := by decide +kernel
theorem dX5_drawn_171 : decode cX5_drawn 171 = .ok (.istore 10, 2) := by decide +kernel
theorem dX5_drawn_173 : decode cX5_drawn 173 = .ok (.iload 5, 2) := by decide +kernel
theorem dX5_drawn_175 : decode cX5_drawn 175 = .ok (.iload 10, 2) := by decide +kernel
theorem dX5_drawn_177 : decode cX5_drawn 177 = .ok (.ifCond .ne 7, 3) := by decide +kernel
theorem dX5_drawn_180 : decode cX5_drawn 180 = .ok (.iconst 1, 1) := by decide +kernel
theorem dX5_drawn_181 : decode cX5_drawn 181 = .ok (.goto 14, 3) := by decide +kernel
theorem dX5_drawn_184 : decode cX5_drawn 184 = .ok (.iload 10, 2) := by decide +kernel
theorem dX5_drawn_186 : decode cX5_drawn 186 = .ok (.iconst 1, 1) := by decide +kernel
theorem dX5_drawn_187 : decode cX5_drawn 187 = .ok (.if_icmp .ne 7, 3) := by decide +kernel
theorem dX5_drawn_190 : decode cX5_drawn 190 = .ok (.iconst (-1), 1) := by decide +kernel
theorem dX5_drawn_191 : decode cX5_drawn 191 = .ok (.goto 4, 3) := by decide +kernel
theorem dX5_drawn_194 : decode cX5_drawn 194 = .ok (.iconst 0, 1) := by decide +kernel
theorem dX5_drawn_195 : decode cX5_drawn 195 = .ok (.iadd, 1) := by decide +kernel
theorem dX5_drawn_196 : decode cX5_drawn 196 = .ok (.istore 5, 2) := by decide +kernel
theorem dX5_drawn_198 : decode cX5_drawn 198 = .ok (.aload_n 0, 1) := by decide +kernel
theorem dX5_drawn_199 : decode cX5_drawn 199 = .ok (.iload 8, 2) := by decide +kernel
theorem dX5_drawn_201 : decode cX5_drawn 201 = .ok (.aload_n 0, 1) := by decide +kernel
theorem dX5_drawn_202 : decode cX5_drawn 202 = .ok (.invokevirtual 62, 3) := by decide +kernel
theorem dX5_drawn_205 : decode cX5_drawn 205 = .ok (.if_icmp .ge 8, 3) := by decide +kernel
theorem dX5_drawn_208 : decode cX5_drawn 208 = .ok (.iload 8, 2) := by decide +kernel
theorem dX5_drawn_210 : decode cX5_drawn 210 = .ok (.goto 4, 3) := by decide +kernel
theorem dX5_drawn_213 : decode cX5_drawn 213 = .ok (.iconst (-1), 1) := by decide +kernel
theorem dX5_drawn_214 : decode cX5_drawn 214 = .ok (.invokevirtual 180, 3) := by decide +kernel
theorem dX5_drawn_217 : decode cX5_drawn 217 = .ok (.istore 11, 2) := by decide +kernel
theorem dX5_drawn_219 : decode cX5_drawn 219 = .ok (.iinc 6 1, 3) := by decide +kernel
theorem dX5_drawn_222 : decode cX5_drawn 222 = .ok (.goto (-177), 3) := by decide +kernel
theorem dX5_drawn_225 : decode cX5_drawn 225 = .ok (.iload 5, 2) := by decide +kernel
theorem dX5_drawn_227 : decode cX5_drawn 227 = .ok (.ireturn, 1) := by decide +kernel
theorem dX5_type_0 : decode cX5_type 0 = .ok (.iload_n 3, 1) := by decide +kernel
theorem dX5_type_1 : decode cX5_type 1 = .ok (.i2l, 1) := by decide +kernel
theorem dX5_type_2 : decode cX5_type 2 = .ok (.lconst 1, 1) := by decide +kernel
theorem dX5_type_3 : decode cX5_type 3 = .ok (.ldc2_w 171, 3) := by decide +kernel
theorem dX5_type_6 : decode cX5_type 6 = .ok (.invokestatic 58, 3) := by decide +kernel
theorem dX5_type_9 : decode cX5_type 9 = .ok (.ifCond .ne 10, 3) := by decide +kernel
theorem dX5_type_12 : decode cX5_type 12 = .ok (.aload_n 0, 1) := by decide +kernel
theorem dX5_type_13 : decode cX5_type 13 = .ok (.bipush (-2), 2) := by decide +kernel
theorem dX5_type_15 : decode cX5_type 15 = .ok (.invokevirtual 73, 3) := by decide +kernel
theorem dX5_type_18 : decode cX5_type 18 = .ok (.ireturn, 1) := by decide +kernel
theorem dX5_type_19 : decode cX5_type 19 = .ok (.aload_n 0, 1) := by decide +kernel
theorem dX5_type_20 : decode cX5_type 20 = .ok (.getfield 195, 3) := by decide +kernel
theorem dX5_type_23 : decode cX5_type 23 = .ok (.iload_n 3, 1) := by decide +kernel
theorem dX5_type_24 : decode cX5_type 24 = .ok (.iadd, 1) := by decide +kernel
theorem dX5_type_25 : decode cX5_type 25 = .ok (.sipush 250, 3) := by decide +kernel
theorem dX5_type_28 : decode cX5_type 28 = .ok (.if_icmp .le 8, 3) := by decide +kernel
theorem dX5_type_31 : decode cX5_type 31 = .ok (.aload_n 0, 1) := by decide +kernel
theorem dX5_type_32 : decode cX5_type 32 = .ok (.invokevirtual 77, 3) := by decide +kernel
theorem dX5_type_35 : decode cX5_type 35 = .ok (.ireturn, 1) := by decide +kernel
theorem dX5_type_36 : decode cX5_type 36 = .ok (.iload_n 3, 1) := by decide +kernel
theorem dX5_type_37 : decode cX5_type 37 = .ok (.iconst 1, 1) := by decide +kernel
theorem dX5_type_38 : decode cX5_type 38 = .ok (.isub, 1) := by decide +kernel
theorem dX5_type_39 : decode cX5_type 39 = .ok (.istore 4, 2) := by decide +kernel
theorem dX5_type_41 : decode cX5_type 41 = .ok (.iload 4, 2) := by decide +kernel
theorem dX5_type_43 : decode cX5_type 43 = .ok (.ifCond .lt 40, 3) := by decide +kernel
theorem dX5_type_46 : decode cX5_type 46 = .ok (.aload_n 0, 1) := by decide +kernel
theorem dX5_type_47 : decode cX5_type 47 = .ok (.getfield 42, 3) := by decide +kernel
theorem dX5_type_50 : decode cX5_type 50 = .ok (.aload_n 0, 1) := by decide +kernel
theorem dX5_type_51 : decode cX5_type 51 = .ok (.getfield 195, 3) := by decide +kernel
theorem dX5_type_54 : decode cX5_type 54 = .ok (.lload_n 1, 1) := by decide +kernel
theorem dX5_type_55 : decode cX5_type 55 = .ok (.bipush 8, 2) := by decide +kernel
theorem dX5_type_57 : decode cX5_type 57 = .ok (.iload 4, 2) := by decide +kernel
theorem dX5_type_59 : decode cX5_type 59 = .ok (.imul, 1) := by decide +kernel
theorem dX5_type_60 : decode cX5_type 60 = .ok (.lushr, 1) := by decide +kernel
theorem dX5_type_61 : decode cX5_type 61 = .ok (.ldc2_w 198, 3) := by decide +kernel
theorem dX5_type_64 : decode cX5_type 64 = .ok (.land, 1) := by decide +kernel
theorem dX5_type_65 : decode cX5_type 65 = .ok (.l2i, 1) := by decide +kernel
theorem dX5_type_66 : decode cX5_type 66 = .ok (.iastore, 1) := by decide +kernel
theorem dX5_type_67 : decode cX5_type 67 = .ok (.aload_n 0, 1) := by decide +kernel
theorem dX5_type_68 : decode cX5_type 68 = .ok (.dup, 1) := by decide +kernel
theorem dX5_type_69 : decode cX5_type 69 = .ok (.getfield 195, 3) := by decide +kernel
theorem dX5_type_72 : decode cX5_type 72 = .ok (.iconst 1, 1) := by decide +kernel
theorem dX5_type_73 : decode cX5_type 73 = .ok (.iadd, 1) := by decide +kernel
theorem dX5_type_74 : decode cX5_type 74 = .ok (.putfield 195, 3) := by decide +kernel
theorem dX5_type_77 : decode cX5_type 77 = .ok (.iinc 4 (-1), 3) := by decide +kernel
theorem dX5_type_80 : decode cX5_type 80 = .ok (.goto (-39), 3) := by decide +kernel
theorem dX5_type_83 : decode cX5_type 83 = .ok (.aload_n 0, 1) := by decide +kernel
theorem dX5_type_84 : decode cX5_type 84 = .ok (.getfield 195, 3) := by decide +kernel
theorem dX5_type_87 : decode cX5_type 87 = .ok (.ireturn, 1) := by decide +kernel
theorem dX5_clear_0 : decode cX5_clear 0 = .ok (.aload_n 0, 1) := by decide +kernel
theorem dX5_clear_1 : decode cX5_clear 1 = .ok (.getfield 195, 3) := by decide +kernel
theorem dX5_clear_4 : decode cX5_clear 4 = .ok (.istore_n 1, 1) := by decide +kernel
theorem dX5_clear_5 : decode cX5_clear 5 = .ok (.aload_n 0, 1) := by decide +kernel
theorem dX5_clear_6 : decode cX5_clear 6 = .ok (.iconst 0, 1) := by decide +kernel
theorem dX5_clear_7 : decode cX5_clear 7 = .ok (.putfield 195, 3) := by decide +kernel
theorem dX5_clear_10 : decode cX5_clear 10 = .ok (.iload_n 1, 1) := by decide +kernel
theorem dX5_clear_11 : decode cX5_clear 11 = .ok (.ireturn, 1) := by decide +kernel
theorem dX5_isSmall_0 : decode cX5_isSmall 0 = .ok (.iload_n 0, 1) := by decide +kernel
theorem dX5_isSmall_1 : decode cX5_isSmall 1 = .ok (.i2l, 1) := by decide +kernel
theorem dX5_isSmall_2 : decode cX5_isSmall 2 = .ok (.ldc2_w 200, 3) := by decide +kernel
theorem dX5_isSmall_5 : decode cX5_isSmall 5 = .ok (.ldc2_w 202, 3) := by decide +kernel
theorem dX5_isSmall_8 : decode cX5_isSmall 8 = .ok (.invokestatic 58, 3) := by decide +kernel
theorem dX5_isSmall_11 : decode cX5_isSmall 11 = .ok (.ireturn, 1) := by decide +kernel
theorem dX5_isFigure_0 : decode cX5_isFigure 0 = .ok (.iload_n 0, 1) := by decide +kernel
theorem dX5_isFigure_1 : decode cX5_isFigure 1 = .ok (.i2l, 1) := by decide +kernel
theorem dX5_isFigure_2 : decode cX5_isFigure 2 = .ok (.ldc2_w 204, 3) := by decide +kernel
theorem dX5_isFigure_5 : decode cX5_isFigure 5 = .ok (.ldc2_w 206, 3) := by decide +kernel
theorem dX5_isFigure_8 : decode cX5_isFigure 8 = .ok (.invokestatic 58, 3) := by decide +kernel
theorem dX5_isFigure_11 : decode cX5_isFigure 11 = .ok (.ireturn, 1) := by decide +kernel
theorem dX5_look_0 : decode cX5_look 0 = .ok (.aload_n 0, 1) := by decide +kernel
theorem dX5_look_1 : decode cX5_look 1 = .ok (.iload_n 1, 1) := by decide +kernel
theorem dX5_look_2 : decode cX5_look 2 = .ok (.putfield 208, 3) := by decide +kernel
theorem dX5_look_5 : decode cX5_look 5 = .ok (.aload_n 0, 1) := by decide +kernel
theorem dX5_look_6 : decode cX5_look 6 = .ok (.getfield 208, 3) := by decide +kernel
theorem dX5_look_9 : decode cX5_look 9 = .ok (.aload_n 0, 1) := by decide +kernel
theorem dX5_look_10 : decode cX5_look 10 = .ok (.getfield 195, 3) := by decide +kernel
theorem dX5_look_13 : decode cX5_look 13 = .ok (.if_icmp .ge 30, 3) := by decide +kernel
theorem dX5_look_16 : decode cX5_look 16 = .ok (.aload_n 0, 1) := by decide +kernel
theorem dX5_look_17 : decode cX5_look 17 = .ok (.getfield 42, 3) := by decide +kernel
theorem dX5_look_20 : decode cX5_look 20 = .ok (.aload_n 0, 1) := by decide +kernel
theorem dX5_look_21 : decode cX5_look 21 = .ok (.getfield 208, 3) := by decide +kernel
theorem dX5_look_24 : decode cX5_look 24 = .ok (.iaload, 1) := by decide +kernel
theorem dX5_look_25 : decode cX5_look 25 = .ok (.bipush 32, 2) := by decide +kernel
theorem dX5_look_27 : decode cX5_look 27 = .ok (.if_icmp .ne 16, 3) := by decide +kernel
theorem dX5_look_30 : decode cX5_look 30 = .ok (.aload_n 0, 1) := by decide +kernel
theorem dX5_look_31 : decode cX5_look 31 = .ok (.dup, 1) := by decide +kernel
theorem dX5_look_32 : decode cX5_look 32 = .ok (.getfield 208, 3) := by decide +kernel
theorem dX5_look_35 : decode cX5_look 35 = .ok (.iconst 1, 1) := by decide +kernel
theorem dX5_look_36 : decode cX5_look 36 = .ok (.iadd, 1) := by decide +kernel
theorem dX5_look_37 : decode cX5_look 37 = .ok (.putfield 208, 3) := by decide +kernel
theorem dX5_look_40 : decode cX5_look 40 = .ok (.goto (-35), 3) := by decide +kernel
theorem dX5_look_43 : decode cX5_look 43 = .ok (.aload_n 0, 1) := by decide +kernel
theorem dX5_look_44 : decode cX5_look 44 = .ok (.iconst 0, 1) := by decide +kernel
theorem dX5_look_45 : decode cX5_look 45 = .ok (.putfield 211, 3) := by decide +kernel
theorem dX5_look_48 : decode cX5_look 48 = .ok (.aload_n 0, 1) := by decide +kernel
theorem dX5_look_49 : decode cX5_look 49 = .ok (.iconst 0, 1) := by decide +kernel
theorem dX5_look_50 : decode cX5_look 50 = .ok (.putfield 214, 3) := by decide +kernel
theorem dX5_look_53 : decode cX5_look 53 = .ok (.aload_n 0, 1) := by decide +kernel
theorem dX5_look_54 : decode cX5_look 54 = .ok (.iconst 0, 1) := by decide +kernel
theorem dX5_look_55 : decode cX5_look 55 = .ok (.putfield 217, 3) := by decide +kernel
theorem dX5_look_58 : decode cX5_look 58 = .ok (.aload_n 0, 1) := by decide +kernel
theorem dX5_look_59 : decode cX5_look 59 = .ok (.getfield 208, 3) := by decide +kernel
theorem dX5_look_62 : decode cX5_look 62 = .ok (.aload_n 0, 1) := by decide +kernel
theorem dX5_look_63 : decode cX5_look 63 = .ok (.getfield 195, 3) := by decide +kernel
theorem dX5_look_66 : decode cX5_look 66 = .ok (.if_icmp .ne 4, 3) := by decide +kernel
theorem dX5_look_69 : decode cX5_look 69 = .ok (.return_, 1) := by decide +kernel
theorem dX5_look_70 : decode cX5_look 70 = .ok (.aload_n 0, 1) := by decide +kernel
theorem dX5_look_71 : decode cX5_look 71 = .ok (.getfield 42, 3) := by decide +kernel
theorem dX5_look_74 : decode cX5_look 74 = .ok (.aload_n 0, 1) := by decide +kernel
theorem dX5_look_75 : decode cX5_look 75 = .ok (.getfield 208, 3) := by decide +kernel
theorem dX5_look_78 : decode cX5_look 78 = .ok (.iaload, 1) := by decide +kernel
theorem dX5_look_79 : decode cX5_look 79 = .ok (.istore_n 2, 1) := by decide +kernel
theorem dX5_look_80 : decode cX5_look 80 = .ok (.aload_n 0, 1) := by decide +kernel
theorem dX5_look_81 : decode cX5_look 81 = .ok (.iload_n 2, 1) := by decide +kernel
theorem dX5_look_82 : decode cX5_look 82 = .ok (.invokestatic 220, 3) := by decide +kernel
theorem dX5_look_85 : decode cX5_look 85 = .ok (.ifCond .eq 7, 3) := by decide +kernel
theorem dX5_look_88 : decode cX5_look 88 = .ok (.iconst 1, 1) := by decide +kernel
theorem dX5_look_89 : decode cX5_look 89 = .ok (.goto 25, 3) := by decide +kernel
theorem dX5_look_92 : decode cX5_look 92 = .ok (.iload_n 2, 1) := by decide +kernel
theorem dX5_look_93 : decode cX5_look 93 = .ok (.invokestatic 223, 3) := by decide +kernel
theorem dX5_look_96 : decode cX5_look 96 = .ok (.ifCond .eq 7, 3) := by decide +kernel
theorem dX5_look_99 : decode cX5_look 99 = .ok (.iconst 2, 1) := by decide +kernel
theorem dX5_look_100 : decode cX5_look 100 = .ok (.goto 14, 3) := by decide +kernel
theorem dX5_look_103 : decode cX5_look 103 = .ok (.iload_n 2, 1) := by decide +kernel
theorem dX5_look_104 : decode cX5_look 104 = .ok (.bipush 59, 2) := by decide +kernel
theorem dX5_look_106 : decode cX5_look 106 = .ok (.if_icmp .ne 7, 3) := by decide +kernel
theorem dX5_look_109 : decode cX5_look 109 = .ok (.iconst 3, 1) := by decide +kernel
theorem dX5_look_110 : decode cX5_look 110 = .ok (.goto 4, 3) := by decide +kernel
theorem dX5_look_113 : decode cX5_look 113 = .ok (.iconst 4, 1) := by decide +kernel
theorem dX5_look_114 : decode cX5_look 114 = .ok (.putfield 214, 3) := by decide +kernel
theorem dX5_look_117 : decode cX5_look 117 = .ok (.aload_n 0, 1) := by decide +kernel
theorem dX5_look_118 : decode cX5_look 118 = .ok (.iconst 1, 1) := by decide +kernel
theorem dX5_look_119 : decode cX5_look 119 = .ok (.putfield 211, 3) := by decide +kernel
theorem dX5_look_122 : decode cX5_look 122 = .ok (.aload_n 0, 1) := by decide +kernel
theorem dX5_look_123 : decode cX5_look 123 = .ok (.getfield 214, 3) := by decide +kernel
theorem dX5_look_126 : decode cX5_look 126 = .ok (.iconst 3, 1) := by decide +kernel
theorem dX5_look_127 : decode cX5_look 127 = .ok (.if_icmp .ge 7, 3) := by decide +kernel
theorem dX5_look_130 : decode cX5_look 130 = .ok (.iconst 1, 1) := by decide +kernel
theorem dX5_look_131 : decode cX5_look 131 = .ok (.goto 4, 3) := by decide +kernel
theorem dX5_look_134 : decode cX5_look 134 = .ok (.iconst 0, 1) := by decide +kernel
theorem dX5_look_135 : decode cX5_look 135 = .ok (.istore_n 3, 1) := by decide +kernel
theorem dX5_look_136 : decode cX5_look 136 = .ok (.iload_n 3, 1) := by decide +kernel
theorem dX5_look_137 : decode cX5_look 137 = .ok (.ifCond .eq 78, 3) := by decide +kernel
theorem dX5_look_140 : decode cX5_look 140 = .ok (.aload_n 0, 1) := by decide +kernel
theorem dX5_look_141 : decode cX5_look 141 = .ok (.getfield 208, 3) := by decide +kernel
theorem dX5_look_144 : decode cX5_look 144 = .ok (.aload_n 0, 1) := by decide +kernel
theorem dX5_look_145 : decode cX5_look 145 = .ok (.getfield 211, 3) := by decide +kernel
theorem dX5_look_148 : decode cX5_look 148 = .ok (.iadd, 1) := by decide +kernel
theorem dX5_look_149 : decode cX5_look 149 = .ok (.aload_n 0, 1) := by decide +kernel
theorem dX5_look_150 : decode cX5_look 150 = .ok (.getfield 195, 3) := by decide +kernel
theorem dX5_look_153 : decode cX5_look 153 = .ok (.if_icmp .ge 62, 3) := by decide +kernel
theorem dX5_look_156 : decode cX5_look 156 = .ok (.aload_n 0, 1) := by decide +kernel
theorem dX5_look_157 : decode cX5_look 157 = .ok (.getfield 42, 3) := by decide +kernel
theorem dX5_look_160 : decode cX5_look 160 = .ok (.aload_n 0, 1) := by decide +kernel
theorem dX5_look_161 : decode cX5_look 161 = .ok (.getfield 208, 3) := by decide +kernel
theorem dX5_look_164 : decode cX5_look 164 = .ok (.aload_n 0, 1) := by decide +kernel
theorem dX5_look_165 : decode cX5_look 165 = .ok (.getfield 211, 3) := by decide +kernel
theorem dX5_look_168 : decode cX5_look 168 = .ok (.iadd, 1) := by decide +kernel
theorem dX5_look_169 : decode cX5_look 169 = .ok (.iaload, 1) := by decide +kernel
theorem dX5_look_170 : decode cX5_look 170 = .ok (.istore 4, 2) := by decide +kernel
theorem dX5_look_172 : decode cX5_look 172 = .ok (.aload_n 0, 1) := by decide +kernel
theorem dX5_look_173 : decode cX5_look 173 = .ok (.getfield 214, 3) := by decide +kernel
theorem dX5_look_176 : decode cX5_look 176 = .ok (.iconst 1, 1) := by decide +kernel
theorem dX5_look_177 : decode cX5_look 177 = .ok (.if_icmp .ne 11, 3) := by decide +kernel
theorem dX5_look_180 : decode cX5_look 180 = .ok (.iload 4, 2) := by decide +kernel
theorem dX5_look_182 : decode cX5_look 182 = .ok (.invokestatic 220, 3) := by decide +kernel
theorem dX5_look_185 : decode cX5_look 185 = .ok (.goto 8, 3) := by decide +kernel
theorem dX5_look_188 : decode cX5_look 188 = .ok (.iload 4, 2) := by decide +kernel
theorem dX5_look_190 : decode cX5_look 190 = .ok (.invokestatic 223, 3) := by decide +kernel
theorem dX5_look_193 : decode cX5_look 193 = .ok (.istore_n 3, 1) := by decide +kernel
theorem dX5_look_194 : decode cX5_look 194 = .ok (.aload_n 0, 1) := by decide +kernel
theorem dX5_look_195 : decode cX5_look 195 = .ok (.dup, 1) := by decide +kernel
theorem dX5_look_196 : decode cX5_look 196 = .ok (.getfield 211, 3) := by decide +kernel
theorem dX5_look_199 : decode cX5_look 199 = .ok (.iload_n 3, 1) := by decide +kernel
theorem dX5_look_200 : decode cX5_look 200 = .ok (.ifCond .eq 7, 3) := by decide +kernel
theorem dX5_look_203 : decode cX5_look 203 = .ok (.iconst 1, 1) := by decide +kernel
theorem dX5_look_204 : decode cX5_look 204 = .ok (.goto 4, 3) := by decide +kernel
theorem dX5_look_207 : decode cX5_look 207 = .ok (.iconst 0, 1) := by decide +kernel
theorem dX5_look_208 : decode cX5_look 208 = .ok (.iadd, 1) := by decide +kernel
theorem dX5_look_209 : decode cX5_look 209 = .ok (.putfield 211, 3) := by decide +kernel
theorem dX5_look_212 : decode cX5_look 212 = .ok (.goto (-76), 3) := by decide +kernel
theorem dX5_look_215 : decode cX5_look 215 = .ok (.aload_n 0, 1) := by decide +kernel
theorem dX5_look_216 : decode cX5_look 216 = .ok (.iload_n 2, 1) := by decide +kernel
theorem dX5_look_217 : decode cX5_look 217 = .ok (.bipush 48, 2) := by decide +kernel
theorem dX5_look_219 : decode cX5_look 219 = .ok (.isub, 1) := by decide +kernel
theorem dX5_look_220 : decode cX5_look 220 = .ok (.putfield 217, 3) := by decide +kernel
theorem dX5_look_223 : decode cX5_look 223 = .ok (.aload_n 0, 1) := by decide +kernel
theorem dX5_look_224 : decode cX5_look 224 = .ok (.aload_n 0, 1) := by decide +kernel
theorem dX5_look_225 : decode cX5_look 225 = .ok (.getfield 214, 3) := by decide +kernel
theorem dX5_look_228 : decode cX5_look 228 = .ok (.iconst 2, 1) := by decide +kernel
theorem dX5_look_229 : decode cX5_look 229 = .ok (.if_icmp .ne 15, 3) := by decide +kernel
theorem dX5_look_232 : decode cX5_look 232 = .ok (.aload_n 0, 1) := by decide +kernel
theorem dX5_look_233 : decode cX5_look 233 = .ok (.getfield 211, 3) := by decide +kernel
theorem dX5_look_236 : decode cX5_look 236 = .ok (.iconst 1, 1) := by decide +kernel
theorem dX5_look_237 : decode cX5_look 237 = .ok (.if_icmp .le 7, 3) := by decide +kernel
theorem dX5_look_240 : decode cX5_look 240 = .ok (.iconst 4, 1) := by decide +kernel
theorem dX5_look_241 : decode cX5_look 241 = .ok (.goto 7, 3) := by decide +kernel
theorem dX5_look_244 : decode cX5_look 244 = .ok (.aload_n 0, 1) := by decide +kernel
theorem dX5_look_245 : decode cX5_look 245 = .ok (.getfield 214, 3) := by decide +kernel
theorem dX5_look_248 : decode cX5_look 248 = .ok (.putfield 214, 3) := by decide +kernel
theorem dX5_look_251 : decode cX5_look 251 = .ok (.return_, 1) := by decide +kernel
theorem dX5_goOn_0 : decode cX5_goOn 0 = .ok (.aload_n 0, 1) := by decide +kernel
theorem dX5_goOn_1 : decode cX5_goOn 1 = .ok (.aload_n 0, 1) := by decide +kernel
theorem dX5_goOn_2 : decode cX5_goOn 2 = .ok (.getfield 208, 3) := by decide +kernel
theorem dX5_goOn_5 : decode cX5_goOn 5 = .ok (.aload_n 0, 1) := by decide +kernel
theorem dX5_goOn_6 : decode cX5_goOn 6 = .ok (.getfield 211, 3) := by decide +kernel
theorem dX5_goOn_9 : decode cX5_goOn 9 = .ok (.iadd, 1) := by decide +kernel
theorem dX5_goOn_10 : decode cX5_goOn 10 = .ok (.invokevirtual 226, 3) := by decide +kernel
theorem dX5_goOn_13 : decode cX5_goOn 13 = .ok (.return_, 1) := by decide +kernel
theorem dX5_isWord_0 : decode cX5_isWord 0 = .ok (.iload 5, 2) := by decide +kernel
theorem dX5_isWord_2 : decode cX5_isWord 2 = .ok (.ifCond .ne 7, 3) := by decide +kernel
theorem dX5_isWord_5 : decode cX5_isWord 5 = .ok (.iconst 4, 1) := by decide +kernel
theorem dX5_isWord_6 : decode cX5_isWord 6 = .ok (.goto 14, 3) := by decide +kernel
theorem dX5_isWord_9 : decode cX5_isWord 9 = .ok (.iload 6, 2) := by decide +kernel
theorem dX5_isWord_11 : decode cX5_isWord 11 = .ok (.ifCond .ne 7, 3) := by decide +kernel
theorem dX5_isWord_14 : decode cX5_isWord 14 = .ok (.iconst 5, 1) := by decide +kernel
theorem dX5_isWord_15 : decode cX5_isWord 15 = .ok (.goto 5, 3) := by decide +kernel
theorem dX5_isWord_18 : decode cX5_isWord 18 = .ok (.bipush 6, 2) := by decide +kernel
theorem dX5_isWord_20 : decode cX5_isWord 20 = .ok (.istore 7, 2) := by decide +kernel
theorem dX5_isWord_22 : decode cX5_isWord 22 = .ok (.aload_n 0, 1) := by decide +kernel
theorem dX5_isWord_23 : decode cX5_isWord 23 = .ok (.getfield 214, 3) := by decide +kernel
theorem dX5_isWord_26 : decode cX5_isWord 26 = .ok (.iconst 1, 1) := by decide +kernel
theorem dX5_isWord_27 : decode cX5_isWord 27 = .ok (.if_icmp .ne 16, 3) := by decide +kernel
theorem dX5_isWord_30 : decode cX5_isWord 30 = .ok (.aload_n 0, 1) := by decide +kernel
theorem dX5_isWord_31 : decode cX5_isWord 31 = .ok (.getfield 211, 3) := by decide +kernel
theorem dX5_isWord_34 : decode cX5_isWord 34 = .ok (.iload 7, 2) := by decide +kernel
theorem dX5_isWord_36 : decode cX5_isWord 36 = .ok (.if_icmp .ne 7, 3) := by decide +kernel
theorem dX5_isWord_39 : decode cX5_isWord 39 = .ok (.iconst 1, 1) := by decide +kernel
theorem dX5_isWord_40 : decode cX5_isWord 40 = .ok (.goto 4, 3) := by decide +kernel
theorem dX5_isWord_43 : decode cX5_isWord 43 = .ok (.iconst 0, 1) := by decide +kernel
theorem dX5_isWord_44 : decode cX5_isWord 44 = .ok (.istore 8, 2) := by decide +kernel
theorem dX5_isWord_46 : decode cX5_isWord 46 = .ok (.iconst 0, 1) := by decide +kernel
theorem dX5_isWord_47 : decode cX5_isWord 47 = .ok (.istore 9, 2) := by decide +kernel
theorem dX5_isWord_49 : decode cX5_isWord 49 = .ok (.iload 9, 2) := by decide +kernel
theorem dX5_isWord_51 : decode cX5_isWord 51 = .ok (.iload 7, 2) := by decide +kernel
theorem dX5_isWord_53 : decode cX5_isWord 53 = .ok (.if_icmp .ge 89, 3) := by decide +kernel
theorem dX5_isWord_56 : decode cX5_isWord 56 = .ok (.iload 8, 2) := by decide +kernel
theorem dX5_isWord_58 : decode cX5_isWord 58 = .ok (.ifCond .eq 84, 3) := by decide +kernel
theorem dX5_isWord_61 : decode cX5_isWord 61 = .ok (.aload_n 0, 1) := by decide +kernel
theorem dX5_isWord_62 : decode cX5_isWord 62 = .ok (.getfield 42, 3) := by decide +kernel
theorem dX5_isWord_65 : decode cX5_isWord 65 = .ok (.aload_n 0, 1) := by decide +kernel
theorem dX5_isWord_66 : decode cX5_isWord 66 = .ok (.getfield 208, 3) := by decide +kernel
theorem dX5_isWord_69 : decode cX5_isWord 69 = .ok (.iload 9, 2) := by decide +kernel
theorem dX5_isWord_71 : decode cX5_isWord 71 = .ok (.iadd, 1) := by decide +kernel
theorem dX5_isWord_72 : decode cX5_isWord 72 = .ok (.iaload, 1) := by decide +kernel
theorem dX5_isWord_73 : decode cX5_isWord 73 = .ok (.iload 9, 2) := by decide +kernel
theorem dX5_isWord_75 : decode cX5_isWord 75 = .ok (.ifCond .ne 7, 3) := by decide +kernel
theorem dX5_isWord_78 : decode cX5_isWord 78 = .ok (.iload_n 1, 1) := by decide +kernel
theorem dX5_isWord_79 : decode cX5_isWord 79 = .ok (.goto 47, 3) := by decide +kernel
theorem dX5_isWord_82 : decode cX5_isWord 82 = .ok (.iload 9, 2) := by decide +kernel
theorem dX5_isWord_84 : decode cX5_isWord 84 = .ok (.iconst 1, 1) := by decide +kernel
theorem dX5_isWord_85 : decode cX5_isWord 85 = .ok (.if_icmp .ne 7, 3) := by decide +kernel
theorem dX5_isWord_88 : decode cX5_isWord 88 = .ok (.iload_n 2, 1) := by decide +kernel
theorem dX5_isWord_89 : decode cX5_isWord 89 = .ok (.goto 37, 3) := by decide +kernel
theorem dX5_isWord_92 : decode cX5_isWord 92 = .ok (.iload 9, 2) := by decide +kernel
theorem dX5_isWord_94 : decode cX5_isWord 94 = .ok (.iconst 2, 1) := by decide +kernel
theorem dX5_isWord_95 : decode cX5_isWord 95 = .ok (.if_icmp .ne 7, 3) := by decide +kernel
theorem dX5_isWord_98 : decode cX5_isWord 98 = .ok (.iload_n 3, 1) := by decide +kernel
theorem dX5_isWord_99 : decode cX5_isWord 99 = .ok (.goto 27, 3) := by decide +kernel
theorem dX5_isWord_102 : decode cX5_isWord 102 = .ok (.iload 9, 2) := by decide +kernel
theorem dX5_isWord_104 : decode cX5_isWord 104 = .ok (.iconst 3, 1) := by decide +kernel
theorem dX5_isWord_105 : decode cX5_isWord 105 = .ok (.if_icmp .ne 8, 3) := by decide +kernel
theorem dX5_isWord_108 : decode cX5_isWord 108 = .ok (.iload 4, 2) := by decide +kernel
theorem dX5_isWord_110 : decode cX5_isWord 110 = .ok (.goto 16, 3) := by decide +kernel
theorem dX5_isWord_113 : decode cX5_isWord 113 = .ok (.iload 9, 2) := by decide +kernel
theorem dX5_isWord_115 : decode cX5_isWord 115 = .ok (.iconst 4, 1) := by decide +kernel
theorem dX5_isWord_116 : decode cX5_isWord 116 = .ok (.if_icmp .ne 8, 3) := by decide +kernel
theorem dX5_isWord_119 : decode cX5_isWord 119 = .ok (.iload 5, 2) := by decide +kernel
theorem dX5_isWord_121 : decode cX5_isWord 121 = .ok (.goto 5, 3) := by decide +kernel
theorem dX5_isWord_124 : decode cX5_isWord 124 = .ok (.iload 6, 2) := by decide +kernel
theorem dX5_isWord_126 : decode cX5_isWord 126 = .ok (.if_icmp .ne 7, 3) := by decide +kernel
theorem dX5_isWord_129 : decode cX5_isWord 129 = .ok (.iconst 1, 1) := by decide +kernel
theorem dX5_isWord_130 : decode cX5_isWord 130 = .ok (.goto 4, 3) := by decide +kernel
theorem dX5_isWord_133 : decode cX5_isWord 133 = .ok (.iconst 0, 1) := by decide +kernel
theorem dX5_isWord_134 : decode cX5_isWord 134 = .ok (.istore 8, 2) := by decide +kernel
theorem dX5_isWord_136 : decode cX5_isWord 136 = .ok (.iinc 9 1, 3) := by decide +kernel
theorem dX5_isWord_139 : decode cX5_isWord 139 = .ok (.goto (-90), 3) := by decide +kernel
theorem dX5_isWord_142 : decode cX5_isWord 142 = .ok (.iload 8, 2) := by decide +kernel
theorem dX5_isWord_144 : decode cX5_isWord 144 = .ok (.ireturn, 1) := by decide +kernel
theorem dX5_takes_0 : decode cX5_takes 0 = .ok (.aload_n 0, 1) := by decide +kernel
theorem dX5_takes_1 : decode cX5_takes 1 = .ok (.getfield 214, 3) := by decide +kernel
theorem dX5_takes_4 : decode cX5_takes 4 = .ok (.iconst 2, 1) := by decide +kernel
theorem dX5_takes_5 : decode cX5_takes 5 = .ok (.if_icmp .ne 18, 3) := by decide +kernel
theorem dX5_takes_8 : decode cX5_takes 8 = .ok (.aload_n 0, 1) := by decide +kernel
theorem dX5_takes_9 : decode cX5_takes 9 = .ok (.getfield 217, 3) := by decide +kernel
theorem dX5_takes_12 : decode cX5_takes 12 = .ok (.i2l, 1) := by decide +kernel
theorem dX5_takes_13 : decode cX5_takes 13 = .ok (.iload_n 2, 1) := by decide +kernel
theorem dX5_takes_14 : decode cX5_takes 14 = .ok (.i2l, 1) := by decide +kernel
theorem dX5_takes_15 : decode cX5_takes 15 = .ok (.iload_n 3, 1) := by decide +kernel
theorem dX5_takes_16 : decode cX5_takes 16 = .ok (.i2l, 1) := by decide +kernel
theorem dX5_takes_17 : decode cX5_takes 17 = .ok (.invokestatic 58, 3) := by decide +kernel
theorem dX5_takes_20 : decode cX5_takes 20 = .ok (.ifCond .ne 5, 3) := by decide +kernel
theorem dX5_takes_23 : decode cX5_takes 23 = .ok (.iconst 0, 1) := by decide +kernel
theorem dX5_takes_24 : decode cX5_takes 24 = .ok (.ireturn, 1) := by decide +kernel
theorem dX5_takes_25 : decode cX5_takes 25 = .ok (.aload_n 0, 1) := by decide +kernel
theorem dX5_takes_26 : decode cX5_takes 26 = .ok (.getfield 48, 3) := by decide +kernel
theorem dX5_takes_29 : decode cX5_takes 29 = .ok (.iload_n 1, 1) := by decide +kernel
theorem dX5_takes_30 : decode cX5_takes 30 = .ok (.aload_n 0, 1) := by decide +kernel
theorem dX5_takes_31 : decode cX5_takes 31 = .ok (.getfield 217, 3) := by decide +kernel
theorem dX5_takes_34 : decode cX5_takes 34 = .ok (.iastore, 1) := by decide +kernel
theorem dX5_takes_35 : decode cX5_takes 35 = .ok (.aload_n 0, 1) := by decide +kernel
theorem dX5_takes_36 : decode cX5_takes 36 = .ok (.invokevirtual 230, 3) := by decide +kernel
theorem dX5_takes_39 : decode cX5_takes 39 = .ok (.iconst 1, 1) := by decide +kernel
theorem dX5_takes_40 : decode cX5_takes 40 = .ok (.ireturn, 1) := by decide +kernel
theorem dX5_readsRoof_0 : decode cX5_readsRoof 0 = .ok (.aload_n 0, 1) := by decide +kernel
theorem dX5_readsRoof_1 : decode cX5_readsRoof 1 = .ok (.getfield 45, 3) := by decide +kernel
theorem dX5_readsRoof_4 : decode cX5_readsRoof 4 = .ok (.bipush 93, 2) := by decide +kernel
theorem dX5_readsRoof_6 : decode cX5_readsRoof 6 = .ok (.iaload, 1) := by decide +kernel
theorem dX5_readsRoof_7 : decode cX5_readsRoof 7 = .ok (.istore_n 1, 1) := by decide +kernel
theorem dX5_readsRoof_8 : decode cX5_readsRoof 8 = .ok (.iload_n 1, 1) := by decide +kernel
theorem dX5_readsRoof_9 : decode cX5_readsRoof 9 = .ok (.bipush 7, 2) := by decide +kernel
theorem dX5_readsRoof_11 : decode cX5_readsRoof 11 = .ok (.if_icmp .ne 5, 3) := by decide +kernel
theorem dX5_readsRoof_14 : decode cX5_readsRoof 14 = .ok (.iconst 0, 1) := by decide +kernel
theorem dX5_readsRoof_15 : decode cX5_readsRoof 15 = .ok (.ireturn, 1) := by decide +kernel
theorem dX5_readsRoof_16 : decode cX5_readsRoof 16 = .ok (.aload_n 0, 1) := by decide +kernel
theorem dX5_readsRoof_17 : decode cX5_readsRoof 17 = .ok (.invokevirtual 230, 3) := by decide +kernel
theorem dX5_readsRoof_20 : decode cX5_readsRoof 20 = .ok (.aload_n 0, 1) := by decide +kernel
theorem dX5_readsRoof_21 : decode cX5_readsRoof 21 = .ok (.iconst 0, 1) := by decide +kernel
theorem dX5_readsRoof_22 : decode cX5_readsRoof 22 = .ok (.iconst 0, 1) := by decide +kernel
theorem dX5_readsRoof_23 : decode cX5_readsRoof 23 = .ok (.iconst 5, 1) := by decide +kernel
theorem dX5_readsRoof_24 : decode cX5_readsRoof 24 = .ok (.invokevirtual 233, 3) := by decide +kernel
theorem dX5_readsRoof_27 : decode cX5_readsRoof 27 = .ok (.istore_n 2, 1) := by decide +kernel
theorem dX5_readsRoof_28 : decode cX5_readsRoof 28 = .ok (.iconst 1, 1) := by decide +kernel
theorem dX5_readsRoof_29 : decode cX5_readsRoof 29 = .ok (.istore_n 3, 1) := by decide +kernel
theorem dX5_readsRoof_30 : decode cX5_readsRoof 30 = .ok (.iload_n 3, 1) := by decide +kernel
theorem dX5_readsRoof_31 : decode cX5_readsRoof 31 = .ok (.bipush 6, 2) := by decide +kernel
theorem dX5_readsRoof_33 : decode cX5_readsRoof 33 = .ok (.if_icmp .ge 22, 3) := by decide +kernel
theorem dX5_readsRoof_36 : decode cX5_readsRoof 36 = .ok (.iload_n 2, 1) := by decide +kernel
theorem dX5_readsRoof_37 : decode cX5_readsRoof 37 = .ok (.ifCond .eq 18, 3) := by decide +kernel
theorem dX5_readsRoof_40 : decode cX5_readsRoof 40 = .ok (.aload_n 0, 1) := by decide +kernel
theorem dX5_readsRoof_41 : decode cX5_readsRoof 41 = .ok (.iload_n 3, 1) := by decide +kernel
theorem dX5_readsRoof_42 : decode cX5_readsRoof 42 = .ok (.iconst 0, 1) := by decide +kernel
theorem dX5_readsRoof_43 : decode cX5_readsRoof 43 = .ok (.bipush 9, 2) := by decide +kernel
theorem dX5_readsRoof_45 : decode cX5_readsRoof 45 = .ok (.invokevirtual 233, 3) := by decide +kernel
theorem dX5_readsRoof_48 : decode cX5_readsRoof 48 = .ok (.istore_n 2, 1) := by decide +kernel
theorem dX5_readsRoof_49 : decode cX5_readsRoof 49 = .ok (.iinc 3 1, 3) := by decide +kernel
theorem dX5_readsRoof_52 : decode cX5_readsRoof 52 = .ok (.goto (-22), 3) := by decide +kernel
theorem dX5_readsRoof_55 : decode cX5_readsRoof 55 = .ok (.aload_n 0, 1) := by decide +kernel
theorem dX5_readsRoof_56 : decode cX5_readsRoof 56 = .ok (.getfield 45, 3) := by decide +kernel
theorem dX5_readsRoof_59 : decode cX5_readsRoof 59 = .ok (.iload_n 1, 1) := by decide +kernel
theorem dX5_readsRoof_60 : decode cX5_readsRoof 60 = .ok (.aload_n 0, 1) := by decide +kernel
theorem dX5_readsRoof_61 : decode cX5_readsRoof 61 = .ok (.getfield 48, 3) := by decide +kernel
theorem dX5_readsRoof_64 : decode cX5_readsRoof 64 = .ok (.iconst 0, 1) := by decide +kernel
theorem dX5_readsRoof_65 : decode cX5_readsRoof 65 = .ok (.iaload, 1) := by decide +kernel
theorem dX5_readsRoof_66 : decode cX5_readsRoof 66 = .ok (.aload_n 0, 1) := by decide +kernel
theorem dX5_readsRoof_67 : decode cX5_readsRoof 67 = .ok (.getfield 48, 3) := by decide +kernel
theorem dX5_readsRoof_70 : decode cX5_readsRoof 70 = .ok (.iconst 1, 1) := by decide +kernel
theorem dX5_readsRoof_71 : decode cX5_readsRoof 71 = .ok (.iaload, 1) := by decide +kernel
theorem dX5_readsRoof_72 : decode cX5_readsRoof 72 = .ok (.aload_n 0, 1) := by decide +kernel
theorem dX5_readsRoof_73 : decode cX5_readsRoof 73 = .ok (.getfield 48, 3) := by decide +kernel
theorem dX5_readsRoof_76 : decode cX5_readsRoof 76 = .ok (.iconst 2, 1) := by decide +kernel
theorem dX5_readsRoof_77 : decode cX5_readsRoof 77 = .ok (.iaload, 1) := by decide +kernel
theorem dX5_readsRoof_78 : decode cX5_readsRoof 78 = .ok (.aload_n 0, 1) := by decide +kernel
theorem dX5_readsRoof_79 : decode cX5_readsRoof 79 = .ok (.getfield 48, 3) := by decide +kernel
theorem dX5_readsRoof_82 : decode cX5_readsRoof 82 = .ok (.iconst 3, 1) := by decide +kernel
theorem dX5_readsRoof_83 : decode cX5_readsRoof 83 = .ok (.iaload, 1) := by decide +kernel
theorem dX5_readsRoof_84 : decode cX5_readsRoof 84 = .ok (.aload_n 0, 1) := by decide +kernel
theorem dX5_readsRoof_85 : decode cX5_readsRoof 85 = .ok (.getfield 48, 3) := by decide +kernel
theorem dX5_readsRoof_88 : decode cX5_readsRoof 88 = .ok (.iconst 4, 1) := by decide +kernel
theorem dX5_readsRoof_89 : decode cX5_readsRoof 89 = .ok (.iaload, 1) := by decide +kernel
theorem dX5_readsRoof_90 : decode cX5_readsRoof 90 = .ok (.aload_n 0, 1) := by decide +kernel
theorem dX5_readsRoof_91 : decode cX5_readsRoof 91 = .ok (.getfield 48, 3) := by decide +kernel
theorem dX5_readsRoof_94 : decode cX5_readsRoof 94 = .ok (.iconst 5, 1) := by decide +kernel
theorem dX5_readsRoof_95 : decode cX5_readsRoof 95 = .ok (.iaload, 1) := by decide +kernel
theorem dX5_readsRoof_96 : decode cX5_readsRoof 96 = .ok (.invokestatic 80, 3) := by decide +kernel
theorem dX5_readsRoof_99 : decode cX5_readsRoof 99 = .ok (.aload_n 0, 1) := by decide +kernel
theorem dX5_readsRoof_100 : decode cX5_readsRoof 100 = .ok (.getfield 45, 3) := by decide +kernel
theorem dX5_readsRoof_103 : decode cX5_readsRoof 103 = .ok (.bipush 93, 2) := by decide +kernel
theorem dX5_readsRoof_105 : decode cX5_readsRoof 105 = .ok (.dup2, 1) := by decide +kernel
theorem dX5_readsRoof_106 : decode cX5_readsRoof 106 = .ok (.iaload, 1) := by decide +kernel
theorem dX5_readsRoof_107 : decode cX5_readsRoof 107 = .ok (.iconst 1, 1) := by decide +kernel
theorem dX5_readsRoof_108 : decode cX5_readsRoof 108 = .ok (.iadd, 1) := by decide +kernel
theorem dX5_readsRoof_109 : decode cX5_readsRoof 109 = .ok (.iastore, 1) := by decide +kernel
theorem dX5_readsRoof_110 : decode cX5_readsRoof 110 = .ok (.iload_n 2, 1) := by decide +kernel
theorem dX5_readsRoof_111 : decode cX5_readsRoof 111 = .ok (.ireturn, 1) := by decide +kernel
theorem dX5_readsStorm_0 : decode cX5_readsStorm 0 = .ok (.aload_n 0, 1) := by decide +kernel
theorem dX5_readsStorm_1 : decode cX5_readsStorm 1 = .ok (.getfield 45, 3) := by decide +kernel
theorem dX5_readsStorm_4 : decode cX5_readsStorm 4 = .ok (.bipush 94, 2) := by decide +kernel
theorem dX5_readsStorm_6 : decode cX5_readsStorm 6 = .ok (.iaload, 1) := by decide +kernel
theorem dX5_readsStorm_7 : decode cX5_readsStorm 7 = .ok (.istore_n 1, 1) := by decide +kernel
theorem dX5_readsStorm_8 : decode cX5_readsStorm 8 = .ok (.iload_n 1, 1) := by decide +kernel
theorem dX5_readsStorm_9 : decode cX5_readsStorm 9 = .ok (.bipush 6, 2) := by decide +kernel
theorem dX5_readsStorm_11 : decode cX5_readsStorm 11 = .ok (.if_icmp .ne 5, 3) := by decide +kernel
theorem dX5_readsStorm_14 : decode cX5_readsStorm 14 = .ok (.iconst 0, 1) := by decide +kernel
theorem dX5_readsStorm_15 : decode cX5_readsStorm 15 = .ok (.ireturn, 1) := by decide +kernel
theorem dX5_readsStorm_16 : decode cX5_readsStorm 16 = .ok (.aload_n 0, 1) := by decide +kernel
theorem dX5_readsStorm_17 : decode cX5_readsStorm 17 = .ok (.invokevirtual 230, 3) := by decide +kernel
theorem dX5_readsStorm_20 : decode cX5_readsStorm 20 = .ok (.aload_n 0, 1) := by decide +kernel
theorem dX5_readsStorm_21 : decode cX5_readsStorm 21 = .ok (.iconst 0, 1) := by decide +kernel
theorem dX5_readsStorm_22 : decode cX5_readsStorm 22 = .ok (.iconst 0, 1) := by decide +kernel
theorem dX5_readsStorm_23 : decode cX5_readsStorm 23 = .ok (.bipush 6, 2) := by decide +kernel
theorem dX5_readsStorm_25 : decode cX5_readsStorm 25 = .ok (.invokevirtual 233, 3) := by decide +kernel
theorem dX5_readsStorm_28 : decode cX5_readsStorm 28 = .ok (.ifCond .eq 51, 3) := by decide +kernel
