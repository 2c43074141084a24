theorem dX5_readsStorm_31 : decode cX5_readsStorm 31 = .ok (.aload_n 0, 1) := by decide +kernel
theorem dX5_readsStorm_32 : decode cX5_readsStorm 32 = .ok (.iconst 1, 1) := by decide +kernel
theorem dX5_readsStorm_33 : decode cX5_readsStorm 33 = .ok (.aload_n 0, 1) := by decide +kernel
theorem dX5_readsStorm_34 : decode cX5_readsStorm 34 = .ok (.getfield 48, 3) := by decide +kernel
theorem dX5_readsStorm_37 : decode cX5_readsStorm 37 = .ok (.iconst 0, 1) := by decide +kernel
theorem dX5_readsStorm_38 : decode cX5_readsStorm 38 = .ok (.iaload, 1) := by decide +kernel
theorem dX5_readsStorm_39 : decode cX5_readsStorm 39 = .ok (.bipush 6, 2) := by decide +kernel
theorem dX5_readsStorm_41 : decode cX5_readsStorm 41 = .ok (.invokevirtual 233, 3) := by decide +kernel
theorem dX5_readsStorm_44 : decode cX5_readsStorm 44 = .ok (.ifCond .eq 35, 3) := by decide +kernel
theorem dX5_readsStorm_47 : decode cX5_readsStorm 47 = .ok (.aload_n 0, 1) := by decide +kernel
theorem dX5_readsStorm_48 : decode cX5_readsStorm 48 = .ok (.iconst 2, 1) := by decide +kernel
theorem dX5_readsStorm_49 : decode cX5_readsStorm 49 = .ok (.iconst 0, 1) := by decide +kernel
theorem dX5_readsStorm_50 : decode cX5_readsStorm 50 = .ok (.iconst 1, 1) := by decide +kernel
theorem dX5_readsStorm_51 : decode cX5_readsStorm 51 = .ok (.invokevirtual 233, 3) := by decide +kernel
theorem dX5_readsStorm_54 : decode cX5_readsStorm 54 = .ok (.ifCond .eq 25, 3) := by decide +kernel
theorem dX5_readsStorm_57 : decode cX5_readsStorm 57 = .ok (.aload_n 0, 1) := by decide +kernel
theorem dX5_readsStorm_58 : decode cX5_readsStorm 58 = .ok (.iconst 3, 1) := by decide +kernel
theorem dX5_readsStorm_59 : decode cX5_readsStorm 59 = .ok (.iconst 1, 1) := by decide +kernel
theorem dX5_readsStorm_60 : decode cX5_readsStorm 60 = .ok (.bipush 9, 2) := by decide +kernel
theorem dX5_readsStorm_62 : decode cX5_readsStorm 62 = .ok (.invokevirtual 233, 3) := by decide +kernel
theorem dX5_readsStorm_65 : decode cX5_readsStorm 65 = .ok (.ifCond .eq 14, 3) := by decide +kernel
theorem dX5_readsStorm_68 : decode cX5_readsStorm 68 = .ok (.aload_n 0, 1) := by decide +kernel
theorem dX5_readsStorm_69 : decode cX5_readsStorm 69 = .ok (.iconst 4, 1) := by decide +kernel
theorem dX5_readsStorm_70 : decode cX5_readsStorm 70 = .ok (.iconst 1, 1) := by decide +kernel
theorem dX5_readsStorm_71 : decode cX5_readsStorm 71 = .ok (.bipush 9, 2) := by decide +kernel
theorem dX5_readsStorm_73 : decode cX5_readsStorm 73 = .ok (.invokevirtual 233, 3) := by decide +kernel
theorem dX5_readsStorm_76 : decode cX5_readsStorm 76 = .ok (.ifCond .ne 5, 3) := by decide +kernel
theorem dX5_readsStorm_79 : decode cX5_readsStorm 79 = .ok (.iconst 0, 1) := by decide +kernel
theorem dX5_readsStorm_80 : decode cX5_readsStorm 80 = .ok (.ireturn, 1) := by decide +kernel
theorem dX5_readsStorm_81 : decode cX5_readsStorm 81 = .ok (.aload_n 0, 1) := by decide +kernel
theorem dX5_readsStorm_82 : decode cX5_readsStorm 82 = .ok (.getfield 45, 3) := by decide +kernel
theorem dX5_readsStorm_85 : decode cX5_readsStorm 85 = .ok (.iload_n 1, 1) := by decide +kernel
theorem dX5_readsStorm_86 : decode cX5_readsStorm 86 = .ok (.aload_n 0, 1) := by decide +kernel
theorem dX5_readsStorm_87 : decode cX5_readsStorm 87 = .ok (.getfield 48, 3) := by decide +kernel
theorem dX5_readsStorm_90 : decode cX5_readsStorm 90 = .ok (.iconst 0, 1) := by decide +kernel
theorem dX5_readsStorm_91 : decode cX5_readsStorm 91 = .ok (.iaload, 1) := by decide +kernel
theorem dX5_readsStorm_92 : decode cX5_readsStorm 92 = .ok (.aload_n 0, 1) := by decide +kernel
theorem dX5_readsStorm_93 : decode cX5_readsStorm 93 = .ok (.getfield 48, 3) := by decide +kernel
theorem dX5_readsStorm_96 : decode cX5_readsStorm 96 = .ok (.iconst 1, 1) := by decide +kernel
theorem dX5_readsStorm_97 : decode cX5_readsStorm 97 = .ok (.iaload, 1) := by decide +kernel
theorem dX5_readsStorm_98 : decode cX5_readsStorm 98 = .ok (.aload_n 0, 1) := by decide +kernel
theorem dX5_readsStorm_99 : decode cX5_readsStorm 99 = .ok (.getfield 48, 3) := by decide +kernel
theorem dX5_readsStorm_102 : decode cX5_readsStorm 102 = .ok (.iconst 2, 1) := by decide +kernel
theorem dX5_readsStorm_103 : decode cX5_readsStorm 103 = .ok (.iaload, 1) := by decide +kernel
theorem dX5_readsStorm_104 : decode cX5_readsStorm 104 = .ok (.aload_n 0, 1) := by decide +kernel
theorem dX5_readsStorm_105 : decode cX5_readsStorm 105 = .ok (.getfield 48, 3) := by decide +kernel
theorem dX5_readsStorm_108 : decode cX5_readsStorm 108 = .ok (.iconst 3, 1) := by decide +kernel
theorem dX5_readsStorm_109 : decode cX5_readsStorm 109 = .ok (.iaload, 1) := by decide +kernel
theorem dX5_readsStorm_110 : decode cX5_readsStorm 110 = .ok (.aload_n 0, 1) := by decide +kernel
theorem dX5_readsStorm_111 : decode cX5_readsStorm 111 = .ok (.getfield 48, 3) := by decide +kernel
theorem dX5_readsStorm_114 : decode cX5_readsStorm 114 = .ok (.iconst 4, 1) := by decide +kernel
theorem dX5_readsStorm_115 : decode cX5_readsStorm 115 = .ok (.iaload, 1) := by decide +kernel
theorem dX5_readsStorm_116 : decode cX5_readsStorm 116 = .ok (.invokestatic 86, 3) := by decide +kernel
theorem dX5_readsStorm_119 : decode cX5_readsStorm 119 = .ok (.aload_n 0, 1) := by decide +kernel
theorem dX5_readsStorm_120 : decode cX5_readsStorm 120 = .ok (.getfield 45, 3) := by decide +kernel
theorem dX5_readsStorm_123 : decode cX5_readsStorm 123 = .ok (.bipush 94, 2) := by decide +kernel
theorem dX5_readsStorm_125 : decode cX5_readsStorm 125 = .ok (.dup2, 1) := by decide +kernel
theorem dX5_readsStorm_126 : decode cX5_readsStorm 126 = .ok (.iaload, 1) := by decide +kernel
theorem dX5_readsStorm_127 : decode cX5_readsStorm 127 = .ok (.iconst 1, 1) := by decide +kernel
theorem dX5_readsStorm_128 : decode cX5_readsStorm 128 = .ok (.iadd, 1) := by decide +kernel
theorem dX5_readsStorm_129 : decode cX5_readsStorm 129 = .ok (.iastore, 1) := by decide +kernel
theorem dX5_readsStorm_130 : decode cX5_readsStorm 130 = .ok (.iconst 1, 1) := by decide +kernel
theorem dX5_readsStorm_131 : decode cX5_readsStorm 131 = .ok (.ireturn, 1) := by decide +kernel
theorem dX5_readsCannon_0 : decode cX5_readsCannon 0 = .ok (.aload_n 0, 1) := by decide +kernel
theorem dX5_readsCannon_1 : decode cX5_readsCannon 1 = .ok (.invokevirtual 230, 3) := by decide +kernel
theorem dX5_readsCannon_4 : decode cX5_readsCannon 4 = .ok (.aload_n 0, 1) := by decide +kernel
theorem dX5_readsCannon_5 : decode cX5_readsCannon 5 = .ok (.getfield 214, 3) := by decide +kernel
theorem dX5_readsCannon_8 : decode cX5_readsCannon 8 = .ok (.iconst 2, 1) := by decide +kernel
theorem dX5_readsCannon_9 : decode cX5_readsCannon 9 = .ok (.if_icmp .ne 34, 3) := by decide +kernel
theorem dX5_readsCannon_12 : decode cX5_readsCannon 12 = .ok (.aload_n 0, 1) := by decide +kernel
theorem dX5_readsCannon_13 : decode cX5_readsCannon 13 = .ok (.getfield 217, 3) := by decide +kernel
theorem dX5_readsCannon_16 : decode cX5_readsCannon 16 = .ok (.i2l, 1) := by decide +kernel
theorem dX5_readsCannon_17 : decode cX5_readsCannon 17 = .ok (.lconst 0, 1) := by decide +kernel
theorem dX5_readsCannon_18 : decode cX5_readsCannon 18 = .ok (.ldc2_w 84, 3) := by decide +kernel
theorem dX5_readsCannon_21 : decode cX5_readsCannon 21 = .ok (.invokestatic 58, 3) := by decide +kernel
theorem dX5_readsCannon_24 : decode cX5_readsCannon 24 = .ok (.ifCond .eq 19, 3) := by decide +kernel
theorem dX5_readsCannon_27 : decode cX5_readsCannon 27 = .ok (.aload_n 0, 1) := by decide +kernel
theorem dX5_readsCannon_28 : decode cX5_readsCannon 28 = .ok (.getfield 45, 3) := by decide +kernel
theorem dX5_readsCannon_31 : decode cX5_readsCannon 31 = .ok (.bipush 86, 2) := by decide +kernel
theorem dX5_readsCannon_33 : decode cX5_readsCannon 33 = .ok (.aload_n 0, 1) := by decide +kernel
theorem dX5_readsCannon_34 : decode cX5_readsCannon 34 = .ok (.getfield 217, 3) := by decide +kernel
theorem dX5_readsCannon_37 : decode cX5_readsCannon 37 = .ok (.iadd, 1) := by decide +kernel
theorem dX5_readsCannon_38 : decode cX5_readsCannon 38 = .ok (.iaload, 1) := by decide +kernel
theorem dX5_readsCannon_39 : decode cX5_readsCannon 39 = .ok (.iconst 1, 1) := by decide +kernel
theorem dX5_readsCannon_40 : decode cX5_readsCannon 40 = .ok (.if_icmp .ne 5, 3) := by decide +kernel
theorem dX5_readsCannon_43 : decode cX5_readsCannon 43 = .ok (.iconst 0, 1) := by decide +kernel
theorem dX5_readsCannon_44 : decode cX5_readsCannon 44 = .ok (.ireturn, 1) := by decide +kernel
theorem dX5_readsCannon_45 : decode cX5_readsCannon 45 = .ok (.aload_n 0, 1) := by decide +kernel
theorem dX5_readsCannon_46 : decode cX5_readsCannon 46 = .ok (.getfield 45, 3) := by decide +kernel
theorem dX5_readsCannon_49 : decode cX5_readsCannon 49 = .ok (.bipush 86, 2) := by decide +kernel
theorem dX5_readsCannon_51 : decode cX5_readsCannon 51 = .ok (.aload_n 0, 1) := by decide +kernel
theorem dX5_readsCannon_52 : decode cX5_readsCannon 52 = .ok (.getfield 217, 3) := by decide +kernel
theorem dX5_readsCannon_55 : decode cX5_readsCannon 55 = .ok (.iadd, 1) := by decide +kernel
theorem dX5_readsCannon_56 : decode cX5_readsCannon 56 = .ok (.iconst 1, 1) := by decide +kernel
theorem dX5_readsCannon_57 : decode cX5_readsCannon 57 = .ok (.iastore, 1) := by decide +kernel
theorem dX5_readsCannon_58 : decode cX5_readsCannon 58 = .ok (.aload_n 0, 1) := by decide +kernel
theorem dX5_readsCannon_59 : decode cX5_readsCannon 59 = .ok (.invokevirtual 230, 3) := by decide +kernel
theorem dX5_readsCannon_62 : decode cX5_readsCannon 62 = .ok (.iconst 1, 1) := by decide +kernel
theorem dX5_readsCannon_63 : decode cX5_readsCannon 63 = .ok (.ireturn, 1) := by decide +kernel
theorem dX5_readsItem_0 : decode cX5_readsItem 0 = .ok (.aload_n 0, 1) := by decide +kernel
theorem dX5_readsItem_1 : decode cX5_readsItem 1 = .ok (.bipush 114, 2) := by decide +kernel
theorem dX5_readsItem_3 : decode cX5_readsItem 3 = .ok (.bipush 111, 2) := by decide +kernel
theorem dX5_readsItem_5 : decode cX5_readsItem 5 = .ok (.bipush 111, 2) := by decide +kernel
theorem dX5_readsItem_7 : decode cX5_readsItem 7 = .ok (.bipush 102, 2) := by decide +kernel
theorem dX5_readsItem_9 : decode cX5_readsItem 9 = .ok (.iconst 0, 1) := by decide +kernel
theorem dX5_readsItem_10 : decode cX5_readsItem 10 = .ok (.iconst 0, 1) := by decide +kernel
theorem dX5_readsItem_11 : decode cX5_readsItem 11 = .ok (.invokevirtual 237, 3) := by decide +kernel
theorem dX5_readsItem_14 : decode cX5_readsItem 14 = .ok (.ifCond .eq 8, 3) := by decide +kernel
theorem dX5_readsItem_17 : decode cX5_readsItem 17 = .ok (.aload_n 0, 1) := by decide +kernel
theorem dX5_readsItem_18 : decode cX5_readsItem 18 = .ok (.invokevirtual 240, 3) := by decide +kernel
theorem dX5_readsItem_21 : decode cX5_readsItem 21 = .ok (.ireturn, 1) := by decide +kernel
theorem dX5_readsItem_22 : decode cX5_readsItem 22 = .ok (.aload_n 0, 1) := by decide +kernel
theorem dX5_readsItem_23 : decode cX5_readsItem 23 = .ok (.bipush 115, 2) := by decide +kernel
theorem dX5_readsItem_25 : decode cX5_readsItem 25 = .ok (.bipush 116, 2) := by decide +kernel
theorem dX5_readsItem_27 : decode cX5_readsItem 27 = .ok (.bipush 111, 2) := by decide +kernel
theorem dX5_readsItem_29 : decode cX5_readsItem 29 = .ok (.bipush 114, 2) := by decide +kernel
theorem dX5_readsItem_31 : decode cX5_readsItem 31 = .ok (.bipush 109, 2) := by decide +kernel
theorem dX5_readsItem_33 : decode cX5_readsItem 33 = .ok (.iconst 0, 1) := by decide +kernel
theorem dX5_readsItem_34 : decode cX5_readsItem 34 = .ok (.invokevirtual 237, 3) := by decide +kernel
theorem dX5_readsItem_37 : decode cX5_readsItem 37 = .ok (.ifCond .eq 8, 3) := by decide +kernel
theorem dX5_readsItem_40 : decode cX5_readsItem 40 = .ok (.aload_n 0, 1) := by decide +kernel
theorem dX5_readsItem_41 : decode cX5_readsItem 41 = .ok (.invokevirtual 244, 3) := by decide +kernel
theorem dX5_readsItem_44 : decode cX5_readsItem 44 = .ok (.ireturn, 1) := by decide +kernel
theorem dX5_readsItem_45 : decode cX5_readsItem 45 = .ok (.aload_n 0, 1) := by decide +kernel
theorem dX5_readsItem_46 : decode cX5_readsItem 46 = .ok (.bipush 99, 2) := by decide +kernel
theorem dX5_readsItem_48 : decode cX5_readsItem 48 = .ok (.bipush 97, 2) := by decide +kernel
theorem dX5_readsItem_50 : decode cX5_readsItem 50 = .ok (.bipush 110, 2) := by decide +kernel
theorem dX5_readsItem_52 : decode cX5_readsItem 52 = .ok (.bipush 110, 2) := by decide +kernel
theorem dX5_readsItem_54 : decode cX5_readsItem 54 = .ok (.bipush 111, 2) := by decide +kernel
theorem dX5_readsItem_56 : decode cX5_readsItem 56 = .ok (.bipush 110, 2) := by decide +kernel
theorem dX5_readsItem_58 : decode cX5_readsItem 58 = .ok (.invokevirtual 237, 3) := by decide +kernel
theorem dX5_readsItem_61 : decode cX5_readsItem 61 = .ok (.ifCond .eq 14, 3) := by decide +kernel
theorem dX5_readsItem_64 : decode cX5_readsItem 64 = .ok (.aload_n 0, 1) := by decide +kernel
theorem dX5_readsItem_65 : decode cX5_readsItem 65 = .ok (.invokevirtual 247, 3) := by decide +kernel
theorem dX5_readsItem_68 : decode cX5_readsItem 68 = .ok (.ifCond .eq 7, 3) := by decide +kernel
theorem dX5_readsItem_71 : decode cX5_readsItem 71 = .ok (.iconst 1, 1) := by decide +kernel
theorem dX5_readsItem_72 : decode cX5_readsItem 72 = .ok (.goto 4, 3) := by decide +kernel
theorem dX5_readsItem_75 : decode cX5_readsItem 75 = .ok (.iconst 0, 1) := by decide +kernel
theorem dX5_readsItem_76 : decode cX5_readsItem 76 = .ok (.ireturn, 1) := by decide +kernel
theorem dX5_read_0 : decode cX5_read 0 = .ok (.iconst 0, 1) := by decide +kernel
theorem dX5_read_1 : decode cX5_read 1 = .ok (.istore_n 1, 1) := by decide +kernel
theorem dX5_read_2 : decode cX5_read 2 = .ok (.iload_n 1, 1) := by decide +kernel
theorem dX5_read_3 : decode cX5_read 3 = .ok (.bipush 95, 2) := by decide +kernel
theorem dX5_read_5 : decode cX5_read 5 = .ok (.if_icmp .ge 16, 3) := by decide +kernel
theorem dX5_read_8 : decode cX5_read 8 = .ok (.aload_n 0, 1) := by decide +kernel
theorem dX5_read_9 : decode cX5_read 9 = .ok (.getfield 45, 3) := by decide +kernel
theorem dX5_read_12 : decode cX5_read 12 = .ok (.iload_n 1, 1) := by decide +kernel
theorem dX5_read_13 : decode cX5_read 13 = .ok (.iconst 0, 1) := by decide +kernel
theorem dX5_read_14 : decode cX5_read 14 = .ok (.iastore, 1) := by decide +kernel
theorem dX5_read_15 : decode cX5_read 15 = .ok (.iinc 1 1, 3) := by decide +kernel
theorem dX5_read_18 : decode cX5_read 18 = .ok (.goto (-16), 3) := by decide +kernel
theorem dX5_read_21 : decode cX5_read 21 = .ok (.iconst 0, 1) := by decide +kernel
theorem dX5_read_22 : decode cX5_read 22 = .ok (.istore_n 1, 1) := by decide +kernel
theorem dX5_read_23 : decode cX5_read 23 = .ok (.aload_n 0, 1) := by decide +kernel
theorem dX5_read_24 : decode cX5_read 24 = .ok (.iconst 0, 1) := by decide +kernel
theorem dX5_read_25 : decode cX5_read 25 = .ok (.invokevirtual 226, 3) := by decide +kernel
theorem dX5_read_28 : decode cX5_read 28 = .ok (.aload_n 0, 1) := by decide +kernel
theorem dX5_read_29 : decode cX5_read 29 = .ok (.getfield 214, 3) := by decide +kernel
theorem dX5_read_32 : decode cX5_read 32 = .ok (.ifCond .eq 36, 3) := by decide +kernel
theorem dX5_read_35 : decode cX5_read 35 = .ok (.aload_n 0, 1) := by decide +kernel
theorem dX5_read_36 : decode cX5_read 36 = .ok (.invokevirtual 250, 3) := by decide +kernel
theorem dX5_read_39 : decode cX5_read 39 = .ok (.ifCond .eq 11, 3) := by decide +kernel
theorem dX5_read_42 : decode cX5_read 42 = .ok (.aload_n 0, 1) := by decide +kernel
theorem dX5_read_43 : decode cX5_read 43 = .ok (.getfield 214, 3) := by decide +kernel
theorem dX5_read_46 : decode cX5_read 46 = .ok (.iconst 3, 1) := by decide +kernel
theorem dX5_read_47 : decode cX5_read 47 = .ok (.if_icmp .eq 11, 3) := by decide +kernel
theorem dX5_read_50 : decode cX5_read 50 = .ok (.bipush (-10), 2) := by decide +kernel
theorem dX5_read_52 : decode cX5_read 52 = .ok (.aload_n 0, 1) := by decide +kernel
theorem dX5_read_53 : decode cX5_read 53 = .ok (.getfield 208, 3) := by decide +kernel
theorem dX5_read_56 : decode cX5_read 56 = .ok (.isub, 1) := by decide +kernel
theorem dX5_read_57 : decode cX5_read 57 = .ok (.ireturn, 1) := by decide +kernel
theorem dX5_read_58 : decode cX5_read 58 = .ok (.aload_n 0, 1) := by decide +kernel
theorem dX5_read_59 : decode cX5_read 59 = .ok (.invokevirtual 230, 3) := by decide +kernel
theorem dX5_read_62 : decode cX5_read 62 = .ok (.iinc 1 1, 3) := by decide +kernel
theorem dX5_read_65 : decode cX5_read 65 = .ok (.goto (-37), 3) := by decide +kernel
theorem dX5_read_68 : decode cX5_read 68 = .ok (.iconst 0, 1) := by decide +kernel
theorem dX5_read_69 : decode cX5_read 69 = .ok (.istore_n 2, 1) := by decide +kernel
theorem dX5_read_70 : decode cX5_read 70 = .ok (.iload_n 2, 1) := by decide +kernel
theorem dX5_read_71 : decode cX5_read 71 = .ok (.bipush 95, 2) := by decide +kernel
theorem dX5_read_73 : decode cX5_read 73 = .ok (.if_icmp .ge 21, 3) := by decide +kernel
theorem dX5_read_76 : decode cX5_read 76 = .ok (.aload_n 0, 1) := by decide +kernel
theorem dX5_read_77 : decode cX5_read 77 = .ok (.getfield 7, 3) := by decide +kernel
theorem dX5_read_80 : decode cX5_read 80 = .ok (.iload_n 2, 1) := by decide +kernel
theorem dX5_read_81 : decode cX5_read 81 = .ok (.aload_n 0, 1) := by decide +kernel
theorem dX5_read_82 : decode cX5_read 82 = .ok (.getfield 45, 3) := by decide +kernel
theorem dX5_read_85 : decode cX5_read 85 = .ok (.iload_n 2, 1) := by decide +kernel
theorem dX5_read_86 : decode cX5_read 86 = .ok (.iaload, 1) := by decide +kernel
theorem dX5_read_87 : decode cX5_read 87 = .ok (.iastore, 1) := by decide +kernel
theorem dX5_read_88 : decode cX5_read 88 = .ok (.iinc 2 1, 3) := by decide +kernel
theorem dX5_read_91 : decode cX5_read 91 = .ok (.goto (-21), 3) := by decide +kernel
theorem dX5_read_94 : decode cX5_read 94 = .ok (.aload_n 0, 1) := by decide +kernel
theorem dX5_read_95 : decode cX5_read 95 = .ok (.getfield 7, 3) := by decide +kernel
theorem dX5_read_98 : decode cX5_read 98 = .ok (.bipush 95, 2) := by decide +kernel
theorem dX5_read_100 : decode cX5_read 100 = .ok (.iconst 0, 1) := by decide +kernel
theorem dX5_read_101 : decode cX5_read 101 = .ok (.iastore, 1) := by decide +kernel
theorem dX5_read_102 : decode cX5_read 102 = .ok (.aload_n 0, 1) := by decide +kernel
theorem dX5_read_103 : decode cX5_read 103 = .ok (.getfield 7, 3) := by decide +kernel
theorem dX5_read_106 : decode cX5_read 106 = .ok (.bipush 96, 2) := by decide +kernel
theorem dX5_read_108 : decode cX5_read 108 = .ok (.iconst 0, 1) := by decide +kernel
theorem dX5_read_109 : decode cX5_read 109 = .ok (.iastore, 1) := by decide +kernel
theorem dX5_read_110 : decode cX5_read 110 = .ok (.iload_n 1, 1) := by decide +kernel
theorem dX5_read_111 : decode cX5_read 111 = .ok (.ireturn, 1) := by decide +kernel
theorem dX5_part_0 : decode cX5_part 0 = .ok (.iload_n 1, 1) := by decide +kernel
theorem dX5_part_1 : decode cX5_part 1 = .ok (.ifCond .ne 10, 3) := by decide +kernel
theorem dX5_part_4 : decode cX5_part 4 = .ok (.aload_n 0, 1) := by decide +kernel
theorem dX5_part_5 : decode cX5_part 5 = .ok (.getfield 51, 3) := by decide +kernel
theorem dX5_part_8 : decode cX5_part 8 = .ok (.goto 23, 3) := by decide +kernel
theorem dX5_part_11 : decode cX5_part 11 = .ok (.iload_n 1, 1) := by decide +kernel
theorem dX5_part_12 : decode cX5_part 12 = .ok (.iconst 1, 1) := by decide +kernel
theorem dX5_part_13 : decode cX5_part 13 = .ok (.if_icmp .ne 10, 3) := by decide +kernel
theorem dX5_part_16 : decode cX5_part 16 = .ok (.aload_n 0, 1) := by decide +kernel
theorem dX5_part_17 : decode cX5_part 17 = .ok (.getfield 23, 3) := by decide +kernel
theorem dX5_part_20 : decode cX5_part 20 = .ok (.goto 11, 3) := by decide +kernel
theorem dX5_part_23 : decode cX5_part 23 = .ok (.aload_n 0, 1) := by decide +kernel
theorem dX5_part_24 : decode cX5_part 24 = .ok (.sipush (-1000), 3) := by decide +kernel
theorem dX5_part_27 : decode cX5_part 27 = .ok (.invokevirtual 73, 3) := by decide +kernel
theorem dX5_part_30 : decode cX5_part 30 = .ok (.i2l, 1) := by decide +kernel
theorem dX5_part_31 : decode cX5_part 31 = .ok (.lreturn, 1) := by decide +kernel
theorem dX5_image_0 : decode cX5_image 0 = .ok (.iload_n 1, 1) := by decide +kernel
theorem dX5_image_1 : decode cX5_image 1 = .ok (.i2l, 1) := by decide +kernel
theorem dX5_image_2 : decode cX5_image 2 = .ok (.lconst 0, 1) := by decide +kernel
theorem dX5_image_3 : decode cX5_image 3 = .ok (.lconst 1, 1) := by decide +kernel
theorem dX5_image_4 : decode cX5_image 4 = .ok (.invokestatic 58, 3) := by decide +kernel
theorem dX5_image_7 : decode cX5_image 7 = .ok (.ifCond .ne 10, 3) := by decide +kernel
theorem dX5_image_10 : decode cX5_image 10 = .ok (.aload_n 0, 1) := by decide +kernel
theorem dX5_image_11 : decode cX5_image 11 = .ok (.bipush (-2), 2) := by decide +kernel
theorem dX5_image_13 : decode cX5_image 13 = .ok (.invokevirtual 73, 3) := by decide +kernel
theorem dX5_image_16 : decode cX5_image 16 = .ok (.ireturn, 1) := by decide +kernel
theorem dX5_image_17 : decode cX5_image 17 = .ok (.iconst 0, 1) := by decide +kernel
theorem dX5_image_18 : decode cX5_image 18 = .ok (.istore_n 2, 1) := by decide +kernel
theorem dX5_image_19 : decode cX5_image 19 = .ok (.iload_n 2, 1) := by decide +kernel
theorem dX5_image_20 : decode cX5_image 20 = .ok (.sipush 382, 3) := by decide +kernel
theorem dX5_image_23 : decode cX5_image 23 = .ok (.if_icmp .ge 27, 3) := by decide +kernel
theorem dX5_image_26 : decode cX5_image 26 = .ok (.aload_n 0, 1) := by decide +kernel
theorem dX5_image_27 : decode cX5_image 27 = .ok (.getfield 13, 3) := by decide +kernel
theorem dX5_image_30 : decode cX5_image 30 = .ok (.sipush 382, 3) := by decide +kernel
theorem dX5_image_33 : decode cX5_image 33 = .ok (.iload_n 1, 1) := by decide +kernel
theorem dX5_image_34 : decode cX5_image 34 = .ok (.imul, 1) := by decide +kernel
theorem dX5_image_35 : decode cX5_image 35 = .ok (.iload_n 2, 1) := by decide +kernel
theorem dX5_image_36 : decode cX5_image 36 = .ok (.iadd, 1) := by decide +kernel
theorem dX5_image_37 : decode cX5_image 37 = .ok (.aload_n 0, 1) := by decide +kernel
theorem dX5_image_38 : decode cX5_image 38 = .ok (.getfield 7, 3) := by decide +kernel
theorem dX5_image_41 : decode cX5_image 41 = .ok (.iload_n 2, 1) := by decide +kernel
theorem dX5_image_42 : decode cX5_image 42 = .ok (.iaload, 1) := by decide +kernel
theorem dX5_image_43 : decode cX5_image 43 = .ok (.iastore, 1) := by decide +kernel
theorem dX5_image_44 : decode cX5_image 44 = .ok (.iinc 2 1, 3) := by decide +kernel
theorem dX5_image_47 : decode cX5_image 47 = .ok (.goto (-28), 3) := by decide +kernel
theorem dX5_image_50 : decode cX5_image 50 = .ok (.aload_n 0, 1) := by decide +kernel
theorem dX5_image_51 : decode cX5_image 51 = .ok (.getfield 16, 3) := by decide +kernel
theorem dX5_image_54 : decode cX5_image 54 = .ok (.iload_n 1, 1) := by decide +kernel
theorem dX5_image_55 : decode cX5_image 55 = .ok (.iconst 1, 1) := by decide +kernel
theorem dX5_image_56 : decode cX5_image 56 = .ok (.bastore, 1) := by decide +kernel
theorem dX5_image_57 : decode cX5_image 57 = .ok (.iconst 1, 1) := by decide +kernel
theorem dX5_image_58 : decode cX5_image 58 = .ok (.ireturn, 1) := by decide +kernel
theorem dX5_from_0 : decode cX5_from 0 = .ok (.iload_n 1, 1) := by decide +kernel
theorem dX5_from_1 : decode cX5_from 1 = .ok (.i2l, 1) := by decide +kernel
theorem dX5_from_2 : decode cX5_from 2 = .ok (.lconst 0, 1) := by decide +kernel
theorem dX5_from_3 : decode cX5_from 3 = .ok (.lconst 1, 1) := by decide +kernel
theorem dX5_from_4 : decode cX5_from 4 = .ok (.invokestatic 58, 3) := by decide +kernel
theorem dX5_from_7 : decode cX5_from 7 = .ok (.ifCond .ne 10, 3) := by decide +kernel
theorem dX5_from_10 : decode cX5_from 10 = .ok (.aload_n 0, 1) := by decide +kernel
theorem dX5_from_11 : decode cX5_from 11 = .ok (.bipush (-2), 2) := by decide +kernel
theorem dX5_from_13 : decode cX5_from 13 = .ok (.invokevirtual 73, 3) := by decide +kernel
theorem dX5_from_16 : decode cX5_from 16 = .ok (.ireturn, 1) := by decide +kernel
theorem dX5_from_17 : decode cX5_from 17 = .ok (.aload_n 0, 1) := by decide +kernel
theorem dX5_from_18 : decode cX5_from 18 = .ok (.getfield 16, 3) := by decide +kernel
theorem dX5_from_21 : decode cX5_from 21 = .ok (.iload_n 1, 1) := by decide +kernel
theorem dX5_from_22 : decode cX5_from 22 = .ok (.baload, 1) := by decide +kernel
theorem dX5_from_23 : decode cX5_from 23 = .ok (.ifCond .ne 10, 3) := by decide +kernel
theorem dX5_from_26 : decode cX5_from 26 = .ok (.aload_n 0, 1) := by decide +kernel
theorem dX5_from_27 : decode cX5_from 27 = .ok (.bipush (-3), 2) := by decide +kernel
theorem dX5_from_29 : decode cX5_from 29 = .ok (.invokevirtual 90, 3) := by decide +kernel
theorem dX5_from_32 : decode cX5_from 32 = .ok (.ireturn, 1) := by decide +kernel
theorem dX5_from_33 : decode cX5_from 33 = .ok (.iconst 0, 1) := by decide +kernel
theorem dX5_from_34 : decode cX5_from 34 = .ok (.istore_n 2, 1) := by decide +kernel
theorem dX5_from_35 : decode cX5_from 35 = .ok (.iload_n 2, 1) := by decide +kernel
theorem dX5_from_36 : decode cX5_from 36 = .ok (.sipush 382, 3) := by decide +kernel
theorem dX5_from_39 : decode cX5_from 39 = .ok (.if_icmp .ge 27, 3) := by decide +kernel
theorem dX5_from_42 : decode cX5_from 42 = .ok (.aload_n 0, 1) := by decide +kernel
theorem dX5_from_43 : decode cX5_from 43 = .ok (.getfield 7, 3) := by decide +kernel
theorem dX5_from_46 : decode cX5_from 46 = .ok (.iload_n 2, 1) := by decide +kernel
theorem dX5_from_47 : decode cX5_from 47 = .ok (.aload_n 0, 1) := by decide +kernel
theorem dX5_from_48 : decode cX5_from 48 = .ok (.getfield 13, 3) := by decide +kernel
theorem dX5_from_51 : decode cX5_from 51 = .ok (.sipush 382, 3) := by decide +kernel
theorem dX5_from_54 : decode cX5_from 54 = .ok (.iload_n 1, 1) := by decide +kernel
theorem dX5_from_55 : decode cX5_from 55 = .ok (.imul, 1) := by decide +kernel
theorem dX5_from_56 : decode cX5_from 56 = .ok (.iload_n 2, 1) := by decide +kernel
theorem dX5_from_57 : decode cX5_from 57 = .ok (.iadd, 1) := by decide +kernel
theorem dX5_from_58 : decode cX5_from 58 = .ok (.iaload, 1) := by decide +kernel
theorem dX5_from_59 : decode cX5_from 59 = .ok (.iastore, 1) := by decide +kernel
theorem dX5_from_60 : decode cX5_from 60 = .ok (.iinc 2 1, 3) := by decide +kernel
theorem dX5_from_63 : decode cX5_from 63 = .ok (.goto (-28), 3) := by decide +kernel
theorem dX5_from_66 : decode cX5_from 66 = .ok (.iconst 1, 1) := by decide +kernel
theorem dX5_from_67 : decode cX5_from 67 = .ok (.ireturn, 1) := by decide +kernel
theorem dX5_status_0 : decode cX5_status 0 = .ok (.iload_n 1, 1) := by decide +kernel
theorem dX5_status_1 : decode cX5_status 1 = .ok (.i2l, 1) := by decide +kernel
theorem dX5_status_2 : decode cX5_status 2 = .ok (.lconst 0, 1) := by decide +kernel
theorem dX5_status_3 : decode cX5_status 3 = .ok (.ldc2_w 130, 3) := by decide +kernel
theorem dX5_status_6 : decode cX5_status 6 = .ok (.invokestatic 58, 3) := by decide +kernel
theorem dX5_status_9 : decode cX5_status 9 = .ok (.ifCond .eq 12, 3) := by decide +kernel
theorem dX5_status_12 : decode cX5_status 12 = .ok (.aload_n 0, 1) := by decide +kernel
theorem dX5_status_13 : decode cX5_status 13 = .ok (.getfield 20, 3) := by decide +kernel
theorem dX5_status_16 : decode cX5_status 16 = .ok (.iload_n 1, 1) := by decide +kernel
theorem dX5_status_17 : decode cX5_status 17 = .ok (.iaload, 1) := by decide +kernel
theorem dX5_status_18 : decode cX5_status 18 = .ok (.goto 8, 3) := by decide +kernel
theorem dX5_status_21 : decode cX5_status 21 = .ok (.aload_n 0, 1) := by decide +kernel
theorem dX5_status_22 : decode cX5_status 22 = .ok (.iconst (-1), 1) := by decide +kernel
theorem dX5_status_23 : decode cX5_status 23 = .ok (.invokevirtual 73, 3) := by decide +kernel
theorem dX5_status_26 : decode cX5_status 26 = .ok (.ireturn, 1) := by decide +kernel
theorem dX5_cannons_0 : decode cX5_cannons 0 = .ok (.iconst 0, 1) := by decide +kernel
theorem dX5_cannons_1 : decode cX5_cannons 1 = .ok (.istore_n 1, 1) := by decide +kernel
theorem dX5_cannons_2 : decode cX5_cannons 2 = .ok (.iconst 0, 1) := by decide +kernel
theorem dX5_cannons_3 : decode cX5_cannons 3 = .ok (.istore_n 2, 1) := by decide +kernel
theorem dX5_cannons_4 : decode cX5_cannons 4 = .ok (.iload_n 2, 1) := by decide +kernel
theorem dX5_cannons_5 : decode cX5_cannons 5 = .ok (.bipush 7, 2) := by decide +kernel
theorem dX5_cannons_7 : decode cX5_cannons 7 = .ok (.if_icmp .ge 21, 3) := by decide +kernel
theorem dX5_cannons_10 : decode cX5_cannons 10 = .ok (.iload_n 1, 1) := by decide +kernel
theorem dX5_cannons_11 : decode cX5_cannons 11 = .ok (.aload_n 0, 1) := by decide +kernel
theorem dX5_cannons_12 : decode cX5_cannons 12 = .ok (.getfield 7, 3) := by decide +kernel
theorem dX5_cannons_15 : decode cX5_cannons 15 = .ok (.bipush 86, 2) := by decide +kernel
theorem dX5_cannons_17 : decode cX5_cannons 17 = .ok (.iload_n 2, 1) := by decide +kernel
theorem dX5_cannons_18 : decode cX5_cannons 18 = .ok (.iadd, 1) := by decide +kernel
theorem dX5_cannons_19 : decode cX5_cannons 19 = .ok (.iaload, 1) := by decide +kernel
theorem dX5_cannons_20 : decode cX5_cannons 20 = .ok (.iadd, 1) := by decide +kernel
theorem dX5_cannons_21 : decode cX5_cannons 21 = .ok (.istore_n 1, 1) := by decide +kernel
theorem dX5_cannons_22 : decode cX5_cannons 22 = .ok (.iinc 2 1, 3) := by decide +kernel
theorem dX5_cannons_25 : decode cX5_cannons 25 = .ok (.goto (-21), 3) := by decide +kernel
theorem dX5_cannons_28 : decode cX5_cannons 28 = .ok (.iload_n 1, 1) := by decide +kernel
theorem dX5_cannons_29 : decode cX5_cannons 29 = .ok (.ireturn, 1) := by decide +kernel
theorem dX5_counted_0 : decode cX5_counted 0 = .ok (.iload_n 1, 1) := by decide +kernel
theorem dX5_counted_1 : decode cX5_counted 1 = .ok (.ifCond .ne 10, 3) := by decide +kernel
theorem dX5_counted_4 : decode cX5_counted 4 = .ok (.aload_n 0, 1) := by decide +kernel
theorem dX5_counted_5 : decode cX5_counted 5 = .ok (.invokevirtual 54, 3) := by decide +kernel
theorem dX5_counted_8 : decode cX5_counted 8 = .ok (.goto 61, 3) := by decide +kernel
theorem dX5_counted_11 : decode cX5_counted 11 = .ok (.iload_n 1, 1) := by decide +kernel
theorem dX5_counted_12 : decode cX5_counted 12 = .ok (.iconst 1, 1) := by decide +kernel
theorem dX5_counted_13 : decode cX5_counted 13 = .ok (.if_icmp .ne 10, 3) := by decide +kernel
theorem dX5_counted_16 : decode cX5_counted 16 = .ok (.aload_n 0, 1) := by decide +kernel
theorem dX5_counted_17 : decode cX5_counted 17 = .ok (.invokevirtual 62, 3) := by decide +kernel
theorem dX5_counted_20 : decode cX5_counted 20 = .ok (.goto 49, 3) := by decide +kernel
theorem dX5_counted_23 : decode cX5_counted 23 = .ok (.iload_n 1, 1) := by decide +kernel
theorem dX5_counted_24 : decode cX5_counted 24 = .ok (.iconst 2, 1) := by decide +kernel
theorem dX5_counted_25 : decode cX5_counted 25 = .ok (.if_icmp .ne 10, 3) := by decide +kernel
theorem dX5_counted_28 : decode cX5_counted 28 = .ok (.aload_n 0, 1) := by decide +kernel
theorem dX5_counted_29 : decode cX5_counted 29 = .ok (.invokevirtual 253, 3) := by decide +kernel
theorem dX5_counted_32 : decode cX5_counted 32 = .ok (.goto 37, 3) := by decide +kernel
theorem dX5_counted_35 : decode cX5_counted 35 = .ok (.iload_n 1, 1) := by decide +kernel
theorem dX5_counted_36 : decode cX5_counted 36 = .ok (.iconst 3, 1) := by decide +kernel
theorem dX5_counted_37 : decode cX5_counted 37 = .ok (.if_icmp .ne 13, 3) := by decide +kernel
theorem dX5_counted_40 : decode cX5_counted 40 = .ok (.aload_n 0, 1) := by decide +kernel
theorem dX5_counted_41 : decode cX5_counted 41 = .ok (.getfield 7, 3) := by decide +kernel
theorem dX5_counted_44 : decode cX5_counted 44 = .ok (.bipush 95, 2) := by decide +kernel
theorem dX5_counted_46 : decode cX5_counted 46 = .ok (.iaload, 1) := by decide +kernel
theorem dX5_counted_47 : decode cX5_counted 47 = .ok (.goto 22, 3) := by decide +kernel
theorem dX5_counted_50 : decode cX5_counted 50 = .ok (.iload_n 1, 1) := by decide +kernel
theorem dX5_counted_51 : decode cX5_counted 51 = .ok (.iconst 4, 1) := by decide +kernel
theorem dX5_counted_52 : decode cX5_counted 52 = .ok (.if_icmp .ne 13, 3) := by decide +kernel
theorem dX5_counted_55 : decode cX5_counted 55 = .ok (.aload_n 0, 1) := by decide +kernel
theorem dX5_counted_56 : decode cX5_counted 56 = .ok (.getfield 7, 3) := by decide +kernel
theorem dX5_counted_59 : decode cX5_counted 59 = .ok (.bipush 96, 2) := by decide +kernel
theorem dX5_counted_61 : decode cX5_counted 61 = .ok (.iaload, 1) := by decide +kernel
theorem dX5_counted_62 : decode cX5_counted 62 = .ok (.goto 7, 3) := by decide +kernel
theorem dX5_counted_65 : decode cX5_counted 65 = .ok (.aload_n 0, 1) := by decide +kernel
theorem dX5_counted_66 : decode cX5_counted 66 = .ok (.getfield 195, 3) := by decide +kernel
theorem dX5_counted_69 : decode cX5_counted 69 = .ok (.ireturn, 1) := by decide +kernel
theorem dX5_count_0 : decode cX5_count 0 = .ok (.iload_n 1, 1) := by decide +kernel
theorem dX5_count_1 : decode cX5_count 1 = .ok (.i2l, 1) := by decide +kernel
theorem dX5_count_2 : decode cX5_count 2 = .ok (.lconst 0, 1) := by decide +kernel
theorem dX5_count_3 : decode cX5_count 3 = .ok (.ldc2_w 65, 3) := by decide +kernel
theorem dX5_count_6 : decode cX5_count 6 = .ok (.invokestatic 58, 3) := by decide +kernel
theorem dX5_count_9 : decode cX5_count 9 = .ok (.ifCond .eq 11, 3) := by decide +kernel
theorem dX5_count_12 : decode cX5_count 12 = .ok (.aload_n 0, 1) := by decide +kernel
theorem dX5_count_13 : decode cX5_count 13 = .ok (.iload_n 1, 1) := by decide +kernel
theorem dX5_count_14 : decode cX5_count 14 = .ok (.invokevirtual 256, 3) := by decide +kernel
theorem dX5_count_17 : decode cX5_count 17 = .ok (.goto 9, 3) := by decide +kernel
theorem dX5_count_20 : decode cX5_count 20 = .ok (.aload_n 0, 1) := by decide +kernel
theorem dX5_count_21 : decode cX5_count 21 = .ok (.bipush (-2), 2) := by decide +kernel
theorem dX5_count_23 : decode cX5_count 23 = .ok (.invokevirtual 73, 3) := by decide +kernel
theorem dX5_count_26 : decode cX5_count 26 = .ok (.ireturn, 1) := by decide +kernel
theorem dX5_sums_0 : decode cX5_sums 0 = .ok (.lload_n 1, 1) := by decide +kernel
theorem dX5_sums_1 : decode cX5_sums 1 = .ok (.lstore 5, 2) := by decide +kernel
theorem dX5_sums_3 : decode cX5_sums 3 = .ok (.iconst 0, 1) := by decide +kernel
theorem dX5_sums_4 : decode cX5_sums 4 = .ok (.istore 7, 2) := by decide +kernel
theorem dX5_sums_6 : decode cX5_sums 6 = .ok (.iload 7, 2) := by decide +kernel
theorem dX5_sums_8 : decode cX5_sums 8 = .ok (.iload 4, 2) := by decide +kernel
theorem dX5_sums_10 : decode cX5_sums 10 = .ok (.if_icmp .ge 28, 3) := by decide +kernel
theorem dX5_sums_13 : decode cX5_sums 13 = .ok (.ldc2_w 259, 3) := by decide +kernel
theorem dX5_sums_16 : decode cX5_sums 16 = .ok (.lload 5, 2) := by decide +kernel
theorem dX5_sums_18 : decode cX5_sums 18 = .ok (.lmul, 1) := by decide +kernel
theorem dX5_sums_19 : decode cX5_sums 19 = .ok (.aload_n 0, 1) := by decide +kernel
theorem dX5_sums_20 : decode cX5_sums 20 = .ok (.getfield 7, 3) := by decide +kernel
theorem dX5_sums_23 : decode cX5_sums 23 = .ok (.iload_n 3, 1) := by decide +kernel
theorem dX5_sums_24 : decode cX5_sums 24 = .ok (.iload 7, 2) := by decide +kernel
theorem dX5_sums_26 : decode cX5_sums 26 = .ok (.iadd, 1) := by decide +kernel
theorem dX5_sums_27 : decode cX5_sums 27 = .ok (.iaload, 1) := by decide +kernel
theorem dX5_sums_28 : decode cX5_sums 28 = .ok (.i2l, 1) := by decide +kernel
theorem dX5_sums_29 : decode cX5_sums 29 = .ok (.ladd, 1) := by decide +kernel
theorem dX5_sums_30 : decode cX5_sums 30 = .ok (.lstore 5, 2) := by decide +kernel
theorem dX5_sums_32 : decode cX5_sums 32 = .ok (.iinc 7 1, 3) := by decide +kernel
theorem dX5_sums_35 : decode cX5_sums 35 = .ok (.goto (-29), 3) := by decide +kernel
theorem dX5_sums_38 : decode cX5_sums 38 = .ok (.lload 5, 2) := by decide +kernel
theorem dX5_sums_40 : decode cX5_sums 40 = .ok (.lreturn, 1) := by decide +kernel
theorem dX5_digest_0 : decode cX5_digest 0 = .ok (.ldc2_w 261, 3) := by decide +kernel
theorem dX5_digest_3 : decode cX5_digest 3 = .ok (.lstore_n 1, 1) := by decide +kernel
theorem dX5_digest_4 : decode cX5_digest 4 = .ok (.iconst 0, 1) := by decide +kernel
theorem dX5_digest_5 : decode cX5_digest 5 = .ok (.istore_n 3, 1) := by decide +kernel
theorem dX5_digest_6 : decode cX5_digest 6 = .ok (.iload_n 3, 1) := by decide +kernel
theorem dX5_digest_7 : decode cX5_digest 7 = .ok (.bipush 6, 2) := by decide +kernel
theorem dX5_digest_9 : decode cX5_digest 9 = .ok (.if_icmp .ge 22, 3) := by decide +kernel
theorem dX5_digest_12 : decode cX5_digest 12 = .ok (.ldc2_w 259, 3) := by decide +kernel
theorem dX5_digest_15 : decode cX5_digest 15 = .ok (.lload_n 1, 1) := by decide +kernel
theorem dX5_digest_16 : decode cX5_digest 16 = .ok (.lmul, 1) := by decide +kernel
theorem dX5_digest_17 : decode cX5_digest 17 = .ok (.aload_n 0, 1) := by decide +kernel
theorem dX5_digest_18 : decode cX5_digest 18 = .ok (.iload_n 3, 1) := by decide +kernel
theorem dX5_digest_19 : decode cX5_digest 19 = .ok (.invokevirtual 256, 3) := by decide +kernel
theorem dX5_digest_22 : decode cX5_digest 22 = .ok (.i2l, 1) := by decide +kernel
theorem dX5_digest_23 : decode cX5_digest 23 = .ok (.ladd, 1) := by decide +kernel
theorem dX5_digest_24 : decode cX5_digest 24 = .ok (.lstore_n 1, 1) := by decide +kernel
theorem dX5_digest_25 : decode cX5_digest 25 = .ok (.iinc 3 1, 3) := by decide +kernel
theorem dX5_digest_28 : decode cX5_digest 28 = .ok (.goto (-22), 3) := by decide +kernel
theorem dX5_digest_31 : decode cX5_digest 31 = .ok (.aload_n 0, 1) := by decide +kernel
theorem dX5_digest_32 : decode cX5_digest 32 = .ok (.lload_n 1, 1) := by decide +kernel
theorem dX5_digest_33 : decode cX5_digest 33 = .ok (.iconst 0, 1) := by decide +kernel
theorem dX5_digest_34 : decode cX5_digest 34 = .ok (.bipush 8, 2) := by decide +kernel
theorem dX5_digest_36 : decode cX5_digest 36 = .ok (.aload_n 0, 1) := by decide +kernel
theorem dX5_digest_37 : decode cX5_digest 37 = .ok (.invokevirtual 54, 3) := by decide +kernel
theorem dX5_digest_40 : decode cX5_digest 40 = .ok (.imul, 1) := by decide +kernel
theorem dX5_digest_41 : decode cX5_digest 41 = .ok (.invokevirtual 263, 3) := by decide +kernel
theorem dX5_digest_44 : decode cX5_digest 44 = .ok (.lstore_n 1, 1) := by decide +kernel
theorem dX5_digest_45 : decode cX5_digest 45 = .ok (.aload_n 0, 1) := by decide +kernel
theorem dX5_digest_46 : decode cX5_digest 46 = .ok (.lload_n 1, 1) := by decide +kernel
theorem dX5_digest_47 : decode cX5_digest 47 = .ok (.bipush 56, 2) := by decide +kernel
theorem dX5_digest_49 : decode cX5_digest 49 = .ok (.iconst 5, 1) := by decide +kernel
theorem dX5_digest_50 : decode cX5_digest 50 = .ok (.aload_n 0, 1) := by decide +kernel
theorem dX5_digest_51 : decode cX5_digest 51 = .ok (.invokevirtual 62, 3) := by decide +kernel
theorem dX5_digest_54 : decode cX5_digest 54 = .ok (.imul, 1) := by decide +kernel
theorem dX5_digest_55 : decode cX5_digest 55 = .ok (.invokevirtual 263, 3) := by decide +kernel
theorem dX5_digest_58 : decode cX5_digest 58 = .ok (.lstore_n 1, 1) := by decide +kernel
theorem dX5_digest_59 : decode cX5_digest 59 = .ok (.aload_n 0, 1) := by decide +kernel
theorem dX5_digest_60 : decode cX5_digest 60 = .ok (.lload_n 1, 1) := by decide +kernel
theorem dX5_digest_61 : decode cX5_digest 61 = .ok (.bipush 86, 2) := by decide +kernel
theorem dX5_digest_63 : decode cX5_digest 63 = .ok (.bipush 7, 2) := by decide +kernel
theorem dX5_digest_65 : decode cX5_digest 65 = .ok (.invokevirtual 263, 3) := by decide +kernel
theorem dX5_digest_68 : decode cX5_digest 68 = .ok (.lstore_n 1, 1) := by decide +kernel
theorem dX5_digest_69 : decode cX5_digest 69 = .ok (.ldc2_w 259, 3) := by decide +kernel
theorem dX5_digest_72 : decode cX5_digest 72 = .ok (.ldc2_w 259, 3) := by decide +kernel
theorem dX5_digest_75 : decode cX5_digest 75 = .ok (.lload_n 1, 1) := by decide +kernel
theorem dX5_digest_76 : decode cX5_digest 76 = .ok (.lmul, 1) := by decide +kernel
theorem dX5_digest_77 : decode cX5_digest 77 = .ok (.aload_n 0, 1) := by decide +kernel
theorem dX5_digest_78 : decode cX5_digest 78 = .ok (.getfield 51, 3) := by decide +kernel
theorem dX5_digest_81 : decode cX5_digest 81 = .ok (.ladd, 1) := by decide +kernel
theorem dX5_digest_82 : decode cX5_digest 82 = .ok (.lmul, 1) := by decide +kernel
theorem dX5_digest_83 : decode cX5_digest 83 = .ok (.aload_n 0, 1) := by decide +kernel
theorem dX5_digest_84 : decode cX5_digest 84 = .ok (.getfield 23, 3) := by decide +kernel
theorem dX5_digest_87 : decode cX5_digest 87 = .ok (.ladd, 1) := by decide +kernel
theorem dX5_digest_88 : decode cX5_digest 88 = .ok (.lreturn, 1) := by decide +kernel
theorem dJ9_abs_067f4_0 : decode cJ9_abs_067f4 0 = .ok (.lload_n 0, 1) := by decide +kernel
theorem dJ9_abs_067f4_1 : decode cJ9_abs_067f4 1 = .ok (.lconst 0, 1) := by decide +kernel
theorem dJ9_abs_067f4_2 : decode cJ9_abs_067f4 2 = .ok (.lcmp, 1) := by decide +kernel
theorem dJ9_abs_067f4_3 : decode cJ9_abs_067f4 3 = .ok (.ifCond .ge 8, 3) := by decide +kernel
theorem dJ9_abs_067f4_6 : decode cJ9_abs_067f4 6 = .ok (.lload_n 0, 1) := by decide +kernel
theorem dJ9_abs_067f4_7 : decode cJ9_abs_067f4 7 = .ok (.lneg, 1) := by decide +kernel
theorem dJ9_abs_067f4_8 : decode cJ9_abs_067f4 8 = .ok (.goto 4, 3) := by decide +kernel
theorem dJ9_abs_067f4_11 : decode cJ9_abs_067f4 11 = .ok (.lload_n 0, 1) := by decide +kernel
theorem dJ9_abs_067f4_12 : decode cJ9_abs_067f4 12 = .ok (.lreturn, 1) := by decide +kernel
theorem dJ9_max_7cf53_0 : decode cJ9_max_7cf53 0 = .ok (.iload_n 0, 1) := by decide +kernel
theorem dJ9_max_7cf53_1 : decode cJ9_max_7cf53 1 = .ok (.iload_n 1, 1) := by decide +kernel
theorem dJ9_max_7cf53_2 : decode cJ9_max_7cf53 2 = .ok (.if_icmp .lt 7, 3) := by decide +kernel
theorem dJ9_max_7cf53_5 : decode cJ9_max_7cf53 5 = .ok (.iload_n 0, 1) := by decide +kernel
theorem dJ9_max_7cf53_6 : decode cJ9_max_7cf53 6 = .ok (.goto 4, 3) := by decide +kernel
theorem dJ9_max_7cf53_9 : decode cJ9_max_7cf53 9 = .ok (.iload_n 1, 1) := by decide +kernel
theorem dJ9_max_7cf53_10 : decode cJ9_max_7cf53 10 = .ok (.ireturn, 1) := by decide +kernel
theorem dJ9_min_7cf53_0 : decode cJ9_min_7cf53 0 = .ok (.iload_n 0, 1) := by decide +kernel
theorem dJ9_min_7cf53_1 : decode cJ9_min_7cf53 1 = .ok (.iload_n 1, 1) := by decide +kernel
theorem dJ9_min_7cf53_2 : decode cJ9_min_7cf53 2 = .ok (.if_icmp .gt 7, 3) := by decide +kernel
theorem dJ9_min_7cf53_5 : decode cJ9_min_7cf53 5 = .ok (.iload_n 0, 1) := by decide +kernel
theorem dJ9_min_7cf53_6 : decode cJ9_min_7cf53 6 = .ok (.goto 4, 3) := by decide +kernel
theorem dJ9_min_7cf53_9 : decode cJ9_min_7cf53 9 = .ok (.iload_n 1, 1) := by decide +kernel
theorem dJ9_min_7cf53_10 : decode cJ9_min_7cf53 10 = .ok (.ireturn, 1) := by decide +kernel
theorem dJ0_length_8abf5_0 : decode cJ0_length_8abf5 0 = .ok (.aload_n 0, 1) := by decide +kernel
theorem dJ0_length_8abf5_1 : decode cJ0_length_8abf5 1 = .ok (.getfield 9, 3) := by decide +kernel
theorem dJ0_length_8abf5_4 : decode cJ0_length_8abf5 4 = .ok (.arraylength, 1) := by decide +kernel
theorem dJ0_length_8abf5_5 : decode cJ0_length_8abf5 5 = .ok (.aload_n 0, 1) := by decide +kernel
theorem dJ0_length_8abf5_6 : decode cJ0_length_8abf5 6 = .ok (.invokevirtual 335, 3) := by decide +kernel
theorem dJ0_length_8abf5_9 : decode cJ0_length_8abf5 9 = .ok (.ishr, 1) := by decide +kernel
theorem dJ0_length_8abf5_10 : decode cJ0_length_8abf5 10 = .ok (.ireturn, 1) := by decide +kernel
theorem dJ0_charAt_5068e_0 : decode cJ0_charAt_5068e 0 = .ok (.aload_n 0, 1) := by decide +kernel
theorem dJ0_charAt_5068e_1 : decode cJ0_charAt_5068e 1 = .ok (.invokevirtual 492, 3) := by decide +kernel
theorem dJ0_charAt_5068e_4 : decode cJ0_charAt_5068e 4 = .ok (.ifCond .eq 12, 3) := by decide +kernel
theorem dJ0_charAt_5068e_7 : decode cJ0_charAt_5068e 7 = .ok (.aload_n 0, 1) := by decide +kernel
theorem dJ0_charAt_5068e_8 : decode cJ0_charAt_5068e 8 = .ok (.getfield 9, 3) := by decide +kernel
theorem dJ0_charAt_5068e_11 : decode cJ0_charAt_5068e 11 = .ok (.iload_n 1, 1) := by decide +kernel
theorem dJ0_charAt_5068e_12 : decode cJ0_charAt_5068e 12 = .ok (.invokestatic 495, 3) := by decide +kernel
theorem dJ0_charAt_5068e_15 : decode cJ0_charAt_5068e 15 = .ok (.ireturn, 1) := by decide +kernel
theorem dJ0_charAt_5068e_16 : decode cJ0_charAt_5068e 16 = .ok (.aload_n 0, 1) := by decide +kernel
theorem dJ0_charAt_5068e_17 : decode cJ0_charAt_5068e 17 = .ok (.getfield 9, 3) := by decide +kernel
theorem dJ0_charAt_5068e_20 : decode cJ0_charAt_5068e 20 = .ok (.iload_n 1, 1) := by decide +kernel
theorem dJ0_charAt_5068e_21 : decode cJ0_charAt_5068e 21 = .ok (.invokestatic 498, 3) := by decide +kernel
theorem dJ0_charAt_5068e_24 : decode cJ0_charAt_5068e 24 = .ok (.ireturn, 1) := by decide +kernel
theorem dJ0_coder_7d493_0 : decode cJ0_coder_7d493 0 = .ok (.getstatic 38, 3) := by decide +kernel
theorem dJ0_coder_7d493_3 : decode cJ0_coder_7d493 3 = .ok (.ifCond .eq 10, 3) := by decide +kernel
theorem dJ0_coder_7d493_6 : decode cJ0_coder_7d493 6 = .ok (.aload_n 0, 1) := by decide +kernel
theorem dJ0_coder_7d493_7 : decode cJ0_coder_7d493 7 = .ok (.getfield 15, 3) := by decide +kernel
theorem dJ0_coder_7d493_10 : decode cJ0_coder_7d493 10 = .ok (.goto 4, 3) := by decide +kernel
theorem dJ0_coder_7d493_13 : decode cJ0_coder_7d493 13 = .ok (.iconst 1, 1) := by decide +kernel
theorem dJ0_coder_7d493_14 : decode cJ0_coder_7d493 14 = .ok (.ireturn, 1) := by decide +kernel
theorem dJ0_isLatin1_aae02_0 : decode cJ0_isLatin1_aae02 0 = .ok (.getstatic 38, 3) := by decide +kernel
theorem dJ0_isLatin1_aae02_3 : decode cJ0_isLatin1_aae02 3 = .ok (.ifCond .eq 14, 3) := by decide +kernel
theorem dJ0_isLatin1_aae02_6 : decode cJ0_isLatin1_aae02 6 = .ok (.aload_n 0, 1) := by decide +kernel
theorem dJ0_isLatin1_aae02_7 : decode cJ0_isLatin1_aae02 7 = .ok (.getfield 15, 3) := by decide +kernel
theorem dJ0_isLatin1_aae02_10 : decode cJ0_isLatin1_aae02 10 = .ok (.ifCond .ne 7, 3) := by decide +kernel
theorem dJ0_isLatin1_aae02_13 : decode cJ0_isLatin1_aae02 13 = .ok (.iconst 1, 1) := by decide +kernel
theorem dJ0_isLatin1_aae02_14 : decode cJ0_isLatin1_aae02 14 = .ok (.goto 4, 3) := by decide +kernel
theorem dJ0_isLatin1_aae02_17 : decode cJ0_isLatin1_aae02 17 = .ok (.iconst 0, 1) := by decide +kernel
theorem dJ0_isLatin1_aae02_18 : decode cJ0_isLatin1_aae02 18 = .ok (.ireturn, 1) := by decide +kernel
theorem dJ0_checkIndex_df160_0 : decode cJ0_checkIndex_df160 0 = .ok (.iload_n 0, 1) := by decide +kernel
theorem dJ0_checkIndex_df160_1 : decode cJ0_checkIndex_df160 1 = .ok (.iload_n 1, 1) := by decide +kernel
theorem dJ0_checkIndex_df160_2 : decode cJ0_checkIndex_df160 2 = .ok (.getstatic 1053, 3) := by decide +kernel
theorem dJ0_checkIndex_df160_5 : decode cJ0_checkIndex_df160 5 = .ok (.invokestatic 1059, 3) := by decide +kernel
theorem dJ0_checkIndex_df160_8 : decode cJ0_checkIndex_df160 8 = .ok (.pop, 1) := by decide +kernel
theorem dJ0_checkIndex_df160_9 : decode cJ0_checkIndex_df160 9 = .ok (.return_, 1) := by decide +kernel
theorem dJ1_charAt_3b067_0 : decode cJ1_charAt_3b067 0 = .ok (.iload_n 1, 1) := by decide +kernel
theorem dJ1_charAt_3b067_1 : decode cJ1_charAt_3b067 1 = .ok (.aload_n 0, 1) := by decide +kernel
theorem dJ1_charAt_3b067_2 : decode cJ1_charAt_3b067 2 = .ok (.arraylength, 1) := by decide +kernel
theorem dJ1_charAt_3b067_3 : decode cJ1_charAt_3b067 3 = .ok (.invokestatic 9, 3) := by decide +kernel
theorem dJ1_charAt_3b067_6 : decode cJ1_charAt_3b067 6 = .ok (.aload_n 0, 1) := by decide +kernel
theorem dJ1_charAt_3b067_7 : decode cJ1_charAt_3b067 7 = .ok (.iload_n 1, 1) := by decide +kernel
theorem dJ1_charAt_3b067_8 : decode cJ1_charAt_3b067 8 = .ok (.baload, 1) := by decide +kernel
theorem dJ1_charAt_3b067_9 : decode cJ1_charAt_3b067 9 = .ok (.sipush 255, 3) := by decide +kernel
theorem dJ1_charAt_3b067_12 : decode cJ1_charAt_3b067 12 = .ok (.iand, 1) := by decide +kernel
theorem dJ1_charAt_3b067_13 : decode cJ1_charAt_3b067 13 = .ok (.i2c, 1) := by decide +kernel
theorem dJ1_charAt_3b067_14 : decode cJ1_charAt_3b067 14 = .ok (.ireturn, 1) := by decide +kernel
theorem dJ2_getChar_3b067_0 : decode cJ2_getChar_3b067 0 = .ok (.getstatic 44, 3) := by decide +kernel
theorem dJ2_getChar_3b067_3 : decode cJ2_getChar_3b067 3 = .ok (.ifCond .ne 25, 3) := by decide +kernel
theorem dJ2_getChar_3b067_6 : decode cJ2_getChar_3b067 6 = .ok (.iload_n 1, 1) := by decide +kernel
theorem dJ2_getChar_3b067_7 : decode cJ2_getChar_3b067 7 = .ok (.ifCond .lt 11, 3) := by decide +kernel
theorem dJ2_getChar_3b067_10 : decode cJ2_getChar_3b067 10 = .ok (.iload_n 1, 1) := by decide +kernel
theorem dJ2_getChar_3b067_11 : decode cJ2_getChar_3b067 11 = .ok (.aload_n 0, 1) := by decide +kernel
theorem dJ2_getChar_3b067_12 : decode cJ2_getChar_3b067 12 = .ok (.invokestatic 48, 3) := by decide +kernel
theorem dJ2_getChar_3b067_15 : decode cJ2_getChar_3b067 15 = .ok (.if_icmp .lt 13, 3) := by decide +kernel
theorem dJ2_getChar_3b067_18 : decode cJ2_getChar_3b067 18 = .ok (.new 52, 3) := by decide +kernel
theorem dJ2_getChar_3b067_21 : decode cJ2_getChar_3b067 21 = .ok (.dup, 1) := by decide +kernel
theorem dJ2_getChar_3b067_22 : decode cJ2_getChar_3b067 22 = .ok (.ldc 54, 2) := by decide +kernel
theorem dJ2_getChar_3b067_24 : decode cJ2_getChar_3b067 24 = .ok (.invokespecial 56, 3) := by decide +kernel
theorem dJ2_getChar_3b067_27 : decode cJ2_getChar_3b067 27 = .ok (.athrow, 1) := by decide +kernel
theorem dJ2_getChar_3b067_28 : decode cJ2_getChar_3b067 28 = .ok (.iload_n 1, 1) := by decide +kernel
theorem dJ2_getChar_3b067_29 : decode cJ2_getChar_3b067 29 = .ok (.iconst 1, 1) := by decide +kernel
theorem dJ2_getChar_3b067_30 : decode cJ2_getChar_3b067 30 = .ok (.ishl, 1) := by decide +kernel
theorem dJ2_getChar_3b067_31 : decode cJ2_getChar_3b067 31 = .ok (.istore_n 1, 1) := by decide +kernel
theorem dJ2_getChar_3b067_32 : decode cJ2_getChar_3b067 32 = .ok (.aload_n 0, 1) := by decide +kernel
theorem dJ2_getChar_3b067_33 : decode cJ2_getChar_3b067 33 = .ok (.iload_n 1, 1) := by decide +kernel
theorem dJ2_getChar_3b067_34 : decode cJ2_getChar_3b067 34 = .ok (.iinc 1 1, 3) := by decide +kernel
theorem dJ2_getChar_3b067_37 : decode cJ2_getChar_3b067 37 = .ok (.baload, 1) := by decide +kernel
theorem dJ2_getChar_3b067_38 : decode cJ2_getChar_3b067 38 = .ok (.sipush 255, 3) := by decide +kernel
theorem dJ2_getChar_3b067_41 : decode cJ2_getChar_3b067 41 = .ok (.iand, 1) := by decide +kernel
theorem dJ2_getChar_3b067_42 : decode cJ2_getChar_3b067 42 = .ok (.getstatic 59, 3) := by decide +kernel
theorem dJ2_getChar_3b067_45 : decode cJ2_getChar_3b067 45 = .ok (.ishl, 1) := by decide +kernel
theorem dJ2_getChar_3b067_46 : decode cJ2_getChar_3b067 46 = .ok (.aload_n 0, 1) := by decide +kernel
theorem dJ2_getChar_3b067_47 : decode cJ2_getChar_3b067 47 = .ok (.iload_n 1, 1) := by decide +kernel
theorem dJ2_getChar_3b067_48 : decode cJ2_getChar_3b067 48 = .ok (.baload, 1) := by decide +kernel
theorem dJ2_getChar_3b067_49 : decode cJ2_getChar_3b067 49 = .ok (.sipush 255, 3) := by decide +kernel
theorem dJ2_getChar_3b067_52 : decode cJ2_getChar_3b067 52 = .ok (.iand, 1) := by decide +kernel
theorem dJ2_getChar_3b067_53 : decode cJ2_getChar_3b067 53 = .ok (.getstatic 63, 3) := by decide +kernel
theorem dJ2_getChar_3b067_56 : decode cJ2_getChar_3b067 56 = .ok (.ishl, 1) := by decide +kernel
theorem dJ2_getChar_3b067_57 : decode cJ2_getChar_3b067 57 = .ok (.ior, 1) := by decide +kernel
theorem dJ2_getChar_3b067_58 : decode cJ2_getChar_3b067 58 = .ok (.i2c, 1) := by decide +kernel
theorem dJ2_getChar_3b067_59 : decode cJ2_getChar_3b067 59 = .ok (.ireturn, 1) := by decide +kernel
theorem dJ2_length_9d52b_0 : decode cJ2_length_9d52b 0 = .ok (.aload_n 0, 1) := by decide +kernel
theorem dJ2_length_9d52b_1 : decode cJ2_length_9d52b 1 = .ok (.arraylength, 1) := by decide +kernel
theorem dJ2_length_9d52b_2 : decode cJ2_length_9d52b 2 = .ok (.iconst 1, 1) := by decide +kernel
theorem dJ2_length_9d52b_3 : decode cJ2_length_9d52b 3 = .ok (.ishr, 1) := by decide +kernel
theorem dJ2_length_9d52b_4 : decode cJ2_length_9d52b 4 = .ok (.ireturn, 1) := by decide +kernel
theorem dJ2_charAt_3b067_0 : decode cJ2_charAt_3b067 0 = .ok (.iload_n 1, 1) := by decide +kernel
theorem dJ2_charAt_3b067_1 : decode cJ2_charAt_3b067 1 = .ok (.aload_n 0, 1) := by decide +kernel
theorem dJ2_charAt_3b067_2 : decode cJ2_charAt_3b067 2 = .ok (.invokestatic 67, 3) := by decide +kernel
theorem dJ2_charAt_3b067_5 : decode cJ2_charAt_3b067 5 = .ok (.aload_n 0, 1) := by decide +kernel
theorem dJ2_charAt_3b067_6 : decode cJ2_charAt_3b067 6 = .ok (.iload_n 1, 1) := by decide +kernel
theorem dJ2_charAt_3b067_7 : decode cJ2_charAt_3b067 7 = .ok (.invokestatic 71, 3) := by decide +kernel
theorem dJ2_charAt_3b067_10 : decode cJ2_charAt_3b067 10 = .ok (.ireturn, 1) := by decide +kernel
theorem dJ2_checkIndex_2214a_0 : decode cJ2_checkIndex_2214a 0 = .ok (.iload_n 0, 1) := by decide +kernel
theorem dJ2_checkIndex_2214a_1 : decode cJ2_checkIndex_2214a 1 = .ok (.aload_n 1, 1) := by decide +kernel
theorem dJ2_checkIndex_2214a_2 : decode cJ2_checkIndex_2214a 2 = .ok (.invokestatic 48, 3) := by decide +kernel
theorem dJ2_checkIndex_2214a_5 : decode cJ2_checkIndex_2214a 5 = .ok (.invokestatic 414, 3) := by decide +kernel
theorem dJ2_checkIndex_2214a_8 : decode cJ2_checkIndex_2214a 8 = .ok (.return_, 1) := by decide +kernel
theorem dJ3_checkIndex_8e157_0 : decode cJ3_checkIndex_8e157 0 = .ok (.iload_n 0, 1) := by decide +kernel
theorem dJ3_checkIndex_8e157_1 : decode cJ3_checkIndex_8e157 1 = .ok (.ifCond .lt 8, 3) := by decide +kernel
theorem dJ3_checkIndex_8e157_4 : decode cJ3_checkIndex_8e157 4 = .ok (.iload_n 0, 1) := by decide +kernel
theorem dJ3_checkIndex_8e157_5 : decode cJ3_checkIndex_8e157 5 = .ok (.iload_n 1, 1) := by decide +kernel
theorem dJ3_checkIndex_8e157_6 : decode cJ3_checkIndex_8e157 6 = .ok (.if_icmp .lt 10, 3) := by decide +kernel
theorem dJ3_checkIndex_8e157_9 : decode cJ3_checkIndex_8e157 9 = .ok (.aload_n 2, 1) := by decide +kernel
theorem dJ3_checkIndex_8e157_10 : decode cJ3_checkIndex_8e157 10 = .ok (.iload_n 0, 1) := by decide +kernel
theorem dJ3_checkIndex_8e157_11 : decode cJ3_checkIndex_8e157 11 = .ok (.iload_n 1, 1) := by decide +kernel
theorem dJ3_checkIndex_8e157_12 : decode cJ3_checkIndex_8e157 12 = .ok (.invokestatic 95, 3) := by decide +kernel
theorem dJ3_checkIndex_8e157_15 : decode cJ3_checkIndex_8e157 15 = .ok (.athrow, 1) := by decide +kernel
theorem dJ3_checkIndex_8e157_16 : decode cJ3_checkIndex_8e157 16 = .ok (.iload_n 0, 1) := by decide +kernel
theorem dJ3_checkIndex_8e157_17 : decode cJ3_checkIndex_8e157 17 = .ok (.ireturn, 1) := by decide +kernel
theorem dL_law_0 : decode cL_law 0 = .ok (.new 7, 3) := by decide +kernel
theorem dL_law_3 : decode cL_law 3 = .ok (.dup, 1) := by decide +kernel
theorem dL_law_4 : decode cL_law 4 = .ok (.invokespecial 9, 3) := by decide +kernel
theorem dL_law_7 : decode cL_law 7 = .ok (.astore_n 1, 1) := by decide +kernel
theorem dL_law_8 : decode cL_law 8 = .ok (.new 10, 3) := by decide +kernel
theorem dL_law_11 : decode cL_law 11 = .ok (.dup, 1) := by decide +kernel
theorem dL_law_12 : decode cL_law 12 = .ok (.invokespecial 12, 3) := by decide +kernel
theorem dL_law_15 : decode cL_law 15 = .ok (.astore_n 2, 1) := by decide +kernel
theorem dL_law_16 : decode cL_law 16 = .ok (.iconst 0, 1) := by decide +kernel
theorem dL_law_17 : decode cL_law 17 = .ok (.istore_n 3, 1) := by decide +kernel
theorem dL_law_18 : decode cL_law 18 = .ok (.iload_n 3, 1) := by decide +kernel
theorem dL_law_19 : decode cL_law 19 = .ok (.aload_n 0, 1) := by decide +kernel
theorem dL_law_20 : decode cL_law 20 = .ok (.arraylength, 1) := by decide +kernel
theorem dL_law_21 : decode cL_law 21 = .ok (.bipush 7, 2) := by decide +kernel
theorem dL_law_23 : decode cL_law 23 = .ok (.isub, 1) := by decide +kernel
theorem dL_law_24 : decode cL_law 24 = .ok (.if_icmp .gt 1063, 3) := by decide +kernel
theorem dL_law_27 : decode cL_law 27 = .ok (.aload_n 0, 1) := by decide +kernel
theorem dL_law_28 : decode cL_law 28 = .ok (.iload_n 3, 1) := by decide +kernel
theorem dL_law_29 : decode cL_law 29 = .ok (.iaload, 1) := by decide +kernel
theorem dL_law_30 : decode cL_law 30 = .ok (.bipush 31, 2) := by decide +kernel
theorem dL_law_32 : decode cL_law 32 = .ok (.iand, 1) := by decide +kernel
theorem dL_law_33 : decode cL_law 33 = .ok (.tableswitch 1048 0 28 #[131, 206, 269, 318, 361, 424, 437, 450, 493, 536, 559, 582, 615, 668, 681, 704, 727, 750, 793, 816, 849, 872, 885, 918, 942, 965, 988, 1011, 1034], 131) := by decide +kernel
theorem dL_law_164 : decode cL_law 164 = .ok (.aload_n 1, 1) := by decide +kernel
theorem dL_law_165 : decode cL_law 165 = .ok (.aload_n 0, 1) := by decide +kernel
theorem dL_law_166 : decode cL_law 166 = .ok (.iload_n 3, 1) := by decide +kernel
theorem dL_law_167 : decode cL_law 167 = .ok (.iconst 1, 1) := by decide +kernel
theorem dL_law_168 : decode cL_law 168 = .ok (.iadd, 1) := by decide +kernel
theorem dL_law_169 : decode cL_law 169 = .ok (.iaload, 1) := by decide +kernel
theorem dL_law_170 : decode cL_law 170 = .ok (.aload_n 0, 1) := by decide +kernel
theorem dL_law_171 : decode cL_law 171 = .ok (.iload_n 3, 1) := by decide +kernel
theorem dL_law_172 : decode cL_law 172 = .ok (.iconst 2, 1) := by decide +kernel
theorem dL_law_173 : decode cL_law 173 = .ok (.iadd, 1) := by decide +kernel
theorem dL_law_174 : decode cL_law 174 = .ok (.iaload, 1) := by decide +kernel
theorem dL_law_175 : decode cL_law 175 = .ok (.aload_n 0, 1) := by decide +kernel
theorem dL_law_176 : decode cL_law 176 = .ok (.iload_n 3, 1) := by decide +kernel
theorem dL_law_177 : decode cL_law 177 = .ok (.iconst 3, 1) := by decide +kernel
theorem dL_law_178 : decode cL_law 178 = .ok (.iadd, 1) := by decide +kernel
theorem dL_law_179 : decode cL_law 179 = .ok (.iaload, 1) := by decide +kernel
theorem dL_law_180 : decode cL_law 180 = .ok (.aload_n 0, 1) := by decide +kernel
theorem dL_law_181 : decode cL_law 181 = .ok (.iload_n 3, 1) := by decide +kernel
theorem dL_law_182 : decode cL_law 182 = .ok (.iconst 4, 1) := by decide +kernel
theorem dL_law_183 : decode cL_law 183 = .ok (.iadd, 1) := by decide +kernel
theorem dL_law_184 : decode cL_law 184 = .ok (.iaload, 1) := by decide +kernel
theorem dL_law_185 : decode cL_law 185 = .ok (.aload_n 0, 1) := by decide +kernel
theorem dL_law_186 : decode cL_law 186 = .ok (.iload_n 3, 1) := by decide +kernel
theorem dL_law_187 : decode cL_law 187 = .ok (.iconst 5, 1) := by decide +kernel
theorem dL_law_188 : decode cL_law 188 = .ok (.iadd, 1) := by decide +kernel
theorem dL_law_189 : decode cL_law 189 = .ok (.iaload, 1) := by decide +kernel
theorem dL_law_190 : decode cL_law 190 = .ok (.aload_n 0, 1) := by decide +kernel
theorem dL_law_191 : decode cL_law 191 = .ok (.iload_n 3, 1) := by decide +kernel
theorem dL_law_192 : decode cL_law 192 = .ok (.bipush 6, 2) := by decide +kernel
theorem dL_law_194 : decode cL_law 194 = .ok (.iadd, 1) := by decide +kernel
theorem dL_law_195 : decode cL_law 195 = .ok (.iaload, 1) := by decide +kernel
theorem dL_law_196 : decode cL_law 196 = .ok (.invokevirtual 13, 3) := by decide +kernel
theorem dL_law_199 : decode cL_law 199 = .ok (.aload_n 2, 1) := by decide +kernel
theorem dL_law_200 : decode cL_law 200 = .ok (.aload_n 0, 1) := by decide +kernel
theorem dL_law_201 : decode cL_law 201 = .ok (.iload_n 3, 1) := by decide +kernel
theorem dL_law_202 : decode cL_law 202 = .ok (.iconst 1, 1) := by decide +kernel
theorem dL_law_203 : decode cL_law 203 = .ok (.iadd, 1) := by decide +kernel
theorem dL_law_204 : decode cL_law 204 = .ok (.iaload, 1) := by decide +kernel
theorem dL_law_205 : decode cL_law 205 = .ok (.aload_n 0, 1) := by decide +kernel
theorem dL_law_206 : decode cL_law 206 = .ok (.iload_n 3, 1) := by decide +kernel
theorem dL_law_207 : decode cL_law 207 = .ok (.iconst 2, 1) := by decide +kernel
theorem dL_law_208 : decode cL_law 208 = .ok (.iadd, 1) := by decide +kernel
theorem dL_law_209 : decode cL_law 209 = .ok (.iaload, 1) := by decide +kernel
theorem dL_law_210 : decode cL_law 210 = .ok (.aload_n 0, 1) := by decide +kernel
theorem dL_law_211 : decode cL_law 211 = .ok (.iload_n 3, 1) := by decide +kernel
theorem dL_law_212 : decode cL_law 212 = .ok (.iconst 3, 1) := by decide +kernel
theorem dL_law_213 : decode cL_law 213 = .ok (.iadd, 1) := by decide +kernel
theorem dL_law_214 : decode cL_law 214 = .ok (.iaload, 1) := by decide +kernel
theorem dL_law_215 : decode cL_law 215 = .ok (.aload_n 0, 1) := by decide +kernel
theorem dL_law_216 : decode cL_law 216 = .ok (.iload_n 3, 1) := by decide +kernel
theorem dL_law_217 : decode cL_law 217 = .ok (.iconst 4, 1) := by decide +kernel
theorem dL_law_218 : decode cL_law 218 = .ok (.iadd, 1) := by decide +kernel
theorem dL_law_219 : decode cL_law 219 = .ok (.iaload, 1) := by decide +kernel
theorem dL_law_220 : decode cL_law 220 = .ok (.aload_n 0, 1) := by decide +kernel
theorem dL_law_221 : decode cL_law 221 = .ok (.iload_n 3, 1) := by decide +kernel
theorem dL_law_222 : decode cL_law 222 = .ok (.iconst 5, 1) := by decide +kernel
theorem dL_law_223 : decode cL_law 223 = .ok (.iadd, 1) := by decide +kernel
theorem dL_law_224 : decode cL_law 224 = .ok (.iaload, 1) := by decide +kernel
theorem dL_law_225 : decode cL_law 225 = .ok (.aload_n 0, 1) := by decide +kernel
theorem dL_law_226 : decode cL_law 226 = .ok (.iload_n 3, 1) := by decide +kernel
theorem dL_law_227 : decode cL_law 227 = .ok (.bipush 6, 2) := by decide +kernel
theorem dL_law_229 : decode cL_law 229 = .ok (.iadd, 1) := by decide +kernel
theorem dL_law_230 : decode cL_law 230 = .ok (.iaload, 1) := by decide +kernel
theorem dL_law_231 : decode cL_law 231 = .ok (.invokevirtual 17, 3) := by decide +kernel
theorem dL_law_234 : decode cL_law 234 = .ok (.if_icmp .eq 847, 3) := by decide +kernel
theorem dL_law_237 : decode cL_law 237 = .ok (.iconst 0, 1) := by decide +kernel
theorem dL_law_238 : decode cL_law 238 = .ok (.ireturn, 1) := by decide +kernel
theorem dL_law_239 : decode cL_law 239 = .ok (.aload_n 1, 1) := by decide +kernel
theorem dL_law_240 : decode cL_law 240 = .ok (.aload_n 0, 1) := by decide +kernel
theorem dL_law_241 : decode cL_law 241 = .ok (.iload_n 3, 1) := by decide +kernel
theorem dL_law_242 : decode cL_law 242 = .ok (.iconst 1, 1) := by decide +kernel
theorem dL_law_243 : decode cL_law 243 = .ok (.iadd, 1) := by decide +kernel
theorem dL_law_244 : decode cL_law 244 = .ok (.iaload, 1) := by decide +kernel
theorem dL_law_245 : decode cL_law 245 = .ok (.aload_n 0, 1) := by decide +kernel
theorem dL_law_246 : decode cL_law 246 = .ok (.iload_n 3, 1) := by decide +kernel
theorem dL_law_247 : decode cL_law 247 = .ok (.iconst 2, 1) := by decide +kernel
theorem dL_law_248 : decode cL_law 248 = .ok (.iadd, 1) := by decide +kernel
theorem dL_law_249 : decode cL_law 249 = .ok (.iaload, 1) := by decide +kernel
theorem dL_law_250 : decode cL_law 250 = .ok (.aload_n 0, 1) := by decide +kernel
theorem dL_law_251 : decode cL_law 251 = .ok (.iload_n 3, 1) := by decide +kernel
theorem dL_law_252 : decode cL_law 252 = .ok (.iconst 3, 1) := by decide +kernel
theorem dL_law_253 : decode cL_law 253 = .ok (.iadd, 1) := by decide +kernel
theorem dL_law_254 : decode cL_law 254 = .ok (.iaload, 1) := by decide +kernel
theorem dL_law_255 : decode cL_law 255 = .ok (.aload_n 0, 1) := by decide +kernel
theorem dL_law_256 : decode cL_law 256 = .ok (.iload_n 3, 1) := by decide +kernel
theorem dL_law_257 : decode cL_law 257 = .ok (.iconst 4, 1) := by decide +kernel
theorem dL_law_258 : decode cL_law 258 = .ok (.iadd, 1) := by decide +kernel
theorem dL_law_259 : decode cL_law 259 = .ok (.iaload, 1) := by decide +kernel
theorem dL_law_260 : decode cL_law 260 = .ok (.aload_n 0, 1) := by decide +kernel
theorem dL_law_261 : decode cL_law 261 = .ok (.iload_n 3, 1) := by decide +kernel
theorem dL_law_262 : decode cL_law 262 = .ok (.iconst 5, 1) := by decide +kernel
theorem dL_law_263 : decode cL_law 263 = .ok (.iadd, 1) := by decide +kernel
theorem dL_law_264 : decode cL_law 264 = .ok (.iaload, 1) := by decide +kernel
theorem dL_law_265 : decode cL_law 265 = .ok (.invokevirtual 18, 3) := by decide +kernel
theorem dL_law_268 : decode cL_law 268 = .ok (.aload_n 2, 1) := by decide +kernel
theorem dL_law_269 : decode cL_law 269 = .ok (.aload_n 0, 1) := by decide +kernel
theorem dL_law_270 : decode cL_law 270 = .ok (.iload_n 3, 1) := by decide +kernel
theorem dL_law_271 : decode cL_law 271 = .ok (.iconst 1, 1) := by decide +kernel
theorem dL_law_272 : decode cL_law 272 = .ok (.iadd, 1) := by decide +kernel
theorem dL_law_273 : decode cL_law 273 = .ok (.iaload, 1) := by decide +kernel
theorem dL_law_274 : decode cL_law 274 = .ok (.aload_n 0, 1) := by decide +kernel
theorem dL_law_275 : decode cL_law 275 = .ok (.iload_n 3, 1) := by decide +kernel
theorem dL_law_276 : decode cL_law 276 = .ok (.iconst 2, 1) := by decide +kernel
theorem dL_law_277 : decode cL_law 277 = .ok (.iadd, 1) := by decide +kernel
theorem dL_law_278 : decode cL_law 278 = .ok (.iaload, 1) := by decide +kernel
theorem dL_law_279 : decode cL_law 279 = .ok (.aload_n 0, 1) := by decide +kernel
theorem dL_law_280 : decode cL_law 280 = .ok (.iload_n 3, 1) := by decide +kernel
theorem dL_law_281 : decode cL_law 281 = .ok (.iconst 3, 1) := by decide +kernel
theorem dL_law_282 : decode cL_law 282 = .ok (.iadd, 1) := by decide +kernel
theorem dL_law_283 : decode cL_law 283 = .ok (.iaload, 1) := by decide +kernel
theorem dL_law_284 : decode cL_law 284 = .ok (.aload_n 0, 1) := by decide +kernel
theorem dL_law_285 : decode cL_law 285 = .ok (.iload_n 3, 1) := by decide +kernel
theorem dL_law_286 : decode cL_law 286 = .ok (.iconst 4, 1) := by decide +kernel
theorem dL_law_287 : decode cL_law 287 = .ok (.iadd, 1) := by decide +kernel
theorem dL_law_288 : decode cL_law 288 = .ok (.iaload, 1) := by decide +kernel
theorem dL_law_289 : decode cL_law 289 = .ok (.aload_n 0, 1) := by decide +kernel
theorem dL_law_290 : decode cL_law 290 = .ok (.iload_n 3, 1) := by decide +kernel
theorem dL_law_291 : decode cL_law 291 = .ok (.iconst 5, 1) := by decide +kernel
theorem dL_law_292 : decode cL_law 292 = .ok (.iadd, 1) := by decide +kernel
theorem dL_law_293 : decode cL_law 293 = .ok (.iaload, 1) := by decide +kernel
theorem dL_law_294 : decode cL_law 294 = .ok (.invokevirtual 22, 3) := by decide +kernel
theorem dL_law_297 : decode cL_law 297 = .ok (.if_icmp .eq 784, 3) := by decide +kernel
theorem dL_law_300 : decode cL_law 300 = .ok (.iconst 0, 1) := by decide +kernel
theorem dL_law_301 : decode cL_law 301 = .ok (.ireturn, 1) := by decide +kernel
theorem dL_law_302 : decode cL_law 302 = .ok (.aload_n 1, 1) := by decide +kernel
theorem dL_law_303 : decode cL_law 303 = .ok (.aload_n 0, 1) := by decide +kernel
theorem dL_law_304 : decode cL_law 304 = .ok (.iload_n 3, 1) := by decide +kernel
theorem dL_law_305 : decode cL_law 305 = .ok (.iconst 1, 1) := by decide +kernel
theorem dL_law_306 : decode cL_law 306 = .ok (.iadd, 1) := by decide +kernel
theorem dL_law_307 : decode cL_law 307 = .ok (.iaload, 1) := by decide +kernel
theorem dL_law_308 : decode cL_law 308 = .ok (.aload_n 0, 1) := by decide +kernel
theorem dL_law_309 : decode cL_law 309 = .ok (.iload_n 3, 1) := by decide +kernel
theorem dL_law_310 : decode cL_law 310 = .ok (.iconst 2, 1) := by decide +kernel
theorem dL_law_311 : decode cL_law 311 = .ok (.iadd, 1) := by decide +kernel
theorem dL_law_312 : decode cL_law 312 = .ok (.iaload, 1) := by decide +kernel
theorem dL_law_313 : decode cL_law 313 = .ok (.ifCond .eq 7, 3) := by decide +kernel
theorem dL_law_316 : decode cL_law 316 = .ok (.iconst 1, 1) := by decide +kernel
theorem dL_law_317 : decode cL_law 317 = .ok (.goto 4, 3) := by decide +kernel
theorem dL_law_320 : decode cL_law 320 = .ok (.iconst 0, 1) := by decide +kernel
theorem dL_law_321 : decode cL_law 321 = .ok (.invokevirtual 23, 3) := by decide +kernel
theorem dL_law_324 : decode cL_law 324 = .ok (.aload_n 2, 1) := by decide +kernel
theorem dL_law_325 : decode cL_law 325 = .ok (.aload_n 0, 1) := by decide +kernel
theorem dL_law_326 : decode cL_law 326 = .ok (.iload_n 3, 1) := by decide +kernel
theorem dL_law_327 : decode cL_law 327 = .ok (.iconst 1, 1) := by decide +kernel
theorem dL_law_328 : decode cL_law 328 = .ok (.iadd, 1) := by decide +kernel
theorem dL_law_329 : decode cL_law 329 = .ok (.iaload, 1) := by decide +kernel
theorem dL_law_330 : decode cL_law 330 = .ok (.aload_n 0, 1) := by decide +kernel
theorem dL_law_331 : decode cL_law 331 = .ok (.iload_n 3, 1) := by decide +kernel
theorem dL_law_332 : decode cL_law 332 = .ok (.iconst 2, 1) := by decide +kernel
theorem dL_law_333 : decode cL_law 333 = .ok (.iadd, 1) := by decide +kernel
theorem dL_law_334 : decode cL_law 334 = .ok (.iaload, 1) := by decide +kernel
theorem dL_law_335 : decode cL_law 335 = .ok (.ifCond .eq 7, 3) := by decide +kernel
theorem dL_law_338 : decode cL_law 338 = .ok (.iconst 1, 1) := by decide +kernel
theorem dL_law_339 : decode cL_law 339 = .ok (.goto 4, 3) := by decide +kernel
theorem dL_law_342 : decode cL_law 342 = .ok (.iconst 0, 1) := by decide +kernel
theorem dL_law_343 : decode cL_law 343 = .ok (.invokevirtual 27, 3) := by decide +kernel
theorem dL_law_346 : decode cL_law 346 = .ok (.if_icmp .eq 735, 3) := by decide +kernel
theorem dL_law_349 : decode cL_law 349 = .ok (.iconst 0, 1) := by decide +kernel
theorem dL_law_350 : decode cL_law 350 = .ok (.ireturn, 1) := by decide +kernel
theorem dL_law_351 : decode cL_law 351 = .ok (.aload_n 1, 1) := by decide +kernel
theorem dL_law_352 : decode cL_law 352 = .ok (.aload_n 0, 1) := by decide +kernel
theorem dL_law_353 : decode cL_law 353 = .ok (.iload_n 3, 1) := by decide +kernel
theorem dL_law_354 : decode cL_law 354 = .ok (.iconst 1, 1) := by decide +kernel
theorem dL_law_355 : decode cL_law 355 = .ok (.iadd, 1) := by decide +kernel
theorem dL_law_356 : decode cL_law 356 = .ok (.iaload, 1) := by decide +kernel
theorem dL_law_357 : decode cL_law 357 = .ok (.aload_n 0, 1) := by decide +kernel
theorem dL_law_358 : decode cL_law 358 = .ok (.iload_n 3, 1) := by decide +kernel
theorem dL_law_359 : decode cL_law 359 = .ok (.iconst 2, 1) := by decide +kernel
theorem dL_law_360 : decode cL_law 360 = .ok (.iadd, 1) := by decide +kernel
theorem dL_law_361 : decode cL_law 361 = .ok (.iaload, 1) := by decide +kernel
theorem dL_law_362 : decode cL_law 362 = .ok (.aload_n 0, 1) := by decide +kernel
theorem dL_law_363 : decode cL_law 363 = .ok (.iload_n 3, 1) := by decide +kernel
theorem dL_law_364 : decode cL_law 364 = .ok (.iconst 3, 1) := by decide +kernel
theorem dL_law_365 : decode cL_law 365 = .ok (.iadd, 1) := by decide +kernel
theorem dL_law_366 : decode cL_law 366 = .ok (.iaload, 1) := by decide +kernel
theorem dL_law_367 : decode cL_law 367 = .ok (.invokevirtual 28, 3) := by decide +kernel
theorem dL_law_370 : decode cL_law 370 = .ok (.aload_n 2, 1) := by decide +kernel
theorem dL_law_371 : decode cL_law 371 = .ok (.aload_n 0, 1) := by decide +kernel
theorem dL_law_372 : decode cL_law 372 = .ok (.iload_n 3, 1) := by decide +kernel
theorem dL_law_373 : decode cL_law 373 = .ok (.iconst 1, 1) := by decide +kernel
theorem dL_law_374 : decode cL_law 374 = .ok (.iadd, 1) := by decide +kernel
theorem dL_law_375 : decode cL_law 375 = .ok (.iaload, 1) := by decide +kernel
theorem dL_law_376 : decode cL_law 376 = .ok (.aload_n 0, 1) := by decide +kernel
theorem dL_law_377 : decode cL_law 377 = .ok (.iload_n 3, 1) := by decide +kernel
theorem dL_law_378 : decode cL_law 378 = .ok (.iconst 2, 1) := by decide +kernel
theorem dL_law_379 : decode cL_law 379 = .ok (.iadd, 1) := by decide +kernel
theorem dL_law_380 : decode cL_law 380 = .ok (.iaload, 1) := by decide +kernel
theorem dL_law_381 : decode cL_law 381 = .ok (.aload_n 0, 1) := by decide +kernel
theorem dL_law_382 : decode cL_law 382 = .ok (.iload_n 3, 1) := by decide +kernel
theorem dL_law_383 : decode cL_law 383 = .ok (.iconst 3, 1) := by decide +kernel
theorem dL_law_384 : decode cL_law 384 = .ok (.iadd, 1) := by decide +kernel
theorem dL_law_385 : decode cL_law 385 = .ok (.iaload, 1) := by decide +kernel
theorem dL_law_386 : decode cL_law 386 = .ok (.invokevirtual 32, 3) := by decide +kernel
theorem dL_law_389 : decode cL_law 389 = .ok (.if_icmp .eq 692, 3) := by decide +kernel
theorem dL_law_392 : decode cL_law 392 = .ok (.iconst 0, 1) := by decide +kernel
theorem dL_law_393 : decode cL_law 393 = .ok (.ireturn, 1) := by decide +kernel
theorem dL_law_394 : decode cL_law 394 = .ok (.aload_n 1, 1) := by decide +kernel
theorem dL_law_395 : decode cL_law 395 = .ok (.aload_n 0, 1) := by decide +kernel
theorem dL_law_396 : decode cL_law 396 = .ok (.iload_n 3, 1) := by decide +kernel
theorem dL_law_397 : decode cL_law 397 = .ok (.iconst 1, 1) := by decide +kernel
theorem dL_law_398 : decode cL_law 398 = .ok (.iadd, 1) := by decide +kernel
theorem dL_law_399 : decode cL_law 399 = .ok (.iaload, 1) := by decide +kernel
theorem dL_law_400 : decode cL_law 400 = .ok (.i2l, 1) := by decide +kernel
theorem dL_law_401 : decode cL_law 401 = .ok (.bipush 32, 2) := by decide +kernel
theorem dL_law_403 : decode cL_law 403 = .ok (.lshl, 1) := by decide +kernel
theorem dL_law_404 : decode cL_law 404 = .ok (.aload_n 0, 1) := by decide +kernel
theorem dL_law_405 : decode cL_law 405 = .ok (.iload_n 3, 1) := by decide +kernel
theorem dL_law_406 : decode cL_law 406 = .ok (.iconst 2, 1) := by decide +kernel
theorem dL_law_407 : decode cL_law 407 = .ok (.iadd, 1) := by decide +kernel
theorem dL_law_408 : decode cL_law 408 = .ok (.iaload, 1) := by decide +kernel
theorem dL_law_409 : decode cL_law 409 = .ok (.i2l, 1) := by decide +kernel
theorem dL_law_410 : decode cL_law 410 = .ok (.ldc2_w 33, 3) := by decide +kernel
theorem dL_law_413 : decode cL_law 413 = .ok (.land, 1) := by decide +kernel
theorem dL_law_414 : decode cL_law 414 = .ok (.lor, 1) := by decide +kernel
theorem dL_law_415 : decode cL_law 415 = .ok (.aload_n 0, 1) := by decide +kernel
theorem dL_law_416 : decode cL_law 416 = .ok (.iload_n 3, 1) := by decide +kernel
theorem dL_law_417 : decode cL_law 417 = .ok (.iconst 3, 1) := by decide +kernel
theorem dL_law_418 : decode cL_law 418 = .ok (.iadd, 1) := by decide +kernel
theorem dL_law_419 : decode cL_law 419 = .ok (.iaload, 1) := by decide +kernel
theorem dL_law_420 : decode cL_law 420 = .ok (.invokevirtual 35, 3) := by decide +kernel
theorem dL_law_423 : decode cL_law 423 = .ok (.aload_n 2, 1) := by decide +kernel
theorem dL_law_424 : decode cL_law 424 = .ok (.aload_n 0, 1) := by decide +kernel
theorem dL_law_425 : decode cL_law 425 = .ok (.iload_n 3, 1) := by decide +kernel
theorem dL_law_426 : decode cL_law 426 = .ok (.iconst 1, 1) := by decide +kernel
theorem dL_law_427 : decode cL_law 427 = .ok (.iadd, 1) := by decide +kernel
theorem dL_law_428 : decode cL_law 428 = .ok (.iaload, 1) := by decide +kernel
theorem dL_law_429 : decode cL_law 429 = .ok (.i2l, 1) := by decide +kernel
theorem dL_law_430 : decode cL_law 430 = .ok (.bipush 32, 2) := by decide +kernel
theorem dL_law_432 : decode cL_law 432 = .ok (.lshl, 1) := by decide +kernel
theorem dL_law_433 : decode cL_law 433 = .ok (.aload_n 0, 1) := by decide +kernel
theorem dL_law_434 : decode cL_law 434 = .ok (.iload_n 3, 1) := by decide +kernel
theorem dL_law_435 : decode cL_law 435 = .ok (.iconst 2, 1) := by decide +kernel
theorem dL_law_436 : decode cL_law 436 = .ok (.iadd, 1) := by decide +kernel
theorem dL_law_437 : decode cL_law 437 = .ok (.iaload, 1) := by decide +kernel
theorem dL_law_438 : decode cL_law 438 = .ok (.i2l, 1) := by decide +kernel
theorem dL_law_439 : decode cL_law 439 = .ok (.ldc2_w 33, 3) := by decide +kernel
theorem dL_law_442 : decode cL_law 442 = .ok (.land, 1) := by decide +kernel
theorem dL_law_443 : decode cL_law 443 = .ok (.lor, 1) := by decide +kernel
theorem dL_law_444 : decode cL_law 444 = .ok (.aload_n 0, 1) := by decide +kernel
theorem dL_law_445 : decode cL_law 445 = .ok (.iload_n 3, 1) := by decide +kernel
theorem dL_law_446 : decode cL_law 446 = .ok (.iconst 3, 1) := by decide +kernel
theorem dL_law_447 : decode cL_law 447 = .ok (.iadd, 1) := by decide +kernel
theorem dL_law_448 : decode cL_law 448 = .ok (.iaload, 1) := by decide +kernel
theorem dL_law_449 : decode cL_law 449 = .ok (.invokevirtual 39, 3) := by decide +kernel
theorem dL_law_452 : decode cL_law 452 = .ok (.if_icmp .eq 629, 3) := by decide +kernel
theorem dL_law_455 : decode cL_law 455 = .ok (.iconst 0, 1) := by decide +kernel
theorem dL_law_456 : decode cL_law 456 = .ok (.ireturn, 1) := by decide +kernel
theorem dL_law_457 : decode cL_law 457 = .ok (.aload_n 1, 1) := by decide +kernel
theorem dL_law_458 : decode cL_law 458 = .ok (.invokevirtual 40, 3) := by decide +kernel
theorem dL_law_461 : decode cL_law 461 = .ok (.aload_n 2, 1) := by decide +kernel
theorem dL_law_462 : decode cL_law 462 = .ok (.invokevirtual 44, 3) := by decide +kernel
theorem dL_law_465 : decode cL_law 465 = .ok (.if_icmp .eq 616, 3) := by decide +kernel
theorem dL_law_468 : decode cL_law 468 = .ok (.iconst 0, 1) := by decide +kernel
theorem dL_law_469 : decode cL_law 469 = .ok (.ireturn, 1) := by decide +kernel
theorem dL_law_470 : decode cL_law 470 = .ok (.aload_n 1, 1) := by decide +kernel
theorem dL_law_471 : decode cL_law 471 = .ok (.invokevirtual 45, 3) := by decide +kernel
theorem dL_law_474 : decode cL_law 474 = .ok (.aload_n 2, 1) := by decide +kernel
theorem dL_law_475 : decode cL_law 475 = .ok (.invokevirtual 48, 3) := by decide +kernel
theorem dL_law_478 : decode cL_law 478 = .ok (.if_icmp .eq 603, 3) := by decide +kernel
theorem dL_law_481 : decode cL_law 481 = .ok (.iconst 0, 1) := by decide +kernel
theorem dL_law_482 : decode cL_law 482 = .ok (.ireturn, 1) := by decide +kernel
theorem dL_law_483 : decode cL_law 483 = .ok (.aload_n 1, 1) := by decide +kernel
theorem dL_law_484 : decode cL_law 484 = .ok (.aload_n 0, 1) := by decide +kernel
theorem dL_law_485 : decode cL_law 485 = .ok (.iload_n 3, 1) := by decide +kernel
theorem dL_law_486 : decode cL_law 486 = .ok (.iconst 1, 1) := by decide +kernel
theorem dL_law_487 : decode cL_law 487 = .ok (.iadd, 1) := by decide +kernel
theorem dL_law_488 : decode cL_law 488 = .ok (.iaload, 1) := by decide +kernel
theorem dL_law_489 : decode cL_law 489 = .ok (.aload_n 0, 1) := by decide +kernel
theorem dL_law_490 : decode cL_law 490 = .ok (.iload_n 3, 1) := by decide +kernel
theorem dL_law_491 : decode cL_law 491 = .ok (.iconst 2, 1) := by decide +kernel
theorem dL_law_492 : decode cL_law 492 = .ok (.iadd, 1) := by decide +kernel
theorem dL_law_493 : decode cL_law 493 = .ok (.iaload, 1) := by decide +kernel
theorem dL_law_494 : decode cL_law 494 = .ok (.aload_n 0, 1) := by decide +kernel
theorem dL_law_495 : decode cL_law 495 = .ok (.iload_n 3, 1) := by decide +kernel
theorem dL_law_496 : decode cL_law 496 = .ok (.iconst 3, 1) := by decide +kernel
theorem dL_law_497 : decode cL_law 497 = .ok (.iadd, 1) := by decide +kernel
theorem dL_law_498 : decode cL_law 498 = .ok (.iaload, 1) := by decide +kernel
theorem dL_law_499 : decode cL_law 499 = .ok (.invokevirtual 49, 3) := by decide +kernel
theorem dL_law_502 : decode cL_law 502 = .ok (.aload_n 2, 1) := by decide +kernel
theorem dL_law_503 : decode cL_law 503 = .ok (.aload_n 0, 1) := by decide +kernel
theorem dL_law_504 : decode cL_law 504 = .ok (.iload_n 3, 1) := by decide +kernel
theorem dL_law_505 : decode cL_law 505 = .ok (.iconst 1, 1) := by decide +kernel
theorem dL_law_506 : decode cL_law 506 = .ok (.iadd, 1) := by decide +kernel
theorem dL_law_507 : decode cL_law 507 = .ok (.iaload, 1) := by decide +kernel
theorem dL_law_508 : decode cL_law 508 = .ok (.aload_n 0, 1) := by decide +kernel
theorem dL_law_509 : decode cL_law 509 = .ok (.iload_n 3, 1) := by decide +kernel
theorem dL_law_510 : decode cL_law 510 = .ok (.iconst 2, 1) := by decide +kernel
theorem dL_law_511 : decode cL_law 511 = .ok (.iadd, 1) := by decide +kernel
theorem dL_law_512 : decode cL_law 512 = .ok (.iaload, 1) := by decide +kernel
theorem dL_law_513 : decode cL_law 513 = .ok (.aload_n 0, 1) := by decide +kernel
theorem dL_law_514 : decode cL_law 514 = .ok (.iload_n 3, 1) := by decide +kernel
theorem dL_law_515 : decode cL_law 515 = .ok (.iconst 3, 1) := by decide +kernel
theorem dL_law_516 : decode cL_law 516 = .ok (.iadd, 1) := by decide +kernel
theorem dL_law_517 : decode cL_law 517 = .ok (.iaload, 1) := by decide +kernel
theorem dL_law_518 : decode cL_law 518 = .ok (.invokevirtual 52, 3) := by decide +kernel
theorem dL_law_521 : decode cL_law 521 = .ok (.if_icmp .eq 560, 3) := by decide +kernel
theorem dL_law_524 : decode cL_law 524 = .ok (.iconst 0, 1) := by decide +kernel
theorem dL_law_525 : decode cL_law 525 = .ok (.ireturn, 1) := by decide +kernel
theorem dL_law_526 : decode cL_law 526 = .ok (.aload_n 1, 1) := by decide +kernel
theorem dL_law_527 : decode cL_law 527 = .ok (.aload_n 0, 1) := by decide +kernel
theorem dL_law_528 : decode cL_law 528 = .ok (.iload_n 3, 1) := by decide +kernel
theorem dL_law_529 : decode cL_law 529 = .ok (.iconst 1, 1) := by decide +kernel
theorem dL_law_530 : decode cL_law 530 = .ok (.iadd, 1) := by decide +kernel
theorem dL_law_531 : decode cL_law 531 = .ok (.iaload, 1) := by decide +kernel
theorem dL_law_532 : decode cL_law 532 = .ok (.aload_n 0, 1) := by decide +kernel
theorem dL_law_533 : decode cL_law 533 = .ok (.iload_n 3, 1) := by decide +kernel
theorem dL_law_534 : decode cL_law 534 = .ok (.iconst 2, 1) := by decide +kernel
theorem dL_law_535 : decode cL_law 535 = .ok (.iadd, 1) := by decide +kernel
theorem dL_law_536 : decode cL_law 536 = .ok (.iaload, 1) := by decide +kernel
theorem dL_law_537 : decode cL_law 537 = .ok (.aload_n 0, 1) := by decide +kernel
theorem dL_law_538 : decode cL_law 538 = .ok (.iload_n 3, 1) := by decide +kernel
theorem dL_law_539 : decode cL_law 539 = .ok (.iconst 3, 1) := by decide +kernel
theorem dL_law_540 : decode cL_law 540 = .ok (.iadd, 1) := by decide +kernel
theorem dL_law_541 : decode cL_law 541 = .ok (.iaload, 1) := by decide +kernel
theorem dL_law_542 : decode cL_law 542 = .ok (.invokevirtual 53, 3) := by decide +kernel
theorem dL_law_545 : decode cL_law 545 = .ok (.aload_n 2, 1) := by decide +kernel
theorem dL_law_546 : decode cL_law 546 = .ok (.aload_n 0, 1) := by decide +kernel
theorem dL_law_547 : decode cL_law 547 = .ok (.iload_n 3, 1) := by decide +kernel
theorem dL_law_548 : decode cL_law 548 = .ok (.iconst 1, 1) := by decide +kernel
theorem dL_law_549 : decode cL_law 549 = .ok (.iadd, 1) := by decide +kernel
theorem dL_law_550 : decode cL_law 550 = .ok (.iaload, 1) := by decide +kernel
theorem dL_law_551 : decode cL_law 551 = .ok (.aload_n 0, 1) := by decide +kernel
theorem dL_law_552 : decode cL_law 552 = .ok (.iload_n 3, 1) := by decide +kernel
theorem dL_law_553 : decode cL_law 553 = .ok (.iconst 2, 1) := by decide +kernel
theorem dL_law_554 : decode cL_law 554 = .ok (.iadd, 1) := by decide +kernel
theorem dL_law_555 : decode cL_law 555 = .ok (.iaload, 1) := by decide +kernel
theorem dL_law_556 : decode cL_law 556 = .ok (.aload_n 0, 1) := by decide +kernel
theorem dL_law_557 : decode cL_law 557 = .ok (.iload_n 3, 1) := by decide +kernel
theorem dL_law_558 : decode cL_law 558 = .ok (.iconst 3, 1) := by decide +kernel
theorem dL_law_559 : decode cL_law 559 = .ok (.iadd, 1) := by decide +kernel
theorem dL_law_560 : decode cL_law 560 = .ok (.iaload, 1) := by decide +kernel
theorem dL_law_561 : decode cL_law 561 = .ok (.invokevirtual 56, 3) := by decide +kernel
theorem dL_law_564 : decode cL_law 564 = .ok (.if_icmp .eq 517, 3) := by decide +kernel
theorem dL_law_567 : decode cL_law 567 = .ok (.iconst 0, 1) := by decide +kernel
theorem dL_law_568 : decode cL_law 568 = .ok (.ireturn, 1) := by decide +kernel
theorem dL_law_569 : decode cL_law 569 = .ok (.aload_n 1, 1) := by decide +kernel
theorem dL_law_570 : decode cL_law 570 = .ok (.aload_n 0, 1) := by decide +kernel
theorem dL_law_571 : decode cL_law 571 = .ok (.iload_n 3, 1) := by decide +kernel
theorem dL_law_572 : decode cL_law 572 = .ok (.iconst 1, 1) := by decide +kernel
theorem dL_law_573 : decode cL_law 573 = .ok (.iadd, 1) := by decide +kernel
theorem dL_law_574 : decode cL_law 574 = .ok (.iaload, 1) := by decide +kernel
theorem dL_law_575 : decode cL_law 575 = .ok (.invokevirtual 57, 3) := by decide +kernel
theorem dL_law_578 : decode cL_law 578 = .ok (.aload_n 2, 1) := by decide +kernel
theorem dL_law_579 : decode cL_law 579 = .ok (.aload_n 0, 1) := by decide +kernel
theorem dL_law_580 : decode cL_law 580 = .ok (.iload_n 3, 1) := by decide +kernel
theorem dL_law_581 : decode cL_law 581 = .ok (.iconst 1, 1) := by decide +kernel
theorem dL_law_582 : decode cL_law 582 = .ok (.iadd, 1) := by decide +kernel
theorem dL_law_583 : decode cL_law 583 = .ok (.iaload, 1) := by decide +kernel
theorem dL_law_584 : decode cL_law 584 = .ok (.invokevirtual 61, 3) := by decide +kernel
theorem dL_law_587 : decode cL_law 587 = .ok (.if_icmp .eq 494, 3) := by decide +kernel
theorem dL_law_590 : decode cL_law 590 = .ok (.iconst 0, 1) := by decide +kernel
theorem dL_law_591 : decode cL_law 591 = .ok (.ireturn, 1) := by decide +kernel
theorem dL_law_592 : decode cL_law 592 = .ok (.aload_n 1, 1) := by decide +kernel
theorem dL_law_593 : decode cL_law 593 = .ok (.aload_n 0, 1) := by decide +kernel
theorem dL_law_594 : decode cL_law 594 = .ok (.iload_n 3, 1) := by decide +kernel
theorem dL_law_595 : decode cL_law 595 = .ok (.iconst 1, 1) := by decide +kernel
theorem dL_law_596 : decode cL_law 596 = .ok (.iadd, 1) := by decide +kernel
theorem dL_law_597 : decode cL_law 597 = .ok (.iaload, 1) := by decide +kernel
theorem dL_law_598 : decode cL_law 598 = .ok (.invokevirtual 62, 3) := by decide +kernel
theorem dL_law_601 : decode cL_law 601 = .ok (.aload_n 2, 1) := by decide +kernel
theorem dL_law_602 : decode cL_law 602 = .ok (.aload_n 0, 1) := by decide +kernel
theorem dL_law_603 : decode cL_law 603 = .ok (.iload_n 3, 1) := by decide +kernel
theorem dL_law_604 : decode cL_law 604 = .ok (.iconst 1, 1) := by decide +kernel
theorem dL_law_605 : decode cL_law 605 = .ok (.iadd, 1) := by decide +kernel
theorem dL_law_606 : decode cL_law 606 = .ok (.iaload, 1) := by decide +kernel
theorem dL_law_607 : decode cL_law 607 = .ok (.invokevirtual 65, 3) := by decide +kernel
theorem dL_law_610 : decode cL_law 610 = .ok (.if_icmp .eq 471, 3) := by decide +kernel
theorem dL_law_613 : decode cL_law 613 = .ok (.iconst 0, 1) := by decide +kernel
theorem dL_law_614 : decode cL_law 614 = .ok (.ireturn, 1) := by decide +kernel
theorem dL_law_615 : decode cL_law 615 = .ok (.aload_n 1, 1) := by decide +kernel
theorem dL_law_616 : decode cL_law 616 = .ok (.aload_n 0, 1) := by decide +kernel
theorem dL_law_617 : decode cL_law 617 = .ok (.iload_n 3, 1) := by decide +kernel
theorem dL_law_618 : decode cL_law 618 = .ok (.iconst 1, 1) := by decide +kernel
theorem dL_law_619 : decode cL_law 619 = .ok (.iadd, 1) := by decide +kernel
theorem dL_law_620 : decode cL_law 620 = .ok (.iaload, 1) := by decide +kernel
theorem dL_law_621 : decode cL_law 621 = .ok (.aload_n 0, 1) := by decide +kernel
theorem dL_law_622 : decode cL_law 622 = .ok (.iload_n 3, 1) := by decide +kernel
theorem dL_law_623 : decode cL_law 623 = .ok (.iconst 2, 1) := by decide +kernel
theorem dL_law_624 : decode cL_law 624 = .ok (.iadd, 1) := by decide +kernel
theorem dL_law_625 : decode cL_law 625 = .ok (.iaload, 1) := by decide +kernel
theorem dL_law_626 : decode cL_law 626 = .ok (.invokevirtual 66, 3) := by decide +kernel
theorem dL_law_629 : decode cL_law 629 = .ok (.aload_n 2, 1) := by decide +kernel
theorem dL_law_630 : decode cL_law 630 = .ok (.aload_n 0, 1) := by decide +kernel
theorem dL_law_631 : decode cL_law 631 = .ok (.iload_n 3, 1) := by decide +kernel
theorem dL_law_632 : decode cL_law 632 = .ok (.iconst 1, 1) := by decide +kernel
theorem dL_law_633 : decode cL_law 633 = .ok (.iadd, 1) := by decide +kernel
theorem dL_law_634 : decode cL_law 634 = .ok (.iaload, 1) := by decide +kernel
theorem dL_law_635 : decode cL_law 635 = .ok (.aload_n 0, 1) := by decide +kernel
theorem dL_law_636 : decode cL_law 636 = .ok (.iload_n 3, 1) := by decide +kernel
theorem dL_law_637 : decode cL_law 637 = .ok (.iconst 2, 1) := by decide +kernel
theorem dL_law_638 : decode cL_law 638 = .ok (.iadd, 1) := by decide +kernel
theorem dL_law_639 : decode cL_law 639 = .ok (.iaload, 1) := by decide +kernel
theorem dL_law_640 : decode cL_law 640 = .ok (.invokevirtual 70, 3) := by decide +kernel
theorem dL_law_643 : decode cL_law 643 = .ok (.if_icmp .eq 438, 3) := by decide +kernel
theorem dL_law_646 : decode cL_law 646 = .ok (.iconst 0, 1) := by decide +kernel
theorem dL_law_647 : decode cL_law 647 = .ok (.ireturn, 1) := by decide +kernel
theorem dL_law_648 : decode cL_law 648 = .ok (.aload_n 1, 1) := by decide +kernel
theorem dL_law_649 : decode cL_law 649 = .ok (.aload_n 0, 1) := by decide +kernel
theorem dL_law_650 : decode cL_law 650 = .ok (.iload_n 3, 1) := by decide +kernel
theorem dL_law_651 : decode cL_law 651 = .ok (.iconst 1, 1) := by decide +kernel
theorem dL_law_652 : decode cL_law 652 = .ok (.iadd, 1) := by decide +kernel
theorem dL_law_653 : decode cL_law 653 = .ok (.iaload, 1) := by decide +kernel
theorem dL_law_654 : decode cL_law 654 = .ok (.aload_n 0, 1) := by decide +kernel
theorem dL_law_655 : decode cL_law 655 = .ok (.iload_n 3, 1) := by decide +kernel
theorem dL_law_656 : decode cL_law 656 = .ok (.iconst 2, 1) := by decide +kernel
theorem dL_law_657 : decode cL_law 657 = .ok (.iadd, 1) := by decide +kernel
theorem dL_law_658 : decode cL_law 658 = .ok (.iaload, 1) := by decide +kernel
theorem dL_law_659 : decode cL_law 659 = .ok (.aload_n 0, 1) := by decide +kernel
theorem dL_law_660 : decode cL_law 660 = .ok (.iload_n 3, 1) := by decide +kernel
theorem dL_law_661 : decode cL_law 661 = .ok (.iconst 3, 1) := by decide +kernel
theorem dL_law_662 : decode cL_law 662 = .ok (.iadd, 1) := by decide +kernel
theorem dL_law_663 : decode cL_law 663 = .ok (.iaload, 1) := by decide +kernel
theorem dL_law_664 : decode cL_law 664 = .ok (.aload_n 0, 1) := by decide +kernel
theorem dL_law_665 : decode cL_law 665 = .ok (.iload_n 3, 1) := by decide +kernel
theorem dL_law_666 : decode cL_law 666 = .ok (.iconst 4, 1) := by decide +kernel
theorem dL_law_667 : decode cL_law 667 = .ok (.iadd, 1) := by decide +kernel
theorem dL_law_668 : decode cL_law 668 = .ok (.iaload, 1) := by decide +kernel
theorem dL_law_669 : decode cL_law 669 = .ok (.invokevirtual 71, 3) := by decide +kernel
theorem dL_law_672 : decode cL_law 672 = .ok (.aload_n 2, 1) := by decide +kernel
theorem dL_law_673 : decode cL_law 673 = .ok (.aload_n 0, 1) := by decide +kernel
theorem dL_law_674 : decode cL_law 674 = .ok (.iload_n 3, 1) := by decide +kernel
theorem dL_law_675 : decode cL_law 675 = .ok (.iconst 1, 1) := by decide +kernel
theorem dL_law_676 : decode cL_law 676 = .ok (.iadd, 1) := by decide +kernel
theorem dL_law_677 : decode cL_law 677 = .ok (.iaload, 1) := by decide +kernel
theorem dL_law_678 : decode cL_law 678 = .ok (.aload_n 0, 1) := by decide +kernel
theorem dL_law_679 : decode cL_law 679 = .ok (.iload_n 3, 1) := by decide +kernel
theorem dL_law_680 : decode cL_law 680 = .ok (.iconst 2, 1) := by decide +kernel
theorem dL_law_681 : decode cL_law 681 = .ok (.iadd, 1) := by decide +kernel
theorem dL_law_682 : decode cL_law 682 = .ok (.iaload, 1) := by decide +kernel
theorem dL_law_683 : decode cL_law 683 = .ok (.aload_n 0, 1) := by decide +kernel
theorem dL_law_684 : decode cL_law 684 = .ok (.iload_n 3, 1) := by decide +kernel
theorem dL_law_685 : decode cL_law 685 = .ok (.iconst 3, 1) := by decide +kernel
theorem dL_law_686 : decode cL_law 686 = .ok (.iadd, 1) := by decide +kernel
theorem dL_law_687 : decode cL_law 687 = .ok (.iaload, 1) := by decide +kernel
theorem dL_law_688 : decode cL_law 688 = .ok (.aload_n 0, 1) := by decide +kernel
theorem dL_law_689 : decode cL_law 689 = .ok (.iload_n 3, 1) := by decide +kernel
theorem dL_law_690 : decode cL_law 690 = .ok (.iconst 4, 1) := by decide +kernel
theorem dL_law_691 : decode cL_law 691 = .ok (.iadd, 1) := by decide +kernel
theorem dL_law_692 : decode cL_law 692 = .ok (.iaload, 1) := by decide +kernel
theorem dL_law_693 : decode cL_law 693 = .ok (.invokevirtual 75, 3) := by decide +kernel
theorem dL_law_696 : decode cL_law 696 = .ok (.if_icmp .eq 385, 3) := by decide +kernel
theorem dL_law_699 : decode cL_law 699 = .ok (.iconst 0, 1) := by decide +kernel
theorem dL_law_700 : decode cL_law 700 = .ok (.ireturn, 1) := by decide +kernel
theorem dL_law_701 : decode cL_law 701 = .ok (.aload_n 1, 1) := by decide +kernel
theorem dL_law_702 : decode cL_law 702 = .ok (.invokevirtual 76, 3) := by decide +kernel
theorem dL_law_705 : decode cL_law 705 = .ok (.aload_n 2, 1) := by decide +kernel
theorem dL_law_706 : decode cL_law 706 = .ok (.invokevirtual 79, 3) := by decide +kernel
theorem dL_law_709 : decode cL_law 709 = .ok (.if_icmp .eq 372, 3) := by decide +kernel
theorem dL_law_712 : decode cL_law 712 = .ok (.iconst 0, 1) := by decide +kernel
theorem dL_law_713 : decode cL_law 713 = .ok (.ireturn, 1) := by decide +kernel
theorem dL_law_714 : decode cL_law 714 = .ok (.aload_n 1, 1) := by decide +kernel
theorem dL_law_715 : decode cL_law 715 = .ok (.aload_n 0, 1) := by decide +kernel
theorem dL_law_716 : decode cL_law 716 = .ok (.iload_n 3, 1) := by decide +kernel
theorem dL_law_717 : decode cL_law 717 = .ok (.iconst 1, 1) := by decide +kernel
theorem dL_law_718 : decode cL_law 718 = .ok (.iadd, 1) := by decide +kernel
theorem dL_law_719 : decode cL_law 719 = .ok (.iaload, 1) := by decide +kernel
theorem dL_law_720 : decode cL_law 720 = .ok (.invokevirtual 80, 3) := by decide +kernel
theorem dL_law_723 : decode cL_law 723 = .ok (.aload_n 2, 1) := by decide +kernel
theorem dL_law_724 : decode cL_law 724 = .ok (.aload_n 0, 1) := by decide +kernel
theorem dL_law_725 : decode cL_law 725 = .ok (.iload_n 3, 1) := by decide +kernel
theorem dL_law_726 : decode cL_law 726 = .ok (.iconst 1, 1) := by decide +kernel
theorem dL_law_727 : decode cL_law 727 = .ok (.iadd, 1) := by decide +kernel
theorem dL_law_728 : decode cL_law 728 = .ok (.iaload, 1) := by decide +kernel
theorem dL_law_729 : decode cL_law 729 = .ok (.invokevirtual 83, 3) := by decide +kernel
theorem dL_law_732 : decode cL_law 732 = .ok (.if_icmp .eq 349, 3) := by decide +kernel
theorem dL_law_735 : decode cL_law 735 = .ok (.iconst 0, 1) := by decide +kernel
theorem dL_law_736 : decode cL_law 736 = .ok (.ireturn, 1) := by decide +kernel
theorem dL_law_737 : decode cL_law 737 = .ok (.aload_n 1, 1) := by decide +kernel
theorem dL_law_738 : decode cL_law 738 = .ok (.aload_n 0, 1) := by decide +kernel
theorem dL_law_739 : decode cL_law 739 = .ok (.iload_n 3, 1) := by decide +kernel
theorem dL_law_740 : decode cL_law 740 = .ok (.iconst 1, 1) := by decide +kernel
theorem dL_law_741 : decode cL_law 741 = .ok (.iadd, 1) := by decide +kernel
theorem dL_law_742 : decode cL_law 742 = .ok (.iaload, 1) := by decide +kernel
theorem dL_law_743 : decode cL_law 743 = .ok (.invokevirtual 84, 3) := by decide +kernel
theorem dL_law_746 : decode cL_law 746 = .ok (.aload_n 2, 1) := by decide +kernel
theorem dL_law_747 : decode cL_law 747 = .ok (.aload_n 0, 1) := by decide +kernel
theorem dL_law_748 : decode cL_law 748 = .ok (.iload_n 3, 1) := by decide +kernel
theorem dL_law_749 : decode cL_law 749 = .ok (.iconst 1, 1) := by decide +kernel
theorem dL_law_750 : decode cL_law 750 = .ok (.iadd, 1) := by decide +kernel
theorem dL_law_751 : decode cL_law 751 = .ok (.iaload, 1) := by decide +kernel
theorem dL_law_752 : decode cL_law 752 = .ok (.invokevirtual 87, 3) := by decide +kernel
theorem dL_law_755 : decode cL_law 755 = .ok (.if_icmp .eq 326, 3) := by decide +kernel
theorem dL_law_758 : decode cL_law 758 = .ok (.iconst 0, 1) := by decide +kernel
theorem dL_law_759 : decode cL_law 759 = .ok (.ireturn, 1) := by decide +kernel
theorem dL_law_760 : decode cL_law 760 = .ok (.aload_n 1, 1) := by decide +kernel
theorem dL_law_761 : decode cL_law 761 = .ok (.aload_n 0, 1) := by decide +kernel
theorem dL_law_762 : decode cL_law 762 = .ok (.iload_n 3, 1) := by decide +kernel
theorem dL_law_763 : decode cL_law 763 = .ok (.iconst 1, 1) := by decide +kernel
theorem dL_law_764 : decode cL_law 764 = .ok (.iadd, 1) := by decide +kernel
theorem dL_law_765 : decode cL_law 765 = .ok (.iaload, 1) := by decide +kernel
theorem dL_law_766 : decode cL_law 766 = .ok (.invokevirtual 88, 3) := by decide +kernel
theorem dL_law_769 : decode cL_law 769 = .ok (.aload_n 2, 1) := by decide +kernel
theorem dL_law_770 : decode cL_law 770 = .ok (.aload_n 0, 1) := by decide +kernel
theorem dL_law_771 : decode cL_law 771 = .ok (.iload_n 3, 1) := by decide +kernel
theorem dL_law_772 : decode cL_law 772 = .ok (.iconst 1, 1) := by decide +kernel
theorem dL_law_773 : decode cL_law 773 = .ok (.iadd, 1) := by decide +kernel
theorem dL_law_774 : decode cL_law 774 = .ok (.iaload, 1) := by decide +kernel
theorem dL_law_775 : decode cL_law 775 = .ok (.invokevirtual 91, 3) := by decide +kernel
theorem dL_law_778 : decode cL_law 778 = .ok (.if_icmp .eq 303, 3) := by decide +kernel
theorem dL_law_781 : decode cL_law 781 = .ok (.iconst 0, 1) := by decide +kernel
theorem dL_law_782 : decode cL_law 782 = .ok (.ireturn, 1) := by decide +kernel
theorem dL_law_783 : decode cL_law 783 = .ok (.aload_n 1, 1) := by decide +kernel
theorem dL_law_784 : decode cL_law 784 = .ok (.aload_n 0, 1) := by decide +kernel
theorem dL_law_785 : decode cL_law 785 = .ok (.iload_n 3, 1) := by decide +kernel
theorem dL_law_786 : decode cL_law 786 = .ok (.iconst 1, 1) := by decide +kernel
theorem dL_law_787 : decode cL_law 787 = .ok (.iadd, 1) := by decide +kernel
theorem dL_law_788 : decode cL_law 788 = .ok (.iaload, 1) := by decide +kernel
theorem dL_law_789 : decode cL_law 789 = .ok (.aload_n 0, 1) := by decide +kernel
theorem dL_law_790 : decode cL_law 790 = .ok (.iload_n 3, 1) := by decide +kernel
theorem dL_law_791 : decode cL_law 791 = .ok (.iconst 2, 1) := by decide +kernel
theorem dL_law_792 : decode cL_law 792 = .ok (.iadd, 1) := by decide +kernel
theorem dL_law_793 : decode cL_law 793 = .ok (.iaload, 1) := by decide +kernel
theorem dL_law_794 : decode cL_law 794 = .ok (.aload_n 0, 1) := by decide +kernel
theorem dL_law_795 : decode cL_law 795 = .ok (.iload_n 3, 1) := by decide +kernel
theorem dL_law_796 : decode cL_law 796 = .ok (.iconst 3, 1) := by decide +kernel
theorem dL_law_797 : decode cL_law 797 = .ok (.iadd, 1) := by decide +kernel
theorem dL_law_798 : decode cL_law 798 = .ok (.iaload, 1) := by decide +kernel
theorem dL_law_799 : decode cL_law 799 = .ok (.invokevirtual 92, 3) := by decide +kernel
theorem dL_law_802 : decode cL_law 802 = .ok (.aload_n 2, 1) := by decide +kernel
theorem dL_law_803 : decode cL_law 803 = .ok (.aload_n 0, 1) := by decide +kernel
theorem dL_law_804 : decode cL_law 804 = .ok (.iload_n 3, 1) := by decide +kernel
theorem dL_law_805 : decode cL_law 805 = .ok (.iconst 1, 1) := by decide +kernel
theorem dL_law_806 : decode cL_law 806 = .ok (.iadd, 1) := by decide +kernel
theorem dL_law_807 : decode cL_law 807 = .ok (.iaload, 1) := by decide +kernel
theorem dL_law_808 : decode cL_law 808 = .ok (.aload_n 0, 1) := by decide +kernel
theorem dL_law_809 : decode cL_law 809 = .ok (.iload_n 3, 1) := by decide +kernel
theorem dL_law_810 : decode cL_law 810 = .ok (.iconst 2, 1) := by decide +kernel
theorem dL_law_811 : decode cL_law 811 = .ok (.iadd, 1) := by decide +kernel
theorem dL_law_812 : decode cL_law 812 = .ok (.iaload, 1) := by decide +kernel
theorem dL_law_813 : decode cL_law 813 = .ok (.aload_n 0, 1) := by decide +kernel
theorem dL_law_814 : decode cL_law 814 = .ok (.iload_n 3, 1) := by decide +kernel
theorem dL_law_815 : decode cL_law 815 = .ok (.iconst 3, 1) := by decide +kernel
theorem dL_law_816 : decode cL_law 816 = .ok (.iadd, 1) := by decide +kernel
theorem dL_law_817 : decode cL_law 817 = .ok (.iaload, 1) := by decide +kernel
theorem dL_law_818 : decode cL_law 818 = .ok (.invokevirtual 95, 3) := by decide +kernel
theorem dL_law_821 : decode cL_law 821 = .ok (.if_icmp .eq 260, 3) := by decide +kernel
theorem dL_law_824 : decode cL_law 824 = .ok (.iconst 0, 1) := by decide +kernel
theorem dL_law_825 : decode cL_law 825 = .ok (.ireturn, 1) := by decide +kernel
theorem dL_law_826 : decode cL_law 826 = .ok (.aload_n 1, 1) := by decide +kernel
theorem dL_law_827 : decode cL_law 827 = .ok (.aload_n 0, 1) := by decide +kernel
theorem dL_law_828 : decode cL_law 828 = .ok (.iload_n 3, 1) := by decide +kernel
theorem dL_law_829 : decode cL_law 829 = .ok (.iconst 1, 1) := by decide +kernel
theorem dL_law_830 : decode cL_law 830 = .ok (.iadd, 1) := by decide +kernel
theorem dL_law_831 : decode cL_law 831 = .ok (.iaload, 1) := by decide +kernel
theorem dL_law_832 : decode cL_law 832 = .ok (.invokevirtual 96, 3) := by decide +kernel
theorem dL_law_835 : decode cL_law 835 = .ok (.aload_n 2, 1) := by decide +kernel
theorem dL_law_836 : decode cL_law 836 = .ok (.aload_n 0, 1) := by decide +kernel
theorem dL_law_837 : decode cL_law 837 = .ok (.iload_n 3, 1) := by decide +kernel
theorem dL_law_838 : decode cL_law 838 = .ok (.iconst 1, 1) := by decide +kernel
theorem dL_law_839 : decode cL_law 839 = .ok (.iadd, 1) := by decide +kernel
theorem dL_law_840 : decode cL_law 840 = .ok (.iaload, 1) := by decide +kernel
theorem dL_law_841 : decode cL_law 841 = .ok (.invokevirtual 99, 3) := by decide +kernel
theorem dL_law_844 : decode cL_law 844 = .ok (.if_icmp .eq 237, 3) := by decide +kernel
theorem dL_law_847 : decode cL_law 847 = .ok (.iconst 0, 1) := by decide +kernel
theorem dL_law_848 : decode cL_law 848 = .ok (.ireturn, 1) := by decide +kernel
theorem dL_law_849 : decode cL_law 849 = .ok (.aload_n 1, 1) := by decide +kernel
theorem dL_law_850 : decode cL_law 850 = .ok (.aload_n 0, 1) := by decide +kernel
theorem dL_law_851 : decode cL_law 851 = .ok (.iload_n 3, 1) := by decide +kernel
theorem dL_law_852 : decode cL_law 852 = .ok (.iconst 1, 1) := by decide +kernel
theorem dL_law_853 : decode cL_law 853 = .ok (.iadd, 1) := by decide +kernel
theorem dL_law_854 : decode cL_law 854 = .ok (.iaload, 1) := by decide +kernel
theorem dL_law_855 : decode cL_law 855 = .ok (.aload_n 0, 1) := by decide +kernel
theorem dL_law_856 : decode cL_law 856 = .ok (.iload_n 3, 1) := by decide +kernel
theorem dL_law_857 : decode cL_law 857 = .ok (.iconst 2, 1) := by decide +kernel
theorem dL_law_858 : decode cL_law 858 = .ok (.iadd, 1) := by decide +kernel
theorem dL_law_859 : decode cL_law 859 = .ok (.iaload, 1) := by decide +kernel
theorem dL_law_860 : decode cL_law 860 = .ok (.invokevirtual 100, 3) := by decide +kernel
theorem dL_law_863 : decode cL_law 863 = .ok (.aload_n 2, 1) := by decide +kernel
theorem dL_law_864 : decode cL_law 864 = .ok (.aload_n 0, 1) := by decide +kernel
theorem dL_law_865 : decode cL_law 865 = .ok (.iload_n 3, 1) := by decide +kernel
theorem dL_law_866 : decode cL_law 866 = .ok (.iconst 1, 1) := by decide +kernel
theorem dL_law_867 : decode cL_law 867 = .ok (.iadd, 1) := by decide +kernel
theorem dL_law_868 : decode cL_law 868 = .ok (.iaload, 1) := by decide +kernel
theorem dL_law_869 : decode cL_law 869 = .ok (.aload_n 0, 1) := by decide +kernel
theorem dL_law_870 : decode cL_law 870 = .ok (.iload_n 3, 1) := by decide +kernel
theorem dL_law_871 : decode cL_law 871 = .ok (.iconst 2, 1) := by decide +kernel
theorem dL_law_872 : decode cL_law 872 = .ok (.iadd, 1) := by decide +kernel
theorem dL_law_873 : decode cL_law 873 = .ok (.iaload, 1) := by decide +kernel
theorem dL_law_874 : decode cL_law 874 = .ok (.invokevirtual 103, 3) := by decide +kernel
theorem dL_law_877 : decode cL_law 877 = .ok (.if_icmp .eq 204, 3) := by decide +kernel
theorem dL_law_880 : decode cL_law 880 = .ok (.iconst 0, 1) := by decide +kernel
theorem dL_law_881 : decode cL_law 881 = .ok (.ireturn, 1) := by decide +kernel
theorem dL_law_882 : decode cL_law 882 = .ok (.aload_n 1, 1) := by decide +kernel
theorem dL_law_883 : decode cL_law 883 = .ok (.aload_n 0, 1) := by decide +kernel
theorem dL_law_884 : decode cL_law 884 = .ok (.iload_n 3, 1) := by decide +kernel
theorem dL_law_885 : decode cL_law 885 = .ok (.iconst 1, 1) := by decide +kernel
theorem dL_law_886 : decode cL_law 886 = .ok (.iadd, 1) := by decide +kernel
theorem dL_law_887 : decode cL_law 887 = .ok (.iaload, 1) := by decide +kernel
theorem dL_law_888 : decode cL_law 888 = .ok (.invokevirtual 104, 3) := by decide +kernel
theorem dL_law_891 : decode cL_law 891 = .ok (.aload_n 2, 1) := by decide +kernel
theorem dL_law_892 : decode cL_law 892 = .ok (.aload_n 0, 1) := by decide +kernel
theorem dL_law_893 : decode cL_law 893 = .ok (.iload_n 3, 1) := by decide +kernel
theorem dL_law_894 : decode cL_law 894 = .ok (.iconst 1, 1) := by decide +kernel
theorem dL_law_895 : decode cL_law 895 = .ok (.iadd, 1) := by decide +kernel
theorem dL_law_896 : decode cL_law 896 = .ok (.iaload, 1) := by decide +kernel
theorem dL_law_897 : decode cL_law 897 = .ok (.invokevirtual 107, 3) := by decide +kernel
theorem dL_law_900 : decode cL_law 900 = .ok (.if_icmp .eq 181, 3) := by decide +kernel
theorem dL_law_903 : decode cL_law 903 = .ok (.iconst 0, 1) := by decide +kernel
theorem dL_law_904 : decode cL_law 904 = .ok (.ireturn, 1) := by decide +kernel
theorem dL_law_905 : decode cL_law 905 = .ok (.aload_n 1, 1) := by decide +kernel
theorem dL_law_906 : decode cL_law 906 = .ok (.invokevirtual 108, 3) := by decide +kernel
theorem dL_law_909 : decode cL_law 909 = .ok (.aload_n 2, 1) := by decide +kernel
theorem dL_law_910 : decode cL_law 910 = .ok (.invokevirtual 111, 3) := by decide +kernel
theorem dL_law_913 : decode cL_law 913 = .ok (.if_icmp .eq 168, 3) := by decide +kernel
theorem dL_law_916 : decode cL_law 916 = .ok (.iconst 0, 1) := by decide +kernel
theorem dL_law_917 : decode cL_law 917 = .ok (.ireturn, 1) := by decide +kernel
theorem dL_law_918 : decode cL_law 918 = .ok (.aload_n 1, 1) := by decide +kernel
theorem dL_law_919 : decode cL_law 919 = .ok (.aload_n 0, 1) := by decide +kernel
theorem dL_law_920 : decode cL_law 920 = .ok (.iload_n 3, 1) := by decide +kernel
theorem dL_law_921 : decode cL_law 921 = .ok (.iconst 1, 1) := by decide +kernel
theorem dL_law_922 : decode cL_law 922 = .ok (.iadd, 1) := by decide +kernel
theorem dL_law_923 : decode cL_law 923 = .ok (.iaload, 1) := by decide +kernel
theorem dL_law_924 : decode cL_law 924 = .ok (.aload_n 0, 1) := by decide +kernel
theorem dL_law_925 : decode cL_law 925 = .ok (.iload_n 3, 1) := by decide +kernel
theorem dL_law_926 : decode cL_law 926 = .ok (.iconst 2, 1) := by decide +kernel
theorem dL_law_927 : decode cL_law 927 = .ok (.iadd, 1) := by decide +kernel
theorem dL_law_928 : decode cL_law 928 = .ok (.iaload, 1) := by decide +kernel
theorem dL_law_929 : decode cL_law 929 = .ok (.invokevirtual 112, 3) := by decide +kernel
theorem dL_law_932 : decode cL_law 932 = .ok (.aload_n 2, 1) := by decide +kernel
theorem dL_law_933 : decode cL_law 933 = .ok (.aload_n 0, 1) := by decide +kernel
theorem dL_law_934 : decode cL_law 934 = .ok (.iload_n 3, 1) := by decide +kernel
theorem dL_law_935 : decode cL_law 935 = .ok (.iconst 1, 1) := by decide +kernel
theorem dL_law_936 : decode cL_law 936 = .ok (.iadd, 1) := by decide +kernel
theorem dL_law_937 : decode cL_law 937 = .ok (.iaload, 1) := by decide +kernel
theorem dL_law_938 : decode cL_law 938 = .ok (.aload_n 0, 1) := by decide +kernel
theorem dL_law_939 : decode cL_law 939 = .ok (.iload_n 3, 1) := by decide +kernel
theorem dL_law_940 : decode cL_law 940 = .ok (.iconst 2, 1) := by decide +kernel
theorem dL_law_941 : decode cL_law 941 = .ok (.iadd, 1) := by decide +kernel
theorem dL_law_942 : decode cL_law 942 = .ok (.iaload, 1) := by decide +kernel
theorem dL_law_943 : decode cL_law 943 = .ok (.invokevirtual 115, 3) := by decide +kernel
theorem dL_law_946 : decode cL_law 946 = .ok (.if_icmp .eq 135, 3) := by decide +kernel
theorem dL_law_949 : decode cL_law 949 = .ok (.iconst 0, 1) := by decide +kernel
theorem dL_law_950 : decode cL_law 950 = .ok (.ireturn, 1) := by decide +kernel
theorem dL_law_951 : decode cL_law 951 = .ok (.aload_n 1, 1) := by decide +kernel
theorem dL_law_952 : decode cL_law 952 = .ok (.aload_n 0, 1) := by decide +kernel
theorem dL_law_953 : decode cL_law 953 = .ok (.iload_n 3, 1) := by decide +kernel
theorem dL_law_954 : decode cL_law 954 = .ok (.iconst 1, 1) := by decide +kernel
theorem dL_law_955 : decode cL_law 955 = .ok (.iadd, 1) := by decide +kernel
theorem dL_law_956 : decode cL_law 956 = .ok (.iaload, 1) := by decide +kernel
theorem dL_law_957 : decode cL_law 957 = .ok (.invokevirtual 116, 3) := by decide +kernel
theorem dL_law_960 : decode cL_law 960 = .ok (.aload_n 2, 1) := by decide +kernel
theorem dL_law_961 : decode cL_law 961 = .ok (.aload_n 0, 1) := by decide +kernel
theorem dL_law_962 : decode cL_law 962 = .ok (.iload_n 3, 1) := by decide +kernel
theorem dL_law_963 : decode cL_law 963 = .ok (.iconst 1, 1) := by decide +kernel
theorem dL_law_964 : decode cL_law 964 = .ok (.iadd, 1) := by decide +kernel
theorem dL_law_965 : decode cL_law 965 = .ok (.iaload, 1) := by decide +kernel
theorem dL_law_966 : decode cL_law 966 = .ok (.invokevirtual 120, 3) := by decide +kernel
theorem dL_law_969 : decode cL_law 969 = .ok (.lcmp, 1) := by decide +kernel
theorem dL_law_970 : decode cL_law 970 = .ok (.ifCond .eq 111, 3) := by decide +kernel
theorem dL_law_973 : decode cL_law 973 = .ok (.iconst 0, 1) := by decide +kernel
theorem dL_law_974 : decode cL_law 974 = .ok (.ireturn, 1) := by decide +kernel
theorem dL_law_975 : decode cL_law 975 = .ok (.aload_n 1, 1) := by decide +kernel
theorem dL_law_976 : decode cL_law 976 = .ok (.aload_n 0, 1) := by decide +kernel
theorem dL_law_977 : decode cL_law 977 = .ok (.iload_n 3, 1) := by decide +kernel
theorem dL_law_978 : decode cL_law 978 = .ok (.iconst 1, 1) := by decide +kernel
theorem dL_law_979 : decode cL_law 979 = .ok (.iadd, 1) := by decide +kernel
theorem dL_law_980 : decode cL_law 980 = .ok (.iaload, 1) := by decide +kernel
theorem dL_law_981 : decode cL_law 981 = .ok (.invokevirtual 121, 3) := by decide +kernel
theorem dL_law_984 : decode cL_law 984 = .ok (.aload_n 2, 1) := by decide +kernel
theorem dL_law_985 : decode cL_law 985 = .ok (.aload_n 0, 1) := by decide +kernel
theorem dL_law_986 : decode cL_law 986 = .ok (.iload_n 3, 1) := by decide +kernel
theorem dL_law_987 : decode cL_law 987 = .ok (.iconst 1, 1) := by decide +kernel
theorem dL_law_988 : decode cL_law 988 = .ok (.iadd, 1) := by decide +kernel
theorem dL_law_989 : decode cL_law 989 = .ok (.iaload, 1) := by decide +kernel
theorem dL_law_990 : decode cL_law 990 = .ok (.invokevirtual 124, 3) := by decide +kernel
theorem dL_law_993 : decode cL_law 993 = .ok (.if_icmp .eq 88, 3) := by decide +kernel
theorem dL_law_996 : decode cL_law 996 = .ok (.iconst 0, 1) := by decide +kernel
theorem dL_law_997 : decode cL_law 997 = .ok (.ireturn, 1) := by decide +kernel
theorem dL_law_998 : decode cL_law 998 = .ok (.aload_n 1, 1) := by decide +kernel
theorem dL_law_999 : decode cL_law 999 = .ok (.aload_n 0, 1) := by decide +kernel
theorem dL_law_1000 : decode cL_law 1000 = .ok (.iload_n 3, 1) := by decide +kernel
theorem dL_law_1001 : decode cL_law 1001 = .ok (.iconst 1, 1) := by decide +kernel
theorem dL_law_1002 : decode cL_law 1002 = .ok (.iadd, 1) := by decide +kernel
theorem dL_law_1003 : decode cL_law 1003 = .ok (.iaload, 1) := by decide +kernel
theorem dL_law_1004 : decode cL_law 1004 = .ok (.invokevirtual 125, 3) := by decide +kernel
theorem dL_law_1007 : decode cL_law 1007 = .ok (.aload_n 2, 1) := by decide +kernel
theorem dL_law_1008 : decode cL_law 1008 = .ok (.aload_n 0, 1) := by decide +kernel
theorem dL_law_1009 : decode cL_law 1009 = .ok (.iload_n 3, 1) := by decide +kernel
theorem dL_law_1010 : decode cL_law 1010 = .ok (.iconst 1, 1) := by decide +kernel
theorem dL_law_1011 : decode cL_law 1011 = .ok (.iadd, 1) := by decide +kernel
theorem dL_law_1012 : decode cL_law 1012 = .ok (.iaload, 1) := by decide +kernel
theorem dL_law_1013 : decode cL_law 1013 = .ok (.invokevirtual 128, 3) := by decide +kernel
theorem dL_law_1016 : decode cL_law 1016 = .ok (.if_icmp .eq 65, 3) := by decide +kernel
theorem dL_law_1019 : decode cL_law 1019 = .ok (.iconst 0, 1) := by decide +kernel
theorem dL_law_1020 : decode cL_law 1020 = .ok (.ireturn, 1) := by decide +kernel
theorem dL_law_1021 : decode cL_law 1021 = .ok (.aload_n 1, 1) := by decide +kernel
theorem dL_law_1022 : decode cL_law 1022 = .ok (.aload_n 0, 1) := by decide +kernel
theorem dL_law_1023 : decode cL_law 1023 = .ok (.iload_n 3, 1) := by decide +kernel
theorem dL_law_1024 : decode cL_law 1024 = .ok (.iconst 1, 1) := by decide +kernel
theorem dL_law_1025 : decode cL_law 1025 = .ok (.iadd, 1) := by decide +kernel
theorem dL_law_1026 : decode cL_law 1026 = .ok (.iaload, 1) := by decide +kernel
theorem dL_law_1027 : decode cL_law 1027 = .ok (.invokevirtual 129, 3) := by decide +kernel
theorem dL_law_1030 : decode cL_law 1030 = .ok (.aload_n 2, 1) := by decide +kernel
theorem dL_law_1031 : decode cL_law 1031 = .ok (.aload_n 0, 1) := by decide +kernel
theorem dL_law_1032 : decode cL_law 1032 = .ok (.iload_n 3, 1) := by decide +kernel
theorem dL_law_1033 : decode cL_law 1033 = .ok (.iconst 1, 1) := by decide +kernel
theorem dL_law_1034 : decode cL_law 1034 = .ok (.iadd, 1) := by decide +kernel
theorem dL_law_1035 : decode cL_law 1035 = .ok (.iaload, 1) := by decide +kernel
theorem dL_law_1036 : decode cL_law 1036 = .ok (.invokevirtual 132, 3) := by decide +kernel
theorem dL_law_1039 : decode cL_law 1039 = .ok (.if_icmp .eq 42, 3) := by decide +kernel
theorem dL_law_1042 : decode cL_law 1042 = .ok (.iconst 0, 1) := by decide +kernel
theorem dL_law_1043 : decode cL_law 1043 = .ok (.ireturn, 1) := by decide +kernel
theorem dL_law_1044 : decode cL_law 1044 = .ok (.aload_n 1, 1) := by decide +kernel
theorem dL_law_1045 : decode cL_law 1045 = .ok (.aload_n 0, 1) := by decide +kernel
theorem dL_law_1046 : decode cL_law 1046 = .ok (.iload_n 3, 1) := by decide +kernel
theorem dL_law_1047 : decode cL_law 1047 = .ok (.iconst 1, 1) := by decide +kernel
theorem dL_law_1048 : decode cL_law 1048 = .ok (.iadd, 1) := by decide +kernel
theorem dL_law_1049 : decode cL_law 1049 = .ok (.iaload, 1) := by decide +kernel
theorem dL_law_1050 : decode cL_law 1050 = .ok (.invokevirtual 133, 3) := by decide +kernel
theorem dL_law_1053 : decode cL_law 1053 = .ok (.aload_n 2, 1) := by decide +kernel
theorem dL_law_1054 : decode cL_law 1054 = .ok (.aload_n 0, 1) := by decide +kernel
theorem dL_law_1055 : decode cL_law 1055 = .ok (.iload_n 3, 1) := by decide +kernel
theorem dL_law_1056 : decode cL_law 1056 = .ok (.iconst 1, 1) := by decide +kernel
theorem dL_law_1057 : decode cL_law 1057 = .ok (.iadd, 1) := by decide +kernel
theorem dL_law_1058 : decode cL_law 1058 = .ok (.iaload, 1) := by decide +kernel
theorem dL_law_1059 : decode cL_law 1059 = .ok (.invokevirtual 136, 3) := by decide +kernel
theorem dL_law_1062 : decode cL_law 1062 = .ok (.if_icmp .eq 19, 3) := by decide +kernel
theorem dL_law_1065 : decode cL_law 1065 = .ok (.iconst 0, 1) := by decide +kernel
theorem dL_law_1066 : decode cL_law 1066 = .ok (.ireturn, 1) := by decide +kernel
theorem dL_law_1067 : decode cL_law 1067 = .ok (.aload_n 1, 1) := by decide +kernel
theorem dL_law_1068 : decode cL_law 1068 = .ok (.invokevirtual 137, 3) := by decide +kernel
theorem dL_law_1071 : decode cL_law 1071 = .ok (.aload_n 2, 1) := by decide +kernel
theorem dL_law_1072 : decode cL_law 1072 = .ok (.invokevirtual 141, 3) := by decide +kernel
theorem dL_law_1075 : decode cL_law 1075 = .ok (.lcmp, 1) := by decide +kernel
theorem dL_law_1076 : decode cL_law 1076 = .ok (.ifCond .eq 5, 3) := by decide +kernel
theorem dL_law_1079 : decode cL_law 1079 = .ok (.iconst 0, 1) := by decide +kernel
theorem dL_law_1080 : decode cL_law 1080 = .ok (.ireturn, 1) := by decide +kernel
theorem dL_law_1081 : decode cL_law 1081 = .ok (.iinc 3 7, 3) := by decide +kernel
theorem dL_law_1084 : decode cL_law 1084 = .ok (.goto (-1066), 3) := by decide +kernel
theorem dL_law_1087 : decode cL_law 1087 = .ok (.iconst 1, 1) := by decide +kernel
theorem dL_law_1088 : decode cL_law 1088 = .ok (.ireturn, 1) := by decide +kernel
