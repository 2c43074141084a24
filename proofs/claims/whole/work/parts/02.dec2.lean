theorem dX4_status_46 : decode cX4_status 46 = .ok (.invokevirtual 51, 3) := by decide +kernel
theorem dX4_status_49 : decode cX4_status 49 = .ok (.pop, 1) := by decide +kernel
theorem dX4_status_50 : decode cX4_status 50 = .ok (.iconst (-1), 1) := by decide +kernel
theorem dX4_status_51 : decode cX4_status 51 = .ok (.ireturn, 1) := by decide +kernel
theorem dX4_count_0 : decode cX4_count 0 = .ok (.iload_n 1, 1) := by decide +kernel
theorem dX4_count_1 : decode cX4_count 1 = .ok (.tableswitch 99 0 5 #[39, 50, 61, 72, 83, 91], 39) := by decide +kernel
theorem dX4_count_40 : decode cX4_count 40 = .ok (.aload_n 0, 1) := by decide +kernel
theorem dX4_count_41 : decode cX4_count 41 = .ok (.getfield 10, 3) := by decide +kernel
theorem dX4_count_44 : decode cX4_count 44 = .ok (.getfield 55, 3) := by decide +kernel
theorem dX4_count_47 : decode cX4_count 47 = .ok (.getfield 58, 3) := by decide +kernel
theorem dX4_count_50 : decode cX4_count 50 = .ok (.ireturn, 1) := by decide +kernel
theorem dX4_count_51 : decode cX4_count 51 = .ok (.aload_n 0, 1) := by decide +kernel
theorem dX4_count_52 : decode cX4_count 52 = .ok (.getfield 10, 3) := by decide +kernel
theorem dX4_count_55 : decode cX4_count 55 = .ok (.getfield 55, 3) := by decide +kernel
theorem dX4_count_58 : decode cX4_count 58 = .ok (.getfield 66, 3) := by decide +kernel
theorem dX4_count_61 : decode cX4_count 61 = .ok (.ireturn, 1) := by decide +kernel
theorem dX4_count_62 : decode cX4_count 62 = .ok (.aload_n 0, 1) := by decide +kernel
theorem dX4_count_63 : decode cX4_count 63 = .ok (.getfield 10, 3) := by decide +kernel
theorem dX4_count_66 : decode cX4_count 66 = .ok (.getfield 55, 3) := by decide +kernel
theorem dX4_count_69 : decode cX4_count 69 = .ok (.invokevirtual 225, 3) := by decide +kernel
theorem dX4_count_72 : decode cX4_count 72 = .ok (.ireturn, 1) := by decide +kernel
theorem dX4_count_73 : decode cX4_count 73 = .ok (.aload_n 0, 1) := by decide +kernel
theorem dX4_count_74 : decode cX4_count 74 = .ok (.getfield 10, 3) := by decide +kernel
theorem dX4_count_77 : decode cX4_count 77 = .ok (.getfield 55, 3) := by decide +kernel
theorem dX4_count_80 : decode cX4_count 80 = .ok (.getfield 228, 3) := by decide +kernel
theorem dX4_count_83 : decode cX4_count 83 = .ok (.ireturn, 1) := by decide +kernel
theorem dX4_count_84 : decode cX4_count 84 = .ok (.aload_n 0, 1) := by decide +kernel
theorem dX4_count_85 : decode cX4_count 85 = .ok (.getfield 10, 3) := by decide +kernel
theorem dX4_count_88 : decode cX4_count 88 = .ok (.getfield 106, 3) := by decide +kernel
theorem dX4_count_91 : decode cX4_count 91 = .ok (.ireturn, 1) := by decide +kernel
theorem dX4_count_92 : decode cX4_count 92 = .ok (.aload_n 0, 1) := by decide +kernel
theorem dX4_count_93 : decode cX4_count 93 = .ok (.getfield 25, 3) := by decide +kernel
theorem dX4_count_96 : decode cX4_count 96 = .ok (.getfield 91, 3) := by decide +kernel
theorem dX4_count_99 : decode cX4_count 99 = .ok (.ireturn, 1) := by decide +kernel
theorem dX4_count_100 : decode cX4_count 100 = .ok (.aload_n 0, 1) := by decide +kernel
theorem dX4_count_101 : decode cX4_count 101 = .ok (.bipush (-2), 2) := by decide +kernel
theorem dX4_count_103 : decode cX4_count 103 = .ok (.invokevirtual 51, 3) := by decide +kernel
theorem dX4_count_106 : decode cX4_count 106 = .ok (.ireturn, 1) := by decide +kernel
theorem dX4_digest_0 : decode cX4_digest 0 = .ok (.ldc2_w 231, 3) := by decide +kernel
theorem dX4_digest_3 : decode cX4_digest 3 = .ok (.lstore_n 1, 1) := by decide +kernel
theorem dX4_digest_4 : decode cX4_digest 4 = .ok (.iconst 0, 1) := by decide +kernel
theorem dX4_digest_5 : decode cX4_digest 5 = .ok (.istore_n 3, 1) := by decide +kernel
theorem dX4_digest_6 : decode cX4_digest 6 = .ok (.iload_n 3, 1) := by decide +kernel
theorem dX4_digest_7 : decode cX4_digest 7 = .ok (.iconst 5, 1) := by decide +kernel
theorem dX4_digest_8 : decode cX4_digest 8 = .ok (.if_icmp .gt 22, 3) := by decide +kernel
theorem dX4_digest_11 : decode cX4_digest 11 = .ok (.ldc2_w 233, 3) := by decide +kernel
theorem dX4_digest_14 : decode cX4_digest 14 = .ok (.lload_n 1, 1) := by decide +kernel
theorem dX4_digest_15 : decode cX4_digest 15 = .ok (.lmul, 1) := by decide +kernel
theorem dX4_digest_16 : decode cX4_digest 16 = .ok (.aload_n 0, 1) := by decide +kernel
theorem dX4_digest_17 : decode cX4_digest 17 = .ok (.iload_n 3, 1) := by decide +kernel
theorem dX4_digest_18 : decode cX4_digest 18 = .ok (.invokevirtual 235, 3) := by decide +kernel
theorem dX4_digest_21 : decode cX4_digest 21 = .ok (.i2l, 1) := by decide +kernel
theorem dX4_digest_22 : decode cX4_digest 22 = .ok (.ladd, 1) := by decide +kernel
theorem dX4_digest_23 : decode cX4_digest 23 = .ok (.lstore_n 1, 1) := by decide +kernel
theorem dX4_digest_24 : decode cX4_digest 24 = .ok (.iinc 3 1, 3) := by decide +kernel
theorem dX4_digest_27 : decode cX4_digest 27 = .ok (.goto (-21), 3) := by decide +kernel
theorem dX4_digest_30 : decode cX4_digest 30 = .ok (.aload_n 0, 1) := by decide +kernel
theorem dX4_digest_31 : decode cX4_digest 31 = .ok (.getfield 10, 3) := by decide +kernel
theorem dX4_digest_34 : decode cX4_digest 34 = .ok (.getfield 55, 3) := by decide +kernel
theorem dX4_digest_37 : decode cX4_digest 37 = .ok (.lload_n 1, 1) := by decide +kernel
theorem dX4_digest_38 : decode cX4_digest 38 = .ok (.invokevirtual 238, 3) := by decide +kernel
theorem dX4_digest_41 : decode cX4_digest 41 = .ok (.lstore_n 1, 1) := by decide +kernel
theorem dX4_digest_42 : decode cX4_digest 42 = .ok (.aload_n 0, 1) := by decide +kernel
theorem dX4_digest_43 : decode cX4_digest 43 = .ok (.getfield 10, 3) := by decide +kernel
theorem dX4_digest_46 : decode cX4_digest 46 = .ok (.getfield 55, 3) := by decide +kernel
theorem dX4_digest_49 : decode cX4_digest 49 = .ok (.lload_n 1, 1) := by decide +kernel
theorem dX4_digest_50 : decode cX4_digest 50 = .ok (.invokevirtual 242, 3) := by decide +kernel
theorem dX4_digest_53 : decode cX4_digest 53 = .ok (.lstore_n 1, 1) := by decide +kernel
theorem dX4_digest_54 : decode cX4_digest 54 = .ok (.aload_n 0, 1) := by decide +kernel
theorem dX4_digest_55 : decode cX4_digest 55 = .ok (.getfield 10, 3) := by decide +kernel
theorem dX4_digest_58 : decode cX4_digest 58 = .ok (.getfield 55, 3) := by decide +kernel
theorem dX4_digest_61 : decode cX4_digest 61 = .ok (.lload_n 1, 1) := by decide +kernel
theorem dX4_digest_62 : decode cX4_digest 62 = .ok (.invokevirtual 245, 3) := by decide +kernel
theorem dX4_digest_65 : decode cX4_digest 65 = .ok (.lstore_n 1, 1) := by decide +kernel
theorem dX4_digest_66 : decode cX4_digest 66 = .ok (.ldc2_w 233, 3) := by decide +kernel
theorem dX4_digest_69 : decode cX4_digest 69 = .ok (.lload_n 1, 1) := by decide +kernel
theorem dX4_digest_70 : decode cX4_digest 70 = .ok (.lmul, 1) := by decide +kernel
theorem dX4_digest_71 : decode cX4_digest 71 = .ok (.aload_n 0, 1) := by decide +kernel
theorem dX4_digest_72 : decode cX4_digest 72 = .ok (.getfield 32, 3) := by decide +kernel
theorem dX4_digest_75 : decode cX4_digest 75 = .ok (.getfield 202, 3) := by decide +kernel
theorem dX4_digest_78 : decode cX4_digest 78 = .ok (.ladd, 1) := by decide +kernel
theorem dX4_digest_79 : decode cX4_digest 79 = .ok (.lstore_n 1, 1) := by decide +kernel
theorem dX4_digest_80 : decode cX4_digest 80 = .ok (.ldc2_w 233, 3) := by decide +kernel
theorem dX4_digest_83 : decode cX4_digest 83 = .ok (.lload_n 1, 1) := by decide +kernel
theorem dX4_digest_84 : decode cX4_digest 84 = .ok (.lmul, 1) := by decide +kernel
theorem dX4_digest_85 : decode cX4_digest 85 = .ok (.aload_n 0, 1) := by decide +kernel
theorem dX4_digest_86 : decode cX4_digest 86 = .ok (.getfield 32, 3) := by decide +kernel
theorem dX4_digest_89 : decode cX4_digest 89 = .ok (.getfield 206, 3) := by decide +kernel
theorem dX4_digest_92 : decode cX4_digest 92 = .ok (.ladd, 1) := by decide +kernel
theorem dX4_digest_93 : decode cX4_digest 93 = .ok (.lreturn, 1) := by decide +kernel
theorem dX4_refuse_0 : decode cX4_refuse 0 = .ok (.iload_n 1, 1) := by decide +kernel
theorem dX4_refuse_1 : decode cX4_refuse 1 = .ok (.bipush (-2), 2) := by decide +kernel
theorem dX4_refuse_3 : decode cX4_refuse 3 = .ok (.if_icmp .ne 16, 3) := by decide +kernel
theorem dX4_refuse_6 : decode cX4_refuse 6 = .ok (.aload_n 0, 1) := by decide +kernel
theorem dX4_refuse_7 : decode cX4_refuse 7 = .ok (.dup, 1) := by decide +kernel
theorem dX4_refuse_8 : decode cX4_refuse 8 = .ok (.getfield 216, 3) := by decide +kernel
theorem dX4_refuse_11 : decode cX4_refuse 11 = .ok (.iconst 1, 1) := by decide +kernel
theorem dX4_refuse_12 : decode cX4_refuse 12 = .ok (.iadd, 1) := by decide +kernel
theorem dX4_refuse_13 : decode cX4_refuse 13 = .ok (.putfield 216, 3) := by decide +kernel
theorem dX4_refuse_16 : decode cX4_refuse 16 = .ok (.goto 32, 3) := by decide +kernel
theorem dX4_refuse_19 : decode cX4_refuse 19 = .ok (.iload_n 1, 1) := by decide +kernel
theorem dX4_refuse_20 : decode cX4_refuse 20 = .ok (.bipush (-3), 2) := by decide +kernel
theorem dX4_refuse_22 : decode cX4_refuse 22 = .ok (.if_icmp .ne 16, 3) := by decide +kernel
theorem dX4_refuse_25 : decode cX4_refuse 25 = .ok (.aload_n 0, 1) := by decide +kernel
theorem dX4_refuse_26 : decode cX4_refuse 26 = .ok (.dup, 1) := by decide +kernel
theorem dX4_refuse_27 : decode cX4_refuse 27 = .ok (.getfield 219, 3) := by decide +kernel
theorem dX4_refuse_30 : decode cX4_refuse 30 = .ok (.iconst 1, 1) := by decide +kernel
theorem dX4_refuse_31 : decode cX4_refuse 31 = .ok (.iadd, 1) := by decide +kernel
theorem dX4_refuse_32 : decode cX4_refuse 32 = .ok (.putfield 219, 3) := by decide +kernel
theorem dX4_refuse_35 : decode cX4_refuse 35 = .ok (.goto 13, 3) := by decide +kernel
theorem dX4_refuse_38 : decode cX4_refuse 38 = .ok (.aload_n 0, 1) := by decide +kernel
theorem dX4_refuse_39 : decode cX4_refuse 39 = .ok (.dup, 1) := by decide +kernel
theorem dX4_refuse_40 : decode cX4_refuse 40 = .ok (.getfield 222, 3) := by decide +kernel
theorem dX4_refuse_43 : decode cX4_refuse 43 = .ok (.iconst 1, 1) := by decide +kernel
theorem dX4_refuse_44 : decode cX4_refuse 44 = .ok (.iadd, 1) := by decide +kernel
theorem dX4_refuse_45 : decode cX4_refuse 45 = .ok (.putfield 222, 3) := by decide +kernel
theorem dX4_refuse_48 : decode cX4_refuse 48 = .ok (.iload_n 1, 1) := by decide +kernel
theorem dX4_refuse_49 : decode cX4_refuse 49 = .ok (.ireturn, 1) := by decide +kernel
theorem dX4_isRoof_0 : decode cX4_isRoof 0 = .ok (.iload_n 1, 1) := by decide +kernel
theorem dX4_isRoof_1 : decode cX4_isRoof 1 = .ok (.iconst 0, 1) := by decide +kernel
theorem dX4_isRoof_2 : decode cX4_isRoof 2 = .ok (.aload_n 0, 1) := by decide +kernel
theorem dX4_isRoof_3 : decode cX4_isRoof 3 = .ok (.getfield 10, 3) := by decide +kernel
theorem dX4_isRoof_6 : decode cX4_isRoof 6 = .ok (.getfield 55, 3) := by decide +kernel
theorem dX4_isRoof_9 : decode cX4_isRoof 9 = .ok (.getfield 58, 3) := by decide +kernel
theorem dX4_isRoof_12 : decode cX4_isRoof 12 = .ok (.iconst 1, 1) := by decide +kernel
theorem dX4_isRoof_13 : decode cX4_isRoof 13 = .ok (.isub, 1) := by decide +kernel
theorem dX4_isRoof_14 : decode cX4_isRoof 14 = .ok (.invokestatic 43, 3) := by decide +kernel
theorem dX4_isRoof_17 : decode cX4_isRoof 17 = .ok (.ireturn, 1) := by decide +kernel
theorem dX4_isStorm_0 : decode cX4_isStorm 0 = .ok (.iload_n 1, 1) := by decide +kernel
theorem dX4_isStorm_1 : decode cX4_isStorm 1 = .ok (.iconst 0, 1) := by decide +kernel
theorem dX4_isStorm_2 : decode cX4_isStorm 2 = .ok (.aload_n 0, 1) := by decide +kernel
theorem dX4_isStorm_3 : decode cX4_isStorm 3 = .ok (.getfield 10, 3) := by decide +kernel
theorem dX4_isStorm_6 : decode cX4_isStorm 6 = .ok (.getfield 55, 3) := by decide +kernel
theorem dX4_isStorm_9 : decode cX4_isStorm 9 = .ok (.getfield 66, 3) := by decide +kernel
theorem dX4_isStorm_12 : decode cX4_isStorm 12 = .ok (.iconst 1, 1) := by decide +kernel
theorem dX4_isStorm_13 : decode cX4_isStorm 13 = .ok (.isub, 1) := by decide +kernel
theorem dX4_isStorm_14 : decode cX4_isStorm 14 = .ok (.invokestatic 43, 3) := by decide +kernel
theorem dX4_isStorm_17 : decode cX4_isStorm 17 = .ok (.ireturn, 1) := by decide +kernel
theorem dX4_isPaint_0 : decode cX4_isPaint 0 = .ok (.iload_n 0, 1) := by decide +kernel
theorem dX4_isPaint_1 : decode cX4_isPaint 1 = .ok (.ifCond .eq 8, 3) := by decide +kernel
theorem dX4_isPaint_4 : decode cX4_isPaint 4 = .ok (.iload_n 0, 1) := by decide +kernel
theorem dX4_isPaint_5 : decode cX4_isPaint 5 = .ok (.iconst 1, 1) := by decide +kernel
theorem dX4_isPaint_6 : decode cX4_isPaint 6 = .ok (.if_icmp .ne 7, 3) := by decide +kernel
theorem dX4_isPaint_9 : decode cX4_isPaint 9 = .ok (.iconst 1, 1) := by decide +kernel
theorem dX4_isPaint_10 : decode cX4_isPaint 10 = .ok (.goto 4, 3) := by decide +kernel
theorem dX4_isPaint_13 : decode cX4_isPaint 13 = .ok (.iconst 0, 1) := by decide +kernel
theorem dX4_isPaint_14 : decode cX4_isPaint 14 = .ok (.ireturn, 1) := by decide +kernel
theorem dX4_areTiles_0 : decode cX4_areTiles 0 = .ok (.iload_n 0, 1) := by decide +kernel
theorem dX4_areTiles_1 : decode cX4_areTiles 1 = .ok (.iconst 0, 1) := by decide +kernel
theorem dX4_areTiles_2 : decode cX4_areTiles 2 = .ok (.bipush 9, 2) := by decide +kernel
theorem dX4_areTiles_4 : decode cX4_areTiles 4 = .ok (.invokestatic 43, 3) := by decide +kernel
theorem dX4_areTiles_7 : decode cX4_areTiles 7 = .ok (.ifCond .eq 17, 3) := by decide +kernel
theorem dX4_areTiles_10 : decode cX4_areTiles 10 = .ok (.iload_n 1, 1) := by decide +kernel
theorem dX4_areTiles_11 : decode cX4_areTiles 11 = .ok (.iconst 0, 1) := by decide +kernel
theorem dX4_areTiles_12 : decode cX4_areTiles 12 = .ok (.bipush 9, 2) := by decide +kernel
theorem dX4_areTiles_14 : decode cX4_areTiles 14 = .ok (.invokestatic 43, 3) := by decide +kernel
theorem dX4_areTiles_17 : decode cX4_areTiles 17 = .ok (.ifCond .eq 7, 3) := by decide +kernel
theorem dX4_areTiles_20 : decode cX4_areTiles 20 = .ok (.iconst 1, 1) := by decide +kernel
theorem dX4_areTiles_21 : decode cX4_areTiles 21 = .ok (.goto 4, 3) := by decide +kernel
theorem dX4_areTiles_24 : decode cX4_areTiles 24 = .ok (.iconst 0, 1) := by decide +kernel
theorem dX4_areTiles_25 : decode cX4_areTiles 25 = .ok (.ireturn, 1) := by decide +kernel
theorem dX4_within_0 : decode cX4_within 0 = .ok (.iload_n 0, 1) := by decide +kernel
theorem dX4_within_1 : decode cX4_within 1 = .ok (.iload_n 1, 1) := by decide +kernel
theorem dX4_within_2 : decode cX4_within 2 = .ok (.if_icmp .lt 12, 3) := by decide +kernel
theorem dX4_within_5 : decode cX4_within 5 = .ok (.iload_n 0, 1) := by decide +kernel
theorem dX4_within_6 : decode cX4_within 6 = .ok (.iload_n 2, 1) := by decide +kernel
theorem dX4_within_7 : decode cX4_within 7 = .ok (.if_icmp .gt 7, 3) := by decide +kernel
theorem dX4_within_10 : decode cX4_within 10 = .ok (.iconst 1, 1) := by decide +kernel
theorem dX4_within_11 : decode cX4_within 11 = .ok (.goto 4, 3) := by decide +kernel
theorem dX4_within_14 : decode cX4_within 14 = .ok (.iconst 0, 1) := by decide +kernel
theorem dX4_within_15 : decode cX4_within 15 = .ok (.ireturn, 1) := by decide +kernel
theorem dX5_init_0 : decode cX5_init 0 = .ok (.aload_n 0, 1) := by decide +kernel
theorem dX5_init_1 : decode cX5_init 1 = .ok (.invokespecial 1, 3) := by decide +kernel
theorem dX5_init_4 : decode cX5_init 4 = .ok (.aload_n 0, 1) := by decide +kernel
theorem dX5_init_5 : decode cX5_init 5 = .ok (.sipush 382, 3) := by decide +kernel
theorem dX5_init_8 : decode cX5_init 8 = .ok (.newarray .int, 2) := by decide +kernel
theorem dX5_init_10 : decode cX5_init 10 = .ok (.putfield 7, 3) := by decide +kernel
theorem dX5_init_13 : decode cX5_init 13 = .ok (.aload_n 0, 1) := by decide +kernel
theorem dX5_init_14 : decode cX5_init 14 = .ok (.sipush 764, 3) := by decide +kernel
theorem dX5_init_17 : decode cX5_init 17 = .ok (.newarray .int, 2) := by decide +kernel
theorem dX5_init_19 : decode cX5_init 19 = .ok (.putfield 13, 3) := by decide +kernel
theorem dX5_init_22 : decode cX5_init 22 = .ok (.aload_n 0, 1) := by decide +kernel
theorem dX5_init_23 : decode cX5_init 23 = .ok (.iconst 2, 1) := by decide +kernel
theorem dX5_init_24 : decode cX5_init 24 = .ok (.newarray .boolean, 2) := by decide +kernel
theorem dX5_init_26 : decode cX5_init 26 = .ok (.putfield 16, 3) := by decide +kernel
theorem dX5_init_29 : decode cX5_init 29 = .ok (.aload_n 0, 1) := by decide +kernel
theorem dX5_init_30 : decode cX5_init 30 = .ok (.iconst 3, 1) := by decide +kernel
theorem dX5_init_31 : decode cX5_init 31 = .ok (.newarray .int, 2) := by decide +kernel
theorem dX5_init_33 : decode cX5_init 33 = .ok (.putfield 20, 3) := by decide +kernel
theorem dX5_init_36 : decode cX5_init 36 = .ok (.aload_n 0, 1) := by decide +kernel
theorem dX5_init_37 : decode cX5_init 37 = .ok (.lconst 1, 1) := by decide +kernel
theorem dX5_init_38 : decode cX5_init 38 = .ok (.putfield 23, 3) := by decide +kernel
theorem dX5_init_41 : decode cX5_init 41 = .ok (.aload_n 0, 1) := by decide +kernel
theorem dX5_init_42 : decode cX5_init 42 = .ok (.bipush 28, 2) := by decide +kernel
theorem dX5_init_44 : decode cX5_init 44 = .ok (.newarray .int, 2) := by decide +kernel
theorem dX5_init_46 : decode cX5_init 46 = .ok (.putfield 27, 3) := by decide +kernel
theorem dX5_init_49 : decode cX5_init 49 = .ok (.aload_n 0, 1) := by decide +kernel
theorem dX5_init_50 : decode cX5_init 50 = .ok (.bipush 7, 2) := by decide +kernel
theorem dX5_init_52 : decode cX5_init 52 = .ok (.newarray .int, 2) := by decide +kernel
theorem dX5_init_54 : decode cX5_init 54 = .ok (.putfield 30, 3) := by decide +kernel
theorem dX5_init_57 : decode cX5_init 57 = .ok (.aload_n 0, 1) := by decide +kernel
theorem dX5_init_58 : decode cX5_init 58 = .ok (.bipush 14, 2) := by decide +kernel
theorem dX5_init_60 : decode cX5_init 60 = .ok (.newarray .int, 2) := by decide +kernel
theorem dX5_init_62 : decode cX5_init 62 = .ok (.putfield 33, 3) := by decide +kernel
theorem dX5_init_65 : decode cX5_init 65 = .ok (.aload_n 0, 1) := by decide +kernel
theorem dX5_init_66 : decode cX5_init 66 = .ok (.bipush 14, 2) := by decide +kernel
theorem dX5_init_68 : decode cX5_init 68 = .ok (.newarray .int, 2) := by decide +kernel
theorem dX5_init_70 : decode cX5_init 70 = .ok (.putfield 36, 3) := by decide +kernel
theorem dX5_init_73 : decode cX5_init 73 = .ok (.aload_n 0, 1) := by decide +kernel
theorem dX5_init_74 : decode cX5_init 74 = .ok (.bipush 6, 2) := by decide +kernel
theorem dX5_init_76 : decode cX5_init 76 = .ok (.newarray .boolean, 2) := by decide +kernel
theorem dX5_init_78 : decode cX5_init 78 = .ok (.putfield 39, 3) := by decide +kernel
theorem dX5_init_81 : decode cX5_init 81 = .ok (.aload_n 0, 1) := by decide +kernel
theorem dX5_init_82 : decode cX5_init 82 = .ok (.sipush 250, 3) := by decide +kernel
theorem dX5_init_85 : decode cX5_init 85 = .ok (.newarray .int, 2) := by decide +kernel
theorem dX5_init_87 : decode cX5_init 87 = .ok (.putfield 42, 3) := by decide +kernel
theorem dX5_init_90 : decode cX5_init 90 = .ok (.aload_n 0, 1) := by decide +kernel
theorem dX5_init_91 : decode cX5_init 91 = .ok (.bipush 95, 2) := by decide +kernel
theorem dX5_init_93 : decode cX5_init 93 = .ok (.newarray .int, 2) := by decide +kernel
theorem dX5_init_95 : decode cX5_init 95 = .ok (.putfield 45, 3) := by decide +kernel
theorem dX5_init_98 : decode cX5_init 98 = .ok (.aload_n 0, 1) := by decide +kernel
theorem dX5_init_99 : decode cX5_init 99 = .ok (.bipush 6, 2) := by decide +kernel
theorem dX5_init_101 : decode cX5_init 101 = .ok (.newarray .int, 2) := by decide +kernel
theorem dX5_init_103 : decode cX5_init 103 = .ok (.putfield 48, 3) := by decide +kernel
theorem dX5_init_106 : decode cX5_init 106 = .ok (.return_, 1) := by decide +kernel
theorem dX5_in_0 : decode cX5_in 0 = .ok (.lload_n 0, 1) := by decide +kernel
theorem dX5_in_1 : decode cX5_in 1 = .ok (.lload_n 2, 1) := by decide +kernel
theorem dX5_in_2 : decode cX5_in 2 = .ok (.lcmp, 1) := by decide +kernel
theorem dX5_in_3 : decode cX5_in 3 = .ok (.ifCond .lt 14, 3) := by decide +kernel
theorem dX5_in_6 : decode cX5_in 6 = .ok (.lload_n 0, 1) := by decide +kernel
theorem dX5_in_7 : decode cX5_in 7 = .ok (.lload 4, 2) := by decide +kernel
theorem dX5_in_9 : decode cX5_in 9 = .ok (.lcmp, 1) := by decide +kernel
theorem dX5_in_10 : decode cX5_in 10 = .ok (.ifCond .gt 7, 3) := by decide +kernel
theorem dX5_in_13 : decode cX5_in 13 = .ok (.iconst 1, 1) := by decide +kernel
theorem dX5_in_14 : decode cX5_in 14 = .ok (.goto 4, 3) := by decide +kernel
theorem dX5_in_17 : decode cX5_in 17 = .ok (.iconst 0, 1) := by decide +kernel
theorem dX5_in_18 : decode cX5_in 18 = .ok (.ireturn, 1) := by decide +kernel
theorem dX5_bad_0 : decode cX5_bad 0 = .ok (.aload_n 0, 1) := by decide +kernel
theorem dX5_bad_1 : decode cX5_bad 1 = .ok (.getfield 20, 3) := by decide +kernel
theorem dX5_bad_4 : decode cX5_bad 4 = .ok (.iconst 0, 1) := by decide +kernel
theorem dX5_bad_5 : decode cX5_bad 5 = .ok (.dup2, 1) := by decide +kernel
theorem dX5_bad_6 : decode cX5_bad 6 = .ok (.iaload, 1) := by decide +kernel
theorem dX5_bad_7 : decode cX5_bad 7 = .ok (.iconst 1, 1) := by decide +kernel
theorem dX5_bad_8 : decode cX5_bad 8 = .ok (.iadd, 1) := by decide +kernel
theorem dX5_bad_9 : decode cX5_bad 9 = .ok (.iastore, 1) := by decide +kernel
theorem dX5_bad_10 : decode cX5_bad 10 = .ok (.iload_n 1, 1) := by decide +kernel
theorem dX5_bad_11 : decode cX5_bad 11 = .ok (.ireturn, 1) := by decide +kernel
theorem dX5_no_0 : decode cX5_no 0 = .ok (.aload_n 0, 1) := by decide +kernel
theorem dX5_no_1 : decode cX5_no 1 = .ok (.getfield 20, 3) := by decide +kernel
theorem dX5_no_4 : decode cX5_no 4 = .ok (.iconst 1, 1) := by decide +kernel
theorem dX5_no_5 : decode cX5_no 5 = .ok (.dup2, 1) := by decide +kernel
theorem dX5_no_6 : decode cX5_no 6 = .ok (.iaload, 1) := by decide +kernel
theorem dX5_no_7 : decode cX5_no 7 = .ok (.iconst 1, 1) := by decide +kernel
theorem dX5_no_8 : decode cX5_no 8 = .ok (.iadd, 1) := by decide +kernel
theorem dX5_no_9 : decode cX5_no 9 = .ok (.iastore, 1) := by decide +kernel
theorem dX5_no_10 : decode cX5_no 10 = .ok (.iload_n 1, 1) := by decide +kernel
theorem dX5_no_11 : decode cX5_no 11 = .ok (.ireturn, 1) := by decide +kernel
theorem dX5_full_0 : decode cX5_full 0 = .ok (.aload_n 0, 1) := by decide +kernel
theorem dX5_full_1 : decode cX5_full 1 = .ok (.getfield 20, 3) := by decide +kernel
theorem dX5_full_4 : decode cX5_full 4 = .ok (.iconst 2, 1) := by decide +kernel
theorem dX5_full_5 : decode cX5_full 5 = .ok (.dup2, 1) := by decide +kernel
theorem dX5_full_6 : decode cX5_full 6 = .ok (.iaload, 1) := by decide +kernel
theorem dX5_full_7 : decode cX5_full 7 = .ok (.iconst 1, 1) := by decide +kernel
theorem dX5_full_8 : decode cX5_full 8 = .ok (.iadd, 1) := by decide +kernel
theorem dX5_full_9 : decode cX5_full 9 = .ok (.iastore, 1) := by decide +kernel
theorem dX5_full_10 : decode cX5_full 10 = .ok (.bipush (-4), 2) := by decide +kernel
theorem dX5_full_12 : decode cX5_full 12 = .ok (.ireturn, 1) := by decide +kernel
theorem dX5_tell_0 : decode cX5_tell 0 = .ok (.lload_n 1, 1) := by decide +kernel
theorem dX5_tell_1 : decode cX5_tell 1 = .ok (.lconst 0, 1) := by decide +kernel
theorem dX5_tell_2 : decode cX5_tell 2 = .ok (.lcmp, 1) := by decide +kernel
theorem dX5_tell_3 : decode cX5_tell 3 = .ok (.ifCond .ge 8, 3) := by decide +kernel
theorem dX5_tell_6 : decode cX5_tell 6 = .ok (.lload_n 1, 1) := by decide +kernel
theorem dX5_tell_7 : decode cX5_tell 7 = .ok (.lneg, 1) := by decide +kernel
theorem dX5_tell_8 : decode cX5_tell 8 = .ok (.goto 4, 3) := by decide +kernel
theorem dX5_tell_11 : decode cX5_tell 11 = .ok (.lload_n 1, 1) := by decide +kernel
theorem dX5_tell_12 : decode cX5_tell 12 = .ok (.lstore 5, 2) := by decide +kernel
theorem dX5_tell_14 : decode cX5_tell 14 = .ok (.lload_n 3, 1) := by decide +kernel
theorem dX5_tell_15 : decode cX5_tell 15 = .ok (.lstore 7, 2) := by decide +kernel
theorem dX5_tell_17 : decode cX5_tell 17 = .ok (.lload 7, 2) := by decide +kernel
theorem dX5_tell_19 : decode cX5_tell 19 = .ok (.lconst 0, 1) := by decide +kernel
theorem dX5_tell_20 : decode cX5_tell 20 = .ok (.lcmp, 1) := by decide +kernel
theorem dX5_tell_21 : decode cX5_tell 21 = .ok (.ifCond .eq 21, 3) := by decide +kernel
theorem dX5_tell_24 : decode cX5_tell 24 = .ok (.lload 5, 2) := by decide +kernel
theorem dX5_tell_26 : decode cX5_tell 26 = .ok (.lload 7, 2) := by decide +kernel
theorem dX5_tell_28 : decode cX5_tell 28 = .ok (.lrem, 1) := by decide +kernel
theorem dX5_tell_29 : decode cX5_tell 29 = .ok (.lstore 9, 2) := by decide +kernel
theorem dX5_tell_31 : decode cX5_tell 31 = .ok (.lload 7, 2) := by decide +kernel
theorem dX5_tell_33 : decode cX5_tell 33 = .ok (.lstore 5, 2) := by decide +kernel
theorem dX5_tell_35 : decode cX5_tell 35 = .ok (.lload 9, 2) := by decide +kernel
theorem dX5_tell_37 : decode cX5_tell 37 = .ok (.lstore 7, 2) := by decide +kernel
theorem dX5_tell_39 : decode cX5_tell 39 = .ok (.goto (-22), 3) := by decide +kernel
theorem dX5_tell_42 : decode cX5_tell 42 = .ok (.aload_n 0, 1) := by decide +kernel
theorem dX5_tell_43 : decode cX5_tell 43 = .ok (.lload_n 1, 1) := by decide +kernel
theorem dX5_tell_44 : decode cX5_tell 44 = .ok (.lload 5, 2) := by decide +kernel
theorem dX5_tell_46 : decode cX5_tell 46 = .ok (.ldiv, 1) := by decide +kernel
theorem dX5_tell_47 : decode cX5_tell 47 = .ok (.putfield 51, 3) := by decide +kernel
theorem dX5_tell_50 : decode cX5_tell 50 = .ok (.aload_n 0, 1) := by decide +kernel
theorem dX5_tell_51 : decode cX5_tell 51 = .ok (.lload_n 3, 1) := by decide +kernel
theorem dX5_tell_52 : decode cX5_tell 52 = .ok (.lload 5, 2) := by decide +kernel
theorem dX5_tell_54 : decode cX5_tell 54 = .ok (.ldiv, 1) := by decide +kernel
theorem dX5_tell_55 : decode cX5_tell 55 = .ok (.putfield 23, 3) := by decide +kernel
theorem dX5_tell_58 : decode cX5_tell 58 = .ok (.iconst 1, 1) := by decide +kernel
theorem dX5_tell_59 : decode cX5_tell 59 = .ok (.ireturn, 1) := by decide +kernel
theorem dX5_roofs_0 : decode cX5_roofs 0 = .ok (.aload_n 0, 1) := by decide +kernel
theorem dX5_roofs_1 : decode cX5_roofs 1 = .ok (.getfield 7, 3) := by decide +kernel
theorem dX5_roofs_4 : decode cX5_roofs 4 = .ok (.bipush 93, 2) := by decide +kernel
theorem dX5_roofs_6 : decode cX5_roofs 6 = .ok (.iaload, 1) := by decide +kernel
theorem dX5_roofs_7 : decode cX5_roofs 7 = .ok (.ireturn, 1) := by decide +kernel
theorem dX5_storms_0 : decode cX5_storms 0 = .ok (.aload_n 0, 1) := by decide +kernel
theorem dX5_storms_1 : decode cX5_storms 1 = .ok (.getfield 7, 3) := by decide +kernel
theorem dX5_storms_4 : decode cX5_storms 4 = .ok (.bipush 94, 2) := by decide +kernel
theorem dX5_storms_6 : decode cX5_storms 6 = .ok (.iaload, 1) := by decide +kernel
theorem dX5_storms_7 : decode cX5_storms 7 = .ok (.ireturn, 1) := by decide +kernel
theorem dX5_isRoof_0 : decode cX5_isRoof 0 = .ok (.iload_n 1, 1) := by decide +kernel
theorem dX5_isRoof_1 : decode cX5_isRoof 1 = .ok (.i2l, 1) := by decide +kernel
theorem dX5_isRoof_2 : decode cX5_isRoof 2 = .ok (.lconst 0, 1) := by decide +kernel
theorem dX5_isRoof_3 : decode cX5_isRoof 3 = .ok (.aload_n 0, 1) := by decide +kernel
theorem dX5_isRoof_4 : decode cX5_isRoof 4 = .ok (.invokevirtual 54, 3) := by decide +kernel
theorem dX5_isRoof_7 : decode cX5_isRoof 7 = .ok (.iconst 1, 1) := by decide +kernel
theorem dX5_isRoof_8 : decode cX5_isRoof 8 = .ok (.isub, 1) := by decide +kernel
theorem dX5_isRoof_9 : decode cX5_isRoof 9 = .ok (.i2l, 1) := by decide +kernel
theorem dX5_isRoof_10 : decode cX5_isRoof 10 = .ok (.invokestatic 58, 3) := by decide +kernel
theorem dX5_isRoof_13 : decode cX5_isRoof 13 = .ok (.ireturn, 1) := by decide +kernel
theorem dX5_isStorm_0 : decode cX5_isStorm 0 = .ok (.iload_n 1, 1) := by decide +kernel
theorem dX5_isStorm_1 : decode cX5_isStorm 1 = .ok (.i2l, 1) := by decide +kernel
theorem dX5_isStorm_2 : decode cX5_isStorm 2 = .ok (.lconst 0, 1) := by decide +kernel
theorem dX5_isStorm_3 : decode cX5_isStorm 3 = .ok (.aload_n 0, 1) := by decide +kernel
theorem dX5_isStorm_4 : decode cX5_isStorm 4 = .ok (.invokevirtual 62, 3) := by decide +kernel
theorem dX5_isStorm_7 : decode cX5_isStorm 7 = .ok (.iconst 1, 1) := by decide +kernel
theorem dX5_isStorm_8 : decode cX5_isStorm 8 = .ok (.isub, 1) := by decide +kernel
theorem dX5_isStorm_9 : decode cX5_isStorm 9 = .ok (.i2l, 1) := by decide +kernel
theorem dX5_isStorm_10 : decode cX5_isStorm 10 = .ok (.invokestatic 58, 3) := by decide +kernel
theorem dX5_isStorm_13 : decode cX5_isStorm 13 = .ok (.ireturn, 1) := by decide +kernel
theorem dX5_of_0 : decode cX5_of 0 = .ok (.aload_n 0, 1) := by decide +kernel
theorem dX5_of_1 : decode cX5_of 1 = .ok (.getfield 7, 3) := by decide +kernel
theorem dX5_of_4 : decode cX5_of 4 = .ok (.bipush 56, 2) := by decide +kernel
theorem dX5_of_6 : decode cX5_of 6 = .ok (.iconst 5, 1) := by decide +kernel
theorem dX5_of_7 : decode cX5_of 7 = .ok (.iload_n 1, 1) := by decide +kernel
theorem dX5_of_8 : decode cX5_of 8 = .ok (.imul, 1) := by decide +kernel
theorem dX5_of_9 : decode cX5_of 9 = .ok (.iadd, 1) := by decide +kernel
theorem dX5_of_10 : decode cX5_of 10 = .ok (.iload_n 2, 1) := by decide +kernel
theorem dX5_of_11 : decode cX5_of 11 = .ok (.iadd, 1) := by decide +kernel
theorem dX5_of_12 : decode cX5_of 12 = .ok (.iaload, 1) := by decide +kernel
theorem dX5_of_13 : decode cX5_of 13 = .ok (.ireturn, 1) := by decide +kernel
theorem dX5_isRoofTold_0 : decode cX5_isRoofTold 0 = .ok (.iload_n 0, 1) := by decide +kernel
theorem dX5_isRoofTold_1 : decode cX5_isRoofTold 1 = .ok (.i2l, 1) := by decide +kernel
theorem dX5_isRoofTold_2 : decode cX5_isRoofTold 2 = .ok (.lconst 0, 1) := by decide +kernel
theorem dX5_isRoofTold_3 : decode cX5_isRoofTold 3 = .ok (.ldc2_w 65, 3) := by decide +kernel
theorem dX5_isRoofTold_6 : decode cX5_isRoofTold 6 = .ok (.invokestatic 58, 3) := by decide +kernel
theorem dX5_isRoofTold_9 : decode cX5_isRoofTold 9 = .ok (.ifCond .eq 19, 3) := by decide +kernel
theorem dX5_isRoofTold_12 : decode cX5_isRoofTold 12 = .ok (.iload_n 1, 1) := by decide +kernel
theorem dX5_isRoofTold_13 : decode cX5_isRoofTold 13 = .ok (.i2l, 1) := by decide +kernel
theorem dX5_isRoofTold_14 : decode cX5_isRoofTold 14 = .ok (.lconst 0, 1) := by decide +kernel
theorem dX5_isRoofTold_15 : decode cX5_isRoofTold 15 = .ok (.ldc2_w 67, 3) := by decide +kernel
theorem dX5_isRoofTold_18 : decode cX5_isRoofTold 18 = .ok (.invokestatic 58, 3) := by decide +kernel
theorem dX5_isRoofTold_21 : decode cX5_isRoofTold 21 = .ok (.ifCond .eq 7, 3) := by decide +kernel
theorem dX5_isRoofTold_24 : decode cX5_isRoofTold 24 = .ok (.iconst 1, 1) := by decide +kernel
theorem dX5_isRoofTold_25 : decode cX5_isRoofTold 25 = .ok (.goto 4, 3) := by decide +kernel
theorem dX5_isRoofTold_28 : decode cX5_isRoofTold 28 = .ok (.iconst 0, 1) := by decide +kernel
theorem dX5_isRoofTold_29 : decode cX5_isRoofTold 29 = .ok (.istore 6, 2) := by decide +kernel
theorem dX5_isRoofTold_31 : decode cX5_isRoofTold 31 = .ok (.iload 6, 2) := by decide +kernel
theorem dX5_isRoofTold_33 : decode cX5_isRoofTold 33 = .ok (.ifCond .eq 57, 3) := by decide +kernel
theorem dX5_isRoofTold_36 : decode cX5_isRoofTold 36 = .ok (.iload_n 2, 1) := by decide +kernel
theorem dX5_isRoofTold_37 : decode cX5_isRoofTold 37 = .ok (.i2l, 1) := by decide +kernel
theorem dX5_isRoofTold_38 : decode cX5_isRoofTold 38 = .ok (.lconst 0, 1) := by decide +kernel
theorem dX5_isRoofTold_39 : decode cX5_isRoofTold 39 = .ok (.ldc2_w 67, 3) := by decide +kernel
theorem dX5_isRoofTold_42 : decode cX5_isRoofTold 42 = .ok (.invokestatic 58, 3) := by decide +kernel
theorem dX5_isRoofTold_45 : decode cX5_isRoofTold 45 = .ok (.ifCond .eq 45, 3) := by decide +kernel
theorem dX5_isRoofTold_48 : decode cX5_isRoofTold 48 = .ok (.iload_n 3, 1) := by decide +kernel
theorem dX5_isRoofTold_49 : decode cX5_isRoofTold 49 = .ok (.i2l, 1) := by decide +kernel
theorem dX5_isRoofTold_50 : decode cX5_isRoofTold 50 = .ok (.lconst 0, 1) := by decide +kernel
theorem dX5_isRoofTold_51 : decode cX5_isRoofTold 51 = .ok (.ldc2_w 67, 3) := by decide +kernel
theorem dX5_isRoofTold_54 : decode cX5_isRoofTold 54 = .ok (.invokestatic 58, 3) := by decide +kernel
theorem dX5_isRoofTold_57 : decode cX5_isRoofTold 57 = .ok (.ifCond .eq 33, 3) := by decide +kernel
theorem dX5_isRoofTold_60 : decode cX5_isRoofTold 60 = .ok (.iload 4, 2) := by decide +kernel
theorem dX5_isRoofTold_62 : decode cX5_isRoofTold 62 = .ok (.i2l, 1) := by decide +kernel
theorem dX5_isRoofTold_63 : decode cX5_isRoofTold 63 = .ok (.lconst 0, 1) := by decide +kernel
theorem dX5_isRoofTold_64 : decode cX5_isRoofTold 64 = .ok (.ldc2_w 67, 3) := by decide +kernel
theorem dX5_isRoofTold_67 : decode cX5_isRoofTold 67 = .ok (.invokestatic 58, 3) := by decide +kernel
theorem dX5_isRoofTold_70 : decode cX5_isRoofTold 70 = .ok (.ifCond .eq 20, 3) := by decide +kernel
theorem dX5_isRoofTold_73 : decode cX5_isRoofTold 73 = .ok (.iload 5, 2) := by decide +kernel
theorem dX5_isRoofTold_75 : decode cX5_isRoofTold 75 = .ok (.i2l, 1) := by decide +kernel
theorem dX5_isRoofTold_76 : decode cX5_isRoofTold 76 = .ok (.lconst 0, 1) := by decide +kernel
theorem dX5_isRoofTold_77 : decode cX5_isRoofTold 77 = .ok (.ldc2_w 67, 3) := by decide +kernel
theorem dX5_isRoofTold_80 : decode cX5_isRoofTold 80 = .ok (.invokestatic 58, 3) := by decide +kernel
theorem dX5_isRoofTold_83 : decode cX5_isRoofTold 83 = .ok (.ifCond .eq 7, 3) := by decide +kernel
theorem dX5_isRoofTold_86 : decode cX5_isRoofTold 86 = .ok (.iconst 1, 1) := by decide +kernel
theorem dX5_isRoofTold_87 : decode cX5_isRoofTold 87 = .ok (.goto 4, 3) := by decide +kernel
theorem dX5_isRoofTold_90 : decode cX5_isRoofTold 90 = .ok (.iconst 0, 1) := by decide +kernel
theorem dX5_isRoofTold_91 : decode cX5_isRoofTold 91 = .ok (.ireturn, 1) := by decide +kernel
theorem dX5_layRoof_0 : decode cX5_layRoof 0 = .ok (.iconst 0, 1) := by decide +kernel
theorem dX5_layRoof_1 : decode cX5_layRoof 1 = .ok (.bipush 8, 2) := by decide +kernel
theorem dX5_layRoof_3 : decode cX5_layRoof 3 = .ok (.iload_n 1, 1) := by decide +kernel
theorem dX5_layRoof_4 : decode cX5_layRoof 4 = .ok (.imul, 1) := by decide +kernel
theorem dX5_layRoof_5 : decode cX5_layRoof 5 = .ok (.iadd, 1) := by decide +kernel
theorem dX5_layRoof_6 : decode cX5_layRoof 6 = .ok (.istore 8, 2) := by decide +kernel
theorem dX5_layRoof_8 : decode cX5_layRoof 8 = .ok (.aload_n 0, 1) := by decide +kernel
theorem dX5_layRoof_9 : decode cX5_layRoof 9 = .ok (.iload 8, 2) := by decide +kernel
theorem dX5_layRoof_11 : decode cX5_layRoof 11 = .ok (.iconst 0, 1) := by decide +kernel
theorem dX5_layRoof_12 : decode cX5_layRoof 12 = .ok (.iadd, 1) := by decide +kernel
theorem dX5_layRoof_13 : decode cX5_layRoof 13 = .ok (.iload_n 2, 1) := by decide +kernel
theorem dX5_layRoof_14 : decode cX5_layRoof 14 = .ok (.iastore, 1) := by decide +kernel
theorem dX5_layRoof_15 : decode cX5_layRoof 15 = .ok (.aload_n 0, 1) := by decide +kernel
theorem dX5_layRoof_16 : decode cX5_layRoof 16 = .ok (.iload 8, 2) := by decide +kernel
theorem dX5_layRoof_18 : decode cX5_layRoof 18 = .ok (.iconst 1, 1) := by decide +kernel
theorem dX5_layRoof_19 : decode cX5_layRoof 19 = .ok (.iadd, 1) := by decide +kernel
theorem dX5_layRoof_20 : decode cX5_layRoof 20 = .ok (.iload_n 3, 1) := by decide +kernel
theorem dX5_layRoof_21 : decode cX5_layRoof 21 = .ok (.iastore, 1) := by decide +kernel
theorem dX5_layRoof_22 : decode cX5_layRoof 22 = .ok (.aload_n 0, 1) := by decide +kernel
theorem dX5_layRoof_23 : decode cX5_layRoof 23 = .ok (.iload 8, 2) := by decide +kernel
theorem dX5_layRoof_25 : decode cX5_layRoof 25 = .ok (.iconst 2, 1) := by decide +kernel
theorem dX5_layRoof_26 : decode cX5_layRoof 26 = .ok (.iadd, 1) := by decide +kernel
theorem dX5_layRoof_27 : decode cX5_layRoof 27 = .ok (.iload 4, 2) := by decide +kernel
theorem dX5_layRoof_29 : decode cX5_layRoof 29 = .ok (.iastore, 1) := by decide +kernel
theorem dX5_layRoof_30 : decode cX5_layRoof 30 = .ok (.aload_n 0, 1) := by decide +kernel
theorem dX5_layRoof_31 : decode cX5_layRoof 31 = .ok (.iload 8, 2) := by decide +kernel
theorem dX5_layRoof_33 : decode cX5_layRoof 33 = .ok (.iconst 2, 1) := by decide +kernel
theorem dX5_layRoof_34 : decode cX5_layRoof 34 = .ok (.iadd, 1) := by decide +kernel
theorem dX5_layRoof_35 : decode cX5_layRoof 35 = .ok (.iconst 1, 1) := by decide +kernel
theorem dX5_layRoof_36 : decode cX5_layRoof 36 = .ok (.iadd, 1) := by decide +kernel
theorem dX5_layRoof_37 : decode cX5_layRoof 37 = .ok (.iload 5, 2) := by decide +kernel
theorem dX5_layRoof_39 : decode cX5_layRoof 39 = .ok (.iastore, 1) := by decide +kernel
theorem dX5_layRoof_40 : decode cX5_layRoof 40 = .ok (.aload_n 0, 1) := by decide +kernel
theorem dX5_layRoof_41 : decode cX5_layRoof 41 = .ok (.iload 8, 2) := by decide +kernel
theorem dX5_layRoof_43 : decode cX5_layRoof 43 = .ok (.iconst 2, 1) := by decide +kernel
theorem dX5_layRoof_44 : decode cX5_layRoof 44 = .ok (.iadd, 1) := by decide +kernel
theorem dX5_layRoof_45 : decode cX5_layRoof 45 = .ok (.iconst 2, 1) := by decide +kernel
theorem dX5_layRoof_46 : decode cX5_layRoof 46 = .ok (.iadd, 1) := by decide +kernel
theorem dX5_layRoof_47 : decode cX5_layRoof 47 = .ok (.iload 6, 2) := by decide +kernel
theorem dX5_layRoof_49 : decode cX5_layRoof 49 = .ok (.iastore, 1) := by decide +kernel
theorem dX5_layRoof_50 : decode cX5_layRoof 50 = .ok (.aload_n 0, 1) := by decide +kernel
theorem dX5_layRoof_51 : decode cX5_layRoof 51 = .ok (.iload 8, 2) := by decide +kernel
theorem dX5_layRoof_53 : decode cX5_layRoof 53 = .ok (.iconst 2, 1) := by decide +kernel
theorem dX5_layRoof_54 : decode cX5_layRoof 54 = .ok (.iadd, 1) := by decide +kernel
theorem dX5_layRoof_55 : decode cX5_layRoof 55 = .ok (.iconst 3, 1) := by decide +kernel
theorem dX5_layRoof_56 : decode cX5_layRoof 56 = .ok (.iadd, 1) := by decide +kernel
theorem dX5_layRoof_57 : decode cX5_layRoof 57 = .ok (.iload 7, 2) := by decide +kernel
theorem dX5_layRoof_59 : decode cX5_layRoof 59 = .ok (.iastore, 1) := by decide +kernel
theorem dX5_layRoof_60 : decode cX5_layRoof 60 = .ok (.aload_n 0, 1) := by decide +kernel
theorem dX5_layRoof_61 : decode cX5_layRoof 61 = .ok (.iload 8, 2) := by decide +kernel
theorem dX5_layRoof_63 : decode cX5_layRoof 63 = .ok (.bipush 6, 2) := by decide +kernel
theorem dX5_layRoof_65 : decode cX5_layRoof 65 = .ok (.iadd, 1) := by decide +kernel
theorem dX5_layRoof_66 : decode cX5_layRoof 66 = .ok (.iconst (-1), 1) := by decide +kernel
theorem dX5_layRoof_67 : decode cX5_layRoof 67 = .ok (.iastore, 1) := by decide +kernel
theorem dX5_layRoof_68 : decode cX5_layRoof 68 = .ok (.aload_n 0, 1) := by decide +kernel
theorem dX5_layRoof_69 : decode cX5_layRoof 69 = .ok (.iload 8, 2) := by decide +kernel
theorem dX5_layRoof_71 : decode cX5_layRoof 71 = .ok (.bipush 6, 2) := by decide +kernel
theorem dX5_layRoof_73 : decode cX5_layRoof 73 = .ok (.iadd, 1) := by decide +kernel
theorem dX5_layRoof_74 : decode cX5_layRoof 74 = .ok (.iconst 1, 1) := by decide +kernel
theorem dX5_layRoof_75 : decode cX5_layRoof 75 = .ok (.iadd, 1) := by decide +kernel
theorem dX5_layRoof_76 : decode cX5_layRoof 76 = .ok (.iconst (-1), 1) := by decide +kernel
theorem dX5_layRoof_77 : decode cX5_layRoof 77 = .ok (.iastore, 1) := by decide +kernel
theorem dX5_layRoof_78 : decode cX5_layRoof 78 = .ok (.return_, 1) := by decide +kernel
theorem dX5_roof_0 : decode cX5_roof 0 = .ok (.iload_n 1, 1) := by decide +kernel
theorem dX5_roof_1 : decode cX5_roof 1 = .ok (.iload_n 2, 1) := by decide +kernel
theorem dX5_roof_2 : decode cX5_roof 2 = .ok (.iload_n 3, 1) := by decide +kernel
theorem dX5_roof_3 : decode cX5_roof 3 = .ok (.iload 4, 2) := by decide +kernel
theorem dX5_roof_5 : decode cX5_roof 5 = .ok (.iload 5, 2) := by decide +kernel
theorem dX5_roof_7 : decode cX5_roof 7 = .ok (.iload 6, 2) := by decide +kernel
theorem dX5_roof_9 : decode cX5_roof 9 = .ok (.invokestatic 69, 3) := by decide +kernel
theorem dX5_roof_12 : decode cX5_roof 12 = .ok (.ifCond .ne 10, 3) := by decide +kernel
theorem dX5_roof_15 : decode cX5_roof 15 = .ok (.aload_n 0, 1) := by decide +kernel
theorem dX5_roof_16 : decode cX5_roof 16 = .ok (.bipush (-2), 2) := by decide +kernel
theorem dX5_roof_18 : decode cX5_roof 18 = .ok (.invokevirtual 73, 3) := by decide +kernel
theorem dX5_roof_21 : decode cX5_roof 21 = .ok (.ireturn, 1) := by decide +kernel
theorem dX5_roof_22 : decode cX5_roof 22 = .ok (.aload_n 0, 1) := by decide +kernel
theorem dX5_roof_23 : decode cX5_roof 23 = .ok (.invokevirtual 54, 3) := by decide +kernel
theorem dX5_roof_26 : decode cX5_roof 26 = .ok (.istore 7, 2) := by decide +kernel
theorem dX5_roof_28 : decode cX5_roof 28 = .ok (.iload 7, 2) := by decide +kernel
theorem dX5_roof_30 : decode cX5_roof 30 = .ok (.bipush 7, 2) := by decide +kernel
theorem dX5_roof_32 : decode cX5_roof 32 = .ok (.if_icmp .ne 8, 3) := by decide +kernel
theorem dX5_roof_35 : decode cX5_roof 35 = .ok (.aload_n 0, 1) := by decide +kernel
theorem dX5_roof_36 : decode cX5_roof 36 = .ok (.invokevirtual 77, 3) := by decide +kernel
theorem dX5_roof_39 : decode cX5_roof 39 = .ok (.ireturn, 1) := by decide +kernel
theorem dX5_roof_40 : decode cX5_roof 40 = .ok (.aload_n 0, 1) := by decide +kernel
theorem dX5_roof_41 : decode cX5_roof 41 = .ok (.getfield 7, 3) := by decide +kernel
theorem dX5_roof_44 : decode cX5_roof 44 = .ok (.iload 7, 2) := by decide +kernel
theorem dX5_roof_46 : decode cX5_roof 46 = .ok (.iload_n 1, 1) := by decide +kernel
theorem dX5_roof_47 : decode cX5_roof 47 = .ok (.iload_n 2, 1) := by decide +kernel
theorem dX5_roof_48 : decode cX5_roof 48 = .ok (.iload_n 3, 1) := by decide +kernel
theorem dX5_roof_49 : decode cX5_roof 49 = .ok (.iload 4, 2) := by decide +kernel
theorem dX5_roof_51 : decode cX5_roof 51 = .ok (.iload 5, 2) := by decide +kernel
theorem dX5_roof_53 : decode cX5_roof 53 = .ok (.iload 6, 2) := by decide +kernel
theorem dX5_roof_55 : decode cX5_roof 55 = .ok (.invokestatic 80, 3) := by decide +kernel
theorem dX5_roof_58 : decode cX5_roof 58 = .ok (.aload_n 0, 1) := by decide +kernel
theorem dX5_roof_59 : decode cX5_roof 59 = .ok (.getfield 7, 3) := by decide +kernel
theorem dX5_roof_62 : decode cX5_roof 62 = .ok (.bipush 93, 2) := by decide +kernel
theorem dX5_roof_64 : decode cX5_roof 64 = .ok (.dup2, 1) := by decide +kernel
theorem dX5_roof_65 : decode cX5_roof 65 = .ok (.iaload, 1) := by decide +kernel
theorem dX5_roof_66 : decode cX5_roof 66 = .ok (.iconst 1, 1) := by decide +kernel
theorem dX5_roof_67 : decode cX5_roof 67 = .ok (.iadd, 1) := by decide +kernel
theorem dX5_roof_68 : decode cX5_roof 68 = .ok (.iastore, 1) := by decide +kernel
theorem dX5_roof_69 : decode cX5_roof 69 = .ok (.iload 7, 2) := by decide +kernel
theorem dX5_roof_71 : decode cX5_roof 71 = .ok (.ireturn, 1) := by decide +kernel
theorem dX5_layStorm_0 : decode cX5_layStorm 0 = .ok (.bipush 56, 2) := by decide +kernel
theorem dX5_layStorm_2 : decode cX5_layStorm 2 = .ok (.iconst 5, 1) := by decide +kernel
theorem dX5_layStorm_3 : decode cX5_layStorm 3 = .ok (.iload_n 1, 1) := by decide +kernel
theorem dX5_layStorm_4 : decode cX5_layStorm 4 = .ok (.imul, 1) := by decide +kernel
theorem dX5_layStorm_5 : decode cX5_layStorm 5 = .ok (.iadd, 1) := by decide +kernel
theorem dX5_layStorm_6 : decode cX5_layStorm 6 = .ok (.istore 7, 2) := by decide +kernel
theorem dX5_layStorm_8 : decode cX5_layStorm 8 = .ok (.aload_n 0, 1) := by decide +kernel
theorem dX5_layStorm_9 : decode cX5_layStorm 9 = .ok (.iload 7, 2) := by decide +kernel
theorem dX5_layStorm_11 : decode cX5_layStorm 11 = .ok (.iconst 0, 1) := by decide +kernel
theorem dX5_layStorm_12 : decode cX5_layStorm 12 = .ok (.iadd, 1) := by decide +kernel
theorem dX5_layStorm_13 : decode cX5_layStorm 13 = .ok (.iload_n 2, 1) := by decide +kernel
theorem dX5_layStorm_14 : decode cX5_layStorm 14 = .ok (.iastore, 1) := by decide +kernel
theorem dX5_layStorm_15 : decode cX5_layStorm 15 = .ok (.aload_n 0, 1) := by decide +kernel
theorem dX5_layStorm_16 : decode cX5_layStorm 16 = .ok (.iload 7, 2) := by decide +kernel
theorem dX5_layStorm_18 : decode cX5_layStorm 18 = .ok (.iconst 1, 1) := by decide +kernel
theorem dX5_layStorm_19 : decode cX5_layStorm 19 = .ok (.iadd, 1) := by decide +kernel
theorem dX5_layStorm_20 : decode cX5_layStorm 20 = .ok (.iload_n 3, 1) := by decide +kernel
theorem dX5_layStorm_21 : decode cX5_layStorm 21 = .ok (.iastore, 1) := by decide +kernel
theorem dX5_layStorm_22 : decode cX5_layStorm 22 = .ok (.aload_n 0, 1) := by decide +kernel
theorem dX5_layStorm_23 : decode cX5_layStorm 23 = .ok (.iload 7, 2) := by decide +kernel
theorem dX5_layStorm_25 : decode cX5_layStorm 25 = .ok (.iconst 2, 1) := by decide +kernel
theorem dX5_layStorm_26 : decode cX5_layStorm 26 = .ok (.iadd, 1) := by decide +kernel
theorem dX5_layStorm_27 : decode cX5_layStorm 27 = .ok (.iload 4, 2) := by decide +kernel
theorem dX5_layStorm_29 : decode cX5_layStorm 29 = .ok (.iastore, 1) := by decide +kernel
theorem dX5_layStorm_30 : decode cX5_layStorm 30 = .ok (.aload_n 0, 1) := by decide +kernel
theorem dX5_layStorm_31 : decode cX5_layStorm 31 = .ok (.iload 7, 2) := by decide +kernel
theorem dX5_layStorm_33 : decode cX5_layStorm 33 = .ok (.iconst 3, 1) := by decide +kernel
theorem dX5_layStorm_34 : decode cX5_layStorm 34 = .ok (.iadd, 1) := by decide +kernel
theorem dX5_layStorm_35 : decode cX5_layStorm 35 = .ok (.iload 5, 2) := by decide +kernel
theorem dX5_layStorm_37 : decode cX5_layStorm 37 = .ok (.iastore, 1) := by decide +kernel
theorem dX5_layStorm_38 : decode cX5_layStorm 38 = .ok (.aload_n 0, 1) := by decide +kernel
theorem dX5_layStorm_39 : decode cX5_layStorm 39 = .ok (.iload 7, 2) := by decide +kernel
theorem dX5_layStorm_41 : decode cX5_layStorm 41 = .ok (.iconst 4, 1) := by decide +kernel
theorem dX5_layStorm_42 : decode cX5_layStorm 42 = .ok (.iadd, 1) := by decide +kernel
theorem dX5_layStorm_43 : decode cX5_layStorm 43 = .ok (.iload 6, 2) := by decide +kernel
theorem dX5_layStorm_45 : decode cX5_layStorm 45 = .ok (.iastore, 1) := by decide +kernel
theorem dX5_layStorm_46 : decode cX5_layStorm 46 = .ok (.return_, 1) := by decide +kernel
theorem dX5_storm_0 : decode cX5_storm 0 = .ok (.iload_n 2, 1) := by decide +kernel
theorem dX5_storm_1 : decode cX5_storm 1 = .ok (.i2l, 1) := by decide +kernel
theorem dX5_storm_2 : decode cX5_storm 2 = .ok (.lconst 0, 1) := by decide +kernel
theorem dX5_storm_3 : decode cX5_storm 3 = .ok (.ldc2_w 84, 3) := by decide +kernel
theorem dX5_storm_6 : decode cX5_storm 6 = .ok (.invokestatic 58, 3) := by decide +kernel
theorem dX5_storm_9 : decode cX5_storm 9 = .ok (.ifCond .eq 50, 3) := by decide +kernel
theorem dX5_storm_12 : decode cX5_storm 12 = .ok (.iload_n 1, 1) := by decide +kernel
theorem dX5_storm_13 : decode cX5_storm 13 = .ok (.i2l, 1) := by decide +kernel
theorem dX5_storm_14 : decode cX5_storm 14 = .ok (.lconst 0, 1) := by decide +kernel
theorem dX5_storm_15 : decode cX5_storm 15 = .ok (.iload_n 2, 1) := by decide +kernel
theorem dX5_storm_16 : decode cX5_storm 16 = .ok (.i2l, 1) := by decide +kernel
theorem dX5_storm_17 : decode cX5_storm 17 = .ok (.invokestatic 58, 3) := by decide +kernel
theorem dX5_storm_20 : decode cX5_storm 20 = .ok (.ifCond .eq 39, 3) := by decide +kernel
theorem dX5_storm_23 : decode cX5_storm 23 = .ok (.iload_n 3, 1) := by decide +kernel
theorem dX5_storm_24 : decode cX5_storm 24 = .ok (.i2l, 1) := by decide +kernel
theorem dX5_storm_25 : decode cX5_storm 25 = .ok (.lconst 0, 1) := by decide +kernel
theorem dX5_storm_26 : decode cX5_storm 26 = .ok (.lconst 1, 1) := by decide +kernel
theorem dX5_storm_27 : decode cX5_storm 27 = .ok (.invokestatic 58, 3) := by decide +kernel
theorem dX5_storm_30 : decode cX5_storm 30 = .ok (.ifCond .eq 29, 3) := by decide +kernel
theorem dX5_storm_33 : decode cX5_storm 33 = .ok (.iload 4, 2) := by decide +kernel
theorem dX5_storm_35 : decode cX5_storm 35 = .ok (.i2l, 1) := by decide +kernel
theorem dX5_storm_36 : decode cX5_storm 36 = .ok (.lconst 1, 1) := by decide +kernel
theorem dX5_storm_37 : decode cX5_storm 37 = .ok (.ldc2_w 67, 3) := by decide +kernel
theorem dX5_storm_40 : decode cX5_storm 40 = .ok (.invokestatic 58, 3) := by decide +kernel
theorem dX5_storm_43 : decode cX5_storm 43 = .ok (.ifCond .eq 16, 3) := by decide +kernel
theorem dX5_storm_46 : decode cX5_storm 46 = .ok (.iload 5, 2) := by decide +kernel
theorem dX5_storm_48 : decode cX5_storm 48 = .ok (.i2l, 1) := by decide +kernel
theorem dX5_storm_49 : decode cX5_storm 49 = .ok (.lconst 1, 1) := by decide +kernel
theorem dX5_storm_50 : decode cX5_storm 50 = .ok (.ldc2_w 67, 3) := by decide +kernel
theorem dX5_storm_53 : decode cX5_storm 53 = .ok (.invokestatic 58, 3) := by decide +kernel
theorem dX5_storm_56 : decode cX5_storm 56 = .ok (.ifCond .ne 10, 3) := by decide +kernel
theorem dX5_storm_59 : decode cX5_storm 59 = .ok (.aload_n 0, 1) := by decide +kernel
theorem dX5_storm_60 : decode cX5_storm 60 = .ok (.bipush (-2), 2) := by decide +kernel
theorem dX5_storm_62 : decode cX5_storm 62 = .ok (.invokevirtual 73, 3) := by decide +kernel
theorem dX5_storm_65 : decode cX5_storm 65 = .ok (.ireturn, 1) := by decide +kernel
theorem dX5_storm_66 : decode cX5_storm 66 = .ok (.aload_n 0, 1) := by decide +kernel
theorem dX5_storm_67 : decode cX5_storm 67 = .ok (.invokevirtual 62, 3) := by decide +kernel
theorem dX5_storm_70 : decode cX5_storm 70 = .ok (.istore 6, 2) := by decide +kernel
theorem dX5_storm_72 : decode cX5_storm 72 = .ok (.iload 6, 2) := by decide +kernel
theorem dX5_storm_74 : decode cX5_storm 74 = .ok (.bipush 6, 2) := by decide +kernel
theorem dX5_storm_76 : decode cX5_storm 76 = .ok (.if_icmp .ne 8, 3) := by decide +kernel
theorem dX5_storm_79 : decode cX5_storm 79 = .ok (.aload_n 0, 1) := by decide +kernel
theorem dX5_storm_80 : decode cX5_storm 80 = .ok (.invokevirtual 77, 3) := by decide +kernel
theorem dX5_storm_83 : decode cX5_storm 83 = .ok (.ireturn, 1) := by decide +kernel
theorem dX5_storm_84 : decode cX5_storm 84 = .ok (.aload_n 0, 1) := by decide +kernel
theorem dX5_storm_85 : decode cX5_storm 85 = .ok (.getfield 7, 3) := by decide +kernel
theorem dX5_storm_88 : decode cX5_storm 88 = .ok (.iload 6, 2) := by decide +kernel
theorem dX5_storm_90 : decode cX5_storm 90 = .ok (.iload_n 1, 1) := by decide +kernel
theorem dX5_storm_91 : decode cX5_storm 91 = .ok (.iload_n 2, 1) := by decide +kernel
theorem dX5_storm_92 : decode cX5_storm 92 = .ok (.iload_n 3, 1) := by decide +kernel
theorem dX5_storm_93 : decode cX5_storm 93 = .ok (.iload 4, 2) := by decide +kernel
theorem dX5_storm_95 : decode cX5_storm 95 = .ok (.iload 5, 2) := by decide +kernel
theorem dX5_storm_97 : decode cX5_storm 97 = .ok (.invokestatic 86, 3) := by decide +kernel
theorem dX5_storm_100 : decode cX5_storm 100 = .ok (.aload_n 0, 1) := by decide +kernel
theorem dX5_storm_101 : decode cX5_storm 101 = .ok (.getfield 7, 3) := by decide +kernel
theorem dX5_storm_104 : decode cX5_storm 104 = .ok (.bipush 94, 2) := by decide +kernel
theorem dX5_storm_106 : decode cX5_storm 106 = .ok (.dup2, 1) := by decide +kernel
theorem dX5_storm_107 : decode cX5_storm 107 = .ok (.iaload, 1) := by decide +kernel
theorem dX5_storm_108 : decode cX5_storm 108 = .ok (.iconst 1, 1) := by decide +kernel
theorem dX5_storm_109 : decode cX5_storm 109 = .ok (.iadd, 1) := by decide +kernel
theorem dX5_storm_110 : decode cX5_storm 110 = .ok (.iastore, 1) := by decide +kernel
theorem dX5_storm_111 : decode cX5_storm 111 = .ok (.iload 6, 2) := by decide +kernel
theorem dX5_storm_113 : decode cX5_storm 113 = .ok (.ireturn, 1) := by decide +kernel
theorem dX5_cannon_0 : decode cX5_cannon 0 = .ok (.iload_n 1, 1) := by decide +kernel
theorem dX5_cannon_1 : decode cX5_cannon 1 = .ok (.i2l, 1) := by decide +kernel
theorem dX5_cannon_2 : decode cX5_cannon 2 = .ok (.lconst 0, 1) := by decide +kernel
theorem dX5_cannon_3 : decode cX5_cannon 3 = .ok (.ldc2_w 84, 3) := by decide +kernel
theorem dX5_cannon_6 : decode cX5_cannon 6 = .ok (.invokestatic 58, 3) := by decide +kernel
theorem dX5_cannon_9 : decode cX5_cannon 9 = .ok (.ifCond .ne 10, 3) := by decide +kernel
theorem dX5_cannon_12 : decode cX5_cannon 12 = .ok (.aload_n 0, 1) := by decide +kernel
theorem dX5_cannon_13 : decode cX5_cannon 13 = .ok (.bipush (-2), 2) := by decide +kernel
theorem dX5_cannon_15 : decode cX5_cannon 15 = .ok (.invokevirtual 73, 3) := by decide +kernel
theorem dX5_cannon_18 : decode cX5_cannon 18 = .ok (.ireturn, 1) := by decide +kernel
theorem dX5_cannon_19 : decode cX5_cannon 19 = .ok (.iload_n 2, 1) := by decide +kernel
theorem dX5_cannon_20 : decode cX5_cannon 20 = .ok (.ifCond .eq 7, 3) := by decide +kernel
theorem dX5_cannon_23 : decode cX5_cannon 23 = .ok (.iconst 1, 1) := by decide +kernel
theorem dX5_cannon_24 : decode cX5_cannon 24 = .ok (.goto 4, 3) := by decide +kernel
theorem dX5_cannon_27 : decode cX5_cannon 27 = .ok (.iconst 0, 1) := by decide +kernel
theorem dX5_cannon_28 : decode cX5_cannon 28 = .ok (.istore_n 3, 1) := by decide +kernel
theorem dX5_cannon_29 : decode cX5_cannon 29 = .ok (.aload_n 0, 1) := by decide +kernel
theorem dX5_cannon_30 : decode cX5_cannon 30 = .ok (.getfield 7, 3) := by decide +kernel
theorem dX5_cannon_33 : decode cX5_cannon 33 = .ok (.bipush 86, 2) := by decide +kernel
theorem dX5_cannon_35 : decode cX5_cannon 35 = .ok (.iload_n 1, 1) := by decide +kernel
theorem dX5_cannon_36 : decode cX5_cannon 36 = .ok (.iadd, 1) := by decide +kernel
theorem dX5_cannon_37 : decode cX5_cannon 37 = .ok (.iaload, 1) := by decide +kernel
theorem dX5_cannon_38 : decode cX5_cannon 38 = .ok (.iload_n 3, 1) := by decide +kernel
theorem dX5_cannon_39 : decode cX5_cannon 39 = .ok (.if_icmp .ne 10, 3) := by decide +kernel
theorem dX5_cannon_42 : decode cX5_cannon 42 = .ok (.aload_n 0, 1) := by decide +kernel
theorem dX5_cannon_43 : decode cX5_cannon 43 = .ok (.bipush (-3), 2) := by decide +kernel
theorem dX5_cannon_45 : decode cX5_cannon 45 = .ok (.invokevirtual 90, 3) := by decide +kernel
theorem dX5_cannon_48 : decode cX5_cannon 48 = .ok (.ireturn, 1) := by decide +kernel
theorem dX5_cannon_49 : decode cX5_cannon 49 = .ok (.aload_n 0, 1) := by decide +kernel
theorem dX5_cannon_50 : decode cX5_cannon 50 = .ok (.getfield 7, 3) := by decide +kernel
theorem dX5_cannon_53 : decode cX5_cannon 53 = .ok (.bipush 86, 2) := by decide +kernel
theorem dX5_cannon_55 : decode cX5_cannon 55 = .ok (.iload_n 1, 1) := by decide +kernel
theorem dX5_cannon_56 : decode cX5_cannon 56 = .ok (.iadd, 1) := by decide +kernel
theorem dX5_cannon_57 : decode cX5_cannon 57 = .ok (.iload_n 3, 1) := by decide +kernel
theorem dX5_cannon_58 : decode cX5_cannon 58 = .ok (.iastore, 1) := by decide +kernel
theorem dX5_cannon_59 : decode cX5_cannon 59 = .ok (.iconst 1, 1) := by decide +kernel
theorem dX5_cannon_60 : decode cX5_cannon 60 = .ok (.ireturn, 1) := by decide +kernel
theorem dX5_tiles_0 : decode cX5_tiles 0 = .ok (.aload_n 0, 1) := by decide +kernel
theorem dX5_tiles_1 : decode cX5_tiles 1 = .ok (.iload_n 1, 1) := by decide +kernel
theorem dX5_tiles_2 : decode cX5_tiles 2 = .ok (.invokevirtual 93, 3) := by decide +kernel
theorem dX5_tiles_5 : decode cX5_tiles 5 = .ok (.ifCond .eq 23, 3) := by decide +kernel
theorem dX5_tiles_8 : decode cX5_tiles 8 = .ok (.iload_n 2, 1) := by decide +kernel
theorem dX5_tiles_9 : decode cX5_tiles 9 = .ok (.i2l, 1) := by decide +kernel
theorem dX5_tiles_10 : decode cX5_tiles 10 = .ok (.lconst 0, 1) := by decide +kernel
theorem dX5_tiles_11 : decode cX5_tiles 11 = .ok (.lconst 1, 1) := by decide +kernel
theorem dX5_tiles_12 : decode cX5_tiles 12 = .ok (.invokestatic 58, 3) := by decide +kernel
theorem dX5_tiles_15 : decode cX5_tiles 15 = .ok (.ifCond .eq 13, 3) := by decide +kernel
theorem dX5_tiles_18 : decode cX5_tiles 18 = .ok (.iload_n 3, 1) := by decide +kernel
theorem dX5_tiles_19 : decode cX5_tiles 19 = .ok (.i2l, 1) := by decide +kernel
theorem dX5_tiles_20 : decode cX5_tiles 20 = .ok (.lconst 0, 1) := by decide +kernel
theorem dX5_tiles_21 : decode cX5_tiles 21 = .ok (.lconst 1, 1) := by decide +kernel
theorem dX5_tiles_22 : decode cX5_tiles 22 = .ok (.invokestatic 58, 3) := by decide +kernel
theorem dX5_tiles_25 : decode cX5_tiles 25 = .ok (.ifCond .ne 10, 3) := by decide +kernel
theorem dX5_tiles_28 : decode cX5_tiles 28 = .ok (.aload_n 0, 1) := by decide +kernel
theorem dX5_tiles_29 : decode cX5_tiles 29 = .ok (.bipush (-2), 2) := by decide +kernel
theorem dX5_tiles_31 : decode cX5_tiles 31 = .ok (.invokevirtual 73, 3) := by decide +kernel
theorem dX5_tiles_34 : decode cX5_tiles 34 = .ok (.ireturn, 1) := by decide +kernel
theorem dX5_tiles_35 : decode cX5_tiles 35 = .ok (.aload_n 0, 1) := by decide +kernel
theorem dX5_tiles_36 : decode cX5_tiles 36 = .ok (.getfield 7, 3) := by decide +kernel
theorem dX5_tiles_39 : decode cX5_tiles 39 = .ok (.iconst 0, 1) := by decide +kernel
theorem dX5_tiles_40 : decode cX5_tiles 40 = .ok (.bipush 8, 2) := by decide +kernel
theorem dX5_tiles_42 : decode cX5_tiles 42 = .ok (.iload_n 1, 1) := by decide +kernel
theorem dX5_tiles_43 : decode cX5_tiles 43 = .ok (.imul, 1) := by decide +kernel
theorem dX5_tiles_44 : decode cX5_tiles 44 = .ok (.iadd, 1) := by decide +kernel
theorem dX5_tiles_45 : decode cX5_tiles 45 = .ok (.iconst 2, 1) := by decide +kernel
theorem dX5_tiles_46 : decode cX5_tiles 46 = .ok (.iadd, 1) := by decide +kernel
theorem dX5_tiles_47 : decode cX5_tiles 47 = .ok (.iconst 2, 1) := by decide +kernel
theorem dX5_tiles_48 : decode cX5_tiles 48 = .ok (.iload_n 2, 1) := by decide +kernel
theorem dX5_tiles_49 : decode cX5_tiles 49 = .ok (.imul, 1) := by decide +kernel
theorem dX5_tiles_50 : decode cX5_tiles 50 = .ok (.iadd, 1) := by decide +kernel
theorem dX5_tiles_51 : decode cX5_tiles 51 = .ok (.iload_n 3, 1) := by decide +kernel
theorem dX5_tiles_52 : decode cX5_tiles 52 = .ok (.iadd, 1) := by decide +kernel
theorem dX5_tiles_53 : decode cX5_tiles 53 = .ok (.iaload, 1) := by decide +kernel
theorem dX5_tiles_54 : decode cX5_tiles 54 = .ok (.ireturn, 1) := by decide +kernel
theorem dX5_takeNow_0 : decode cX5_takeNow 0 = .ok (.iconst 0, 1) := by decide +kernel
theorem dX5_takeNow_1 : decode cX5_takeNow 1 = .ok (.istore_n 1, 1) := by decide +kernel
theorem dX5_takeNow_2 : decode cX5_takeNow 2 = .ok (.iload_n 1, 1) := by decide +kernel
theorem dX5_takeNow_3 : decode cX5_takeNow 3 = .ok (.bipush 7, 2) := by decide +kernel
theorem dX5_takeNow_5 : decode cX5_takeNow 5 = .ok (.if_icmp .ge 78, 3) := by decide +kernel
theorem dX5_takeNow_8 : decode cX5_takeNow 8 = .ok (.iconst 0, 1) := by decide +kernel
theorem dX5_takeNow_9 : decode cX5_takeNow 9 = .ok (.istore_n 2, 1) := by decide +kernel
theorem dX5_takeNow_10 : decode cX5_takeNow 10 = .ok (.iload_n 2, 1) := by decide +kernel
theorem dX5_takeNow_11 : decode cX5_takeNow 11 = .ok (.iconst 4, 1) := by decide +kernel
theorem dX5_takeNow_12 : decode cX5_takeNow 12 = .ok (.if_icmp .ge 46, 3) := by decide +kernel
theorem dX5_takeNow_15 : decode cX5_takeNow 15 = .ok (.aload_n 0, 1) := by decide +kernel
theorem dX5_takeNow_16 : decode cX5_takeNow 16 = .ok (.getfield 27, 3) := by decide +kernel
theorem dX5_takeNow_19 : decode cX5_takeNow 19 = .ok (.iconst 4, 1) := by decide +kernel
theorem dX5_takeNow_20 : decode cX5_takeNow 20 = .ok (.iload_n 1, 1) := by decide +kernel
theorem dX5_takeNow_21 : decode cX5_takeNow 21 = .ok (.imul, 1) := by decide +kernel
theorem dX5_takeNow_22 : decode cX5_takeNow 22 = .ok (.iload_n 2, 1) := by decide +kernel
theorem dX5_takeNow_23 : decode cX5_takeNow 23 = .ok (.iadd, 1) := by decide +kernel
theorem dX5_takeNow_24 : decode cX5_takeNow 24 = .ok (.iload_n 1, 1) := by decide +kernel
theorem dX5_takeNow_25 : decode cX5_takeNow 25 = .ok (.aload_n 0, 1) := by decide +kernel
theorem dX5_takeNow_26 : decode cX5_takeNow 26 = .ok (.invokevirtual 54, 3) := by decide +kernel
theorem dX5_takeNow_29 : decode cX5_takeNow 29 = .ok (.if_icmp .ge 21, 3) := by decide +kernel
theorem dX5_takeNow_32 : decode cX5_takeNow 32 = .ok (.aload_n 0, 1) := by decide +kernel
theorem dX5_takeNow_33 : decode cX5_takeNow 33 = .ok (.getfield 7, 3) := by decide +kernel
theorem dX5_takeNow_36 : decode cX5_takeNow 36 = .ok (.iconst 0, 1) := by decide +kernel
theorem dX5_takeNow_37 : decode cX5_takeNow 37 = .ok (.bipush 8, 2) := by decide +kernel
theorem dX5_takeNow_39 : decode cX5_takeNow 39 = .ok (.iload_n 1, 1) := by decide +kernel
theorem dX5_takeNow_40 : decode cX5_takeNow 40 = .ok (.imul, 1) := by decide +kernel
theorem dX5_takeNow_41 : decode cX5_takeNow 41 = .ok (.iadd, 1) := by decide +kernel
theorem dX5_takeNow_42 : decode cX5_takeNow 42 = .ok (.iconst 2, 1) := by decide +kernel
theorem dX5_takeNow_43 : decode cX5_takeNow 43 = .ok (.iadd, 1) := by decide +kernel
theorem dX5_takeNow_44 : decode cX5_takeNow 44 = .ok (.iload_n 2, 1) := by decide +kernel
theorem dX5_takeNow_45 : decode cX5_takeNow 45 = .ok (.iadd, 1) := by decide +kernel
theorem dX5_takeNow_46 : decode cX5_takeNow 46 = .ok (.iaload, 1) := by decide +kernel
theorem dX5_takeNow_47 : decode cX5_takeNow 47 = .ok (.goto 4, 3) := by decide +kernel
theorem dX5_takeNow_50 : decode cX5_takeNow 50 = .ok (.iconst 0, 1) := by decide +kernel
theorem dX5_takeNow_51 : decode cX5_takeNow 51 = .ok (.iastore, 1) := by decide +kernel
theorem dX5_takeNow_52 : decode cX5_takeNow 52 = .ok (.iinc 2 1, 3) := by decide +kernel
theorem dX5_takeNow_55 : decode cX5_takeNow 55 = .ok (.goto (-45), 3) := by decide +kernel
theorem dX5_takeNow_58 : decode cX5_takeNow 58 = .ok (.aload_n 0, 1) := by decide +kernel
theorem dX5_takeNow_59 : decode cX5_takeNow 59 = .ok (.getfield 30, 3) := by decide +kernel
theorem dX5_takeNow_62 : decode cX5_takeNow 62 = .ok (.iload_n 1, 1) := by decide +kernel
theorem dX5_takeNow_63 : decode cX5_takeNow 63 = .ok (.aload_n 0, 1) := by decide +kernel
theorem dX5_takeNow_64 : decode cX5_takeNow 64 = .ok (.getfield 7, 3) := by decide +kernel
theorem dX5_takeNow_67 : decode cX5_takeNow 67 = .ok (.iconst 0, 1) := by decide +kernel
theorem dX5_takeNow_68 : decode cX5_takeNow 68 = .ok (.bipush 8, 2) := by decide +kernel
theorem dX5_takeNow_70 : decode cX5_takeNow 70 = .ok (.iload_n 1, 1) := by decide +kernel
theorem dX5_takeNow_71 : decode cX5_takeNow 71 = .ok (.imul, 1) := by decide +kernel
theorem dX5_takeNow_72 : decode cX5_takeNow 72 = .ok (.iadd, 1) := by decide +kernel
theorem dX5_takeNow_73 : decode cX5_takeNow 73 = .ok (.iconst 1, 1) := by decide +kernel
theorem dX5_takeNow_74 : decode cX5_takeNow 74 = .ok (.iadd, 1) := by decide +kernel
theorem dX5_takeNow_75 : decode cX5_takeNow 75 = .ok (.iaload, 1) := by decide +kernel
theorem dX5_takeNow_76 : decode cX5_takeNow 76 = .ok (.iastore, 1) := by decide +kernel
theorem dX5_takeNow_77 : decode cX5_takeNow 77 = .ok (.iinc 1 1, 3) := by decide +kernel
theorem dX5_takeNow_80 : decode cX5_takeNow 80 = .ok (.goto (-78), 3) := by decide +kernel
theorem dX5_takeNow_83 : decode cX5_takeNow 83 = .ok (.return_, 1) := by decide +kernel
theorem dX5_cannonAt_0 : decode cX5_cannonAt 0 = .ok (.iload_n 1, 1) := by decide +kernel
theorem dX5_cannonAt_1 : decode cX5_cannonAt 1 = .ok (.i2l, 1) := by decide +kernel
theorem dX5_cannonAt_2 : decode cX5_cannonAt 2 = .ok (.lconst 0, 1) := by decide +kernel
theorem dX5_cannonAt_3 : decode cX5_cannonAt 3 = .ok (.ldc2_w 84, 3) := by decide +kernel
theorem dX5_cannonAt_6 : decode cX5_cannonAt 6 = .ok (.invokestatic 58, 3) := by decide +kernel
theorem dX5_cannonAt_9 : decode cX5_cannonAt 9 = .ok (.ifCond .eq 15, 3) := by decide +kernel
theorem dX5_cannonAt_12 : decode cX5_cannonAt 12 = .ok (.aload_n 0, 1) := by decide +kernel
theorem dX5_cannonAt_13 : decode cX5_cannonAt 13 = .ok (.getfield 7, 3) := by decide +kernel
theorem dX5_cannonAt_16 : decode cX5_cannonAt 16 = .ok (.bipush 86, 2) := by decide +kernel
theorem dX5_cannonAt_18 : decode cX5_cannonAt 18 = .ok (.iload_n 1, 1) := by decide +kernel
theorem dX5_cannonAt_19 : decode cX5_cannonAt 19 = .ok (.iadd, 1) := by decide +kernel
theorem dX5_cannonAt_20 : decode cX5_cannonAt 20 = .ok (.iaload, 1) := by decide +kernel
theorem dX5_cannonAt_21 : decode cX5_cannonAt 21 = .ok (.goto 4, 3) := by decide +kernel
theorem dX5_cannonAt_24 : decode cX5_cannonAt 24 = .ok (.iconst 0, 1) := by decide +kernel
theorem dX5_cannonAt_25 : decode cX5_cannonAt 25 = .ok (.ireturn, 1) := by decide +kernel
theorem dX5_forceOf_0 : decode cX5_forceOf 0 = .ok (.iload_n 2, 1) := by decide +kernel
theorem dX5_forceOf_1 : decode cX5_forceOf 1 = .ok (.i2l, 1) := by decide +kernel
theorem dX5_forceOf_2 : decode cX5_forceOf 2 = .ok (.aload_n 0, 1) := by decide +kernel
theorem dX5_forceOf_3 : decode cX5_forceOf 3 = .ok (.iload_n 1, 1) := by decide +kernel
theorem dX5_forceOf_4 : decode cX5_forceOf 4 = .ok (.iconst 0, 1) := by decide +kernel
theorem dX5_forceOf_5 : decode cX5_forceOf 5 = .ok (.invokevirtual 97, 3) := by decide +kernel
theorem dX5_forceOf_8 : decode cX5_forceOf 8 = .ok (.i2l, 1) := by decide +kernel
theorem dX5_forceOf_9 : decode cX5_forceOf 9 = .ok (.aload_n 0, 1) := by decide +kernel
theorem dX5_forceOf_10 : decode cX5_forceOf 10 = .ok (.iload_n 1, 1) := by decide +kernel
theorem dX5_forceOf_11 : decode cX5_forceOf 11 = .ok (.iconst 1, 1) := by decide +kernel
theorem dX5_forceOf_12 : decode cX5_forceOf 12 = .ok (.invokevirtual 97, 3) := by decide +kernel
theorem dX5_forceOf_15 : decode cX5_forceOf 15 = .ok (.i2l, 1) := by decide +kernel
theorem dX5_forceOf_16 : decode cX5_forceOf 16 = .ok (.invokestatic 58, 3) := by decide +kernel
theorem dX5_forceOf_19 : decode cX5_forceOf 19 = .ok (.ifCond .ne 5, 3) := by decide +kernel
theorem dX5_forceOf_22 : decode cX5_forceOf 22 = .ok (.iconst 0, 1) := by decide +kernel
theorem dX5_forceOf_23 : decode cX5_forceOf 23 = .ok (.ireturn, 1) := by decide +kernel
theorem dX5_forceOf_24 : decode cX5_forceOf 24 = .ok (.aload_n 0, 1) := by decide +kernel
theorem dX5_forceOf_25 : decode cX5_forceOf 25 = .ok (.iload_n 1, 1) := by decide +kernel
theorem dX5_forceOf_26 : decode cX5_forceOf 26 = .ok (.iconst 3, 1) := by decide +kernel
theorem dX5_forceOf_27 : decode cX5_forceOf 27 = .ok (.invokevirtual 97, 3) := by decide +kernel
theorem dX5_forceOf_30 : decode cX5_forceOf 30 = .ok (.istore 4, 2) := by decide +kernel
theorem dX5_forceOf_32 : decode cX5_forceOf 32 = .ok (.aload_n 0, 1) := by decide +kernel
theorem dX5_forceOf_33 : decode cX5_forceOf 33 = .ok (.iload_n 1, 1) := by decide +kernel
theorem dX5_forceOf_34 : decode cX5_forceOf 34 = .ok (.iconst 2, 1) := by decide +kernel
theorem dX5_forceOf_35 : decode cX5_forceOf 35 = .ok (.invokevirtual 97, 3) := by decide +kernel
theorem dX5_forceOf_38 : decode cX5_forceOf 38 = .ok (.iload_n 3, 1) := by decide +kernel
theorem dX5_forceOf_39 : decode cX5_forceOf 39 = .ok (.if_icmp .ne 8, 3) := by decide +kernel
theorem dX5_forceOf_42 : decode cX5_forceOf 42 = .ok (.iload 4, 2) := by decide +kernel
theorem dX5_forceOf_44 : decode cX5_forceOf 44 = .ok (.goto 7, 3) := by decide +kernel
theorem dX5_forceOf_47 : decode cX5_forceOf 47 = .ok (.iload 4, 2) := by decide +kernel
theorem dX5_forceOf_49 : decode cX5_forceOf 49 = .ok (.iconst 2, 1) := by decide +kernel
theorem dX5_forceOf_50 : decode cX5_forceOf 50 = .ok (.idiv, 1) := by decide +kernel
theorem dX5_forceOf_51 : decode cX5_forceOf 51 = .ok (.istore 5, 2) := by decide +kernel
theorem dX5_forceOf_53 : decode cX5_forceOf 53 = .ok (.iload 5, 2) := by decide +kernel
theorem dX5_forceOf_55 : decode cX5_forceOf 55 = .ok (.iconst 2, 1) := by decide +kernel
theorem dX5_forceOf_56 : decode cX5_forceOf 56 = .ok (.aload_n 0, 1) := by decide +kernel
theorem dX5_forceOf_57 : decode cX5_forceOf 57 = .ok (.iload_n 2, 1) := by decide +kernel
theorem dX5_forceOf_58 : decode cX5_forceOf 58 = .ok (.invokevirtual 101, 3) := by decide +kernel
theorem dX5_forceOf_61 : decode cX5_forceOf 61 = .ok (.imul, 1) := by decide +kernel
theorem dX5_forceOf_62 : decode cX5_forceOf 62 = .ok (.aload_n 0, 1) := by decide +kernel
theorem dX5_forceOf_63 : decode cX5_forceOf 63 = .ok (.iload_n 2, 1) := by decide +kernel
theorem dX5_forceOf_64 : decode cX5_forceOf 64 = .ok (.iconst 1, 1) := by decide +kernel
theorem dX5_forceOf_65 : decode cX5_forceOf 65 = .ok (.isub, 1) := by decide +kernel
theorem dX5_forceOf_66 : decode cX5_forceOf 66 = .ok (.invokevirtual 101, 3) := by decide +kernel
theorem dX5_forceOf_69 : decode cX5_forceOf 69 = .ok (.iadd, 1) := by decide +kernel
theorem dX5_forceOf_70 : decode cX5_forceOf 70 = .ok (.aload_n 0, 1) := by decide +kernel
theorem dX5_forceOf_71 : decode cX5_forceOf 71 = .ok (.iload_n 2, 1) := by decide +kernel
theorem dX5_forceOf_72 : decode cX5_forceOf 72 = .ok (.iconst 1, 1) := by decide +kernel
theorem dX5_forceOf_73 : decode cX5_forceOf 73 = .ok (.iadd, 1) := by decide +kernel
theorem dX5_forceOf_74 : decode cX5_forceOf 74 = .ok (.invokevirtual 101, 3) := by decide +kernel
theorem dX5_forceOf_77 : decode cX5_forceOf 77 = .ok (.iadd, 1) := by decide +kernel
theorem dX5_forceOf_78 : decode cX5_forceOf 78 = .ok (.isub, 1) := by decide +kernel
theorem dX5_forceOf_79 : decode cX5_forceOf 79 = .ok (.istore 5, 2) := by decide +kernel
theorem dX5_forceOf_81 : decode cX5_forceOf 81 = .ok (.iload 5, 2) := by decide +kernel
theorem dX5_forceOf_83 : decode cX5_forceOf 83 = .ok (.ifCond .ge 7, 3) := by decide +kernel
theorem dX5_forceOf_86 : decode cX5_forceOf 86 = .ok (.iconst 0, 1) := by decide +kernel
theorem dX5_forceOf_87 : decode cX5_forceOf 87 = .ok (.goto 5, 3) := by decide +kernel
theorem dX5_forceOf_90 : decode cX5_forceOf 90 = .ok (.iload 5, 2) := by decide +kernel
theorem dX5_forceOf_92 : decode cX5_forceOf 92 = .ok (.ireturn, 1) := by decide +kernel
theorem dX5_force_0 : decode cX5_force 0 = .ok (.aload_n 0, 1) := by decide +kernel
theorem dX5_force_1 : decode cX5_force 1 = .ok (.iload_n 1, 1) := by decide +kernel
theorem dX5_force_2 : decode cX5_force 2 = .ok (.invokevirtual 104, 3) := by decide +kernel
theorem dX5_force_5 : decode cX5_force 5 = .ok (.ifCond .eq 21, 3) := by decide +kernel
theorem dX5_force_8 : decode cX5_force 8 = .ok (.aload_n 0, 1) := by decide +kernel
theorem dX5_force_9 : decode cX5_force 9 = .ok (.iload_n 2, 1) := by decide +kernel
theorem dX5_force_10 : decode cX5_force 10 = .ok (.invokevirtual 93, 3) := by decide +kernel
theorem dX5_force_13 : decode cX5_force 13 = .ok (.ifCond .eq 13, 3) := by decide +kernel
theorem dX5_force_16 : decode cX5_force 16 = .ok (.iload_n 3, 1) := by decide +kernel
theorem dX5_force_17 : decode cX5_force 17 = .ok (.i2l, 1) := by decide +kernel
theorem dX5_force_18 : decode cX5_force 18 = .ok (.lconst 0, 1) := by decide +kernel
theorem dX5_force_19 : decode cX5_force 19 = .ok (.lconst 1, 1) := by decide +kernel
theorem dX5_force_20 : decode cX5_force 20 = .ok (.invokestatic 58, 3) := by decide +kernel
theorem dX5_force_23 : decode cX5_force 23 = .ok (.ifCond .ne 10, 3) := by decide +kernel
theorem dX5_force_26 : decode cX5_force 26 = .ok (.aload_n 0, 1) := by decide +kernel
theorem dX5_force_27 : decode cX5_force 27 = .ok (.bipush (-2), 2) := by decide +kernel
theorem dX5_force_29 : decode cX5_force 29 = .ok (.invokevirtual 73, 3) := by decide +kernel
theorem dX5_force_32 : decode cX5_force 32 = .ok (.ireturn, 1) := by decide +kernel
theorem dX5_force_33 : decode cX5_force 33 = .ok (.aload_n 0, 1) := by decide +kernel
theorem dX5_force_34 : decode cX5_force 34 = .ok (.iload_n 1, 1) := by decide +kernel
theorem dX5_force_35 : decode cX5_force 35 = .ok (.iload_n 2, 1) := by decide +kernel
theorem dX5_force_36 : decode cX5_force 36 = .ok (.iload_n 3, 1) := by decide +kernel
theorem dX5_force_37 : decode cX5_force 37 = .ok (.invokevirtual 107, 3) := by decide +kernel
theorem dX5_force_40 : decode cX5_force 40 = .ok (.ireturn, 1) := by decide +kernel
theorem dX5_hits_0 : decode cX5_hits 0 = .ok (.iload_n 2, 1) := by decide +kernel
theorem dX5_hits_1 : decode cX5_hits 1 = .ok (.ifCond .ne 5, 3) := by decide +kernel
theorem dX5_hits_4 : decode cX5_hits 4 = .ok (.iconst 0, 1) := by decide +kernel
theorem dX5_hits_5 : decode cX5_hits 5 = .ok (.ireturn, 1) := by decide +kernel
theorem dX5_hits_6 : decode cX5_hits 6 = .ok (.aload_n 0, 1) := by decide +kernel
theorem dX5_hits_7 : decode cX5_hits 7 = .ok (.getfield 7, 3) := by decide +kernel
theorem dX5_hits_10 : decode cX5_hits 10 = .ok (.iconst 0, 1) := by decide +kernel
theorem dX5_hits_11 : decode cX5_hits 11 = .ok (.bipush 8, 2) := by decide +kernel
theorem dX5_hits_13 : decode cX5_hits 13 = .ok (.iload_n 1, 1) := by decide +kernel
theorem dX5_hits_14 : decode cX5_hits 14 = .ok (.imul, 1) := by decide +kernel
theorem dX5_hits_15 : decode cX5_hits 15 = .ok (.iadd, 1) := by decide +kernel
theorem dX5_hits_16 : decode cX5_hits 16 = .ok (.iconst 0, 1) := by decide +kernel
theorem dX5_hits_17 : decode cX5_hits 17 = .ok (.iadd, 1) := by decide +kernel
theorem dX5_hits_18 : decode cX5_hits 18 = .ok (.iaload, 1) := by decide +kernel
theorem dX5_hits_19 : decode cX5_hits 19 = .ok (.tableswitch 65 1 5 #[33, 42, 46, 52, 63], 33) := by decide +kernel
theorem dX5_hits_52 : decode cX5_hits 52 = .ok (.iload_n 2, 1) := by decide +kernel
theorem dX5_hits_53 : decode cX5_hits 53 = .ok (.aload_n 0, 1) := by decide +kernel
theorem dX5_hits_54 : decode cX5_hits 54 = .ok (.getfield 30, 3) := by decide +kernel
theorem dX5_hits_57 : decode cX5_hits 57 = .ok (.iload_n 1, 1) := by decide +kernel
theorem dX5_hits_58 : decode cX5_hits 58 = .ok (.iaload, 1) := by decide +kernel
theorem dX5_hits_59 : decode cX5_hits 59 = .ok (.iadd, 1) := by decide +kernel
theorem dX5_hits_60 : decode cX5_hits 60 = .ok (.ireturn, 1) := by decide +kernel
theorem dX5_hits_61 : decode cX5_hits 61 = .ok (.iload_n 2, 1) := by decide +kernel
theorem dX5_hits_62 : decode cX5_hits 62 = .ok (.iconst 2, 1) := by decide +kernel
theorem dX5_hits_63 : decode cX5_hits 63 = .ok (.idiv, 1) := by decide +kernel
theorem dX5_hits_64 : decode cX5_hits 64 = .ok (.ireturn, 1) := by decide +kernel
theorem dX5_hits_65 : decode cX5_hits 65 = .ok (.iload_n 2, 1) := by decide +kernel
theorem dX5_hits_66 : decode cX5_hits 66 = .ok (.iconst 2, 1) := by decide +kernel
theorem dX5_hits_67 : decode cX5_hits 67 = .ok (.idiv, 1) := by decide +kernel
theorem dX5_hits_68 : decode cX5_hits 68 = .ok (.iconst 1, 1) := by decide +kernel
theorem dX5_hits_69 : decode cX5_hits 69 = .ok (.isub, 1) := by decide +kernel
theorem dX5_hits_70 : decode cX5_hits 70 = .ok (.ireturn, 1) := by decide +kernel
theorem dX5_hits_71 : decode cX5_hits 71 = .ok (.iload_n 2, 1) := by decide +kernel
theorem dX5_hits_72 : decode cX5_hits 72 = .ok (.aload_n 0, 1) := by decide +kernel
theorem dX5_hits_73 : decode cX5_hits 73 = .ok (.getfield 30, 3) := by decide +kernel
theorem dX5_hits_76 : decode cX5_hits 76 = .ok (.iload_n 1, 1) := by decide +kernel
theorem dX5_hits_77 : decode cX5_hits 77 = .ok (.iaload, 1) := by decide +kernel
theorem dX5_hits_78 : decode cX5_hits 78 = .ok (.iadd, 1) := by decide +kernel
theorem dX5_hits_79 : decode cX5_hits 79 = .ok (.iconst 3, 1) := by decide +kernel
theorem dX5_hits_80 : decode cX5_hits 80 = .ok (.isub, 1) := by decide +kernel
theorem dX5_hits_81 : decode cX5_hits 81 = .ok (.ireturn, 1) := by decide +kernel
theorem dX5_hits_82 : decode cX5_hits 82 = .ok (.iconst 0, 1) := by decide +kernel
theorem dX5_hits_83 : decode cX5_hits 83 = .ok (.ireturn, 1) := by decide +kernel
theorem dX5_hits_84 : decode cX5_hits 84 = .ok (.iload_n 2, 1) := by decide +kernel
theorem dX5_hits_85 : decode cX5_hits 85 = .ok (.ireturn, 1) := by decide +kernel
theorem dX5_breaksOf_0 : decode cX5_breaksOf 0 = .ok (.aload_n 0, 1) := by decide +kernel
theorem dX5_breaksOf_1 : decode cX5_breaksOf 1 = .ok (.iload_n 2, 1) := by decide +kernel
theorem dX5_breaksOf_2 : decode cX5_breaksOf 2 = .ok (.aload_n 0, 1) := by decide +kernel
theorem dX5_breaksOf_3 : decode cX5_breaksOf 3 = .ok (.iload_n 1, 1) := by decide +kernel
theorem dX5_breaksOf_4 : decode cX5_breaksOf 4 = .ok (.iload_n 2, 1) := by decide +kernel
theorem dX5_breaksOf_5 : decode cX5_breaksOf 5 = .ok (.iload_n 3, 1) := by decide +kernel
theorem dX5_breaksOf_6 : decode cX5_breaksOf 6 = .ok (.invokevirtual 107, 3) := by decide +kernel
theorem dX5_breaksOf_9 : decode cX5_breaksOf 9 = .ok (.invokevirtual 111, 3) := by decide +kernel
theorem dX5_breaksOf_12 : decode cX5_breaksOf 12 = .ok (.istore 5, 2) := by decide +kernel
theorem dX5_breaksOf_14 : decode cX5_breaksOf 14 = .ok (.aload_n 0, 1) := by decide +kernel
theorem dX5_breaksOf_15 : decode cX5_breaksOf 15 = .ok (.getfield 27, 3) := by decide +kernel
theorem dX5_breaksOf_18 : decode cX5_breaksOf 18 = .ok (.iconst 4, 1) := by decide +kernel
theorem dX5_breaksOf_19 : decode cX5_breaksOf 19 = .ok (.iload_n 2, 1) := by decide +kernel
theorem dX5_breaksOf_20 : decode cX5_breaksOf 20 = .ok (.imul, 1) := by decide +kernel
theorem dX5_breaksOf_21 : decode cX5_breaksOf 21 = .ok (.iconst 2, 1) := by decide +kernel
theorem dX5_breaksOf_22 : decode cX5_breaksOf 22 = .ok (.iload_n 3, 1) := by decide +kernel
theorem dX5_breaksOf_23 : decode cX5_breaksOf 23 = .ok (.imul, 1) := by decide +kernel
theorem dX5_breaksOf_24 : decode cX5_breaksOf 24 = .ok (.iadd, 1) := by decide +kernel
theorem dX5_breaksOf_25 : decode cX5_breaksOf 25 = .ok (.iload 4, 2) := by decide +kernel
theorem dX5_breaksOf_27 : decode cX5_breaksOf 27 = .ok (.iadd, 1) := by decide +kernel
theorem dX5_breaksOf_28 : decode cX5_breaksOf 28 = .ok (.iaload, 1) := by decide +kernel
theorem dX5_breaksOf_29 : decode cX5_breaksOf 29 = .ok (.istore 6, 2) := by decide +kernel
theorem dX5_breaksOf_31 : decode cX5_breaksOf 31 = .ok (.iload 5, 2) := by decide +kernel
theorem dX5_breaksOf_33 : decode cX5_breaksOf 33 = .ok (.ifCond .ge 7, 3) := by decide +kernel
theorem dX5_breaksOf_36 : decode cX5_breaksOf 36 = .ok (.iconst 0, 1) := by decide +kernel
theorem dX5_breaksOf_37 : decode cX5_breaksOf 37 = .ok (.goto 17, 3) := by decide +kernel
theorem dX5_breaksOf_40 : decode cX5_breaksOf 40 = .ok (.iload 5, 2) := by decide +kernel
theorem dX5_breaksOf_42 : decode cX5_breaksOf 42 = .ok (.iload 6, 2) := by decide +kernel
theorem dX5_breaksOf_44 : decode cX5_breaksOf 44 = .ok (.if_icmp .le 8, 3) := by decide +kernel
theorem dX5_breaksOf_47 : decode cX5_breaksOf 47 = .ok (.iload 6, 2) := by decide +kernel
theorem dX5_breaksOf_49 : decode cX5_breaksOf 49 = .ok (.goto 5, 3) := by decide +kernel
theorem dX5_breaksOf_52 : decode cX5_breaksOf 52 = .ok (.iload 5, 2) := by decide +kernel
theorem dX5_breaksOf_54 : decode cX5_breaksOf 54 = .ok (.ireturn, 1) := by decide +kernel
theorem dX5_breaksAll_0 : decode cX5_breaksAll 0 = .ok (.aload_n 0, 1) := by decide +kernel
theorem dX5_breaksAll_1 : decode cX5_breaksAll 1 = .ok (.iload_n 1, 1) := by decide +kernel
theorem dX5_breaksAll_2 : decode cX5_breaksAll 2 = .ok (.iload_n 2, 1) := by decide +kernel
theorem dX5_breaksAll_3 : decode cX5_breaksAll 3 = .ok (.iconst 0, 1) := by decide +kernel
theorem dX5_breaksAll_4 : decode cX5_breaksAll 4 = .ok (.iload_n 3, 1) := by decide +kernel
theorem dX5_breaksAll_5 : decode cX5_breaksAll 5 = .ok (.invokevirtual 114, 3) := by decide +kernel
theorem dX5_breaksAll_8 : decode cX5_breaksAll 8 = .ok (.aload_n 0, 1) := by decide +kernel
theorem dX5_breaksAll_9 : decode cX5_breaksAll 9 = .ok (.iload_n 1, 1) := by decide +kernel
theorem dX5_breaksAll_10 : decode cX5_breaksAll 10 = .ok (.iload_n 2, 1) := by decide +kernel
theorem dX5_breaksAll_11 : decode cX5_breaksAll 11 = .ok (.iconst 1, 1) := by decide +kernel
theorem dX5_breaksAll_12 : decode cX5_breaksAll 12 = .ok (.iload_n 3, 1) := by decide +kernel
theorem dX5_breaksAll_13 : decode cX5_breaksAll 13 = .ok (.invokevirtual 114, 3) := by decide +kernel
theorem dX5_breaksAll_16 : decode cX5_breaksAll 16 = .ok (.iadd, 1) := by decide +kernel
theorem dX5_breaksAll_17 : decode cX5_breaksAll 17 = .ok (.ireturn, 1) := by decide +kernel
theorem dX5_brokenBy_0 : decode cX5_brokenBy 0 = .ok (.iconst 0, 1) := by decide +kernel
theorem dX5_brokenBy_1 : decode cX5_brokenBy 1 = .ok (.istore_n 3, 1) := by decide +kernel
theorem dX5_brokenBy_2 : decode cX5_brokenBy 2 = .ok (.iconst 0, 1) := by decide +kernel
theorem dX5_brokenBy_3 : decode cX5_brokenBy 3 = .ok (.istore 4, 2) := by decide +kernel
theorem dX5_brokenBy_5 : decode cX5_brokenBy 5 = .ok (.iload 4, 2) := by decide +kernel
theorem dX5_brokenBy_7 : decode cX5_brokenBy 7 = .ok (.aload_n 0, 1) := by decide +kernel
theorem dX5_brokenBy_8 : decode cX5_brokenBy 8 = .ok (.invokevirtual 54, 3) := by decide +kernel
theorem dX5_brokenBy_11 : decode cX5_brokenBy 11 = .ok (.if_icmp .ge 20, 3) := by decide +kernel
theorem dX5_brokenBy_14 : decode cX5_brokenBy 14 = .ok (.iload_n 3, 1) := by decide +kernel
theorem dX5_brokenBy_15 : decode cX5_brokenBy 15 = .ok (.aload_n 0, 1) := by decide +kernel
theorem dX5_brokenBy_16 : decode cX5_brokenBy 16 = .ok (.iload_n 1, 1) := by decide +kernel
theorem dX5_brokenBy_17 : decode cX5_brokenBy 17 = .ok (.iload 4, 2) := by decide +kernel
theorem dX5_brokenBy_19 : decode cX5_brokenBy 19 = .ok (.iload_n 2, 1) := by decide +kernel
theorem dX5_brokenBy_20 : decode cX5_brokenBy 20 = .ok (.invokevirtual 118, 3) := by decide +kernel
theorem dX5_brokenBy_23 : decode cX5_brokenBy 23 = .ok (.iadd, 1) := by decide +kernel
theorem dX5_brokenBy_24 : decode cX5_brokenBy 24 = .ok (.istore_n 3, 1) := by decide +kernel
theorem dX5_brokenBy_25 : decode cX5_brokenBy 25 = .ok (.iinc 4 1, 3) := by decide +kernel
theorem dX5_brokenBy_28 : decode cX5_brokenBy 28 = .ok (.goto (-23), 3) := by decide +kernel
theorem dX5_brokenBy_31 : decode cX5_brokenBy 31 = .ok (.iload_n 3, 1) := by decide +kernel
theorem dX5_brokenBy_32 : decode cX5_brokenBy 32 = .ok (.ireturn, 1) := by decide +kernel
theorem dX5_breaks_0 : decode cX5_breaks 0 = .ok (.aload_n 0, 1) := by decide +kernel
theorem dX5_breaks_1 : decode cX5_breaks 1 = .ok (.iload_n 1, 1) := by decide +kernel
theorem dX5_breaks_2 : decode cX5_breaks 2 = .ok (.invokevirtual 104, 3) := by decide +kernel
theorem dX5_breaks_5 : decode cX5_breaks 5 = .ok (.ifCond .eq 26, 3) := by decide +kernel
theorem dX5_breaks_8 : decode cX5_breaks 8 = .ok (.iload_n 2, 1) := by decide +kernel
theorem dX5_breaks_9 : decode cX5_breaks 9 = .ok (.iconst (-1), 1) := by decide +kernel
theorem dX5_breaks_10 : decode cX5_breaks 10 = .ok (.if_icmp .eq 11, 3) := by decide +kernel
theorem dX5_breaks_13 : decode cX5_breaks 13 = .ok (.aload_n 0, 1) := by decide +kernel
theorem dX5_breaks_14 : decode cX5_breaks 14 = .ok (.iload_n 2, 1) := by decide +kernel
theorem dX5_breaks_15 : decode cX5_breaks 15 = .ok (.invokevirtual 93, 3) := by decide +kernel
theorem dX5_breaks_18 : decode cX5_breaks 18 = .ok (.ifCond .eq 13, 3) := by decide +kernel
theorem dX5_breaks_21 : decode cX5_breaks 21 = .ok (.iload_n 3, 1) := by decide +kernel
theorem dX5_breaks_22 : decode cX5_breaks 22 = .ok (.i2l, 1) := by decide +kernel
theorem dX5_breaks_23 : decode cX5_breaks 23 = .ok (.lconst 0, 1) := by decide +kernel
theorem dX5_breaks_24 : decode cX5_breaks 24 = .ok (.lconst 1, 1) := by decide +kernel
theorem dX5_breaks_25 : decode cX5_breaks 25 = .ok (.invokestatic 58, 3) := by decide +kernel
theorem dX5_breaks_28 : decode cX5_breaks 28 = .ok (.ifCond .ne 10, 3) := by decide +kernel
theorem dX5_breaks_31 : decode cX5_breaks 31 = .ok (.aload_n 0, 1) := by decide +kernel
theorem dX5_breaks_32 : decode cX5_breaks 32 = .ok (.bipush (-2), 2) := by decide +kernel
theorem dX5_breaks_34 : decode cX5_breaks 34 = .ok (.invokevirtual 73, 3) := by decide +kernel
theorem dX5_breaks_37 : decode cX5_breaks 37 = .ok (.ireturn, 1) := by decide +kernel
theorem dX5_breaks_38 : decode cX5_breaks 38 = .ok (.aload_n 0, 1) := by decide +kernel
theorem dX5_breaks_39 : decode cX5_breaks 39 = .ok (.invokevirtual 121, 3) := by decide +kernel
theorem dX5_breaks_42 : decode cX5_breaks 42 = .ok (.iload_n 2, 1) := by decide +kernel
theorem dX5_breaks_43 : decode cX5_breaks 43 = .ok (.iconst (-1), 1) := by decide +kernel
theorem dX5_breaks_44 : decode cX5_breaks 44 = .ok (.if_icmp .ne 12, 3) := by decide +kernel
theorem dX5_breaks_47 : decode cX5_breaks 47 = .ok (.aload_n 0, 1) := by decide +kernel
theorem dX5_breaks_48 : decode cX5_breaks 48 = .ok (.iload_n 1, 1) := by decide +kernel
theorem dX5_breaks_49 : decode cX5_breaks 49 = .ok (.iload_n 3, 1) := by decide +kernel
theorem dX5_breaks_50 : decode cX5_breaks 50 = .ok (.invokevirtual 124, 3) := by decide +kernel
theorem dX5_breaks_53 : decode cX5_breaks 53 = .ok (.goto 10, 3) := by decide +kernel
theorem dX5_breaks_56 : decode cX5_breaks 56 = .ok (.aload_n 0, 1) := by decide +kernel
theorem dX5_breaks_57 : decode cX5_breaks 57 = .ok (.iload_n 1, 1) := by decide +kernel
theorem dX5_breaks_58 : decode cX5_breaks 58 = .ok (.iload_n 2, 1) := by decide +kernel
theorem dX5_breaks_59 : decode cX5_breaks 59 = .ok (.iload_n 3, 1) := by decide +kernel
theorem dX5_breaks_60 : decode cX5_breaks 60 = .ok (.invokevirtual 118, 3) := by decide +kernel
theorem dX5_breaks_63 : decode cX5_breaks 63 = .ok (.ireturn, 1) := by decide +kernel
theorem dX5_winner_0 : decode cX5_winner 0 = .ok (.aload_n 0, 1) := by decide +kernel
theorem dX5_winner_1 : decode cX5_winner 1 = .ok (.iload_n 1, 1) := by decide +kernel
theorem dX5_winner_2 : decode cX5_winner 2 = .ok (.iconst 0, 1) := by decide +kernel
theorem dX5_winner_3 : decode cX5_winner 3 = .ok (.invokevirtual 124, 3) := by decide +kernel
theorem dX5_winner_6 : decode cX5_winner 6 = .ok (.istore_n 2, 1) := by decide +kernel
theorem dX5_winner_7 : decode cX5_winner 7 = .ok (.aload_n 0, 1) := by decide +kernel
theorem dX5_winner_8 : decode cX5_winner 8 = .ok (.iload_n 1, 1) := by decide +kernel
theorem dX5_winner_9 : decode cX5_winner 9 = .ok (.iconst 1, 1) := by decide +kernel
theorem dX5_winner_10 : decode cX5_winner 10 = .ok (.invokevirtual 124, 3) := by decide +kernel
theorem dX5_winner_13 : decode cX5_winner 13 = .ok (.istore_n 3, 1) := by decide +kernel
theorem dX5_winner_14 : decode cX5_winner 14 = .ok (.iload_n 2, 1) := by decide +kernel
theorem dX5_winner_15 : decode cX5_winner 15 = .ok (.iload_n 3, 1) := by decide +kernel
theorem dX5_winner_16 : decode cX5_winner 16 = .ok (.if_icmp .le 7, 3) := by decide +kernel
theorem dX5_winner_19 : decode cX5_winner 19 = .ok (.iconst 1, 1) := by decide +kernel
theorem dX5_winner_20 : decode cX5_winner 20 = .ok (.goto 13, 3) := by decide +kernel
theorem dX5_winner_23 : decode cX5_winner 23 = .ok (.iload_n 3, 1) := by decide +kernel
theorem dX5_winner_24 : decode cX5_winner 24 = .ok (.iload_n 2, 1) := by decide +kernel
theorem dX5_winner_25 : decode cX5_winner 25 = .ok (.if_icmp .le 7, 3) := by decide +kernel
theorem dX5_winner_28 : decode cX5_winner 28 = .ok (.iconst 0, 1) := by decide +kernel
theorem dX5_winner_29 : decode cX5_winner 29 = .ok (.goto 4, 3) := by decide +kernel
theorem dX5_winner_32 : decode cX5_winner 32 = .ok (.iconst (-1), 1) := by decide +kernel
theorem dX5_winner_33 : decode cX5_winner 33 = .ok (.ireturn, 1) := by decide +kernel
theorem dX5_wins_0 : decode cX5_wins 0 = .ok (.aload_n 0, 1) := by decide +kernel
theorem dX5_wins_1 : decode cX5_wins 1 = .ok (.iload_n 1, 1) := by decide +kernel
theorem dX5_wins_2 : decode cX5_wins 2 = .ok (.invokevirtual 104, 3) := by decide +kernel
theorem dX5_wins_5 : decode cX5_wins 5 = .ok (.ifCond .ne 10, 3) := by decide +kernel
theorem dX5_wins_8 : decode cX5_wins 8 = .ok (.aload_n 0, 1) := by decide +kernel
theorem dX5_wins_9 : decode cX5_wins 9 = .ok (.bipush (-2), 2) := by decide +kernel
theorem dX5_wins_11 : decode cX5_wins 11 = .ok (.invokevirtual 73, 3) := by decide +kernel
theorem dX5_wins_14 : decode cX5_wins 14 = .ok (.ireturn, 1) := by decide +kernel
theorem dX5_wins_15 : decode cX5_wins 15 = .ok (.aload_n 0, 1) := by decide +kernel
theorem dX5_wins_16 : decode cX5_wins 16 = .ok (.invokevirtual 121, 3) := by decide +kernel
theorem dX5_wins_19 : decode cX5_wins 19 = .ok (.aload_n 0, 1) := by decide +kernel
theorem dX5_wins_20 : decode cX5_wins 20 = .ok (.iload_n 1, 1) := by decide +kernel
theorem dX5_wins_21 : decode cX5_wins 21 = .ok (.invokevirtual 127, 3) := by decide +kernel
theorem dX5_wins_24 : decode cX5_wins 24 = .ok (.ireturn, 1) := by decide +kernel
theorem dX5_allChances_0 : decode cX5_allChances 0 = .ok (.iconst 0, 1) := by decide +kernel
theorem dX5_allChances_1 : decode cX5_allChances 1 = .ok (.istore_n 1, 1) := by decide +kernel
theorem dX5_allChances_2 : decode cX5_allChances 2 = .ok (.iconst 0, 1) := by decide +kernel
theorem dX5_allChances_3 : decode cX5_allChances 3 = .ok (.istore_n 2, 1) := by decide +kernel
theorem dX5_allChances_4 : decode cX5_allChances 4 = .ok (.iload_n 2, 1) := by decide +kernel
theorem dX5_allChances_5 : decode cX5_allChances 5 = .ok (.aload_n 0, 1) := by decide +kernel
theorem dX5_allChances_6 : decode cX5_allChances 6 = .ok (.invokevirtual 62, 3) := by decide +kernel
theorem dX5_allChances_9 : decode cX5_allChances 9 = .ok (.if_icmp .ge 18, 3) := by decide +kernel
theorem dX5_allChances_12 : decode cX5_allChances 12 = .ok (.iload_n 1, 1) := by decide +kernel
theorem dX5_allChances_13 : decode cX5_allChances 13 = .ok (.aload_n 0, 1) := by decide +kernel
theorem dX5_allChances_14 : decode cX5_allChances 14 = .ok (.iload_n 2, 1) := by decide +kernel
theorem dX5_allChances_15 : decode cX5_allChances 15 = .ok (.iconst 4, 1) := by decide +kernel
theorem dX5_allChances_16 : decode cX5_allChances 16 = .ok (.invokevirtual 97, 3) := by decide +kernel
theorem dX5_allChances_19 : decode cX5_allChances 19 = .ok (.iadd, 1) := by decide +kernel
theorem dX5_allChances_20 : decode cX5_allChances 20 = .ok (.istore_n 1, 1) := by decide +kernel
theorem dX5_allChances_21 : decode cX5_allChances 21 = .ok (.iinc 2 1, 3) := by decide +kernel
theorem dX5_allChances_24 : decode cX5_allChances 24 = .ok (.goto (-20), 3) := by decide +kernel
theorem dX5_allChances_27 : decode cX5_allChances 27 = .ok (.iload_n 1, 1) := by decide +kernel
theorem dX5_allChances_28 : decode cX5_allChances 28 = .ok (.ireturn, 1) := by decide +kernel
theorem dX5_chanceOf_0 : decode cX5_chanceOf 0 = .ok (.iconst 0, 1) := by decide +kernel
theorem dX5_chanceOf_1 : decode cX5_chanceOf 1 = .ok (.istore_n 2, 1) := by decide +kernel
theorem dX5_chanceOf_2 : decode cX5_chanceOf 2 = .ok (.iconst 0, 1) := by decide +kernel
theorem dX5_chanceOf_3 : decode cX5_chanceOf 3 = .ok (.istore_n 3, 1) := by decide +kernel
theorem dX5_chanceOf_4 : decode cX5_chanceOf 4 = .ok (.iload_n 3, 1) := by decide +kernel
theorem dX5_chanceOf_5 : decode cX5_chanceOf 5 = .ok (.aload_n 0, 1) := by decide +kernel
theorem dX5_chanceOf_6 : decode cX5_chanceOf 6 = .ok (.invokevirtual 62, 3) := by decide +kernel
theorem dX5_chanceOf_9 : decode cX5_chanceOf 9 = .ok (.if_icmp .ge 31, 3) := by decide +kernel
theorem dX5_chanceOf_12 : decode cX5_chanceOf 12 = .ok (.iload_n 2, 1) := by decide +kernel
theorem dX5_chanceOf_13 : decode cX5_chanceOf 13 = .ok (.aload_n 0, 1) := by decide +kernel
theorem dX5_chanceOf_14 : decode cX5_chanceOf 14 = .ok (.iload_n 3, 1) := by decide +kernel
theorem dX5_chanceOf_15 : decode cX5_chanceOf 15 = .ok (.invokevirtual 127, 3) := by decide +kernel
theorem dX5_chanceOf_18 : decode cX5_chanceOf 18 = .ok (.iload_n 1, 1) := by decide +kernel
theorem dX5_chanceOf_19 : decode cX5_chanceOf 19 = .ok (.if_icmp .ne 12, 3) := by decide +kernel
theorem dX5_chanceOf_22 : decode cX5_chanceOf 22 = .ok (.aload_n 0, 1) := by decide +kernel
theorem dX5_chanceOf_23 : decode cX5_chanceOf 23 = .ok (.iload_n 3, 1) := by decide +kernel
theorem dX5_chanceOf_24 : decode cX5_chanceOf 24 = .ok (.iconst 4, 1) := by decide +kernel
theorem dX5_chanceOf_25 : decode cX5_chanceOf 25 = .ok (.invokevirtual 97, 3) := by decide +kernel
theorem dX5_chanceOf_28 : decode cX5_chanceOf 28 = .ok (.goto 4, 3) := by decide +kernel
theorem dX5_chanceOf_31 : decode cX5_chanceOf 31 = .ok (.iconst 0, 1) := by decide +kernel
theorem dX5_chanceOf_32 : decode cX5_chanceOf 32 = .ok (.iadd, 1) := by decide +kernel
theorem dX5_chanceOf_33 : decode cX5_chanceOf 33 = .ok (.istore_n 2, 1) := by decide +kernel
theorem dX5_chanceOf_34 : decode cX5_chanceOf 34 = .ok (.iinc 3 1, 3) := by decide +kernel
theorem dX5_chanceOf_37 : decode cX5_chanceOf 37 = .ok (.goto (-33), 3) := by decide +kernel
theorem dX5_chanceOf_40 : decode cX5_chanceOf 40 = .ok (.iload_n 2, 1) := by decide +kernel
theorem dX5_chanceOf_41 : decode cX5_chanceOf 41 = .ok (.ireturn, 1) := by decide +kernel
theorem dX5_odds_0 : decode cX5_odds 0 = .ok (.iload_n 1, 1) := by decide +kernel
theorem dX5_odds_1 : decode cX5_odds 1 = .ok (.i2l, 1) := by decide +kernel
theorem dX5_odds_2 : decode cX5_odds 2 = .ok (.lconst 0, 1) := by decide +kernel
theorem dX5_odds_3 : decode cX5_odds 3 = .ok (.ldc2_w 130, 3) := by decide +kernel
theorem dX5_odds_6 : decode cX5_odds 6 = .ok (.invokestatic 58, 3) := by decide +kernel
theorem dX5_odds_9 : decode cX5_odds 9 = .ok (.ifCond .ne 10, 3) := by decide +kernel
theorem dX5_odds_12 : decode cX5_odds 12 = .ok (.aload_n 0, 1) := by decide +kernel
theorem dX5_odds_13 : decode cX5_odds 13 = .ok (.bipush (-2), 2) := by decide +kernel
theorem dX5_odds_15 : decode cX5_odds 15 = .ok (.invokevirtual 73, 3) := by decide +kernel
theorem dX5_odds_18 : decode cX5_odds 18 = .ok (.ireturn, 1) := by decide +kernel
theorem dX5_odds_19 : decode cX5_odds 19 = .ok (.aload_n 0, 1) := by decide +kernel
theorem dX5_odds_20 : decode cX5_odds 20 = .ok (.invokevirtual 62, 3) := by decide +kernel
theorem dX5_odds_23 : decode cX5_odds 23 = .ok (.ifCond .ne 10, 3) := by decide +kernel
theorem dX5_odds_26 : decode cX5_odds 26 = .ok (.aload_n 0, 1) := by decide +kernel
theorem dX5_odds_27 : decode cX5_odds 27 = .ok (.bipush (-3), 2) := by decide +kernel
theorem dX5_odds_29 : decode cX5_odds 29 = .ok (.invokevirtual 90, 3) := by decide +kernel
theorem dX5_odds_32 : decode cX5_odds 32 = .ok (.ireturn, 1) := by decide +kernel
theorem dX5_odds_33 : decode cX5_odds 33 = .ok (.aload_n 0, 1) := by decide +kernel
theorem dX5_odds_34 : decode cX5_odds 34 = .ok (.invokevirtual 121, 3) := by decide +kernel
theorem dX5_odds_37 : decode cX5_odds 37 = .ok (.aload_n 0, 1) := by decide +kernel
theorem dX5_odds_38 : decode cX5_odds 38 = .ok (.aload_n 0, 1) := by decide +kernel
theorem dX5_odds_39 : decode cX5_odds 39 = .ok (.iload_n 1, 1) := by decide +kernel
theorem dX5_odds_40 : decode cX5_odds 40 = .ok (.iconst 2, 1) := by decide +kernel
theorem dX5_odds_41 : decode cX5_odds 41 = .ok (.if_icmp .ne 7, 3) := by decide +kernel
theorem dX5_odds_44 : decode cX5_odds 44 = .ok (.iconst (-1), 1) := by decide +kernel
theorem dX5_odds_45 : decode cX5_odds 45 = .ok (.goto 4, 3) := by decide +kernel
theorem dX5_odds_48 : decode cX5_odds 48 = .ok (.iload_n 1, 1) := by decide +kernel
theorem dX5_odds_49 : decode cX5_odds 49 = .ok (.invokevirtual 132, 3) := by decide +kernel
theorem dX5_odds_52 : decode cX5_odds 52 = .ok (.i2l, 1) := by decide +kernel
theorem dX5_odds_53 : decode cX5_odds 53 = .ok (.aload_n 0, 1) := by decide +kernel
theorem dX5_odds_54 : decode cX5_odds 54 = .ok (.invokevirtual 135, 3) := by decide +kernel
theorem dX5_odds_57 : decode cX5_odds 57 = .ok (.i2l, 1) := by decide +kernel
theorem dX5_odds_58 : decode cX5_odds 58 = .ok (.invokevirtual 138, 3) := by decide +kernel
theorem dX5_odds_61 : decode cX5_odds 61 = .ok (.ireturn, 1) := by decide +kernel
theorem dX5_brushOn_0 : decode cX5_brushOn 0 = .ok (.aload_n 0, 1) := by decide +kernel
theorem dX5_brushOn_1 : decode cX5_brushOn 1 = .ok (.getfield 27, 3) := by decide +kernel
theorem dX5_brushOn_4 : decode cX5_brushOn 4 = .ok (.iconst 2, 1) := by decide +kernel
theorem dX5_brushOn_5 : decode cX5_brushOn 5 = .ok (.iload_n 1, 1) := by decide +kernel
theorem dX5_brushOn_6 : decode cX5_brushOn 6 = .ok (.imul, 1) := by decide +kernel
theorem dX5_brushOn_7 : decode cX5_brushOn 7 = .ok (.iload_n 2, 1) := by decide +kernel
theorem dX5_brushOn_8 : decode cX5_brushOn 8 = .ok (.iadd, 1) := by decide +kernel
theorem dX5_brushOn_9 : decode cX5_brushOn 9 = .ok (.dup2, 1) := by decide +kernel
theorem dX5_brushOn_10 : decode cX5_brushOn 10 = .ok (.iaload, 1) := by decide +kernel
theorem dX5_brushOn_11 : decode cX5_brushOn 11 = .ok (.iload_n 3, 1) := by decide +kernel
theorem dX5_brushOn_12 : decode cX5_brushOn 12 = .ok (.iadd, 1) := by decide +kernel
theorem dX5_brushOn_13 : decode cX5_brushOn 13 = .ok (.iastore, 1) := by decide +kernel
theorem dX5_brushOn_14 : decode cX5_brushOn 14 = .ok (.aload_n 0, 1) := by decide +kernel
theorem dX5_brushOn_15 : decode cX5_brushOn 15 = .ok (.getfield 27, 3) := by decide +kernel
theorem dX5_brushOn_18 : decode cX5_brushOn 18 = .ok (.iconst 2, 1) := by decide +kernel
theorem dX5_brushOn_19 : decode cX5_brushOn 19 = .ok (.iload_n 1, 1) := by decide +kernel
theorem dX5_brushOn_20 : decode cX5_brushOn 20 = .ok (.imul, 1) := by decide +kernel
theorem dX5_brushOn_21 : decode cX5_brushOn 21 = .ok (.iconst 1, 1) := by decide +kernel
theorem dX5_brushOn_22 : decode cX5_brushOn 22 = .ok (.iadd, 1) := by decide +kernel
theorem dX5_brushOn_23 : decode cX5_brushOn 23 = .ok (.iload_n 2, 1) := by decide +kernel
theorem dX5_brushOn_24 : decode cX5_brushOn 24 = .ok (.isub, 1) := by decide +kernel
theorem dX5_brushOn_25 : decode cX5_brushOn 25 = .ok (.dup2, 1) := by decide +kernel
theorem dX5_brushOn_26 : decode cX5_brushOn 26 = .ok (.iaload, 1) := by decide +kernel
theorem dX5_brushOn_27 : decode cX5_brushOn 27 = .ok (.iload_n 3, 1) := by decide +kernel
theorem dX5_brushOn_28 : decode cX5_brushOn 28 = .ok (.isub, 1) := by decide +kernel
theorem dX5_brushOn_29 : decode cX5_brushOn 29 = .ok (.iastore, 1) := by decide +kernel
theorem dX5_brushOn_30 : decode cX5_brushOn 30 = .ok (.return_, 1) := by decide +kernel
theorem dX5_findPaint_0 : decode cX5_findPaint 0 = .ok (.aload_n 0, 1) := by decide +kernel
theorem dX5_findPaint_1 : decode cX5_findPaint 1 = .ok (.invokevirtual 121, 3) := by decide +kernel
theorem dX5_findPaint_4 : decode cX5_findPaint 4 = .ok (.aload_n 0, 1) := by decide +kernel
theorem dX5_findPaint_5 : decode cX5_findPaint 5 = .ok (.iconst (-1), 1) := by decide +kernel
theorem dX5_findPaint_6 : decode cX5_findPaint 6 = .ok (.putfield 142, 3) := by decide +kernel
theorem dX5_findPaint_9 : decode cX5_findPaint 9 = .ok (.iconst 2, 1) := by decide +kernel
theorem dX5_findPaint_10 : decode cX5_findPaint 10 = .ok (.aload_n 0, 1) := by decide +kernel
theorem dX5_findPaint_11 : decode cX5_findPaint 11 = .ok (.invokevirtual 54, 3) := by decide +kernel
theorem dX5_findPaint_14 : decode cX5_findPaint 14 = .ok (.imul, 1) := by decide +kernel
theorem dX5_findPaint_15 : decode cX5_findPaint 15 = .ok (.istore_n 3, 1) := by decide +kernel
theorem dX5_findPaint_16 : decode cX5_findPaint 16 = .ok (.iload_n 2, 1) := by decide +kernel
theorem dX5_findPaint_17 : decode cX5_findPaint 17 = .ok (.istore 4, 2) := by decide +kernel
theorem dX5_findPaint_19 : decode cX5_findPaint 19 = .ok (.iconst 0, 1) := by decide +kernel
theorem dX5_findPaint_20 : decode cX5_findPaint 20 = .ok (.istore 5, 2) := by decide +kernel
theorem dX5_findPaint_22 : decode cX5_findPaint 22 = .ok (.iload 5, 2) := by decide +kernel
theorem dX5_findPaint_24 : decode cX5_findPaint 24 = .ok (.bipush 14, 2) := by decide +kernel
theorem dX5_findPaint_26 : decode cX5_findPaint 26 = .ok (.if_icmp .ge 25, 3) := by decide +kernel
theorem dX5_findPaint_29 : decode cX5_findPaint 29 = .ok (.aload_n 0, 1) := by decide +kernel
theorem dX5_findPaint_30 : decode cX5_findPaint 30 = .ok (.getfield 33, 3) := by decide +kernel
theorem dX5_findPaint_33 : decode cX5_findPaint 33 = .ok (.iload 5, 2) := by decide +kernel
theorem dX5_findPaint_35 : decode cX5_findPaint 35 = .ok (.iconst 0, 1) := by decide +kernel
theorem dX5_findPaint_36 : decode cX5_findPaint 36 = .ok (.iastore, 1) := by decide +kernel
theorem dX5_findPaint_37 : decode cX5_findPaint 37 = .ok (.aload_n 0, 1) := by decide +kernel
theorem dX5_findPaint_38 : decode cX5_findPaint 38 = .ok (.getfield 36, 3) := by decide +kernel
theorem dX5_findPaint_41 : decode cX5_findPaint 41 = .ok (.iload 5, 2) := by decide +kernel
theorem dX5_findPaint_43 : decode cX5_findPaint 43 = .ok (.iconst 0, 1) := by decide +kernel
theorem dX5_findPaint_44 : decode cX5_findPaint 44 = .ok (.iastore, 1) := by decide +kernel
theorem dX5_findPaint_45 : decode cX5_findPaint 45 = .ok (.iinc 5 1, 3) := by decide +kernel
theorem dX5_findPaint_48 : decode cX5_findPaint 48 = .ok (.goto (-26), 3) := by decide +kernel
theorem dX5_findPaint_51 : decode cX5_findPaint 51 = .ok (.iconst 1, 1) := by decide +kernel
theorem dX5_findPaint_52 : decode cX5_findPaint 52 = .ok (.istore 5, 2) := by decide +kernel
theorem dX5_findPaint_54 : decode cX5_findPaint 54 = .ok (.iload 5, 2) := by decide +kernel
theorem dX5_findPaint_56 : decode cX5_findPaint 56 = .ok (.ifCond .eq 170, 3) := by decide +kernel
theorem dX5_findPaint_59 : decode cX5_findPaint 59 = .ok (.aload_n 0, 1) := by decide +kernel
theorem dX5_findPaint_60 : decode cX5_findPaint 60 = .ok (.iload_n 1, 1) := by decide +kernel
theorem dX5_findPaint_61 : decode cX5_findPaint 61 = .ok (.invokevirtual 132, 3) := by decide +kernel
theorem dX5_findPaint_64 : decode cX5_findPaint 64 = .ok (.istore 6, 2) := by decide +kernel
theorem dX5_findPaint_66 : decode cX5_findPaint 66 = .ok (.iload 6, 2) := by decide +kernel
theorem dX5_findPaint_68 : decode cX5_findPaint 68 = .ok (.aload_n 0, 1) := by decide +kernel
theorem dX5_findPaint_69 : decode cX5_findPaint 69 = .ok (.getfield 142, 3) := by decide +kernel
theorem dX5_findPaint_72 : decode cX5_findPaint 72 = .ok (.if_icmp .le 39, 3) := by decide +kernel
theorem dX5_findPaint_75 : decode cX5_findPaint 75 = .ok (.aload_n 0, 1) := by decide +kernel
theorem dX5_findPaint_76 : decode cX5_findPaint 76 = .ok (.iload 6, 2) := by decide +kernel
theorem dX5_findPaint_78 : decode cX5_findPaint 78 = .ok (.putfield 142, 3) := by decide +kernel
theorem dX5_findPaint_81 : decode cX5_findPaint 81 = .ok (.iconst 0, 1) := by decide +kernel
theorem dX5_findPaint_82 : decode cX5_findPaint 82 = .ok (.istore 7, 2) := by decide +kernel
theorem dX5_findPaint_84 : decode cX5_findPaint 84 = .ok (.iload 7, 2) := by decide +kernel
theorem dX5_findPaint_86 : decode cX5_findPaint 86 = .ok (.bipush 14, 2) := by decide +kernel
theorem dX5_findPaint_88 : decode cX5_findPaint 88 = .ok (.if_icmp .ge 23, 3) := by decide +kernel
theorem dX5_findPaint_91 : decode cX5_findPaint 91 = .ok (.aload_n 0, 1) := by decide +kernel
theorem dX5_findPaint_92 : decode cX5_findPaint 92 = .ok (.getfield 36, 3) := by decide +kernel
theorem dX5_findPaint_95 : decode cX5_findPaint 95 = .ok (.iload 7, 2) := by decide +kernel
theorem dX5_findPaint_97 : decode cX5_findPaint 97 = .ok (.aload_n 0, 1) := by decide +kernel
theorem dX5_findPaint_98 : decode cX5_findPaint 98 = .ok (.getfield 33, 3) := by decide +kernel
theorem dX5_findPaint_101 : decode cX5_findPaint 101 = .ok (.iload 7, 2) := by decide +kernel
theorem dX5_findPaint_103 : decode cX5_findPaint 103 = .ok (.iaload, 1) := by decide +kernel
theorem dX5_findPaint_104 : decode cX5_findPaint 104 = .ok (.iastore, 1) := by decide +kernel
theorem dX5_findPaint_105 : decode cX5_findPaint 105 = .ok (.iinc 7 1, 3) := by decide +kernel
theorem dX5_findPaint_108 : decode cX5_findPaint 108 = .ok (.goto (-24), 3) := by decide +kernel
theorem dX5_findPaint_111 : decode cX5_findPaint 111 = .ok (.iload_n 3, 1) := by decide +kernel
theorem dX5_findPaint_112 : decode cX5_findPaint 112 = .ok (.iconst 1, 1) := by decide +kernel
theorem dX5_findPaint_113 : decode cX5_findPaint 113 = .ok (.isub, 1) := by decide +kernel
theorem dX5_findPaint_114 : decode cX5_findPaint 114 = .ok (.istore 7, 2) := by decide +kernel
theorem dX5_findPaint_116 : decode cX5_findPaint 116 = .ok (.iconst 0, 1) := by decide +kernel
theorem dX5_findPaint_117 : decode cX5_findPaint 117 = .ok (.istore 8, 2) := by decide +kernel
theorem dX5_findPaint_119 : decode cX5_findPaint 119 = .ok (.iload 7, 2) := by decide +kernel
theorem dX5_findPaint_121 : decode cX5_findPaint 121 = .ok (.ifCond .lt 98, 3) := by decide +kernel
theorem dX5_findPaint_124 : decode cX5_findPaint 124 = .ok (.iload 8, 2) := by decide +kernel
theorem dX5_findPaint_126 : decode cX5_findPaint 126 = .ok (.ifCond .ne 93, 3) := by decide +kernel
theorem dX5_findPaint_129 : decode cX5_findPaint 129 = .ok (.iload 4, 2) := by decide +kernel
theorem dX5_findPaint_131 : decode cX5_findPaint 131 = .ok (.ifCond .le 47, 3) := by decide +kernel
theorem dX5_findPaint_134 : decode cX5_findPaint 134 = .ok (.aload_n 0, 1) := by decide +kernel
theorem dX5_findPaint_135 : decode cX5_findPaint 135 = .ok (.getfield 27, 3) := by decide +kernel
theorem dX5_findPaint_138 : decode cX5_findPaint 138 = .ok (.iconst 2, 1) := by decide +kernel
theorem dX5_findPaint_139 : decode cX5_findPaint 139 = .ok (.iload 7, 2) := by decide +kernel
theorem dX5_findPaint_141 : decode cX5_findPaint 141 = .ok (.imul, 1) := by decide +kernel
theorem dX5_findPaint_142 : decode cX5_findPaint 142 = .ok (.iconst 1, 1) := by decide +kernel
theorem dX5_findPaint_143 : decode cX5_findPaint 143 = .ok (.iadd, 1) := by decide +kernel
theorem dX5_findPaint_144 : decode cX5_findPaint 144 = .ok (.iload_n 1, 1) := by decide +kernel
theorem dX5_findPaint_145 : decode cX5_findPaint 145 = .ok (.isub, 1) := by decide +kernel
theorem dX5_findPaint_146 : decode cX5_findPaint 146 = .ok (.iaload, 1) := by decide +kernel
theorem dX5_findPaint_147 : decode cX5_findPaint 147 = .ok (.ifCond .le 31, 3) := by decide +kernel
theorem dX5_findPaint_150 : decode cX5_findPaint 150 = .ok (.aload_n 0, 1) := by decide +kernel
theorem dX5_findPaint_151 : decode cX5_findPaint 151 = .ok (.iload 7, 2) := by decide +kernel
theorem dX5_findPaint_153 : decode cX5_findPaint 153 = .ok (.iload_n 1, 1) := by decide +kernel
theorem dX5_findPaint_154 : decode cX5_findPaint 154 = .ok (.iconst 1, 1) := by decide +kernel
theorem dX5_findPaint_155 : decode cX5_findPaint 155 = .ok (.invokevirtual 146, 3) := by decide +kernel
theorem dX5_findPaint_158 : decode cX5_findPaint 158 = .ok (.aload_n 0, 1) := by decide +kernel
theorem dX5_findPaint_159 : decode cX5_findPaint 159 = .ok (.getfield 33, 3) := by decide +kernel
theorem dX5_findPaint_162 : decode cX5_findPaint 162 = .ok (.iload 7, 2) := by decide +kernel
theorem dX5_findPaint_164 : decode cX5_findPaint 164 = .ok (.dup2, 1) := by decide +kernel
theorem dX5_findPaint_165 : decode cX5_findPaint 165 = .ok (.iaload, 1) := by decide +kernel
theorem dX5_findPaint_166 : decode cX5_findPaint 166 = .ok (.iconst 1, 1) := by decide +kernel
theorem dX5_findPaint_167 : decode cX5_findPaint 167 = .ok (.iadd, 1) := by decide +kernel
theorem dX5_findPaint_168 : decode cX5_findPaint 168 = .ok (.iastore, 1) := by decide +kernel
theorem dX5_findPaint_169 : decode cX5_findPaint 169 = .ok (.iinc 4 (-1), 3) := by decide +kernel
theorem dX5_findPaint_172 : decode cX5_findPaint 172 = .ok (.iconst 1, 1) := by decide +kernel
theorem dX5_findPaint_173 : decode cX5_findPaint 173 = .ok (.istore 8, 2) := by decide +kernel
theorem dX5_findPaint_175 : decode cX5_findPaint 175 = .ok (.goto (-56), 3) := by decide +kernel
theorem dX5_findPaint_178 : decode cX5_findPaint 178 = .ok (.aload_n 0, 1) := by decide +kernel
theorem dX5_findPaint_179 : decode cX5_findPaint 179 = .ok (.iload 7, 2) := by decide +kernel
theorem dX5_findPaint_181 : decode cX5_findPaint 181 = .ok (.iload_n 1, 1) := by decide +kernel
theorem dX5_findPaint_182 : decode cX5_findPaint 182 = .ok (.aload_n 0, 1) := by decide +kernel
theorem dX5_findPaint_183 : decode cX5_findPaint 183 = .ok (.getfield 33, 3) := by decide +kernel
theorem dX5_findPaint_186 : decode cX5_findPaint 186 = .ok (.iload 7, 2) := by decide +kernel
theorem dX5_findPaint_188 : decode cX5_findPaint 188 = .ok (.iaload, 1) := by decide +kernel
theorem dX5_findPaint_189 : decode cX5_findPaint 189 = .ok (.ineg, 1) := by decide +kernel
theorem dX5_findPaint_190 : decode cX5_findPaint 190 = .ok (.invokevirtual 146, 3) := by decide +kernel
theorem dX5_findPaint_193 : decode cX5_findPaint 193 = .ok (.iload 4, 2) := by decide +kernel
theorem dX5_findPaint_195 : decode cX5_findPaint 195 = .ok (.aload_n 0, 1) := by decide +kernel
theorem dX5_findPaint_196 : decode cX5_findPaint 196 = .ok (.getfield 33, 3) := by decide +kernel
theorem dX5_findPaint_199 : decode cX5_findPaint 199 = .ok (.iload 7, 2) := by decide +kernel
theorem dX5_findPaint_201 : decode cX5_findPaint 201 = .ok (.iaload, 1) := by decide +kernel
theorem dX5_findPaint_202 : decode cX5_findPaint 202 = .ok (.iadd, 1) := by decide +kernel
theorem dX5_findPaint_203 : decode cX5_findPaint 203 = .ok (.istore 4, 2) := by decide +kernel
theorem dX5_findPaint_205 : decode cX5_findPaint 205 = .ok (.aload_n 0, 1) := by decide +kernel
theorem dX5_findPaint_206 : decode cX5_findPaint 206 = .ok (.getfield 33, 3) := by decide +kernel
theorem dX5_findPaint_209 : decode cX5_findPaint 209 = .ok (.iload 7, 2) := by decide +kernel
theorem dX5_findPaint_211 : decode cX5_findPaint 211 = .ok (.iconst 0, 1) := by decide +kernel
theorem dX5_findPaint_212 : decode cX5_findPaint 212 = .ok (.iastore, 1) := by decide +kernel
theorem dX5_findPaint_213 : decode cX5_findPaint 213 = .ok (.iinc 7 (-1), 3) := by decide +kernel
theorem dX5_findPaint_216 : decode cX5_findPaint 216 = .ok (.goto (-97), 3) := by decide +kernel
theorem dX5_findPaint_219 : decode cX5_findPaint 219 = .ok (.iload 8, 2) := by decide +kernel
theorem dX5_findPaint_221 : decode cX5_findPaint 221 = .ok (.istore 5, 2) := by decide +kernel
theorem dX5_findPaint_223 : decode cX5_findPaint 223 = .ok (.goto (-169), 3) := by decide +kernel
theorem dX5_findPaint_226 : decode cX5_findPaint 226 = .ok (.return_, 1) := by decide +kernel
theorem dX5_paint_0 : decode cX5_paint 0 = .ok (.iload_n 1, 1) := by decide +kernel
theorem dX5_paint_1 : decode cX5_paint 1 = .ok (.i2l, 1) := by decide +kernel
theorem dX5_paint_2 : decode cX5_paint 2 = .ok (.lconst 0, 1) := by decide +kernel
theorem dX5_paint_3 : decode cX5_paint 3 = .ok (.lconst 1, 1) := by decide +kernel
theorem dX5_paint_4 : decode cX5_paint 4 = .ok (.invokestatic 58, 3) := by decide +kernel
theorem dX5_paint_7 : decode cX5_paint 7 = .ok (.ifCond .eq 15, 3) := by decide +kernel
theorem dX5_paint_10 : decode cX5_paint 10 = .ok (.iload_n 2, 1) := by decide +kernel
theorem dX5_paint_11 : decode cX5_paint 11 = .ok (.i2l, 1) := by decide +kernel
theorem dX5_paint_12 : decode cX5_paint 12 = .ok (.lconst 0, 1) := by decide +kernel
theorem dX5_paint_13 : decode cX5_paint 13 = .ok (.ldc2_w 150, 3) := by decide +kernel
theorem dX5_paint_16 : decode cX5_paint 16 = .ok (.invokestatic 58, 3) := by decide +kernel
theorem dX5_paint_19 : decode cX5_paint 19 = .ok (.ifCond .ne 10, 3) := by decide +kernel
theorem dX5_paint_22 : decode cX5_paint 22 = .ok (.aload_n 0, 1) := by decide +kernel
theorem dX5_paint_23 : decode cX5_paint 23 = .ok (.bipush (-2), 2) := by decide +kernel
theorem dX5_paint_25 : decode cX5_paint 25 = .ok (.invokevirtual 73, 3) := by decide +kernel
theorem dX5_paint_28 : decode cX5_paint 28 = .ok (.ireturn, 1) := by decide +kernel
theorem dX5_paint_29 : decode cX5_paint 29 = .ok (.aload_n 0, 1) := by decide +kernel
theorem dX5_paint_30 : decode cX5_paint 30 = .ok (.invokevirtual 62, 3) := by decide +kernel
theorem dX5_paint_33 : decode cX5_paint 33 = .ok (.ifCond .ne 10, 3) := by decide +kernel
theorem dX5_paint_36 : decode cX5_paint 36 = .ok (.aload_n 0, 1) := by decide +kernel
theorem dX5_paint_37 : decode cX5_paint 37 = .ok (.bipush (-3), 2) := by decide +kernel
theorem dX5_paint_39 : decode cX5_paint 39 = .ok (.invokevirtual 90, 3) := by decide +kernel
theorem dX5_paint_42 : decode cX5_paint 42 = .ok (.ireturn, 1) := by decide +kernel
theorem dX5_paint_43 : decode cX5_paint 43 = .ok (.aload_n 0, 1) := by decide +kernel
theorem dX5_paint_44 : decode cX5_paint 44 = .ok (.iload_n 1, 1) := by decide +kernel
theorem dX5_paint_45 : decode cX5_paint 45 = .ok (.iload_n 2, 1) := by decide +kernel
theorem dX5_paint_46 : decode cX5_paint 46 = .ok (.invokevirtual 152, 3) := by decide +kernel
theorem dX5_paint_49 : decode cX5_paint 49 = .ok (.aload_n 0, 1) := by decide +kernel
theorem dX5_paint_50 : decode cX5_paint 50 = .ok (.aload_n 0, 1) := by decide +kernel
theorem dX5_paint_51 : decode cX5_paint 51 = .ok (.getfield 142, 3) := by decide +kernel
theorem dX5_paint_54 : decode cX5_paint 54 = .ok (.i2l, 1) := by decide +kernel
theorem dX5_paint_55 : decode cX5_paint 55 = .ok (.aload_n 0, 1) := by decide +kernel
theorem dX5_paint_56 : decode cX5_paint 56 = .ok (.invokevirtual 135, 3) := by decide +kernel
theorem dX5_paint_59 : decode cX5_paint 59 = .ok (.i2l, 1) := by decide +kernel
theorem dX5_paint_60 : decode cX5_paint 60 = .ok (.invokevirtual 138, 3) := by decide +kernel
theorem dX5_paint_63 : decode cX5_paint 63 = .ok (.ireturn, 1) := by decide +kernel
theorem dX5_brush_0 : decode cX5_brush 0 = .ok (.iload_n 1, 1) := by decide +kernel
theorem dX5_brush_1 : decode cX5_brush 1 = .ok (.i2l, 1) := by decide +kernel
theorem dX5_brush_2 : decode cX5_brush 2 = .ok (.lconst 0, 1) := by decide +kernel
theorem dX5_brush_3 : decode cX5_brush 3 = .ok (.lconst 1, 1) := by decide +kernel
theorem dX5_brush_4 : decode cX5_brush 4 = .ok (.invokestatic 58, 3) := by decide +kernel
theorem dX5_brush_7 : decode cX5_brush 7 = .ok (.ifCond .eq 34, 3) := by decide +kernel
theorem dX5_brush_10 : decode cX5_brush 10 = .ok (.iload_n 2, 1) := by decide +kernel
theorem dX5_brush_11 : decode cX5_brush 11 = .ok (.i2l, 1) := by decide +kernel
theorem dX5_brush_12 : decode cX5_brush 12 = .ok (.lconst 0, 1) := by decide +kernel
theorem dX5_brush_13 : decode cX5_brush 13 = .ok (.ldc2_w 150, 3) := by decide +kernel
theorem dX5_brush_16 : decode cX5_brush 16 = .ok (.invokestatic 58, 3) := by decide +kernel
theorem dX5_brush_19 : decode cX5_brush 19 = .ok (.ifCond .eq 22, 3) := by decide +kernel
theorem dX5_brush_22 : decode cX5_brush 22 = .ok (.aload_n 0, 1) := by decide +kernel
theorem dX5_brush_23 : decode cX5_brush 23 = .ok (.iload_n 3, 1) := by decide +kernel
theorem dX5_brush_24 : decode cX5_brush 24 = .ok (.invokevirtual 93, 3) := by decide +kernel
theorem dX5_brush_27 : decode cX5_brush 27 = .ok (.ifCond .eq 14, 3) := by decide +kernel
theorem dX5_brush_30 : decode cX5_brush 30 = .ok (.iload 4, 2) := by decide +kernel
theorem dX5_brush_32 : decode cX5_brush 32 = .ok (.i2l, 1) := by decide +kernel
theorem dX5_brush_33 : decode cX5_brush 33 = .ok (.lconst 0, 1) := by decide +kernel
theorem dX5_brush_34 : decode cX5_brush 34 = .ok (.lconst 1, 1) := by decide +kernel
theorem dX5_brush_35 : decode cX5_brush 35 = .ok (.invokestatic 58, 3) := by decide +kernel
theorem dX5_brush_38 : decode cX5_brush 38 = .ok (.ifCond .ne 10, 3) := by decide +kernel
theorem dX5_brush_41 : decode cX5_brush 41 = .ok (.aload_n 0, 1) := by decide +kernel
theorem dX5_brush_42 : decode cX5_brush 42 = .ok (.bipush (-2), 2) := by decide +kernel
theorem dX5_brush_44 : decode cX5_brush 44 = .ok (.invokevirtual 73, 3) := by decide +kernel
theorem dX5_brush_47 : decode cX5_brush 47 = .ok (.ireturn, 1) := by decide +kernel
theorem dX5_brush_48 : decode cX5_brush 48 = .ok (.aload_n 0, 1) := by decide +kernel
theorem dX5_brush_49 : decode cX5_brush 49 = .ok (.invokevirtual 62, 3) := by decide +kernel
theorem dX5_brush_52 : decode cX5_brush 52 = .ok (.ifCond .ne 10, 3) := by decide +kernel
theorem dX5_brush_55 : decode cX5_brush 55 = .ok (.aload_n 0, 1) := by decide +kernel
theorem dX5_brush_56 : decode cX5_brush 56 = .ok (.bipush (-3), 2) := by decide +kernel
theorem dX5_brush_58 : decode cX5_brush 58 = .ok (.invokevirtual 90, 3) := by decide +kernel
theorem dX5_brush_61 : decode cX5_brush 61 = .ok (.ireturn, 1) := by decide +kernel
theorem dX5_brush_62 : decode cX5_brush 62 = .ok (.aload_n 0, 1) := by decide +kernel
theorem dX5_brush_63 : decode cX5_brush 63 = .ok (.iload_n 1, 1) := by decide +kernel
theorem dX5_brush_64 : decode cX5_brush 64 = .ok (.iload_n 2, 1) := by decide +kernel
theorem dX5_brush_65 : decode cX5_brush 65 = .ok (.invokevirtual 152, 3) := by decide +kernel
theorem dX5_brush_68 : decode cX5_brush 68 = .ok (.aload_n 0, 1) := by decide +kernel
theorem dX5_brush_69 : decode cX5_brush 69 = .ok (.getfield 36, 3) := by decide +kernel
theorem dX5_brush_72 : decode cX5_brush 72 = .ok (.iconst 2, 1) := by decide +kernel
theorem dX5_brush_73 : decode cX5_brush 73 = .ok (.iload_n 3, 1) := by decide +kernel
theorem dX5_brush_74 : decode cX5_brush 74 = .ok (.imul, 1) := by decide +kernel
theorem dX5_brush_75 : decode cX5_brush 75 = .ok (.iload 4, 2) := by decide +kernel
theorem dX5_brush_77 : decode cX5_brush 77 = .ok (.iadd, 1) := by decide +kernel
theorem dX5_brush_78 : decode cX5_brush 78 = .ok (.iaload, 1) := by decide +kernel
theorem dX5_brush_79 : decode cX5_brush 79 = .ok (.ireturn, 1) := by decide +kernel
theorem dX5_leastOver_0 : decode cX5_leastOver 0 = .ok (.aload_n 0, 1) := by decide +kernel
theorem dX5_leastOver_1 : decode cX5_leastOver 1 = .ok (.iconst 0, 1) := by decide +kernel
theorem dX5_leastOver_2 : decode cX5_leastOver 2 = .ok (.invokevirtual 132, 3) := by decide +kernel
theorem dX5_leastOver_5 : decode cX5_leastOver 5 = .ok (.aload_n 0, 1) := by decide +kernel
theorem dX5_leastOver_6 : decode cX5_leastOver 6 = .ok (.iconst 1, 1) := by decide +kernel
theorem dX5_leastOver_7 : decode cX5_leastOver 7 = .ok (.invokevirtual 132, 3) := by decide +kernel
theorem dX5_leastOver_10 : decode cX5_leastOver 10 = .ok (.isub, 1) := by decide +kernel
theorem dX5_leastOver_11 : decode cX5_leastOver 11 = .ok (.istore_n 1, 1) := by decide +kernel
theorem dX5_leastOver_12 : decode cX5_leastOver 12 = .ok (.iconst 0, 1) := by decide +kernel
theorem dX5_leastOver_13 : decode cX5_leastOver 13 = .ok (.istore_n 2, 1) := by decide +kernel
theorem dX5_leastOver_14 : decode cX5_leastOver 14 = .ok (.iload_n 2, 1) := by decide +kernel
theorem dX5_leastOver_15 : decode cX5_leastOver 15 = .ok (.iconst 2, 1) := by decide +kernel
theorem dX5_leastOver_16 : decode cX5_leastOver 16 = .ok (.aload_n 0, 1) := by decide +kernel
theorem dX5_leastOver_17 : decode cX5_leastOver 17 = .ok (.invokevirtual 54, 3) := by decide +kernel
theorem dX5_leastOver_20 : decode cX5_leastOver 20 = .ok (.imul, 1) := by decide +kernel
theorem dX5_leastOver_21 : decode cX5_leastOver 21 = .ok (.if_icmp .ge 57, 3) := by decide +kernel
theorem dX5_leastOver_24 : decode cX5_leastOver 24 = .ok (.aload_n 0, 1) := by decide +kernel
theorem dX5_leastOver_25 : decode cX5_leastOver 25 = .ok (.getfield 27, 3) := by decide +kernel
theorem dX5_leastOver_28 : decode cX5_leastOver 28 = .ok (.iconst 2, 1) := by decide +kernel
theorem dX5_leastOver_29 : decode cX5_leastOver 29 = .ok (.iload_n 2, 1) := by decide +kernel
theorem dX5_leastOver_30 : decode cX5_leastOver 30 = .ok (.imul, 1) := by decide +kernel
theorem dX5_leastOver_31 : decode cX5_leastOver 31 = .ok (.iaload, 1) := by decide +kernel
theorem dX5_leastOver_32 : decode cX5_leastOver 32 = .ok (.ifCond .le 40, 3) := by decide +kernel
theorem dX5_leastOver_35 : decode cX5_leastOver 35 = .ok (.aload_n 0, 1) := by decide +kernel
theorem dX5_leastOver_36 : decode cX5_leastOver 36 = .ok (.iload_n 2, 1) := by decide +kernel
theorem dX5_leastOver_37 : decode cX5_leastOver 37 = .ok (.iconst 1, 1) := by decide +kernel
theorem dX5_leastOver_38 : decode cX5_leastOver 38 = .ok (.iconst 1, 1) := by decide +kernel
theorem dX5_leastOver_39 : decode cX5_leastOver 39 = .ok (.invokevirtual 146, 3) := by decide +kernel
theorem dX5_leastOver_42 : decode cX5_leastOver 42 = .ok (.aload_n 0, 1) := by decide +kernel
theorem dX5_leastOver_43 : decode cX5_leastOver 43 = .ok (.iconst 0, 1) := by decide +kernel
theorem dX5_leastOver_44 : decode cX5_leastOver 44 = .ok (.invokevirtual 132, 3) := by decide +kernel
theorem dX5_leastOver_47 : decode cX5_leastOver 47 = .ok (.aload_n 0, 1) := by decide +kernel
theorem dX5_leastOver_48 : decode cX5_leastOver 48 = .ok (.iconst 1, 1) := by decide +kernel
theorem dX5_leastOver_49 : decode cX5_leastOver 49 = .ok (.invokevirtual 132, 3) := by decide +kernel
theorem dX5_leastOver_52 : decode cX5_leastOver 52 = .ok (.isub, 1) := by decide +kernel
theorem dX5_leastOver_53 : decode cX5_leastOver 53 = .ok (.istore_n 3, 1) := by decide +kernel
theorem dX5_leastOver_54 : decode cX5_leastOver 54 = .ok (.iload_n 3, 1) := by decide +kernel
theorem dX5_leastOver_55 : decode cX5_leastOver 55 = .ok (.iload_n 1, 1) := by decide +kernel
theorem dX5_leastOver_56 : decode cX5_leastOver 56 = .ok (.if_icmp .ge 7, 3) := by decide +kernel
theorem dX5_leastOver_59 : decode cX5_leastOver 59 = .ok (.iload_n 3, 1) := by decide +kernel
theorem dX5_leastOver_60 : decode cX5_leastOver 60 = .ok (.goto 4, 3) := by decide +kernel
theorem dX5_leastOver_63 : decode cX5_leastOver 63 = .ok (.iload_n 1, 1) := by decide +kernel
theorem dX5_leastOver_64 : decode cX5_leastOver 64 = .ok (.istore_n 1, 1) := by decide +kernel
theorem dX5_leastOver_65 : decode cX5_leastOver 65 = .ok (.aload_n 0, 1) := by decide +kernel
theorem dX5_leastOver_66 : decode cX5_leastOver 66 = .ok (.iload_n 2, 1) := by decide +kernel
theorem dX5_leastOver_67 : decode cX5_leastOver 67 = .ok (.iconst 1, 1) := by decide +kernel
theorem dX5_leastOver_68 : decode cX5_leastOver 68 = .ok (.iconst (-1), 1) := by decide +kernel
theorem dX5_leastOver_69 : decode cX5_leastOver 69 = .ok (.invokevirtual 146, 3) := by decide +kernel
theorem dX5_leastOver_72 : decode cX5_leastOver 72 = .ok (.iinc 2 1, 3) := by decide +kernel
theorem dX5_leastOver_75 : decode cX5_leastOver 75 = .ok (.goto (-61), 3) := by decide +kernel
theorem dX5_leastOver_78 : decode cX5_leastOver 78 = .ok (.iload_n 1, 1) := by decide +kernel
theorem dX5_leastOver_79 : decode cX5_leastOver 79 = .ok (.ireturn, 1) := by decide +kernel
theorem dX5_against_0 : decode cX5_against 0 = .ok (.aload_n 0, 1) := by decide +kernel
theorem dX5_against_1 : decode cX5_against 1 = .ok (.invokevirtual 62, 3) := by decide +kernel
theorem dX5_against_4 : decode cX5_against 4 = .ok (.ifCond .ne 10, 3) := by decide +kernel
theorem dX5_against_7 : decode cX5_against 7 = .ok (.aload_n 0, 1) := by decide +kernel
theorem dX5_against_8 : decode cX5_against 8 = .ok (.bipush (-20), 2) := by decide +kernel
theorem dX5_against_10 : decode cX5_against 10 = .ok (.invokevirtual 90, 3) := by decide +kernel
theorem dX5_against_13 : decode cX5_against 13 = .ok (.ireturn, 1) := by decide +kernel
theorem dX5_against_14 : decode cX5_against 14 = .ok (.aload_n 0, 1) := by decide +kernel
theorem dX5_against_15 : decode cX5_against 15 = .ok (.invokevirtual 121, 3) := by decide +kernel
theorem dX5_against_18 : decode cX5_against 18 = .ok (.iconst (-1), 1) := by decide +kernel
theorem dX5_against_19 : decode cX5_against 19 = .ok (.istore_n 1, 1) := by decide +kernel
theorem dX5_against_20 : decode cX5_against 20 = .ok (.iconst 0, 1) := by decide +kernel
theorem dX5_against_21 : decode cX5_against 21 = .ok (.istore_n 2, 1) := by decide +kernel
theorem dX5_against_22 : decode cX5_against 22 = .ok (.iconst 0, 1) := by decide +kernel
theorem dX5_against_23 : decode cX5_against 23 = .ok (.istore_n 3, 1) := by decide +kernel
theorem dX5_against_24 : decode cX5_against 24 = .ok (.iconst 0, 1) := by decide +kernel
theorem dX5_against_25 : decode cX5_against 25 = .ok (.istore 4, 2) := by decide +kernel
theorem dX5_against_27 : decode cX5_against 27 = .ok (.iload 4, 2) := by decide +kernel
theorem dX5_against_29 : decode cX5_against 29 = .ok (.iconst 2, 1) := by decide +kernel
theorem dX5_against_30 : decode cX5_against 30 = .ok (.aload_n 0, 1) := by decide +kernel
theorem dX5_against_31 : decode cX5_against 31 = .ok (.invokevirtual 54, 3) := by decide +kernel
theorem dX5_against_34 : decode cX5_against 34 = .ok (.imul, 1) := by decide +kernel
theorem dX5_against_35 : decode cX5_against 35 = .ok (.if_icmp .ge 63, 3) := by decide +kernel
theorem dX5_against_38 : decode cX5_against 38 = .ok (.aload_n 0, 1) := by decide +kernel
theorem dX5_against_39 : decode cX5_against 39 = .ok (.getfield 27, 3) := by decide +kernel
theorem dX5_against_42 : decode cX5_against 42 = .ok (.iconst 2, 1) := by decide +kernel
theorem dX5_against_43 : decode cX5_against 43 = .ok (.iload 4, 2) := by decide +kernel
theorem dX5_against_45 : decode cX5_against 45 = .ok (.imul, 1) := by decide +kernel
