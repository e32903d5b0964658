theorem dX10_stand_0 : decode cX10_stand 0 = .ok (.aload_n 0, 1) := by decide +kernel
theorem dX10_stand_1 : decode cX10_stand 1 = .ok (.invokevirtual 175, 3) := by decide +kernel
theorem dX10_stand_4 : decode cX10_stand 4 = .ok (.ifCond .ne 6, 3) := by decide +kernel
theorem dX10_stand_7 : decode cX10_stand 7 = .ok (.ldc 174, 2) := by decide +kernel
theorem dX10_stand_9 : decode cX10_stand 9 = .ok (.ireturn, 1) := by decide +kernel
theorem dX10_stand_10 : decode cX10_stand 10 = .ok (.iload_n 1, 1) := by decide +kernel
theorem dX10_stand_11 : decode cX10_stand 11 = .ok (.tableswitch 85 0 5 #[37, 44, 51, 58, 67, 76], 37) := by decide +kernel
theorem dX10_stand_48 : decode cX10_stand 48 = .ok (.aload_n 0, 1) := by decide +kernel
theorem dX10_stand_49 : decode cX10_stand 49 = .ok (.getfield 19, 3) := by decide +kernel
theorem dX10_stand_52 : decode cX10_stand 52 = .ok (.iconst 0, 1) := by decide +kernel
theorem dX10_stand_53 : decode cX10_stand 53 = .ok (.iaload, 1) := by decide +kernel
theorem dX10_stand_54 : decode cX10_stand 54 = .ok (.ireturn, 1) := by decide +kernel
theorem dX10_stand_55 : decode cX10_stand 55 = .ok (.aload_n 0, 1) := by decide +kernel
theorem dX10_stand_56 : decode cX10_stand 56 = .ok (.getfield 19, 3) := by decide +kernel
theorem dX10_stand_59 : decode cX10_stand 59 = .ok (.iconst 2, 1) := by decide +kernel
theorem dX10_stand_60 : decode cX10_stand 60 = .ok (.iaload, 1) := by decide +kernel
theorem dX10_stand_61 : decode cX10_stand 61 = .ok (.ireturn, 1) := by decide +kernel
theorem dX10_stand_62 : decode cX10_stand 62 = .ok (.aload_n 0, 1) := by decide +kernel
theorem dX10_stand_63 : decode cX10_stand 63 = .ok (.getfield 19, 3) := by decide +kernel
theorem dX10_stand_66 : decode cX10_stand 66 = .ok (.iconst 3, 1) := by decide +kernel
theorem dX10_stand_67 : decode cX10_stand 67 = .ok (.iaload, 1) := by decide +kernel
theorem dX10_stand_68 : decode cX10_stand 68 = .ok (.ireturn, 1) := by decide +kernel
theorem dX10_stand_69 : decode cX10_stand 69 = .ok (.aload_n 0, 1) := by decide +kernel
theorem dX10_stand_70 : decode cX10_stand 70 = .ok (.getfield 19, 3) := by decide +kernel
theorem dX10_stand_73 : decode cX10_stand 73 = .ok (.iconst 0, 1) := by decide +kernel
theorem dX10_stand_74 : decode cX10_stand 74 = .ok (.invokestatic 168, 3) := by decide +kernel
theorem dX10_stand_77 : decode cX10_stand 77 = .ok (.ireturn, 1) := by decide +kernel
theorem dX10_stand_78 : decode cX10_stand 78 = .ok (.aload_n 0, 1) := by decide +kernel
theorem dX10_stand_79 : decode cX10_stand 79 = .ok (.getfield 19, 3) := by decide +kernel
theorem dX10_stand_82 : decode cX10_stand 82 = .ok (.iconst 2, 1) := by decide +kernel
theorem dX10_stand_83 : decode cX10_stand 83 = .ok (.invokestatic 168, 3) := by decide +kernel
theorem dX10_stand_86 : decode cX10_stand 86 = .ok (.ireturn, 1) := by decide +kernel
theorem dX10_stand_87 : decode cX10_stand 87 = .ok (.aload_n 0, 1) := by decide +kernel
theorem dX10_stand_88 : decode cX10_stand 88 = .ok (.getfield 19, 3) := by decide +kernel
theorem dX10_stand_91 : decode cX10_stand 91 = .ok (.iconst 1, 1) := by decide +kernel
theorem dX10_stand_92 : decode cX10_stand 92 = .ok (.invokestatic 168, 3) := by decide +kernel
theorem dX10_stand_95 : decode cX10_stand 95 = .ok (.ireturn, 1) := by decide +kernel
theorem dX10_stand_96 : decode cX10_stand 96 = .ok (.ldc 70, 2) := by decide +kernel
theorem dX10_stand_98 : decode cX10_stand 98 = .ok (.ireturn, 1) := by decide +kernel
theorem dX10_laysAside_0 : decode cX10_laysAside 0 = .ok (.aload_n 0, 1) := by decide +kernel
theorem dX10_laysAside_1 : decode cX10_laysAside 1 = .ok (.getfield 19, 3) := by decide +kernel
theorem dX10_laysAside_4 : decode cX10_laysAside 4 = .ok (.iconst 0, 1) := by decide +kernel
theorem dX10_laysAside_5 : decode cX10_laysAside 5 = .ok (.aload_n 0, 1) := by decide +kernel
theorem dX10_laysAside_6 : decode cX10_laysAside 6 = .ok (.getfield 25, 3) := by decide +kernel
theorem dX10_laysAside_9 : decode cX10_laysAside 9 = .ok (.iconst 0, 1) := by decide +kernel
theorem dX10_laysAside_10 : decode cX10_laysAside 10 = .ok (.invokestatic 138, 3) := by decide +kernel
theorem dX10_laysAside_13 : decode cX10_laysAside 13 = .ok (.aload_n 0, 1) := by decide +kernel
theorem dX10_laysAside_14 : decode cX10_laysAside 14 = .ok (.getfield 25, 3) := by decide +kernel
theorem dX10_laysAside_17 : decode cX10_laysAside 17 = .ok (.iload_n 1, 1) := by decide +kernel
theorem dX10_laysAside_18 : decode cX10_laysAside 18 = .ok (.invokestatic 199, 3) := by decide +kernel
theorem dX10_laysAside_21 : decode cX10_laysAside 21 = .ok (.return_, 1) := by decide +kernel
theorem dX10_ahead_0 : decode cX10_ahead 0 = .ok (.aload_n 0, 1) := by decide +kernel
theorem dX10_ahead_1 : decode cX10_ahead 1 = .ok (.iload_n 1, 1) := by decide +kernel
theorem dX10_ahead_2 : decode cX10_ahead 2 = .ok (.invokevirtual 188, 3) := by decide +kernel
theorem dX10_ahead_5 : decode cX10_ahead 5 = .ok (.ifCond .eq 15, 3) := by decide +kernel
theorem dX10_ahead_8 : decode cX10_ahead 8 = .ok (.iload_n 2, 1) := by decide +kernel
theorem dX10_ahead_9 : decode cX10_ahead 9 = .ok (.i2l, 1) := by decide +kernel
theorem dX10_ahead_10 : decode cX10_ahead 10 = .ok (.lconst 0, 1) := by decide +kernel
theorem dX10_ahead_11 : decode cX10_ahead 11 = .ok (.ldc2_w 203, 3) := by decide +kernel
theorem dX10_ahead_14 : decode cX10_ahead 14 = .ok (.invokestatic 53, 3) := by decide +kernel
theorem dX10_ahead_17 : decode cX10_ahead 17 = .ok (.ifCond .ne 6, 3) := by decide +kernel
theorem dX10_ahead_20 : decode cX10_ahead 20 = .ok (.ldc 70, 2) := by decide +kernel
theorem dX10_ahead_22 : decode cX10_ahead 22 = .ok (.ireturn, 1) := by decide +kernel
theorem dX10_ahead_23 : decode cX10_ahead 23 = .ok (.aload_n 0, 1) := by decide +kernel
theorem dX10_ahead_24 : decode cX10_ahead 24 = .ok (.iload_n 2, 1) := by decide +kernel
theorem dX10_ahead_25 : decode cX10_ahead 25 = .ok (.invokevirtual 205, 3) := by decide +kernel
theorem dX10_ahead_28 : decode cX10_ahead 28 = .ok (.aload_n 0, 1) := by decide +kernel
theorem dX10_ahead_29 : decode cX10_ahead 29 = .ok (.getfield 25, 3) := by decide +kernel
theorem dX10_ahead_32 : decode cX10_ahead 32 = .ok (.iload_n 1, 1) := by decide +kernel
theorem dX10_ahead_33 : decode cX10_ahead 33 = .ok (.invokestatic 191, 3) := by decide +kernel
theorem dX10_ahead_36 : decode cX10_ahead 36 = .ok (.ireturn, 1) := by decide +kernel
theorem dX10_lava_0 : decode cX10_lava 0 = .ok (.aload_n 0, 1) := by decide +kernel
theorem dX10_lava_1 : decode cX10_lava 1 = .ok (.iload_n 1, 1) := by decide +kernel
theorem dX10_lava_2 : decode cX10_lava 2 = .ok (.invokevirtual 183, 3) := by decide +kernel
theorem dX10_lava_5 : decode cX10_lava 5 = .ok (.ifCond .eq 15, 3) := by decide +kernel
theorem dX10_lava_8 : decode cX10_lava 8 = .ok (.iload_n 2, 1) := by decide +kernel
theorem dX10_lava_9 : decode cX10_lava 9 = .ok (.i2l, 1) := by decide +kernel
theorem dX10_lava_10 : decode cX10_lava 10 = .ok (.lconst 0, 1) := by decide +kernel
theorem dX10_lava_11 : decode cX10_lava 11 = .ok (.ldc2_w 203, 3) := by decide +kernel
theorem dX10_lava_14 : decode cX10_lava 14 = .ok (.invokestatic 53, 3) := by decide +kernel
theorem dX10_lava_17 : decode cX10_lava 17 = .ok (.ifCond .ne 6, 3) := by decide +kernel
theorem dX10_lava_20 : decode cX10_lava 20 = .ok (.ldc 70, 2) := by decide +kernel
theorem dX10_lava_22 : decode cX10_lava 22 = .ok (.ireturn, 1) := by decide +kernel
theorem dX10_lava_23 : decode cX10_lava 23 = .ok (.aload_n 0, 1) := by decide +kernel
theorem dX10_lava_24 : decode cX10_lava 24 = .ok (.iload_n 2, 1) := by decide +kernel
theorem dX10_lava_25 : decode cX10_lava 25 = .ok (.invokevirtual 205, 3) := by decide +kernel
theorem dX10_lava_28 : decode cX10_lava 28 = .ok (.aload_n 0, 1) := by decide +kernel
theorem dX10_lava_29 : decode cX10_lava 29 = .ok (.getfield 25, 3) := by decide +kernel
theorem dX10_lava_32 : decode cX10_lava 32 = .ok (.bipush 15, 2) := by decide +kernel
theorem dX10_lava_34 : decode cX10_lava 34 = .ok (.iload_n 1, 1) := by decide +kernel
theorem dX10_lava_35 : decode cX10_lava 35 = .ok (.iadd, 1) := by decide +kernel
theorem dX10_lava_36 : decode cX10_lava 36 = .ok (.iaload, 1) := by decide +kernel
theorem dX10_lava_37 : decode cX10_lava 37 = .ok (.ireturn, 1) := by decide +kernel
theorem dX10_kept_0 : decode cX10_kept 0 = .ok (.aload_n 0, 1) := by decide +kernel
theorem dX10_kept_1 : decode cX10_kept 1 = .ok (.invokevirtual 175, 3) := by decide +kernel
theorem dX10_kept_4 : decode cX10_kept 4 = .ok (.ifCond .ne 6, 3) := by decide +kernel
theorem dX10_kept_7 : decode cX10_kept 7 = .ok (.ldc 174, 2) := by decide +kernel
theorem dX10_kept_9 : decode cX10_kept 9 = .ok (.ireturn, 1) := by decide +kernel
theorem dX10_kept_10 : decode cX10_kept 10 = .ok (.iload_n 1, 1) := by decide +kernel
theorem dX10_kept_11 : decode cX10_kept 11 = .ok (.i2l, 1) := by decide +kernel
theorem dX10_kept_12 : decode cX10_kept 12 = .ok (.lconst 0, 1) := by decide +kernel
theorem dX10_kept_13 : decode cX10_kept 13 = .ok (.ldc2_w 203, 3) := by decide +kernel
theorem dX10_kept_16 : decode cX10_kept 16 = .ok (.invokestatic 53, 3) := by decide +kernel
theorem dX10_kept_19 : decode cX10_kept 19 = .ok (.ifCond .eq 10, 3) := by decide +kernel
theorem dX10_kept_22 : decode cX10_kept 22 = .ok (.iload_n 2, 1) := by decide +kernel
theorem dX10_kept_23 : decode cX10_kept 23 = .ok (.invokestatic 209, 3) := by decide +kernel
theorem dX10_kept_26 : decode cX10_kept 26 = .ok (.ifCond .ne 6, 3) := by decide +kernel
theorem dX10_kept_29 : decode cX10_kept 29 = .ok (.ldc 70, 2) := by decide +kernel
theorem dX10_kept_31 : decode cX10_kept 31 = .ok (.ireturn, 1) := by decide +kernel
theorem dX10_kept_32 : decode cX10_kept 32 = .ok (.aload_n 0, 1) := by decide +kernel
theorem dX10_kept_33 : decode cX10_kept 33 = .ok (.iload_n 1, 1) := by decide +kernel
theorem dX10_kept_34 : decode cX10_kept 34 = .ok (.invokevirtual 205, 3) := by decide +kernel
theorem dX10_kept_37 : decode cX10_kept 37 = .ok (.aload_n 0, 1) := by decide +kernel
theorem dX10_kept_38 : decode cX10_kept 38 = .ok (.getfield 25, 3) := by decide +kernel
theorem dX10_kept_41 : decode cX10_kept 41 = .ok (.iload_n 2, 1) := by decide +kernel
theorem dX10_kept_42 : decode cX10_kept 42 = .ok (.ifCond .ne 7, 3) := by decide +kernel
theorem dX10_kept_45 : decode cX10_kept 45 = .ok (.iconst 2, 1) := by decide +kernel
theorem dX10_kept_46 : decode cX10_kept 46 = .ok (.goto 4, 3) := by decide +kernel
theorem dX10_kept_49 : decode cX10_kept 49 = .ok (.iconst 1, 1) := by decide +kernel
theorem dX10_kept_50 : decode cX10_kept 50 = .ok (.invokestatic 168, 3) := by decide +kernel
theorem dX10_kept_53 : decode cX10_kept 53 = .ok (.ireturn, 1) := by decide +kernel
theorem dX10_isSo_0 : decode cX10_isSo 0 = .ok (.aload_n 0, 1) := by decide +kernel
theorem dX10_isSo_1 : decode cX10_isSo 1 = .ok (.getfield 25, 3) := by decide +kernel
theorem dX10_isSo_4 : decode cX10_isSo 4 = .ok (.bipush 53, 2) := by decide +kernel
theorem dX10_isSo_6 : decode cX10_isSo 6 = .ok (.iload_n 1, 1) := by decide +kernel
theorem dX10_isSo_7 : decode cX10_isSo 7 = .ok (.iadd, 1) := by decide +kernel
theorem dX10_isSo_8 : decode cX10_isSo 8 = .ok (.iaload, 1) := by decide +kernel
theorem dX10_isSo_9 : decode cX10_isSo 9 = .ok (.istore_n 3, 1) := by decide +kernel
theorem dX10_isSo_10 : decode cX10_isSo 10 = .ok (.iload_n 2, 1) := by decide +kernel
theorem dX10_isSo_11 : decode cX10_isSo 11 = .ok (.ifCond .ne 39, 3) := by decide +kernel
theorem dX10_isSo_14 : decode cX10_isSo 14 = .ok (.iload_n 3, 1) := by decide +kernel
theorem dX10_isSo_15 : decode cX10_isSo 15 = .ok (.iconst 2, 1) := by decide +kernel
theorem dX10_isSo_16 : decode cX10_isSo 16 = .ok (.if_icmp .eq 26, 3) := by decide +kernel
theorem dX10_isSo_19 : decode cX10_isSo 19 = .ok (.iload_n 3, 1) := by decide +kernel
theorem dX10_isSo_20 : decode cX10_isSo 20 = .ok (.ifCond .ne 26, 3) := by decide +kernel
theorem dX10_isSo_23 : decode cX10_isSo 23 = .ok (.aload_n 0, 1) := by decide +kernel
theorem dX10_isSo_24 : decode cX10_isSo 24 = .ok (.getfield 25, 3) := by decide +kernel
theorem dX10_isSo_27 : decode cX10_isSo 27 = .ok (.aload_n 0, 1) := by decide +kernel
theorem dX10_isSo_28 : decode cX10_isSo 28 = .ok (.getfield 25, 3) := by decide +kernel
theorem dX10_isSo_31 : decode cX10_isSo 31 = .ok (.bipush 47, 2) := by decide +kernel
theorem dX10_isSo_33 : decode cX10_isSo 33 = .ok (.iload_n 1, 1) := by decide +kernel
theorem dX10_isSo_34 : decode cX10_isSo 34 = .ok (.iadd, 1) := by decide +kernel
theorem dX10_isSo_35 : decode cX10_isSo 35 = .ok (.iaload, 1) := by decide +kernel
theorem dX10_isSo_36 : decode cX10_isSo 36 = .ok (.invokestatic 149, 3) := by decide +kernel
theorem dX10_isSo_39 : decode cX10_isSo 39 = .ok (.ifCond .eq 7, 3) := by decide +kernel
theorem dX10_isSo_42 : decode cX10_isSo 42 = .ok (.iconst 1, 1) := by decide +kernel
theorem dX10_isSo_43 : decode cX10_isSo 43 = .ok (.goto 26, 3) := by decide +kernel
theorem dX10_isSo_46 : decode cX10_isSo 46 = .ok (.iconst 0, 1) := by decide +kernel
theorem dX10_isSo_47 : decode cX10_isSo 47 = .ok (.goto 22, 3) := by decide +kernel
theorem dX10_isSo_50 : decode cX10_isSo 50 = .ok (.iload_n 3, 1) := by decide +kernel
theorem dX10_isSo_51 : decode cX10_isSo 51 = .ok (.iload_n 2, 1) := by decide +kernel
theorem dX10_isSo_52 : decode cX10_isSo 52 = .ok (.iconst 1, 1) := by decide +kernel
theorem dX10_isSo_53 : decode cX10_isSo 53 = .ok (.if_icmp .ne 7, 3) := by decide +kernel
theorem dX10_isSo_56 : decode cX10_isSo 56 = .ok (.iconst 2, 1) := by decide +kernel
theorem dX10_isSo_57 : decode cX10_isSo 57 = .ok (.goto 4, 3) := by decide +kernel
theorem dX10_isSo_60 : decode cX10_isSo 60 = .ok (.iconst 1, 1) := by decide +kernel
theorem dX10_isSo_61 : decode cX10_isSo 61 = .ok (.if_icmp .ne 7, 3) := by decide +kernel
theorem dX10_isSo_64 : decode cX10_isSo 64 = .ok (.iconst 1, 1) := by decide +kernel
theorem dX10_isSo_65 : decode cX10_isSo 65 = .ok (.goto 4, 3) := by decide +kernel
theorem dX10_isSo_68 : decode cX10_isSo 68 = .ok (.iconst 0, 1) := by decide +kernel
theorem dX10_isSo_69 : decode cX10_isSo 69 = .ok (.ireturn, 1) := by decide +kernel
theorem dX10_when_0 : decode cX10_when 0 = .ok (.aload_n 0, 1) := by decide +kernel
theorem dX10_when_1 : decode cX10_when 1 = .ok (.iload_n 1, 1) := by decide +kernel
theorem dX10_when_2 : decode cX10_when 2 = .ok (.invokevirtual 188, 3) := by decide +kernel
theorem dX10_when_5 : decode cX10_when 5 = .ok (.ifCond .eq 15, 3) := by decide +kernel
theorem dX10_when_8 : decode cX10_when 8 = .ok (.iload_n 2, 1) := by decide +kernel
theorem dX10_when_9 : decode cX10_when 9 = .ok (.i2l, 1) := by decide +kernel
theorem dX10_when_10 : decode cX10_when 10 = .ok (.lconst 0, 1) := by decide +kernel
theorem dX10_when_11 : decode cX10_when 11 = .ok (.ldc2_w 68, 3) := by decide +kernel
theorem dX10_when_14 : decode cX10_when 14 = .ok (.invokestatic 53, 3) := by decide +kernel
theorem dX10_when_17 : decode cX10_when 17 = .ok (.ifCond .ne 6, 3) := by decide +kernel
theorem dX10_when_20 : decode cX10_when 20 = .ok (.ldc 70, 2) := by decide +kernel
theorem dX10_when_22 : decode cX10_when 22 = .ok (.ireturn, 1) := by decide +kernel
theorem dX10_when_23 : decode cX10_when 23 = .ok (.aload_n 0, 1) := by decide +kernel
theorem dX10_when_24 : decode cX10_when 24 = .ok (.iconst 0, 1) := by decide +kernel
theorem dX10_when_25 : decode cX10_when 25 = .ok (.invokevirtual 205, 3) := by decide +kernel
theorem dX10_when_28 : decode cX10_when 28 = .ok (.iconst 0, 1) := by decide +kernel
theorem dX10_when_29 : decode cX10_when 29 = .ok (.istore_n 3, 1) := by decide +kernel
theorem dX10_when_30 : decode cX10_when 30 = .ok (.iload_n 3, 1) := by decide +kernel
theorem dX10_when_31 : decode cX10_when 31 = .ok (.bipush 61, 2) := by decide +kernel
theorem dX10_when_33 : decode cX10_when 33 = .ok (.if_icmp .ge 27, 3) := by decide +kernel
theorem dX10_when_36 : decode cX10_when 36 = .ok (.aload_n 0, 1) := by decide +kernel
theorem dX10_when_37 : decode cX10_when 37 = .ok (.iload_n 1, 1) := by decide +kernel
theorem dX10_when_38 : decode cX10_when 38 = .ok (.iload_n 2, 1) := by decide +kernel
theorem dX10_when_39 : decode cX10_when 39 = .ok (.invokevirtual 212, 3) := by decide +kernel
theorem dX10_when_42 : decode cX10_when 42 = .ok (.ifCond .eq 5, 3) := by decide +kernel
theorem dX10_when_45 : decode cX10_when 45 = .ok (.iload_n 3, 1) := by decide +kernel
theorem dX10_when_46 : decode cX10_when 46 = .ok (.ireturn, 1) := by decide +kernel
theorem dX10_when_47 : decode cX10_when 47 = .ok (.aload_n 0, 1) := by decide +kernel
theorem dX10_when_48 : decode cX10_when 48 = .ok (.getfield 25, 3) := by decide +kernel
theorem dX10_when_51 : decode cX10_when 51 = .ok (.invokestatic 165, 3) := by decide +kernel
theorem dX10_when_54 : decode cX10_when 54 = .ok (.iinc 3 1, 3) := by decide +kernel
theorem dX10_when_57 : decode cX10_when 57 = .ok (.goto (-27), 3) := by decide +kernel
theorem dX10_when_60 : decode cX10_when 60 = .ok (.ldc 216, 2) := by decide +kernel
theorem dX10_when_62 : decode cX10_when 62 = .ok (.ireturn, 1) := by decide +kernel
theorem dX10_front_0 : decode cX10_front 0 = .ok (.aload_n 0, 1) := by decide +kernel
theorem dX10_front_1 : decode cX10_front 1 = .ok (.invokevirtual 175, 3) := by decide +kernel
theorem dX10_front_4 : decode cX10_front 4 = .ok (.ifCond .ne 6, 3) := by decide +kernel
theorem dX10_front_7 : decode cX10_front 7 = .ok (.ldc 174, 2) := by decide +kernel
theorem dX10_front_9 : decode cX10_front 9 = .ok (.ireturn, 1) := by decide +kernel
theorem dX10_front_10 : decode cX10_front 10 = .ok (.iload_n 1, 1) := by decide +kernel
theorem dX10_front_11 : decode cX10_front 11 = .ok (.i2l, 1) := by decide +kernel
theorem dX10_front_12 : decode cX10_front 12 = .ok (.lconst 0, 1) := by decide +kernel
theorem dX10_front_13 : decode cX10_front 13 = .ok (.ldc2_w 203, 3) := by decide +kernel
theorem dX10_front_16 : decode cX10_front 16 = .ok (.invokestatic 53, 3) := by decide +kernel
theorem dX10_front_19 : decode cX10_front 19 = .ok (.ifCond .ne 6, 3) := by decide +kernel
theorem dX10_front_22 : decode cX10_front 22 = .ok (.ldc 70, 2) := by decide +kernel
theorem dX10_front_24 : decode cX10_front 24 = .ok (.ireturn, 1) := by decide +kernel
theorem dX10_front_25 : decode cX10_front 25 = .ok (.aload_n 0, 1) := by decide +kernel
theorem dX10_front_26 : decode cX10_front 26 = .ok (.iload_n 1, 1) := by decide +kernel
theorem dX10_front_27 : decode cX10_front 27 = .ok (.invokevirtual 205, 3) := by decide +kernel
theorem dX10_front_30 : decode cX10_front 30 = .ok (.ldc 216, 2) := by decide +kernel
theorem dX10_front_32 : decode cX10_front 32 = .ok (.istore_n 2, 1) := by decide +kernel
theorem dX10_front_33 : decode cX10_front 33 = .ok (.iconst 0, 1) := by decide +kernel
theorem dX10_front_34 : decode cX10_front 34 = .ok (.istore_n 3, 1) := by decide +kernel
theorem dX10_front_35 : decode cX10_front 35 = .ok (.iload_n 3, 1) := by decide +kernel
theorem dX10_front_36 : decode cX10_front 36 = .ok (.aload_n 0, 1) := by decide +kernel
theorem dX10_front_37 : decode cX10_front 37 = .ok (.getfield 19, 3) := by decide +kernel
theorem dX10_front_40 : decode cX10_front 40 = .ok (.iconst 0, 1) := by decide +kernel
theorem dX10_front_41 : decode cX10_front 41 = .ok (.iaload, 1) := by decide +kernel
theorem dX10_front_42 : decode cX10_front 42 = .ok (.if_icmp .ge 26, 3) := by decide +kernel
theorem dX10_front_45 : decode cX10_front 45 = .ok (.aload_n 0, 1) := by decide +kernel
theorem dX10_front_46 : decode cX10_front 46 = .ok (.getfield 25, 3) := by decide +kernel
theorem dX10_front_49 : decode cX10_front 49 = .ok (.iload_n 3, 1) := by decide +kernel
theorem dX10_front_50 : decode cX10_front 50 = .ok (.invokestatic 149, 3) := by decide +kernel
theorem dX10_front_53 : decode cX10_front 53 = .ok (.ifCond .eq 7, 3) := by decide +kernel
theorem dX10_front_56 : decode cX10_front 56 = .ok (.iload_n 3, 1) := by decide +kernel
theorem dX10_front_57 : decode cX10_front 57 = .ok (.goto 4, 3) := by decide +kernel
theorem dX10_front_60 : decode cX10_front 60 = .ok (.iload_n 2, 1) := by decide +kernel
theorem dX10_front_61 : decode cX10_front 61 = .ok (.istore_n 2, 1) := by decide +kernel
theorem dX10_front_62 : decode cX10_front 62 = .ok (.iinc 3 1, 3) := by decide +kernel
theorem dX10_front_65 : decode cX10_front 65 = .ok (.goto (-30), 3) := by decide +kernel
theorem dX10_front_68 : decode cX10_front 68 = .ok (.iload_n 2, 1) := by decide +kernel
theorem dX10_front_69 : decode cX10_front 69 = .ok (.ireturn, 1) := by decide +kernel
theorem dX10_power_0 : decode cX10_power 0 = .ok (.iconst 1, 1) := by decide +kernel
theorem dX10_power_1 : decode cX10_power 1 = .ok (.istore_n 2, 1) := by decide +kernel
theorem dX10_power_2 : decode cX10_power 2 = .ok (.iconst 0, 1) := by decide +kernel
theorem dX10_power_3 : decode cX10_power 3 = .ok (.istore_n 3, 1) := by decide +kernel
theorem dX10_power_4 : decode cX10_power 4 = .ok (.iload_n 3, 1) := by decide +kernel
theorem dX10_power_5 : decode cX10_power 5 = .ok (.iload_n 1, 1) := by decide +kernel
theorem dX10_power_6 : decode cX10_power 6 = .ok (.if_icmp .ge 13, 3) := by decide +kernel
theorem dX10_power_9 : decode cX10_power 9 = .ok (.iload_n 2, 1) := by decide +kernel
theorem dX10_power_10 : decode cX10_power 10 = .ok (.iload_n 0, 1) := by decide +kernel
theorem dX10_power_11 : decode cX10_power 11 = .ok (.imul, 1) := by decide +kernel
theorem dX10_power_12 : decode cX10_power 12 = .ok (.istore_n 2, 1) := by decide +kernel
theorem dX10_power_13 : decode cX10_power 13 = .ok (.iinc 3 1, 3) := by decide +kernel
theorem dX10_power_16 : decode cX10_power 16 = .ok (.goto (-12), 3) := by decide +kernel
theorem dX10_power_19 : decode cX10_power 19 = .ok (.iload_n 2, 1) := by decide +kernel
theorem dX10_power_20 : decode cX10_power 20 = .ok (.ireturn, 1) := by decide +kernel
theorem dX10_keeps_0 : decode cX10_keeps 0 = .ok (.aload_n 0, 1) := by decide +kernel
theorem dX10_keeps_1 : decode cX10_keeps 1 = .ok (.getfield 19, 3) := by decide +kernel
theorem dX10_keeps_4 : decode cX10_keeps 4 = .ok (.iconst 1, 1) := by decide +kernel
theorem dX10_keeps_5 : decode cX10_keeps 5 = .ok (.iaload, 1) := by decide +kernel
theorem dX10_keeps_6 : decode cX10_keeps 6 = .ok (.iconst 1, 1) := by decide +kernel
theorem dX10_keeps_7 : decode cX10_keeps 7 = .ok (.iadd, 1) := by decide +kernel
theorem dX10_keeps_8 : decode cX10_keeps 8 = .ok (.istore 4, 2) := by decide +kernel
theorem dX10_keeps_10 : decode cX10_keeps 10 = .ok (.aload_n 0, 1) := by decide +kernel
theorem dX10_keeps_11 : decode cX10_keeps 11 = .ok (.iconst 0, 1) := by decide +kernel
theorem dX10_keeps_12 : decode cX10_keeps 12 = .ok (.invokevirtual 205, 3) := by decide +kernel
theorem dX10_keeps_15 : decode cX10_keeps 15 = .ok (.iload 4, 2) := by decide +kernel
theorem dX10_keeps_17 : decode cX10_keeps 17 = .ok (.iload_n 2, 1) := by decide +kernel
theorem dX10_keeps_18 : decode cX10_keeps 18 = .ok (.invokestatic 217, 3) := by decide +kernel
theorem dX10_keeps_21 : decode cX10_keeps 21 = .ok (.iload 4, 2) := by decide +kernel
theorem dX10_keeps_23 : decode cX10_keeps 23 = .ok (.idiv, 1) := by decide +kernel
theorem dX10_keeps_24 : decode cX10_keeps 24 = .ok (.istore 5, 2) := by decide +kernel
theorem dX10_keeps_26 : decode cX10_keeps 26 = .ok (.iload 5, 2) := by decide +kernel
theorem dX10_keeps_28 : decode cX10_keeps 28 = .ok (.ifCond .le 67, 3) := by decide +kernel
theorem dX10_keeps_31 : decode cX10_keeps 31 = .ok (.iload_n 1, 1) := by decide +kernel
theorem dX10_keeps_32 : decode cX10_keeps 32 = .ok (.iload 5, 2) := by decide +kernel
theorem dX10_keeps_34 : decode cX10_keeps 34 = .ok (.idiv, 1) := by decide +kernel
theorem dX10_keeps_35 : decode cX10_keeps 35 = .ok (.iload 4, 2) := by decide +kernel
theorem dX10_keeps_37 : decode cX10_keeps 37 = .ok (.irem, 1) := by decide +kernel
theorem dX10_keeps_38 : decode cX10_keeps 38 = .ok (.istore 6, 2) := by decide +kernel
theorem dX10_keeps_40 : decode cX10_keeps 40 = .ok (.iload 6, 2) := by decide +kernel
theorem dX10_keeps_42 : decode cX10_keeps 42 = .ok (.aload_n 0, 1) := by decide +kernel
theorem dX10_keeps_43 : decode cX10_keeps 43 = .ok (.getfield 19, 3) := by decide +kernel
theorem dX10_keeps_46 : decode cX10_keeps 46 = .ok (.iconst 1, 1) := by decide +kernel
theorem dX10_keeps_47 : decode cX10_keeps 47 = .ok (.iaload, 1) := by decide +kernel
theorem dX10_keeps_48 : decode cX10_keeps 48 = .ok (.if_icmp .ge 30, 3) := by decide +kernel
theorem dX10_keeps_51 : decode cX10_keeps 51 = .ok (.aload_n 0, 1) := by decide +kernel
theorem dX10_keeps_52 : decode cX10_keeps 52 = .ok (.getfield 25, 3) := by decide +kernel
theorem dX10_keeps_55 : decode cX10_keeps 55 = .ok (.iload 6, 2) := by decide +kernel
theorem dX10_keeps_57 : decode cX10_keeps 57 = .ok (.aload_n 0, 1) := by decide +kernel
theorem dX10_keeps_58 : decode cX10_keeps 58 = .ok (.getfield 25, 3) := by decide +kernel
theorem dX10_keeps_61 : decode cX10_keeps 61 = .ok (.bipush 53, 2) := by decide +kernel
theorem dX10_keeps_63 : decode cX10_keeps 63 = .ok (.iload 6, 2) := by decide +kernel
theorem dX10_keeps_65 : decode cX10_keeps 65 = .ok (.iadd, 1) := by decide +kernel
theorem dX10_keeps_66 : decode cX10_keeps 66 = .ok (.iaload, 1) := by decide +kernel
theorem dX10_keeps_67 : decode cX10_keeps 67 = .ok (.ifCond .ne 7, 3) := by decide +kernel
theorem dX10_keeps_70 : decode cX10_keeps 70 = .ok (.iconst 1, 1) := by decide +kernel
theorem dX10_keeps_71 : decode cX10_keeps 71 = .ok (.goto 4, 3) := by decide +kernel
theorem dX10_keeps_74 : decode cX10_keeps 74 = .ok (.iconst 0, 1) := by decide +kernel
theorem dX10_keeps_75 : decode cX10_keeps 75 = .ok (.invokestatic 161, 3) := by decide +kernel
theorem dX10_keeps_78 : decode cX10_keeps 78 = .ok (.aload_n 0, 1) := by decide +kernel
theorem dX10_keeps_79 : decode cX10_keeps 79 = .ok (.getfield 25, 3) := by decide +kernel
theorem dX10_keeps_82 : decode cX10_keeps 82 = .ok (.invokestatic 165, 3) := by decide +kernel
theorem dX10_keeps_85 : decode cX10_keeps 85 = .ok (.iload 5, 2) := by decide +kernel
theorem dX10_keeps_87 : decode cX10_keeps 87 = .ok (.iload 4, 2) := by decide +kernel
theorem dX10_keeps_89 : decode cX10_keeps 89 = .ok (.idiv, 1) := by decide +kernel
theorem dX10_keeps_90 : decode cX10_keeps 90 = .ok (.istore 5, 2) := by decide +kernel
theorem dX10_keeps_92 : decode cX10_keeps 92 = .ok (.goto (-66), 3) := by decide +kernel
theorem dX10_keeps_95 : decode cX10_keeps 95 = .ok (.aload_n 0, 1) := by decide +kernel
theorem dX10_keeps_96 : decode cX10_keeps 96 = .ok (.getfield 25, 3) := by decide +kernel
theorem dX10_keeps_99 : decode cX10_keeps 99 = .ok (.iload_n 3, 1) := by decide +kernel
theorem dX10_keeps_100 : decode cX10_keeps 100 = .ok (.invokestatic 199, 3) := by decide +kernel
theorem dX10_keeps_103 : decode cX10_keeps 103 = .ok (.aload_n 0, 1) := by decide +kernel
theorem dX10_keeps_104 : decode cX10_keeps 104 = .ok (.getfield 25, 3) := by decide +kernel
theorem dX10_keeps_107 : decode cX10_keeps 107 = .ok (.invokestatic 220, 3) := by decide +kernel
theorem dX10_keeps_110 : decode cX10_keeps 110 = .ok (.ireturn, 1) := by decide +kernel
theorem dX10_carries_0 : decode cX10_carries 0 = .ok (.aload_n 0, 1) := by decide +kernel
theorem dX10_carries_1 : decode cX10_carries 1 = .ok (.invokevirtual 175, 3) := by decide +kernel
theorem dX10_carries_4 : decode cX10_carries 4 = .ok (.ifCond .ne 6, 3) := by decide +kernel
theorem dX10_carries_7 : decode cX10_carries 7 = .ok (.ldc 174, 2) := by decide +kernel
theorem dX10_carries_9 : decode cX10_carries 9 = .ok (.ireturn, 1) := by decide +kernel
theorem dX10_carries_10 : decode cX10_carries 10 = .ok (.iload_n 1, 1) := by decide +kernel
theorem dX10_carries_11 : decode cX10_carries 11 = .ok (.i2l, 1) := by decide +kernel
theorem dX10_carries_12 : decode cX10_carries 12 = .ok (.lconst 1, 1) := by decide +kernel
theorem dX10_carries_13 : decode cX10_carries 13 = .ok (.ldc2_w 224, 3) := by decide +kernel
theorem dX10_carries_16 : decode cX10_carries 16 = .ok (.invokestatic 53, 3) := by decide +kernel
theorem dX10_carries_19 : decode cX10_carries 19 = .ok (.ifCond .eq 20, 3) := by decide +kernel
theorem dX10_carries_22 : decode cX10_carries 22 = .ok (.iload_n 2, 1) := by decide +kernel
theorem dX10_carries_23 : decode cX10_carries 23 = .ok (.i2l, 1) := by decide +kernel
theorem dX10_carries_24 : decode cX10_carries 24 = .ok (.lconst 0, 1) := by decide +kernel
theorem dX10_carries_25 : decode cX10_carries 25 = .ok (.ldc2_w 194, 3) := by decide +kernel
theorem dX10_carries_28 : decode cX10_carries 28 = .ok (.invokestatic 53, 3) := by decide +kernel
theorem dX10_carries_31 : decode cX10_carries 31 = .ok (.ifCond .eq 8, 3) := by decide +kernel
theorem dX10_carries_34 : decode cX10_carries 34 = .ok (.iload_n 3, 1) := by decide +kernel
theorem dX10_carries_35 : decode cX10_carries 35 = .ok (.iconst (-1), 1) := by decide +kernel
theorem dX10_carries_36 : decode cX10_carries 36 = .ok (.if_icmp .ge 6, 3) := by decide +kernel
theorem dX10_carries_39 : decode cX10_carries 39 = .ok (.ldc 70, 2) := by decide +kernel
theorem dX10_carries_41 : decode cX10_carries 41 = .ok (.ireturn, 1) := by decide +kernel
theorem dX10_carries_42 : decode cX10_carries 42 = .ok (.aload_n 0, 1) := by decide +kernel
theorem dX10_carries_43 : decode cX10_carries 43 = .ok (.getfield 19, 3) := by decide +kernel
theorem dX10_carries_46 : decode cX10_carries 46 = .ok (.iconst 1, 1) := by decide +kernel
theorem dX10_carries_47 : decode cX10_carries 47 = .ok (.iaload, 1) := by decide +kernel
theorem dX10_carries_48 : decode cX10_carries 48 = .ok (.iconst 1, 1) := by decide +kernel
theorem dX10_carries_49 : decode cX10_carries 49 = .ok (.iadd, 1) := by decide +kernel
theorem dX10_carries_50 : decode cX10_carries 50 = .ok (.istore 4, 2) := by decide +kernel
theorem dX10_carries_52 : decode cX10_carries 52 = .ok (.bipush 99, 2) := by decide +kernel
theorem dX10_carries_54 : decode cX10_carries 54 = .ok (.istore 5, 2) := by decide +kernel
theorem dX10_carries_56 : decode cX10_carries 56 = .ok (.iconst 0, 1) := by decide +kernel
theorem dX10_carries_57 : decode cX10_carries 57 = .ok (.istore 6, 2) := by decide +kernel
theorem dX10_carries_59 : decode cX10_carries 59 = .ok (.iconst 0, 1) := by decide +kernel
theorem dX10_carries_60 : decode cX10_carries 60 = .ok (.istore 7, 2) := by decide +kernel
theorem dX10_carries_62 : decode cX10_carries 62 = .ok (.iload 7, 2) := by decide +kernel
theorem dX10_carries_64 : decode cX10_carries 64 = .ok (.iload 4, 2) := by decide +kernel
theorem dX10_carries_66 : decode cX10_carries 66 = .ok (.iload_n 1, 1) := by decide +kernel
theorem dX10_carries_67 : decode cX10_carries 67 = .ok (.invokestatic 217, 3) := by decide +kernel
theorem dX10_carries_70 : decode cX10_carries 70 = .ok (.if_icmp .ge 44, 3) := by decide +kernel
theorem dX10_carries_73 : decode cX10_carries 73 = .ok (.aload_n 0, 1) := by decide +kernel
theorem dX10_carries_74 : decode cX10_carries 74 = .ok (.iload 7, 2) := by decide +kernel
theorem dX10_carries_76 : decode cX10_carries 76 = .ok (.iload_n 1, 1) := by decide +kernel
theorem dX10_carries_77 : decode cX10_carries 77 = .ok (.iload_n 2, 1) := by decide +kernel
theorem dX10_carries_78 : decode cX10_carries 78 = .ok (.invokevirtual 226, 3) := by decide +kernel
theorem dX10_carries_81 : decode cX10_carries 81 = .ok (.istore 8, 2) := by decide +kernel
theorem dX10_carries_83 : decode cX10_carries 83 = .ok (.iload 8, 2) := by decide +kernel
theorem dX10_carries_85 : decode cX10_carries 85 = .ok (.iload 5, 2) := by decide +kernel
theorem dX10_carries_87 : decode cX10_carries 87 = .ok (.if_icmp .ge 8, 3) := by decide +kernel
theorem dX10_carries_90 : decode cX10_carries 90 = .ok (.iload 7, 2) := by decide +kernel
theorem dX10_carries_92 : decode cX10_carries 92 = .ok (.goto 5, 3) := by decide +kernel
theorem dX10_carries_95 : decode cX10_carries 95 = .ok (.iload 6, 2) := by decide +kernel
theorem dX10_carries_97 : decode cX10_carries 97 = .ok (.istore 6, 2) := by decide +kernel
theorem dX10_carries_99 : decode cX10_carries 99 = .ok (.iload 5, 2) := by decide +kernel
theorem dX10_carries_101 : decode cX10_carries 101 = .ok (.iload 8, 2) := by decide +kernel
theorem dX10_carries_103 : decode cX10_carries 103 = .ok (.invokestatic 145, 3) := by decide +kernel
theorem dX10_carries_106 : decode cX10_carries 106 = .ok (.istore 5, 2) := by decide +kernel
theorem dX10_carries_108 : decode cX10_carries 108 = .ok (.iinc 7 1, 3) := by decide +kernel
theorem dX10_carries_111 : decode cX10_carries 111 = .ok (.goto (-49), 3) := by decide +kernel
theorem dX10_carries_114 : decode cX10_carries 114 = .ok (.iload_n 3, 1) := by decide +kernel
theorem dX10_carries_115 : decode cX10_carries 115 = .ok (.ifCond .ge 6, 3) := by decide +kernel
theorem dX10_carries_118 : decode cX10_carries 118 = .ok (.iload 5, 2) := by decide +kernel
theorem dX10_carries_120 : decode cX10_carries 120 = .ok (.ireturn, 1) := by decide +kernel
theorem dX10_carries_121 : decode cX10_carries 121 = .ok (.iload_n 3, 1) := by decide +kernel
theorem dX10_carries_122 : decode cX10_carries 122 = .ok (.iload_n 1, 1) := by decide +kernel
theorem dX10_carries_123 : decode cX10_carries 123 = .ok (.if_icmp .ge 22, 3) := by decide +kernel
theorem dX10_carries_126 : decode cX10_carries 126 = .ok (.iload 6, 2) := by decide +kernel
theorem dX10_carries_128 : decode cX10_carries 128 = .ok (.iload 4, 2) := by decide +kernel
theorem dX10_carries_130 : decode cX10_carries 130 = .ok (.iload_n 1, 1) := by decide +kernel
theorem dX10_carries_131 : decode cX10_carries 131 = .ok (.iconst 1, 1) := by decide +kernel
theorem dX10_carries_132 : decode cX10_carries 132 = .ok (.isub, 1) := by decide +kernel
theorem dX10_carries_133 : decode cX10_carries 133 = .ok (.iload_n 3, 1) := by decide +kernel
theorem dX10_carries_134 : decode cX10_carries 134 = .ok (.isub, 1) := by decide +kernel
theorem dX10_carries_135 : decode cX10_carries 135 = .ok (.invokestatic 217, 3) := by decide +kernel
theorem dX10_carries_138 : decode cX10_carries 138 = .ok (.idiv, 1) := by decide +kernel
theorem dX10_carries_139 : decode cX10_carries 139 = .ok (.iload 4, 2) := by decide +kernel
theorem dX10_carries_141 : decode cX10_carries 141 = .ok (.irem, 1) := by decide +kernel
theorem dX10_carries_142 : decode cX10_carries 142 = .ok (.goto 7, 3) := by decide +kernel
theorem dX10_carries_145 : decode cX10_carries 145 = .ok (.iload 4, 2) := by decide +kernel
theorem dX10_carries_147 : decode cX10_carries 147 = .ok (.iconst 1, 1) := by decide +kernel
theorem dX10_carries_148 : decode cX10_carries 148 = .ok (.isub, 1) := by decide +kernel
theorem dX10_carries_149 : decode cX10_carries 149 = .ok (.istore 7, 2) := by decide +kernel
theorem dX10_carries_151 : decode cX10_carries 151 = .ok (.iload 7, 2) := by decide +kernel
theorem dX10_carries_153 : decode cX10_carries 153 = .ok (.iload 4, 2) := by decide +kernel
theorem dX10_carries_155 : decode cX10_carries 155 = .ok (.iconst 1, 1) := by decide +kernel
theorem dX10_carries_156 : decode cX10_carries 156 = .ok (.isub, 1) := by decide +kernel
theorem dX10_carries_157 : decode cX10_carries 157 = .ok (.if_icmp .ge 8, 3) := by decide +kernel
theorem dX10_carries_160 : decode cX10_carries 160 = .ok (.iload 7, 2) := by decide +kernel
theorem dX10_carries_162 : decode cX10_carries 162 = .ok (.goto 5, 3) := by decide +kernel
theorem dX10_carries_165 : decode cX10_carries 165 = .ok (.ldc 216, 2) := by decide +kernel
theorem dX10_carries_167 : decode cX10_carries 167 = .ok (.ireturn, 1) := by decide +kernel
theorem dX10_dam_0 : decode cX10_dam 0 = .ok (.aload_n 0, 1) := by decide +kernel
theorem dX10_dam_1 : decode cX10_dam 1 = .ok (.invokevirtual 175, 3) := by decide +kernel
theorem dX10_dam_4 : decode cX10_dam 4 = .ok (.ifCond .ne 6, 3) := by decide +kernel
theorem dX10_dam_7 : decode cX10_dam 7 = .ok (.ldc 174, 2) := by decide +kernel
theorem dX10_dam_9 : decode cX10_dam 9 = .ok (.ireturn, 1) := by decide +kernel
theorem dX10_dam_10 : decode cX10_dam 10 = .ok (.iload_n 1, 1) := by decide +kernel
theorem dX10_dam_11 : decode cX10_dam 11 = .ok (.i2l, 1) := by decide +kernel
theorem dX10_dam_12 : decode cX10_dam 12 = .ok (.lconst 1, 1) := by decide +kernel
theorem dX10_dam_13 : decode cX10_dam 13 = .ok (.ldc2_w 186, 3) := by decide +kernel
theorem dX10_dam_16 : decode cX10_dam 16 = .ok (.invokestatic 53, 3) := by decide +kernel
theorem dX10_dam_19 : decode cX10_dam 19 = .ok (.ifCond .eq 22, 3) := by decide +kernel
theorem dX10_dam_22 : decode cX10_dam 22 = .ok (.iload_n 2, 1) := by decide +kernel
theorem dX10_dam_23 : decode cX10_dam 23 = .ok (.i2l, 1) := by decide +kernel
theorem dX10_dam_24 : decode cX10_dam 24 = .ok (.lconst 1, 1) := by decide +kernel
theorem dX10_dam_25 : decode cX10_dam 25 = .ok (.ldc2_w 230, 3) := by decide +kernel
theorem dX10_dam_28 : decode cX10_dam 28 = .ok (.invokestatic 53, 3) := by decide +kernel
theorem dX10_dam_31 : decode cX10_dam 31 = .ok (.ifCond .eq 10, 3) := by decide +kernel
theorem dX10_dam_34 : decode cX10_dam 34 = .ok (.iload_n 3, 1) := by decide +kernel
theorem dX10_dam_35 : decode cX10_dam 35 = .ok (.invokestatic 209, 3) := by decide +kernel
theorem dX10_dam_38 : decode cX10_dam 38 = .ok (.ifCond .ne 6, 3) := by decide +kernel
theorem dX10_dam_41 : decode cX10_dam 41 = .ok (.ldc 70, 2) := by decide +kernel
theorem dX10_dam_43 : decode cX10_dam 43 = .ok (.ireturn, 1) := by decide +kernel
theorem dX10_dam_44 : decode cX10_dam 44 = .ok (.bipush 99, 2) := by decide +kernel
theorem dX10_dam_46 : decode cX10_dam 46 = .ok (.istore 4, 2) := by decide +kernel
theorem dX10_dam_48 : decode cX10_dam 48 = .ok (.iconst 0, 1) := by decide +kernel
theorem dX10_dam_49 : decode cX10_dam 49 = .ok (.istore 5, 2) := by decide +kernel
theorem dX10_dam_51 : decode cX10_dam 51 = .ok (.iconst 0, 1) := by decide +kernel
theorem dX10_dam_52 : decode cX10_dam 52 = .ok (.istore 6, 2) := by decide +kernel
theorem dX10_dam_54 : decode cX10_dam 54 = .ok (.iload 6, 2) := by decide +kernel
theorem dX10_dam_56 : decode cX10_dam 56 = .ok (.aload_n 0, 1) := by decide +kernel
theorem dX10_dam_57 : decode cX10_dam 57 = .ok (.getfield 19, 3) := by decide +kernel
theorem dX10_dam_60 : decode cX10_dam 60 = .ok (.iconst 0, 1) := by decide +kernel
theorem dX10_dam_61 : decode cX10_dam 61 = .ok (.iaload, 1) := by decide +kernel
theorem dX10_dam_62 : decode cX10_dam 62 = .ok (.if_icmp .ge 67, 3) := by decide +kernel
theorem dX10_dam_65 : decode cX10_dam 65 = .ok (.aload_n 0, 1) := by decide +kernel
theorem dX10_dam_66 : decode cX10_dam 66 = .ok (.iconst 0, 1) := by decide +kernel
theorem dX10_dam_67 : decode cX10_dam 67 = .ok (.invokevirtual 205, 3) := by decide +kernel
theorem dX10_dam_70 : decode cX10_dam 70 = .ok (.aload_n 0, 1) := by decide +kernel
theorem dX10_dam_71 : decode cX10_dam 71 = .ok (.getfield 25, 3) := by decide +kernel
theorem dX10_dam_74 : decode cX10_dam 74 = .ok (.bipush 25, 2) := by decide +kernel
theorem dX10_dam_76 : decode cX10_dam 76 = .ok (.iload 6, 2) := by decide +kernel
theorem dX10_dam_78 : decode cX10_dam 78 = .ok (.iadd, 1) := by decide +kernel
theorem dX10_dam_79 : decode cX10_dam 79 = .ok (.iload_n 1, 1) := by decide +kernel
theorem dX10_dam_80 : decode cX10_dam 80 = .ok (.iastore, 1) := by decide +kernel
theorem dX10_dam_81 : decode cX10_dam 81 = .ok (.aload_n 0, 1) := by decide +kernel
theorem dX10_dam_82 : decode cX10_dam 82 = .ok (.getfield 25, 3) := by decide +kernel
theorem dX10_dam_85 : decode cX10_dam 85 = .ok (.iload_n 2, 1) := by decide +kernel
theorem dX10_dam_86 : decode cX10_dam 86 = .ok (.invokestatic 199, 3) := by decide +kernel
theorem dX10_dam_89 : decode cX10_dam 89 = .ok (.aload_n 0, 1) := by decide +kernel
theorem dX10_dam_90 : decode cX10_dam 90 = .ok (.getfield 25, 3) := by decide +kernel
theorem dX10_dam_93 : decode cX10_dam 93 = .ok (.invokestatic 220, 3) := by decide +kernel
theorem dX10_dam_96 : decode cX10_dam 96 = .ok (.istore 7, 2) := by decide +kernel
theorem dX10_dam_98 : decode cX10_dam 98 = .ok (.iload 7, 2) := by decide +kernel
theorem dX10_dam_100 : decode cX10_dam 100 = .ok (.iload 4, 2) := by decide +kernel
theorem dX10_dam_102 : decode cX10_dam 102 = .ok (.if_icmp .ge 8, 3) := by decide +kernel
theorem dX10_dam_105 : decode cX10_dam 105 = .ok (.iload 6, 2) := by decide +kernel
theorem dX10_dam_107 : decode cX10_dam 107 = .ok (.goto 5, 3) := by decide +kernel
theorem dX10_dam_110 : decode cX10_dam 110 = .ok (.iload 5, 2) := by decide +kernel
theorem dX10_dam_112 : decode cX10_dam 112 = .ok (.istore 5, 2) := by decide +kernel
theorem dX10_dam_114 : decode cX10_dam 114 = .ok (.iload 4, 2) := by decide +kernel
theorem dX10_dam_116 : decode cX10_dam 116 = .ok (.iload 7, 2) := by decide +kernel
theorem dX10_dam_118 : decode cX10_dam 118 = .ok (.invokestatic 145, 3) := by decide +kernel
theorem dX10_dam_121 : decode cX10_dam 121 = .ok (.istore 4, 2) := by decide +kernel
theorem dX10_dam_123 : decode cX10_dam 123 = .ok (.iinc 6 1, 3) := by decide +kernel
theorem dX10_dam_126 : decode cX10_dam 126 = .ok (.goto (-72), 3) := by decide +kernel
theorem dX10_dam_129 : decode cX10_dam 129 = .ok (.iload_n 3, 1) := by decide +kernel
theorem dX10_dam_130 : decode cX10_dam 130 = .ok (.ifCond .ne 8, 3) := by decide +kernel
theorem dX10_dam_133 : decode cX10_dam 133 = .ok (.iload 5, 2) := by decide +kernel
theorem dX10_dam_135 : decode cX10_dam 135 = .ok (.goto 5, 3) := by decide +kernel
theorem dX10_dam_138 : decode cX10_dam 138 = .ok (.iload 4, 2) := by decide +kernel
theorem dX10_dam_140 : decode cX10_dam 140 = .ok (.ireturn, 1) := by decide +kernel
theorem dX10_hold_0 : decode cX10_hold 0 = .ok (.aload_n 0, 1) := by decide +kernel
theorem dX10_hold_1 : decode cX10_hold 1 = .ok (.iload_n 1, 1) := by decide +kernel
theorem dX10_hold_2 : decode cX10_hold 2 = .ok (.invokevirtual 183, 3) := by decide +kernel
theorem dX10_hold_5 : decode cX10_hold 5 = .ok (.ifCond .eq 23, 3) := by decide +kernel
theorem dX10_hold_8 : decode cX10_hold 8 = .ok (.aload_n 0, 1) := by decide +kernel
theorem dX10_hold_9 : decode cX10_hold 9 = .ok (.iload_n 2, 1) := by decide +kernel
theorem dX10_hold_10 : decode cX10_hold 10 = .ok (.invokevirtual 183, 3) := by decide +kernel
theorem dX10_hold_13 : decode cX10_hold 13 = .ok (.ifCond .eq 15, 3) := by decide +kernel
theorem dX10_hold_16 : decode cX10_hold 16 = .ok (.iload_n 3, 1) := by decide +kernel
theorem dX10_hold_17 : decode cX10_hold 17 = .ok (.i2l, 1) := by decide +kernel
theorem dX10_hold_18 : decode cX10_hold 18 = .ok (.lconst 1, 1) := by decide +kernel
theorem dX10_hold_19 : decode cX10_hold 19 = .ok (.ldc2_w 230, 3) := by decide +kernel
theorem dX10_hold_22 : decode cX10_hold 22 = .ok (.invokestatic 53, 3) := by decide +kernel
theorem dX10_hold_25 : decode cX10_hold 25 = .ok (.ifCond .ne 6, 3) := by decide +kernel
theorem dX10_hold_28 : decode cX10_hold 28 = .ok (.ldc 70, 2) := by decide +kernel
theorem dX10_hold_30 : decode cX10_hold 30 = .ok (.ireturn, 1) := by decide +kernel
theorem dX10_hold_31 : decode cX10_hold 31 = .ok (.iconst 0, 1) := by decide +kernel
theorem dX10_hold_32 : decode cX10_hold 32 = .ok (.istore 4, 2) := by decide +kernel
theorem dX10_hold_34 : decode cX10_hold 34 = .ok (.iload 4, 2) := by decide +kernel
theorem dX10_hold_36 : decode cX10_hold 36 = .ok (.bipush 10, 2) := by decide +kernel
theorem dX10_hold_38 : decode cX10_hold 38 = .ok (.if_icmp .ge 47, 3) := by decide +kernel
theorem dX10_hold_41 : decode cX10_hold 41 = .ok (.aload_n 0, 1) := by decide +kernel
theorem dX10_hold_42 : decode cX10_hold 42 = .ok (.iconst 0, 1) := by decide +kernel
theorem dX10_hold_43 : decode cX10_hold 43 = .ok (.invokevirtual 205, 3) := by decide +kernel
theorem dX10_hold_46 : decode cX10_hold 46 = .ok (.aload_n 0, 1) := by decide +kernel
theorem dX10_hold_47 : decode cX10_hold 47 = .ok (.getfield 25, 3) := by decide +kernel
theorem dX10_hold_50 : decode cX10_hold 50 = .ok (.bipush 25, 2) := by decide +kernel
theorem dX10_hold_52 : decode cX10_hold 52 = .ok (.iload_n 2, 1) := by decide +kernel
theorem dX10_hold_53 : decode cX10_hold 53 = .ok (.iadd, 1) := by decide +kernel
theorem dX10_hold_54 : decode cX10_hold 54 = .ok (.iload 4, 2) := by decide +kernel
theorem dX10_hold_56 : decode cX10_hold 56 = .ok (.iastore, 1) := by decide +kernel
theorem dX10_hold_57 : decode cX10_hold 57 = .ok (.aload_n 0, 1) := by decide +kernel
theorem dX10_hold_58 : decode cX10_hold 58 = .ok (.getfield 25, 3) := by decide +kernel
theorem dX10_hold_61 : decode cX10_hold 61 = .ok (.iload_n 3, 1) := by decide +kernel
theorem dX10_hold_62 : decode cX10_hold 62 = .ok (.invokestatic 199, 3) := by decide +kernel
theorem dX10_hold_65 : decode cX10_hold 65 = .ok (.aload_n 0, 1) := by decide +kernel
theorem dX10_hold_66 : decode cX10_hold 66 = .ok (.getfield 25, 3) := by decide +kernel
theorem dX10_hold_69 : decode cX10_hold 69 = .ok (.iload_n 1, 1) := by decide +kernel
theorem dX10_hold_70 : decode cX10_hold 70 = .ok (.invokestatic 149, 3) := by decide +kernel
theorem dX10_hold_73 : decode cX10_hold 73 = .ok (.ifCond .ne 6, 3) := by decide +kernel
theorem dX10_hold_76 : decode cX10_hold 76 = .ok (.iload 4, 2) := by decide +kernel
theorem dX10_hold_78 : decode cX10_hold 78 = .ok (.ireturn, 1) := by decide +kernel
theorem dX10_hold_79 : decode cX10_hold 79 = .ok (.iinc 4 1, 3) := by decide +kernel
theorem dX10_hold_82 : decode cX10_hold 82 = .ok (.goto (-48), 3) := by decide +kernel
theorem dX10_hold_85 : decode cX10_hold 85 = .ok (.ldc 216, 2) := by decide +kernel
theorem dX10_hold_87 : decode cX10_hold 87 = .ok (.ireturn, 1) := by decide +kernel
theorem dX10_spare_0 : decode cX10_spare 0 = .ok (.aload_n 0, 1) := by decide +kernel
theorem dX10_spare_1 : decode cX10_spare 1 = .ok (.invokevirtual 175, 3) := by decide +kernel
theorem dX10_spare_4 : decode cX10_spare 4 = .ok (.ifCond .ne 6, 3) := by decide +kernel
theorem dX10_spare_7 : decode cX10_spare 7 = .ok (.ldc 174, 2) := by decide +kernel
theorem dX10_spare_9 : decode cX10_spare 9 = .ok (.ireturn, 1) := by decide +kernel
theorem dX10_spare_10 : decode cX10_spare 10 = .ok (.iload_n 1, 1) := by decide +kernel
theorem dX10_spare_11 : decode cX10_spare 11 = .ok (.i2l, 1) := by decide +kernel
theorem dX10_spare_12 : decode cX10_spare 12 = .ok (.lconst 1, 1) := by decide +kernel
theorem dX10_spare_13 : decode cX10_spare 13 = .ok (.ldc2_w 230, 3) := by decide +kernel
theorem dX10_spare_16 : decode cX10_spare 16 = .ok (.invokestatic 53, 3) := by decide +kernel
theorem dX10_spare_19 : decode cX10_spare 19 = .ok (.ifCond .ne 6, 3) := by decide +kernel
theorem dX10_spare_22 : decode cX10_spare 22 = .ok (.ldc 70, 2) := by decide +kernel
theorem dX10_spare_24 : decode cX10_spare 24 = .ok (.ireturn, 1) := by decide +kernel
theorem dX10_spare_25 : decode cX10_spare 25 = .ok (.bipush 20, 2) := by decide +kernel
theorem dX10_spare_27 : decode cX10_spare 27 = .ok (.istore_n 2, 1) := by decide +kernel
theorem dX10_spare_28 : decode cX10_spare 28 = .ok (.iload_n 2, 1) := by decide +kernel
theorem dX10_spare_29 : decode cX10_spare 29 = .ok (.ifCond .lt 50, 3) := by decide +kernel
theorem dX10_spare_32 : decode cX10_spare 32 = .ok (.aload_n 0, 1) := by decide +kernel
theorem dX10_spare_33 : decode cX10_spare 33 = .ok (.iconst 0, 1) := by decide +kernel
theorem dX10_spare_34 : decode cX10_spare 34 = .ok (.invokevirtual 205, 3) := by decide +kernel
theorem dX10_spare_37 : decode cX10_spare 37 = .ok (.aload_n 0, 1) := by decide +kernel
theorem dX10_spare_38 : decode cX10_spare 38 = .ok (.getfield 25, 3) := by decide +kernel
theorem dX10_spare_41 : decode cX10_spare 41 = .ok (.iconst 2, 1) := by decide +kernel
theorem dX10_spare_42 : decode cX10_spare 42 = .ok (.iload_n 2, 1) := by decide +kernel
theorem dX10_spare_43 : decode cX10_spare 43 = .ok (.iastore, 1) := by decide +kernel
theorem dX10_spare_44 : decode cX10_spare 44 = .ok (.aload_n 0, 1) := by decide +kernel
theorem dX10_spare_45 : decode cX10_spare 45 = .ok (.getfield 25, 3) := by decide +kernel
theorem dX10_spare_48 : decode cX10_spare 48 = .ok (.iload_n 1, 1) := by decide +kernel
theorem dX10_spare_49 : decode cX10_spare 49 = .ok (.invokestatic 199, 3) := by decide +kernel
theorem dX10_spare_52 : decode cX10_spare 52 = .ok (.aload_n 0, 1) := by decide +kernel
theorem dX10_spare_53 : decode cX10_spare 53 = .ok (.getfield 25, 3) := by decide +kernel
theorem dX10_spare_56 : decode cX10_spare 56 = .ok (.iconst 2, 1) := by decide +kernel
theorem dX10_spare_57 : decode cX10_spare 57 = .ok (.invokestatic 168, 3) := by decide +kernel
theorem dX10_spare_60 : decode cX10_spare 60 = .ok (.aload_n 0, 1) := by decide +kernel
theorem dX10_spare_61 : decode cX10_spare 61 = .ok (.getfield 19, 3) := by decide +kernel
theorem dX10_spare_64 : decode cX10_spare 64 = .ok (.iconst 2, 1) := by decide +kernel
theorem dX10_spare_65 : decode cX10_spare 65 = .ok (.invokestatic 168, 3) := by decide +kernel
theorem dX10_spare_68 : decode cX10_spare 68 = .ok (.if_icmp .ne 5, 3) := by decide +kernel
theorem dX10_spare_71 : decode cX10_spare 71 = .ok (.iload_n 2, 1) := by decide +kernel
theorem dX10_spare_72 : decode cX10_spare 72 = .ok (.ireturn, 1) := by decide +kernel
theorem dX10_spare_73 : decode cX10_spare 73 = .ok (.iinc 2 (-1), 3) := by decide +kernel
theorem dX10_spare_76 : decode cX10_spare 76 = .ok (.goto (-48), 3) := by decide +kernel
theorem dX10_spare_79 : decode cX10_spare 79 = .ok (.ldc 216, 2) := by decide +kernel
theorem dX10_spare_81 : decode cX10_spare 81 = .ok (.ireturn, 1) := by decide +kernel
theorem dX10_highOf_0 : decode cX10_highOf 0 = .ok (.iconst 0, 1) := by decide +kernel
theorem dX10_highOf_1 : decode cX10_highOf 1 = .ok (.istore_n 2, 1) := by decide +kernel
theorem dX10_highOf_2 : decode cX10_highOf 2 = .ok (.iconst 0, 1) := by decide +kernel
theorem dX10_highOf_3 : decode cX10_highOf 3 = .ok (.istore_n 3, 1) := by decide +kernel
theorem dX10_highOf_4 : decode cX10_highOf 4 = .ok (.iload_n 3, 1) := by decide +kernel
theorem dX10_highOf_5 : decode cX10_highOf 5 = .ok (.aload_n 0, 1) := by decide +kernel
theorem dX10_highOf_6 : decode cX10_highOf 6 = .ok (.getfield 19, 3) := by decide +kernel
theorem dX10_highOf_9 : decode cX10_highOf 9 = .ok (.iconst 1, 1) := by decide +kernel
theorem dX10_highOf_10 : decode cX10_highOf 10 = .ok (.iaload, 1) := by decide +kernel
theorem dX10_highOf_11 : decode cX10_highOf 11 = .ok (.if_icmp .ge 33, 3) := by decide +kernel
theorem dX10_highOf_14 : decode cX10_highOf 14 = .ok (.iload_n 2, 1) := by decide +kernel
theorem dX10_highOf_15 : decode cX10_highOf 15 = .ok (.iload_n 1, 1) := by decide +kernel
theorem dX10_highOf_16 : decode cX10_highOf 16 = .ok (.iload_n 3, 1) := by decide +kernel
theorem dX10_highOf_17 : decode cX10_highOf 17 = .ok (.invokestatic 232, 3) := by decide +kernel
theorem dX10_highOf_20 : decode cX10_highOf 20 = .ok (.ifCond .eq 15, 3) := by decide +kernel
theorem dX10_highOf_23 : decode cX10_highOf 23 = .ok (.aload_n 0, 1) := by decide +kernel
theorem dX10_highOf_24 : decode cX10_highOf 24 = .ok (.getfield 19, 3) := by decide +kernel
theorem dX10_highOf_27 : decode cX10_highOf 27 = .ok (.bipush 41, 2) := by decide +kernel
theorem dX10_highOf_29 : decode cX10_highOf 29 = .ok (.iload_n 3, 1) := by decide +kernel
theorem dX10_highOf_30 : decode cX10_highOf 30 = .ok (.iadd, 1) := by decide +kernel
theorem dX10_highOf_31 : decode cX10_highOf 31 = .ok (.iaload, 1) := by decide +kernel
theorem dX10_highOf_32 : decode cX10_highOf 32 = .ok (.goto 4, 3) := by decide +kernel
theorem dX10_highOf_35 : decode cX10_highOf 35 = .ok (.iconst 0, 1) := by decide +kernel
theorem dX10_highOf_36 : decode cX10_highOf 36 = .ok (.iadd, 1) := by decide +kernel
theorem dX10_highOf_37 : decode cX10_highOf 37 = .ok (.istore_n 2, 1) := by decide +kernel
theorem dX10_highOf_38 : decode cX10_highOf 38 = .ok (.iinc 3 1, 3) := by decide +kernel
theorem dX10_highOf_41 : decode cX10_highOf 41 = .ok (.goto (-37), 3) := by decide +kernel
theorem dX10_highOf_44 : decode cX10_highOf 44 = .ok (.iload_n 2, 1) := by decide +kernel
theorem dX10_highOf_45 : decode cX10_highOf 45 = .ok (.ireturn, 1) := by decide +kernel
theorem dX10_sets_0 : decode cX10_sets 0 = .ok (.aload_n 0, 1) := by decide +kernel
theorem dX10_sets_1 : decode cX10_sets 1 = .ok (.invokevirtual 175, 3) := by decide +kernel
theorem dX10_sets_4 : decode cX10_sets 4 = .ok (.ifCond .ne 6, 3) := by decide +kernel
theorem dX10_sets_7 : decode cX10_sets 7 = .ok (.ldc 174, 2) := by decide +kernel
theorem dX10_sets_9 : decode cX10_sets 9 = .ok (.ireturn, 1) := by decide +kernel
theorem dX10_sets_10 : decode cX10_sets 10 = .ok (.iload_n 1, 1) := by decide +kernel
theorem dX10_sets_11 : decode cX10_sets 11 = .ok (.i2l, 1) := by decide +kernel
theorem dX10_sets_12 : decode cX10_sets 12 = .ok (.lconst 0, 1) := by decide +kernel
theorem dX10_sets_13 : decode cX10_sets 13 = .ok (.ldc2_w 235, 3) := by decide +kernel
theorem dX10_sets_16 : decode cX10_sets 16 = .ok (.invokestatic 53, 3) := by decide +kernel
theorem dX10_sets_19 : decode cX10_sets 19 = .ok (.ifCond .eq 15, 3) := by decide +kernel
theorem dX10_sets_22 : decode cX10_sets 22 = .ok (.iload_n 2, 1) := by decide +kernel
theorem dX10_sets_23 : decode cX10_sets 23 = .ok (.i2l, 1) := by decide +kernel
theorem dX10_sets_24 : decode cX10_sets 24 = .ok (.lconst 0, 1) := by decide +kernel
theorem dX10_sets_25 : decode cX10_sets 25 = .ok (.ldc2_w 68, 3) := by decide +kernel
theorem dX10_sets_28 : decode cX10_sets 28 = .ok (.invokestatic 53, 3) := by decide +kernel
theorem dX10_sets_31 : decode cX10_sets 31 = .ok (.ifCond .ne 6, 3) := by decide +kernel
theorem dX10_sets_34 : decode cX10_sets 34 = .ok (.ldc 70, 2) := by decide +kernel
theorem dX10_sets_36 : decode cX10_sets 36 = .ok (.ireturn, 1) := by decide +kernel
theorem dX10_sets_37 : decode cX10_sets 37 = .ok (.aload_n 0, 1) := by decide +kernel
theorem dX10_sets_38 : decode cX10_sets 38 = .ok (.getfield 19, 3) := by decide +kernel
theorem dX10_sets_41 : decode cX10_sets 41 = .ok (.iconst 0, 1) := by decide +kernel
theorem dX10_sets_42 : decode cX10_sets 42 = .ok (.invokestatic 168, 3) := by decide +kernel
theorem dX10_sets_45 : decode cX10_sets 45 = .ok (.istore_n 3, 1) := by decide +kernel
theorem dX10_sets_46 : decode cX10_sets 46 = .ok (.iconst 0, 1) := by decide +kernel
theorem dX10_sets_47 : decode cX10_sets 47 = .ok (.istore 4, 2) := by decide +kernel
theorem dX10_sets_49 : decode cX10_sets 49 = .ok (.iload_n 3, 1) := by decide +kernel
theorem dX10_sets_50 : decode cX10_sets 50 = .ok (.istore 5, 2) := by decide +kernel
theorem dX10_sets_52 : decode cX10_sets 52 = .ok (.iconst 0, 1) := by decide +kernel
theorem dX10_sets_53 : decode cX10_sets 53 = .ok (.istore 6, 2) := by decide +kernel
theorem dX10_sets_55 : decode cX10_sets 55 = .ok (.iconst 0, 1) := by decide +kernel
theorem dX10_sets_56 : decode cX10_sets 56 = .ok (.istore 7, 2) := by decide +kernel
theorem dX10_sets_58 : decode cX10_sets 58 = .ok (.iload 7, 2) := by decide +kernel
theorem dX10_sets_60 : decode cX10_sets 60 = .ok (.bipush 64, 2) := by decide +kernel
theorem dX10_sets_62 : decode cX10_sets 62 = .ok (.if_icmp .ge 45, 3) := by decide +kernel
theorem dX10_sets_65 : decode cX10_sets 65 = .ok (.iload 7, 2) := by decide +kernel
theorem dX10_sets_67 : decode cX10_sets 67 = .ok (.iload_n 3, 1) := by decide +kernel
theorem dX10_sets_68 : decode cX10_sets 68 = .ok (.iconst (-1), 1) := by decide +kernel
theorem dX10_sets_69 : decode cX10_sets 69 = .ok (.ixor, 1) := by decide +kernel
theorem dX10_sets_70 : decode cX10_sets 70 = .ok (.iand, 1) := by decide +kernel
theorem dX10_sets_71 : decode cX10_sets 71 = .ok (.ifCond .ne 30, 3) := by decide +kernel
theorem dX10_sets_74 : decode cX10_sets 74 = .ok (.aload_n 0, 1) := by decide +kernel
theorem dX10_sets_75 : decode cX10_sets 75 = .ok (.iload 7, 2) := by decide +kernel
theorem dX10_sets_77 : decode cX10_sets 77 = .ok (.invokevirtual 237, 3) := by decide +kernel
theorem dX10_sets_80 : decode cX10_sets 80 = .ok (.iload_n 1, 1) := by decide +kernel
theorem dX10_sets_81 : decode cX10_sets 81 = .ok (.if_icmp .ne 20, 3) := by decide +kernel
theorem dX10_sets_84 : decode cX10_sets 84 = .ok (.iinc 4 1, 3) := by decide +kernel
theorem dX10_sets_87 : decode cX10_sets 87 = .ok (.iload 5, 2) := by decide +kernel
theorem dX10_sets_89 : decode cX10_sets 89 = .ok (.iload 7, 2) := by decide +kernel
theorem dX10_sets_91 : decode cX10_sets 91 = .ok (.iand, 1) := by decide +kernel
theorem dX10_sets_92 : decode cX10_sets 92 = .ok (.istore 5, 2) := by decide +kernel
theorem dX10_sets_94 : decode cX10_sets 94 = .ok (.iload 6, 2) := by decide +kernel
theorem dX10_sets_96 : decode cX10_sets 96 = .ok (.iload 7, 2) := by decide +kernel
theorem dX10_sets_98 : decode cX10_sets 98 = .ok (.ior, 1) := by decide +kernel
theorem dX10_sets_99 : decode cX10_sets 99 = .ok (.istore 6, 2) := by decide +kernel
theorem dX10_sets_101 : decode cX10_sets 101 = .ok (.iinc 7 1, 3) := by decide +kernel
theorem dX10_sets_104 : decode cX10_sets 104 = .ok (.goto (-46), 3) := by decide +kernel
theorem dX10_sets_107 : decode cX10_sets 107 = .ok (.iload_n 2, 1) := by decide +kernel
theorem dX10_sets_108 : decode cX10_sets 108 = .ok (.ifCond .ne 8, 3) := by decide +kernel
theorem dX10_sets_111 : decode cX10_sets 111 = .ok (.iload 4, 2) := by decide +kernel
theorem dX10_sets_113 : decode cX10_sets 113 = .ok (.goto 24, 3) := by decide +kernel
theorem dX10_sets_116 : decode cX10_sets 116 = .ok (.iload_n 2, 1) := by decide +kernel
theorem dX10_sets_117 : decode cX10_sets 117 = .ok (.iconst 2, 1) := by decide +kernel
theorem dX10_sets_118 : decode cX10_sets 118 = .ok (.if_icmp .ne 8, 3) := by decide +kernel
theorem dX10_sets_121 : decode cX10_sets 121 = .ok (.iload 6, 2) := by decide +kernel
theorem dX10_sets_123 : decode cX10_sets 123 = .ok (.goto 14, 3) := by decide +kernel
theorem dX10_sets_126 : decode cX10_sets 126 = .ok (.iload 4, 2) := by decide +kernel
theorem dX10_sets_128 : decode cX10_sets 128 = .ok (.ifCond .ne 7, 3) := by decide +kernel
theorem dX10_sets_131 : decode cX10_sets 131 = .ok (.iconst 0, 1) := by decide +kernel
theorem dX10_sets_132 : decode cX10_sets 132 = .ok (.goto 5, 3) := by decide +kernel
theorem dX10_sets_135 : decode cX10_sets 135 = .ok (.iload 5, 2) := by decide +kernel
theorem dX10_sets_137 : decode cX10_sets 137 = .ok (.ireturn, 1) := by decide +kernel
theorem dX10_share_0 : decode cX10_share 0 = .ok (.aload_n 0, 1) := by decide +kernel
theorem dX10_share_1 : decode cX10_share 1 = .ok (.iload_n 1, 1) := by decide +kernel
theorem dX10_share_2 : decode cX10_share 2 = .ok (.invokevirtual 188, 3) := by decide +kernel
theorem dX10_share_5 : decode cX10_share 5 = .ok (.ifCond .eq 15, 3) := by decide +kernel
theorem dX10_share_8 : decode cX10_share 8 = .ok (.iload_n 2, 1) := by decide +kernel
theorem dX10_share_9 : decode cX10_share 9 = .ok (.i2l, 1) := by decide +kernel
theorem dX10_share_10 : decode cX10_share 10 = .ok (.lconst 0, 1) := by decide +kernel
theorem dX10_share_11 : decode cX10_share 11 = .ok (.ldc2_w 240, 3) := by decide +kernel
theorem dX10_share_14 : decode cX10_share 14 = .ok (.invokestatic 53, 3) := by decide +kernel
theorem dX10_share_17 : decode cX10_share 17 = .ok (.ifCond .ne 6, 3) := by decide +kernel
theorem dX10_share_20 : decode cX10_share 20 = .ok (.ldc 70, 2) := by decide +kernel
theorem dX10_share_22 : decode cX10_share 22 = .ok (.ireturn, 1) := by decide +kernel
theorem dX10_share_23 : decode cX10_share 23 = .ok (.aload_n 0, 1) := by decide +kernel
theorem dX10_share_24 : decode cX10_share 24 = .ok (.getfield 19, 3) := by decide +kernel
theorem dX10_share_27 : decode cX10_share 27 = .ok (.bipush 53, 2) := by decide +kernel
theorem dX10_share_29 : decode cX10_share 29 = .ok (.iload_n 1, 1) := by decide +kernel
theorem dX10_share_30 : decode cX10_share 30 = .ok (.iadd, 1) := by decide +kernel
theorem dX10_share_31 : decode cX10_share 31 = .ok (.iaload, 1) := by decide +kernel
theorem dX10_share_32 : decode cX10_share 32 = .ok (.iconst 1, 1) := by decide +kernel
theorem dX10_share_33 : decode cX10_share 33 = .ok (.if_icmp .eq 5, 3) := by decide +kernel
theorem dX10_share_36 : decode cX10_share 36 = .ok (.iconst 0, 1) := by decide +kernel
theorem dX10_share_37 : decode cX10_share 37 = .ok (.ireturn, 1) := by decide +kernel
theorem dX10_share_38 : decode cX10_share 38 = .ok (.aload_n 0, 1) := by decide +kernel
theorem dX10_share_39 : decode cX10_share 39 = .ok (.getfield 19, 3) := by decide +kernel
theorem dX10_share_42 : decode cX10_share 42 = .ok (.iconst 1, 1) := by decide +kernel
theorem dX10_share_43 : decode cX10_share 43 = .ok (.invokestatic 168, 3) := by decide +kernel
theorem dX10_share_46 : decode cX10_share 46 = .ok (.istore_n 3, 1) := by decide +kernel
theorem dX10_share_47 : decode cX10_share 47 = .ok (.aload_n 0, 1) := by decide +kernel
theorem dX10_share_48 : decode cX10_share 48 = .ok (.iload_n 3, 1) := by decide +kernel
theorem dX10_share_49 : decode cX10_share 49 = .ok (.invokevirtual 237, 3) := by decide +kernel
theorem dX10_share_52 : decode cX10_share 52 = .ok (.istore 4, 2) := by decide +kernel
theorem dX10_share_54 : decode cX10_share 54 = .ok (.iload_n 2, 1) := by decide +kernel
theorem dX10_share_55 : decode cX10_share 55 = .ok (.istore 5, 2) := by decide +kernel
theorem dX10_share_57 : decode cX10_share 57 = .ok (.iconst 0, 1) := by decide +kernel
theorem dX10_share_58 : decode cX10_share 58 = .ok (.istore 6, 2) := by decide +kernel
theorem dX10_share_60 : decode cX10_share 60 = .ok (.iconst 0, 1) := by decide +kernel
theorem dX10_share_61 : decode cX10_share 61 = .ok (.istore 7, 2) := by decide +kernel
theorem dX10_share_63 : decode cX10_share 63 = .ok (.iload 7, 2) := by decide +kernel
theorem dX10_share_65 : decode cX10_share 65 = .ok (.aload_n 0, 1) := by decide +kernel
theorem dX10_share_66 : decode cX10_share 66 = .ok (.getfield 19, 3) := by decide +kernel
theorem dX10_share_69 : decode cX10_share 69 = .ok (.iconst 1, 1) := by decide +kernel
theorem dX10_share_70 : decode cX10_share 70 = .ok (.iaload, 1) := by decide +kernel
theorem dX10_share_71 : decode cX10_share 71 = .ok (.if_icmp .ge 67, 3) := by decide +kernel
theorem dX10_share_74 : decode cX10_share 74 = .ok (.iload 5, 2) := by decide +kernel
theorem dX10_share_76 : decode cX10_share 76 = .ok (.iload_n 3, 1) := by decide +kernel
theorem dX10_share_77 : decode cX10_share 77 = .ok (.iload 7, 2) := by decide +kernel
theorem dX10_share_79 : decode cX10_share 79 = .ok (.invokestatic 232, 3) := by decide +kernel
theorem dX10_share_82 : decode cX10_share 82 = .ok (.ifCond .eq 21, 3) := by decide +kernel
theorem dX10_share_85 : decode cX10_share 85 = .ok (.iload_n 2, 1) := by decide +kernel
theorem dX10_share_86 : decode cX10_share 86 = .ok (.aload_n 0, 1) := by decide +kernel
theorem dX10_share_87 : decode cX10_share 87 = .ok (.getfield 19, 3) := by decide +kernel
theorem dX10_share_90 : decode cX10_share 90 = .ok (.bipush 41, 2) := by decide +kernel
theorem dX10_share_92 : decode cX10_share 92 = .ok (.iload 7, 2) := by decide +kernel
theorem dX10_share_94 : decode cX10_share 94 = .ok (.iadd, 1) := by decide +kernel
theorem dX10_share_95 : decode cX10_share 95 = .ok (.iaload, 1) := by decide +kernel
theorem dX10_share_96 : decode cX10_share 96 = .ok (.imul, 1) := by decide +kernel
theorem dX10_share_97 : decode cX10_share 97 = .ok (.iload 4, 2) := by decide +kernel
theorem dX10_share_99 : decode cX10_share 99 = .ok (.idiv, 1) := by decide +kernel
theorem dX10_share_100 : decode cX10_share 100 = .ok (.goto 4, 3) := by decide +kernel
theorem dX10_share_103 : decode cX10_share 103 = .ok (.iconst 0, 1) := by decide +kernel
theorem dX10_share_104 : decode cX10_share 104 = .ok (.isub, 1) := by decide +kernel
theorem dX10_share_105 : decode cX10_share 105 = .ok (.istore 5, 2) := by decide +kernel
theorem dX10_share_107 : decode cX10_share 107 = .ok (.iload 6, 2) := by decide +kernel
theorem dX10_share_109 : decode cX10_share 109 = .ok (.iload_n 3, 1) := by decide +kernel
theorem dX10_share_110 : decode cX10_share 110 = .ok (.iload 7, 2) := by decide +kernel
theorem dX10_share_112 : decode cX10_share 112 = .ok (.invokestatic 232, 3) := by decide +kernel
theorem dX10_share_115 : decode cX10_share 115 = .ok (.ifCond .eq 13, 3) := by decide +kernel
theorem dX10_share_118 : decode cX10_share 118 = .ok (.iload 7, 2) := by decide +kernel
theorem dX10_share_120 : decode cX10_share 120 = .ok (.iload_n 1, 1) := by decide +kernel
theorem dX10_share_121 : decode cX10_share 121 = .ok (.if_icmp .ge 7, 3) := by decide +kernel
theorem dX10_share_124 : decode cX10_share 124 = .ok (.iconst 1, 1) := by decide +kernel
theorem dX10_share_125 : decode cX10_share 125 = .ok (.goto 4, 3) := by decide +kernel
theorem dX10_share_128 : decode cX10_share 128 = .ok (.iconst 0, 1) := by decide +kernel
theorem dX10_share_129 : decode cX10_share 129 = .ok (.iadd, 1) := by decide +kernel
theorem dX10_share_130 : decode cX10_share 130 = .ok (.istore 6, 2) := by decide +kernel
theorem dX10_share_132 : decode cX10_share 132 = .ok (.iinc 7 1, 3) := by decide +kernel
theorem dX10_share_135 : decode cX10_share 135 = .ok (.goto (-72), 3) := by decide +kernel
theorem dX10_share_138 : decode cX10_share 138 = .ok (.iload_n 2, 1) := by decide +kernel
theorem dX10_share_139 : decode cX10_share 139 = .ok (.aload_n 0, 1) := by decide +kernel
theorem dX10_share_140 : decode cX10_share 140 = .ok (.getfield 19, 3) := by decide +kernel
theorem dX10_share_143 : decode cX10_share 143 = .ok (.bipush 41, 2) := by decide +kernel
theorem dX10_share_145 : decode cX10_share 145 = .ok (.iload_n 1, 1) := by decide +kernel
theorem dX10_share_146 : decode cX10_share 146 = .ok (.iadd, 1) := by decide +kernel
theorem dX10_share_147 : decode cX10_share 147 = .ok (.iaload, 1) := by decide +kernel
theorem dX10_share_148 : decode cX10_share 148 = .ok (.imul, 1) := by decide +kernel
theorem dX10_share_149 : decode cX10_share 149 = .ok (.iload 4, 2) := by decide +kernel
theorem dX10_share_151 : decode cX10_share 151 = .ok (.idiv, 1) := by decide +kernel
theorem dX10_share_152 : decode cX10_share 152 = .ok (.iload 6, 2) := by decide +kernel
theorem dX10_share_154 : decode cX10_share 154 = .ok (.iload 5, 2) := by decide +kernel
theorem dX10_share_156 : decode cX10_share 156 = .ok (.if_icmp .ge 7, 3) := by decide +kernel
theorem dX10_share_159 : decode cX10_share 159 = .ok (.iconst 1, 1) := by decide +kernel
theorem dX10_share_160 : decode cX10_share 160 = .ok (.goto 4, 3) := by decide +kernel
theorem dX10_share_163 : decode cX10_share 163 = .ok (.iconst 0, 1) := by decide +kernel
theorem dX10_share_164 : decode cX10_share 164 = .ok (.iadd, 1) := by decide +kernel
theorem dX10_share_165 : decode cX10_share 165 = .ok (.ireturn, 1) := by decide +kernel
theorem dX10_chooses_0 : decode cX10_chooses 0 = .ok (.bipush 59, 2) := by decide +kernel
theorem dX10_chooses_2 : decode cX10_chooses 2 = .ok (.iload_n 1, 1) := by decide +kernel
theorem dX10_chooses_3 : decode cX10_chooses 3 = .ok (.imul, 1) := by decide +kernel
theorem dX10_chooses_4 : decode cX10_chooses 4 = .ok (.istore_n 3, 1) := by decide +kernel
theorem dX10_chooses_5 : decode cX10_chooses 5 = .ok (.iload_n 3, 1) := by decide +kernel
theorem dX10_chooses_6 : decode cX10_chooses 6 = .ok (.bipush 59, 2) := by decide +kernel
theorem dX10_chooses_8 : decode cX10_chooses 8 = .ok (.iadd, 1) := by decide +kernel
theorem dX10_chooses_9 : decode cX10_chooses 9 = .ok (.istore 4, 2) := by decide +kernel
theorem dX10_chooses_11 : decode cX10_chooses 11 = .ok (.aload_n 0, 1) := by decide +kernel
theorem dX10_chooses_12 : decode cX10_chooses 12 = .ok (.getfield 44, 3) := by decide +kernel
theorem dX10_chooses_15 : decode cX10_chooses 15 = .ok (.iload_n 3, 1) := by decide +kernel
theorem dX10_chooses_16 : decode cX10_chooses 16 = .ok (.aload_n 0, 1) := by decide +kernel
theorem dX10_chooses_17 : decode cX10_chooses 17 = .ok (.getfield 44, 3) := by decide +kernel
theorem dX10_chooses_20 : decode cX10_chooses 20 = .ok (.iload 4, 2) := by decide +kernel
theorem dX10_chooses_22 : decode cX10_chooses 22 = .ok (.invokestatic 138, 3) := by decide +kernel
theorem dX10_chooses_25 : decode cX10_chooses 25 = .ok (.iload_n 1, 1) := by decide +kernel
theorem dX10_chooses_26 : decode cX10_chooses 26 = .ok (.iconst 2, 1) := by decide +kernel
theorem dX10_chooses_27 : decode cX10_chooses 27 = .ok (.irem, 1) := by decide +kernel
theorem dX10_chooses_28 : decode cX10_chooses 28 = .ok (.iconst 1, 1) := by decide +kernel
theorem dX10_chooses_29 : decode cX10_chooses 29 = .ok (.if_icmp .ne 55, 3) := by decide +kernel
theorem dX10_chooses_32 : decode cX10_chooses 32 = .ok (.aload_n 0, 1) := by decide +kernel
theorem dX10_chooses_33 : decode cX10_chooses 33 = .ok (.getfield 44, 3) := by decide +kernel
theorem dX10_chooses_36 : decode cX10_chooses 36 = .ok (.iload 4, 2) := by decide +kernel
theorem dX10_chooses_38 : decode cX10_chooses 38 = .ok (.iconst 2, 1) := by decide +kernel
theorem dX10_chooses_39 : decode cX10_chooses 39 = .ok (.iadd, 1) := by decide +kernel
theorem dX10_chooses_40 : decode cX10_chooses 40 = .ok (.iload_n 2, 1) := by decide +kernel
theorem dX10_chooses_41 : decode cX10_chooses 41 = .ok (.ifCond .ne 15, 3) := by decide +kernel
theorem dX10_chooses_44 : decode cX10_chooses 44 = .ok (.aload_n 0, 1) := by decide +kernel
theorem dX10_chooses_45 : decode cX10_chooses 45 = .ok (.getfield 44, 3) := by decide +kernel
theorem dX10_chooses_48 : decode cX10_chooses 48 = .ok (.iload 4, 2) := by decide +kernel
theorem dX10_chooses_50 : decode cX10_chooses 50 = .ok (.iconst 2, 1) := by decide +kernel
theorem dX10_chooses_51 : decode cX10_chooses 51 = .ok (.iadd, 1) := by decide +kernel
theorem dX10_chooses_52 : decode cX10_chooses 52 = .ok (.iaload, 1) := by decide +kernel
theorem dX10_chooses_53 : decode cX10_chooses 53 = .ok (.goto 19, 3) := by decide +kernel
theorem dX10_chooses_56 : decode cX10_chooses 56 = .ok (.bipush 20, 2) := by decide +kernel
theorem dX10_chooses_58 : decode cX10_chooses 58 = .ok (.aload_n 0, 1) := by decide +kernel
theorem dX10_chooses_59 : decode cX10_chooses 59 = .ok (.getfield 44, 3) := by decide +kernel
theorem dX10_chooses_62 : decode cX10_chooses 62 = .ok (.iload 4, 2) := by decide +kernel
theorem dX10_chooses_64 : decode cX10_chooses 64 = .ok (.iconst 2, 1) := by decide +kernel
theorem dX10_chooses_65 : decode cX10_chooses 65 = .ok (.iadd, 1) := by decide +kernel
theorem dX10_chooses_66 : decode cX10_chooses 66 = .ok (.iaload, 1) := by decide +kernel
theorem dX10_chooses_67 : decode cX10_chooses 67 = .ok (.iconst 3, 1) := by decide +kernel
theorem dX10_chooses_68 : decode cX10_chooses 68 = .ok (.iadd, 1) := by decide +kernel
theorem dX10_chooses_69 : decode cX10_chooses 69 = .ok (.invokestatic 145, 3) := by decide +kernel
theorem dX10_chooses_72 : decode cX10_chooses 72 = .ok (.iastore, 1) := by decide +kernel
theorem dX10_chooses_73 : decode cX10_chooses 73 = .ok (.iload_n 2, 1) := by decide +kernel
theorem dX10_chooses_74 : decode cX10_chooses 74 = .ok (.iconst 2, 1) := by decide +kernel
theorem dX10_chooses_75 : decode cX10_chooses 75 = .ok (.if_icmp .ge 7, 3) := by decide +kernel
theorem dX10_chooses_78 : decode cX10_chooses 78 = .ok (.iconst 1, 1) := by decide +kernel
theorem dX10_chooses_79 : decode cX10_chooses 79 = .ok (.goto 4, 3) := by decide +kernel
theorem dX10_chooses_82 : decode cX10_chooses 82 = .ok (.iconst 0, 1) := by decide +kernel
theorem dX10_chooses_83 : decode cX10_chooses 83 = .ok (.ireturn, 1) := by decide +kernel
theorem dX10_chooses_84 : decode cX10_chooses 84 = .ok (.iload_n 2, 1) := by decide +kernel
theorem dX10_chooses_85 : decode cX10_chooses 85 = .ok (.ifCond .ne 5, 3) := by decide +kernel
theorem dX10_chooses_88 : decode cX10_chooses 88 = .ok (.iconst 1, 1) := by decide +kernel
theorem dX10_chooses_89 : decode cX10_chooses 89 = .ok (.ireturn, 1) := by decide +kernel
theorem dX10_chooses_90 : decode cX10_chooses 90 = .ok (.iload_n 2, 1) := by decide +kernel
theorem dX10_chooses_91 : decode cX10_chooses 91 = .ok (.aload_n 0, 1) := by decide +kernel
theorem dX10_chooses_92 : decode cX10_chooses 92 = .ok (.getfield 19, 3) := by decide +kernel
theorem dX10_chooses_95 : decode cX10_chooses 95 = .ok (.iconst 1, 1) := by decide +kernel
theorem dX10_chooses_96 : decode cX10_chooses 96 = .ok (.iaload, 1) := by decide +kernel
theorem dX10_chooses_97 : decode cX10_chooses 97 = .ok (.if_icmp .gt 20, 3) := by decide +kernel
theorem dX10_chooses_100 : decode cX10_chooses 100 = .ok (.aload_n 0, 1) := by decide +kernel
theorem dX10_chooses_101 : decode cX10_chooses 101 = .ok (.getfield 44, 3) := by decide +kernel
theorem dX10_chooses_104 : decode cX10_chooses 104 = .ok (.iload 4, 2) := by decide +kernel
theorem dX10_chooses_106 : decode cX10_chooses 106 = .ok (.bipush 53, 2) := by decide +kernel
theorem dX10_chooses_108 : decode cX10_chooses 108 = .ok (.iadd, 1) := by decide +kernel
theorem dX10_chooses_109 : decode cX10_chooses 109 = .ok (.iload_n 2, 1) := by decide +kernel
theorem dX10_chooses_110 : decode cX10_chooses 110 = .ok (.iadd, 1) := by decide +kernel
theorem dX10_chooses_111 : decode cX10_chooses 111 = .ok (.iconst 1, 1) := by decide +kernel
theorem dX10_chooses_112 : decode cX10_chooses 112 = .ok (.isub, 1) := by decide +kernel
theorem dX10_chooses_113 : decode cX10_chooses 113 = .ok (.iaload, 1) := by decide +kernel
theorem dX10_chooses_114 : decode cX10_chooses 114 = .ok (.ifCond .eq 5, 3) := by decide +kernel
theorem dX10_chooses_117 : decode cX10_chooses 117 = .ok (.iconst 0, 1) := by decide +kernel
theorem dX10_chooses_118 : decode cX10_chooses 118 = .ok (.ireturn, 1) := by decide +kernel
theorem dX10_chooses_119 : decode cX10_chooses 119 = .ok (.aload_n 0, 1) := by decide +kernel
theorem dX10_chooses_120 : decode cX10_chooses 120 = .ok (.getfield 44, 3) := by decide +kernel
theorem dX10_chooses_123 : decode cX10_chooses 123 = .ok (.iload 4, 2) := by decide +kernel
theorem dX10_chooses_125 : decode cX10_chooses 125 = .ok (.aload_n 0, 1) := by decide +kernel
theorem dX10_chooses_126 : decode cX10_chooses 126 = .ok (.getfield 25, 3) := by decide +kernel
theorem dX10_chooses_129 : decode cX10_chooses 129 = .ok (.iconst 0, 1) := by decide +kernel
theorem dX10_chooses_130 : decode cX10_chooses 130 = .ok (.invokestatic 138, 3) := by decide +kernel
theorem dX10_chooses_133 : decode cX10_chooses 133 = .ok (.aload_n 0, 1) := by decide +kernel
theorem dX10_chooses_134 : decode cX10_chooses 134 = .ok (.getfield 25, 3) := by decide +kernel
theorem dX10_chooses_137 : decode cX10_chooses 137 = .ok (.iload_n 2, 1) := by decide +kernel
theorem dX10_chooses_138 : decode cX10_chooses 138 = .ok (.iconst 1, 1) := by decide +kernel
theorem dX10_chooses_139 : decode cX10_chooses 139 = .ok (.isub, 1) := by decide +kernel
theorem dX10_chooses_140 : decode cX10_chooses 140 = .ok (.iconst 1, 1) := by decide +kernel
theorem dX10_chooses_141 : decode cX10_chooses 141 = .ok (.invokestatic 161, 3) := by decide +kernel
theorem dX10_chooses_144 : decode cX10_chooses 144 = .ok (.aload_n 0, 1) := by decide +kernel
theorem dX10_chooses_145 : decode cX10_chooses 145 = .ok (.getfield 25, 3) := by decide +kernel
theorem dX10_chooses_148 : decode cX10_chooses 148 = .ok (.iconst 0, 1) := by decide +kernel
theorem dX10_chooses_149 : decode cX10_chooses 149 = .ok (.aload_n 0, 1) := by decide +kernel
theorem dX10_chooses_150 : decode cX10_chooses 150 = .ok (.getfield 44, 3) := by decide +kernel
theorem dX10_chooses_153 : decode cX10_chooses 153 = .ok (.iload 4, 2) := by decide +kernel
theorem dX10_chooses_155 : decode cX10_chooses 155 = .ok (.invokestatic 138, 3) := by decide +kernel
theorem dX10_chooses_158 : decode cX10_chooses 158 = .ok (.iconst 1, 1) := by decide +kernel
theorem dX10_chooses_159 : decode cX10_chooses 159 = .ok (.ireturn, 1) := by decide +kernel
theorem dX10_endsIn_0 : decode cX10_endsIn 0 = .ok (.aload_n 0, 1) := by decide +kernel
theorem dX10_endsIn_1 : decode cX10_endsIn 1 = .ok (.getfield 44, 3) := by decide +kernel
theorem dX10_endsIn_4 : decode cX10_endsIn 4 = .ok (.bipush 59, 2) := by decide +kernel
theorem dX10_endsIn_6 : decode cX10_endsIn 6 = .ok (.iload_n 1, 1) := by decide +kernel
theorem dX10_endsIn_7 : decode cX10_endsIn 7 = .ok (.imul, 1) := by decide +kernel
theorem dX10_endsIn_8 : decode cX10_endsIn 8 = .ok (.aload_n 0, 1) := by decide +kernel
theorem dX10_endsIn_9 : decode cX10_endsIn 9 = .ok (.getfield 25, 3) := by decide +kernel
theorem dX10_endsIn_12 : decode cX10_endsIn 12 = .ok (.iconst 0, 1) := by decide +kernel
theorem dX10_endsIn_13 : decode cX10_endsIn 13 = .ok (.invokestatic 138, 3) := by decide +kernel
theorem dX10_endsIn_16 : decode cX10_endsIn 16 = .ok (.aload_n 0, 1) := by decide +kernel
theorem dX10_endsIn_17 : decode cX10_endsIn 17 = .ok (.getfield 25, 3) := by decide +kernel
theorem dX10_endsIn_20 : decode cX10_endsIn 20 = .ok (.iload_n 2, 1) := by decide +kernel
theorem dX10_endsIn_21 : decode cX10_endsIn 21 = .ok (.invokestatic 199, 3) := by decide +kernel
theorem dX10_endsIn_24 : decode cX10_endsIn 24 = .ok (.aload_n 0, 1) := by decide +kernel
theorem dX10_endsIn_25 : decode cX10_endsIn 25 = .ok (.getfield 25, 3) := by decide +kernel
theorem dX10_endsIn_28 : decode cX10_endsIn 28 = .ok (.invokestatic 220, 3) := by decide +kernel
theorem dX10_endsIn_31 : decode cX10_endsIn 31 = .ok (.ireturn, 1) := by decide +kernel
theorem dX10_byTurns_0 : decode cX10_byTurns 0 = .ok (.aload_n 0, 1) := by decide +kernel
theorem dX10_byTurns_1 : decode cX10_byTurns 1 = .ok (.invokevirtual 175, 3) := by decide +kernel
theorem dX10_byTurns_4 : decode cX10_byTurns 4 = .ok (.ifCond .ne 6, 3) := by decide +kernel
theorem dX10_byTurns_7 : decode cX10_byTurns 7 = .ok (.ldc 174, 2) := by decide +kernel
theorem dX10_byTurns_9 : decode cX10_byTurns 9 = .ok (.ireturn, 1) := by decide +kernel
theorem dX10_byTurns_10 : decode cX10_byTurns 10 = .ok (.iload_n 1, 1) := by decide +kernel
theorem dX10_byTurns_11 : decode cX10_byTurns 11 = .ok (.i2l, 1) := by decide +kernel
theorem dX10_byTurns_12 : decode cX10_byTurns 12 = .ok (.lconst 0, 1) := by decide +kernel
theorem dX10_byTurns_13 : decode cX10_byTurns 13 = .ok (.ldc2_w 224, 3) := by decide +kernel
theorem dX10_byTurns_16 : decode cX10_byTurns 16 = .ok (.invokestatic 53, 3) := by decide +kernel
theorem dX10_byTurns_19 : decode cX10_byTurns 19 = .ok (.ifCond .eq 15, 3) := by decide +kernel
theorem dX10_byTurns_22 : decode cX10_byTurns 22 = .ok (.iload_n 2, 1) := by decide +kernel
theorem dX10_byTurns_23 : decode cX10_byTurns 23 = .ok (.i2l, 1) := by decide +kernel
theorem dX10_byTurns_24 : decode cX10_byTurns 24 = .ok (.lconst 1, 1) := by decide +kernel
theorem dX10_byTurns_25 : decode cX10_byTurns 25 = .ok (.ldc2_w 194, 3) := by decide +kernel
theorem dX10_byTurns_28 : decode cX10_byTurns 28 = .ok (.invokestatic 53, 3) := by decide +kernel
theorem dX10_byTurns_31 : decode cX10_byTurns 31 = .ok (.ifCond .ne 6, 3) := by decide +kernel
theorem dX10_byTurns_34 : decode cX10_byTurns 34 = .ok (.ldc 70, 2) := by decide +kernel
theorem dX10_byTurns_36 : decode cX10_byTurns 36 = .ok (.ireturn, 1) := by decide +kernel
theorem dX10_byTurns_37 : decode cX10_byTurns 37 = .ok (.aload_n 0, 1) := by decide +kernel
theorem dX10_byTurns_38 : decode cX10_byTurns 38 = .ok (.getfield 19, 3) := by decide +kernel
theorem dX10_byTurns_41 : decode cX10_byTurns 41 = .ok (.iconst 0, 1) := by decide +kernel
theorem dX10_byTurns_42 : decode cX10_byTurns 42 = .ok (.aload_n 0, 1) := by decide +kernel
theorem dX10_byTurns_43 : decode cX10_byTurns 43 = .ok (.getfield 44, 3) := by decide +kernel
theorem dX10_byTurns_46 : decode cX10_byTurns 46 = .ok (.iconst 0, 1) := by decide +kernel
theorem dX10_byTurns_47 : decode cX10_byTurns 47 = .ok (.invokestatic 138, 3) := by decide +kernel
theorem dX10_byTurns_50 : decode cX10_byTurns 50 = .ok (.iconst 0, 1) := by decide +kernel
theorem dX10_byTurns_51 : decode cX10_byTurns 51 = .ok (.istore_n 3, 1) := by decide +kernel
theorem dX10_byTurns_52 : decode cX10_byTurns 52 = .ok (.iconst 0, 1) := by decide +kernel
theorem dX10_byTurns_53 : decode cX10_byTurns 53 = .ok (.istore 4, 2) := by decide +kernel
theorem dX10_byTurns_55 : decode cX10_byTurns 55 = .ok (.iload 4, 2) := by decide +kernel
theorem dX10_byTurns_57 : decode cX10_byTurns 57 = .ok (.iconst 5, 1) := by decide +kernel
theorem dX10_byTurns_58 : decode cX10_byTurns 58 = .ok (.if_icmp .ge 37, 3) := by decide +kernel
theorem dX10_byTurns_61 : decode cX10_byTurns 61 = .ok (.aload_n 0, 1) := by decide +kernel
theorem dX10_byTurns_62 : decode cX10_byTurns 62 = .ok (.getfield 47, 3) := by decide +kernel
theorem dX10_byTurns_65 : decode cX10_byTurns 65 = .ok (.iload 4, 2) := by decide +kernel
theorem dX10_byTurns_67 : decode cX10_byTurns 67 = .ok (.iconst 0, 1) := by decide +kernel
theorem dX10_byTurns_68 : decode cX10_byTurns 68 = .ok (.iastore, 1) := by decide +kernel
theorem dX10_byTurns_69 : decode cX10_byTurns 69 = .ok (.aload_n 0, 1) := by decide +kernel
theorem dX10_byTurns_70 : decode cX10_byTurns 70 = .ok (.getfield 50, 3) := by decide +kernel
theorem dX10_byTurns_73 : decode cX10_byTurns 73 = .ok (.iload 4, 2) := by decide +kernel
theorem dX10_byTurns_75 : decode cX10_byTurns 75 = .ok (.iload 4, 2) := by decide +kernel
theorem dX10_byTurns_77 : decode cX10_byTurns 77 = .ok (.iconst 2, 1) := by decide +kernel
theorem dX10_byTurns_78 : decode cX10_byTurns 78 = .ok (.irem, 1) := by decide +kernel
theorem dX10_byTurns_79 : decode cX10_byTurns 79 = .ok (.ifCond .ne 8, 3) := by decide +kernel
theorem dX10_byTurns_82 : decode cX10_byTurns 82 = .ok (.bipush 99, 2) := by decide +kernel
theorem dX10_byTurns_84 : decode cX10_byTurns 84 = .ok (.goto 4, 3) := by decide +kernel
theorem dX10_byTurns_87 : decode cX10_byTurns 87 = .ok (.iconst (-1), 1) := by decide +kernel
theorem dX10_byTurns_88 : decode cX10_byTurns 88 = .ok (.iastore, 1) := by decide +kernel
theorem dX10_byTurns_89 : decode cX10_byTurns 89 = .ok (.iinc 4 1, 3) := by decide +kernel
theorem dX10_byTurns_92 : decode cX10_byTurns 92 = .ok (.goto (-37), 3) := by decide +kernel
theorem dX10_byTurns_95 : decode cX10_byTurns 95 = .ok (.iload_n 3, 1) := by decide +kernel
theorem dX10_byTurns_96 : decode cX10_byTurns 96 = .ok (.ifCond .lt 178, 3) := by decide +kernel
theorem dX10_byTurns_99 : decode cX10_byTurns 99 = .ok (.iload_n 3, 1) := by decide +kernel
theorem dX10_byTurns_100 : decode cX10_byTurns 100 = .ok (.iload_n 1, 1) := by decide +kernel
theorem dX10_byTurns_101 : decode cX10_byTurns 101 = .ok (.if_icmp .ne 7, 3) := by decide +kernel
theorem dX10_byTurns_104 : decode cX10_byTurns 104 = .ok (.iconst 1, 1) := by decide +kernel
theorem dX10_byTurns_105 : decode cX10_byTurns 105 = .ok (.goto 4, 3) := by decide +kernel
theorem dX10_byTurns_108 : decode cX10_byTurns 108 = .ok (.iconst 0, 1) := by decide +kernel
theorem dX10_byTurns_109 : decode cX10_byTurns 109 = .ok (.istore 4, 2) := by decide +kernel
theorem dX10_byTurns_111 : decode cX10_byTurns 111 = .ok (.iload 4, 2) := by decide +kernel
theorem dX10_byTurns_113 : decode cX10_byTurns 113 = .ok (.ifCond .ne 14, 3) := by decide +kernel
theorem dX10_byTurns_116 : decode cX10_byTurns 116 = .ok (.aload_n 0, 1) := by decide +kernel
theorem dX10_byTurns_117 : decode cX10_byTurns 117 = .ok (.getfield 47, 3) := by decide +kernel
theorem dX10_byTurns_120 : decode cX10_byTurns 120 = .ok (.iload_n 3, 1) := by decide +kernel
theorem dX10_byTurns_121 : decode cX10_byTurns 121 = .ok (.iaload, 1) := by decide +kernel
theorem dX10_byTurns_122 : decode cX10_byTurns 122 = .ok (.bipush 6, 2) := by decide +kernel
theorem dX10_byTurns_124 : decode cX10_byTurns 124 = .ok (.if_icmp .le 111, 3) := by decide +kernel
theorem dX10_byTurns_127 : decode cX10_byTurns 127 = .ok (.iload 4, 2) := by decide +kernel
theorem dX10_byTurns_129 : decode cX10_byTurns 129 = .ok (.ifCond .eq 12, 3) := by decide +kernel
theorem dX10_byTurns_132 : decode cX10_byTurns 132 = .ok (.aload_n 0, 1) := by decide +kernel
theorem dX10_byTurns_133 : decode cX10_byTurns 133 = .ok (.iload_n 3, 1) := by decide +kernel
theorem dX10_byTurns_134 : decode cX10_byTurns 134 = .ok (.iload_n 2, 1) := by decide +kernel
theorem dX10_byTurns_135 : decode cX10_byTurns 135 = .ok (.invokevirtual 242, 3) := by decide +kernel
theorem dX10_byTurns_138 : decode cX10_byTurns 138 = .ok (.goto 9, 3) := by decide +kernel
theorem dX10_byTurns_141 : decode cX10_byTurns 141 = .ok (.aload_n 0, 1) := by decide +kernel
theorem dX10_byTurns_142 : decode cX10_byTurns 142 = .ok (.getfield 50, 3) := by decide +kernel
theorem dX10_byTurns_145 : decode cX10_byTurns 145 = .ok (.iload_n 3, 1) := by decide +kernel
theorem dX10_byTurns_146 : decode cX10_byTurns 146 = .ok (.iaload, 1) := by decide +kernel
theorem dX10_byTurns_147 : decode cX10_byTurns 147 = .ok (.istore 5, 2) := by decide +kernel
theorem dX10_byTurns_149 : decode cX10_byTurns 149 = .ok (.iload_n 3, 1) := by decide +kernel
theorem dX10_byTurns_150 : decode cX10_byTurns 150 = .ok (.ifCond .ne 6, 3) := by decide +kernel
theorem dX10_byTurns_153 : decode cX10_byTurns 153 = .ok (.iload 5, 2) := by decide +kernel
theorem dX10_byTurns_155 : decode cX10_byTurns 155 = .ok (.ireturn, 1) := by decide +kernel
theorem dX10_byTurns_156 : decode cX10_byTurns 156 = .ok (.aload_n 0, 1) := by decide +kernel
theorem dX10_byTurns_157 : decode cX10_byTurns 157 = .ok (.getfield 47, 3) := by decide +kernel
theorem dX10_byTurns_160 : decode cX10_byTurns 160 = .ok (.iload_n 3, 1) := by decide +kernel
theorem dX10_byTurns_161 : decode cX10_byTurns 161 = .ok (.iconst 0, 1) := by decide +kernel
theorem dX10_byTurns_162 : decode cX10_byTurns 162 = .ok (.iastore, 1) := by decide +kernel
theorem dX10_byTurns_163 : decode cX10_byTurns 163 = .ok (.aload_n 0, 1) := by decide +kernel
theorem dX10_byTurns_164 : decode cX10_byTurns 164 = .ok (.getfield 50, 3) := by decide +kernel
theorem dX10_byTurns_167 : decode cX10_byTurns 167 = .ok (.iload_n 3, 1) := by decide +kernel
theorem dX10_byTurns_168 : decode cX10_byTurns 168 = .ok (.iload_n 3, 1) := by decide +kernel
theorem dX10_byTurns_169 : decode cX10_byTurns 169 = .ok (.iconst 2, 1) := by decide +kernel
theorem dX10_byTurns_170 : decode cX10_byTurns 170 = .ok (.irem, 1) := by decide +kernel
theorem dX10_byTurns_171 : decode cX10_byTurns 171 = .ok (.ifCond .ne 8, 3) := by decide +kernel
theorem dX10_byTurns_174 : decode cX10_byTurns 174 = .ok (.bipush 99, 2) := by decide +kernel
theorem dX10_byTurns_176 : decode cX10_byTurns 176 = .ok (.goto 4, 3) := by decide +kernel
theorem dX10_byTurns_179 : decode cX10_byTurns 179 = .ok (.iconst (-1), 1) := by decide +kernel
theorem dX10_byTurns_180 : decode cX10_byTurns 180 = .ok (.iastore, 1) := by decide +kernel
theorem dX10_byTurns_181 : decode cX10_byTurns 181 = .ok (.iinc 3 (-1), 3) := by decide +kernel
theorem dX10_byTurns_184 : decode cX10_byTurns 184 = .ok (.aload_n 0, 1) := by decide +kernel
theorem dX10_byTurns_185 : decode cX10_byTurns 185 = .ok (.getfield 50, 3) := by decide +kernel
theorem dX10_byTurns_188 : decode cX10_byTurns 188 = .ok (.iload_n 3, 1) := by decide +kernel
theorem dX10_byTurns_189 : decode cX10_byTurns 189 = .ok (.iload_n 3, 1) := by decide +kernel
theorem dX10_byTurns_190 : decode cX10_byTurns 190 = .ok (.iconst 2, 1) := by decide +kernel
theorem dX10_byTurns_191 : decode cX10_byTurns 191 = .ok (.irem, 1) := by decide +kernel
theorem dX10_byTurns_192 : decode cX10_byTurns 192 = .ok (.ifCond .ne 17, 3) := by decide +kernel
theorem dX10_byTurns_195 : decode cX10_byTurns 195 = .ok (.aload_n 0, 1) := by decide +kernel
theorem dX10_byTurns_196 : decode cX10_byTurns 196 = .ok (.getfield 50, 3) := by decide +kernel
theorem dX10_byTurns_199 : decode cX10_byTurns 199 = .ok (.iload_n 3, 1) := by decide +kernel
theorem dX10_byTurns_200 : decode cX10_byTurns 200 = .ok (.iaload, 1) := by decide +kernel
theorem dX10_byTurns_201 : decode cX10_byTurns 201 = .ok (.iload 5, 2) := by decide +kernel
theorem dX10_byTurns_203 : decode cX10_byTurns 203 = .ok (.invokestatic 145, 3) := by decide +kernel
theorem dX10_byTurns_206 : decode cX10_byTurns 206 = .ok (.goto 25, 3) := by decide +kernel
theorem dX10_byTurns_209 : decode cX10_byTurns 209 = .ok (.iload 5, 2) := by decide +kernel
theorem dX10_byTurns_211 : decode cX10_byTurns 211 = .ok (.aload_n 0, 1) := by decide +kernel
theorem dX10_byTurns_212 : decode cX10_byTurns 212 = .ok (.getfield 50, 3) := by decide +kernel
theorem dX10_byTurns_215 : decode cX10_byTurns 215 = .ok (.iload_n 3, 1) := by decide +kernel
theorem dX10_byTurns_216 : decode cX10_byTurns 216 = .ok (.iaload, 1) := by decide +kernel
theorem dX10_byTurns_217 : decode cX10_byTurns 217 = .ok (.if_icmp .le 8, 3) := by decide +kernel
theorem dX10_byTurns_220 : decode cX10_byTurns 220 = .ok (.iload 5, 2) := by decide +kernel
theorem dX10_byTurns_222 : decode cX10_byTurns 222 = .ok (.goto 9, 3) := by decide +kernel
theorem dX10_byTurns_225 : decode cX10_byTurns 225 = .ok (.aload_n 0, 1) := by decide +kernel
theorem dX10_byTurns_226 : decode cX10_byTurns 226 = .ok (.getfield 50, 3) := by decide +kernel
theorem dX10_byTurns_229 : decode cX10_byTurns 229 = .ok (.iload_n 3, 1) := by decide +kernel
theorem dX10_byTurns_230 : decode cX10_byTurns 230 = .ok (.iaload, 1) := by decide +kernel
theorem dX10_byTurns_231 : decode cX10_byTurns 231 = .ok (.iastore, 1) := by decide +kernel
theorem dX10_byTurns_232 : decode cX10_byTurns 232 = .ok (.goto 39, 3) := by decide +kernel
theorem dX10_byTurns_235 : decode cX10_byTurns 235 = .ok (.aload_n 0, 1) := by decide +kernel
theorem dX10_byTurns_236 : decode cX10_byTurns 236 = .ok (.getfield 47, 3) := by decide +kernel
theorem dX10_byTurns_239 : decode cX10_byTurns 239 = .ok (.iload_n 3, 1) := by decide +kernel
theorem dX10_byTurns_240 : decode cX10_byTurns 240 = .ok (.iaload, 1) := by decide +kernel
theorem dX10_byTurns_241 : decode cX10_byTurns 241 = .ok (.istore 5, 2) := by decide +kernel
theorem dX10_byTurns_243 : decode cX10_byTurns 243 = .ok (.aload_n 0, 1) := by decide +kernel
theorem dX10_byTurns_244 : decode cX10_byTurns 244 = .ok (.getfield 47, 3) := by decide +kernel
theorem dX10_byTurns_247 : decode cX10_byTurns 247 = .ok (.iload_n 3, 1) := by decide +kernel
theorem dX10_byTurns_248 : decode cX10_byTurns 248 = .ok (.dup2, 1) := by decide +kernel
theorem dX10_byTurns_249 : decode cX10_byTurns 249 = .ok (.iaload, 1) := by decide +kernel
theorem dX10_byTurns_250 : decode cX10_byTurns 250 = .ok (.iconst 1, 1) := by decide +kernel
theorem dX10_byTurns_251 : decode cX10_byTurns 251 = .ok (.iadd, 1) := by decide +kernel
theorem dX10_byTurns_252 : decode cX10_byTurns 252 = .ok (.iastore, 1) := by decide +kernel
theorem dX10_byTurns_253 : decode cX10_byTurns 253 = .ok (.iload_n 3, 1) := by decide +kernel
theorem dX10_byTurns_254 : decode cX10_byTurns 254 = .ok (.aload_n 0, 1) := by decide +kernel
theorem dX10_byTurns_255 : decode cX10_byTurns 255 = .ok (.iload_n 3, 1) := by decide +kernel
theorem dX10_byTurns_256 : decode cX10_byTurns 256 = .ok (.iload 5, 2) := by decide +kernel
theorem dX10_byTurns_258 : decode cX10_byTurns 258 = .ok (.invokevirtual 245, 3) := by decide +kernel
theorem dX10_byTurns_261 : decode cX10_byTurns 261 = .ok (.ifCond .eq 7, 3) := by decide +kernel
theorem dX10_byTurns_264 : decode cX10_byTurns 264 = .ok (.iconst 1, 1) := by decide +kernel
theorem dX10_byTurns_265 : decode cX10_byTurns 265 = .ok (.goto 4, 3) := by decide +kernel
theorem dX10_byTurns_268 : decode cX10_byTurns 268 = .ok (.iconst 0, 1) := by decide +kernel
theorem dX10_byTurns_269 : decode cX10_byTurns 269 = .ok (.iadd, 1) := by decide +kernel
theorem dX10_byTurns_270 : decode cX10_byTurns 270 = .ok (.istore_n 3, 1) := by decide +kernel
theorem dX10_byTurns_271 : decode cX10_byTurns 271 = .ok (.goto (-176), 3) := by decide +kernel
theorem dX10_byTurns_274 : decode cX10_byTurns 274 = .ok (.ldc 216, 2) := by decide +kernel
theorem dX10_byTurns_276 : decode cX10_byTurns 276 = .ok (.ireturn, 1) := by decide +kernel
theorem dX10_fits_0 : decode cX10_fits 0 = .ok (.iconst 1, 1) := by decide +kernel
theorem dX10_fits_1 : decode cX10_fits 1 = .ok (.istore 6, 2) := by decide +kernel
theorem dX10_fits_3 : decode cX10_fits 3 = .ok (.iconst 0, 1) := by decide +kernel
theorem dX10_fits_4 : decode cX10_fits 4 = .ok (.istore 7, 2) := by decide +kernel
theorem dX10_fits_6 : decode cX10_fits 6 = .ok (.iload 7, 2) := by decide +kernel
theorem dX10_fits_8 : decode cX10_fits 8 = .ok (.iload 5, 2) := by decide +kernel
theorem dX10_fits_10 : decode cX10_fits 10 = .ok (.if_icmp .ge 70, 3) := by decide +kernel
theorem dX10_fits_13 : decode cX10_fits 13 = .ok (.aload_n 0, 1) := by decide +kernel
theorem dX10_fits_14 : decode cX10_fits 14 = .ok (.getfield 25, 3) := by decide +kernel
theorem dX10_fits_17 : decode cX10_fits 17 = .ok (.invokestatic 165, 3) := by decide +kernel
theorem dX10_fits_20 : decode cX10_fits 20 = .ok (.iload 6, 2) := by decide +kernel
theorem dX10_fits_22 : decode cX10_fits 22 = .ok (.ifCond .eq 49, 3) := by decide +kernel
theorem dX10_fits_25 : decode cX10_fits 25 = .ok (.aload_n 0, 1) := by decide +kernel
theorem dX10_fits_26 : decode cX10_fits 26 = .ok (.getfield 16, 3) := by decide +kernel
theorem dX10_fits_29 : decode cX10_fits 29 = .ok (.bipush 40, 2) := by decide +kernel
theorem dX10_fits_31 : decode cX10_fits 31 = .ok (.iload_n 3, 1) := by decide +kernel
theorem dX10_fits_32 : decode cX10_fits 32 = .ok (.imul, 1) := by decide +kernel
theorem dX10_fits_33 : decode cX10_fits 33 = .ok (.iload 4, 2) := by decide +kernel
theorem dX10_fits_35 : decode cX10_fits 35 = .ok (.iadd, 1) := by decide +kernel
theorem dX10_fits_36 : decode cX10_fits 36 = .ok (.iload 7, 2) := by decide +kernel
theorem dX10_fits_38 : decode cX10_fits 38 = .ok (.iadd, 1) := by decide +kernel
theorem dX10_fits_39 : decode cX10_fits 39 = .ok (.iaload, 1) := by decide +kernel
theorem dX10_fits_40 : decode cX10_fits 40 = .ok (.iload_n 1, 1) := by decide +kernel
theorem dX10_fits_41 : decode cX10_fits 41 = .ok (.ifCond .ge 15, 3) := by decide +kernel
theorem dX10_fits_44 : decode cX10_fits 44 = .ok (.aload_n 0, 1) := by decide +kernel
theorem dX10_fits_45 : decode cX10_fits 45 = .ok (.getfield 25, 3) := by decide +kernel
theorem dX10_fits_48 : decode cX10_fits 48 = .ok (.bipush 15, 2) := by decide +kernel
theorem dX10_fits_50 : decode cX10_fits 50 = .ok (.iload_n 2, 1) := by decide +kernel
theorem dX10_fits_51 : decode cX10_fits 51 = .ok (.iadd, 1) := by decide +kernel
theorem dX10_fits_52 : decode cX10_fits 52 = .ok (.iaload, 1) := by decide +kernel
theorem dX10_fits_53 : decode cX10_fits 53 = .ok (.goto 11, 3) := by decide +kernel
theorem dX10_fits_56 : decode cX10_fits 56 = .ok (.aload_n 0, 1) := by decide +kernel
theorem dX10_fits_57 : decode cX10_fits 57 = .ok (.getfield 25, 3) := by decide +kernel
theorem dX10_fits_60 : decode cX10_fits 60 = .ok (.iload_n 1, 1) := by decide +kernel
theorem dX10_fits_61 : decode cX10_fits 61 = .ok (.invokestatic 191, 3) := by decide +kernel
theorem dX10_fits_64 : decode cX10_fits 64 = .ok (.if_icmp .ne 7, 3) := by decide +kernel
theorem dX10_fits_67 : decode cX10_fits 67 = .ok (.iconst 1, 1) := by decide +kernel
theorem dX10_fits_68 : decode cX10_fits 68 = .ok (.goto 4, 3) := by decide +kernel
theorem dX10_fits_71 : decode cX10_fits 71 = .ok (.iconst 0, 1) := by decide +kernel
theorem dX10_fits_72 : decode cX10_fits 72 = .ok (.istore 6, 2) := by decide +kernel
theorem dX10_fits_74 : decode cX10_fits 74 = .ok (.iinc 7 1, 3) := by decide +kernel
theorem dX10_fits_77 : decode cX10_fits 77 = .ok (.goto (-71), 3) := by decide +kernel
theorem dX10_fits_80 : decode cX10_fits 80 = .ok (.iload 6, 2) := by decide +kernel
theorem dX10_fits_82 : decode cX10_fits 82 = .ok (.ireturn, 1) := by decide +kernel
theorem dX10_lacks_0 : decode cX10_lacks 0 = .ok (.aload_n 0, 1) := by decide +kernel
theorem dX10_lacks_1 : decode cX10_lacks 1 = .ok (.getfield 13, 3) := by decide +kernel
theorem dX10_lacks_4 : decode cX10_lacks 4 = .ok (.iload_n 1, 1) := by decide +kernel
theorem dX10_lacks_5 : decode cX10_lacks 5 = .ok (.iaload, 1) := by decide +kernel
theorem dX10_lacks_6 : decode cX10_lacks 6 = .ok (.ifCond .ge 9, 3) := by decide +kernel
theorem dX10_lacks_9 : decode cX10_lacks 9 = .ok (.aload_n 0, 1) := by decide +kernel
theorem dX10_lacks_10 : decode cX10_lacks 10 = .ok (.iconst 1, 1) := by decide +kernel
theorem dX10_lacks_11 : decode cX10_lacks 11 = .ok (.invokevirtual 71, 3) := by decide +kernel
theorem dX10_lacks_14 : decode cX10_lacks 14 = .ok (.ireturn, 1) := by decide +kernel
theorem dX10_lacks_15 : decode cX10_lacks 15 = .ok (.iload_n 2, 1) := by decide +kernel
theorem dX10_lacks_16 : decode cX10_lacks 16 = .ok (.ifCond .lt 19, 3) := by decide +kernel
theorem dX10_lacks_19 : decode cX10_lacks 19 = .ok (.iload_n 2, 1) := by decide +kernel
theorem dX10_lacks_20 : decode cX10_lacks 20 = .ok (.i2l, 1) := by decide +kernel
theorem dX10_lacks_21 : decode cX10_lacks 21 = .ok (.iload_n 3, 1) := by decide +kernel
theorem dX10_lacks_22 : decode cX10_lacks 22 = .ok (.i2l, 1) := by decide +kernel
theorem dX10_lacks_23 : decode cX10_lacks 23 = .ok (.ladd, 1) := by decide +kernel
theorem dX10_lacks_24 : decode cX10_lacks 24 = .ok (.aload_n 0, 1) := by decide +kernel
theorem dX10_lacks_25 : decode cX10_lacks 25 = .ok (.getfield 13, 3) := by decide +kernel
theorem dX10_lacks_28 : decode cX10_lacks 28 = .ok (.iload_n 1, 1) := by decide +kernel
theorem dX10_lacks_29 : decode cX10_lacks 29 = .ok (.iaload, 1) := by decide +kernel
theorem dX10_lacks_30 : decode cX10_lacks 30 = .ok (.i2l, 1) := by decide +kernel
theorem dX10_lacks_31 : decode cX10_lacks 31 = .ok (.lcmp, 1) := by decide +kernel
theorem dX10_lacks_32 : decode cX10_lacks 32 = .ok (.ifCond .le 11, 3) := by decide +kernel
theorem dX10_lacks_35 : decode cX10_lacks 35 = .ok (.aload_n 0, 1) := by decide +kernel
theorem dX10_lacks_36 : decode cX10_lacks 36 = .ok (.iconst 2, 1) := by decide +kernel
theorem dX10_lacks_37 : decode cX10_lacks 37 = .ok (.invokevirtual 71, 3) := by decide +kernel
theorem dX10_lacks_40 : decode cX10_lacks 40 = .ok (.goto 4, 3) := by decide +kernel
theorem dX10_lacks_43 : decode cX10_lacks 43 = .ok (.iconst 0, 1) := by decide +kernel
theorem dX10_lacks_44 : decode cX10_lacks 44 = .ok (.ireturn, 1) := by decide +kernel
theorem dX10_who_0 : decode cX10_who 0 = .ok (.aload_n 0, 1) := by decide +kernel
theorem dX10_who_1 : decode cX10_who 1 = .ok (.iload_n 1, 1) := by decide +kernel
theorem dX10_who_2 : decode cX10_who 2 = .ok (.invokevirtual 188, 3) := by decide +kernel
theorem dX10_who_5 : decode cX10_who 5 = .ok (.ifCond .eq 35, 3) := by decide +kernel
theorem dX10_who_8 : decode cX10_who 8 = .ok (.iload_n 2, 1) := by decide +kernel
theorem dX10_who_9 : decode cX10_who 9 = .ok (.i2l, 1) := by decide +kernel
theorem dX10_who_10 : decode cX10_who 10 = .ok (.lconst 0, 1) := by decide +kernel
theorem dX10_who_11 : decode cX10_who 11 = .ok (.ldc2_w 68, 3) := by decide +kernel
theorem dX10_who_14 : decode cX10_who 14 = .ok (.invokestatic 53, 3) := by decide +kernel
theorem dX10_who_17 : decode cX10_who 17 = .ok (.ifCond .eq 23, 3) := by decide +kernel
theorem dX10_who_20 : decode cX10_who 20 = .ok (.iload_n 3, 1) := by decide +kernel
theorem dX10_who_21 : decode cX10_who 21 = .ok (.invokestatic 64, 3) := by decide +kernel
theorem dX10_who_24 : decode cX10_who 24 = .ok (.ifCond .eq 16, 3) := by decide +kernel
theorem dX10_who_27 : decode cX10_who 27 = .ok (.iload 5, 2) := by decide +kernel
theorem dX10_who_29 : decode cX10_who 29 = .ok (.i2l, 1) := by decide +kernel
theorem dX10_who_30 : decode cX10_who 30 = .ok (.lconst 1, 1) := by decide +kernel
theorem dX10_who_31 : decode cX10_who 31 = .ok (.ldc2_w 248, 3) := by decide +kernel
theorem dX10_who_34 : decode cX10_who 34 = .ok (.invokestatic 53, 3) := by decide +kernel
theorem dX10_who_37 : decode cX10_who 37 = .ok (.ifCond .ne 6, 3) := by decide +kernel
theorem dX10_who_40 : decode cX10_who 40 = .ok (.ldc 70, 2) := by decide +kernel
theorem dX10_who_42 : decode cX10_who 42 = .ok (.ireturn, 1) := by decide +kernel
theorem dX10_who_43 : decode cX10_who 43 = .ok (.aload_n 0, 1) := by decide +kernel
theorem dX10_who_44 : decode cX10_who 44 = .ok (.getfield 19, 3) := by decide +kernel
theorem dX10_who_47 : decode cX10_who 47 = .ok (.bipush 53, 2) := by decide +kernel
theorem dX10_who_49 : decode cX10_who 49 = .ok (.iload_n 1, 1) := by decide +kernel
theorem dX10_who_50 : decode cX10_who 50 = .ok (.iadd, 1) := by decide +kernel
theorem dX10_who_51 : decode cX10_who 51 = .ok (.iaload, 1) := by decide +kernel
theorem dX10_who_52 : decode cX10_who 52 = .ok (.ifCond .eq 6, 3) := by decide +kernel
theorem dX10_who_55 : decode cX10_who 55 = .ok (.ldc 174, 2) := by decide +kernel
theorem dX10_who_57 : decode cX10_who 57 = .ok (.ireturn, 1) := by decide +kernel
theorem dX10_who_58 : decode cX10_who 58 = .ok (.aload_n 0, 1) := by decide +kernel
theorem dX10_who_59 : decode cX10_who 59 = .ok (.iload_n 3, 1) := by decide +kernel
theorem dX10_who_60 : decode cX10_who 60 = .ok (.iload 4, 2) := by decide +kernel
theorem dX10_who_62 : decode cX10_who 62 = .ok (.iload 5, 2) := by decide +kernel
theorem dX10_who_64 : decode cX10_who 64 = .ok (.invokevirtual 250, 3) := by decide +kernel
theorem dX10_who_67 : decode cX10_who 67 = .ok (.istore 6, 2) := by decide +kernel
theorem dX10_who_69 : decode cX10_who 69 = .ok (.iload 6, 2) := by decide +kernel
theorem dX10_who_71 : decode cX10_who 71 = .ok (.ifCond .ge 6, 3) := by decide +kernel
theorem dX10_who_74 : decode cX10_who 74 = .ok (.iload 6, 2) := by decide +kernel
theorem dX10_who_76 : decode cX10_who 76 = .ok (.ireturn, 1) := by decide +kernel
theorem dX10_who_77 : decode cX10_who 77 = .ok (.iload_n 2, 1) := by decide +kernel
theorem dX10_who_78 : decode cX10_who 78 = .ok (.ifCond .ne 8, 3) := by decide +kernel
theorem dX10_who_81 : decode cX10_who 81 = .ok (.bipush 35, 2) := by decide +kernel
theorem dX10_who_83 : decode cX10_who 83 = .ok (.goto 15, 3) := by decide +kernel
theorem dX10_who_86 : decode cX10_who 86 = .ok (.iload_n 2, 1) := by decide +kernel
theorem dX10_who_87 : decode cX10_who 87 = .ok (.iconst 1, 1) := by decide +kernel
theorem dX10_who_88 : decode cX10_who 88 = .ok (.if_icmp .ne 8, 3) := by decide +kernel
theorem dX10_who_91 : decode cX10_who 91 = .ok (.bipush 41, 2) := by decide +kernel
theorem dX10_who_93 : decode cX10_who 93 = .ok (.goto 5, 3) := by decide +kernel
theorem dX10_who_96 : decode cX10_who 96 = .ok (.bipush 47, 2) := by decide +kernel
theorem dX10_who_98 : decode cX10_who 98 = .ok (.iload_n 1, 1) := by decide +kernel
theorem dX10_who_99 : decode cX10_who 99 = .ok (.iadd, 1) := by decide +kernel
theorem dX10_who_100 : decode cX10_who 100 = .ok (.istore 7, 2) := by decide +kernel
theorem dX10_who_102 : decode cX10_who 102 = .ok (.iload_n 2, 1) := by decide +kernel
theorem dX10_who_103 : decode cX10_who 103 = .ok (.ifCond .ne 7, 3) := by decide +kernel
theorem dX10_who_106 : decode cX10_who 106 = .ok (.iconst 5, 1) := by decide +kernel
theorem dX10_who_107 : decode cX10_who 107 = .ok (.goto 21, 3) := by decide +kernel
theorem dX10_who_110 : decode cX10_who 110 = .ok (.iload_n 2, 1) := by decide +kernel
theorem dX10_who_111 : decode cX10_who 111 = .ok (.iconst 1, 1) := by decide +kernel
theorem dX10_who_112 : decode cX10_who 112 = .ok (.if_icmp .ne 8, 3) := by decide +kernel
theorem dX10_who_115 : decode cX10_who 115 = .ok (.bipush 9, 2) := by decide +kernel
theorem dX10_who_117 : decode cX10_who 117 = .ok (.goto 11, 3) := by decide +kernel
theorem dX10_who_120 : decode cX10_who 120 = .ok (.aload_n 0, 1) := by decide +kernel
theorem dX10_who_121 : decode cX10_who 121 = .ok (.getfield 19, 3) := by decide +kernel
theorem dX10_who_124 : decode cX10_who 124 = .ok (.iconst 0, 1) := by decide +kernel
theorem dX10_who_125 : decode cX10_who 125 = .ok (.iaload, 1) := by decide +kernel
theorem dX10_who_126 : decode cX10_who 126 = .ok (.iconst 1, 1) := by decide +kernel
theorem dX10_who_127 : decode cX10_who 127 = .ok (.isub, 1) := by decide +kernel
theorem dX10_who_128 : decode cX10_who 128 = .ok (.istore 8, 2) := by decide +kernel
theorem dX10_who_130 : decode cX10_who 130 = .ok (.iconst 0, 1) := by decide +kernel
theorem dX10_who_131 : decode cX10_who 131 = .ok (.istore 9, 2) := by decide +kernel
theorem dX10_who_133 : decode cX10_who 133 = .ok (.iload_n 2, 1) := by decide +kernel
theorem dX10_who_134 : decode cX10_who 134 = .ok (.iconst 2, 1) := by decide +kernel
theorem dX10_who_135 : decode cX10_who 135 = .ok (.if_icmp .ge 7, 3) := by decide +kernel
theorem dX10_who_138 : decode cX10_who 138 = .ok (.iconst 1, 1) := by decide +kernel
theorem dX10_who_139 : decode cX10_who 139 = .ok (.goto 4, 3) := by decide +kernel
theorem dX10_who_142 : decode cX10_who 142 = .ok (.iconst 0, 1) := by decide +kernel
theorem dX10_who_143 : decode cX10_who 143 = .ok (.istore 10, 2) := by decide +kernel
theorem dX10_who_145 : decode cX10_who 145 = .ok (.iload 10, 2) := by decide +kernel
theorem dX10_who_147 : decode cX10_who 147 = .ok (.iload 8, 2) := by decide +kernel
theorem dX10_who_149 : decode cX10_who 149 = .ok (.if_icmp .gt 50, 3) := by decide +kernel
theorem dX10_who_152 : decode cX10_who 152 = .ok (.aload_n 0, 1) := by decide +kernel
theorem dX10_who_153 : decode cX10_who 153 = .ok (.iconst 0, 1) := by decide +kernel
theorem dX10_who_154 : decode cX10_who 154 = .ok (.invokevirtual 205, 3) := by decide +kernel
theorem dX10_who_157 : decode cX10_who 157 = .ok (.aload_n 0, 1) := by decide +kernel
theorem dX10_who_158 : decode cX10_who 158 = .ok (.getfield 25, 3) := by decide +kernel
theorem dX10_who_161 : decode cX10_who 161 = .ok (.iload 7, 2) := by decide +kernel
theorem dX10_who_163 : decode cX10_who 163 = .ok (.iload 10, 2) := by decide +kernel
theorem dX10_who_165 : decode cX10_who 165 = .ok (.iastore, 1) := by decide +kernel
theorem dX10_who_166 : decode cX10_who 166 = .ok (.iload 9, 2) := by decide +kernel
theorem dX10_who_168 : decode cX10_who 168 = .ok (.aload_n 0, 1) := by decide +kernel
theorem dX10_who_169 : decode cX10_who 169 = .ok (.iload_n 1, 1) := by decide +kernel
theorem dX10_who_170 : decode cX10_who 170 = .ok (.iconst 0, 1) := by decide +kernel
theorem dX10_who_171 : decode cX10_who 171 = .ok (.iload_n 3, 1) := by decide +kernel
theorem dX10_who_172 : decode cX10_who 172 = .ok (.iload 4, 2) := by decide +kernel
theorem dX10_who_174 : decode cX10_who 174 = .ok (.iload 5, 2) := by decide +kernel
theorem dX10_who_176 : decode cX10_who 176 = .ok (.invokevirtual 253, 3) := by decide +kernel
theorem dX10_who_179 : decode cX10_who 179 = .ok (.ifCond .eq 10, 3) := by decide +kernel
theorem dX10_who_182 : decode cX10_who 182 = .ok (.iconst 1, 1) := by decide +kernel
theorem dX10_who_183 : decode cX10_who 183 = .ok (.iload 10, 2) := by decide +kernel
theorem dX10_who_185 : decode cX10_who 185 = .ok (.ishl, 1) := by decide +kernel
theorem dX10_who_186 : decode cX10_who 186 = .ok (.goto 4, 3) := by decide +kernel
theorem dX10_who_189 : decode cX10_who 189 = .ok (.iconst 0, 1) := by decide +kernel
theorem dX10_who_190 : decode cX10_who 190 = .ok (.ior, 1) := by decide +kernel
theorem dX10_who_191 : decode cX10_who 191 = .ok (.istore 9, 2) := by decide +kernel
theorem dX10_who_193 : decode cX10_who 193 = .ok (.iinc 10 1, 3) := by decide +kernel
theorem dX10_who_196 : decode cX10_who 196 = .ok (.goto (-51), 3) := by decide +kernel
theorem dX10_who_199 : decode cX10_who 199 = .ok (.aload_n 0, 1) := by decide +kernel
theorem dX10_who_200 : decode cX10_who 200 = .ok (.iload 9, 2) := by decide +kernel
theorem dX10_who_202 : decode cX10_who 202 = .ok (.invokevirtual 75, 3) := by decide +kernel
theorem dX10_who_205 : decode cX10_who 205 = .ok (.ireturn, 1) := by decide +kernel
theorem dX10_feeds_0 : decode cX10_feeds 0 = .ok (.aload_n 0, 1) := by decide +kernel
theorem dX10_feeds_1 : decode cX10_feeds 1 = .ok (.iload_n 1, 1) := by decide +kernel
theorem dX10_feeds_2 : decode cX10_feeds 2 = .ok (.invokevirtual 183, 3) := by decide +kernel
theorem dX10_feeds_5 : decode cX10_feeds 5 = .ok (.ifCond .eq 35, 3) := by decide +kernel
theorem dX10_feeds_8 : decode cX10_feeds 8 = .ok (.iload_n 2, 1) := by decide +kernel
theorem dX10_feeds_9 : decode cX10_feeds 9 = .ok (.i2l, 1) := by decide +kernel
theorem dX10_feeds_10 : decode cX10_feeds 10 = .ok (.lconst 0, 1) := by decide +kernel
theorem dX10_feeds_11 : decode cX10_feeds 11 = .ok (.ldc2_w 68, 3) := by decide +kernel
theorem dX10_feeds_14 : decode cX10_feeds 14 = .ok (.invokestatic 53, 3) := by decide +kernel
theorem dX10_feeds_17 : decode cX10_feeds 17 = .ok (.ifCond .eq 23, 3) := by decide +kernel
theorem dX10_feeds_20 : decode cX10_feeds 20 = .ok (.iload_n 3, 1) := by decide +kernel
theorem dX10_feeds_21 : decode cX10_feeds 21 = .ok (.invokestatic 64, 3) := by decide +kernel
theorem dX10_feeds_24 : decode cX10_feeds 24 = .ok (.ifCond .eq 16, 3) := by decide +kernel
theorem dX10_feeds_27 : decode cX10_feeds 27 = .ok (.iload 5, 2) := by decide +kernel
theorem dX10_feeds_29 : decode cX10_feeds 29 = .ok (.i2l, 1) := by decide +kernel
theorem dX10_feeds_30 : decode cX10_feeds 30 = .ok (.lconst 1, 1) := by decide +kernel
theorem dX10_feeds_31 : decode cX10_feeds 31 = .ok (.ldc2_w 248, 3) := by decide +kernel
theorem dX10_feeds_34 : decode cX10_feeds 34 = .ok (.invokestatic 53, 3) := by decide +kernel
theorem dX10_feeds_37 : decode cX10_feeds 37 = .ok (.ifCond .ne 6, 3) := by decide +kernel
theorem dX10_feeds_40 : decode cX10_feeds 40 = .ok (.ldc 70, 2) := by decide +kernel
theorem dX10_feeds_42 : decode cX10_feeds 42 = .ok (.ireturn, 1) := by decide +kernel
theorem dX10_feeds_43 : decode cX10_feeds 43 = .ok (.aload_n 0, 1) := by decide +kernel
theorem dX10_feeds_44 : decode cX10_feeds 44 = .ok (.iload_n 3, 1) := by decide +kernel
theorem dX10_feeds_45 : decode cX10_feeds 45 = .ok (.iload 4, 2) := by decide +kernel
theorem dX10_feeds_47 : decode cX10_feeds 47 = .ok (.iload 5, 2) := by decide +kernel
theorem dX10_feeds_49 : decode cX10_feeds 49 = .ok (.invokevirtual 250, 3) := by decide +kernel
theorem dX10_feeds_52 : decode cX10_feeds 52 = .ok (.istore 6, 2) := by decide +kernel
theorem dX10_feeds_54 : decode cX10_feeds 54 = .ok (.iload 6, 2) := by decide +kernel
theorem dX10_feeds_56 : decode cX10_feeds 56 = .ok (.ifCond .ge 6, 3) := by decide +kernel
theorem dX10_feeds_59 : decode cX10_feeds 59 = .ok (.iload 6, 2) := by decide +kernel
theorem dX10_feeds_61 : decode cX10_feeds 61 = .ok (.ireturn, 1) := by decide +kernel
theorem dX10_feeds_62 : decode cX10_feeds 62 = .ok (.iconst 0, 1) := by decide +kernel
theorem dX10_feeds_63 : decode cX10_feeds 63 = .ok (.istore 7, 2) := by decide +kernel
theorem dX10_feeds_65 : decode cX10_feeds 65 = .ok (.iconst 0, 1) := by decide +kernel
theorem dX10_feeds_66 : decode cX10_feeds 66 = .ok (.istore 8, 2) := by decide +kernel
theorem dX10_feeds_68 : decode cX10_feeds 68 = .ok (.iload 8, 2) := by decide +kernel
theorem dX10_feeds_70 : decode cX10_feeds 70 = .ok (.iload_n 2, 1) := by decide +kernel
theorem dX10_feeds_71 : decode cX10_feeds 71 = .ok (.ifCond .ne 8, 3) := by decide +kernel
theorem dX10_feeds_74 : decode cX10_feeds 74 = .ok (.bipush 9, 2) := by decide +kernel
theorem dX10_feeds_76 : decode cX10_feeds 76 = .ok (.goto 5, 3) := by decide +kernel
theorem dX10_feeds_79 : decode cX10_feeds 79 = .ok (.bipush 20, 2) := by decide +kernel
theorem dX10_feeds_81 : decode cX10_feeds 81 = .ok (.if_icmp .gt 59, 3) := by decide +kernel
theorem dX10_feeds_84 : decode cX10_feeds 84 = .ok (.aload_n 0, 1) := by decide +kernel
theorem dX10_feeds_85 : decode cX10_feeds 85 = .ok (.iconst 0, 1) := by decide +kernel
theorem dX10_feeds_86 : decode cX10_feeds 86 = .ok (.invokevirtual 205, 3) := by decide +kernel
theorem dX10_feeds_89 : decode cX10_feeds 89 = .ok (.aload_n 0, 1) := by decide +kernel
theorem dX10_feeds_90 : decode cX10_feeds 90 = .ok (.getfield 25, 3) := by decide +kernel
theorem dX10_feeds_93 : decode cX10_feeds 93 = .ok (.iload_n 2, 1) := by decide +kernel
theorem dX10_feeds_94 : decode cX10_feeds 94 = .ok (.ifCond .ne 9, 3) := by decide +kernel
theorem dX10_feeds_97 : decode cX10_feeds 97 = .ok (.iconst 5, 1) := by decide +kernel
theorem dX10_feeds_98 : decode cX10_feeds 98 = .ok (.iload_n 1, 1) := by decide +kernel
theorem dX10_feeds_99 : decode cX10_feeds 99 = .ok (.iadd, 1) := by decide +kernel
theorem dX10_feeds_100 : decode cX10_feeds 100 = .ok (.goto 4, 3) := by decide +kernel
theorem dX10_feeds_103 : decode cX10_feeds 103 = .ok (.iconst 2, 1) := by decide +kernel
theorem dX10_feeds_104 : decode cX10_feeds 104 = .ok (.iload 8, 2) := by decide +kernel
theorem dX10_feeds_106 : decode cX10_feeds 106 = .ok (.iastore, 1) := by decide +kernel
theorem dX10_feeds_107 : decode cX10_feeds 107 = .ok (.iload 7, 2) := by decide +kernel
theorem dX10_feeds_109 : decode cX10_feeds 109 = .ok (.aload_n 0, 1) := by decide +kernel
theorem dX10_feeds_110 : decode cX10_feeds 110 = .ok (.iconst (-1), 1) := by decide +kernel
theorem dX10_feeds_111 : decode cX10_feeds 111 = .ok (.iload_n 1, 1) := by decide +kernel
theorem dX10_feeds_112 : decode cX10_feeds 112 = .ok (.iload_n 3, 1) := by decide +kernel
theorem dX10_feeds_113 : decode cX10_feeds 113 = .ok (.iload 4, 2) := by decide +kernel
theorem dX10_feeds_115 : decode cX10_feeds 115 = .ok (.iload 5, 2) := by decide +kernel
theorem dX10_feeds_117 : decode cX10_feeds 117 = .ok (.invokevirtual 253, 3) := by decide +kernel
theorem dX10_feeds_120 : decode cX10_feeds 120 = .ok (.ifCond .eq 10, 3) := by decide +kernel
theorem dX10_feeds_123 : decode cX10_feeds 123 = .ok (.iconst 1, 1) := by decide +kernel
theorem dX10_feeds_124 : decode cX10_feeds 124 = .ok (.iload 8, 2) := by decide +kernel
theorem dX10_feeds_126 : decode cX10_feeds 126 = .ok (.ishl, 1) := by decide +kernel
theorem dX10_feeds_127 : decode cX10_feeds 127 = .ok (.goto 4, 3) := by decide +kernel
theorem dX10_feeds_130 : decode cX10_feeds 130 = .ok (.iconst 0, 1) := by decide +kernel
theorem dX10_feeds_131 : decode cX10_feeds 131 = .ok (.ior, 1) := by decide +kernel
theorem dX10_feeds_132 : decode cX10_feeds 132 = .ok (.istore 7, 2) := by decide +kernel
theorem dX10_feeds_134 : decode cX10_feeds 134 = .ok (.iinc 8 1, 3) := by decide +kernel
theorem dX10_feeds_137 : decode cX10_feeds 137 = .ok (.goto (-69), 3) := by decide +kernel
theorem dX10_feeds_140 : decode cX10_feeds 140 = .ok (.iconst 0, 1) := by decide +kernel
theorem dX10_feeds_141 : decode cX10_feeds 141 = .ok (.istore 8, 2) := by decide +kernel
theorem dX10_feeds_143 : decode cX10_feeds 143 = .ok (.iload 7, 2) := by decide +kernel
theorem dX10_feeds_145 : decode cX10_feeds 145 = .ok (.ifCond .eq 19, 3) := by decide +kernel
theorem dX10_feeds_148 : decode cX10_feeds 148 = .ok (.iload 7, 2) := by decide +kernel
theorem dX10_feeds_150 : decode cX10_feeds 150 = .ok (.iload 8, 2) := by decide +kernel
theorem dX10_feeds_152 : decode cX10_feeds 152 = .ok (.invokestatic 232, 3) := by decide +kernel
theorem dX10_feeds_155 : decode cX10_feeds 155 = .ok (.ifCond .ne 9, 3) := by decide +kernel
theorem dX10_feeds_158 : decode cX10_feeds 158 = .ok (.iinc 8 1, 3) := by decide +kernel
theorem dX10_feeds_161 : decode cX10_feeds 161 = .ok (.goto (-18), 3) := by decide +kernel
theorem dX10_feeds_164 : decode cX10_feeds 164 = .ok (.aload_n 0, 1) := by decide +kernel
theorem dX10_feeds_165 : decode cX10_feeds 165 = .ok (.iload_n 2, 1) := by decide +kernel
theorem dX10_feeds_166 : decode cX10_feeds 166 = .ok (.ifCond .ne 8, 3) := by decide +kernel
theorem dX10_feeds_169 : decode cX10_feeds 169 = .ok (.iload 7, 2) := by decide +kernel
theorem dX10_feeds_171 : decode cX10_feeds 171 = .ok (.goto 28, 3) := by decide +kernel
theorem dX10_feeds_174 : decode cX10_feeds 174 = .ok (.iload_n 2, 1) := by decide +kernel
theorem dX10_feeds_175 : decode cX10_feeds 175 = .ok (.iconst 1, 1) := by decide +kernel
theorem dX10_feeds_176 : decode cX10_feeds 176 = .ok (.if_icmp .ne 11, 3) := by decide +kernel
theorem dX10_feeds_179 : decode cX10_feeds 179 = .ok (.iload 7, 2) := by decide +kernel
theorem dX10_feeds_181 : decode cX10_feeds 181 = .ok (.invokestatic 171, 3) := by decide +kernel
theorem dX10_feeds_184 : decode cX10_feeds 184 = .ok (.goto 15, 3) := by decide +kernel
theorem dX10_feeds_187 : decode cX10_feeds 187 = .ok (.iload 7, 2) := by decide +kernel
theorem dX10_feeds_189 : decode cX10_feeds 189 = .ok (.ifCond .ne 8, 3) := by decide +kernel
theorem dX10_feeds_192 : decode cX10_feeds 192 = .ok (.ldc 216, 2) := by decide +kernel
theorem dX10_feeds_194 : decode cX10_feeds 194 = .ok (.goto 5, 3) := by decide +kernel
theorem dX10_feeds_197 : decode cX10_feeds 197 = .ok (.iload 8, 2) := by decide +kernel
theorem dX10_feeds_199 : decode cX10_feeds 199 = .ok (.invokevirtual 75, 3) := by decide +kernel
theorem dX10_feeds_202 : decode cX10_feeds 202 = .ok (.ireturn, 1) := by decide +kernel
theorem dX10_divisor_0 : decode cX10_divisor 0 = .ok (.lload_n 0, 1) := by decide +kernel
theorem dX10_divisor_1 : decode cX10_divisor 1 = .ok (.lstore 4, 2) := by decide +kernel
theorem dX10_divisor_3 : decode cX10_divisor 3 = .ok (.lload_n 2, 1) := by decide +kernel
theorem dX10_divisor_4 : decode cX10_divisor 4 = .ok (.lstore 6, 2) := by decide +kernel
theorem dX10_divisor_6 : decode cX10_divisor 6 = .ok (.lload 6, 2) := by decide +kernel
theorem dX10_divisor_8 : decode cX10_divisor 8 = .ok (.lconst 0, 1) := by decide +kernel
theorem dX10_divisor_9 : decode cX10_divisor 9 = .ok (.lcmp, 1) := by decide +kernel
theorem dX10_divisor_10 : decode cX10_divisor 10 = .ok (.ifCond .eq 21, 3) := by decide +kernel
theorem dX10_divisor_13 : decode cX10_divisor 13 = .ok (.lload 4, 2) := by decide +kernel
theorem dX10_divisor_15 : decode cX10_divisor 15 = .ok (.lload 6, 2) := by decide +kernel
theorem dX10_divisor_17 : decode cX10_divisor 17 = .ok (.lrem, 1) := by decide +kernel
theorem dX10_divisor_18 : decode cX10_divisor 18 = .ok (.lstore 8, 2) := by decide +kernel
theorem dX10_divisor_20 : decode cX10_divisor 20 = .ok (.lload 6, 2) := by decide +kernel
theorem dX10_divisor_22 : decode cX10_divisor 22 = .ok (.lstore 4, 2) := by decide +kernel
theorem dX10_divisor_24 : decode cX10_divisor 24 = .ok (.lload 8, 2) := by decide +kernel
theorem dX10_divisor_26 : decode cX10_divisor 26 = .ok (.lstore 6, 2) := by decide +kernel
theorem dX10_divisor_28 : decode cX10_divisor 28 = .ok (.goto (-22), 3) := by decide +kernel
theorem dX10_divisor_31 : decode cX10_divisor 31 = .ok (.lload 4, 2) := by decide +kernel
theorem dX10_divisor_33 : decode cX10_divisor 33 = .ok (.lreturn, 1) := by decide +kernel
theorem dX10_gives_0 : decode cX10_gives 0 = .ok (.aload_n 0, 1) := by decide +kernel
theorem dX10_gives_1 : decode cX10_gives 1 = .ok (.iload_n 1, 1) := by decide +kernel
theorem dX10_gives_2 : decode cX10_gives 2 = .ok (.invokevirtual 188, 3) := by decide +kernel
theorem dX10_gives_5 : decode cX10_gives 5 = .ok (.ifCond .eq 35, 3) := by decide +kernel
theorem dX10_gives_8 : decode cX10_gives 8 = .ok (.iload_n 2, 1) := by decide +kernel
theorem dX10_gives_9 : decode cX10_gives 9 = .ok (.i2l, 1) := by decide +kernel
theorem dX10_gives_10 : decode cX10_gives 10 = .ok (.lconst 0, 1) := by decide +kernel
theorem dX10_gives_11 : decode cX10_gives 11 = .ok (.ldc2_w 230, 3) := by decide +kernel
theorem dX10_gives_14 : decode cX10_gives 14 = .ok (.invokestatic 53, 3) := by decide +kernel
theorem dX10_gives_17 : decode cX10_gives 17 = .ok (.ifCond .eq 23, 3) := by decide +kernel
theorem dX10_gives_20 : decode cX10_gives 20 = .ok (.iload_n 3, 1) := by decide +kernel
theorem dX10_gives_21 : decode cX10_gives 21 = .ok (.i2l, 1) := by decide +kernel
theorem dX10_gives_22 : decode cX10_gives 22 = .ok (.lconst 0, 1) := by decide +kernel
theorem dX10_gives_23 : decode cX10_gives 23 = .ok (.ldc2_w 257, 3) := by decide +kernel
theorem dX10_gives_26 : decode cX10_gives 26 = .ok (.invokestatic 53, 3) := by decide +kernel
theorem dX10_gives_29 : decode cX10_gives 29 = .ok (.ifCond .eq 11, 3) := by decide +kernel
theorem dX10_gives_32 : decode cX10_gives 32 = .ok (.iload 4, 2) := by decide +kernel
theorem dX10_gives_34 : decode cX10_gives 34 = .ok (.invokestatic 209, 3) := by decide +kernel
theorem dX10_gives_37 : decode cX10_gives 37 = .ok (.ifCond .ne 7, 3) := by decide +kernel
theorem dX10_gives_40 : decode cX10_gives 40 = .ok (.ldc2_w 259, 3) := by decide +kernel
theorem dX10_gives_43 : decode cX10_gives 43 = .ok (.lreturn, 1) := by decide +kernel
theorem dX10_gives_44 : decode cX10_gives 44 = .ok (.iconst 0, 1) := by decide +kernel
theorem dX10_gives_45 : decode cX10_gives 45 = .ok (.istore 5, 2) := by decide +kernel
theorem dX10_gives_47 : decode cX10_gives 47 = .ok (.lconst 1, 1) := by decide +kernel
theorem dX10_gives_48 : decode cX10_gives 48 = .ok (.lstore 6, 2) := by decide +kernel
theorem dX10_gives_50 : decode cX10_gives 50 = .ok (.iconst 0, 1) := by decide +kernel
theorem dX10_gives_51 : decode cX10_gives 51 = .ok (.istore 8, 2) := by decide +kernel
theorem dX10_gives_53 : decode cX10_gives 53 = .ok (.iload 8, 2) := by decide +kernel
theorem dX10_gives_55 : decode cX10_gives 55 = .ok (.aload_n 0, 1) := by decide +kernel
theorem dX10_gives_56 : decode cX10_gives 56 = .ok (.getfield 19, 3) := by decide +kernel
theorem dX10_gives_59 : decode cX10_gives 59 = .ok (.iconst 0, 1) := by decide +kernel
theorem dX10_gives_60 : decode cX10_gives 60 = .ok (.iaload, 1) := by decide +kernel
theorem dX10_gives_61 : decode cX10_gives 61 = .ok (.if_icmp .ge 60, 3) := by decide +kernel
theorem dX10_gives_64 : decode cX10_gives 64 = .ok (.iload 5, 2) := by decide +kernel
theorem dX10_gives_66 : decode cX10_gives 66 = .ok (.aload_n 0, 1) := by decide +kernel
theorem dX10_gives_67 : decode cX10_gives 67 = .ok (.getfield 19, 3) := by decide +kernel
theorem dX10_gives_70 : decode cX10_gives 70 = .ok (.bipush 25, 2) := by decide +kernel
theorem dX10_gives_72 : decode cX10_gives 72 = .ok (.iload 8, 2) := by decide +kernel
theorem dX10_gives_74 : decode cX10_gives 74 = .ok (.iadd, 1) := by decide +kernel
theorem dX10_gives_75 : decode cX10_gives 75 = .ok (.iaload, 1) := by decide +kernel
theorem dX10_gives_76 : decode cX10_gives 76 = .ok (.ifCond .eq 10, 3) := by decide +kernel
theorem dX10_gives_79 : decode cX10_gives 79 = .ok (.iconst 1, 1) := by decide +kernel
theorem dX10_gives_80 : decode cX10_gives 80 = .ok (.iload 8, 2) := by decide +kernel
theorem dX10_gives_82 : decode cX10_gives 82 = .ok (.ishl, 1) := by decide +kernel
theorem dX10_gives_83 : decode cX10_gives 83 = .ok (.goto 4, 3) := by decide +kernel
theorem dX10_gives_86 : decode cX10_gives 86 = .ok (.iconst 0, 1) := by decide +kernel
theorem dX10_gives_87 : decode cX10_gives 87 = .ok (.ior, 1) := by decide +kernel
theorem dX10_gives_88 : decode cX10_gives 88 = .ok (.istore 5, 2) := by decide +kernel
theorem dX10_gives_90 : decode cX10_gives 90 = .ok (.lload 6, 2) := by decide +kernel
theorem dX10_gives_92 : decode cX10_gives 92 = .ok (.aload_n 0, 1) := by decide +kernel
theorem dX10_gives_93 : decode cX10_gives 93 = .ok (.getfield 19, 3) := by decide +kernel
theorem dX10_gives_96 : decode cX10_gives 96 = .ok (.bipush 25, 2) := by decide +kernel
theorem dX10_gives_98 : decode cX10_gives 98 = .ok (.iload 8, 2) := by decide +kernel
theorem dX10_gives_100 : decode cX10_gives 100 = .ok (.iadd, 1) := by decide +kernel
theorem dX10_gives_101 : decode cX10_gives 101 = .ok (.iaload, 1) := by decide +kernel
theorem dX10_gives_102 : decode cX10_gives 102 = .ok (.ifCond .eq 9, 3) := by decide +kernel
theorem dX10_gives_105 : decode cX10_gives 105 = .ok (.ldc2_w 257, 3) := by decide +kernel
theorem dX10_gives_108 : decode cX10_gives 108 = .ok (.goto 4, 3) := by decide +kernel
theorem dX10_gives_111 : decode cX10_gives 111 = .ok (.lconst 1, 1) := by decide +kernel
theorem dX10_gives_112 : decode cX10_gives 112 = .ok (.lmul, 1) := by decide +kernel
theorem dX10_gives_113 : decode cX10_gives 113 = .ok (.lstore 6, 2) := by decide +kernel
theorem dX10_gives_115 : decode cX10_gives 115 = .ok (.iinc 8 1, 3) := by decide +kernel
theorem dX10_gives_118 : decode cX10_gives 118 = .ok (.goto (-65), 3) := by decide +kernel
theorem dX10_gives_121 : decode cX10_gives 121 = .ok (.lconst 0, 1) := by decide +kernel
theorem dX10_gives_122 : decode cX10_gives 122 = .ok (.lstore 8, 2) := by decide +kernel
theorem dX10_gives_124 : decode cX10_gives 124 = .ok (.iconst 0, 1) := by decide +kernel
theorem dX10_gives_125 : decode cX10_gives 125 = .ok (.istore 10, 2) := by decide +kernel
theorem dX10_gives_127 : decode cX10_gives 127 = .ok (.iload 10, 2) := by decide +kernel
theorem dX10_gives_129 : decode cX10_gives 129 = .ok (.iconst 1, 1) := by decide +kernel
theorem dX10_gives_130 : decode cX10_gives 130 = .ok (.aload_n 0, 1) := by decide +kernel
theorem dX10_gives_131 : decode cX10_gives 131 = .ok (.getfield 19, 3) := by decide +kernel
theorem dX10_gives_134 : decode cX10_gives 134 = .ok (.iconst 0, 1) := by decide +kernel
theorem dX10_gives_135 : decode cX10_gives 135 = .ok (.iaload, 1) := by decide +kernel
theorem dX10_gives_136 : decode cX10_gives 136 = .ok (.ishl, 1) := by decide +kernel
theorem dX10_gives_137 : decode cX10_gives 137 = .ok (.if_icmp .ge 163, 3) := by decide +kernel
theorem dX10_gives_140 : decode cX10_gives 140 = .ok (.iload 10, 2) := by decide +kernel
theorem dX10_gives_142 : decode cX10_gives 142 = .ok (.iload 5, 2) := by decide +kernel
theorem dX10_gives_144 : decode cX10_gives 144 = .ok (.iconst (-1), 1) := by decide +kernel
theorem dX10_gives_145 : decode cX10_gives 145 = .ok (.ixor, 1) := by decide +kernel
theorem dX10_gives_146 : decode cX10_gives 146 = .ok (.iand, 1) := by decide +kernel
theorem dX10_gives_147 : decode cX10_gives 147 = .ok (.ifCond .eq 6, 3) := by decide +kernel
theorem dX10_gives_150 : decode cX10_gives 150 = .ok (.goto 144, 3) := by decide +kernel
theorem dX10_gives_153 : decode cX10_gives 153 = .ok (.lconst 1, 1) := by decide +kernel
theorem dX10_gives_154 : decode cX10_gives 154 = .ok (.lstore 11, 2) := by decide +kernel
theorem dX10_gives_156 : decode cX10_gives 156 = .ok (.aload_n 0, 1) := by decide +kernel
theorem dX10_gives_157 : decode cX10_gives 157 = .ok (.iconst 0, 1) := by decide +kernel
theorem dX10_gives_158 : decode cX10_gives 158 = .ok (.invokevirtual 205, 3) := by decide +kernel
theorem dX10_gives_161 : decode cX10_gives 161 = .ok (.iconst 0, 1) := by decide +kernel
theorem dX10_gives_162 : decode cX10_gives 162 = .ok (.istore 13, 2) := by decide +kernel
theorem dX10_gives_164 : decode cX10_gives 164 = .ok (.iload 13, 2) := by decide +kernel
theorem dX10_gives_166 : decode cX10_gives 166 = .ok (.aload_n 0, 1) := by decide +kernel
theorem dX10_gives_167 : decode cX10_gives 167 = .ok (.getfield 19, 3) := by decide +kernel
theorem dX10_gives_170 : decode cX10_gives 170 = .ok (.iconst 0, 1) := by decide +kernel
theorem dX10_gives_171 : decode cX10_gives 171 = .ok (.iaload, 1) := by decide +kernel
theorem dX10_gives_172 : decode cX10_gives 172 = .ok (.if_icmp .ge 83, 3) := by decide +kernel
theorem dX10_gives_175 : decode cX10_gives 175 = .ok (.lload 11, 2) := by decide +kernel
theorem dX10_gives_177 : decode cX10_gives 177 = .ok (.iload 5, 2) := by decide +kernel
theorem dX10_gives_179 : decode cX10_gives 179 = .ok (.iload 13, 2) := by decide +kernel
theorem dX10_gives_181 : decode cX10_gives 181 = .ok (.invokestatic 232, 3) := by decide +kernel
theorem dX10_gives_184 : decode cX10_gives 184 = .ok (.ifCond .ne 7, 3) := by decide +kernel
theorem dX10_gives_187 : decode cX10_gives 187 = .ok (.lconst 1, 1) := by decide +kernel
theorem dX10_gives_188 : decode cX10_gives 188 = .ok (.goto 24, 3) := by decide +kernel
theorem dX10_gives_191 : decode cX10_gives 191 = .ok (.iload 10, 2) := by decide +kernel
theorem dX10_gives_193 : decode cX10_gives 193 = .ok (.iload 13, 2) := by decide +kernel
theorem dX10_gives_195 : decode cX10_gives 195 = .ok (.invokestatic 232, 3) := by decide +kernel
theorem dX10_gives_198 : decode cX10_gives 198 = .ok (.ifCond .eq 8, 3) := by decide +kernel
theorem dX10_gives_201 : decode cX10_gives 201 = .ok (.iload_n 3, 1) := by decide +kernel
theorem dX10_gives_202 : decode cX10_gives 202 = .ok (.i2l, 1) := by decide +kernel
theorem dX10_gives_203 : decode cX10_gives 203 = .ok (.goto 9, 3) := by decide +kernel
theorem dX10_gives_206 : decode cX10_gives 206 = .ok (.ldc2_w 257, 3) := by decide +kernel
theorem dX10_gives_209 : decode cX10_gives 209 = .ok (.iload_n 3, 1) := by decide +kernel
theorem dX10_gives_210 : decode cX10_gives 210 = .ok (.i2l, 1) := by decide +kernel
theorem dX10_gives_211 : decode cX10_gives 211 = .ok (.lsub, 1) := by decide +kernel
theorem dX10_gives_212 : decode cX10_gives 212 = .ok (.lmul, 1) := by decide +kernel
theorem dX10_gives_213 : decode cX10_gives 213 = .ok (.lstore 11, 2) := by decide +kernel
theorem dX10_gives_215 : decode cX10_gives 215 = .ok (.aload_n 0, 1) := by decide +kernel
theorem dX10_gives_216 : decode cX10_gives 216 = .ok (.getfield 25, 3) := by decide +kernel
theorem dX10_gives_219 : decode cX10_gives 219 = .ok (.bipush 25, 2) := by decide +kernel
theorem dX10_gives_221 : decode cX10_gives 221 = .ok (.iload 13, 2) := by decide +kernel
theorem dX10_gives_223 : decode cX10_gives 223 = .ok (.iadd, 1) := by decide +kernel
theorem dX10_gives_224 : decode cX10_gives 224 = .ok (.iload 10, 2) := by decide +kernel
theorem dX10_gives_226 : decode cX10_gives 226 = .ok (.iload 13, 2) := by decide +kernel
theorem dX10_gives_228 : decode cX10_gives 228 = .ok (.invokestatic 232, 3) := by decide +kernel
theorem dX10_gives_231 : decode cX10_gives 231 = .ok (.ifCond .eq 7, 3) := by decide +kernel
theorem dX10_gives_234 : decode cX10_gives 234 = .ok (.iconst 0, 1) := by decide +kernel
theorem dX10_gives_235 : decode cX10_gives 235 = .ok (.goto 13, 3) := by decide +kernel
theorem dX10_gives_238 : decode cX10_gives 238 = .ok (.aload_n 0, 1) := by decide +kernel
theorem dX10_gives_239 : decode cX10_gives 239 = .ok (.getfield 25, 3) := by decide +kernel
theorem dX10_gives_242 : decode cX10_gives 242 = .ok (.bipush 25, 2) := by decide +kernel
theorem dX10_gives_244 : decode cX10_gives 244 = .ok (.iload 13, 2) := by decide +kernel
theorem dX10_gives_246 : decode cX10_gives 246 = .ok (.iadd, 1) := by decide +kernel
theorem dX10_gives_247 : decode cX10_gives 247 = .ok (.iaload, 1) := by decide +kernel
theorem dX10_gives_248 : decode cX10_gives 248 = .ok (.iastore, 1) := by decide +kernel
theorem dX10_gives_249 : decode cX10_gives 249 = .ok (.iinc 13 1, 3) := by decide +kernel
theorem dX10_gives_252 : decode cX10_gives 252 = .ok (.goto (-88), 3) := by decide +kernel
theorem dX10_gives_255 : decode cX10_gives 255 = .ok (.lload 11, 2) := by decide +kernel
theorem dX10_gives_257 : decode cX10_gives 257 = .ok (.lconst 0, 1) := by decide +kernel
theorem dX10_gives_258 : decode cX10_gives 258 = .ok (.lcmp, 1) := by decide +kernel
theorem dX10_gives_259 : decode cX10_gives 259 = .ok (.ifCond .le 35, 3) := by decide +kernel
theorem dX10_gives_262 : decode cX10_gives 262 = .ok (.aload_n 0, 1) := by decide +kernel
theorem dX10_gives_263 : decode cX10_gives 263 = .ok (.getfield 25, 3) := by decide +kernel
theorem dX10_gives_266 : decode cX10_gives 266 = .ok (.iload_n 2, 1) := by decide +kernel
theorem dX10_gives_267 : decode cX10_gives 267 = .ok (.invokestatic 199, 3) := by decide +kernel
theorem dX10_gives_270 : decode cX10_gives 270 = .ok (.lload 8, 2) := by decide +kernel
theorem dX10_gives_272 : decode cX10_gives 272 = .ok (.aload_n 0, 1) := by decide +kernel
theorem dX10_gives_273 : decode cX10_gives 273 = .ok (.getfield 25, 3) := by decide +kernel
theorem dX10_gives_276 : decode cX10_gives 276 = .ok (.bipush 53, 2) := by decide +kernel
theorem dX10_gives_278 : decode cX10_gives 278 = .ok (.iload_n 1, 1) := by decide +kernel
theorem dX10_gives_279 : decode cX10_gives 279 = .ok (.iadd, 1) := by decide +kernel
theorem dX10_gives_280 : decode cX10_gives 280 = .ok (.iaload, 1) := by decide +kernel
theorem dX10_gives_281 : decode cX10_gives 281 = .ok (.iconst 2, 1) := by decide +kernel
theorem dX10_gives_282 : decode cX10_gives 282 = .ok (.if_icmp .eq 8, 3) := by decide +kernel
theorem dX10_gives_285 : decode cX10_gives 285 = .ok (.lload 11, 2) := by decide +kernel
theorem dX10_gives_287 : decode cX10_gives 287 = .ok (.goto 4, 3) := by decide +kernel
theorem dX10_gives_290 : decode cX10_gives 290 = .ok (.lconst 0, 1) := by decide +kernel
theorem dX10_gives_291 : decode cX10_gives 291 = .ok (.ladd, 1) := by decide +kernel
theorem dX10_gives_292 : decode cX10_gives 292 = .ok (.lstore 8, 2) := by decide +kernel
theorem dX10_gives_294 : decode cX10_gives 294 = .ok (.iinc 10 1, 3) := by decide +kernel
theorem dX10_gives_297 : decode cX10_gives 297 = .ok (.goto (-170), 3) := by decide +kernel
theorem dX10_gives_300 : decode cX10_gives 300 = .ok (.iload 4, 2) := by decide +kernel
theorem dX10_gives_302 : decode cX10_gives 302 = .ok (.ifCond .ne 8, 3) := by decide +kernel
theorem dX10_gives_305 : decode cX10_gives 305 = .ok (.lload 8, 2) := by decide +kernel
theorem dX10_gives_307 : decode cX10_gives 307 = .ok (.goto 5, 3) := by decide +kernel
theorem dX10_gives_310 : decode cX10_gives 310 = .ok (.lload 6, 2) := by decide +kernel
theorem dX10_gives_312 : decode cX10_gives 312 = .ok (.lload 8, 2) := by decide +kernel
theorem dX10_gives_314 : decode cX10_gives 314 = .ok (.lload 6, 2) := by decide +kernel
theorem dX10_gives_316 : decode cX10_gives 316 = .ok (.invokestatic 261, 3) := by decide +kernel
theorem dX10_gives_319 : decode cX10_gives 319 = .ok (.ldiv, 1) := by decide +kernel
theorem dX10_gives_320 : decode cX10_gives 320 = .ok (.lreturn, 1) := by decide +kernel
