theorem dX5_floorsThatFit_0 : decode cX5_floorsThatFit 0 = .ok (.aload_n 0, 1) := by decide +kernel
theorem dX5_floorsThatFit_1 : decode cX5_floorsThatFit 1 = .ok (.getfield 12, 3) := by decide +kernel
theorem dX5_floorsThatFit_4 : decode cX5_floorsThatFit 4 = .ok (.aload_n 1, 1) := by decide +kernel
theorem dX5_floorsThatFit_5 : decode cX5_floorsThatFit 5 = .ok (.invokevirtual 50, 3) := by decide +kernel
theorem dX5_floorsThatFit_8 : decode cX5_floorsThatFit 8 = .ok (.iconst 0, 1) := by decide +kernel
theorem dX5_floorsThatFit_9 : decode cX5_floorsThatFit 9 = .ok (.istore_n 3, 1) := by decide +kernel
theorem dX5_floorsThatFit_10 : decode cX5_floorsThatFit 10 = .ok (.iconst 0, 1) := by decide +kernel
theorem dX5_floorsThatFit_11 : decode cX5_floorsThatFit 11 = .ok (.istore 4, 2) := by decide +kernel
theorem dX5_floorsThatFit_13 : decode cX5_floorsThatFit 13 = .ok (.iload 4, 2) := by decide +kernel
theorem dX5_floorsThatFit_15 : decode cX5_floorsThatFit 15 = .ok (.bipush 9, 2) := by decide +kernel
theorem dX5_floorsThatFit_17 : decode cX5_floorsThatFit 17 = .ok (.if_icmp .gt 39, 3) := by decide +kernel
theorem dX5_floorsThatFit_20 : decode cX5_floorsThatFit 20 = .ok (.aload_n 0, 1) := by decide +kernel
theorem dX5_floorsThatFit_21 : decode cX5_floorsThatFit 21 = .ok (.getfield 12, 3) := by decide +kernel
theorem dX5_floorsThatFit_24 : decode cX5_floorsThatFit 24 = .ok (.getfield 123, 3) := by decide +kernel
theorem dX5_floorsThatFit_27 : decode cX5_floorsThatFit 27 = .ok (.iload_n 2, 1) := by decide +kernel
theorem dX5_floorsThatFit_28 : decode cX5_floorsThatFit 28 = .ok (.iload 4, 2) := by decide +kernel
theorem dX5_floorsThatFit_30 : decode cX5_floorsThatFit 30 = .ok (.iastore, 1) := by decide +kernel
theorem dX5_floorsThatFit_31 : decode cX5_floorsThatFit 31 = .ok (.iload_n 3, 1) := by decide +kernel
theorem dX5_floorsThatFit_32 : decode cX5_floorsThatFit 32 = .ok (.aload_n 0, 1) := by decide +kernel
theorem dX5_floorsThatFit_33 : decode cX5_floorsThatFit 33 = .ok (.iload_n 2, 1) := by decide +kernel
theorem dX5_floorsThatFit_34 : decode cX5_floorsThatFit 34 = .ok (.invokevirtual 126, 3) := by decide +kernel
theorem dX5_floorsThatFit_37 : decode cX5_floorsThatFit 37 = .ok (.ifCond .eq 10, 3) := by decide +kernel
theorem dX5_floorsThatFit_40 : decode cX5_floorsThatFit 40 = .ok (.iconst 1, 1) := by decide +kernel
theorem dX5_floorsThatFit_41 : decode cX5_floorsThatFit 41 = .ok (.iload 4, 2) := by decide +kernel
theorem dX5_floorsThatFit_43 : decode cX5_floorsThatFit 43 = .ok (.ishl, 1) := by decide +kernel
theorem dX5_floorsThatFit_44 : decode cX5_floorsThatFit 44 = .ok (.goto 4, 3) := by decide +kernel
theorem dX5_floorsThatFit_47 : decode cX5_floorsThatFit 47 = .ok (.iconst 0, 1) := by decide +kernel
theorem dX5_floorsThatFit_48 : decode cX5_floorsThatFit 48 = .ok (.ior, 1) := by decide +kernel
theorem dX5_floorsThatFit_49 : decode cX5_floorsThatFit 49 = .ok (.istore_n 3, 1) := by decide +kernel
theorem dX5_floorsThatFit_50 : decode cX5_floorsThatFit 50 = .ok (.iinc 4 1, 3) := by decide +kernel
theorem dX5_floorsThatFit_53 : decode cX5_floorsThatFit 53 = .ok (.goto (-40), 3) := by decide +kernel
theorem dX5_floorsThatFit_56 : decode cX5_floorsThatFit 56 = .ok (.iload_n 3, 1) := by decide +kernel
theorem dX5_floorsThatFit_57 : decode cX5_floorsThatFit 57 = .ok (.ireturn, 1) := by decide +kernel
theorem dX5_feedsThatFit_0 : decode cX5_feedsThatFit 0 = .ok (.aload_n 0, 1) := by decide +kernel
theorem dX5_feedsThatFit_1 : decode cX5_feedsThatFit 1 = .ok (.getfield 12, 3) := by decide +kernel
theorem dX5_feedsThatFit_4 : decode cX5_feedsThatFit 4 = .ok (.aload_n 1, 1) := by decide +kernel
theorem dX5_feedsThatFit_5 : decode cX5_feedsThatFit 5 = .ok (.invokevirtual 50, 3) := by decide +kernel
theorem dX5_feedsThatFit_8 : decode cX5_feedsThatFit 8 = .ok (.iconst 0, 1) := by decide +kernel
theorem dX5_feedsThatFit_9 : decode cX5_feedsThatFit 9 = .ok (.istore_n 3, 1) := by decide +kernel
theorem dX5_feedsThatFit_10 : decode cX5_feedsThatFit 10 = .ok (.iconst 0, 1) := by decide +kernel
theorem dX5_feedsThatFit_11 : decode cX5_feedsThatFit 11 = .ok (.istore 4, 2) := by decide +kernel
theorem dX5_feedsThatFit_13 : decode cX5_feedsThatFit 13 = .ok (.iload 4, 2) := by decide +kernel
theorem dX5_feedsThatFit_15 : decode cX5_feedsThatFit 15 = .ok (.bipush 20, 2) := by decide +kernel
theorem dX5_feedsThatFit_17 : decode cX5_feedsThatFit 17 = .ok (.if_icmp .gt 37, 3) := by decide +kernel
theorem dX5_feedsThatFit_20 : decode cX5_feedsThatFit 20 = .ok (.aload_n 0, 1) := by decide +kernel
theorem dX5_feedsThatFit_21 : decode cX5_feedsThatFit 21 = .ok (.getfield 12, 3) := by decide +kernel
theorem dX5_feedsThatFit_24 : decode cX5_feedsThatFit 24 = .ok (.iload 4, 2) := by decide +kernel
theorem dX5_feedsThatFit_26 : decode cX5_feedsThatFit 26 = .ok (.putfield 90, 3) := by decide +kernel
theorem dX5_feedsThatFit_29 : decode cX5_feedsThatFit 29 = .ok (.iload_n 3, 1) := by decide +kernel
theorem dX5_feedsThatFit_30 : decode cX5_feedsThatFit 30 = .ok (.aload_n 0, 1) := by decide +kernel
theorem dX5_feedsThatFit_31 : decode cX5_feedsThatFit 31 = .ok (.iload_n 2, 1) := by decide +kernel
theorem dX5_feedsThatFit_32 : decode cX5_feedsThatFit 32 = .ok (.invokevirtual 126, 3) := by decide +kernel
theorem dX5_feedsThatFit_35 : decode cX5_feedsThatFit 35 = .ok (.ifCond .eq 10, 3) := by decide +kernel
theorem dX5_feedsThatFit_38 : decode cX5_feedsThatFit 38 = .ok (.iconst 1, 1) := by decide +kernel
theorem dX5_feedsThatFit_39 : decode cX5_feedsThatFit 39 = .ok (.iload 4, 2) := by decide +kernel
theorem dX5_feedsThatFit_41 : decode cX5_feedsThatFit 41 = .ok (.ishl, 1) := by decide +kernel
theorem dX5_feedsThatFit_42 : decode cX5_feedsThatFit 42 = .ok (.goto 4, 3) := by decide +kernel
theorem dX5_feedsThatFit_45 : decode cX5_feedsThatFit 45 = .ok (.iconst 0, 1) := by decide +kernel
theorem dX5_feedsThatFit_46 : decode cX5_feedsThatFit 46 = .ok (.ior, 1) := by decide +kernel
theorem dX5_feedsThatFit_47 : decode cX5_feedsThatFit 47 = .ok (.istore_n 3, 1) := by decide +kernel
theorem dX5_feedsThatFit_48 : decode cX5_feedsThatFit 48 = .ok (.iinc 4 1, 3) := by decide +kernel
theorem dX5_feedsThatFit_51 : decode cX5_feedsThatFit 51 = .ok (.goto (-38), 3) := by decide +kernel
theorem dX5_feedsThatFit_54 : decode cX5_feedsThatFit 54 = .ok (.iload_n 3, 1) := by decide +kernel
theorem dX5_feedsThatFit_55 : decode cX5_feedsThatFit 55 = .ok (.ireturn, 1) := by decide +kernel
theorem dX5_liesAsHeard_0 : decode cX5_liesAsHeard 0 = .ok (.aload_n 0, 1) := by decide +kernel
theorem dX5_liesAsHeard_1 : decode cX5_liesAsHeard 1 = .ok (.getfield 23, 3) := by decide +kernel
theorem dX5_liesAsHeard_4 : decode cX5_liesAsHeard 4 = .ok (.aload_n 0, 1) := by decide +kernel
theorem dX5_liesAsHeard_5 : decode cX5_liesAsHeard 5 = .ok (.getfield 12, 3) := by decide +kernel
theorem dX5_liesAsHeard_8 : decode cX5_liesAsHeard 8 = .ok (.aload_n 0, 1) := by decide +kernel
theorem dX5_liesAsHeard_9 : decode cX5_liesAsHeard 9 = .ok (.getfield 31, 3) := by decide +kernel
theorem dX5_liesAsHeard_12 : decode cX5_liesAsHeard 12 = .ok (.invokevirtual 35, 3) := by decide +kernel
theorem dX5_liesAsHeard_15 : decode cX5_liesAsHeard 15 = .ok (.iconst 0, 1) := by decide +kernel
theorem dX5_liesAsHeard_16 : decode cX5_liesAsHeard 16 = .ok (.istore_n 2, 1) := by decide +kernel
theorem dX5_liesAsHeard_17 : decode cX5_liesAsHeard 17 = .ok (.iload_n 2, 1) := by decide +kernel
theorem dX5_liesAsHeard_18 : decode cX5_liesAsHeard 18 = .ok (.aload_n 0, 1) := by decide +kernel
theorem dX5_liesAsHeard_19 : decode cX5_liesAsHeard 19 = .ok (.getfield 31, 3) := by decide +kernel
theorem dX5_liesAsHeard_22 : decode cX5_liesAsHeard 22 = .ok (.if_icmp .ge 31, 3) := by decide +kernel
theorem dX5_liesAsHeard_25 : decode cX5_liesAsHeard 25 = .ok (.aload_n 0, 1) := by decide +kernel
theorem dX5_liesAsHeard_26 : decode cX5_liesAsHeard 26 = .ok (.getfield 23, 3) := by decide +kernel
theorem dX5_liesAsHeard_29 : decode cX5_liesAsHeard 29 = .ok (.iload_n 1, 1) := by decide +kernel
theorem dX5_liesAsHeard_30 : decode cX5_liesAsHeard 30 = .ok (.iload_n 2, 1) := by decide +kernel
theorem dX5_liesAsHeard_31 : decode cX5_liesAsHeard 31 = .ok (.iconst 1, 1) := by decide +kernel
theorem dX5_liesAsHeard_32 : decode cX5_liesAsHeard 32 = .ok (.iadd, 1) := by decide +kernel
theorem dX5_liesAsHeard_33 : decode cX5_liesAsHeard 33 = .ok (.invokevirtual 46, 3) := by decide +kernel
theorem dX5_liesAsHeard_36 : decode cX5_liesAsHeard 36 = .ok (.aload_n 0, 1) := by decide +kernel
theorem dX5_liesAsHeard_37 : decode cX5_liesAsHeard 37 = .ok (.getfield 27, 3) := by decide +kernel
theorem dX5_liesAsHeard_40 : decode cX5_liesAsHeard 40 = .ok (.iload_n 2, 1) := by decide +kernel
theorem dX5_liesAsHeard_41 : decode cX5_liesAsHeard 41 = .ok (.iaload, 1) := by decide +kernel
theorem dX5_liesAsHeard_42 : decode cX5_liesAsHeard 42 = .ok (.if_icmp .eq 5, 3) := by decide +kernel
theorem dX5_liesAsHeard_45 : decode cX5_liesAsHeard 45 = .ok (.iconst 0, 1) := by decide +kernel
theorem dX5_liesAsHeard_46 : decode cX5_liesAsHeard 46 = .ok (.ireturn, 1) := by decide +kernel
theorem dX5_liesAsHeard_47 : decode cX5_liesAsHeard 47 = .ok (.iinc 2 1, 3) := by decide +kernel
theorem dX5_liesAsHeard_50 : decode cX5_liesAsHeard 50 = .ok (.goto (-33), 3) := by decide +kernel
theorem dX5_liesAsHeard_53 : decode cX5_liesAsHeard 53 = .ok (.iconst 1, 1) := by decide +kernel
theorem dX5_liesAsHeard_54 : decode cX5_liesAsHeard 54 = .ok (.ireturn, 1) := by decide +kernel
theorem dX5_likelySpared_0 : decode cX5_likelySpared 0 = .ok (.aload_n 1, 1) := by decide +kernel
theorem dX5_likelySpared_1 : decode cX5_likelySpared 1 = .ok (.invokestatic 130, 3) := by decide +kernel
theorem dX5_likelySpared_4 : decode cX5_likelySpared 4 = .ok (.istore 6, 2) := by decide +kernel
theorem dX5_likelySpared_6 : decode cX5_likelySpared 6 = .ok (.lconst 1, 1) := by decide +kernel
theorem dX5_likelySpared_7 : decode cX5_likelySpared 7 = .ok (.lstore 7, 2) := by decide +kernel
theorem dX5_likelySpared_9 : decode cX5_likelySpared 9 = .ok (.iconst 0, 1) := by decide +kernel
theorem dX5_likelySpared_10 : decode cX5_likelySpared 10 = .ok (.istore 9, 2) := by decide +kernel
theorem dX5_likelySpared_12 : decode cX5_likelySpared 12 = .ok (.iload 9, 2) := by decide +kernel
theorem dX5_likelySpared_14 : decode cX5_likelySpared 14 = .ok (.iload 6, 2) := by decide +kernel
theorem dX5_likelySpared_16 : decode cX5_likelySpared 16 = .ok (.invokestatic 82, 3) := by decide +kernel
theorem dX5_likelySpared_19 : decode cX5_likelySpared 19 = .ok (.if_icmp .ge 17, 3) := by decide +kernel
theorem dX5_likelySpared_22 : decode cX5_likelySpared 22 = .ok (.lload 7, 2) := by decide +kernel
theorem dX5_likelySpared_24 : decode cX5_likelySpared 24 = .ok (.ldc2_w 134, 3) := by decide +kernel
theorem dX5_likelySpared_27 : decode cX5_likelySpared 27 = .ok (.lmul, 1) := by decide +kernel
theorem dX5_likelySpared_28 : decode cX5_likelySpared 28 = .ok (.lstore 7, 2) := by decide +kernel
theorem dX5_likelySpared_30 : decode cX5_likelySpared 30 = .ok (.iinc 9 1, 3) := by decide +kernel
theorem dX5_likelySpared_33 : decode cX5_likelySpared 33 = .ok (.goto (-21), 3) := by decide +kernel
theorem dX5_likelySpared_36 : decode cX5_likelySpared 36 = .ok (.lconst 0, 1) := by decide +kernel
theorem dX5_likelySpared_37 : decode cX5_likelySpared 37 = .ok (.lstore 9, 2) := by decide +kernel
theorem dX5_likelySpared_39 : decode cX5_likelySpared 39 = .ok (.iconst 0, 1) := by decide +kernel
theorem dX5_likelySpared_40 : decode cX5_likelySpared 40 = .ok (.istore 11, 2) := by decide +kernel
theorem dX5_likelySpared_42 : decode cX5_likelySpared 42 = .ok (.iload 11, 2) := by decide +kernel
theorem dX5_likelySpared_44 : decode cX5_likelySpared 44 = .ok (.iconst 1, 1) := by decide +kernel
theorem dX5_likelySpared_45 : decode cX5_likelySpared 45 = .ok (.aload_n 1, 1) := by decide +kernel
theorem dX5_likelySpared_46 : decode cX5_likelySpared 46 = .ok (.getfield 68, 3) := by decide +kernel
theorem dX5_likelySpared_49 : decode cX5_likelySpared 49 = .ok (.ishl, 1) := by decide +kernel
theorem dX5_likelySpared_50 : decode cX5_likelySpared 50 = .ok (.if_icmp .ge 60, 3) := by decide +kernel
theorem dX5_likelySpared_53 : decode cX5_likelySpared 53 = .ok (.iload 11, 2) := by decide +kernel
theorem dX5_likelySpared_55 : decode cX5_likelySpared 55 = .ok (.iload 6, 2) := by decide +kernel
theorem dX5_likelySpared_57 : decode cX5_likelySpared 57 = .ok (.iconst (-1), 1) := by decide +kernel
theorem dX5_likelySpared_58 : decode cX5_likelySpared 58 = .ok (.ixor, 1) := by decide +kernel
theorem dX5_likelySpared_59 : decode cX5_likelySpared 59 = .ok (.iand, 1) := by decide +kernel
theorem dX5_likelySpared_60 : decode cX5_likelySpared 60 = .ok (.ifCond .ne 15, 3) := by decide +kernel
theorem dX5_likelySpared_63 : decode cX5_likelySpared 63 = .ok (.iload 6, 2) := by decide +kernel
theorem dX5_likelySpared_65 : decode cX5_likelySpared 65 = .ok (.iload 11, 2) := by decide +kernel
theorem dX5_likelySpared_67 : decode cX5_likelySpared 67 = .ok (.iload 4, 2) := by decide +kernel
theorem dX5_likelySpared_69 : decode cX5_likelySpared 69 = .ok (.invokestatic 136, 3) := by decide +kernel
theorem dX5_likelySpared_72 : decode cX5_likelySpared 72 = .ok (.goto 4, 3) := by decide +kernel
theorem dX5_likelySpared_75 : decode cX5_likelySpared 75 = .ok (.lconst 0, 1) := by decide +kernel
theorem dX5_likelySpared_76 : decode cX5_likelySpared 76 = .ok (.lstore 12, 2) := by decide +kernel
theorem dX5_likelySpared_78 : decode cX5_likelySpared 78 = .ok (.lload 12, 2) := by decide +kernel
theorem dX5_likelySpared_80 : decode cX5_likelySpared 80 = .ok (.lconst 0, 1) := by decide +kernel
theorem dX5_likelySpared_81 : decode cX5_likelySpared 81 = .ok (.lcmp, 1) := by decide +kernel
theorem dX5_likelySpared_82 : decode cX5_likelySpared 82 = .ok (.ifCond .le 22, 3) := by decide +kernel
theorem dX5_likelySpared_85 : decode cX5_likelySpared 85 = .ok (.aload_n 0, 1) := by decide +kernel
theorem dX5_likelySpared_86 : decode cX5_likelySpared 86 = .ok (.aload_n 1, 1) := by decide +kernel
theorem dX5_likelySpared_87 : decode cX5_likelySpared 87 = .ok (.iload_n 2, 1) := by decide +kernel
theorem dX5_likelySpared_88 : decode cX5_likelySpared 88 = .ok (.iload_n 3, 1) := by decide +kernel
theorem dX5_likelySpared_89 : decode cX5_likelySpared 89 = .ok (.iload 11, 2) := by decide +kernel
theorem dX5_likelySpared_91 : decode cX5_likelySpared 91 = .ok (.invokevirtual 140, 3) := by decide +kernel
theorem dX5_likelySpared_94 : decode cX5_likelySpared 94 = .ok (.ifCond .eq 10, 3) := by decide +kernel
theorem dX5_likelySpared_97 : decode cX5_likelySpared 97 = .ok (.lload 9, 2) := by decide +kernel
theorem dX5_likelySpared_99 : decode cX5_likelySpared 99 = .ok (.lload 12, 2) := by decide +kernel
theorem dX5_likelySpared_101 : decode cX5_likelySpared 101 = .ok (.ladd, 1) := by decide +kernel
theorem dX5_likelySpared_102 : decode cX5_likelySpared 102 = .ok (.lstore 9, 2) := by decide +kernel
theorem dX5_likelySpared_104 : decode cX5_likelySpared 104 = .ok (.iinc 11 1, 3) := by decide +kernel
theorem dX5_likelySpared_107 : decode cX5_likelySpared 107 = .ok (.goto (-65), 3) := by decide +kernel
theorem dX5_likelySpared_110 : decode cX5_likelySpared 110 = .ok (.lload 7, 2) := by decide +kernel
theorem dX5_likelySpared_112 : decode cX5_likelySpared 112 = .ok (.lload 9, 2) := by decide +kernel
theorem dX5_likelySpared_114 : decode cX5_likelySpared 114 = .ok (.invokestatic 144, 3) := by decide +kernel
theorem dX5_likelySpared_117 : decode cX5_likelySpared 117 = .ok (.lstore 11, 2) := by decide +kernel
theorem dX5_likelySpared_119 : decode cX5_likelySpared 119 = .ok (.lload 11, 2) := by decide +kernel
theorem dX5_likelySpared_121 : decode cX5_likelySpared 121 = .ok (.lconst 0, 1) := by decide +kernel
theorem dX5_likelySpared_122 : decode cX5_likelySpared 122 = .ok (.lcmp, 1) := by decide +kernel
theorem dX5_likelySpared_123 : decode cX5_likelySpared 123 = .ok (.ifCond .gt 5, 3) := by decide +kernel
theorem dX5_likelySpared_126 : decode cX5_likelySpared 126 = .ok (.lconst 0, 1) := by decide +kernel
theorem dX5_likelySpared_127 : decode cX5_likelySpared 127 = .ok (.lreturn, 1) := by decide +kernel
theorem dX5_likelySpared_128 : decode cX5_likelySpared 128 = .ok (.iload 5, 2) := by decide +kernel
theorem dX5_likelySpared_130 : decode cX5_likelySpared 130 = .ok (.ifCond .ne 8, 3) := by decide +kernel
theorem dX5_likelySpared_133 : decode cX5_likelySpared 133 = .ok (.lload 9, 2) := by decide +kernel
theorem dX5_likelySpared_135 : decode cX5_likelySpared 135 = .ok (.goto 5, 3) := by decide +kernel
theorem dX5_likelySpared_138 : decode cX5_likelySpared 138 = .ok (.lload 7, 2) := by decide +kernel
theorem dX5_likelySpared_140 : decode cX5_likelySpared 140 = .ok (.lload 11, 2) := by decide +kernel
theorem dX5_likelySpared_142 : decode cX5_likelySpared 142 = .ok (.ldiv, 1) := by decide +kernel
theorem dX5_likelySpared_143 : decode cX5_likelySpared 143 = .ok (.lreturn, 1) := by decide +kernel
theorem dX5_wallsThatStand_0 : decode cX5_wallsThatStand 0 = .ok (.iconst 0, 1) := by decide +kernel
theorem dX5_wallsThatStand_1 : decode cX5_wallsThatStand 1 = .ok (.istore_n 1, 1) := by decide +kernel
theorem dX5_wallsThatStand_2 : decode cX5_wallsThatStand 2 = .ok (.iconst 0, 1) := by decide +kernel
theorem dX5_wallsThatStand_3 : decode cX5_wallsThatStand 3 = .ok (.istore_n 2, 1) := by decide +kernel
theorem dX5_wallsThatStand_4 : decode cX5_wallsThatStand 4 = .ok (.iload_n 2, 1) := by decide +kernel
theorem dX5_wallsThatStand_5 : decode cX5_wallsThatStand 5 = .ok (.aload_n 0, 1) := by decide +kernel
theorem dX5_wallsThatStand_6 : decode cX5_wallsThatStand 6 = .ok (.getfield 68, 3) := by decide +kernel
theorem dX5_wallsThatStand_9 : decode cX5_wallsThatStand 9 = .ok (.if_icmp .ge 28, 3) := by decide +kernel
theorem dX5_wallsThatStand_12 : decode cX5_wallsThatStand 12 = .ok (.iload_n 1, 1) := by decide +kernel
theorem dX5_wallsThatStand_13 : decode cX5_wallsThatStand 13 = .ok (.aload_n 0, 1) := by decide +kernel
theorem dX5_wallsThatStand_14 : decode cX5_wallsThatStand 14 = .ok (.getfield 79, 3) := by decide +kernel
theorem dX5_wallsThatStand_17 : decode cX5_wallsThatStand 17 = .ok (.iload_n 2, 1) := by decide +kernel
theorem dX5_wallsThatStand_18 : decode cX5_wallsThatStand 18 = .ok (.iaload, 1) := by decide +kernel
theorem dX5_wallsThatStand_19 : decode cX5_wallsThatStand 19 = .ok (.ifCond .eq 9, 3) := by decide +kernel
theorem dX5_wallsThatStand_22 : decode cX5_wallsThatStand 22 = .ok (.iconst 1, 1) := by decide +kernel
theorem dX5_wallsThatStand_23 : decode cX5_wallsThatStand 23 = .ok (.iload_n 2, 1) := by decide +kernel
theorem dX5_wallsThatStand_24 : decode cX5_wallsThatStand 24 = .ok (.ishl, 1) := by decide +kernel
theorem dX5_wallsThatStand_25 : decode cX5_wallsThatStand 25 = .ok (.goto 4, 3) := by decide +kernel
theorem dX5_wallsThatStand_28 : decode cX5_wallsThatStand 28 = .ok (.iconst 0, 1) := by decide +kernel
theorem dX5_wallsThatStand_29 : decode cX5_wallsThatStand 29 = .ok (.ior, 1) := by decide +kernel
theorem dX5_wallsThatStand_30 : decode cX5_wallsThatStand 30 = .ok (.istore_n 1, 1) := by decide +kernel
theorem dX5_wallsThatStand_31 : decode cX5_wallsThatStand 31 = .ok (.iinc 2 1, 3) := by decide +kernel
theorem dX5_wallsThatStand_34 : decode cX5_wallsThatStand 34 = .ok (.goto (-30), 3) := by decide +kernel
theorem dX5_wallsThatStand_37 : decode cX5_wallsThatStand 37 = .ok (.iload_n 1, 1) := by decide +kernel
theorem dX5_wallsThatStand_38 : decode cX5_wallsThatStand 38 = .ok (.ireturn, 1) := by decide +kernel
theorem dX5_casesOf_0 : decode cX5_casesOf 0 = .ok (.lconst 1, 1) := by decide +kernel
theorem dX5_casesOf_1 : decode cX5_casesOf 1 = .ok (.lstore_n 3, 1) := by decide +kernel
theorem dX5_casesOf_2 : decode cX5_casesOf 2 = .ok (.iconst 0, 1) := by decide +kernel
theorem dX5_casesOf_3 : decode cX5_casesOf 3 = .ok (.istore 5, 2) := by decide +kernel
theorem dX5_casesOf_5 : decode cX5_casesOf 5 = .ok (.iload 5, 2) := by decide +kernel
theorem dX5_casesOf_7 : decode cX5_casesOf 7 = .ok (.bipush 10, 2) := by decide +kernel
theorem dX5_casesOf_9 : decode cX5_casesOf 9 = .ok (.if_icmp .ge 42, 3) := by decide +kernel
theorem dX5_casesOf_12 : decode cX5_casesOf 12 = .ok (.iload_n 0, 1) := by decide +kernel
theorem dX5_casesOf_13 : decode cX5_casesOf 13 = .ok (.iload 5, 2) := by decide +kernel
theorem dX5_casesOf_15 : decode cX5_casesOf 15 = .ok (.ishr, 1) := by decide +kernel
theorem dX5_casesOf_16 : decode cX5_casesOf 16 = .ok (.iconst 1, 1) := by decide +kernel
theorem dX5_casesOf_17 : decode cX5_casesOf 17 = .ok (.iand, 1) := by decide +kernel
theorem dX5_casesOf_18 : decode cX5_casesOf 18 = .ok (.iconst 1, 1) := by decide +kernel
theorem dX5_casesOf_19 : decode cX5_casesOf 19 = .ok (.if_icmp .ne 26, 3) := by decide +kernel
theorem dX5_casesOf_22 : decode cX5_casesOf 22 = .ok (.lload_n 3, 1) := by decide +kernel
theorem dX5_casesOf_23 : decode cX5_casesOf 23 = .ok (.iload_n 1, 1) := by decide +kernel
theorem dX5_casesOf_24 : decode cX5_casesOf 24 = .ok (.iload 5, 2) := by decide +kernel
theorem dX5_casesOf_26 : decode cX5_casesOf 26 = .ok (.ishr, 1) := by decide +kernel
theorem dX5_casesOf_27 : decode cX5_casesOf 27 = .ok (.iconst 1, 1) := by decide +kernel
theorem dX5_casesOf_28 : decode cX5_casesOf 28 = .ok (.iand, 1) := by decide +kernel
theorem dX5_casesOf_29 : decode cX5_casesOf 29 = .ok (.iconst 1, 1) := by decide +kernel
theorem dX5_casesOf_30 : decode cX5_casesOf 30 = .ok (.if_icmp .ne 8, 3) := by decide +kernel
theorem dX5_casesOf_33 : decode cX5_casesOf 33 = .ok (.iload_n 2, 1) := by decide +kernel
theorem dX5_casesOf_34 : decode cX5_casesOf 34 = .ok (.i2l, 1) := by decide +kernel
theorem dX5_casesOf_35 : decode cX5_casesOf 35 = .ok (.goto 8, 3) := by decide +kernel
theorem dX5_casesOf_38 : decode cX5_casesOf 38 = .ok (.bipush 10, 2) := by decide +kernel
theorem dX5_casesOf_40 : decode cX5_casesOf 40 = .ok (.iload_n 2, 1) := by decide +kernel
theorem dX5_casesOf_41 : decode cX5_casesOf 41 = .ok (.isub, 1) := by decide +kernel
theorem dX5_casesOf_42 : decode cX5_casesOf 42 = .ok (.i2l, 1) := by decide +kernel
theorem dX5_casesOf_43 : decode cX5_casesOf 43 = .ok (.lmul, 1) := by decide +kernel
theorem dX5_casesOf_44 : decode cX5_casesOf 44 = .ok (.lstore_n 3, 1) := by decide +kernel
theorem dX5_casesOf_45 : decode cX5_casesOf 45 = .ok (.iinc 5 1, 3) := by decide +kernel
theorem dX5_casesOf_48 : decode cX5_casesOf 48 = .ok (.goto (-43), 3) := by decide +kernel
theorem dX5_casesOf_51 : decode cX5_casesOf 51 = .ok (.lload_n 3, 1) := by decide +kernel
theorem dX5_casesOf_52 : decode cX5_casesOf 52 = .ok (.lreturn, 1) := by decide +kernel
theorem dX5_isSpared_0 : decode cX5_isSpared 0 = .ok (.aload_n 0, 1) := by decide +kernel
theorem dX5_isSpared_1 : decode cX5_isSpared 1 = .ok (.getfield 12, 3) := by decide +kernel
theorem dX5_isSpared_4 : decode cX5_isSpared 4 = .ok (.aload_n 1, 1) := by decide +kernel
theorem dX5_isSpared_5 : decode cX5_isSpared 5 = .ok (.invokevirtual 50, 3) := by decide +kernel
theorem dX5_isSpared_8 : decode cX5_isSpared 8 = .ok (.iconst 0, 1) := by decide +kernel
theorem dX5_isSpared_9 : decode cX5_isSpared 9 = .ok (.istore 5, 2) := by decide +kernel
theorem dX5_isSpared_11 : decode cX5_isSpared 11 = .ok (.iload 5, 2) := by decide +kernel
theorem dX5_isSpared_13 : decode cX5_isSpared 13 = .ok (.aload_n 1, 1) := by decide +kernel
theorem dX5_isSpared_14 : decode cX5_isSpared 14 = .ok (.getfield 68, 3) := by decide +kernel
theorem dX5_isSpared_17 : decode cX5_isSpared 17 = .ok (.if_icmp .ge 31, 3) := by decide +kernel
theorem dX5_isSpared_20 : decode cX5_isSpared 20 = .ok (.iload 4, 2) := by decide +kernel
theorem dX5_isSpared_22 : decode cX5_isSpared 22 = .ok (.iload 5, 2) := by decide +kernel
theorem dX5_isSpared_24 : decode cX5_isSpared 24 = .ok (.ishr, 1) := by decide +kernel
theorem dX5_isSpared_25 : decode cX5_isSpared 25 = .ok (.iconst 1, 1) := by decide +kernel
theorem dX5_isSpared_26 : decode cX5_isSpared 26 = .ok (.iand, 1) := by decide +kernel
theorem dX5_isSpared_27 : decode cX5_isSpared 27 = .ok (.iconst 1, 1) := by decide +kernel
theorem dX5_isSpared_28 : decode cX5_isSpared 28 = .ok (.if_icmp .ne 14, 3) := by decide +kernel
theorem dX5_isSpared_31 : decode cX5_isSpared 31 = .ok (.aload_n 0, 1) := by decide +kernel
theorem dX5_isSpared_32 : decode cX5_isSpared 32 = .ok (.getfield 12, 3) := by decide +kernel
theorem dX5_isSpared_35 : decode cX5_isSpared 35 = .ok (.getfield 79, 3) := by decide +kernel
theorem dX5_isSpared_38 : decode cX5_isSpared 38 = .ok (.iload 5, 2) := by decide +kernel
theorem dX5_isSpared_40 : decode cX5_isSpared 40 = .ok (.iconst 0, 1) := by decide +kernel
theorem dX5_isSpared_41 : decode cX5_isSpared 41 = .ok (.iastore, 1) := by decide +kernel
theorem dX5_isSpared_42 : decode cX5_isSpared 42 = .ok (.iinc 5 1, 3) := by decide +kernel
theorem dX5_isSpared_45 : decode cX5_isSpared 45 = .ok (.goto (-34), 3) := by decide +kernel
theorem dX5_isSpared_48 : decode cX5_isSpared 48 = .ok (.aload_n 1, 1) := by decide +kernel
theorem dX5_isSpared_49 : decode cX5_isSpared 49 = .ok (.getfield 39, 3) := by decide +kernel
theorem dX5_isSpared_52 : decode cX5_isSpared 52 = .ok (.iload_n 2, 1) := by decide +kernel
theorem dX5_isSpared_53 : decode cX5_isSpared 53 = .ok (.iaload, 1) := by decide +kernel
theorem dX5_isSpared_54 : decode cX5_isSpared 54 = .ok (.istore 5, 2) := by decide +kernel
theorem dX5_isSpared_56 : decode cX5_isSpared 56 = .ok (.iconst 0, 1) := by decide +kernel
theorem dX5_isSpared_57 : decode cX5_isSpared 57 = .ok (.istore 6, 2) := by decide +kernel
theorem dX5_isSpared_59 : decode cX5_isSpared 59 = .ok (.iload 6, 2) := by decide +kernel
theorem dX5_isSpared_61 : decode cX5_isSpared 61 = .ok (.iload_n 3, 1) := by decide +kernel
theorem dX5_isSpared_62 : decode cX5_isSpared 62 = .ok (.if_icmp .ge 76, 3) := by decide +kernel
theorem dX5_isSpared_65 : decode cX5_isSpared 65 = .ok (.iload 5, 2) := by decide +kernel
theorem dX5_isSpared_67 : decode cX5_isSpared 67 = .ok (.bipush 20, 2) := by decide +kernel
theorem dX5_isSpared_69 : decode cX5_isSpared 69 = .ok (.if_icmp .ge 69, 3) := by decide +kernel
theorem dX5_isSpared_72 : decode cX5_isSpared 72 = .ok (.aload_n 0, 1) := by decide +kernel
theorem dX5_isSpared_73 : decode cX5_isSpared 73 = .ok (.getfield 12, 3) := by decide +kernel
theorem dX5_isSpared_76 : decode cX5_isSpared 76 = .ok (.aload_n 0, 1) := by decide +kernel
theorem dX5_isSpared_77 : decode cX5_isSpared 77 = .ok (.getfield 12, 3) := by decide +kernel
theorem dX5_isSpared_80 : decode cX5_isSpared 80 = .ok (.getfield 148, 3) := by decide +kernel
theorem dX5_isSpared_83 : decode cX5_isSpared 83 = .ok (.iconst 0, 1) := by decide +kernel
theorem dX5_isSpared_84 : decode cX5_isSpared 84 = .ok (.aload_n 1, 1) := by decide +kernel
theorem dX5_isSpared_85 : decode cX5_isSpared 85 = .ok (.getfield 151, 3) := by decide +kernel
theorem dX5_isSpared_88 : decode cX5_isSpared 88 = .ok (.iload 6, 2) := by decide +kernel
theorem dX5_isSpared_90 : decode cX5_isSpared 90 = .ok (.iadd, 1) := by decide +kernel
theorem dX5_isSpared_91 : decode cX5_isSpared 91 = .ok (.invokevirtual 154, 3) := by decide +kernel
theorem dX5_isSpared_94 : decode cX5_isSpared 94 = .ok (.aload_n 0, 1) := by decide +kernel
theorem dX5_isSpared_95 : decode cX5_isSpared 95 = .ok (.getfield 12, 3) := by decide +kernel
theorem dX5_isSpared_98 : decode cX5_isSpared 98 = .ok (.iload 5, 2) := by decide +kernel
theorem dX5_isSpared_100 : decode cX5_isSpared 100 = .ok (.aload_n 1, 1) := by decide +kernel
theorem dX5_isSpared_101 : decode cX5_isSpared 101 = .ok (.getfield 116, 3) := by decide +kernel
theorem dX5_isSpared_104 : decode cX5_isSpared 104 = .ok (.iload_n 2, 1) := by decide +kernel
theorem dX5_isSpared_105 : decode cX5_isSpared 105 = .ok (.iaload, 1) := by decide +kernel
theorem dX5_isSpared_106 : decode cX5_isSpared 106 = .ok (.aload_n 1, 1) := by decide +kernel
theorem dX5_isSpared_107 : decode cX5_isSpared 107 = .ok (.getfield 103, 3) := by decide +kernel
theorem dX5_isSpared_110 : decode cX5_isSpared 110 = .ok (.iload_n 2, 1) := by decide +kernel
theorem dX5_isSpared_111 : decode cX5_isSpared 111 = .ok (.iaload, 1) := by decide +kernel
theorem dX5_isSpared_112 : decode cX5_isSpared 112 = .ok (.aload_n 0, 1) := by decide +kernel
theorem dX5_isSpared_113 : decode cX5_isSpared 113 = .ok (.getfield 12, 3) := by decide +kernel
theorem dX5_isSpared_116 : decode cX5_isSpared 116 = .ok (.getfield 148, 3) := by decide +kernel
theorem dX5_isSpared_119 : decode cX5_isSpared 119 = .ok (.iconst 0, 1) := by decide +kernel
theorem dX5_isSpared_120 : decode cX5_isSpared 120 = .ok (.aload_n 1, 1) := by decide +kernel
theorem dX5_isSpared_121 : decode cX5_isSpared 121 = .ok (.getfield 151, 3) := by decide +kernel
theorem dX5_isSpared_124 : decode cX5_isSpared 124 = .ok (.iload 6, 2) := by decide +kernel
theorem dX5_isSpared_126 : decode cX5_isSpared 126 = .ok (.iadd, 1) := by decide +kernel
theorem dX5_isSpared_127 : decode cX5_isSpared 127 = .ok (.invokevirtual 158, 3) := by decide +kernel
theorem dX5_isSpared_130 : decode cX5_isSpared 130 = .ok (.istore 5, 2) := by decide +kernel
theorem dX5_isSpared_132 : decode cX5_isSpared 132 = .ok (.iinc 6 1, 3) := by decide +kernel
theorem dX5_isSpared_135 : decode cX5_isSpared 135 = .ok (.goto (-76), 3) := by decide +kernel
theorem dX5_isSpared_138 : decode cX5_isSpared 138 = .ok (.iload 5, 2) := by decide +kernel
theorem dX5_isSpared_140 : decode cX5_isSpared 140 = .ok (.bipush 30, 2) := by decide +kernel
theorem dX5_isSpared_142 : decode cX5_isSpared 142 = .ok (.if_icmp .ge 7, 3) := by decide +kernel
theorem dX5_isSpared_145 : decode cX5_isSpared 145 = .ok (.iconst 1, 1) := by decide +kernel
theorem dX5_isSpared_146 : decode cX5_isSpared 146 = .ok (.goto 4, 3) := by decide +kernel
theorem dX5_isSpared_149 : decode cX5_isSpared 149 = .ok (.iconst 0, 1) := by decide +kernel
theorem dX5_isSpared_150 : decode cX5_isSpared 150 = .ok (.ireturn, 1) := by decide +kernel
theorem dX5_greatestDivisor_0 : decode cX5_greatestDivisor 0 = .ok (.lload_n 0, 1) := by decide +kernel
theorem dX5_greatestDivisor_1 : decode cX5_greatestDivisor 1 = .ok (.lstore 4, 2) := by decide +kernel
theorem dX5_greatestDivisor_3 : decode cX5_greatestDivisor 3 = .ok (.lload_n 2, 1) := by decide +kernel
theorem dX5_greatestDivisor_4 : decode cX5_greatestDivisor 4 = .ok (.lstore 6, 2) := by decide +kernel
theorem dX5_greatestDivisor_6 : decode cX5_greatestDivisor 6 = .ok (.iconst 0, 1) := by decide +kernel
theorem dX5_greatestDivisor_7 : decode cX5_greatestDivisor 7 = .ok (.istore 8, 2) := by decide +kernel
theorem dX5_greatestDivisor_9 : decode cX5_greatestDivisor 9 = .ok (.iload 8, 2) := by decide +kernel
theorem dX5_greatestDivisor_11 : decode cX5_greatestDivisor 11 = .ok (.bipush 100, 2) := by decide +kernel
theorem dX5_greatestDivisor_13 : decode cX5_greatestDivisor 13 = .ok (.if_icmp .ge 31, 3) := by decide +kernel
theorem dX5_greatestDivisor_16 : decode cX5_greatestDivisor 16 = .ok (.lload 6, 2) := by decide +kernel
theorem dX5_greatestDivisor_18 : decode cX5_greatestDivisor 18 = .ok (.lconst 0, 1) := by decide +kernel
theorem dX5_greatestDivisor_19 : decode cX5_greatestDivisor 19 = .ok (.lcmp, 1) := by decide +kernel
theorem dX5_greatestDivisor_20 : decode cX5_greatestDivisor 20 = .ok (.ifCond .eq 24, 3) := by decide +kernel
theorem dX5_greatestDivisor_23 : decode cX5_greatestDivisor 23 = .ok (.lload 4, 2) := by decide +kernel
theorem dX5_greatestDivisor_25 : decode cX5_greatestDivisor 25 = .ok (.lload 6, 2) := by decide +kernel
theorem dX5_greatestDivisor_27 : decode cX5_greatestDivisor 27 = .ok (.lrem, 1) := by decide +kernel
theorem dX5_greatestDivisor_28 : decode cX5_greatestDivisor 28 = .ok (.lstore 9, 2) := by decide +kernel
theorem dX5_greatestDivisor_30 : decode cX5_greatestDivisor 30 = .ok (.lload 6, 2) := by decide +kernel
theorem dX5_greatestDivisor_32 : decode cX5_greatestDivisor 32 = .ok (.lstore 4, 2) := by decide +kernel
theorem dX5_greatestDivisor_34 : decode cX5_greatestDivisor 34 = .ok (.lload 9, 2) := by decide +kernel
theorem dX5_greatestDivisor_36 : decode cX5_greatestDivisor 36 = .ok (.lstore 6, 2) := by decide +kernel
theorem dX5_greatestDivisor_38 : decode cX5_greatestDivisor 38 = .ok (.iinc 8 1, 3) := by decide +kernel
theorem dX5_greatestDivisor_41 : decode cX5_greatestDivisor 41 = .ok (.goto (-32), 3) := by decide +kernel
theorem dX5_greatestDivisor_44 : decode cX5_greatestDivisor 44 = .ok (.lload 4, 2) := by decide +kernel
theorem dX5_greatestDivisor_46 : decode cX5_greatestDivisor 46 = .ok (.lreturn, 1) := by decide +kernel
theorem dX5_becameInYears_0 : decode cX5_becameInYears 0 = .ok (.aload_n 1, 1) := by decide +kernel
theorem dX5_becameInYears_1 : decode cX5_becameInYears 1 = .ok (.getfield 96, 3) := by decide +kernel
theorem dX5_becameInYears_4 : decode cX5_becameInYears 4 = .ok (.ifCond .le 10, 3) := by decide +kernel
theorem dX5_becameInYears_7 : decode cX5_becameInYears 7 = .ok (.aload_n 1, 1) := by decide +kernel
theorem dX5_becameInYears_8 : decode cX5_becameInYears 8 = .ok (.getfield 68, 3) := by decide +kernel
theorem dX5_becameInYears_11 : decode cX5_becameInYears 11 = .ok (.ifCond .gt 5, 3) := by decide +kernel
theorem dX5_becameInYears_14 : decode cX5_becameInYears 14 = .ok (.iconst 0, 1) := by decide +kernel
theorem dX5_becameInYears_15 : decode cX5_becameInYears 15 = .ok (.ireturn, 1) := by decide +kernel
theorem dX5_becameInYears_16 : decode cX5_becameInYears 16 = .ok (.aload_n 0, 1) := by decide +kernel
theorem dX5_becameInYears_17 : decode cX5_becameInYears 17 = .ok (.getfield 12, 3) := by decide +kernel
theorem dX5_becameInYears_20 : decode cX5_becameInYears 20 = .ok (.aload_n 1, 1) := by decide +kernel
theorem dX5_becameInYears_21 : decode cX5_becameInYears 21 = .ok (.invokevirtual 50, 3) := by decide +kernel
theorem dX5_becameInYears_24 : decode cX5_becameInYears 24 = .ok (.iload_n 3, 1) := by decide +kernel
theorem dX5_becameInYears_25 : decode cX5_becameInYears 25 = .ok (.i2l, 1) := by decide +kernel
theorem dX5_becameInYears_26 : decode cX5_becameInYears 26 = .ok (.lstore 5, 2) := by decide +kernel
theorem dX5_becameInYears_28 : decode cX5_becameInYears 28 = .ok (.iconst 0, 1) := by decide +kernel
theorem dX5_becameInYears_29 : decode cX5_becameInYears 29 = .ok (.istore 7, 2) := by decide +kernel
theorem dX5_becameInYears_31 : decode cX5_becameInYears 31 = .ok (.iconst 0, 1) := by decide +kernel
theorem dX5_becameInYears_32 : decode cX5_becameInYears 32 = .ok (.istore 8, 2) := by decide +kernel
theorem dX5_becameInYears_34 : decode cX5_becameInYears 34 = .ok (.iload 8, 2) := by decide +kernel
theorem dX5_becameInYears_36 : decode cX5_becameInYears 36 = .ok (.iload_n 2, 1) := by decide +kernel
theorem dX5_becameInYears_37 : decode cX5_becameInYears 37 = .ok (.if_icmp .ge 78, 3) := by decide +kernel
theorem dX5_becameInYears_40 : decode cX5_becameInYears 40 = .ok (.lload 5, 2) := by decide +kernel
theorem dX5_becameInYears_42 : decode cX5_becameInYears 42 = .ok (.ldc2_w 161, 3) := by decide +kernel
theorem dX5_becameInYears_45 : decode cX5_becameInYears 45 = .ok (.lmul, 1) := by decide +kernel
theorem dX5_becameInYears_46 : decode cX5_becameInYears 46 = .ok (.ldc2_w 163, 3) := by decide +kernel
theorem dX5_becameInYears_49 : decode cX5_becameInYears 49 = .ok (.lrem, 1) := by decide +kernel
theorem dX5_becameInYears_50 : decode cX5_becameInYears 50 = .ok (.lstore 5, 2) := by decide +kernel
theorem dX5_becameInYears_52 : decode cX5_becameInYears 52 = .ok (.aload_n 0, 1) := by decide +kernel
theorem dX5_becameInYears_53 : decode cX5_becameInYears 53 = .ok (.lload 5, 2) := by decide +kernel
theorem dX5_becameInYears_55 : decode cX5_becameInYears 55 = .ok (.invokevirtual 165, 3) := by decide +kernel
theorem dX5_becameInYears_58 : decode cX5_becameInYears 58 = .ok (.aload_n 0, 1) := by decide +kernel
theorem dX5_becameInYears_59 : decode cX5_becameInYears 59 = .ok (.getfield 12, 3) := by decide +kernel
theorem dX5_becameInYears_62 : decode cX5_becameInYears 62 = .ok (.invokevirtual 93, 3) := by decide +kernel
theorem dX5_becameInYears_65 : decode cX5_becameInYears 65 = .ok (.istore 9, 2) := by decide +kernel
theorem dX5_becameInYears_67 : decode cX5_becameInYears 67 = .ok (.aload_n 0, 1) := by decide +kernel
theorem dX5_becameInYears_68 : decode cX5_becameInYears 68 = .ok (.getfield 12, 3) := by decide +kernel
theorem dX5_becameInYears_71 : decode cX5_becameInYears 71 = .ok (.invokevirtual 65, 3) := by decide +kernel
theorem dX5_becameInYears_74 : decode cX5_becameInYears 74 = .ok (.iload 7, 2) := by decide +kernel
theorem dX5_becameInYears_76 : decode cX5_becameInYears 76 = .ok (.iload 9, 2) := by decide +kernel
theorem dX5_becameInYears_78 : decode cX5_becameInYears 78 = .ok (.iload 4, 2) := by decide +kernel
theorem dX5_becameInYears_80 : decode cX5_becameInYears 80 = .ok (.ifCond .ne 13, 3) := by decide +kernel
theorem dX5_becameInYears_83 : decode cX5_becameInYears 83 = .ok (.aload_n 0, 1) := by decide +kernel
theorem dX5_becameInYears_84 : decode cX5_becameInYears 84 = .ok (.getfield 12, 3) := by decide +kernel
theorem dX5_becameInYears_87 : decode cX5_becameInYears 87 = .ok (.invokevirtual 57, 3) := by decide +kernel
theorem dX5_becameInYears_90 : decode cX5_becameInYears 90 = .ok (.goto 12, 3) := by decide +kernel
theorem dX5_becameInYears_93 : decode cX5_becameInYears 93 = .ok (.aload_n 0, 1) := by decide +kernel
theorem dX5_becameInYears_94 : decode cX5_becameInYears 94 = .ok (.getfield 12, 3) := by decide +kernel
theorem dX5_becameInYears_97 : decode cX5_becameInYears 97 = .ok (.bipush 20, 2) := by decide +kernel
theorem dX5_becameInYears_99 : decode cX5_becameInYears 99 = .ok (.invokevirtual 61, 3) := by decide +kernel
theorem dX5_becameInYears_102 : decode cX5_becameInYears 102 = .ok (.iand, 1) := by decide +kernel
theorem dX5_becameInYears_103 : decode cX5_becameInYears 103 = .ok (.invokestatic 82, 3) := by decide +kernel
theorem dX5_becameInYears_106 : decode cX5_becameInYears 106 = .ok (.iadd, 1) := by decide +kernel
theorem dX5_becameInYears_107 : decode cX5_becameInYears 107 = .ok (.istore 7, 2) := by decide +kernel
theorem dX5_becameInYears_109 : decode cX5_becameInYears 109 = .ok (.iinc 8 1, 3) := by decide +kernel
theorem dX5_becameInYears_112 : decode cX5_becameInYears 112 = .ok (.goto (-78), 3) := by decide +kernel
theorem dX5_becameInYears_115 : decode cX5_becameInYears 115 = .ok (.iload 7, 2) := by decide +kernel
theorem dX5_becameInYears_117 : decode cX5_becameInYears 117 = .ok (.ireturn, 1) := by decide +kernel
theorem dX5_draw_0 : decode cX5_draw 0 = .ok (.lload_n 1, 1) := by decide +kernel
theorem dX5_draw_1 : decode cX5_draw 1 = .ok (.ldc2_w 169, 3) := by decide +kernel
theorem dX5_draw_4 : decode cX5_draw 4 = .ok (.lrem, 1) := by decide +kernel
theorem dX5_draw_5 : decode cX5_draw 5 = .ok (.lconst 0, 1) := by decide +kernel
theorem dX5_draw_6 : decode cX5_draw 6 = .ok (.lcmp, 1) := by decide +kernel
theorem dX5_draw_7 : decode cX5_draw 7 = .ok (.ifCond .ne 16, 3) := by decide +kernel
theorem dX5_draw_10 : decode cX5_draw 10 = .ok (.aload_n 0, 1) := by decide +kernel
theorem dX5_draw_11 : decode cX5_draw 11 = .ok (.getfield 12, 3) := by decide +kernel
theorem dX5_draw_14 : decode cX5_draw 14 = .ok (.lload_n 1, 1) := by decide +kernel
theorem dX5_draw_15 : decode cX5_draw 15 = .ok (.ldc2_w 134, 3) := by decide +kernel
theorem dX5_draw_18 : decode cX5_draw 18 = .ok (.lrem, 1) := by decide +kernel
theorem dX5_draw_19 : decode cX5_draw 19 = .ok (.l2i, 1) := by decide +kernel
theorem dX5_draw_20 : decode cX5_draw 20 = .ok (.putfield 90, 3) := by decide +kernel
theorem dX5_draw_23 : decode cX5_draw 23 = .ok (.lload_n 1, 1) := by decide +kernel
theorem dX5_draw_24 : decode cX5_draw 24 = .ok (.aload_n 0, 1) := by decide +kernel
theorem dX5_draw_25 : decode cX5_draw 25 = .ok (.getfield 12, 3) := by decide +kernel
theorem dX5_draw_28 : decode cX5_draw 28 = .ok (.getfield 96, 3) := by decide +kernel
theorem dX5_draw_31 : decode cX5_draw 31 = .ok (.i2l, 1) := by decide +kernel
theorem dX5_draw_32 : decode cX5_draw 32 = .ok (.lrem, 1) := by decide +kernel
theorem dX5_draw_33 : decode cX5_draw 33 = .ok (.l2i, 1) := by decide +kernel
theorem dX5_draw_34 : decode cX5_draw 34 = .ok (.istore_n 3, 1) := by decide +kernel
theorem dX5_draw_35 : decode cX5_draw 35 = .ok (.aload_n 0, 1) := by decide +kernel
theorem dX5_draw_36 : decode cX5_draw 36 = .ok (.getfield 12, 3) := by decide +kernel
theorem dX5_draw_39 : decode cX5_draw 39 = .ok (.iload_n 3, 1) := by decide +kernel
theorem dX5_draw_40 : decode cX5_draw 40 = .ok (.invokevirtual 171, 3) := by decide +kernel
theorem dX5_draw_43 : decode cX5_draw 43 = .ok (.ifCond .ne 22, 3) := by decide +kernel
theorem dX5_draw_46 : decode cX5_draw 46 = .ok (.aload_n 0, 1) := by decide +kernel
theorem dX5_draw_47 : decode cX5_draw 47 = .ok (.getfield 12, 3) := by decide +kernel
theorem dX5_draw_50 : decode cX5_draw 50 = .ok (.iload_n 3, 1) := by decide +kernel
theorem dX5_draw_51 : decode cX5_draw 51 = .ok (.lload_n 1, 1) := by decide +kernel
theorem dX5_draw_52 : decode cX5_draw 52 = .ok (.aload_n 0, 1) := by decide +kernel
theorem dX5_draw_53 : decode cX5_draw 53 = .ok (.getfield 12, 3) := by decide +kernel
theorem dX5_draw_56 : decode cX5_draw 56 = .ok (.getfield 68, 3) := by decide +kernel
theorem dX5_draw_59 : decode cX5_draw 59 = .ok (.i2l, 1) := by decide +kernel
theorem dX5_draw_60 : decode cX5_draw 60 = .ok (.lrem, 1) := by decide +kernel
theorem dX5_draw_61 : decode cX5_draw 61 = .ok (.l2i, 1) := by decide +kernel
theorem dX5_draw_62 : decode cX5_draw 62 = .ok (.invokevirtual 174, 3) := by decide +kernel
theorem dX5_draw_65 : decode cX5_draw 65 = .ok (.return_, 1) := by decide +kernel
theorem dX6_init_0 : decode cX6_init 0 = .ok (.aload_n 0, 1) := by decide +kernel
theorem dX6_init_1 : decode cX6_init 1 = .ok (.invokespecial 3, 3) := by decide +kernel
theorem dX6_init_4 : decode cX6_init 4 = .ok (.aload_n 0, 1) := by decide +kernel
theorem dX6_init_5 : decode cX6_init 5 = .ok (.new 9, 3) := by decide +kernel
theorem dX6_init_8 : decode cX6_init 8 = .ok (.dup, 1) := by decide +kernel
theorem dX6_init_9 : decode cX6_init 9 = .ok (.invokespecial 11, 3) := by decide +kernel
theorem dX6_init_12 : decode cX6_init 12 = .ok (.putfield 12, 3) := by decide +kernel
theorem dX6_init_15 : decode cX6_init 15 = .ok (.aload_n 0, 1) := by decide +kernel
theorem dX6_init_16 : decode cX6_init 16 = .ok (.iconst 0, 1) := by decide +kernel
theorem dX6_init_17 : decode cX6_init 17 = .ok (.putfield 18, 3) := by decide +kernel
theorem dX6_init_20 : decode cX6_init 20 = .ok (.aload_n 0, 1) := by decide +kernel
theorem dX6_init_21 : decode cX6_init 21 = .ok (.iconst 0, 1) := by decide +kernel
theorem dX6_init_22 : decode cX6_init 22 = .ok (.putfield 22, 3) := by decide +kernel
theorem dX6_init_25 : decode cX6_init 25 = .ok (.aload_n 0, 1) := by decide +kernel
theorem dX6_init_26 : decode cX6_init 26 = .ok (.iconst 0, 1) := by decide +kernel
theorem dX6_init_27 : decode cX6_init 27 = .ok (.putfield 25, 3) := by decide +kernel
theorem dX6_init_30 : decode cX6_init 30 = .ok (.aload_n 0, 1) := by decide +kernel
theorem dX6_init_31 : decode cX6_init 31 = .ok (.bipush 90, 2) := by decide +kernel
theorem dX6_init_33 : decode cX6_init 33 = .ok (.newarray .int, 2) := by decide +kernel
theorem dX6_init_35 : decode cX6_init 35 = .ok (.putfield 28, 3) := by decide +kernel
theorem dX6_init_38 : decode cX6_init 38 = .ok (.aload_n 0, 1) := by decide +kernel
theorem dX6_init_39 : decode cX6_init 39 = .ok (.iconst 0, 1) := by decide +kernel
theorem dX6_init_40 : decode cX6_init 40 = .ok (.putfield 32, 3) := by decide +kernel
theorem dX6_init_43 : decode cX6_init 43 = .ok (.return_, 1) := by decide +kernel
theorem dX6_takeByte_0 : decode cX6_takeByte 0 = .ok (.aload_n 0, 1) := by decide +kernel
theorem dX6_takeByte_1 : decode cX6_takeByte 1 = .ok (.getfield 18, 3) := by decide +kernel
theorem dX6_takeByte_4 : decode cX6_takeByte 4 = .ok (.bipush 90, 2) := by decide +kernel
theorem dX6_takeByte_6 : decode cX6_takeByte 6 = .ok (.if_icmp .lt 5, 3) := by decide +kernel
theorem dX6_takeByte_9 : decode cX6_takeByte 9 = .ok (.iconst 0, 1) := by decide +kernel
theorem dX6_takeByte_10 : decode cX6_takeByte 10 = .ok (.ireturn, 1) := by decide +kernel
theorem dX6_takeByte_11 : decode cX6_takeByte 11 = .ok (.aload_n 0, 1) := by decide +kernel
theorem dX6_takeByte_12 : decode cX6_takeByte 12 = .ok (.getfield 28, 3) := by decide +kernel
theorem dX6_takeByte_15 : decode cX6_takeByte 15 = .ok (.aload_n 0, 1) := by decide +kernel
theorem dX6_takeByte_16 : decode cX6_takeByte 16 = .ok (.getfield 18, 3) := by decide +kernel
theorem dX6_takeByte_19 : decode cX6_takeByte 19 = .ok (.iload_n 1, 1) := by decide +kernel
theorem dX6_takeByte_20 : decode cX6_takeByte 20 = .ok (.iastore, 1) := by decide +kernel
theorem dX6_takeByte_21 : decode cX6_takeByte 21 = .ok (.aload_n 0, 1) := by decide +kernel
theorem dX6_takeByte_22 : decode cX6_takeByte 22 = .ok (.dup, 1) := by decide +kernel
theorem dX6_takeByte_23 : decode cX6_takeByte 23 = .ok (.getfield 18, 3) := by decide +kernel
theorem dX6_takeByte_26 : decode cX6_takeByte 26 = .ok (.iconst 1, 1) := by decide +kernel
theorem dX6_takeByte_27 : decode cX6_takeByte 27 = .ok (.iadd, 1) := by decide +kernel
theorem dX6_takeByte_28 : decode cX6_takeByte 28 = .ok (.putfield 18, 3) := by decide +kernel
theorem dX6_takeByte_31 : decode cX6_takeByte 31 = .ok (.iconst 1, 1) := by decide +kernel
theorem dX6_takeByte_32 : decode cX6_takeByte 32 = .ok (.ireturn, 1) := by decide +kernel
theorem dX6_read_0 : decode cX6_read 0 = .ok (.aload_n 0, 1) := by decide +kernel
theorem dX6_read_1 : decode cX6_read 1 = .ok (.iconst 0, 1) := by decide +kernel
theorem dX6_read_2 : decode cX6_read 2 = .ok (.putfield 32, 3) := by decide +kernel
theorem dX6_read_5 : decode cX6_read 5 = .ok (.aload_n 0, 1) := by decide +kernel
theorem dX6_read_6 : decode cX6_read 6 = .ok (.getfield 12, 3) := by decide +kernel
theorem dX6_read_9 : decode cX6_read 9 = .ok (.invokevirtual 35, 3) := by decide +kernel
theorem dX6_read_12 : decode cX6_read 12 = .ok (.aload_n 0, 1) := by decide +kernel
theorem dX6_read_13 : decode cX6_read 13 = .ok (.invokevirtual 38, 3) := by decide +kernel
theorem dX6_read_16 : decode cX6_read 16 = .ok (.ifCond .eq 21, 3) := by decide +kernel
theorem dX6_read_19 : decode cX6_read 19 = .ok (.aload_n 0, 1) := by decide +kernel
theorem dX6_read_20 : decode cX6_read 20 = .ok (.invokevirtual 42, 3) := by decide +kernel
theorem dX6_read_23 : decode cX6_read 23 = .ok (.ifCond .eq 14, 3) := by decide +kernel
theorem dX6_read_26 : decode cX6_read 26 = .ok (.aload_n 0, 1) := by decide +kernel
theorem dX6_read_27 : decode cX6_read 27 = .ok (.invokevirtual 45, 3) := by decide +kernel
theorem dX6_read_30 : decode cX6_read 30 = .ok (.ifCond .eq 7, 3) := by decide +kernel
theorem dX6_read_33 : decode cX6_read 33 = .ok (.iconst 1, 1) := by decide +kernel
theorem dX6_read_34 : decode cX6_read 34 = .ok (.goto 4, 3) := by decide +kernel
theorem dX6_read_37 : decode cX6_read 37 = .ok (.iconst 0, 1) := by decide +kernel
theorem dX6_read_38 : decode cX6_read 38 = .ok (.istore_n 1, 1) := by decide +kernel
theorem dX6_read_39 : decode cX6_read 39 = .ok (.aload_n 0, 1) := by decide +kernel
theorem dX6_read_40 : decode cX6_read 40 = .ok (.iconst 0, 1) := by decide +kernel
theorem dX6_read_41 : decode cX6_read 41 = .ok (.putfield 18, 3) := by decide +kernel
theorem dX6_read_44 : decode cX6_read 44 = .ok (.iload_n 1, 1) := by decide +kernel
theorem dX6_read_45 : decode cX6_read 45 = .ok (.ireturn, 1) := by decide +kernel
theorem dX6_readLaw_0 : decode cX6_readLaw 0 = .ok (.aload_n 0, 1) := by decide +kernel
theorem dX6_readLaw_1 : decode cX6_readLaw 1 = .ok (.bipush 118, 2) := by decide +kernel
theorem dX6_readLaw_3 : decode cX6_readLaw 3 = .ok (.invokevirtual 48, 3) := by decide +kernel
theorem dX6_readLaw_6 : decode cX6_readLaw 6 = .ok (.ifCond .ne 5, 3) := by decide +kernel
theorem dX6_readLaw_9 : decode cX6_readLaw 9 = .ok (.iconst 0, 1) := by decide +kernel
theorem dX6_readLaw_10 : decode cX6_readLaw 10 = .ok (.ireturn, 1) := by decide +kernel
theorem dX6_readLaw_11 : decode cX6_readLaw 11 = .ok (.aload_n 0, 1) := by decide +kernel
theorem dX6_readLaw_12 : decode cX6_readLaw 12 = .ok (.getfield 12, 3) := by decide +kernel
theorem dX6_readLaw_15 : decode cX6_readLaw 15 = .ok (.aload_n 0, 1) := by decide +kernel
theorem dX6_readLaw_16 : decode cX6_readLaw 16 = .ok (.iconst 0, 1) := by decide +kernel
theorem dX6_readLaw_17 : decode cX6_readLaw 17 = .ok (.bipush 20, 2) := by decide +kernel
theorem dX6_readLaw_19 : decode cX6_readLaw 19 = .ok (.invokevirtual 52, 3) := by decide +kernel
theorem dX6_readLaw_22 : decode cX6_readLaw 22 = .ok (.putfield 56, 3) := by decide +kernel
theorem dX6_readLaw_25 : decode cX6_readLaw 25 = .ok (.aload_n 0, 1) := by decide +kernel
theorem dX6_readLaw_26 : decode cX6_readLaw 26 = .ok (.getfield 12, 3) := by decide +kernel
theorem dX6_readLaw_29 : decode cX6_readLaw 29 = .ok (.getfield 56, 3) := by decide +kernel
theorem dX6_readLaw_32 : decode cX6_readLaw 32 = .ok (.iconst (-1), 1) := by decide +kernel
theorem dX6_readLaw_33 : decode cX6_readLaw 33 = .ok (.if_icmp .eq 12, 3) := by decide +kernel
theorem dX6_readLaw_36 : decode cX6_readLaw 36 = .ok (.aload_n 0, 1) := by decide +kernel
theorem dX6_readLaw_37 : decode cX6_readLaw 37 = .ok (.bipush 44, 2) := by decide +kernel
theorem dX6_readLaw_39 : decode cX6_readLaw 39 = .ok (.invokevirtual 48, 3) := by decide +kernel
theorem dX6_readLaw_42 : decode cX6_readLaw 42 = .ok (.ifCond .ne 5, 3) := by decide +kernel
theorem dX6_readLaw_45 : decode cX6_readLaw 45 = .ok (.iconst 0, 1) := by decide +kernel
theorem dX6_readLaw_46 : decode cX6_readLaw 46 = .ok (.ireturn, 1) := by decide +kernel
theorem dX6_readLaw_47 : decode cX6_readLaw 47 = .ok (.aload_n 0, 1) := by decide +kernel
theorem dX6_readLaw_48 : decode cX6_readLaw 48 = .ok (.getfield 12, 3) := by decide +kernel
theorem dX6_readLaw_51 : decode cX6_readLaw 51 = .ok (.aload_n 0, 1) := by decide +kernel
theorem dX6_readLaw_52 : decode cX6_readLaw 52 = .ok (.iconst 0, 1) := by decide +kernel
theorem dX6_readLaw_53 : decode cX6_readLaw 53 = .ok (.bipush 60, 2) := by decide +kernel
theorem dX6_readLaw_55 : decode cX6_readLaw 55 = .ok (.invokevirtual 52, 3) := by decide +kernel
theorem dX6_readLaw_58 : decode cX6_readLaw 58 = .ok (.putfield 59, 3) := by decide +kernel
theorem dX6_readLaw_61 : decode cX6_readLaw 61 = .ok (.aload_n 0, 1) := by decide +kernel
theorem dX6_readLaw_62 : decode cX6_readLaw 62 = .ok (.getfield 12, 3) := by decide +kernel
theorem dX6_readLaw_65 : decode cX6_readLaw 65 = .ok (.getfield 59, 3) := by decide +kernel
theorem dX6_readLaw_68 : decode cX6_readLaw 68 = .ok (.iconst (-1), 1) := by decide +kernel
theorem dX6_readLaw_69 : decode cX6_readLaw 69 = .ok (.if_icmp .eq 16, 3) := by decide +kernel
theorem dX6_readLaw_72 : decode cX6_readLaw 72 = .ok (.aload_n 0, 1) := by decide +kernel
theorem dX6_readLaw_73 : decode cX6_readLaw 73 = .ok (.bipush 59, 2) := by decide +kernel
theorem dX6_readLaw_75 : decode cX6_readLaw 75 = .ok (.invokevirtual 48, 3) := by decide +kernel
theorem dX6_readLaw_78 : decode cX6_readLaw 78 = .ok (.ifCond .eq 7, 3) := by decide +kernel
theorem dX6_readLaw_81 : decode cX6_readLaw 81 = .ok (.iconst 1, 1) := by decide +kernel
theorem dX6_readLaw_82 : decode cX6_readLaw 82 = .ok (.goto 4, 3) := by decide +kernel
theorem dX6_readLaw_85 : decode cX6_readLaw 85 = .ok (.iconst 0, 1) := by decide +kernel
theorem dX6_readLaw_86 : decode cX6_readLaw 86 = .ok (.ireturn, 1) := by decide +kernel
theorem dX6_readRooms_0 : decode cX6_readRooms 0 = .ok (.iconst 0, 1) := by decide +kernel
theorem dX6_readRooms_1 : decode cX6_readRooms 1 = .ok (.istore_n 1, 1) := by decide +kernel
theorem dX6_readRooms_2 : decode cX6_readRooms 2 = .ok (.iload_n 1, 1) := by decide +kernel
theorem dX6_readRooms_3 : decode cX6_readRooms 3 = .ok (.bipush 10, 2) := by decide +kernel
theorem dX6_readRooms_5 : decode cX6_readRooms 5 = .ok (.if_icmp .ge 27, 3) := by decide +kernel
theorem dX6_readRooms_8 : decode cX6_readRooms 8 = .ok (.aload_n 0, 1) := by decide +kernel
theorem dX6_readRooms_9 : decode cX6_readRooms 9 = .ok (.invokevirtual 62, 3) := by decide +kernel
theorem dX6_readRooms_12 : decode cX6_readRooms 12 = .ok (.bipush 114, 2) := by decide +kernel
theorem dX6_readRooms_14 : decode cX6_readRooms 14 = .ok (.if_icmp .ne 18, 3) := by decide +kernel
theorem dX6_readRooms_17 : decode cX6_readRooms 17 = .ok (.aload_n 0, 1) := by decide +kernel
theorem dX6_readRooms_18 : decode cX6_readRooms 18 = .ok (.invokevirtual 66, 3) := by decide +kernel
theorem dX6_readRooms_21 : decode cX6_readRooms 21 = .ok (.ifCond .ne 5, 3) := by decide +kernel
theorem dX6_readRooms_24 : decode cX6_readRooms 24 = .ok (.iconst 0, 1) := by decide +kernel
theorem dX6_readRooms_25 : decode cX6_readRooms 25 = .ok (.ireturn, 1) := by decide +kernel
theorem dX6_readRooms_26 : decode cX6_readRooms 26 = .ok (.iinc 1 1, 3) := by decide +kernel
theorem dX6_readRooms_29 : decode cX6_readRooms 29 = .ok (.goto (-27), 3) := by decide +kernel
theorem dX6_readRooms_32 : decode cX6_readRooms 32 = .ok (.aload_n 0, 1) := by decide +kernel
theorem dX6_readRooms_33 : decode cX6_readRooms 33 = .ok (.getfield 12, 3) := by decide +kernel
theorem dX6_readRooms_36 : decode cX6_readRooms 36 = .ok (.getfield 69, 3) := by decide +kernel
theorem dX6_readRooms_39 : decode cX6_readRooms 39 = .ok (.iconst 3, 1) := by decide +kernel
theorem dX6_readRooms_40 : decode cX6_readRooms 40 = .ok (.if_icmp .ge 9, 3) := by decide +kernel
theorem dX6_readRooms_43 : decode cX6_readRooms 43 = .ok (.aload_n 0, 1) := by decide +kernel
theorem dX6_readRooms_44 : decode cX6_readRooms 44 = .ok (.iconst 1, 1) := by decide +kernel
theorem dX6_readRooms_45 : decode cX6_readRooms 45 = .ok (.invokevirtual 72, 3) := by decide +kernel
theorem dX6_readRooms_48 : decode cX6_readRooms 48 = .ok (.ireturn, 1) := by decide +kernel
theorem dX6_readRooms_49 : decode cX6_readRooms 49 = .ok (.aload_n 0, 1) := by decide +kernel
theorem dX6_readRooms_50 : decode cX6_readRooms 50 = .ok (.invokevirtual 62, 3) := by decide +kernel
theorem dX6_readRooms_53 : decode cX6_readRooms 53 = .ok (.bipush 114, 2) := by decide +kernel
theorem dX6_readRooms_55 : decode cX6_readRooms 55 = .ok (.if_icmp .ne 11, 3) := by decide +kernel
theorem dX6_readRooms_58 : decode cX6_readRooms 58 = .ok (.aload_n 0, 1) := by decide +kernel
theorem dX6_readRooms_59 : decode cX6_readRooms 59 = .ok (.iconst 3, 1) := by decide +kernel
theorem dX6_readRooms_60 : decode cX6_readRooms 60 = .ok (.invokevirtual 72, 3) := by decide +kernel
theorem dX6_readRooms_63 : decode cX6_readRooms 63 = .ok (.ifCond .eq 7, 3) := by decide +kernel
theorem dX6_readRooms_66 : decode cX6_readRooms 66 = .ok (.iconst 1, 1) := by decide +kernel
theorem dX6_readRooms_67 : decode cX6_readRooms 67 = .ok (.goto 4, 3) := by decide +kernel
theorem dX6_readRooms_70 : decode cX6_readRooms 70 = .ok (.iconst 0, 1) := by decide +kernel
theorem dX6_readRooms_71 : decode cX6_readRooms 71 = .ok (.ireturn, 1) := by decide +kernel
theorem dX6_readRoom_0 : decode cX6_readRoom 0 = .ok (.aload_n 0, 1) := by decide +kernel
theorem dX6_readRoom_1 : decode cX6_readRoom 1 = .ok (.bipush 114, 2) := by decide +kernel
theorem dX6_readRoom_3 : decode cX6_readRoom 3 = .ok (.invokevirtual 48, 3) := by decide +kernel
theorem dX6_readRoom_6 : decode cX6_readRoom 6 = .ok (.ifCond .ne 5, 3) := by decide +kernel
theorem dX6_readRoom_9 : decode cX6_readRoom 9 = .ok (.iconst 0, 1) := by decide +kernel
theorem dX6_readRoom_10 : decode cX6_readRoom 10 = .ok (.ireturn, 1) := by decide +kernel
theorem dX6_readRoom_11 : decode cX6_readRoom 11 = .ok (.aload_n 0, 1) := by decide +kernel
theorem dX6_readRoom_12 : decode cX6_readRoom 12 = .ok (.iconst 0, 1) := by decide +kernel
theorem dX6_readRoom_13 : decode cX6_readRoom 13 = .ok (.bipush 9, 2) := by decide +kernel
theorem dX6_readRoom_15 : decode cX6_readRoom 15 = .ok (.invokevirtual 52, 3) := by decide +kernel
theorem dX6_readRoom_18 : decode cX6_readRoom 18 = .ok (.istore_n 1, 1) := by decide +kernel
theorem dX6_readRoom_19 : decode cX6_readRoom 19 = .ok (.iload_n 1, 1) := by decide +kernel
theorem dX6_readRoom_20 : decode cX6_readRoom 20 = .ok (.iconst (-1), 1) := by decide +kernel
theorem dX6_readRoom_21 : decode cX6_readRoom 21 = .ok (.if_icmp .eq 12, 3) := by decide +kernel
theorem dX6_readRoom_24 : decode cX6_readRoom 24 = .ok (.aload_n 0, 1) := by decide +kernel
theorem dX6_readRoom_25 : decode cX6_readRoom 25 = .ok (.bipush 59, 2) := by decide +kernel
theorem dX6_readRoom_27 : decode cX6_readRoom 27 = .ok (.invokevirtual 48, 3) := by decide +kernel
theorem dX6_readRoom_30 : decode cX6_readRoom 30 = .ok (.ifCond .ne 5, 3) := by decide +kernel
theorem dX6_readRoom_33 : decode cX6_readRoom 33 = .ok (.iconst 0, 1) := by decide +kernel
theorem dX6_readRoom_34 : decode cX6_readRoom 34 = .ok (.ireturn, 1) := by decide +kernel
theorem dX6_readRoom_35 : decode cX6_readRoom 35 = .ok (.aload_n 0, 1) := by decide +kernel
theorem dX6_readRoom_36 : decode cX6_readRoom 36 = .ok (.getfield 12, 3) := by decide +kernel
theorem dX6_readRoom_39 : decode cX6_readRoom 39 = .ok (.iload_n 1, 1) := by decide +kernel
theorem dX6_readRoom_40 : decode cX6_readRoom 40 = .ok (.invokevirtual 75, 3) := by decide +kernel
theorem dX6_readRoom_43 : decode cX6_readRoom 43 = .ok (.iconst 1, 1) := by decide +kernel
theorem dX6_readRoom_44 : decode cX6_readRoom 44 = .ok (.ireturn, 1) := by decide +kernel
theorem dX6_readThings_0 : decode cX6_readThings 0 = .ok (.iconst 0, 1) := by decide +kernel
theorem dX6_readThings_1 : decode cX6_readThings 1 = .ok (.istore_n 1, 1) := by decide +kernel
theorem dX6_readThings_2 : decode cX6_readThings 2 = .ok (.iload_n 1, 1) := by decide +kernel
theorem dX6_readThings_3 : decode cX6_readThings 3 = .ok (.bipush 6, 2) := by decide +kernel
theorem dX6_readThings_5 : decode cX6_readThings 5 = .ok (.if_icmp .ge 33, 3) := by decide +kernel
theorem dX6_readThings_8 : decode cX6_readThings 8 = .ok (.iload_n 1, 1) := by decide +kernel
theorem dX6_readThings_9 : decode cX6_readThings 9 = .ok (.ifCond .eq 14, 3) := by decide +kernel
theorem dX6_readThings_12 : decode cX6_readThings 12 = .ok (.aload_n 0, 1) := by decide +kernel
theorem dX6_readThings_13 : decode cX6_readThings 13 = .ok (.getfield 32, 3) := by decide +kernel
theorem dX6_readThings_16 : decode cX6_readThings 16 = .ok (.aload_n 0, 1) := by decide +kernel
theorem dX6_readThings_17 : decode cX6_readThings 17 = .ok (.getfield 18, 3) := by decide +kernel
theorem dX6_readThings_20 : decode cX6_readThings 20 = .ok (.if_icmp .ge 18, 3) := by decide +kernel
theorem dX6_readThings_23 : decode cX6_readThings 23 = .ok (.aload_n 0, 1) := by decide +kernel
theorem dX6_readThings_24 : decode cX6_readThings 24 = .ok (.invokevirtual 79, 3) := by decide +kernel
theorem dX6_readThings_27 : decode cX6_readThings 27 = .ok (.ifCond .ne 5, 3) := by decide +kernel
theorem dX6_readThings_30 : decode cX6_readThings 30 = .ok (.iconst 0, 1) := by decide +kernel
theorem dX6_readThings_31 : decode cX6_readThings 31 = .ok (.ireturn, 1) := by decide +kernel
theorem dX6_readThings_32 : decode cX6_readThings 32 = .ok (.iinc 1 1, 3) := by decide +kernel
theorem dX6_readThings_35 : decode cX6_readThings 35 = .ok (.goto (-33), 3) := by decide +kernel
theorem dX6_readThings_38 : decode cX6_readThings 38 = .ok (.aload_n 0, 1) := by decide +kernel
theorem dX6_readThings_39 : decode cX6_readThings 39 = .ok (.getfield 32, 3) := by decide +kernel
theorem dX6_readThings_42 : decode cX6_readThings 42 = .ok (.aload_n 0, 1) := by decide +kernel
theorem dX6_readThings_43 : decode cX6_readThings 43 = .ok (.getfield 18, 3) := by decide +kernel
theorem dX6_readThings_46 : decode cX6_readThings 46 = .ok (.if_icmp .ne 5, 3) := by decide +kernel
theorem dX6_readThings_49 : decode cX6_readThings 49 = .ok (.iconst 1, 1) := by decide +kernel
theorem dX6_readThings_50 : decode cX6_readThings 50 = .ok (.ireturn, 1) := by decide +kernel
theorem dX6_readThings_51 : decode cX6_readThings 51 = .ok (.aload_n 0, 1) := by decide +kernel
theorem dX6_readThings_52 : decode cX6_readThings 52 = .ok (.aload_n 0, 1) := by decide +kernel
theorem dX6_readThings_53 : decode cX6_readThings 53 = .ok (.invokevirtual 62, 3) := by decide +kernel
theorem dX6_readThings_56 : decode cX6_readThings 56 = .ok (.invokestatic 82, 3) := by decide +kernel
theorem dX6_readThings_59 : decode cX6_readThings 59 = .ok (.ifCond .ne 7, 3) := by decide +kernel
theorem dX6_readThings_62 : decode cX6_readThings 62 = .ok (.iconst 1, 1) := by decide +kernel
theorem dX6_readThings_63 : decode cX6_readThings 63 = .ok (.goto 4, 3) := by decide +kernel
theorem dX6_readThings_66 : decode cX6_readThings 66 = .ok (.iconst 3, 1) := by decide +kernel
theorem dX6_readThings_67 : decode cX6_readThings 67 = .ok (.invokevirtual 72, 3) := by decide +kernel
theorem dX6_readThings_70 : decode cX6_readThings 70 = .ok (.ireturn, 1) := by decide +kernel
theorem dX6_readThing_0 : decode cX6_readThing 0 = .ok (.aload_n 0, 1) := by decide +kernel
theorem dX6_readThing_1 : decode cX6_readThing 1 = .ok (.invokevirtual 62, 3) := by decide +kernel
theorem dX6_readThing_4 : decode cX6_readThing 4 = .ok (.invokestatic 82, 3) := by decide +kernel
theorem dX6_readThing_7 : decode cX6_readThing 7 = .ok (.istore_n 1, 1) := by decide +kernel
theorem dX6_readThing_8 : decode cX6_readThing 8 = .ok (.iload_n 1, 1) := by decide +kernel
theorem dX6_readThing_9 : decode cX6_readThing 9 = .ok (.ifCond .ne 9, 3) := by decide +kernel
theorem dX6_readThing_12 : decode cX6_readThing 12 = .ok (.aload_n 0, 1) := by decide +kernel
theorem dX6_readThing_13 : decode cX6_readThing 13 = .ok (.iconst 1, 1) := by decide +kernel
theorem dX6_readThing_14 : decode cX6_readThing 14 = .ok (.invokevirtual 72, 3) := by decide +kernel
theorem dX6_readThing_17 : decode cX6_readThing 17 = .ok (.ireturn, 1) := by decide +kernel
theorem dX6_readThing_18 : decode cX6_readThing 18 = .ok (.aload_n 0, 1) := by decide +kernel
theorem dX6_readThing_19 : decode cX6_readThing 19 = .ok (.dup, 1) := by decide +kernel
theorem dX6_readThing_20 : decode cX6_readThing 20 = .ok (.getfield 32, 3) := by decide +kernel
theorem dX6_readThing_23 : decode cX6_readThing 23 = .ok (.iconst 1, 1) := by decide +kernel
theorem dX6_readThing_24 : decode cX6_readThing 24 = .ok (.iadd, 1) := by decide +kernel
theorem dX6_readThing_25 : decode cX6_readThing 25 = .ok (.putfield 32, 3) := by decide +kernel
theorem dX6_readThing_28 : decode cX6_readThing 28 = .ok (.aload_n 0, 1) := by decide +kernel
theorem dX6_readThing_29 : decode cX6_readThing 29 = .ok (.iconst 0, 1) := by decide +kernel
theorem dX6_readThing_30 : decode cX6_readThing 30 = .ok (.aload_n 0, 1) := by decide +kernel
theorem dX6_readThing_31 : decode cX6_readThing 31 = .ok (.getfield 12, 3) := by decide +kernel
theorem dX6_readThing_34 : decode cX6_readThing 34 = .ok (.getfield 69, 3) := by decide +kernel
theorem dX6_readThing_37 : decode cX6_readThing 37 = .ok (.iconst 1, 1) := by decide +kernel
theorem dX6_readThing_38 : decode cX6_readThing 38 = .ok (.isub, 1) := by decide +kernel
theorem dX6_readThing_39 : decode cX6_readThing 39 = .ok (.invokevirtual 52, 3) := by decide +kernel
theorem dX6_readThing_42 : decode cX6_readThing 42 = .ok (.istore_n 2, 1) := by decide +kernel
theorem dX6_readThing_43 : decode cX6_readThing 43 = .ok (.iload_n 2, 1) := by decide +kernel
theorem dX6_readThing_44 : decode cX6_readThing 44 = .ok (.iconst (-1), 1) := by decide +kernel
theorem dX6_readThing_45 : decode cX6_readThing 45 = .ok (.if_icmp .eq 12, 3) := by decide +kernel
theorem dX6_readThing_48 : decode cX6_readThing 48 = .ok (.aload_n 0, 1) := by decide +kernel
theorem dX6_readThing_49 : decode cX6_readThing 49 = .ok (.bipush 44, 2) := by decide +kernel
theorem dX6_readThing_51 : decode cX6_readThing 51 = .ok (.invokevirtual 48, 3) := by decide +kernel
theorem dX6_readThing_54 : decode cX6_readThing 54 = .ok (.ifCond .ne 5, 3) := by decide +kernel
theorem dX6_readThing_57 : decode cX6_readThing 57 = .ok (.iconst 0, 1) := by decide +kernel
theorem dX6_readThing_58 : decode cX6_readThing 58 = .ok (.ireturn, 1) := by decide +kernel
theorem dX6_readThing_59 : decode cX6_readThing 59 = .ok (.aload_n 0, 1) := by decide +kernel
theorem dX6_readThing_60 : decode cX6_readThing 60 = .ok (.iconst 1, 1) := by decide +kernel
theorem dX6_readThing_61 : decode cX6_readThing 61 = .ok (.bipush 9, 2) := by decide +kernel
theorem dX6_readThing_63 : decode cX6_readThing 63 = .ok (.invokevirtual 52, 3) := by decide +kernel
theorem dX6_readThing_66 : decode cX6_readThing 66 = .ok (.istore_n 3, 1) := by decide +kernel
theorem dX6_readThing_67 : decode cX6_readThing 67 = .ok (.iload_n 3, 1) := by decide +kernel
theorem dX6_readThing_68 : decode cX6_readThing 68 = .ok (.iconst (-1), 1) := by decide +kernel
theorem dX6_readThing_69 : decode cX6_readThing 69 = .ok (.if_icmp .eq 12, 3) := by decide +kernel
theorem dX6_readThing_72 : decode cX6_readThing 72 = .ok (.aload_n 0, 1) := by decide +kernel
theorem dX6_readThing_73 : decode cX6_readThing 73 = .ok (.bipush 59, 2) := by decide +kernel
theorem dX6_readThing_75 : decode cX6_readThing 75 = .ok (.invokevirtual 48, 3) := by decide +kernel
theorem dX6_readThing_78 : decode cX6_readThing 78 = .ok (.ifCond .ne 5, 3) := by decide +kernel
theorem dX6_readThing_81 : decode cX6_readThing 81 = .ok (.iconst 0, 1) := by decide +kernel
theorem dX6_readThing_82 : decode cX6_readThing 82 = .ok (.ireturn, 1) := by decide +kernel
theorem dX6_readThing_83 : decode cX6_readThing 83 = .ok (.aload_n 0, 1) := by decide +kernel
theorem dX6_readThing_84 : decode cX6_readThing 84 = .ok (.getfield 12, 3) := by decide +kernel
theorem dX6_readThing_87 : decode cX6_readThing 87 = .ok (.iload_n 1, 1) := by decide +kernel
theorem dX6_readThing_88 : decode cX6_readThing 88 = .ok (.iload_n 2, 1) := by decide +kernel
theorem dX6_readThing_89 : decode cX6_readThing 89 = .ok (.iload_n 3, 1) := by decide +kernel
theorem dX6_readThing_90 : decode cX6_readThing 90 = .ok (.invokevirtual 86, 3) := by decide +kernel
theorem dX6_readThing_93 : decode cX6_readThing 93 = .ok (.iconst 1, 1) := by decide +kernel
theorem dX6_readThing_94 : decode cX6_readThing 94 = .ok (.ireturn, 1) := by decide +kernel
theorem dX6_readSign_0 : decode cX6_readSign 0 = .ok (.aload_n 0, 1) := by decide +kernel
theorem dX6_readSign_1 : decode cX6_readSign 1 = .ok (.invokevirtual 62, 3) := by decide +kernel
theorem dX6_readSign_4 : decode cX6_readSign 4 = .ok (.iload_n 1, 1) := by decide +kernel
theorem dX6_readSign_5 : decode cX6_readSign 5 = .ok (.if_icmp .eq 9, 3) := by decide +kernel
theorem dX6_readSign_8 : decode cX6_readSign 8 = .ok (.aload_n 0, 1) := by decide +kernel
theorem dX6_readSign_9 : decode cX6_readSign 9 = .ok (.iconst 1, 1) := by decide +kernel
theorem dX6_readSign_10 : decode cX6_readSign 10 = .ok (.invokevirtual 72, 3) := by decide +kernel
theorem dX6_readSign_13 : decode cX6_readSign 13 = .ok (.ireturn, 1) := by decide +kernel
theorem dX6_readSign_14 : decode cX6_readSign 14 = .ok (.aload_n 0, 1) := by decide +kernel
theorem dX6_readSign_15 : decode cX6_readSign 15 = .ok (.dup, 1) := by decide +kernel
theorem dX6_readSign_16 : decode cX6_readSign 16 = .ok (.getfield 32, 3) := by decide +kernel
theorem dX6_readSign_19 : decode cX6_readSign 19 = .ok (.iconst 1, 1) := by decide +kernel
theorem dX6_readSign_20 : decode cX6_readSign 20 = .ok (.iadd, 1) := by decide +kernel
theorem dX6_readSign_21 : decode cX6_readSign 21 = .ok (.putfield 32, 3) := by decide +kernel
theorem dX6_readSign_24 : decode cX6_readSign 24 = .ok (.iconst 1, 1) := by decide +kernel
theorem dX6_readSign_25 : decode cX6_readSign 25 = .ok (.ireturn, 1) := by decide +kernel
theorem dX6_readNumber_0 : decode cX6_readNumber 0 = .ok (.iconst 0, 1) := by decide +kernel
theorem dX6_readNumber_1 : decode cX6_readNumber 1 = .ok (.istore_n 3, 1) := by decide +kernel
theorem dX6_readNumber_2 : decode cX6_readNumber 2 = .ok (.iconst 0, 1) := by decide +kernel
theorem dX6_readNumber_3 : decode cX6_readNumber 3 = .ok (.istore 4, 2) := by decide +kernel
theorem dX6_readNumber_5 : decode cX6_readNumber 5 = .ok (.aload_n 0, 1) := by decide +kernel
theorem dX6_readNumber_6 : decode cX6_readNumber 6 = .ok (.getfield 32, 3) := by decide +kernel
theorem dX6_readNumber_9 : decode cX6_readNumber 9 = .ok (.istore 5, 2) := by decide +kernel
theorem dX6_readNumber_11 : decode cX6_readNumber 11 = .ok (.iload 5, 2) := by decide +kernel
theorem dX6_readNumber_13 : decode cX6_readNumber 13 = .ok (.aload_n 0, 1) := by decide +kernel
theorem dX6_readNumber_14 : decode cX6_readNumber 14 = .ok (.getfield 18, 3) := by decide +kernel
theorem dX6_readNumber_17 : decode cX6_readNumber 17 = .ok (.if_icmp .ge 62, 3) := by decide +kernel
theorem dX6_readNumber_20 : decode cX6_readNumber 20 = .ok (.aload_n 0, 1) := by decide +kernel
theorem dX6_readNumber_21 : decode cX6_readNumber 21 = .ok (.getfield 28, 3) := by decide +kernel
theorem dX6_readNumber_24 : decode cX6_readNumber 24 = .ok (.iload 5, 2) := by decide +kernel
theorem dX6_readNumber_26 : decode cX6_readNumber 26 = .ok (.iaload, 1) := by decide +kernel
theorem dX6_readNumber_27 : decode cX6_readNumber 27 = .ok (.bipush 48, 2) := by decide +kernel
theorem dX6_readNumber_29 : decode cX6_readNumber 29 = .ok (.if_icmp .lt 50, 3) := by decide +kernel
theorem dX6_readNumber_32 : decode cX6_readNumber 32 = .ok (.aload_n 0, 1) := by decide +kernel
theorem dX6_readNumber_33 : decode cX6_readNumber 33 = .ok (.getfield 28, 3) := by decide +kernel
theorem dX6_readNumber_36 : decode cX6_readNumber 36 = .ok (.iload 5, 2) := by decide +kernel
theorem dX6_readNumber_38 : decode cX6_readNumber 38 = .ok (.iaload, 1) := by decide +kernel
theorem dX6_readNumber_39 : decode cX6_readNumber 39 = .ok (.bipush 57, 2) := by decide +kernel
theorem dX6_readNumber_41 : decode cX6_readNumber 41 = .ok (.if_icmp .gt 38, 3) := by decide +kernel
theorem dX6_readNumber_44 : decode cX6_readNumber 44 = .ok (.iload 4, 2) := by decide +kernel
theorem dX6_readNumber_46 : decode cX6_readNumber 46 = .ok (.iconst 2, 1) := by decide +kernel
theorem dX6_readNumber_47 : decode cX6_readNumber 47 = .ok (.if_icmp .ge 21, 3) := by decide +kernel
theorem dX6_readNumber_50 : decode cX6_readNumber 50 = .ok (.iload_n 3, 1) := by decide +kernel
theorem dX6_readNumber_51 : decode cX6_readNumber 51 = .ok (.bipush 10, 2) := by decide +kernel
theorem dX6_readNumber_53 : decode cX6_readNumber 53 = .ok (.imul, 1) := by decide +kernel
theorem dX6_readNumber_54 : decode cX6_readNumber 54 = .ok (.aload_n 0, 1) := by decide +kernel
theorem dX6_readNumber_55 : decode cX6_readNumber 55 = .ok (.getfield 28, 3) := by decide +kernel
theorem dX6_readNumber_58 : decode cX6_readNumber 58 = .ok (.iload 5, 2) := by decide +kernel
theorem dX6_readNumber_60 : decode cX6_readNumber 60 = .ok (.iaload, 1) := by decide +kernel
theorem dX6_readNumber_61 : decode cX6_readNumber 61 = .ok (.iadd, 1) := by decide +kernel
theorem dX6_readNumber_62 : decode cX6_readNumber 62 = .ok (.bipush 48, 2) := by decide +kernel
theorem dX6_readNumber_64 : decode cX6_readNumber 64 = .ok (.isub, 1) := by decide +kernel
theorem dX6_readNumber_65 : decode cX6_readNumber 65 = .ok (.goto 4, 3) := by decide +kernel
theorem dX6_readNumber_68 : decode cX6_readNumber 68 = .ok (.iload_n 3, 1) := by decide +kernel
theorem dX6_readNumber_69 : decode cX6_readNumber 69 = .ok (.istore_n 3, 1) := by decide +kernel
theorem dX6_readNumber_70 : decode cX6_readNumber 70 = .ok (.iinc 4 1, 3) := by decide +kernel
theorem dX6_readNumber_73 : decode cX6_readNumber 73 = .ok (.iinc 5 1, 3) := by decide +kernel
theorem dX6_readNumber_76 : decode cX6_readNumber 76 = .ok (.goto (-65), 3) := by decide +kernel
theorem dX6_readNumber_79 : decode cX6_readNumber 79 = .ok (.iload 4, 2) := by decide +kernel
theorem dX6_readNumber_81 : decode cX6_readNumber 81 = .ok (.iconst 1, 1) := by decide +kernel
theorem dX6_readNumber_82 : decode cX6_readNumber 82 = .ok (.if_icmp .lt 9, 3) := by decide +kernel
theorem dX6_readNumber_85 : decode cX6_readNumber 85 = .ok (.iload 4, 2) := by decide +kernel
theorem dX6_readNumber_87 : decode cX6_readNumber 87 = .ok (.iconst 2, 1) := by decide +kernel
theorem dX6_readNumber_88 : decode cX6_readNumber 88 = .ok (.if_icmp .le 11, 3) := by decide +kernel
theorem dX6_readNumber_91 : decode cX6_readNumber 91 = .ok (.aload_n 0, 1) := by decide +kernel
theorem dX6_readNumber_92 : decode cX6_readNumber 92 = .ok (.iconst 1, 1) := by decide +kernel
theorem dX6_readNumber_93 : decode cX6_readNumber 93 = .ok (.invokevirtual 72, 3) := by decide +kernel
theorem dX6_readNumber_96 : decode cX6_readNumber 96 = .ok (.pop, 1) := by decide +kernel
theorem dX6_readNumber_97 : decode cX6_readNumber 97 = .ok (.iconst (-1), 1) := by decide +kernel
theorem dX6_readNumber_98 : decode cX6_readNumber 98 = .ok (.ireturn, 1) := by decide +kernel
theorem dX6_readNumber_99 : decode cX6_readNumber 99 = .ok (.iload_n 3, 1) := by decide +kernel
theorem dX6_readNumber_100 : decode cX6_readNumber 100 = .ok (.iload_n 1, 1) := by decide +kernel
theorem dX6_readNumber_101 : decode cX6_readNumber 101 = .ok (.if_icmp .lt 8, 3) := by decide +kernel
theorem dX6_readNumber_104 : decode cX6_readNumber 104 = .ok (.iload_n 3, 1) := by decide +kernel
theorem dX6_readNumber_105 : decode cX6_readNumber 105 = .ok (.iload_n 2, 1) := by decide +kernel
theorem dX6_readNumber_106 : decode cX6_readNumber 106 = .ok (.if_icmp .le 11, 3) := by decide +kernel
theorem dX6_readNumber_109 : decode cX6_readNumber 109 = .ok (.aload_n 0, 1) := by decide +kernel
theorem dX6_readNumber_110 : decode cX6_readNumber 110 = .ok (.iconst 2, 1) := by decide +kernel
theorem dX6_readNumber_111 : decode cX6_readNumber 111 = .ok (.invokevirtual 72, 3) := by decide +kernel
theorem dX6_readNumber_114 : decode cX6_readNumber 114 = .ok (.pop, 1) := by decide +kernel
theorem dX6_readNumber_115 : decode cX6_readNumber 115 = .ok (.iconst (-1), 1) := by decide +kernel
theorem dX6_readNumber_116 : decode cX6_readNumber 116 = .ok (.ireturn, 1) := by decide +kernel
theorem dX6_readNumber_117 : decode cX6_readNumber 117 = .ok (.aload_n 0, 1) := by decide +kernel
theorem dX6_readNumber_118 : decode cX6_readNumber 118 = .ok (.dup, 1) := by decide +kernel
theorem dX6_readNumber_119 : decode cX6_readNumber 119 = .ok (.getfield 32, 3) := by decide +kernel
theorem dX6_readNumber_122 : decode cX6_readNumber 122 = .ok (.iload 4, 2) := by decide +kernel
theorem dX6_readNumber_124 : decode cX6_readNumber 124 = .ok (.iadd, 1) := by decide +kernel
theorem dX6_readNumber_125 : decode cX6_readNumber 125 = .ok (.putfield 32, 3) := by decide +kernel
theorem dX6_readNumber_128 : decode cX6_readNumber 128 = .ok (.iload_n 3, 1) := by decide +kernel
theorem dX6_readNumber_129 : decode cX6_readNumber 129 = .ok (.ireturn, 1) := by decide +kernel
theorem dX6_next_0 : decode cX6_next 0 = .ok (.aload_n 0, 1) := by decide +kernel
theorem dX6_next_1 : decode cX6_next 1 = .ok (.getfield 32, 3) := by decide +kernel
theorem dX6_next_4 : decode cX6_next 4 = .ok (.aload_n 0, 1) := by decide +kernel
theorem dX6_next_5 : decode cX6_next 5 = .ok (.getfield 18, 3) := by decide +kernel
theorem dX6_next_8 : decode cX6_next 8 = .ok (.if_icmp .ge 15, 3) := by decide +kernel
theorem dX6_next_11 : decode cX6_next 11 = .ok (.aload_n 0, 1) := by decide +kernel
theorem dX6_next_12 : decode cX6_next 12 = .ok (.getfield 28, 3) := by decide +kernel
theorem dX6_next_15 : decode cX6_next 15 = .ok (.aload_n 0, 1) := by decide +kernel
theorem dX6_next_16 : decode cX6_next 16 = .ok (.getfield 32, 3) := by decide +kernel
theorem dX6_next_19 : decode cX6_next 19 = .ok (.iaload, 1) := by decide +kernel
theorem dX6_next_20 : decode cX6_next 20 = .ok (.goto 4, 3) := by decide +kernel
theorem dX6_next_23 : decode cX6_next 23 = .ok (.iconst (-1), 1) := by decide +kernel
theorem dX6_next_24 : decode cX6_next 24 = .ok (.ireturn, 1) := by decide +kernel
theorem dX6_fails_0 : decode cX6_fails 0 = .ok (.aload_n 0, 1) := by decide +kernel
theorem dX6_fails_1 : decode cX6_fails 1 = .ok (.iload_n 1, 1) := by decide +kernel
theorem dX6_fails_2 : decode cX6_fails 2 = .ok (.putfield 22, 3) := by decide +kernel
theorem dX6_fails_5 : decode cX6_fails 5 = .ok (.aload_n 0, 1) := by decide +kernel
theorem dX6_fails_6 : decode cX6_fails 6 = .ok (.aload_n 0, 1) := by decide +kernel
theorem dX6_fails_7 : decode cX6_fails 7 = .ok (.getfield 32, 3) := by decide +kernel
theorem dX6_fails_10 : decode cX6_fails 10 = .ok (.putfield 25, 3) := by decide +kernel
theorem dX6_fails_13 : decode cX6_fails 13 = .ok (.iconst 0, 1) := by decide +kernel
theorem dX6_fails_14 : decode cX6_fails 14 = .ok (.ireturn, 1) := by decide +kernel
theorem dX6_sortOf_0 : decode cX6_sortOf 0 = .ok (.iload_n 0, 1) := by decide +kernel
theorem dX6_sortOf_1 : decode cX6_sortOf 1 = .ok (.lookupswitch 61 #[(97, 59), (99, 51), (108, 53), (112, 57), (116, 55)], 51) := by decide +kernel
theorem dX6_sortOf_52 : decode cX6_sortOf 52 = .ok (.iconst 1, 1) := by decide +kernel
theorem dX6_sortOf_53 : decode cX6_sortOf 53 = .ok (.ireturn, 1) := by decide +kernel
theorem dX6_sortOf_54 : decode cX6_sortOf 54 = .ok (.iconst 2, 1) := by decide +kernel
theorem dX6_sortOf_55 : decode cX6_sortOf 55 = .ok (.ireturn, 1) := by decide +kernel
theorem dX6_sortOf_56 : decode cX6_sortOf 56 = .ok (.iconst 3, 1) := by decide +kernel
theorem dX6_sortOf_57 : decode cX6_sortOf 57 = .ok (.ireturn, 1) := by decide +kernel
theorem dX6_sortOf_58 : decode cX6_sortOf 58 = .ok (.iconst 4, 1) := by decide +kernel
theorem dX6_sortOf_59 : decode cX6_sortOf 59 = .ok (.ireturn, 1) := by decide +kernel
theorem dX6_sortOf_60 : decode cX6_sortOf 60 = .ok (.iconst 5, 1) := by decide +kernel
theorem dX6_sortOf_61 : decode cX6_sortOf 61 = .ok (.ireturn, 1) := by decide +kernel
theorem dX6_sortOf_62 : decode cX6_sortOf 62 = .ok (.iconst 0, 1) := by decide +kernel
theorem dX6_sortOf_63 : decode cX6_sortOf 63 = .ok (.ireturn, 1) := by decide +kernel
theorem dX7_init_0 : decode cX7_init 0 = .ok (.aload_n 0, 1) := by decide +kernel
theorem dX7_init_1 : decode cX7_init 1 = .ok (.invokespecial 5, 3) := by decide +kernel
theorem dX7_init_4 : decode cX7_init 4 = .ok (.aload_n 0, 1) := by decide +kernel
theorem dX7_init_5 : decode cX7_init 5 = .ok (.new 11, 3) := by decide +kernel
theorem dX7_init_8 : decode cX7_init 8 = .ok (.dup, 1) := by decide +kernel
theorem dX7_init_9 : decode cX7_init 9 = .ok (.invokespecial 13, 3) := by decide +kernel
theorem dX7_init_12 : decode cX7_init 12 = .ok (.putfield 14, 3) := by decide +kernel
theorem dX7_init_15 : decode cX7_init 15 = .ok (.aload_n 0, 1) := by decide +kernel
theorem dX7_init_16 : decode cX7_init 16 = .ok (.new 18, 3) := by decide +kernel
theorem dX7_init_19 : decode cX7_init 19 = .ok (.dup, 1) := by decide +kernel
theorem dX7_init_20 : decode cX7_init 20 = .ok (.bipush 20, 2) := by decide +kernel
theorem dX7_init_22 : decode cX7_init 22 = .ok (.invokespecial 20, 3) := by decide +kernel
theorem dX7_init_25 : decode cX7_init 25 = .ok (.putfield 23, 3) := by decide +kernel
theorem dX7_init_28 : decode cX7_init 28 = .ok (.aload_n 0, 1) := by decide +kernel
theorem dX7_init_29 : decode cX7_init 29 = .ok (.bipush 54, 2) := by decide +kernel
theorem dX7_init_31 : decode cX7_init 31 = .ok (.newarray .boolean, 2) := by decide +kernel
theorem dX7_init_33 : decode cX7_init 33 = .ok (.putfield 27, 3) := by decide +kernel
theorem dX7_init_36 : decode cX7_init 36 = .ok (.aload_n 0, 1) := by decide +kernel
theorem dX7_init_37 : decode cX7_init 37 = .ok (.bipush 6, 2) := by decide +kernel
theorem dX7_init_39 : decode cX7_init 39 = .ok (.newarray .int, 2) := by decide +kernel
theorem dX7_init_41 : decode cX7_init 41 = .ok (.putfield 31, 3) := by decide +kernel
theorem dX7_init_44 : decode cX7_init 44 = .ok (.aload_n 0, 1) := by decide +kernel
theorem dX7_init_45 : decode cX7_init 45 = .ok (.iconst 0, 1) := by decide +kernel
theorem dX7_init_46 : decode cX7_init 46 = .ok (.putfield 35, 3) := by decide +kernel
theorem dX7_init_49 : decode cX7_init 49 = .ok (.aload_n 0, 1) := by decide +kernel
theorem dX7_init_50 : decode cX7_init 50 = .ok (.iconst 0, 1) := by decide +kernel
theorem dX7_init_51 : decode cX7_init 51 = .ok (.putfield 39, 3) := by decide +kernel
theorem dX7_init_54 : decode cX7_init 54 = .ok (.return_, 1) := by decide +kernel
theorem dX7_play_0 : decode cX7_play 0 = .ok (.aload_n 0, 1) := by decide +kernel
theorem dX7_play_1 : decode cX7_play 1 = .ok (.aload_n 1, 1) := by decide +kernel
theorem dX7_play_2 : decode cX7_play 2 = .ok (.getfield 42, 3) := by decide +kernel
theorem dX7_play_5 : decode cX7_play 5 = .ok (.putfield 39, 3) := by decide +kernel
theorem dX7_play_8 : decode cX7_play 8 = .ok (.iconst 0, 1) := by decide +kernel
theorem dX7_play_9 : decode cX7_play 9 = .ok (.istore 4, 2) := by decide +kernel
theorem dX7_play_11 : decode cX7_play 11 = .ok (.iload 4, 2) := by decide +kernel
theorem dX7_play_13 : decode cX7_play 13 = .ok (.iconst 3, 1) := by decide +kernel
theorem dX7_play_14 : decode cX7_play 14 = .ok (.if_icmp .ge 57, 3) := by decide +kernel
theorem dX7_play_17 : decode cX7_play 17 = .ok (.aload_n 0, 1) := by decide +kernel
theorem dX7_play_18 : decode cX7_play 18 = .ok (.getfield 14, 3) := by decide +kernel
theorem dX7_play_21 : decode cX7_play 21 = .ok (.aload_n 1, 1) := by decide +kernel
theorem dX7_play_22 : decode cX7_play 22 = .ok (.invokevirtual 43, 3) := by decide +kernel
theorem dX7_play_25 : decode cX7_play 25 = .ok (.aload_n 0, 1) := by decide +kernel
theorem dX7_play_26 : decode cX7_play 26 = .ok (.getfield 14, 3) := by decide +kernel
theorem dX7_play_29 : decode cX7_play 29 = .ok (.bipush 20, 2) := by decide +kernel
theorem dX7_play_31 : decode cX7_play 31 = .ok (.aload_n 1, 1) := by decide +kernel
theorem dX7_play_32 : decode cX7_play 32 = .ok (.getfield 47, 3) := by decide +kernel
theorem dX7_play_35 : decode cX7_play 35 = .ok (.iconst 3, 1) := by decide +kernel
theorem dX7_play_36 : decode cX7_play 36 = .ok (.iload 4, 2) := by decide +kernel
theorem dX7_play_38 : decode cX7_play 38 = .ok (.imul, 1) := by decide +kernel
theorem dX7_play_39 : decode cX7_play 39 = .ok (.iadd, 1) := by decide +kernel
theorem dX7_play_40 : decode cX7_play 40 = .ok (.invokestatic 50, 3) := by decide +kernel
theorem dX7_play_43 : decode cX7_play 43 = .ok (.putfield 47, 3) := by decide +kernel
theorem dX7_play_46 : decode cX7_play 46 = .ok (.aload_n 0, 1) := by decide +kernel
theorem dX7_play_47 : decode cX7_play 47 = .ok (.getfield 23, 3) := by decide +kernel
theorem dX7_play_50 : decode cX7_play 50 = .ok (.aload_n 0, 1) := by decide +kernel
theorem dX7_play_51 : decode cX7_play 51 = .ok (.getfield 14, 3) := by decide +kernel
theorem dX7_play_54 : decode cX7_play 54 = .ok (.iload_n 3, 1) := by decide +kernel
theorem dX7_play_55 : decode cX7_play 55 = .ok (.invokevirtual 56, 3) := by decide +kernel
theorem dX7_play_58 : decode cX7_play 58 = .ok (.aload_n 0, 1) := by decide +kernel
theorem dX7_play_59 : decode cX7_play 59 = .ok (.iload 4, 2) := by decide +kernel
theorem dX7_play_61 : decode cX7_play 61 = .ok (.iload_n 3, 1) := by decide +kernel
theorem dX7_play_62 : decode cX7_play 62 = .ok (.invokevirtual 60, 3) := by decide +kernel
theorem dX7_play_65 : decode cX7_play 65 = .ok (.iinc 4 1, 3) := by decide +kernel
theorem dX7_play_68 : decode cX7_play 68 = .ok (.goto (-57), 3) := by decide +kernel
theorem dX7_play_71 : decode cX7_play 71 = .ok (.aload_n 0, 1) := by decide +kernel
theorem dX7_play_72 : decode cX7_play 72 = .ok (.iconst 0, 1) := by decide +kernel
theorem dX7_play_73 : decode cX7_play 73 = .ok (.iload_n 2, 1) := by decide +kernel
theorem dX7_play_74 : decode cX7_play 74 = .ok (.iconst 4, 1) := by decide +kernel
theorem dX7_play_75 : decode cX7_play 75 = .ok (.invokestatic 50, 3) := by decide +kernel
theorem dX7_play_78 : decode cX7_play 78 = .ok (.invokevirtual 64, 3) := by decide +kernel
theorem dX7_play_81 : decode cX7_play 81 = .ok (.ireturn, 1) := by decide +kernel
theorem dX7_followAll_0 : decode cX7_followAll 0 = .ok (.iconst 0, 1) := by decide +kernel
theorem dX7_followAll_1 : decode cX7_followAll 1 = .ok (.istore_n 3, 1) := by decide +kernel
theorem dX7_followAll_2 : decode cX7_followAll 2 = .ok (.iload_n 3, 1) := by decide +kernel
theorem dX7_followAll_3 : decode cX7_followAll 3 = .ok (.aload_n 0, 1) := by decide +kernel
theorem dX7_followAll_4 : decode cX7_followAll 4 = .ok (.getfield 39, 3) := by decide +kernel
theorem dX7_followAll_7 : decode cX7_followAll 7 = .ok (.if_icmp .ge 83, 3) := by decide +kernel
theorem dX7_followAll_10 : decode cX7_followAll 10 = .ok (.aload_n 0, 1) := by decide +kernel
theorem dX7_followAll_11 : decode cX7_followAll 11 = .ok (.getfield 14, 3) := by decide +kernel
theorem dX7_followAll_14 : decode cX7_followAll 14 = .ok (.getfield 67, 3) := by decide +kernel
theorem dX7_followAll_17 : decode cX7_followAll 17 = .ok (.iload_n 3, 1) := by decide +kernel
theorem dX7_followAll_18 : decode cX7_followAll 18 = .ok (.iaload, 1) := by decide +kernel
theorem dX7_followAll_19 : decode cX7_followAll 19 = .ok (.istore 4, 2) := by decide +kernel
theorem dX7_followAll_21 : decode cX7_followAll 21 = .ok (.iconst 0, 1) := by decide +kernel
theorem dX7_followAll_22 : decode cX7_followAll 22 = .ok (.istore 5, 2) := by decide +kernel
theorem dX7_followAll_24 : decode cX7_followAll 24 = .ok (.iload 5, 2) := by decide +kernel
theorem dX7_followAll_26 : decode cX7_followAll 26 = .ok (.iconst 3, 1) := by decide +kernel
theorem dX7_followAll_27 : decode cX7_followAll 27 = .ok (.if_icmp .ge 57, 3) := by decide +kernel
theorem dX7_followAll_30 : decode cX7_followAll 30 = .ok (.aload_n 0, 1) := by decide +kernel
theorem dX7_followAll_31 : decode cX7_followAll 31 = .ok (.getfield 27, 3) := by decide +kernel
theorem dX7_followAll_34 : decode cX7_followAll 34 = .ok (.iload_n 1, 1) := by decide +kernel
theorem dX7_followAll_35 : decode cX7_followAll 35 = .ok (.iload 5, 2) := by decide +kernel
theorem dX7_followAll_37 : decode cX7_followAll 37 = .ok (.iload_n 3, 1) := by decide +kernel
theorem dX7_followAll_38 : decode cX7_followAll 38 = .ok (.invokestatic 70, 3) := by decide +kernel
theorem dX7_followAll_41 : decode cX7_followAll 41 = .ok (.aload_n 0, 1) := by decide +kernel
theorem dX7_followAll_42 : decode cX7_followAll 42 = .ok (.getfield 23, 3) := by decide +kernel
theorem dX7_followAll_45 : decode cX7_followAll 45 = .ok (.aload_n 0, 1) := by decide +kernel
theorem dX7_followAll_46 : decode cX7_followAll 46 = .ok (.getfield 14, 3) := by decide +kernel
theorem dX7_followAll_49 : decode cX7_followAll 49 = .ok (.iload_n 3, 1) := by decide +kernel
theorem dX7_followAll_50 : decode cX7_followAll 50 = .ok (.iload 4, 2) := by decide +kernel
theorem dX7_followAll_52 : decode cX7_followAll 52 = .ok (.iload_n 2, 1) := by decide +kernel
theorem dX7_followAll_53 : decode cX7_followAll 53 = .ok (.invokevirtual 74, 3) := by decide +kernel
theorem dX7_followAll_56 : decode cX7_followAll 56 = .ok (.bipush 30, 2) := by decide +kernel
theorem dX7_followAll_58 : decode cX7_followAll 58 = .ok (.if_icmp .lt 7, 3) := by decide +kernel
theorem dX7_followAll_61 : decode cX7_followAll 61 = .ok (.iconst 1, 1) := by decide +kernel
theorem dX7_followAll_62 : decode cX7_followAll 62 = .ok (.goto 4, 3) := by decide +kernel
theorem dX7_followAll_65 : decode cX7_followAll 65 = .ok (.iconst 0, 1) := by decide +kernel
theorem dX7_followAll_66 : decode cX7_followAll 66 = .ok (.bastore, 1) := by decide +kernel
theorem dX7_followAll_67 : decode cX7_followAll 67 = .ok (.aload_n 0, 1) := by decide +kernel
theorem dX7_followAll_68 : decode cX7_followAll 68 = .ok (.getfield 14, 3) := by decide +kernel
theorem dX7_followAll_71 : decode cX7_followAll 71 = .ok (.iload 4, 2) := by decide +kernel
theorem dX7_followAll_73 : decode cX7_followAll 73 = .ok (.invokevirtual 78, 3) := by decide +kernel
theorem dX7_followAll_76 : decode cX7_followAll 76 = .ok (.istore 4, 2) := by decide +kernel
theorem dX7_followAll_78 : decode cX7_followAll 78 = .ok (.iinc 5 1, 3) := by decide +kernel
theorem dX7_followAll_81 : decode cX7_followAll 81 = .ok (.goto (-57), 3) := by decide +kernel
theorem dX7_followAll_84 : decode cX7_followAll 84 = .ok (.iinc 3 1, 3) := by decide +kernel
theorem dX7_followAll_87 : decode cX7_followAll 87 = .ok (.goto (-85), 3) := by decide +kernel
theorem dX7_followAll_90 : decode cX7_followAll 90 = .ok (.return_, 1) := by decide +kernel
theorem dX7_cell_0 : decode cX7_cell 0 = .ok (.iload_n 0, 1) := by decide +kernel
theorem dX7_cell_1 : decode cX7_cell 1 = .ok (.iconst 3, 1) := by decide +kernel
theorem dX7_cell_2 : decode cX7_cell 2 = .ok (.imul, 1) := by decide +kernel
theorem dX7_cell_3 : decode cX7_cell 3 = .ok (.iload_n 1, 1) := by decide +kernel
theorem dX7_cell_4 : decode cX7_cell 4 = .ok (.iadd, 1) := by decide +kernel
theorem dX7_cell_5 : decode cX7_cell 5 = .ok (.bipush 6, 2) := by decide +kernel
theorem dX7_cell_7 : decode cX7_cell 7 = .ok (.imul, 1) := by decide +kernel
theorem dX7_cell_8 : decode cX7_cell 8 = .ok (.iload_n 2, 1) := by decide +kernel
theorem dX7_cell_9 : decode cX7_cell 9 = .ok (.iadd, 1) := by decide +kernel
theorem dX7_cell_10 : decode cX7_cell 10 = .ok (.ireturn, 1) := by decide +kernel
theorem dX7_outcome_0 : decode cX7_outcome 0 = .ok (.iload_n 1, 1) := by decide +kernel
theorem dX7_outcome_1 : decode cX7_outcome 1 = .ok (.iload_n 2, 1) := by decide +kernel
theorem dX7_outcome_2 : decode cX7_outcome 2 = .ok (.if_icmp .lt 8, 3) := by decide +kernel
theorem dX7_outcome_5 : decode cX7_outcome 5 = .ok (.aload_n 0, 1) := by decide +kernel
theorem dX7_outcome_6 : decode cX7_outcome 6 = .ok (.invokevirtual 82, 3) := by decide +kernel
theorem dX7_outcome_9 : decode cX7_outcome 9 = .ok (.ireturn, 1) := by decide +kernel
theorem dX7_outcome_10 : decode cX7_outcome 10 = .ok (.iload_n 1, 1) := by decide +kernel
theorem dX7_outcome_11 : decode cX7_outcome 11 = .ok (.iconst 2, 1) := by decide +kernel
theorem dX7_outcome_12 : decode cX7_outcome 12 = .ok (.irem, 1) := by decide +kernel
theorem dX7_outcome_13 : decode cX7_outcome 13 = .ok (.ifCond .ne 12, 3) := by decide +kernel
theorem dX7_outcome_16 : decode cX7_outcome 16 = .ok (.aload_n 0, 1) := by decide +kernel
theorem dX7_outcome_17 : decode cX7_outcome 17 = .ok (.iload_n 1, 1) := by decide +kernel
theorem dX7_outcome_18 : decode cX7_outcome 18 = .ok (.iload_n 2, 1) := by decide +kernel
theorem dX7_outcome_19 : decode cX7_outcome 19 = .ok (.invokevirtual 86, 3) := by decide +kernel
theorem dX7_outcome_22 : decode cX7_outcome 22 = .ok (.goto 9, 3) := by decide +kernel
theorem dX7_outcome_25 : decode cX7_outcome 25 = .ok (.aload_n 0, 1) := by decide +kernel
theorem dX7_outcome_26 : decode cX7_outcome 26 = .ok (.iload_n 1, 1) := by decide +kernel
theorem dX7_outcome_27 : decode cX7_outcome 27 = .ok (.iload_n 2, 1) := by decide +kernel
theorem dX7_outcome_28 : decode cX7_outcome 28 = .ok (.invokevirtual 89, 3) := by decide +kernel
theorem dX7_outcome_31 : decode cX7_outcome 31 = .ok (.ireturn, 1) := by decide +kernel
theorem dX7_auntTurn_0 : decode cX7_auntTurn 0 = .ok (.aload_n 0, 1) := by decide +kernel
theorem dX7_auntTurn_1 : decode cX7_auntTurn 1 = .ok (.iload_n 1, 1) := by decide +kernel
theorem dX7_auntTurn_2 : decode cX7_auntTurn 2 = .ok (.iconst 1, 1) := by decide +kernel
theorem dX7_auntTurn_3 : decode cX7_auntTurn 3 = .ok (.iadd, 1) := by decide +kernel
theorem dX7_auntTurn_4 : decode cX7_auntTurn 4 = .ok (.iload_n 2, 1) := by decide +kernel
theorem dX7_auntTurn_5 : decode cX7_auntTurn 5 = .ok (.invokevirtual 64, 3) := by decide +kernel
theorem dX7_auntTurn_8 : decode cX7_auntTurn 8 = .ok (.istore_n 3, 1) := by decide +kernel
theorem dX7_auntTurn_9 : decode cX7_auntTurn 9 = .ok (.iconst 0, 1) := by decide +kernel
theorem dX7_auntTurn_10 : decode cX7_auntTurn 10 = .ok (.istore 4, 2) := by decide +kernel
theorem dX7_auntTurn_12 : decode cX7_auntTurn 12 = .ok (.iload 4, 2) := by decide +kernel
theorem dX7_auntTurn_14 : decode cX7_auntTurn 14 = .ok (.aload_n 0, 1) := by decide +kernel
theorem dX7_auntTurn_15 : decode cX7_auntTurn 15 = .ok (.getfield 39, 3) := by decide +kernel
theorem dX7_auntTurn_18 : decode cX7_auntTurn 18 = .ok (.if_icmp .ge 44, 3) := by decide +kernel
theorem dX7_auntTurn_21 : decode cX7_auntTurn 21 = .ok (.aload_n 0, 1) := by decide +kernel
theorem dX7_auntTurn_22 : decode cX7_auntTurn 22 = .ok (.getfield 31, 3) := by decide +kernel
theorem dX7_auntTurn_25 : decode cX7_auntTurn 25 = .ok (.iload 4, 2) := by decide +kernel
theorem dX7_auntTurn_27 : decode cX7_auntTurn 27 = .ok (.dup2, 1) := by decide +kernel
theorem dX7_auntTurn_28 : decode cX7_auntTurn 28 = .ok (.iaload, 1) := by decide +kernel
theorem dX7_auntTurn_29 : decode cX7_auntTurn 29 = .ok (.iconst 1, 1) := by decide +kernel
theorem dX7_auntTurn_30 : decode cX7_auntTurn 30 = .ok (.iadd, 1) := by decide +kernel
theorem dX7_auntTurn_31 : decode cX7_auntTurn 31 = .ok (.iastore, 1) := by decide +kernel
theorem dX7_auntTurn_32 : decode cX7_auntTurn 32 = .ok (.iload_n 3, 1) := by decide +kernel
theorem dX7_auntTurn_33 : decode cX7_auntTurn 33 = .ok (.aload_n 0, 1) := by decide +kernel
theorem dX7_auntTurn_34 : decode cX7_auntTurn 34 = .ok (.iload_n 1, 1) := by decide +kernel
theorem dX7_auntTurn_35 : decode cX7_auntTurn 35 = .ok (.iconst 1, 1) := by decide +kernel
theorem dX7_auntTurn_36 : decode cX7_auntTurn 36 = .ok (.iadd, 1) := by decide +kernel
theorem dX7_auntTurn_37 : decode cX7_auntTurn 37 = .ok (.iload_n 2, 1) := by decide +kernel
theorem dX7_auntTurn_38 : decode cX7_auntTurn 38 = .ok (.invokevirtual 64, 3) := by decide +kernel
theorem dX7_auntTurn_41 : decode cX7_auntTurn 41 = .ok (.invokestatic 50, 3) := by decide +kernel
theorem dX7_auntTurn_44 : decode cX7_auntTurn 44 = .ok (.istore_n 3, 1) := by decide +kernel
theorem dX7_auntTurn_45 : decode cX7_auntTurn 45 = .ok (.aload_n 0, 1) := by decide +kernel
theorem dX7_auntTurn_46 : decode cX7_auntTurn 46 = .ok (.getfield 31, 3) := by decide +kernel
theorem dX7_auntTurn_49 : decode cX7_auntTurn 49 = .ok (.iload 4, 2) := by decide +kernel
theorem dX7_auntTurn_51 : decode cX7_auntTurn 51 = .ok (.dup2, 1) := by decide +kernel
theorem dX7_auntTurn_52 : decode cX7_auntTurn 52 = .ok (.iaload, 1) := by decide +kernel
theorem dX7_auntTurn_53 : decode cX7_auntTurn 53 = .ok (.iconst 1, 1) := by decide +kernel
theorem dX7_auntTurn_54 : decode cX7_auntTurn 54 = .ok (.isub, 1) := by decide +kernel
theorem dX7_auntTurn_55 : decode cX7_auntTurn 55 = .ok (.iastore, 1) := by decide +kernel
theorem dX7_auntTurn_56 : decode cX7_auntTurn 56 = .ok (.iinc 4 1, 3) := by decide +kernel
theorem dX7_auntTurn_59 : decode cX7_auntTurn 59 = .ok (.goto (-47), 3) := by decide +kernel
theorem dX7_auntTurn_62 : decode cX7_auntTurn 62 = .ok (.iload_n 3, 1) := by decide +kernel
theorem dX7_auntTurn_63 : decode cX7_auntTurn 63 = .ok (.ireturn, 1) := by decide +kernel
theorem dX7_dresserTurn_0 : decode cX7_dresserTurn 0 = .ok (.aload_n 0, 1) := by decide +kernel
theorem dX7_dresserTurn_1 : decode cX7_dresserTurn 1 = .ok (.iload_n 1, 1) := by decide +kernel
theorem dX7_dresserTurn_2 : decode cX7_dresserTurn 2 = .ok (.iconst 1, 1) := by decide +kernel
theorem dX7_dresserTurn_3 : decode cX7_dresserTurn 3 = .ok (.iadd, 1) := by decide +kernel
theorem dX7_dresserTurn_4 : decode cX7_dresserTurn 4 = .ok (.iload_n 2, 1) := by decide +kernel
theorem dX7_dresserTurn_5 : decode cX7_dresserTurn 5 = .ok (.invokevirtual 64, 3) := by decide +kernel
theorem dX7_dresserTurn_8 : decode cX7_dresserTurn 8 = .ok (.istore_n 3, 1) := by decide +kernel
theorem dX7_dresserTurn_9 : decode cX7_dresserTurn 9 = .ok (.aload_n 0, 1) := by decide +kernel
theorem dX7_dresserTurn_10 : decode cX7_dresserTurn 10 = .ok (.dup, 1) := by decide +kernel
theorem dX7_dresserTurn_11 : decode cX7_dresserTurn 11 = .ok (.getfield 35, 3) := by decide +kernel
theorem dX7_dresserTurn_14 : decode cX7_dresserTurn 14 = .ok (.iconst 1, 1) := by decide +kernel
theorem dX7_dresserTurn_15 : decode cX7_dresserTurn 15 = .ok (.iadd, 1) := by decide +kernel
theorem dX7_dresserTurn_16 : decode cX7_dresserTurn 16 = .ok (.putfield 35, 3) := by decide +kernel
theorem dX7_dresserTurn_19 : decode cX7_dresserTurn 19 = .ok (.aload_n 0, 1) := by decide +kernel
theorem dX7_dresserTurn_20 : decode cX7_dresserTurn 20 = .ok (.iload_n 1, 1) := by decide +kernel
theorem dX7_dresserTurn_21 : decode cX7_dresserTurn 21 = .ok (.iconst 1, 1) := by decide +kernel
theorem dX7_dresserTurn_22 : decode cX7_dresserTurn 22 = .ok (.iadd, 1) := by decide +kernel
theorem dX7_dresserTurn_23 : decode cX7_dresserTurn 23 = .ok (.iload_n 2, 1) := by decide +kernel
theorem dX7_dresserTurn_24 : decode cX7_dresserTurn 24 = .ok (.invokevirtual 64, 3) := by decide +kernel
theorem dX7_dresserTurn_27 : decode cX7_dresserTurn 27 = .ok (.istore 4, 2) := by decide +kernel
theorem dX7_dresserTurn_29 : decode cX7_dresserTurn 29 = .ok (.aload_n 0, 1) := by decide +kernel
theorem dX7_dresserTurn_30 : decode cX7_dresserTurn 30 = .ok (.dup, 1) := by decide +kernel
theorem dX7_dresserTurn_31 : decode cX7_dresserTurn 31 = .ok (.getfield 35, 3) := by decide +kernel
theorem dX7_dresserTurn_34 : decode cX7_dresserTurn 34 = .ok (.iconst 1, 1) := by decide +kernel
theorem dX7_dresserTurn_35 : decode cX7_dresserTurn 35 = .ok (.isub, 1) := by decide +kernel
theorem dX7_dresserTurn_36 : decode cX7_dresserTurn 36 = .ok (.putfield 35, 3) := by decide +kernel
theorem dX7_dresserTurn_39 : decode cX7_dresserTurn 39 = .ok (.iload_n 3, 1) := by decide +kernel
theorem dX7_dresserTurn_40 : decode cX7_dresserTurn 40 = .ok (.iload 4, 2) := by decide +kernel
theorem dX7_dresserTurn_42 : decode cX7_dresserTurn 42 = .ok (.invokestatic 92, 3) := by decide +kernel
theorem dX7_dresserTurn_45 : decode cX7_dresserTurn 45 = .ok (.ireturn, 1) := by decide +kernel
theorem dX7_stonesNow_0 : decode cX7_stonesNow 0 = .ok (.iconst 0, 1) := by decide +kernel
theorem dX7_stonesNow_1 : decode cX7_stonesNow 1 = .ok (.istore_n 1, 1) := by decide +kernel
theorem dX7_stonesNow_2 : decode cX7_stonesNow 2 = .ok (.iconst 0, 1) := by decide +kernel
theorem dX7_stonesNow_3 : decode cX7_stonesNow 3 = .ok (.istore_n 2, 1) := by decide +kernel
theorem dX7_stonesNow_4 : decode cX7_stonesNow 4 = .ok (.iload_n 2, 1) := by decide +kernel
theorem dX7_stonesNow_5 : decode cX7_stonesNow 5 = .ok (.aload_n 0, 1) := by decide +kernel
theorem dX7_stonesNow_6 : decode cX7_stonesNow 6 = .ok (.getfield 39, 3) := by decide +kernel
theorem dX7_stonesNow_9 : decode cX7_stonesNow 9 = .ok (.if_icmp .ge 39, 3) := by decide +kernel
theorem dX7_stonesNow_12 : decode cX7_stonesNow 12 = .ok (.iload_n 1, 1) := by decide +kernel
theorem dX7_stonesNow_13 : decode cX7_stonesNow 13 = .ok (.aload_n 0, 1) := by decide +kernel
theorem dX7_stonesNow_14 : decode cX7_stonesNow 14 = .ok (.getfield 27, 3) := by decide +kernel
theorem dX7_stonesNow_17 : decode cX7_stonesNow 17 = .ok (.aload_n 0, 1) := by decide +kernel
theorem dX7_stonesNow_18 : decode cX7_stonesNow 18 = .ok (.getfield 35, 3) := by decide +kernel
theorem dX7_stonesNow_21 : decode cX7_stonesNow 21 = .ok (.aload_n 0, 1) := by decide +kernel
theorem dX7_stonesNow_22 : decode cX7_stonesNow 22 = .ok (.getfield 31, 3) := by decide +kernel
theorem dX7_stonesNow_25 : decode cX7_stonesNow 25 = .ok (.iload_n 2, 1) := by decide +kernel
theorem dX7_stonesNow_26 : decode cX7_stonesNow 26 = .ok (.iaload, 1) := by decide +kernel
theorem dX7_stonesNow_27 : decode cX7_stonesNow 27 = .ok (.iload_n 2, 1) := by decide +kernel
theorem dX7_stonesNow_28 : decode cX7_stonesNow 28 = .ok (.invokestatic 70, 3) := by decide +kernel
theorem dX7_stonesNow_31 : decode cX7_stonesNow 31 = .ok (.baload, 1) := by decide +kernel
theorem dX7_stonesNow_32 : decode cX7_stonesNow 32 = .ok (.ifCond .eq 7, 3) := by decide +kernel
theorem dX7_stonesNow_35 : decode cX7_stonesNow 35 = .ok (.iconst 1, 1) := by decide +kernel
theorem dX7_stonesNow_36 : decode cX7_stonesNow 36 = .ok (.goto 4, 3) := by decide +kernel
theorem dX7_stonesNow_39 : decode cX7_stonesNow 39 = .ok (.iconst 0, 1) := by decide +kernel
theorem dX7_stonesNow_40 : decode cX7_stonesNow 40 = .ok (.iadd, 1) := by decide +kernel
theorem dX7_stonesNow_41 : decode cX7_stonesNow 41 = .ok (.istore_n 1, 1) := by decide +kernel
theorem dX7_stonesNow_42 : decode cX7_stonesNow 42 = .ok (.iinc 2 1, 3) := by decide +kernel
theorem dX7_stonesNow_45 : decode cX7_stonesNow 45 = .ok (.goto (-41), 3) := by decide +kernel
theorem dX7_stonesNow_48 : decode cX7_stonesNow 48 = .ok (.iload_n 1, 1) := by decide +kernel
theorem dX7_stonesNow_49 : decode cX7_stonesNow 49 = .ok (.ireturn, 1) := by decide +kernel
theorem dX8_init_0 : decode cX8_init 0 = .ok (.aload_n 0, 1) := by decide +kernel
theorem dX8_init_1 : decode cX8_init 1 = .ok (.invokespecial 3, 3) := by decide +kernel
theorem dX8_init_4 : decode cX8_init 4 = .ok (.aload_n 0, 1) := by decide +kernel
theorem dX8_init_5 : decode cX8_init 5 = .ok (.iconst 0, 1) := by decide +kernel
theorem dX8_init_6 : decode cX8_init 6 = .ok (.putfield 9, 3) := by decide +kernel
theorem dX8_init_9 : decode cX8_init 9 = .ok (.aload_n 0, 1) := by decide +kernel
theorem dX8_init_10 : decode cX8_init 10 = .ok (.iconst 0, 1) := by decide +kernel
theorem dX8_init_11 : decode cX8_init 11 = .ok (.putfield 15, 3) := by decide +kernel
theorem dX8_init_14 : decode cX8_init 14 = .ok (.aload_n 0, 1) := by decide +kernel
theorem dX8_init_15 : decode cX8_init 15 = .ok (.iconst 0, 1) := by decide +kernel
theorem dX8_init_16 : decode cX8_init 16 = .ok (.putfield 18, 3) := by decide +kernel
theorem dX8_init_19 : decode cX8_init 19 = .ok (.aload_n 0, 1) := by decide +kernel
theorem dX8_init_20 : decode cX8_init 20 = .ok (.iconst 0, 1) := by decide +kernel
theorem dX8_init_21 : decode cX8_init 21 = .ok (.putfield 21, 3) := by decide +kernel
theorem dX8_init_24 : decode cX8_init 24 = .ok (.aload_n 0, 1) := by decide +kernel
theorem dX8_init_25 : decode cX8_init 25 = .ok (.iconst 0, 1) := by decide +kernel
theorem dX8_init_26 : decode cX8_init 26 = .ok (.putfield 24, 3) := by decide +kernel
theorem dX8_init_29 : decode cX8_init 29 = .ok (.aload_n 0, 1) := by decide +kernel
theorem dX8_init_30 : decode cX8_init 30 = .ok (.bipush 10, 2) := by decide +kernel
theorem dX8_init_32 : decode cX8_init 32 = .ok (.newarray .int, 2) := by decide +kernel
theorem dX8_init_34 : decode cX8_init 34 = .ok (.putfield 27, 3) := by decide +kernel
theorem dX8_init_37 : decode cX8_init 37 = .ok (.aload_n 0, 1) := by decide +kernel
theorem dX8_init_38 : decode cX8_init 38 = .ok (.bipush 10, 2) := by decide +kernel
theorem dX8_init_40 : decode cX8_init 40 = .ok (.newarray .int, 2) := by decide +kernel
theorem dX8_init_42 : decode cX8_init 42 = .ok (.putfield 31, 3) := by decide +kernel
theorem dX8_init_45 : decode cX8_init 45 = .ok (.aload_n 0, 1) := by decide +kernel
theorem dX8_init_46 : decode cX8_init 46 = .ok (.bipush 10, 2) := by decide +kernel
theorem dX8_init_48 : decode cX8_init 48 = .ok (.newarray .int, 2) := by decide +kernel
theorem dX8_init_50 : decode cX8_init 50 = .ok (.putfield 34, 3) := by decide +kernel
theorem dX8_init_53 : decode cX8_init 53 = .ok (.aload_n 0, 1) := by decide +kernel
theorem dX8_init_54 : decode cX8_init 54 = .ok (.bipush 6, 2) := by decide +kernel
theorem dX8_init_56 : decode cX8_init 56 = .ok (.newarray .int, 2) := by decide +kernel
theorem dX8_init_58 : decode cX8_init 58 = .ok (.putfield 37, 3) := by decide +kernel
theorem dX8_init_61 : decode cX8_init 61 = .ok (.aload_n 0, 1) := by decide +kernel
theorem dX8_init_62 : decode cX8_init 62 = .ok (.bipush 6, 2) := by decide +kernel
theorem dX8_init_64 : decode cX8_init 64 = .ok (.newarray .int, 2) := by decide +kernel
theorem dX8_init_66 : decode cX8_init 66 = .ok (.putfield 40, 3) := by decide +kernel
theorem dX8_init_69 : decode cX8_init 69 = .ok (.aload_n 0, 1) := by decide +kernel
theorem dX8_init_70 : decode cX8_init 70 = .ok (.bipush 6, 2) := by decide +kernel
theorem dX8_init_72 : decode cX8_init 72 = .ok (.newarray .int, 2) := by decide +kernel
theorem dX8_init_74 : decode cX8_init 74 = .ok (.putfield 43, 3) := by decide +kernel
theorem dX8_init_77 : decode cX8_init 77 = .ok (.aload_n 0, 1) := by decide +kernel
theorem dX8_init_78 : decode cX8_init 78 = .ok (.bipush 6, 2) := by decide +kernel
theorem dX8_init_80 : decode cX8_init 80 = .ok (.newarray .int, 2) := by decide +kernel
theorem dX8_init_82 : decode cX8_init 82 = .ok (.putfield 46, 3) := by decide +kernel
theorem dX8_init_85 : decode cX8_init 85 = .ok (.return_, 1) := by decide +kernel
theorem dX8_become_0 : decode cX8_become 0 = .ok (.aload_n 0, 1) := by decide +kernel
theorem dX8_become_1 : decode cX8_become 1 = .ok (.aload_n 1, 1) := by decide +kernel
theorem dX8_become_2 : decode cX8_become 2 = .ok (.getfield 9, 3) := by decide +kernel
theorem dX8_become_5 : decode cX8_become 5 = .ok (.putfield 9, 3) := by decide +kernel
theorem dX8_become_8 : decode cX8_become 8 = .ok (.aload_n 0, 1) := by decide +kernel
theorem dX8_become_9 : decode cX8_become 9 = .ok (.aload_n 1, 1) := by decide +kernel
theorem dX8_become_10 : decode cX8_become 10 = .ok (.getfield 15, 3) := by decide +kernel
theorem dX8_become_13 : decode cX8_become 13 = .ok (.putfield 15, 3) := by decide +kernel
theorem dX8_become_16 : decode cX8_become 16 = .ok (.aload_n 0, 1) := by decide +kernel
theorem dX8_become_17 : decode cX8_become 17 = .ok (.aload_n 1, 1) := by decide +kernel
theorem dX8_become_18 : decode cX8_become 18 = .ok (.getfield 18, 3) := by decide +kernel
theorem dX8_become_21 : decode cX8_become 21 = .ok (.putfield 18, 3) := by decide +kernel
theorem dX8_become_24 : decode cX8_become 24 = .ok (.aload_n 0, 1) := by decide +kernel
theorem dX8_become_25 : decode cX8_become 25 = .ok (.aload_n 1, 1) := by decide +kernel
theorem dX8_become_26 : decode cX8_become 26 = .ok (.getfield 21, 3) := by decide +kernel
theorem dX8_become_29 : decode cX8_become 29 = .ok (.putfield 21, 3) := by decide +kernel
theorem dX8_become_32 : decode cX8_become 32 = .ok (.aload_n 0, 1) := by decide +kernel
theorem dX8_become_33 : decode cX8_become 33 = .ok (.aload_n 1, 1) := by decide +kernel
theorem dX8_become_34 : decode cX8_become 34 = .ok (.getfield 24, 3) := by decide +kernel
theorem dX8_become_37 : decode cX8_become 37 = .ok (.putfield 24, 3) := by decide +kernel
theorem dX8_become_40 : decode cX8_become 40 = .ok (.aload_n 1, 1) := by decide +kernel
theorem dX8_become_41 : decode cX8_become 41 = .ok (.getfield 27, 3) := by decide +kernel
theorem dX8_become_44 : decode cX8_become 44 = .ok (.iconst 0, 1) := by decide +kernel
theorem dX8_become_45 : decode cX8_become 45 = .ok (.aload_n 0, 1) := by decide +kernel
theorem dX8_become_46 : decode cX8_become 46 = .ok (.getfield 27, 3) := by decide +kernel
theorem dX8_become_49 : decode cX8_become 49 = .ok (.iconst 0, 1) := by decide +kernel
theorem dX8_become_50 : decode cX8_become 50 = .ok (.bipush 10, 2) := by decide +kernel
theorem dX8_become_52 : decode cX8_become 52 = .ok (.invokestatic 49, 3) := by decide +kernel
theorem dX8_become_55 : decode cX8_become 55 = .ok (.aload_n 1, 1) := by decide +kernel
theorem dX8_become_56 : decode cX8_become 56 = .ok (.getfield 31, 3) := by decide +kernel
theorem dX8_become_59 : decode cX8_become 59 = .ok (.iconst 0, 1) := by decide +kernel
theorem dX8_become_60 : decode cX8_become 60 = .ok (.aload_n 0, 1) := by decide +kernel
theorem dX8_become_61 : decode cX8_become 61 = .ok (.getfield 31, 3) := by decide +kernel
theorem dX8_become_64 : decode cX8_become 64 = .ok (.iconst 0, 1) := by decide +kernel
theorem dX8_become_65 : decode cX8_become 65 = .ok (.bipush 10, 2) := by decide +kernel
theorem dX8_become_67 : decode cX8_become 67 = .ok (.invokestatic 49, 3) := by decide +kernel
theorem dX8_become_70 : decode cX8_become 70 = .ok (.aload_n 1, 1) := by decide +kernel
theorem dX8_become_71 : decode cX8_become 71 = .ok (.getfield 34, 3) := by decide +kernel
theorem dX8_become_74 : decode cX8_become 74 = .ok (.iconst 0, 1) := by decide +kernel
theorem dX8_become_75 : decode cX8_become 75 = .ok (.aload_n 0, 1) := by decide +kernel
theorem dX8_become_76 : decode cX8_become 76 = .ok (.getfield 34, 3) := by decide +kernel
theorem dX8_become_79 : decode cX8_become 79 = .ok (.iconst 0, 1) := by decide +kernel
theorem dX8_become_80 : decode cX8_become 80 = .ok (.bipush 10, 2) := by decide +kernel
theorem dX8_become_82 : decode cX8_become 82 = .ok (.invokestatic 49, 3) := by decide +kernel
theorem dX8_become_85 : decode cX8_become 85 = .ok (.aload_n 1, 1) := by decide +kernel
theorem dX8_become_86 : decode cX8_become 86 = .ok (.getfield 37, 3) := by decide +kernel
theorem dX8_become_89 : decode cX8_become 89 = .ok (.iconst 0, 1) := by decide +kernel
theorem dX8_become_90 : decode cX8_become 90 = .ok (.aload_n 0, 1) := by decide +kernel
theorem dX8_become_91 : decode cX8_become 91 = .ok (.getfield 37, 3) := by decide +kernel
theorem dX8_become_94 : decode cX8_become 94 = .ok (.iconst 0, 1) := by decide +kernel
theorem dX8_become_95 : decode cX8_become 95 = .ok (.bipush 6, 2) := by decide +kernel
theorem dX8_become_97 : decode cX8_become 97 = .ok (.invokestatic 49, 3) := by decide +kernel
theorem dX8_become_100 : decode cX8_become 100 = .ok (.aload_n 1, 1) := by decide +kernel
theorem dX8_become_101 : decode cX8_become 101 = .ok (.getfield 40, 3) := by decide +kernel
theorem dX8_become_104 : decode cX8_become 104 = .ok (.iconst 0, 1) := by decide +kernel
theorem dX8_become_105 : decode cX8_become 105 = .ok (.aload_n 0, 1) := by decide +kernel
theorem dX8_become_106 : decode cX8_become 106 = .ok (.getfield 40, 3) := by decide +kernel
theorem dX8_become_109 : decode cX8_become 109 = .ok (.iconst 0, 1) := by decide +kernel
theorem dX8_become_110 : decode cX8_become 110 = .ok (.bipush 6, 2) := by decide +kernel
theorem dX8_become_112 : decode cX8_become 112 = .ok (.invokestatic 49, 3) := by decide +kernel
theorem dX8_become_115 : decode cX8_become 115 = .ok (.aload_n 1, 1) := by decide +kernel
theorem dX8_become_116 : decode cX8_become 116 = .ok (.getfield 43, 3) := by decide +kernel
theorem dX8_become_119 : decode cX8_become 119 = .ok (.iconst 0, 1) := by decide +kernel
theorem dX8_become_120 : decode cX8_become 120 = .ok (.aload_n 0, 1) := by decide +kernel
theorem dX8_become_121 : decode cX8_become 121 = .ok (.getfield 43, 3) := by decide +kernel
theorem dX8_become_124 : decode cX8_become 124 = .ok (.iconst 0, 1) := by decide +kernel
theorem dX8_become_125 : decode cX8_become 125 = .ok (.bipush 6, 2) := by decide +kernel
theorem dX8_become_127 : decode cX8_become 127 = .ok (.invokestatic 49, 3) := by decide +kernel
theorem dX8_become_130 : decode cX8_become 130 = .ok (.aload_n 1, 1) := by decide +kernel
theorem dX8_become_131 : decode cX8_become 131 = .ok (.getfield 46, 3) := by decide +kernel
theorem dX8_become_134 : decode cX8_become 134 = .ok (.iconst 0, 1) := by decide +kernel
theorem dX8_become_135 : decode cX8_become 135 = .ok (.aload_n 0, 1) := by decide +kernel
theorem dX8_become_136 : decode cX8_become 136 = .ok (.getfield 46, 3) := by decide +kernel
theorem dX8_become_139 : decode cX8_become 139 = .ok (.iconst 0, 1) := by decide +kernel
theorem dX8_become_140 : decode cX8_become 140 = .ok (.bipush 6, 2) := by decide +kernel
theorem dX8_become_142 : decode cX8_become 142 = .ok (.invokestatic 49, 3) := by decide +kernel
theorem dX8_become_145 : decode cX8_become 145 = .ok (.return_, 1) := by decide +kernel
theorem dX8_clear_0 : decode cX8_clear 0 = .ok (.aload_n 0, 1) := by decide +kernel
theorem dX8_clear_1 : decode cX8_clear 1 = .ok (.iconst 0, 1) := by decide +kernel
theorem dX8_clear_2 : decode cX8_clear 2 = .ok (.putfield 9, 3) := by decide +kernel
theorem dX8_clear_5 : decode cX8_clear 5 = .ok (.aload_n 0, 1) := by decide +kernel
theorem dX8_clear_6 : decode cX8_clear 6 = .ok (.iconst 0, 1) := by decide +kernel
theorem dX8_clear_7 : decode cX8_clear 7 = .ok (.putfield 15, 3) := by decide +kernel
theorem dX8_clear_10 : decode cX8_clear 10 = .ok (.aload_n 0, 1) := by decide +kernel
theorem dX8_clear_11 : decode cX8_clear 11 = .ok (.iconst 0, 1) := by decide +kernel
theorem dX8_clear_12 : decode cX8_clear 12 = .ok (.putfield 18, 3) := by decide +kernel
theorem dX8_clear_15 : decode cX8_clear 15 = .ok (.aload_n 0, 1) := by decide +kernel
theorem dX8_clear_16 : decode cX8_clear 16 = .ok (.iconst 0, 1) := by decide +kernel
theorem dX8_clear_17 : decode cX8_clear 17 = .ok (.putfield 21, 3) := by decide +kernel
theorem dX8_clear_20 : decode cX8_clear 20 = .ok (.aload_n 0, 1) := by decide +kernel
theorem dX8_clear_21 : decode cX8_clear 21 = .ok (.iconst 0, 1) := by decide +kernel
theorem dX8_clear_22 : decode cX8_clear 22 = .ok (.putfield 24, 3) := by decide +kernel
theorem dX8_clear_25 : decode cX8_clear 25 = .ok (.return_, 1) := by decide +kernel
theorem dX8_addRoom_0 : decode cX8_addRoom 0 = .ok (.aload_n 0, 1) := by decide +kernel
theorem dX8_addRoom_1 : decode cX8_addRoom 1 = .ok (.getfield 9, 3) := by decide +kernel
theorem dX8_addRoom_4 : decode cX8_addRoom 4 = .ok (.bipush 10, 2) := by decide +kernel
theorem dX8_addRoom_6 : decode cX8_addRoom 6 = .ok (.if_icmp .ge 43, 3) := by decide +kernel
theorem dX8_addRoom_9 : decode cX8_addRoom 9 = .ok (.aload_n 0, 1) := by decide +kernel
theorem dX8_addRoom_10 : decode cX8_addRoom 10 = .ok (.getfield 27, 3) := by decide +kernel
theorem dX8_addRoom_13 : decode cX8_addRoom 13 = .ok (.aload_n 0, 1) := by decide +kernel
theorem dX8_addRoom_14 : decode cX8_addRoom 14 = .ok (.getfield 9, 3) := by decide +kernel
theorem dX8_addRoom_17 : decode cX8_addRoom 17 = .ok (.iload_n 1, 1) := by decide +kernel
theorem dX8_addRoom_18 : decode cX8_addRoom 18 = .ok (.iastore, 1) := by decide +kernel
theorem dX8_addRoom_19 : decode cX8_addRoom 19 = .ok (.aload_n 0, 1) := by decide +kernel
theorem dX8_addRoom_20 : decode cX8_addRoom 20 = .ok (.getfield 31, 3) := by decide +kernel
theorem dX8_addRoom_23 : decode cX8_addRoom 23 = .ok (.aload_n 0, 1) := by decide +kernel
theorem dX8_addRoom_24 : decode cX8_addRoom 24 = .ok (.getfield 9, 3) := by decide +kernel
theorem dX8_addRoom_27 : decode cX8_addRoom 27 = .ok (.iconst 0, 1) := by decide +kernel
theorem dX8_addRoom_28 : decode cX8_addRoom 28 = .ok (.iastore, 1) := by decide +kernel
theorem dX8_addRoom_29 : decode cX8_addRoom 29 = .ok (.aload_n 0, 1) := by decide +kernel
theorem dX8_addRoom_30 : decode cX8_addRoom 30 = .ok (.getfield 34, 3) := by decide +kernel
theorem dX8_addRoom_33 : decode cX8_addRoom 33 = .ok (.aload_n 0, 1) := by decide +kernel
theorem dX8_addRoom_34 : decode cX8_addRoom 34 = .ok (.getfield 9, 3) := by decide +kernel
theorem dX8_addRoom_37 : decode cX8_addRoom 37 = .ok (.iconst 0, 1) := by decide +kernel
theorem dX8_addRoom_38 : decode cX8_addRoom 38 = .ok (.iastore, 1) := by decide +kernel
theorem dX8_addRoom_39 : decode cX8_addRoom 39 = .ok (.aload_n 0, 1) := by decide +kernel
theorem dX8_addRoom_40 : decode cX8_addRoom 40 = .ok (.dup, 1) := by decide +kernel
theorem dX8_addRoom_41 : decode cX8_addRoom 41 = .ok (.getfield 9, 3) := by decide +kernel
theorem dX8_addRoom_44 : decode cX8_addRoom 44 = .ok (.iconst 1, 1) := by decide +kernel
theorem dX8_addRoom_45 : decode cX8_addRoom 45 = .ok (.iadd, 1) := by decide +kernel
theorem dX8_addRoom_46 : decode cX8_addRoom 46 = .ok (.putfield 9, 3) := by decide +kernel
theorem dX8_addRoom_49 : decode cX8_addRoom 49 = .ok (.return_, 1) := by decide +kernel
theorem dX8_addThing_0 : decode cX8_addThing 0 = .ok (.aload_n 0, 1) := by decide +kernel
theorem dX8_addThing_1 : decode cX8_addThing 1 = .ok (.getfield 15, 3) := by decide +kernel
theorem dX8_addThing_4 : decode cX8_addThing 4 = .ok (.bipush 6, 2) := by decide +kernel
theorem dX8_addThing_6 : decode cX8_addThing 6 = .ok (.if_icmp .ge 42, 3) := by decide +kernel
theorem dX8_addThing_9 : decode cX8_addThing 9 = .ok (.aload_n 0, 1) := by decide +kernel
theorem dX8_addThing_10 : decode cX8_addThing 10 = .ok (.getfield 37, 3) := by decide +kernel
theorem dX8_addThing_13 : decode cX8_addThing 13 = .ok (.aload_n 0, 1) := by decide +kernel
theorem dX8_addThing_14 : decode cX8_addThing 14 = .ok (.getfield 15, 3) := by decide +kernel
theorem dX8_addThing_17 : decode cX8_addThing 17 = .ok (.iload_n 1, 1) := by decide +kernel
theorem dX8_addThing_18 : decode cX8_addThing 18 = .ok (.iastore, 1) := by decide +kernel
theorem dX8_addThing_19 : decode cX8_addThing 19 = .ok (.aload_n 0, 1) := by decide +kernel
theorem dX8_addThing_20 : decode cX8_addThing 20 = .ok (.getfield 40, 3) := by decide +kernel
theorem dX8_addThing_23 : decode cX8_addThing 23 = .ok (.aload_n 0, 1) := by decide +kernel
theorem dX8_addThing_24 : decode cX8_addThing 24 = .ok (.getfield 15, 3) := by decide +kernel
theorem dX8_addThing_27 : decode cX8_addThing 27 = .ok (.iload_n 3, 1) := by decide +kernel
theorem dX8_addThing_28 : decode cX8_addThing 28 = .ok (.iastore, 1) := by decide +kernel
theorem dX8_addThing_29 : decode cX8_addThing 29 = .ok (.aload_n 0, 1) := by decide +kernel
theorem dX8_addThing_30 : decode cX8_addThing 30 = .ok (.aload_n 0, 1) := by decide +kernel
theorem dX8_addThing_31 : decode cX8_addThing 31 = .ok (.getfield 15, 3) := by decide +kernel
theorem dX8_addThing_34 : decode cX8_addThing 34 = .ok (.iload_n 2, 1) := by decide +kernel
theorem dX8_addThing_35 : decode cX8_addThing 35 = .ok (.invokevirtual 55, 3) := by decide +kernel
theorem dX8_addThing_38 : decode cX8_addThing 38 = .ok (.aload_n 0, 1) := by decide +kernel
theorem dX8_addThing_39 : decode cX8_addThing 39 = .ok (.dup, 1) := by decide +kernel
theorem dX8_addThing_40 : decode cX8_addThing 40 = .ok (.getfield 15, 3) := by decide +kernel
theorem dX8_addThing_43 : decode cX8_addThing 43 = .ok (.iconst 1, 1) := by decide +kernel
theorem dX8_addThing_44 : decode cX8_addThing 44 = .ok (.iadd, 1) := by decide +kernel
theorem dX8_addThing_45 : decode cX8_addThing 45 = .ok (.putfield 15, 3) := by decide +kernel
theorem dX8_addThing_48 : decode cX8_addThing 48 = .ok (.return_, 1) := by decide +kernel
theorem dX8_place_0 : decode cX8_place 0 = .ok (.aload_n 0, 1) := by decide +kernel
theorem dX8_place_1 : decode cX8_place 1 = .ok (.getfield 43, 3) := by decide +kernel
theorem dX8_place_4 : decode cX8_place 4 = .ok (.iload_n 1, 1) := by decide +kernel
theorem dX8_place_5 : decode cX8_place 5 = .ok (.iload_n 2, 1) := by decide +kernel
theorem dX8_place_6 : decode cX8_place 6 = .ok (.iastore, 1) := by decide +kernel
theorem dX8_place_7 : decode cX8_place 7 = .ok (.iload_n 2, 1) := by decide +kernel
theorem dX8_place_8 : decode cX8_place 8 = .ok (.bipush 20, 2) := by decide +kernel
theorem dX8_place_10 : decode cX8_place 10 = .ok (.if_icmp .eq 23, 3) := by decide +kernel
theorem dX8_place_13 : decode cX8_place 13 = .ok (.aload_n 0, 1) := by decide +kernel
theorem dX8_place_14 : decode cX8_place 14 = .ok (.getfield 46, 3) := by decide +kernel
theorem dX8_place_17 : decode cX8_place 17 = .ok (.iload_n 1, 1) := by decide +kernel
theorem dX8_place_18 : decode cX8_place 18 = .ok (.iload_n 2, 1) := by decide +kernel
theorem dX8_place_19 : decode cX8_place 19 = .ok (.bipush 20, 2) := by decide +kernel
theorem dX8_place_21 : decode cX8_place 21 = .ok (.if_icmp .ge 7, 3) := by decide +kernel
theorem dX8_place_24 : decode cX8_place 24 = .ok (.iload_n 2, 1) := by decide +kernel
theorem dX8_place_25 : decode cX8_place 25 = .ok (.goto 7, 3) := by decide +kernel
theorem dX8_place_28 : decode cX8_place 28 = .ok (.iload_n 2, 1) := by decide +kernel
theorem dX8_place_29 : decode cX8_place 29 = .ok (.bipush 30, 2) := by decide +kernel
theorem dX8_place_31 : decode cX8_place 31 = .ok (.isub, 1) := by decide +kernel
theorem dX8_place_32 : decode cX8_place 32 = .ok (.iastore, 1) := by decide +kernel
theorem dX8_place_33 : decode cX8_place 33 = .ok (.return_, 1) := by decide +kernel
theorem dX8_stands_0 : decode cX8_stands 0 = .ok (.aload_n 0, 1) := by decide +kernel
theorem dX8_stands_1 : decode cX8_stands 1 = .ok (.getfield 43, 3) := by decide +kernel
theorem dX8_stands_4 : decode cX8_stands 4 = .ok (.iload_n 1, 1) := by decide +kernel
theorem dX8_stands_5 : decode cX8_stands 5 = .ok (.iaload, 1) := by decide +kernel
theorem dX8_stands_6 : decode cX8_stands 6 = .ok (.bipush 20, 2) := by decide +kernel
theorem dX8_stands_8 : decode cX8_stands 8 = .ok (.if_icmp .ge 7, 3) := by decide +kernel
theorem dX8_stands_11 : decode cX8_stands 11 = .ok (.iconst 1, 1) := by decide +kernel
theorem dX8_stands_12 : decode cX8_stands 12 = .ok (.goto 4, 3) := by decide +kernel
theorem dX8_stands_15 : decode cX8_stands 15 = .ok (.iconst 0, 1) := by decide +kernel
theorem dX8_stands_16 : decode cX8_stands 16 = .ok (.ireturn, 1) := by decide +kernel
theorem dX8_carried_0 : decode cX8_carried 0 = .ok (.iload_n 1, 1) := by decide +kernel
theorem dX8_carried_1 : decode cX8_carried 1 = .ok (.bipush 20, 2) := by decide +kernel
theorem dX8_carried_3 : decode cX8_carried 3 = .ok (.if_icmp .ge 12, 3) := by decide +kernel
theorem dX8_carried_6 : decode cX8_carried 6 = .ok (.aload_n 0, 1) := by decide +kernel
theorem dX8_carried_7 : decode cX8_carried 7 = .ok (.iload_n 1, 1) := by decide +kernel
theorem dX8_carried_8 : decode cX8_carried 8 = .ok (.iconst 1, 1) := by decide +kernel
theorem dX8_carried_9 : decode cX8_carried 9 = .ok (.invokevirtual 59, 3) := by decide +kernel
theorem dX8_carried_12 : decode cX8_carried 12 = .ok (.goto 4, 3) := by decide +kernel
theorem dX8_carried_15 : decode cX8_carried 15 = .ok (.iload_n 1, 1) := by decide +kernel
theorem dX8_carried_16 : decode cX8_carried 16 = .ok (.ireturn, 1) := by decide +kernel
theorem dX8_goneOn_0 : decode cX8_goneOn 0 = .ok (.iload_n 1, 1) := by decide +kernel
theorem dX8_goneOn_1 : decode cX8_goneOn 1 = .ok (.iload_n 2, 1) := by decide +kernel
theorem dX8_goneOn_2 : decode cX8_goneOn 2 = .ok (.iadd, 1) := by decide +kernel
theorem dX8_goneOn_3 : decode cX8_goneOn 3 = .ok (.aload_n 0, 1) := by decide +kernel
theorem dX8_goneOn_4 : decode cX8_goneOn 4 = .ok (.getfield 9, 3) := by decide +kernel
theorem dX8_goneOn_7 : decode cX8_goneOn 7 = .ok (.if_icmp .ge 9, 3) := by decide +kernel
theorem dX8_goneOn_10 : decode cX8_goneOn 10 = .ok (.iload_n 1, 1) := by decide +kernel
theorem dX8_goneOn_11 : decode cX8_goneOn 11 = .ok (.iload_n 2, 1) := by decide +kernel
theorem dX8_goneOn_12 : decode cX8_goneOn 12 = .ok (.iadd, 1) := by decide +kernel
theorem dX8_goneOn_13 : decode cX8_goneOn 13 = .ok (.goto 5, 3) := by decide +kernel
theorem dX8_goneOn_16 : decode cX8_goneOn 16 = .ok (.bipush 20, 2) := by decide +kernel
theorem dX8_goneOn_18 : decode cX8_goneOn 18 = .ok (.ireturn, 1) := by decide +kernel
theorem dX8_standing_0 : decode cX8_standing 0 = .ok (.iconst 0, 1) := by decide +kernel
theorem dX8_standing_1 : decode cX8_standing 1 = .ok (.istore_n 1, 1) := by decide +kernel
theorem dX8_standing_2 : decode cX8_standing 2 = .ok (.iconst 0, 1) := by decide +kernel
theorem dX8_standing_3 : decode cX8_standing 3 = .ok (.istore_n 2, 1) := by decide +kernel
theorem dX8_standing_4 : decode cX8_standing 4 = .ok (.iload_n 2, 1) := by decide +kernel
theorem dX8_standing_5 : decode cX8_standing 5 = .ok (.aload_n 0, 1) := by decide +kernel
theorem dX8_standing_6 : decode cX8_standing 6 = .ok (.getfield 15, 3) := by decide +kernel
theorem dX8_standing_9 : decode cX8_standing 9 = .ok (.if_icmp .ge 26, 3) := by decide +kernel
theorem dX8_standing_12 : decode cX8_standing 12 = .ok (.aload_n 0, 1) := by decide +kernel
theorem dX8_standing_13 : decode cX8_standing 13 = .ok (.getfield 43, 3) := by decide +kernel
theorem dX8_standing_16 : decode cX8_standing 16 = .ok (.iload_n 2, 1) := by decide +kernel
theorem dX8_standing_17 : decode cX8_standing 17 = .ok (.iaload, 1) := by decide +kernel
theorem dX8_standing_18 : decode cX8_standing 18 = .ok (.bipush 20, 2) := by decide +kernel
theorem dX8_standing_20 : decode cX8_standing 20 = .ok (.if_icmp .ge 9, 3) := by decide +kernel
theorem dX8_standing_23 : decode cX8_standing 23 = .ok (.iload_n 1, 1) := by decide +kernel
theorem dX8_standing_24 : decode cX8_standing 24 = .ok (.iconst 1, 1) := by decide +kernel
theorem dX8_standing_25 : decode cX8_standing 25 = .ok (.iload_n 2, 1) := by decide +kernel
theorem dX8_standing_26 : decode cX8_standing 26 = .ok (.ishl, 1) := by decide +kernel
theorem dX8_standing_27 : decode cX8_standing 27 = .ok (.ior, 1) := by decide +kernel
theorem dX8_standing_28 : decode cX8_standing 28 = .ok (.istore_n 1, 1) := by decide +kernel
theorem dX8_standing_29 : decode cX8_standing 29 = .ok (.iinc 2 1, 3) := by decide +kernel
theorem dX8_standing_32 : decode cX8_standing 32 = .ok (.goto (-28), 3) := by decide +kernel
theorem dX8_standing_35 : decode cX8_standing 35 = .ok (.iload_n 1, 1) := by decide +kernel
theorem dX8_standing_36 : decode cX8_standing 36 = .ok (.ireturn, 1) := by decide +kernel
theorem dX8_stones_0 : decode cX8_stones 0 = .ok (.iconst 0, 1) := by decide +kernel
theorem dX8_stones_1 : decode cX8_stones 1 = .ok (.istore_n 1, 1) := by decide +kernel
theorem dX8_stones_2 : decode cX8_stones 2 = .ok (.iconst 0, 1) := by decide +kernel
theorem dX8_stones_3 : decode cX8_stones 3 = .ok (.istore_n 2, 1) := by decide +kernel
theorem dX8_stones_4 : decode cX8_stones 4 = .ok (.iload_n 2, 1) := by decide +kernel
theorem dX8_stones_5 : decode cX8_stones 5 = .ok (.aload_n 0, 1) := by decide +kernel
theorem dX8_stones_6 : decode cX8_stones 6 = .ok (.getfield 15, 3) := by decide +kernel
theorem dX8_stones_9 : decode cX8_stones 9 = .ok (.if_icmp .ge 26, 3) := by decide +kernel
theorem dX8_stones_12 : decode cX8_stones 12 = .ok (.aload_n 0, 1) := by decide +kernel
theorem dX8_stones_13 : decode cX8_stones 13 = .ok (.getfield 43, 3) := by decide +kernel
theorem dX8_stones_16 : decode cX8_stones 16 = .ok (.iload_n 2, 1) := by decide +kernel
theorem dX8_stones_17 : decode cX8_stones 17 = .ok (.iaload, 1) := by decide +kernel
theorem dX8_stones_18 : decode cX8_stones 18 = .ok (.bipush 30, 2) := by decide +kernel
theorem dX8_stones_20 : decode cX8_stones 20 = .ok (.if_icmp .lt 9, 3) := by decide +kernel
theorem dX8_stones_23 : decode cX8_stones 23 = .ok (.iload_n 1, 1) := by decide +kernel
theorem dX8_stones_24 : decode cX8_stones 24 = .ok (.iconst 1, 1) := by decide +kernel
theorem dX8_stones_25 : decode cX8_stones 25 = .ok (.iload_n 2, 1) := by decide +kernel
theorem dX8_stones_26 : decode cX8_stones 26 = .ok (.ishl, 1) := by decide +kernel
theorem dX8_stones_27 : decode cX8_stones 27 = .ok (.ior, 1) := by decide +kernel
theorem dX8_stones_28 : decode cX8_stones 28 = .ok (.istore_n 1, 1) := by decide +kernel
theorem dX8_stones_29 : decode cX8_stones 29 = .ok (.iinc 2 1, 3) := by decide +kernel
theorem dX8_stones_32 : decode cX8_stones 32 = .ok (.goto (-28), 3) := by decide +kernel
theorem dX8_stones_35 : decode cX8_stones 35 = .ok (.iload_n 1, 1) := by decide +kernel
theorem dX8_stones_36 : decode cX8_stones 36 = .ok (.ireturn, 1) := by decide +kernel
theorem dX8_allAt_0 : decode cX8_allAt 0 = .ok (.iconst 0, 1) := by decide +kernel
theorem dX8_allAt_1 : decode cX8_allAt 1 = .ok (.istore_n 2, 1) := by decide +kernel
theorem dX8_allAt_2 : decode cX8_allAt 2 = .ok (.iconst 0, 1) := by decide +kernel
theorem dX8_allAt_3 : decode cX8_allAt 3 = .ok (.istore_n 3, 1) := by decide +kernel
theorem dX8_allAt_4 : decode cX8_allAt 4 = .ok (.iload_n 3, 1) := by decide +kernel
theorem dX8_allAt_5 : decode cX8_allAt 5 = .ok (.aload_n 0, 1) := by decide +kernel
theorem dX8_allAt_6 : decode cX8_allAt 6 = .ok (.getfield 15, 3) := by decide +kernel
theorem dX8_allAt_9 : decode cX8_allAt 9 = .ok (.if_icmp .ge 25, 3) := by decide +kernel
theorem dX8_allAt_12 : decode cX8_allAt 12 = .ok (.aload_n 0, 1) := by decide +kernel
theorem dX8_allAt_13 : decode cX8_allAt 13 = .ok (.getfield 43, 3) := by decide +kernel
theorem dX8_allAt_16 : decode cX8_allAt 16 = .ok (.iload_n 3, 1) := by decide +kernel
theorem dX8_allAt_17 : decode cX8_allAt 17 = .ok (.iaload, 1) := by decide +kernel
theorem dX8_allAt_18 : decode cX8_allAt 18 = .ok (.iload_n 1, 1) := by decide +kernel
theorem dX8_allAt_19 : decode cX8_allAt 19 = .ok (.if_icmp .ne 9, 3) := by decide +kernel
theorem dX8_allAt_22 : decode cX8_allAt 22 = .ok (.iload_n 2, 1) := by decide +kernel
theorem dX8_allAt_23 : decode cX8_allAt 23 = .ok (.iconst 1, 1) := by decide +kernel
theorem dX8_allAt_24 : decode cX8_allAt 24 = .ok (.iload_n 3, 1) := by decide +kernel
theorem dX8_allAt_25 : decode cX8_allAt 25 = .ok (.ishl, 1) := by decide +kernel
theorem dX8_allAt_26 : decode cX8_allAt 26 = .ok (.ior, 1) := by decide +kernel
theorem dX8_allAt_27 : decode cX8_allAt 27 = .ok (.istore_n 2, 1) := by decide +kernel
theorem dX8_allAt_28 : decode cX8_allAt 28 = .ok (.iinc 3 1, 3) := by decide +kernel
theorem dX8_allAt_31 : decode cX8_allAt 31 = .ok (.goto (-27), 3) := by decide +kernel
theorem dX8_allAt_34 : decode cX8_allAt 34 = .ok (.iload_n 2, 1) := by decide +kernel
theorem dX8_allAt_35 : decode cX8_allAt 35 = .ok (.ireturn, 1) := by decide +kernel
theorem dX8_allLava_0 : decode cX8_allLava 0 = .ok (.iconst 0, 1) := by decide +kernel
theorem dX8_allLava_1 : decode cX8_allLava 1 = .ok (.istore_n 1, 1) := by decide +kernel
theorem dX8_allLava_2 : decode cX8_allLava 2 = .ok (.iconst 0, 1) := by decide +kernel
theorem dX8_allLava_3 : decode cX8_allLava 3 = .ok (.istore_n 2, 1) := by decide +kernel
theorem dX8_allLava_4 : decode cX8_allLava 4 = .ok (.iload_n 2, 1) := by decide +kernel
theorem dX8_allLava_5 : decode cX8_allLava 5 = .ok (.aload_n 0, 1) := by decide +kernel
theorem dX8_allLava_6 : decode cX8_allLava 6 = .ok (.getfield 9, 3) := by decide +kernel
theorem dX8_allLava_9 : decode cX8_allLava 9 = .ok (.if_icmp .ge 18, 3) := by decide +kernel
theorem dX8_allLava_12 : decode cX8_allLava 12 = .ok (.iload_n 1, 1) := by decide +kernel
theorem dX8_allLava_13 : decode cX8_allLava 13 = .ok (.aload_n 0, 1) := by decide +kernel
theorem dX8_allLava_14 : decode cX8_allLava 14 = .ok (.getfield 31, 3) := by decide +kernel
theorem dX8_allLava_17 : decode cX8_allLava 17 = .ok (.iload_n 2, 1) := by decide +kernel
theorem dX8_allLava_18 : decode cX8_allLava 18 = .ok (.iaload, 1) := by decide +kernel
theorem dX8_allLava_19 : decode cX8_allLava 19 = .ok (.iadd, 1) := by decide +kernel
theorem dX8_allLava_20 : decode cX8_allLava 20 = .ok (.istore_n 1, 1) := by decide +kernel
theorem dX8_allLava_21 : decode cX8_allLava 21 = .ok (.iinc 2 1, 3) := by decide +kernel
theorem dX8_allLava_24 : decode cX8_allLava 24 = .ok (.goto (-20), 3) := by decide +kernel
theorem dX8_allLava_27 : decode cX8_allLava 27 = .ok (.iload_n 1, 1) := by decide +kernel
theorem dX8_allLava_28 : decode cX8_allLava 28 = .ok (.ireturn, 1) := by decide +kernel
theorem dX8_pass_0 : decode cX8_pass 0 = .ok (.aload_n 0, 1) := by decide +kernel
theorem dX8_pass_1 : decode cX8_pass 1 = .ok (.aload_n 0, 1) := by decide +kernel
theorem dX8_pass_2 : decode cX8_pass 2 = .ok (.getfield 31, 3) := by decide +kernel
theorem dX8_pass_5 : decode cX8_pass 5 = .ok (.iconst 0, 1) := by decide +kernel
theorem dX8_pass_6 : decode cX8_pass 6 = .ok (.aload_n 0, 1) := by decide +kernel
theorem dX8_pass_7 : decode cX8_pass 7 = .ok (.getfield 24, 3) := by decide +kernel
theorem dX8_pass_10 : decode cX8_pass 10 = .ok (.invokevirtual 63, 3) := by decide +kernel
theorem dX8_pass_13 : decode cX8_pass 13 = .ok (.iconst 0, 1) := by decide +kernel
theorem dX8_pass_14 : decode cX8_pass 14 = .ok (.istore_n 1, 1) := by decide +kernel
theorem dX8_pass_15 : decode cX8_pass 15 = .ok (.iload_n 1, 1) := by decide +kernel
theorem dX8_pass_16 : decode cX8_pass 16 = .ok (.aload_n 0, 1) := by decide +kernel
theorem dX8_pass_17 : decode cX8_pass 17 = .ok (.getfield 15, 3) := by decide +kernel
theorem dX8_pass_20 : decode cX8_pass 20 = .ok (.if_icmp .ge 45, 3) := by decide +kernel
theorem dX8_pass_23 : decode cX8_pass 23 = .ok (.aload_n 0, 1) := by decide +kernel
theorem dX8_pass_24 : decode cX8_pass 24 = .ok (.iload_n 1, 1) := by decide +kernel
theorem dX8_pass_25 : decode cX8_pass 25 = .ok (.aload_n 0, 1) := by decide +kernel
theorem dX8_pass_26 : decode cX8_pass 26 = .ok (.aload_n 0, 1) := by decide +kernel
theorem dX8_pass_27 : decode cX8_pass 27 = .ok (.getfield 43, 3) := by decide +kernel
theorem dX8_pass_30 : decode cX8_pass 30 = .ok (.iload_n 1, 1) := by decide +kernel
theorem dX8_pass_31 : decode cX8_pass 31 = .ok (.iaload, 1) := by decide +kernel
theorem dX8_pass_32 : decode cX8_pass 32 = .ok (.aload_n 0, 1) := by decide +kernel
theorem dX8_pass_33 : decode cX8_pass 33 = .ok (.getfield 37, 3) := by decide +kernel
theorem dX8_pass_36 : decode cX8_pass 36 = .ok (.iload_n 1, 1) := by decide +kernel
theorem dX8_pass_37 : decode cX8_pass 37 = .ok (.iaload, 1) := by decide +kernel
theorem dX8_pass_38 : decode cX8_pass 38 = .ok (.aload_n 0, 1) := by decide +kernel
theorem dX8_pass_39 : decode cX8_pass 39 = .ok (.getfield 40, 3) := by decide +kernel
theorem dX8_pass_42 : decode cX8_pass 42 = .ok (.iload_n 1, 1) := by decide +kernel
theorem dX8_pass_43 : decode cX8_pass 43 = .ok (.iaload, 1) := by decide +kernel
theorem dX8_pass_44 : decode cX8_pass 44 = .ok (.aload_n 0, 1) := by decide +kernel
theorem dX8_pass_45 : decode cX8_pass 45 = .ok (.getfield 31, 3) := by decide +kernel
theorem dX8_pass_48 : decode cX8_pass 48 = .ok (.iconst 0, 1) := by decide +kernel
theorem dX8_pass_49 : decode cX8_pass 49 = .ok (.aload_n 0, 1) := by decide +kernel
theorem dX8_pass_50 : decode cX8_pass 50 = .ok (.getfield 24, 3) := by decide +kernel
theorem dX8_pass_53 : decode cX8_pass 53 = .ok (.invokevirtual 67, 3) := by decide +kernel
theorem dX8_pass_56 : decode cX8_pass 56 = .ok (.invokevirtual 55, 3) := by decide +kernel
theorem dX8_pass_59 : decode cX8_pass 59 = .ok (.iinc 1 1, 3) := by decide +kernel
theorem dX8_pass_62 : decode cX8_pass 62 = .ok (.goto (-47), 3) := by decide +kernel
theorem dX8_pass_65 : decode cX8_pass 65 = .ok (.aload_n 0, 1) := by decide +kernel
theorem dX8_pass_66 : decode cX8_pass 66 = .ok (.dup, 1) := by decide +kernel
theorem dX8_pass_67 : decode cX8_pass 67 = .ok (.getfield 24, 3) := by decide +kernel
theorem dX8_pass_70 : decode cX8_pass 70 = .ok (.iconst 1, 1) := by decide +kernel
theorem dX8_pass_71 : decode cX8_pass 71 = .ok (.iadd, 1) := by decide +kernel
theorem dX8_pass_72 : decode cX8_pass 72 = .ok (.putfield 24, 3) := by decide +kernel
theorem dX8_pass_75 : decode cX8_pass 75 = .ok (.return_, 1) := by decide +kernel
theorem dX8_flow_0 : decode cX8_flow 0 = .ok (.iload_n 3, 1) := by decide +kernel
theorem dX8_flow_1 : decode cX8_flow 1 = .ok (.aload_n 0, 1) := by decide +kernel
theorem dX8_flow_2 : decode cX8_flow 2 = .ok (.getfield 21, 3) := by decide +kernel
theorem dX8_flow_5 : decode cX8_flow 5 = .ok (.if_icmp .ge 13, 3) := by decide +kernel
theorem dX8_flow_8 : decode cX8_flow 8 = .ok (.aload_n 1, 1) := by decide +kernel
theorem dX8_flow_9 : decode cX8_flow 9 = .ok (.iload_n 2, 1) := by decide +kernel
theorem dX8_flow_10 : decode cX8_flow 10 = .ok (.dup2, 1) := by decide +kernel
theorem dX8_flow_11 : decode cX8_flow 11 = .ok (.iaload, 1) := by decide +kernel
theorem dX8_flow_12 : decode cX8_flow 12 = .ok (.aload_n 0, 1) := by decide +kernel
theorem dX8_flow_13 : decode cX8_flow 13 = .ok (.getfield 18, 3) := by decide +kernel
theorem dX8_flow_16 : decode cX8_flow 16 = .ok (.iadd, 1) := by decide +kernel
theorem dX8_flow_17 : decode cX8_flow 17 = .ok (.iastore, 1) := by decide +kernel
theorem dX8_flow_18 : decode cX8_flow 18 = .ok (.iconst 0, 1) := by decide +kernel
theorem dX8_flow_19 : decode cX8_flow 19 = .ok (.istore 4, 2) := by decide +kernel
theorem dX8_flow_21 : decode cX8_flow 21 = .ok (.iload 4, 2) := by decide +kernel
theorem dX8_flow_23 : decode cX8_flow 23 = .ok (.aload_n 0, 1) := by decide +kernel
theorem dX8_flow_24 : decode cX8_flow 24 = .ok (.getfield 9, 3) := by decide +kernel
theorem dX8_flow_27 : decode cX8_flow 27 = .ok (.if_icmp .ge 133, 3) := by decide +kernel
theorem dX8_flow_30 : decode cX8_flow 30 = .ok (.iload 4, 2) := by decide +kernel
theorem dX8_flow_32 : decode cX8_flow 32 = .ok (.iconst 1, 1) := by decide +kernel
theorem dX8_flow_33 : decode cX8_flow 33 = .ok (.iadd, 1) := by decide +kernel
theorem dX8_flow_34 : decode cX8_flow 34 = .ok (.aload_n 0, 1) := by decide +kernel
theorem dX8_flow_35 : decode cX8_flow 35 = .ok (.getfield 9, 3) := by decide +kernel
theorem dX8_flow_38 : decode cX8_flow 38 = .ok (.if_icmp .ne 7, 3) := by decide +kernel
theorem dX8_flow_41 : decode cX8_flow 41 = .ok (.iconst 1, 1) := by decide +kernel
theorem dX8_flow_42 : decode cX8_flow 42 = .ok (.goto 4, 3) := by decide +kernel
theorem dX8_flow_45 : decode cX8_flow 45 = .ok (.iconst 0, 1) := by decide +kernel
theorem dX8_flow_46 : decode cX8_flow 46 = .ok (.istore 5, 2) := by decide +kernel
theorem dX8_flow_48 : decode cX8_flow 48 = .ok (.iload 5, 2) := by decide +kernel
theorem dX8_flow_50 : decode cX8_flow 50 = .ok (.ifCond .eq 7, 3) := by decide +kernel
theorem dX8_flow_53 : decode cX8_flow 53 = .ok (.iconst 0, 1) := by decide +kernel
theorem dX8_flow_54 : decode cX8_flow 54 = .ok (.goto 21, 3) := by decide +kernel
theorem dX8_flow_57 : decode cX8_flow 57 = .ok (.aload_n 0, 1) := by decide +kernel
theorem dX8_flow_58 : decode cX8_flow 58 = .ok (.getfield 27, 3) := by decide +kernel
theorem dX8_flow_61 : decode cX8_flow 61 = .ok (.iload 4, 2) := by decide +kernel
theorem dX8_flow_63 : decode cX8_flow 63 = .ok (.iconst 1, 1) := by decide +kernel
theorem dX8_flow_64 : decode cX8_flow 64 = .ok (.iadd, 1) := by decide +kernel
theorem dX8_flow_65 : decode cX8_flow 65 = .ok (.iaload, 1) := by decide +kernel
theorem dX8_flow_66 : decode cX8_flow 66 = .ok (.aload_n 1, 1) := by decide +kernel
theorem dX8_flow_67 : decode cX8_flow 67 = .ok (.iload_n 2, 1) := by decide +kernel
theorem dX8_flow_68 : decode cX8_flow 68 = .ok (.iload 4, 2) := by decide +kernel
theorem dX8_flow_70 : decode cX8_flow 70 = .ok (.iadd, 1) := by decide +kernel
theorem dX8_flow_71 : decode cX8_flow 71 = .ok (.iconst 1, 1) := by decide +kernel
theorem dX8_flow_72 : decode cX8_flow 72 = .ok (.iadd, 1) := by decide +kernel
theorem dX8_flow_73 : decode cX8_flow 73 = .ok (.iaload, 1) := by decide +kernel
theorem dX8_flow_74 : decode cX8_flow 74 = .ok (.iadd, 1) := by decide +kernel
theorem dX8_flow_75 : decode cX8_flow 75 = .ok (.istore 6, 2) := by decide +kernel
theorem dX8_flow_77 : decode cX8_flow 77 = .ok (.aload_n 0, 1) := by decide +kernel
theorem dX8_flow_78 : decode cX8_flow 78 = .ok (.getfield 27, 3) := by decide +kernel
theorem dX8_flow_81 : decode cX8_flow 81 = .ok (.iload 4, 2) := by decide +kernel
theorem dX8_flow_83 : decode cX8_flow 83 = .ok (.iaload, 1) := by decide +kernel
theorem dX8_flow_84 : decode cX8_flow 84 = .ok (.aload_n 1, 1) := by decide +kernel
theorem dX8_flow_85 : decode cX8_flow 85 = .ok (.iload_n 2, 1) := by decide +kernel
theorem dX8_flow_86 : decode cX8_flow 86 = .ok (.iload 4, 2) := by decide +kernel
theorem dX8_flow_88 : decode cX8_flow 88 = .ok (.iadd, 1) := by decide +kernel
theorem dX8_flow_89 : decode cX8_flow 89 = .ok (.iaload, 1) := by decide +kernel
theorem dX8_flow_90 : decode cX8_flow 90 = .ok (.iadd, 1) := by decide +kernel
theorem dX8_flow_91 : decode cX8_flow 91 = .ok (.aload_n 0, 1) := by decide +kernel
theorem dX8_flow_92 : decode cX8_flow 92 = .ok (.getfield 34, 3) := by decide +kernel
theorem dX8_flow_95 : decode cX8_flow 95 = .ok (.iload 4, 2) := by decide +kernel
theorem dX8_flow_97 : decode cX8_flow 97 = .ok (.iaload, 1) := by decide +kernel
theorem dX8_flow_98 : decode cX8_flow 98 = .ok (.isub, 1) := by decide +kernel
theorem dX8_flow_99 : decode cX8_flow 99 = .ok (.iload 6, 2) := by decide +kernel
theorem dX8_flow_101 : decode cX8_flow 101 = .ok (.isub, 1) := by decide +kernel
theorem dX8_flow_102 : decode cX8_flow 102 = .ok (.istore 7, 2) := by decide +kernel
theorem dX8_flow_104 : decode cX8_flow 104 = .ok (.iload 7, 2) := by decide +kernel
theorem dX8_flow_106 : decode cX8_flow 106 = .ok (.iconst 2, 1) := by decide +kernel
theorem dX8_flow_107 : decode cX8_flow 107 = .ok (.if_icmp .lt 47, 3) := by decide +kernel
theorem dX8_flow_110 : decode cX8_flow 110 = .ok (.iload 7, 2) := by decide +kernel
theorem dX8_flow_112 : decode cX8_flow 112 = .ok (.iconst 2, 1) := by decide +kernel
theorem dX8_flow_113 : decode cX8_flow 113 = .ok (.idiv, 1) := by decide +kernel
theorem dX8_flow_114 : decode cX8_flow 114 = .ok (.aload_n 1, 1) := by decide +kernel
theorem dX8_flow_115 : decode cX8_flow 115 = .ok (.iload_n 2, 1) := by decide +kernel
theorem dX8_flow_116 : decode cX8_flow 116 = .ok (.iload 4, 2) := by decide +kernel
theorem dX8_flow_118 : decode cX8_flow 118 = .ok (.iadd, 1) := by decide +kernel
theorem dX8_flow_119 : decode cX8_flow 119 = .ok (.iaload, 1) := by decide +kernel
theorem dX8_flow_120 : decode cX8_flow 120 = .ok (.invokestatic 71, 3) := by decide +kernel
theorem dX8_flow_123 : decode cX8_flow 123 = .ok (.istore 8, 2) := by decide +kernel
theorem dX8_flow_125 : decode cX8_flow 125 = .ok (.aload_n 1, 1) := by decide +kernel
theorem dX8_flow_126 : decode cX8_flow 126 = .ok (.iload_n 2, 1) := by decide +kernel
theorem dX8_flow_127 : decode cX8_flow 127 = .ok (.iload 4, 2) := by decide +kernel
theorem dX8_flow_129 : decode cX8_flow 129 = .ok (.iadd, 1) := by decide +kernel
theorem dX8_flow_130 : decode cX8_flow 130 = .ok (.dup2, 1) := by decide +kernel
theorem dX8_flow_131 : decode cX8_flow 131 = .ok (.iaload, 1) := by decide +kernel
theorem dX8_flow_132 : decode cX8_flow 132 = .ok (.iload 8, 2) := by decide +kernel
theorem dX8_flow_134 : decode cX8_flow 134 = .ok (.isub, 1) := by decide +kernel
theorem dX8_flow_135 : decode cX8_flow 135 = .ok (.iastore, 1) := by decide +kernel
theorem dX8_flow_136 : decode cX8_flow 136 = .ok (.iload 5, 2) := by decide +kernel
theorem dX8_flow_138 : decode cX8_flow 138 = .ok (.ifCond .ne 16, 3) := by decide +kernel
theorem dX8_flow_141 : decode cX8_flow 141 = .ok (.aload_n 1, 1) := by decide +kernel
theorem dX8_flow_142 : decode cX8_flow 142 = .ok (.iload_n 2, 1) := by decide +kernel
theorem dX8_flow_143 : decode cX8_flow 143 = .ok (.iload 4, 2) := by decide +kernel
theorem dX8_flow_145 : decode cX8_flow 145 = .ok (.iadd, 1) := by decide +kernel
theorem dX8_flow_146 : decode cX8_flow 146 = .ok (.iconst 1, 1) := by decide +kernel
theorem dX8_flow_147 : decode cX8_flow 147 = .ok (.iadd, 1) := by decide +kernel
theorem dX8_flow_148 : decode cX8_flow 148 = .ok (.dup2, 1) := by decide +kernel
theorem dX8_flow_149 : decode cX8_flow 149 = .ok (.iaload, 1) := by decide +kernel
theorem dX8_flow_150 : decode cX8_flow 150 = .ok (.iload 8, 2) := by decide +kernel
theorem dX8_flow_152 : decode cX8_flow 152 = .ok (.iadd, 1) := by decide +kernel
theorem dX8_flow_153 : decode cX8_flow 153 = .ok (.iastore, 1) := by decide +kernel
theorem dX8_flow_154 : decode cX8_flow 154 = .ok (.iinc 4 1, 3) := by decide +kernel
theorem dX8_flow_157 : decode cX8_flow 157 = .ok (.goto (-136), 3) := by decide +kernel
theorem dX8_flow_160 : decode cX8_flow 160 = .ok (.return_, 1) := by decide +kernel
