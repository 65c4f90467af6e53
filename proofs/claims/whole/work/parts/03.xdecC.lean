/-! decode rows -/
theorem dX6_init_0 : decode cX6_init 0 = .ok (.aload_n 0, 1) := by decide +kernel
theorem dX6_init_1 : decode cX6_init 1 = .ok (.invokespecial 1, 3) := by decide +kernel
theorem dX6_init_4 : decode cX6_init 4 = .ok (.aload_n 0, 1) := by decide +kernel
theorem dX6_init_5 : decode cX6_init 5 = .ok (.sipush 246, 3) := by decide +kernel
theorem dX6_init_8 : decode cX6_init 8 = .ok (.newarray .int, 2) := by decide +kernel
theorem dX6_init_10 : decode cX6_init 10 = .ok (.putfield 7, 3) := by decide +kernel
theorem dX6_init_13 : decode cX6_init 13 = .ok (.aload_n 0, 1) := by decide +kernel
theorem dX6_init_14 : decode cX6_init 14 = .ok (.sipush 246, 3) := by decide +kernel
theorem dX6_init_17 : decode cX6_init 17 = .ok (.newarray .int, 2) := by decide +kernel
theorem dX6_init_19 : decode cX6_init 19 = .ok (.putfield 13, 3) := by decide +kernel
theorem dX6_init_22 : decode cX6_init 22 = .ok (.aload_n 0, 1) := by decide +kernel
theorem dX6_init_23 : decode cX6_init 23 = .ok (.sipush 246, 3) := by decide +kernel
theorem dX6_init_26 : decode cX6_init 26 = .ok (.newarray .int, 2) := by decide +kernel
theorem dX6_init_28 : decode cX6_init 28 = .ok (.putfield 16, 3) := by decide +kernel
theorem dX6_init_31 : decode cX6_init 31 = .ok (.aload_n 0, 1) := by decide +kernel
theorem dX6_init_32 : decode cX6_init 32 = .ok (.sipush 984, 3) := by decide +kernel
theorem dX6_init_35 : decode cX6_init 35 = .ok (.newarray .int, 2) := by decide +kernel
theorem dX6_init_37 : decode cX6_init 37 = .ok (.putfield 19, 3) := by decide +kernel
theorem dX6_init_40 : decode cX6_init 40 = .ok (.aload_n 0, 1) := by decide +kernel
theorem dX6_init_41 : decode cX6_init 41 = .ok (.sipush 246, 3) := by decide +kernel
theorem dX6_init_44 : decode cX6_init 44 = .ok (.newarray .int, 2) := by decide +kernel
theorem dX6_init_46 : decode cX6_init 46 = .ok (.putfield 22, 3) := by decide +kernel
theorem dX6_init_49 : decode cX6_init 49 = .ok (.aload_n 0, 1) := by decide +kernel
theorem dX6_init_50 : decode cX6_init 50 = .ok (.bipush 40, 2) := by decide +kernel
theorem dX6_init_52 : decode cX6_init 52 = .ok (.newarray .int, 2) := by decide +kernel
theorem dX6_init_54 : decode cX6_init 54 = .ok (.putfield 25, 3) := by decide +kernel
theorem dX6_init_57 : decode cX6_init 57 = .ok (.aload_n 0, 1) := by decide +kernel
theorem dX6_init_58 : decode cX6_init 58 = .ok (.bipush 60, 2) := by decide +kernel
theorem dX6_init_60 : decode cX6_init 60 = .ok (.newarray .int, 2) := by decide +kernel
theorem dX6_init_62 : decode cX6_init 62 = .ok (.putfield 28, 3) := by decide +kernel
theorem dX6_init_65 : decode cX6_init 65 = .ok (.aload_n 0, 1) := by decide +kernel
theorem dX6_init_66 : decode cX6_init 66 = .ok (.getfield 7, 3) := by decide +kernel
theorem dX6_init_69 : decode cX6_init 69 = .ok (.iconst 0, 1) := by decide +kernel
theorem dX6_init_70 : decode cX6_init 70 = .ok (.iconst 2, 1) := by decide +kernel
theorem dX6_init_71 : decode cX6_init 71 = .ok (.iastore, 1) := by decide +kernel
theorem dX6_init_72 : decode cX6_init 72 = .ok (.aload_n 0, 1) := by decide +kernel
theorem dX6_init_73 : decode cX6_init 73 = .ok (.getfield 7, 3) := by decide +kernel
theorem dX6_init_76 : decode cX6_init 76 = .ok (.iconst 1, 1) := by decide +kernel
theorem dX6_init_77 : decode cX6_init 77 = .ok (.bipush 7, 2) := by decide +kernel
theorem dX6_init_79 : decode cX6_init 79 = .ok (.iastore, 1) := by decide +kernel
theorem dX6_init_80 : decode cX6_init 80 = .ok (.aload_n 0, 1) := by decide +kernel
theorem dX6_init_81 : decode cX6_init 81 = .ok (.getfield 7, 3) := by decide +kernel
theorem dX6_init_84 : decode cX6_init 84 = .ok (.iconst 2, 1) := by decide +kernel
theorem dX6_init_85 : decode cX6_init 85 = .ok (.iconst 4, 1) := by decide +kernel
theorem dX6_init_86 : decode cX6_init 86 = .ok (.iastore, 1) := by decide +kernel
theorem dX6_init_87 : decode cX6_init 87 = .ok (.aload_n 0, 1) := by decide +kernel
theorem dX6_init_88 : decode cX6_init 88 = .ok (.getfield 7, 3) := by decide +kernel
theorem dX6_init_91 : decode cX6_init 91 = .ok (.bipush 6, 2) := by decide +kernel
theorem dX6_init_93 : decode cX6_init 93 = .ok (.sipush 256, 3) := by decide +kernel
theorem dX6_init_96 : decode cX6_init 96 = .ok (.iastore, 1) := by decide +kernel
theorem dX6_init_97 : decode cX6_init 97 = .ok (.aload_n 0, 1) := by decide +kernel
theorem dX6_init_98 : decode cX6_init 98 = .ok (.getfield 7, 3) := by decide +kernel
theorem dX6_init_101 : decode cX6_init 101 = .ok (.bipush 12, 2) := by decide +kernel
theorem dX6_init_103 : decode cX6_init 103 = .ok (.iconst 2, 1) := by decide +kernel
theorem dX6_init_104 : decode cX6_init 104 = .ok (.iastore, 1) := by decide +kernel
theorem dX6_init_105 : decode cX6_init 105 = .ok (.aload_n 0, 1) := by decide +kernel
theorem dX6_init_106 : decode cX6_init 106 = .ok (.getfield 7, 3) := by decide +kernel
theorem dX6_init_109 : decode cX6_init 109 = .ok (.bipush 13, 2) := by decide +kernel
theorem dX6_init_111 : decode cX6_init 111 = .ok (.iconst 2, 1) := by decide +kernel
theorem dX6_init_112 : decode cX6_init 112 = .ok (.iastore, 1) := by decide +kernel
theorem dX6_init_113 : decode cX6_init 113 = .ok (.return_, 1) := by decide +kernel
theorem dX6_in_0 : decode cX6_in 0 = .ok (.lload_n 0, 1) := by decide +kernel
theorem dX6_in_1 : decode cX6_in 1 = .ok (.lload_n 2, 1) := by decide +kernel
theorem dX6_in_2 : decode cX6_in 2 = .ok (.lcmp, 1) := by decide +kernel
theorem dX6_in_3 : decode cX6_in 3 = .ok (.ifCond .lt 14, 3) := by decide +kernel
theorem dX6_in_6 : decode cX6_in 6 = .ok (.lload_n 0, 1) := by decide +kernel
theorem dX6_in_7 : decode cX6_in 7 = .ok (.lload 4, 2) := by decide +kernel
theorem dX6_in_9 : decode cX6_in 9 = .ok (.lcmp, 1) := by decide +kernel
theorem dX6_in_10 : decode cX6_in 10 = .ok (.ifCond .gt 7, 3) := by decide +kernel
theorem dX6_in_13 : decode cX6_in 13 = .ok (.iconst 1, 1) := by decide +kernel
theorem dX6_in_14 : decode cX6_in 14 = .ok (.goto 4, 3) := by decide +kernel
theorem dX6_in_17 : decode cX6_in 17 = .ok (.iconst 0, 1) := by decide +kernel
theorem dX6_in_18 : decode cX6_in 18 = .ok (.ireturn, 1) := by decide +kernel
theorem dX6_keeps_0 : decode cX6_keeps 0 = .ok (.iconst 0, 1) := by decide +kernel
theorem dX6_keeps_1 : decode cX6_keeps 1 = .ok (.istore_n 1, 1) := by decide +kernel
theorem dX6_keeps_2 : decode cX6_keeps 2 = .ok (.iload_n 1, 1) := by decide +kernel
theorem dX6_keeps_3 : decode cX6_keeps 3 = .ok (.sipush 246, 3) := by decide +kernel
theorem dX6_keeps_6 : decode cX6_keeps 6 = .ok (.if_icmp .ge 21, 3) := by decide +kernel
theorem dX6_keeps_9 : decode cX6_keeps 9 = .ok (.aload_n 0, 1) := by decide +kernel
theorem dX6_keeps_10 : decode cX6_keeps 10 = .ok (.getfield 13, 3) := by decide +kernel
theorem dX6_keeps_13 : decode cX6_keeps 13 = .ok (.iload_n 1, 1) := by decide +kernel
theorem dX6_keeps_14 : decode cX6_keeps 14 = .ok (.aload_n 0, 1) := by decide +kernel
theorem dX6_keeps_15 : decode cX6_keeps 15 = .ok (.getfield 7, 3) := by decide +kernel
theorem dX6_keeps_18 : decode cX6_keeps 18 = .ok (.iload_n 1, 1) := by decide +kernel
theorem dX6_keeps_19 : decode cX6_keeps 19 = .ok (.iaload, 1) := by decide +kernel
theorem dX6_keeps_20 : decode cX6_keeps 20 = .ok (.iastore, 1) := by decide +kernel
theorem dX6_keeps_21 : decode cX6_keeps 21 = .ok (.iinc 1 1, 3) := by decide +kernel
theorem dX6_keeps_24 : decode cX6_keeps 24 = .ok (.goto (-22), 3) := by decide +kernel
theorem dX6_keeps_27 : decode cX6_keeps 27 = .ok (.return_, 1) := by decide +kernel
theorem dX6_ends_0 : decode cX6_ends 0 = .ok (.aload_n 0, 1) := by decide +kernel
theorem dX6_ends_1 : decode cX6_ends 1 = .ok (.getfield 31, 3) := by decide +kernel
theorem dX6_ends_4 : decode cX6_ends 4 = .ok (.iconst 4, 1) := by decide +kernel
theorem dX6_ends_5 : decode cX6_ends 5 = .ok (.if_icmp .ne 44, 3) := by decide +kernel
theorem dX6_ends_8 : decode cX6_ends 8 = .ok (.iconst 0, 1) := by decide +kernel
theorem dX6_ends_9 : decode cX6_ends 9 = .ok (.istore_n 2, 1) := by decide +kernel
theorem dX6_ends_10 : decode cX6_ends 10 = .ok (.iload_n 2, 1) := by decide +kernel
theorem dX6_ends_11 : decode cX6_ends 11 = .ok (.sipush 738, 3) := by decide +kernel
theorem dX6_ends_14 : decode cX6_ends 14 = .ok (.if_icmp .ge 25, 3) := by decide +kernel
theorem dX6_ends_17 : decode cX6_ends 17 = .ok (.aload_n 0, 1) := by decide +kernel
theorem dX6_ends_18 : decode cX6_ends 18 = .ok (.getfield 19, 3) := by decide +kernel
theorem dX6_ends_21 : decode cX6_ends 21 = .ok (.iload_n 2, 1) := by decide +kernel
theorem dX6_ends_22 : decode cX6_ends 22 = .ok (.aload_n 0, 1) := by decide +kernel
theorem dX6_ends_23 : decode cX6_ends 23 = .ok (.getfield 19, 3) := by decide +kernel
theorem dX6_ends_26 : decode cX6_ends 26 = .ok (.iload_n 2, 1) := by decide +kernel
theorem dX6_ends_27 : decode cX6_ends 27 = .ok (.sipush 246, 3) := by decide +kernel
theorem dX6_ends_30 : decode cX6_ends 30 = .ok (.iadd, 1) := by decide +kernel
theorem dX6_ends_31 : decode cX6_ends 31 = .ok (.iaload, 1) := by decide +kernel
theorem dX6_ends_32 : decode cX6_ends 32 = .ok (.iastore, 1) := by decide +kernel
theorem dX6_ends_33 : decode cX6_ends 33 = .ok (.iinc 2 1, 3) := by decide +kernel
theorem dX6_ends_36 : decode cX6_ends 36 = .ok (.goto (-26), 3) := by decide +kernel
theorem dX6_ends_39 : decode cX6_ends 39 = .ok (.aload_n 0, 1) := by decide +kernel
theorem dX6_ends_40 : decode cX6_ends 40 = .ok (.dup, 1) := by decide +kernel
theorem dX6_ends_41 : decode cX6_ends 41 = .ok (.getfield 31, 3) := by decide +kernel
theorem dX6_ends_44 : decode cX6_ends 44 = .ok (.iconst 1, 1) := by decide +kernel
theorem dX6_ends_45 : decode cX6_ends 45 = .ok (.isub, 1) := by decide +kernel
theorem dX6_ends_46 : decode cX6_ends 46 = .ok (.putfield 31, 3) := by decide +kernel
theorem dX6_ends_49 : decode cX6_ends 49 = .ok (.iconst 0, 1) := by decide +kernel
theorem dX6_ends_50 : decode cX6_ends 50 = .ok (.istore_n 2, 1) := by decide +kernel
theorem dX6_ends_51 : decode cX6_ends 51 = .ok (.iload_n 2, 1) := by decide +kernel
theorem dX6_ends_52 : decode cX6_ends 52 = .ok (.sipush 246, 3) := by decide +kernel
theorem dX6_ends_55 : decode cX6_ends 55 = .ok (.if_icmp .ge 30, 3) := by decide +kernel
theorem dX6_ends_58 : decode cX6_ends 58 = .ok (.aload_n 0, 1) := by decide +kernel
theorem dX6_ends_59 : decode cX6_ends 59 = .ok (.getfield 19, 3) := by decide +kernel
theorem dX6_ends_62 : decode cX6_ends 62 = .ok (.sipush 246, 3) := by decide +kernel
theorem dX6_ends_65 : decode cX6_ends 65 = .ok (.aload_n 0, 1) := by decide +kernel
theorem dX6_ends_66 : decode cX6_ends 66 = .ok (.getfield 31, 3) := by decide +kernel
theorem dX6_ends_69 : decode cX6_ends 69 = .ok (.imul, 1) := by decide +kernel
theorem dX6_ends_70 : decode cX6_ends 70 = .ok (.iload_n 2, 1) := by decide +kernel
theorem dX6_ends_71 : decode cX6_ends 71 = .ok (.iadd, 1) := by decide +kernel
theorem dX6_ends_72 : decode cX6_ends 72 = .ok (.aload_n 0, 1) := by decide +kernel
theorem dX6_ends_73 : decode cX6_ends 73 = .ok (.getfield 13, 3) := by decide +kernel
theorem dX6_ends_76 : decode cX6_ends 76 = .ok (.iload_n 2, 1) := by decide +kernel
theorem dX6_ends_77 : decode cX6_ends 77 = .ok (.iaload, 1) := by decide +kernel
theorem dX6_ends_78 : decode cX6_ends 78 = .ok (.iastore, 1) := by decide +kernel
theorem dX6_ends_79 : decode cX6_ends 79 = .ok (.iinc 2 1, 3) := by decide +kernel
theorem dX6_ends_82 : decode cX6_ends 82 = .ok (.goto (-31), 3) := by decide +kernel
theorem dX6_ends_85 : decode cX6_ends 85 = .ok (.aload_n 0, 1) := by decide +kernel
theorem dX6_ends_86 : decode cX6_ends 86 = .ok (.dup, 1) := by decide +kernel
theorem dX6_ends_87 : decode cX6_ends 87 = .ok (.getfield 31, 3) := by decide +kernel
theorem dX6_ends_90 : decode cX6_ends 90 = .ok (.iconst 1, 1) := by decide +kernel
theorem dX6_ends_91 : decode cX6_ends 91 = .ok (.iadd, 1) := by decide +kernel
theorem dX6_ends_92 : decode cX6_ends 92 = .ok (.putfield 31, 3) := by decide +kernel
theorem dX6_ends_95 : decode cX6_ends 95 = .ok (.iload_n 1, 1) := by decide +kernel
theorem dX6_ends_96 : decode cX6_ends 96 = .ok (.ireturn, 1) := by decide +kernel
theorem dX6_tries_0 : decode cX6_tries 0 = .ok (.iconst 0, 1) := by decide +kernel
theorem dX6_tries_1 : decode cX6_tries 1 = .ok (.istore_n 1, 1) := by decide +kernel
theorem dX6_tries_2 : decode cX6_tries 2 = .ok (.iload_n 1, 1) := by decide +kernel
theorem dX6_tries_3 : decode cX6_tries 3 = .ok (.sipush 246, 3) := by decide +kernel
theorem dX6_tries_6 : decode cX6_tries 6 = .ok (.if_icmp .ge 21, 3) := by decide +kernel
theorem dX6_tries_9 : decode cX6_tries 9 = .ok (.aload_n 0, 1) := by decide +kernel
theorem dX6_tries_10 : decode cX6_tries 10 = .ok (.getfield 16, 3) := by decide +kernel
theorem dX6_tries_13 : decode cX6_tries 13 = .ok (.iload_n 1, 1) := by decide +kernel
theorem dX6_tries_14 : decode cX6_tries 14 = .ok (.aload_n 0, 1) := by decide +kernel
theorem dX6_tries_15 : decode cX6_tries 15 = .ok (.getfield 7, 3) := by decide +kernel
theorem dX6_tries_18 : decode cX6_tries 18 = .ok (.iload_n 1, 1) := by decide +kernel
theorem dX6_tries_19 : decode cX6_tries 19 = .ok (.iaload, 1) := by decide +kernel
theorem dX6_tries_20 : decode cX6_tries 20 = .ok (.iastore, 1) := by decide +kernel
theorem dX6_tries_21 : decode cX6_tries 21 = .ok (.iinc 1 1, 3) := by decide +kernel
theorem dX6_tries_24 : decode cX6_tries 24 = .ok (.goto (-22), 3) := by decide +kernel
theorem dX6_tries_27 : decode cX6_tries 27 = .ok (.return_, 1) := by decide +kernel
theorem dX6_comesBack_0 : decode cX6_comesBack 0 = .ok (.iconst 0, 1) := by decide +kernel
theorem dX6_comesBack_1 : decode cX6_comesBack 1 = .ok (.istore_n 1, 1) := by decide +kernel
theorem dX6_comesBack_2 : decode cX6_comesBack 2 = .ok (.iload_n 1, 1) := by decide +kernel
theorem dX6_comesBack_3 : decode cX6_comesBack 3 = .ok (.sipush 246, 3) := by decide +kernel
theorem dX6_comesBack_6 : decode cX6_comesBack 6 = .ok (.if_icmp .ge 21, 3) := by decide +kernel
theorem dX6_comesBack_9 : decode cX6_comesBack 9 = .ok (.aload_n 0, 1) := by decide +kernel
theorem dX6_comesBack_10 : decode cX6_comesBack 10 = .ok (.getfield 7, 3) := by decide +kernel
theorem dX6_comesBack_13 : decode cX6_comesBack 13 = .ok (.iload_n 1, 1) := by decide +kernel
theorem dX6_comesBack_14 : decode cX6_comesBack 14 = .ok (.aload_n 0, 1) := by decide +kernel
theorem dX6_comesBack_15 : decode cX6_comesBack 15 = .ok (.getfield 16, 3) := by decide +kernel
theorem dX6_comesBack_18 : decode cX6_comesBack 18 = .ok (.iload_n 1, 1) := by decide +kernel
theorem dX6_comesBack_19 : decode cX6_comesBack 19 = .ok (.iaload, 1) := by decide +kernel
theorem dX6_comesBack_20 : decode cX6_comesBack 20 = .ok (.iastore, 1) := by decide +kernel
theorem dX6_comesBack_21 : decode cX6_comesBack 21 = .ok (.iinc 1 1, 3) := by decide +kernel
theorem dX6_comesBack_24 : decode cX6_comesBack 24 = .ok (.goto (-22), 3) := by decide +kernel
theorem dX6_comesBack_27 : decode cX6_comesBack 27 = .ok (.return_, 1) := by decide +kernel
theorem dX6_isPlace_0 : decode cX6_isPlace 0 = .ok (.iload_n 1, 1) := by decide +kernel
theorem dX6_isPlace_1 : decode cX6_isPlace 1 = .ok (.i2l, 1) := by decide +kernel
theorem dX6_isPlace_2 : decode cX6_isPlace 2 = .ok (.lconst 0, 1) := by decide +kernel
theorem dX6_isPlace_3 : decode cX6_isPlace 3 = .ok (.aload_n 0, 1) := by decide +kernel
theorem dX6_isPlace_4 : decode cX6_isPlace 4 = .ok (.getfield 7, 3) := by decide +kernel
theorem dX6_isPlace_7 : decode cX6_isPlace 7 = .ok (.iconst 4, 1) := by decide +kernel
theorem dX6_isPlace_8 : decode cX6_isPlace 8 = .ok (.iaload, 1) := by decide +kernel
theorem dX6_isPlace_9 : decode cX6_isPlace 9 = .ok (.i2l, 1) := by decide +kernel
theorem dX6_isPlace_10 : decode cX6_isPlace 10 = .ok (.lconst 1, 1) := by decide +kernel
theorem dX6_isPlace_11 : decode cX6_isPlace 11 = .ok (.lsub, 1) := by decide +kernel
theorem dX6_isPlace_12 : decode cX6_isPlace 12 = .ok (.invokestatic 35, 3) := by decide +kernel
theorem dX6_isPlace_15 : decode cX6_isPlace 15 = .ok (.ireturn, 1) := by decide +kernel
theorem dX6_due_0 : decode cX6_due 0 = .ok (.aload_n 0, 1) := by decide +kernel
theorem dX6_due_1 : decode cX6_due 1 = .ok (.getfield 7, 3) := by decide +kernel
theorem dX6_due_4 : decode cX6_due 4 = .ok (.bipush 26, 2) := by decide +kernel
theorem dX6_due_6 : decode cX6_due 6 = .ok (.iload_n 1, 1) := by decide +kernel
theorem dX6_due_7 : decode cX6_due 7 = .ok (.aload_n 0, 1) := by decide +kernel
theorem dX6_due_8 : decode cX6_due 8 = .ok (.getfield 7, 3) := by decide +kernel
theorem dX6_due_11 : decode cX6_due 11 = .ok (.iconst 4, 1) := by decide +kernel
theorem dX6_due_12 : decode cX6_due 12 = .ok (.iaload, 1) := by decide +kernel
theorem dX6_due_13 : decode cX6_due 13 = .ok (.iconst 2, 1) := by decide +kernel
theorem dX6_due_14 : decode cX6_due 14 = .ok (.idiv, 1) := by decide +kernel
theorem dX6_due_15 : decode cX6_due 15 = .ok (.if_icmp .ge 7, 3) := by decide +kernel
theorem dX6_due_18 : decode cX6_due 18 = .ok (.iload_n 1, 1) := by decide +kernel
theorem dX6_due_19 : decode cX6_due 19 = .ok (.goto 13, 3) := by decide +kernel
theorem dX6_due_22 : decode cX6_due 22 = .ok (.aload_n 0, 1) := by decide +kernel
theorem dX6_due_23 : decode cX6_due 23 = .ok (.getfield 7, 3) := by decide +kernel
theorem dX6_due_26 : decode cX6_due 26 = .ok (.iconst 4, 1) := by decide +kernel
theorem dX6_due_27 : decode cX6_due 27 = .ok (.iaload, 1) := by decide +kernel
theorem dX6_due_28 : decode cX6_due 28 = .ok (.iconst 1, 1) := by decide +kernel
theorem dX6_due_29 : decode cX6_due 29 = .ok (.isub, 1) := by decide +kernel
theorem dX6_due_30 : decode cX6_due 30 = .ok (.iload_n 1, 1) := by decide +kernel
theorem dX6_due_31 : decode cX6_due 31 = .ok (.isub, 1) := by decide +kernel
theorem dX6_due_32 : decode cX6_due 32 = .ok (.iadd, 1) := by decide +kernel
theorem dX6_due_33 : decode cX6_due 33 = .ok (.iaload, 1) := by decide +kernel
theorem dX6_due_34 : decode cX6_due 34 = .ok (.ireturn, 1) := by decide +kernel
theorem dX6_letterAt_0 : decode cX6_letterAt 0 = .ok (.aload_n 0, 1) := by decide +kernel
theorem dX6_letterAt_1 : decode cX6_letterAt 1 = .ok (.getfield 7, 3) := by decide +kernel
theorem dX6_letterAt_4 : decode cX6_letterAt 4 = .ok (.bipush 46, 2) := by decide +kernel
theorem dX6_letterAt_6 : decode cX6_letterAt 6 = .ok (.iload_n 1, 1) := by decide +kernel
theorem dX6_letterAt_7 : decode cX6_letterAt 7 = .ok (.iadd, 1) := by decide +kernel
theorem dX6_letterAt_8 : decode cX6_letterAt 8 = .ok (.iaload, 1) := by decide +kernel
theorem dX6_letterAt_9 : decode cX6_letterAt 9 = .ok (.ifCond .le 15, 3) := by decide +kernel
theorem dX6_letterAt_12 : decode cX6_letterAt 12 = .ok (.aload_n 0, 1) := by decide +kernel
theorem dX6_letterAt_13 : decode cX6_letterAt 13 = .ok (.getfield 7, 3) := by decide +kernel
theorem dX6_letterAt_16 : decode cX6_letterAt 16 = .ok (.bipush 46, 2) := by decide +kernel
theorem dX6_letterAt_18 : decode cX6_letterAt 18 = .ok (.iload_n 1, 1) := by decide +kernel
theorem dX6_letterAt_19 : decode cX6_letterAt 19 = .ok (.iadd, 1) := by decide +kernel
theorem dX6_letterAt_20 : decode cX6_letterAt 20 = .ok (.iaload, 1) := by decide +kernel
theorem dX6_letterAt_21 : decode cX6_letterAt 21 = .ok (.goto 8, 3) := by decide +kernel
theorem dX6_letterAt_24 : decode cX6_letterAt 24 = .ok (.aload_n 0, 1) := by decide +kernel
theorem dX6_letterAt_25 : decode cX6_letterAt 25 = .ok (.iload_n 1, 1) := by decide +kernel
theorem dX6_letterAt_26 : decode cX6_letterAt 26 = .ok (.invokevirtual 39, 3) := by decide +kernel
theorem dX6_letterAt_29 : decode cX6_letterAt 29 = .ok (.ireturn, 1) := by decide +kernel
theorem dX6_nextPlace_0 : decode cX6_nextPlace 0 = .ok (.aload_n 0, 1) := by decide +kernel
theorem dX6_nextPlace_1 : decode cX6_nextPlace 1 = .ok (.getfield 7, 3) := by decide +kernel
theorem dX6_nextPlace_4 : decode cX6_nextPlace 4 = .ok (.bipush 14, 2) := by decide +kernel
theorem dX6_nextPlace_6 : decode cX6_nextPlace 6 = .ok (.iload_n 1, 1) := by decide +kernel
theorem dX6_nextPlace_7 : decode cX6_nextPlace 7 = .ok (.iadd, 1) := by decide +kernel
theorem dX6_nextPlace_8 : decode cX6_nextPlace 8 = .ok (.iaload, 1) := by decide +kernel
theorem dX6_nextPlace_9 : decode cX6_nextPlace 9 = .ok (.istore_n 2, 1) := by decide +kernel
theorem dX6_nextPlace_10 : decode cX6_nextPlace 10 = .ok (.iload_n 2, 1) := by decide +kernel
theorem dX6_nextPlace_11 : decode cX6_nextPlace 11 = .ok (.aload_n 0, 1) := by decide +kernel
theorem dX6_nextPlace_12 : decode cX6_nextPlace 12 = .ok (.getfield 7, 3) := by decide +kernel
theorem dX6_nextPlace_15 : decode cX6_nextPlace 15 = .ok (.iconst 4, 1) := by decide +kernel
theorem dX6_nextPlace_16 : decode cX6_nextPlace 16 = .ok (.iaload, 1) := by decide +kernel
theorem dX6_nextPlace_17 : decode cX6_nextPlace 17 = .ok (.iconst 2, 1) := by decide +kernel
theorem dX6_nextPlace_18 : decode cX6_nextPlace 18 = .ok (.idiv, 1) := by decide +kernel
theorem dX6_nextPlace_19 : decode cX6_nextPlace 19 = .ok (.if_icmp .ne 8, 3) := by decide +kernel
theorem dX6_nextPlace_22 : decode cX6_nextPlace 22 = .ok (.bipush (-5), 2) := by decide +kernel
theorem dX6_nextPlace_24 : decode cX6_nextPlace 24 = .ok (.goto 21, 3) := by decide +kernel
theorem dX6_nextPlace_27 : decode cX6_nextPlace 27 = .ok (.iload_n 1, 1) := by decide +kernel
theorem dX6_nextPlace_28 : decode cX6_nextPlace 28 = .ok (.ifCond .ne 7, 3) := by decide +kernel
theorem dX6_nextPlace_31 : decode cX6_nextPlace 31 = .ok (.iload_n 2, 1) := by decide +kernel
theorem dX6_nextPlace_32 : decode cX6_nextPlace 32 = .ok (.goto 13, 3) := by decide +kernel
theorem dX6_nextPlace_35 : decode cX6_nextPlace 35 = .ok (.aload_n 0, 1) := by decide +kernel
theorem dX6_nextPlace_36 : decode cX6_nextPlace 36 = .ok (.getfield 7, 3) := by decide +kernel
theorem dX6_nextPlace_39 : decode cX6_nextPlace 39 = .ok (.iconst 4, 1) := by decide +kernel
theorem dX6_nextPlace_40 : decode cX6_nextPlace 40 = .ok (.iaload, 1) := by decide +kernel
theorem dX6_nextPlace_41 : decode cX6_nextPlace 41 = .ok (.iconst 1, 1) := by decide +kernel
theorem dX6_nextPlace_42 : decode cX6_nextPlace 42 = .ok (.isub, 1) := by decide +kernel
theorem dX6_nextPlace_43 : decode cX6_nextPlace 43 = .ok (.iload_n 2, 1) := by decide +kernel
theorem dX6_nextPlace_44 : decode cX6_nextPlace 44 = .ok (.isub, 1) := by decide +kernel
theorem dX6_nextPlace_45 : decode cX6_nextPlace 45 = .ok (.ireturn, 1) := by decide +kernel
theorem dX6_isDone_0 : decode cX6_isDone 0 = .ok (.aload_n 0, 1) := by decide +kernel
theorem dX6_isDone_1 : decode cX6_isDone 1 = .ok (.getfield 7, 3) := by decide +kernel
theorem dX6_isDone_4 : decode cX6_isDone 4 = .ok (.bipush 14, 2) := by decide +kernel
theorem dX6_isDone_6 : decode cX6_isDone 6 = .ok (.iaload, 1) := by decide +kernel
theorem dX6_isDone_7 : decode cX6_isDone 7 = .ok (.aload_n 0, 1) := by decide +kernel
theorem dX6_isDone_8 : decode cX6_isDone 8 = .ok (.getfield 7, 3) := by decide +kernel
theorem dX6_isDone_11 : decode cX6_isDone 11 = .ok (.bipush 15, 2) := by decide +kernel
theorem dX6_isDone_13 : decode cX6_isDone 13 = .ok (.iaload, 1) := by decide +kernel
theorem dX6_isDone_14 : decode cX6_isDone 14 = .ok (.iadd, 1) := by decide +kernel
theorem dX6_isDone_15 : decode cX6_isDone 15 = .ok (.aload_n 0, 1) := by decide +kernel
theorem dX6_isDone_16 : decode cX6_isDone 16 = .ok (.getfield 7, 3) := by decide +kernel
theorem dX6_isDone_19 : decode cX6_isDone 19 = .ok (.iconst 4, 1) := by decide +kernel
theorem dX6_isDone_20 : decode cX6_isDone 20 = .ok (.iaload, 1) := by decide +kernel
theorem dX6_isDone_21 : decode cX6_isDone 21 = .ok (.if_icmp .ne 7, 3) := by decide +kernel
theorem dX6_isDone_24 : decode cX6_isDone 24 = .ok (.iconst 1, 1) := by decide +kernel
theorem dX6_isDone_25 : decode cX6_isDone 25 = .ok (.goto 4, 3) := by decide +kernel
theorem dX6_isDone_28 : decode cX6_isDone 28 = .ok (.iconst 0, 1) := by decide +kernel
theorem dX6_isDone_29 : decode cX6_isDone 29 = .ok (.ireturn, 1) := by decide +kernel
theorem dX6_marginLeft_0 : decode cX6_marginLeft 0 = .ok (.aload_n 0, 1) := by decide +kernel
theorem dX6_marginLeft_1 : decode cX6_marginLeft 1 = .ok (.getfield 7, 3) := by decide +kernel
theorem dX6_marginLeft_4 : decode cX6_marginLeft 4 = .ok (.iconst 5, 1) := by decide +kernel
theorem dX6_marginLeft_5 : decode cX6_marginLeft 5 = .ok (.iaload, 1) := by decide +kernel
theorem dX6_marginLeft_6 : decode cX6_marginLeft 6 = .ok (.aload_n 0, 1) := by decide +kernel
theorem dX6_marginLeft_7 : decode cX6_marginLeft 7 = .ok (.getfield 7, 3) := by decide +kernel
theorem dX6_marginLeft_10 : decode cX6_marginLeft 10 = .ok (.iconst 2, 1) := by decide +kernel
theorem dX6_marginLeft_11 : decode cX6_marginLeft 11 = .ok (.iaload, 1) := by decide +kernel
theorem dX6_marginLeft_12 : decode cX6_marginLeft 12 = .ok (.if_icmp .le 7, 3) := by decide +kernel
theorem dX6_marginLeft_15 : decode cX6_marginLeft 15 = .ok (.iconst 0, 1) := by decide +kernel
theorem dX6_marginLeft_16 : decode cX6_marginLeft 16 = .ok (.goto 16, 3) := by decide +kernel
theorem dX6_marginLeft_19 : decode cX6_marginLeft 19 = .ok (.aload_n 0, 1) := by decide +kernel
theorem dX6_marginLeft_20 : decode cX6_marginLeft 20 = .ok (.getfield 7, 3) := by decide +kernel
theorem dX6_marginLeft_23 : decode cX6_marginLeft 23 = .ok (.iconst 2, 1) := by decide +kernel
theorem dX6_marginLeft_24 : decode cX6_marginLeft 24 = .ok (.iaload, 1) := by decide +kernel
theorem dX6_marginLeft_25 : decode cX6_marginLeft 25 = .ok (.aload_n 0, 1) := by decide +kernel
theorem dX6_marginLeft_26 : decode cX6_marginLeft 26 = .ok (.getfield 7, 3) := by decide +kernel
theorem dX6_marginLeft_29 : decode cX6_marginLeft 29 = .ok (.iconst 5, 1) := by decide +kernel
theorem dX6_marginLeft_30 : decode cX6_marginLeft 30 = .ok (.iaload, 1) := by decide +kernel
theorem dX6_marginLeft_31 : decode cX6_marginLeft 31 = .ok (.isub, 1) := by decide +kernel
theorem dX6_marginLeft_32 : decode cX6_marginLeft 32 = .ok (.ireturn, 1) := by decide +kernel
theorem dX6_does_0 : decode cX6_does 0 = .ok (.aload_n 0, 1) := by decide +kernel
theorem dX6_does_1 : decode cX6_does 1 = .ok (.getfield 7, 3) := by decide +kernel
theorem dX6_does_4 : decode cX6_does 4 = .ok (.bipush 18, 2) := by decide +kernel
theorem dX6_does_6 : decode cX6_does 6 = .ok (.iload_n 1, 1) := by decide +kernel
theorem dX6_does_7 : decode cX6_does 7 = .ok (.iadd, 1) := by decide +kernel
theorem dX6_does_8 : decode cX6_does 8 = .ok (.iaload, 1) := by decide +kernel
theorem dX6_does_9 : decode cX6_does 9 = .ok (.ifCond .le 5, 3) := by decide +kernel
theorem dX6_does_12 : decode cX6_does 12 = .ok (.iconst 1, 1) := by decide +kernel
theorem dX6_does_13 : decode cX6_does 13 = .ok (.ireturn, 1) := by decide +kernel
theorem dX6_does_14 : decode cX6_does 14 = .ok (.aload_n 0, 1) := by decide +kernel
theorem dX6_does_15 : decode cX6_does 15 = .ok (.iload_n 1, 1) := by decide +kernel
theorem dX6_does_16 : decode cX6_does 16 = .ok (.invokevirtual 43, 3) := by decide +kernel
theorem dX6_does_19 : decode cX6_does 19 = .ok (.istore_n 2, 1) := by decide +kernel
theorem dX6_does_20 : decode cX6_does 20 = .ok (.iload_n 2, 1) := by decide +kernel
theorem dX6_does_21 : decode cX6_does 21 = .ok (.bipush (-5), 2) := by decide +kernel
theorem dX6_does_23 : decode cX6_does 23 = .ok (.if_icmp .ne 5, 3) := by decide +kernel
theorem dX6_does_26 : decode cX6_does 26 = .ok (.iconst 5, 1) := by decide +kernel
theorem dX6_does_27 : decode cX6_does 27 = .ok (.ireturn, 1) := by decide +kernel
theorem dX6_does_28 : decode cX6_does 28 = .ok (.aload_n 0, 1) := by decide +kernel
theorem dX6_does_29 : decode cX6_does 29 = .ok (.getfield 7, 3) := by decide +kernel
theorem dX6_does_32 : decode cX6_does 32 = .ok (.bipush 24, 2) := by decide +kernel
theorem dX6_does_34 : decode cX6_does 34 = .ok (.iload_n 1, 1) := by decide +kernel
theorem dX6_does_35 : decode cX6_does 35 = .ok (.iadd, 1) := by decide +kernel
theorem dX6_does_36 : decode cX6_does 36 = .ok (.iaload, 1) := by decide +kernel
theorem dX6_does_37 : decode cX6_does 37 = .ok (.aload_n 0, 1) := by decide +kernel
theorem dX6_does_38 : decode cX6_does 38 = .ok (.iload_n 2, 1) := by decide +kernel
theorem dX6_does_39 : decode cX6_does 39 = .ok (.invokevirtual 46, 3) := by decide +kernel
theorem dX6_does_42 : decode cX6_does 42 = .ok (.if_icmp .ge 15, 3) := by decide +kernel
theorem dX6_does_45 : decode cX6_does 45 = .ok (.aload_n 0, 1) := by decide +kernel
theorem dX6_does_46 : decode cX6_does 46 = .ok (.getfield 7, 3) := by decide +kernel
theorem dX6_does_49 : decode cX6_does 49 = .ok (.bipush 16, 2) := by decide +kernel
theorem dX6_does_51 : decode cX6_does 51 = .ok (.iload_n 1, 1) := by decide +kernel
theorem dX6_does_52 : decode cX6_does 52 = .ok (.iadd, 1) := by decide +kernel
theorem dX6_does_53 : decode cX6_does 53 = .ok (.iaload, 1) := by decide +kernel
theorem dX6_does_54 : decode cX6_does 54 = .ok (.ifCond .le 5, 3) := by decide +kernel
theorem dX6_does_57 : decode cX6_does 57 = .ok (.iconst 0, 1) := by decide +kernel
theorem dX6_does_58 : decode cX6_does 58 = .ok (.ireturn, 1) := by decide +kernel
theorem dX6_does_59 : decode cX6_does 59 = .ok (.aload_n 0, 1) := by decide +kernel
theorem dX6_does_60 : decode cX6_does 60 = .ok (.getfield 7, 3) := by decide +kernel
theorem dX6_does_63 : decode cX6_does 63 = .ok (.bipush 19, 2) := by decide +kernel
theorem dX6_does_65 : decode cX6_does 65 = .ok (.iload_n 1, 1) := by decide +kernel
theorem dX6_does_66 : decode cX6_does 66 = .ok (.isub, 1) := by decide +kernel
theorem dX6_does_67 : decode cX6_does 67 = .ok (.iaload, 1) := by decide +kernel
theorem dX6_does_68 : decode cX6_does 68 = .ok (.ifCond .le 7, 3) := by decide +kernel
theorem dX6_does_71 : decode cX6_does 71 = .ok (.iconst 3, 1) := by decide +kernel
theorem dX6_does_72 : decode cX6_does 72 = .ok (.goto 18, 3) := by decide +kernel
theorem dX6_does_75 : decode cX6_does 75 = .ok (.aload_n 0, 1) := by decide +kernel
theorem dX6_does_76 : decode cX6_does 76 = .ok (.getfield 7, 3) := by decide +kernel
theorem dX6_does_79 : decode cX6_does 79 = .ok (.bipush 6, 2) := by decide +kernel
theorem dX6_does_81 : decode cX6_does 81 = .ok (.iaload, 1) := by decide +kernel
theorem dX6_does_82 : decode cX6_does 82 = .ok (.ifCond .ne 7, 3) := by decide +kernel
theorem dX6_does_85 : decode cX6_does 85 = .ok (.iconst 4, 1) := by decide +kernel
theorem dX6_does_86 : decode cX6_does 86 = .ok (.goto 4, 3) := by decide +kernel
theorem dX6_does_89 : decode cX6_does 89 = .ok (.iconst 2, 1) := by decide +kernel
theorem dX6_does_90 : decode cX6_does 90 = .ok (.ireturn, 1) := by decide +kernel
theorem dX6_dips_0 : decode cX6_dips 0 = .ok (.aload_n 0, 1) := by decide +kernel
theorem dX6_dips_1 : decode cX6_dips 1 = .ok (.getfield 7, 3) := by decide +kernel
theorem dX6_dips_4 : decode cX6_dips 4 = .ok (.bipush 18, 2) := by decide +kernel
theorem dX6_dips_6 : decode cX6_dips 6 = .ok (.iload_n 1, 1) := by decide +kernel
theorem dX6_dips_7 : decode cX6_dips 7 = .ok (.iadd, 1) := by decide +kernel
theorem dX6_dips_8 : decode cX6_dips 8 = .ok (.dup2, 1) := by decide +kernel
theorem dX6_dips_9 : decode cX6_dips 9 = .ok (.iaload, 1) := by decide +kernel
theorem dX6_dips_10 : decode cX6_dips 10 = .ok (.iconst 1, 1) := by decide +kernel
theorem dX6_dips_11 : decode cX6_dips 11 = .ok (.isub, 1) := by decide +kernel
theorem dX6_dips_12 : decode cX6_dips 12 = .ok (.iastore, 1) := by decide +kernel
theorem dX6_dips_13 : decode cX6_dips 13 = .ok (.aload_n 0, 1) := by decide +kernel
theorem dX6_dips_14 : decode cX6_dips 14 = .ok (.getfield 7, 3) := by decide +kernel
theorem dX6_dips_17 : decode cX6_dips 17 = .ok (.bipush 18, 2) := by decide +kernel
theorem dX6_dips_19 : decode cX6_dips 19 = .ok (.iload_n 1, 1) := by decide +kernel
theorem dX6_dips_20 : decode cX6_dips 20 = .ok (.iadd, 1) := by decide +kernel
theorem dX6_dips_21 : decode cX6_dips 21 = .ok (.iaload, 1) := by decide +kernel
theorem dX6_dips_22 : decode cX6_dips 22 = .ok (.ifCond .ne 76, 3) := by decide +kernel
theorem dX6_dips_25 : decode cX6_dips 25 = .ok (.bipush 64, 2) := by decide +kernel
theorem dX6_dips_27 : decode cX6_dips 27 = .ok (.aload_n 0, 1) := by decide +kernel
theorem dX6_dips_28 : decode cX6_dips 28 = .ok (.getfield 7, 3) := by decide +kernel
theorem dX6_dips_31 : decode cX6_dips 31 = .ok (.bipush 24, 2) := by decide +kernel
theorem dX6_dips_33 : decode cX6_dips 33 = .ok (.iload_n 1, 1) := by decide +kernel
theorem dX6_dips_34 : decode cX6_dips 34 = .ok (.iadd, 1) := by decide +kernel
theorem dX6_dips_35 : decode cX6_dips 35 = .ok (.iaload, 1) := by decide +kernel
theorem dX6_dips_36 : decode cX6_dips 36 = .ok (.isub, 1) := by decide +kernel
theorem dX6_dips_37 : decode cX6_dips 37 = .ok (.istore_n 2, 1) := by decide +kernel
theorem dX6_dips_38 : decode cX6_dips 38 = .ok (.iload_n 2, 1) := by decide +kernel
theorem dX6_dips_39 : decode cX6_dips 39 = .ok (.aload_n 0, 1) := by decide +kernel
theorem dX6_dips_40 : decode cX6_dips 40 = .ok (.getfield 7, 3) := by decide +kernel
theorem dX6_dips_43 : decode cX6_dips 43 = .ok (.bipush 6, 2) := by decide +kernel
theorem dX6_dips_45 : decode cX6_dips 45 = .ok (.iaload, 1) := by decide +kernel
theorem dX6_dips_46 : decode cX6_dips 46 = .ok (.if_icmp .ge 7, 3) := by decide +kernel
theorem dX6_dips_49 : decode cX6_dips 49 = .ok (.iload_n 2, 1) := by decide +kernel
theorem dX6_dips_50 : decode cX6_dips 50 = .ok (.goto 10, 3) := by decide +kernel
theorem dX6_dips_53 : decode cX6_dips 53 = .ok (.aload_n 0, 1) := by decide +kernel
theorem dX6_dips_54 : decode cX6_dips 54 = .ok (.getfield 7, 3) := by decide +kernel
theorem dX6_dips_57 : decode cX6_dips 57 = .ok (.bipush 6, 2) := by decide +kernel
theorem dX6_dips_59 : decode cX6_dips 59 = .ok (.iaload, 1) := by decide +kernel
theorem dX6_dips_60 : decode cX6_dips 60 = .ok (.istore_n 3, 1) := by decide +kernel
theorem dX6_dips_61 : decode cX6_dips 61 = .ok (.aload_n 0, 1) := by decide +kernel
theorem dX6_dips_62 : decode cX6_dips 62 = .ok (.getfield 7, 3) := by decide +kernel
theorem dX6_dips_65 : decode cX6_dips 65 = .ok (.bipush 24, 2) := by decide +kernel
theorem dX6_dips_67 : decode cX6_dips 67 = .ok (.iload_n 1, 1) := by decide +kernel
theorem dX6_dips_68 : decode cX6_dips 68 = .ok (.iadd, 1) := by decide +kernel
theorem dX6_dips_69 : decode cX6_dips 69 = .ok (.dup2, 1) := by decide +kernel
theorem dX6_dips_70 : decode cX6_dips 70 = .ok (.iaload, 1) := by decide +kernel
theorem dX6_dips_71 : decode cX6_dips 71 = .ok (.iload_n 3, 1) := by decide +kernel
theorem dX6_dips_72 : decode cX6_dips 72 = .ok (.iadd, 1) := by decide +kernel
theorem dX6_dips_73 : decode cX6_dips 73 = .ok (.iastore, 1) := by decide +kernel
theorem dX6_dips_74 : decode cX6_dips 74 = .ok (.aload_n 0, 1) := by decide +kernel
theorem dX6_dips_75 : decode cX6_dips 75 = .ok (.getfield 7, 3) := by decide +kernel
theorem dX6_dips_78 : decode cX6_dips 78 = .ok (.bipush 6, 2) := by decide +kernel
theorem dX6_dips_80 : decode cX6_dips 80 = .ok (.dup2, 1) := by decide +kernel
theorem dX6_dips_81 : decode cX6_dips 81 = .ok (.iaload, 1) := by decide +kernel
theorem dX6_dips_82 : decode cX6_dips 82 = .ok (.iload_n 3, 1) := by decide +kernel
theorem dX6_dips_83 : decode cX6_dips 83 = .ok (.isub, 1) := by decide +kernel
theorem dX6_dips_84 : decode cX6_dips 84 = .ok (.iastore, 1) := by decide +kernel
theorem dX6_dips_85 : decode cX6_dips 85 = .ok (.aload_n 0, 1) := by decide +kernel
theorem dX6_dips_86 : decode cX6_dips 86 = .ok (.getfield 7, 3) := by decide +kernel
theorem dX6_dips_89 : decode cX6_dips 89 = .ok (.bipush 20, 2) := by decide +kernel
theorem dX6_dips_91 : decode cX6_dips 91 = .ok (.iload_n 1, 1) := by decide +kernel
theorem dX6_dips_92 : decode cX6_dips 92 = .ok (.iadd, 1) := by decide +kernel
theorem dX6_dips_93 : decode cX6_dips 93 = .ok (.dup2, 1) := by decide +kernel
theorem dX6_dips_94 : decode cX6_dips 94 = .ok (.iaload, 1) := by decide +kernel
theorem dX6_dips_95 : decode cX6_dips 95 = .ok (.iconst 1, 1) := by decide +kernel
theorem dX6_dips_96 : decode cX6_dips 96 = .ok (.iadd, 1) := by decide +kernel
theorem dX6_dips_97 : decode cX6_dips 97 = .ok (.iastore, 1) := by decide +kernel
theorem dX6_dips_98 : decode cX6_dips 98 = .ok (.return_, 1) := by decide +kernel
theorem dX6_writes_0 : decode cX6_writes 0 = .ok (.aload_n 0, 1) := by decide +kernel
theorem dX6_writes_1 : decode cX6_writes 1 = .ok (.getfield 7, 3) := by decide +kernel
theorem dX6_writes_4 : decode cX6_writes 4 = .ok (.bipush 16, 2) := by decide +kernel
theorem dX6_writes_6 : decode cX6_writes 6 = .ok (.iload_n 1, 1) := by decide +kernel
theorem dX6_writes_7 : decode cX6_writes 7 = .ok (.iadd, 1) := by decide +kernel
theorem dX6_writes_8 : decode cX6_writes 8 = .ok (.dup2, 1) := by decide +kernel
theorem dX6_writes_9 : decode cX6_writes 9 = .ok (.iaload, 1) := by decide +kernel
theorem dX6_writes_10 : decode cX6_writes 10 = .ok (.iconst 1, 1) := by decide +kernel
theorem dX6_writes_11 : decode cX6_writes 11 = .ok (.iadd, 1) := by decide +kernel
theorem dX6_writes_12 : decode cX6_writes 12 = .ok (.iastore, 1) := by decide +kernel
theorem dX6_writes_13 : decode cX6_writes 13 = .ok (.aload_n 0, 1) := by decide +kernel
theorem dX6_writes_14 : decode cX6_writes 14 = .ok (.getfield 7, 3) := by decide +kernel
theorem dX6_writes_17 : decode cX6_writes 17 = .ok (.bipush 16, 2) := by decide +kernel
theorem dX6_writes_19 : decode cX6_writes 19 = .ok (.iload_n 1, 1) := by decide +kernel
theorem dX6_writes_20 : decode cX6_writes 20 = .ok (.iadd, 1) := by decide +kernel
theorem dX6_writes_21 : decode cX6_writes 21 = .ok (.iaload, 1) := by decide +kernel
theorem dX6_writes_22 : decode cX6_writes 22 = .ok (.aload_n 0, 1) := by decide +kernel
theorem dX6_writes_23 : decode cX6_writes 23 = .ok (.getfield 7, 3) := by decide +kernel
theorem dX6_writes_26 : decode cX6_writes 26 = .ok (.bipush 12, 2) := by decide +kernel
theorem dX6_writes_28 : decode cX6_writes 28 = .ok (.iload_n 1, 1) := by decide +kernel
theorem dX6_writes_29 : decode cX6_writes 29 = .ok (.iadd, 1) := by decide +kernel
theorem dX6_writes_30 : decode cX6_writes 30 = .ok (.iaload, 1) := by decide +kernel
theorem dX6_writes_31 : decode cX6_writes 31 = .ok (.if_icmp .ge 4, 3) := by decide +kernel
theorem dX6_writes_34 : decode cX6_writes 34 = .ok (.return_, 1) := by decide +kernel
theorem dX6_writes_35 : decode cX6_writes 35 = .ok (.aload_n 0, 1) := by decide +kernel
theorem dX6_writes_36 : decode cX6_writes 36 = .ok (.iload_n 1, 1) := by decide +kernel
theorem dX6_writes_37 : decode cX6_writes 37 = .ok (.invokevirtual 43, 3) := by decide +kernel
theorem dX6_writes_40 : decode cX6_writes 40 = .ok (.istore_n 2, 1) := by decide +kernel
theorem dX6_writes_41 : decode cX6_writes 41 = .ok (.aload_n 0, 1) := by decide +kernel
theorem dX6_writes_42 : decode cX6_writes 42 = .ok (.iload_n 2, 1) := by decide +kernel
theorem dX6_writes_43 : decode cX6_writes 43 = .ok (.invokevirtual 46, 3) := by decide +kernel
theorem dX6_writes_46 : decode cX6_writes 46 = .ok (.istore_n 3, 1) := by decide +kernel
theorem dX6_writes_47 : decode cX6_writes 47 = .ok (.aload_n 0, 1) := by decide +kernel
theorem dX6_writes_48 : decode cX6_writes 48 = .ok (.getfield 7, 3) := by decide +kernel
theorem dX6_writes_51 : decode cX6_writes 51 = .ok (.bipush 86, 2) := by decide +kernel
theorem dX6_writes_53 : decode cX6_writes 53 = .ok (.iload_n 2, 1) := by decide +kernel
theorem dX6_writes_54 : decode cX6_writes 54 = .ok (.iadd, 1) := by decide +kernel
theorem dX6_writes_55 : decode cX6_writes 55 = .ok (.iload_n 3, 1) := by decide +kernel
theorem dX6_writes_56 : decode cX6_writes 56 = .ok (.iastore, 1) := by decide +kernel
theorem dX6_writes_57 : decode cX6_writes 57 = .ok (.aload_n 0, 1) := by decide +kernel
theorem dX6_writes_58 : decode cX6_writes 58 = .ok (.getfield 7, 3) := by decide +kernel
theorem dX6_writes_61 : decode cX6_writes 61 = .ok (.bipush 126, 2) := by decide +kernel
theorem dX6_writes_63 : decode cX6_writes 63 = .ok (.iload_n 2, 1) := by decide +kernel
theorem dX6_writes_64 : decode cX6_writes 64 = .ok (.iadd, 1) := by decide +kernel
theorem dX6_writes_65 : decode cX6_writes 65 = .ok (.aload_n 0, 1) := by decide +kernel
theorem dX6_writes_66 : decode cX6_writes 66 = .ok (.getfield 7, 3) := by decide +kernel
theorem dX6_writes_69 : decode cX6_writes 69 = .ok (.bipush 24, 2) := by decide +kernel
theorem dX6_writes_71 : decode cX6_writes 71 = .ok (.iload_n 1, 1) := by decide +kernel
theorem dX6_writes_72 : decode cX6_writes 72 = .ok (.iadd, 1) := by decide +kernel
theorem dX6_writes_73 : decode cX6_writes 73 = .ok (.iaload, 1) := by decide +kernel
theorem dX6_writes_74 : decode cX6_writes 74 = .ok (.bipush 8, 2) := by decide +kernel
theorem dX6_writes_76 : decode cX6_writes 76 = .ok (.aload_n 0, 1) := by decide +kernel
theorem dX6_writes_77 : decode cX6_writes 77 = .ok (.getfield 7, 3) := by decide +kernel
theorem dX6_writes_80 : decode cX6_writes 80 = .ok (.iconst 1, 1) := by decide +kernel
theorem dX6_writes_81 : decode cX6_writes 81 = .ok (.iaload, 1) := by decide +kernel
theorem dX6_writes_82 : decode cX6_writes 82 = .ok (.imul, 1) := by decide +kernel
theorem dX6_writes_83 : decode cX6_writes 83 = .ok (.if_icmp .le 7, 3) := by decide +kernel
theorem dX6_writes_86 : decode cX6_writes 86 = .ok (.iconst 1, 1) := by decide +kernel
theorem dX6_writes_87 : decode cX6_writes 87 = .ok (.goto 4, 3) := by decide +kernel
theorem dX6_writes_90 : decode cX6_writes 90 = .ok (.iconst 0, 1) := by decide +kernel
theorem dX6_writes_91 : decode cX6_writes 91 = .ok (.iastore, 1) := by decide +kernel
theorem dX6_writes_92 : decode cX6_writes 92 = .ok (.aload_n 0, 1) := by decide +kernel
theorem dX6_writes_93 : decode cX6_writes 93 = .ok (.getfield 7, 3) := by decide +kernel
theorem dX6_writes_96 : decode cX6_writes 96 = .ok (.sipush 206, 3) := by decide +kernel
theorem dX6_writes_99 : decode cX6_writes 99 = .ok (.iload_n 2, 1) := by decide +kernel
theorem dX6_writes_100 : decode cX6_writes 100 = .ok (.iadd, 1) := by decide +kernel
theorem dX6_writes_101 : decode cX6_writes 101 = .ok (.aload_n 0, 1) := by decide +kernel
theorem dX6_writes_102 : decode cX6_writes 102 = .ok (.getfield 7, 3) := by decide +kernel
theorem dX6_writes_105 : decode cX6_writes 105 = .ok (.iconst 3, 1) := by decide +kernel
theorem dX6_writes_106 : decode cX6_writes 106 = .ok (.iaload, 1) := by decide +kernel
theorem dX6_writes_107 : decode cX6_writes 107 = .ok (.iconst 1, 1) := by decide +kernel
theorem dX6_writes_108 : decode cX6_writes 108 = .ok (.iadd, 1) := by decide +kernel
theorem dX6_writes_109 : decode cX6_writes 109 = .ok (.iastore, 1) := by decide +kernel
theorem dX6_writes_110 : decode cX6_writes 110 = .ok (.aload_n 0, 1) := by decide +kernel
theorem dX6_writes_111 : decode cX6_writes 111 = .ok (.getfield 7, 3) := by decide +kernel
theorem dX6_writes_114 : decode cX6_writes 114 = .ok (.bipush 24, 2) := by decide +kernel
theorem dX6_writes_116 : decode cX6_writes 116 = .ok (.iload_n 1, 1) := by decide +kernel
theorem dX6_writes_117 : decode cX6_writes 117 = .ok (.iadd, 1) := by decide +kernel
theorem dX6_writes_118 : decode cX6_writes 118 = .ok (.dup2, 1) := by decide +kernel
theorem dX6_writes_119 : decode cX6_writes 119 = .ok (.iaload, 1) := by decide +kernel
theorem dX6_writes_120 : decode cX6_writes 120 = .ok (.iload_n 3, 1) := by decide +kernel
theorem dX6_writes_121 : decode cX6_writes 121 = .ok (.isub, 1) := by decide +kernel
theorem dX6_writes_122 : decode cX6_writes 122 = .ok (.iastore, 1) := by decide +kernel
theorem dX6_writes_123 : decode cX6_writes 123 = .ok (.aload_n 0, 1) := by decide +kernel
theorem dX6_writes_124 : decode cX6_writes 124 = .ok (.getfield 7, 3) := by decide +kernel
theorem dX6_writes_127 : decode cX6_writes 127 = .ok (.bipush 7, 2) := by decide +kernel
theorem dX6_writes_129 : decode cX6_writes 129 = .ok (.dup2, 1) := by decide +kernel
theorem dX6_writes_130 : decode cX6_writes 130 = .ok (.iaload, 1) := by decide +kernel
theorem dX6_writes_131 : decode cX6_writes 131 = .ok (.iload_n 3, 1) := by decide +kernel
theorem dX6_writes_132 : decode cX6_writes 132 = .ok (.iadd, 1) := by decide +kernel
theorem dX6_writes_133 : decode cX6_writes 133 = .ok (.iastore, 1) := by decide +kernel
theorem dX6_writes_134 : decode cX6_writes 134 = .ok (.aload_n 0, 1) := by decide +kernel
theorem dX6_writes_135 : decode cX6_writes 135 = .ok (.getfield 7, 3) := by decide +kernel
theorem dX6_writes_138 : decode cX6_writes 138 = .ok (.bipush 10, 2) := by decide +kernel
theorem dX6_writes_140 : decode cX6_writes 140 = .ok (.dup2, 1) := by decide +kernel
theorem dX6_writes_141 : decode cX6_writes 141 = .ok (.iaload, 1) := by decide +kernel
theorem dX6_writes_142 : decode cX6_writes 142 = .ok (.iconst 1, 1) := by decide +kernel
theorem dX6_writes_143 : decode cX6_writes 143 = .ok (.iadd, 1) := by decide +kernel
theorem dX6_writes_144 : decode cX6_writes 144 = .ok (.iastore, 1) := by decide +kernel
theorem dX6_writes_145 : decode cX6_writes 145 = .ok (.aload_n 0, 1) := by decide +kernel
theorem dX6_writes_146 : decode cX6_writes 146 = .ok (.getfield 7, 3) := by decide +kernel
theorem dX6_writes_149 : decode cX6_writes 149 = .ok (.bipush 14, 2) := by decide +kernel
theorem dX6_writes_151 : decode cX6_writes 151 = .ok (.iload_n 1, 1) := by decide +kernel
theorem dX6_writes_152 : decode cX6_writes 152 = .ok (.iadd, 1) := by decide +kernel
theorem dX6_writes_153 : decode cX6_writes 153 = .ok (.dup2, 1) := by decide +kernel
theorem dX6_writes_154 : decode cX6_writes 154 = .ok (.iaload, 1) := by decide +kernel
theorem dX6_writes_155 : decode cX6_writes 155 = .ok (.iconst 1, 1) := by decide +kernel
theorem dX6_writes_156 : decode cX6_writes 156 = .ok (.iadd, 1) := by decide +kernel
theorem dX6_writes_157 : decode cX6_writes 157 = .ok (.iastore, 1) := by decide +kernel
theorem dX6_writes_158 : decode cX6_writes 158 = .ok (.aload_n 0, 1) := by decide +kernel
theorem dX6_writes_159 : decode cX6_writes 159 = .ok (.getfield 7, 3) := by decide +kernel
theorem dX6_writes_162 : decode cX6_writes 162 = .ok (.bipush 16, 2) := by decide +kernel
theorem dX6_writes_164 : decode cX6_writes 164 = .ok (.iload_n 1, 1) := by decide +kernel
theorem dX6_writes_165 : decode cX6_writes 165 = .ok (.iadd, 1) := by decide +kernel
theorem dX6_writes_166 : decode cX6_writes 166 = .ok (.iconst 0, 1) := by decide +kernel
theorem dX6_writes_167 : decode cX6_writes 167 = .ok (.iastore, 1) := by decide +kernel
theorem dX6_writes_168 : decode cX6_writes 168 = .ok (.return_, 1) := by decide +kernel
theorem dX6_goes_0 : decode cX6_goes 0 = .ok (.aload_n 0, 1) := by decide +kernel
theorem dX6_goes_1 : decode cX6_goes 1 = .ok (.iload_n 1, 1) := by decide +kernel
theorem dX6_goes_2 : decode cX6_goes 2 = .ok (.invokevirtual 49, 3) := by decide +kernel
theorem dX6_goes_5 : decode cX6_goes 5 = .ok (.tableswitch 85 0 4 #[35, 43, 51, 69, 69], 35) := by decide +kernel
theorem dX6_goes_40 : decode cX6_goes 40 = .ok (.aload_n 0, 1) := by decide +kernel
theorem dX6_goes_41 : decode cX6_goes 41 = .ok (.iload_n 1, 1) := by decide +kernel
theorem dX6_goes_42 : decode cX6_goes 42 = .ok (.invokevirtual 52, 3) := by decide +kernel
theorem dX6_goes_45 : decode cX6_goes 45 = .ok (.goto 45, 3) := by decide +kernel
theorem dX6_goes_48 : decode cX6_goes 48 = .ok (.aload_n 0, 1) := by decide +kernel
theorem dX6_goes_49 : decode cX6_goes 49 = .ok (.iload_n 1, 1) := by decide +kernel
theorem dX6_goes_50 : decode cX6_goes 50 = .ok (.invokevirtual 56, 3) := by decide +kernel
theorem dX6_goes_53 : decode cX6_goes 53 = .ok (.goto 37, 3) := by decide +kernel
theorem dX6_goes_56 : decode cX6_goes 56 = .ok (.aload_n 0, 1) := by decide +kernel
theorem dX6_goes_57 : decode cX6_goes 57 = .ok (.getfield 7, 3) := by decide +kernel
theorem dX6_goes_60 : decode cX6_goes 60 = .ok (.bipush 18, 2) := by decide +kernel
theorem dX6_goes_62 : decode cX6_goes 62 = .ok (.iload_n 1, 1) := by decide +kernel
theorem dX6_goes_63 : decode cX6_goes 63 = .ok (.iadd, 1) := by decide +kernel
theorem dX6_goes_64 : decode cX6_goes 64 = .ok (.aload_n 0, 1) := by decide +kernel
theorem dX6_goes_65 : decode cX6_goes 65 = .ok (.getfield 7, 3) := by decide +kernel
theorem dX6_goes_68 : decode cX6_goes 68 = .ok (.iconst 0, 1) := by decide +kernel
theorem dX6_goes_69 : decode cX6_goes 69 = .ok (.iaload, 1) := by decide +kernel
theorem dX6_goes_70 : decode cX6_goes 70 = .ok (.iastore, 1) := by decide +kernel
theorem dX6_goes_71 : decode cX6_goes 71 = .ok (.goto 19, 3) := by decide +kernel
theorem dX6_goes_74 : decode cX6_goes 74 = .ok (.aload_n 0, 1) := by decide +kernel
theorem dX6_goes_75 : decode cX6_goes 75 = .ok (.getfield 7, 3) := by decide +kernel
theorem dX6_goes_78 : decode cX6_goes 78 = .ok (.bipush 22, 2) := by decide +kernel
theorem dX6_goes_80 : decode cX6_goes 80 = .ok (.iload_n 1, 1) := by decide +kernel
theorem dX6_goes_81 : decode cX6_goes 81 = .ok (.iadd, 1) := by decide +kernel
theorem dX6_goes_82 : decode cX6_goes 82 = .ok (.dup2, 1) := by decide +kernel
theorem dX6_goes_83 : decode cX6_goes 83 = .ok (.iaload, 1) := by decide +kernel
theorem dX6_goes_84 : decode cX6_goes 84 = .ok (.iconst 1, 1) := by decide +kernel
theorem dX6_goes_85 : decode cX6_goes 85 = .ok (.iadd, 1) := by decide +kernel
theorem dX6_goes_86 : decode cX6_goes 86 = .ok (.iastore, 1) := by decide +kernel
theorem dX6_goes_87 : decode cX6_goes 87 = .ok (.goto 3, 3) := by decide +kernel
theorem dX6_goes_90 : decode cX6_goes 90 = .ok (.return_, 1) := by decide +kernel
theorem dX6_ticks_0 : decode cX6_ticks 0 = .ok (.aload_n 0, 1) := by decide +kernel
theorem dX6_ticks_1 : decode cX6_ticks 1 = .ok (.iconst 0, 1) := by decide +kernel
theorem dX6_ticks_2 : decode cX6_ticks 2 = .ok (.invokevirtual 59, 3) := by decide +kernel
theorem dX6_ticks_5 : decode cX6_ticks 5 = .ok (.aload_n 0, 1) := by decide +kernel
theorem dX6_ticks_6 : decode cX6_ticks 6 = .ok (.iconst 1, 1) := by decide +kernel
theorem dX6_ticks_7 : decode cX6_ticks 7 = .ok (.invokevirtual 59, 3) := by decide +kernel
theorem dX6_ticks_10 : decode cX6_ticks 10 = .ok (.aload_n 0, 1) := by decide +kernel
theorem dX6_ticks_11 : decode cX6_ticks 11 = .ok (.getfield 7, 3) := by decide +kernel
theorem dX6_ticks_14 : decode cX6_ticks 14 = .ok (.iconst 3, 1) := by decide +kernel
theorem dX6_ticks_15 : decode cX6_ticks 15 = .ok (.dup2, 1) := by decide +kernel
theorem dX6_ticks_16 : decode cX6_ticks 16 = .ok (.iaload, 1) := by decide +kernel
theorem dX6_ticks_17 : decode cX6_ticks 17 = .ok (.iconst 1, 1) := by decide +kernel
theorem dX6_ticks_18 : decode cX6_ticks 18 = .ok (.iadd, 1) := by decide +kernel
theorem dX6_ticks_19 : decode cX6_ticks 19 = .ok (.iastore, 1) := by decide +kernel
theorem dX6_ticks_20 : decode cX6_ticks 20 = .ok (.return_, 1) := by decide +kernel
theorem dX6_readPage_0 : decode cX6_readPage 0 = .ok (.aload_n 0, 1) := by decide +kernel
theorem dX6_readPage_1 : decode cX6_readPage 1 = .ok (.invokevirtual 62, 3) := by decide +kernel
theorem dX6_readPage_4 : decode cX6_readPage 4 = .ok (.istore_n 1, 1) := by decide +kernel
theorem dX6_readPage_5 : decode cX6_readPage 5 = .ok (.iload_n 1, 1) := by decide +kernel
theorem dX6_readPage_6 : decode cX6_readPage 6 = .ok (.bipush (-5), 2) := by decide +kernel
theorem dX6_readPage_8 : decode cX6_readPage 8 = .ok (.if_icmp .eq 8, 3) := by decide +kernel
theorem dX6_readPage_11 : decode cX6_readPage 11 = .ok (.bipush (-100), 2) := by decide +kernel
theorem dX6_readPage_13 : decode cX6_readPage 13 = .ok (.iload_n 1, 1) := by decide +kernel
theorem dX6_readPage_14 : decode cX6_readPage 14 = .ok (.isub, 1) := by decide +kernel
theorem dX6_readPage_15 : decode cX6_readPage 15 = .ok (.ireturn, 1) := by decide +kernel
theorem dX6_readPage_16 : decode cX6_readPage 16 = .ok (.aload_n 0, 1) := by decide +kernel
theorem dX6_readPage_17 : decode cX6_readPage 17 = .ok (.getfield 66, 3) := by decide +kernel
theorem dX6_readPage_20 : decode cX6_readPage 20 = .ok (.iconst 2, 1) := by decide +kernel
theorem dX6_readPage_21 : decode cX6_readPage 21 = .ok (.aload_n 0, 1) := by decide +kernel
theorem dX6_readPage_22 : decode cX6_readPage 22 = .ok (.getfield 69, 3) := by decide +kernel
theorem dX6_readPage_25 : decode cX6_readPage 25 = .ok (.imul, 1) := by decide +kernel
theorem dX6_readPage_26 : decode cX6_readPage 26 = .ok (.if_icmp .lt 5, 3) := by decide +kernel
theorem dX6_readPage_29 : decode cX6_readPage 29 = .ok (.iconst (-1), 1) := by decide +kernel
theorem dX6_readPage_30 : decode cX6_readPage 30 = .ok (.ireturn, 1) := by decide +kernel
theorem dX6_readPage_31 : decode cX6_readPage 31 = .ok (.aload_n 0, 1) := by decide +kernel
theorem dX6_readPage_32 : decode cX6_readPage 32 = .ok (.invokevirtual 72, 3) := by decide +kernel
theorem dX6_readPage_35 : decode cX6_readPage 35 = .ok (.bipush 46, 2) := by decide +kernel
theorem dX6_readPage_37 : decode cX6_readPage 37 = .ok (.istore_n 2, 1) := by decide +kernel
theorem dX6_readPage_38 : decode cX6_readPage 38 = .ok (.iload_n 2, 1) := by decide +kernel
theorem dX6_readPage_39 : decode cX6_readPage 39 = .ok (.sipush 246, 3) := by decide +kernel
theorem dX6_readPage_42 : decode cX6_readPage 42 = .ok (.if_icmp .ge 16, 3) := by decide +kernel
theorem dX6_readPage_45 : decode cX6_readPage 45 = .ok (.aload_n 0, 1) := by decide +kernel
theorem dX6_readPage_46 : decode cX6_readPage 46 = .ok (.getfield 7, 3) := by decide +kernel
theorem dX6_readPage_49 : decode cX6_readPage 49 = .ok (.iload_n 2, 1) := by decide +kernel
theorem dX6_readPage_50 : decode cX6_readPage 50 = .ok (.iconst 0, 1) := by decide +kernel
theorem dX6_readPage_51 : decode cX6_readPage 51 = .ok (.iastore, 1) := by decide +kernel
theorem dX6_readPage_52 : decode cX6_readPage 52 = .ok (.iinc 2 1, 3) := by decide +kernel
theorem dX6_readPage_55 : decode cX6_readPage 55 = .ok (.goto (-17), 3) := by decide +kernel
theorem dX6_readPage_58 : decode cX6_readPage 58 = .ok (.iconst 0, 1) := by decide +kernel
theorem dX6_readPage_59 : decode cX6_readPage 59 = .ok (.istore_n 2, 1) := by decide +kernel
theorem dX6_readPage_60 : decode cX6_readPage 60 = .ok (.iload_n 2, 1) := by decide +kernel
theorem dX6_readPage_61 : decode cX6_readPage 61 = .ok (.bipush 20, 2) := by decide +kernel
theorem dX6_readPage_63 : decode cX6_readPage 63 = .ok (.if_icmp .ge 41, 3) := by decide +kernel
theorem dX6_readPage_66 : decode cX6_readPage 66 = .ok (.aload_n 0, 1) := by decide +kernel
theorem dX6_readPage_67 : decode cX6_readPage 67 = .ok (.getfield 7, 3) := by decide +kernel
theorem dX6_readPage_70 : decode cX6_readPage 70 = .ok (.bipush 26, 2) := by decide +kernel
theorem dX6_readPage_72 : decode cX6_readPage 72 = .ok (.iload_n 2, 1) := by decide +kernel
theorem dX6_readPage_73 : decode cX6_readPage 73 = .ok (.iadd, 1) := by decide +kernel
theorem dX6_readPage_74 : decode cX6_readPage 74 = .ok (.iload_n 2, 1) := by decide +kernel
theorem dX6_readPage_75 : decode cX6_readPage 75 = .ok (.aload_n 0, 1) := by decide +kernel
theorem dX6_readPage_76 : decode cX6_readPage 76 = .ok (.getfield 69, 3) := by decide +kernel
theorem dX6_readPage_79 : decode cX6_readPage 79 = .ok (.if_icmp .ge 17, 3) := by decide +kernel
theorem dX6_readPage_82 : decode cX6_readPage 82 = .ok (.aload_n 0, 1) := by decide +kernel
theorem dX6_readPage_83 : decode cX6_readPage 83 = .ok (.getfield 28, 3) := by decide +kernel
theorem dX6_readPage_86 : decode cX6_readPage 86 = .ok (.iload_n 2, 1) := by decide +kernel
theorem dX6_readPage_87 : decode cX6_readPage 87 = .ok (.iaload, 1) := by decide +kernel
theorem dX6_readPage_88 : decode cX6_readPage 88 = .ok (.bipush 97, 2) := by decide +kernel
theorem dX6_readPage_90 : decode cX6_readPage 90 = .ok (.isub, 1) := by decide +kernel
theorem dX6_readPage_91 : decode cX6_readPage 91 = .ok (.iconst 1, 1) := by decide +kernel
theorem dX6_readPage_92 : decode cX6_readPage 92 = .ok (.iadd, 1) := by decide +kernel
theorem dX6_readPage_93 : decode cX6_readPage 93 = .ok (.goto 4, 3) := by decide +kernel
theorem dX6_readPage_96 : decode cX6_readPage 96 = .ok (.iconst 0, 1) := by decide +kernel
theorem dX6_readPage_97 : decode cX6_readPage 97 = .ok (.iastore, 1) := by decide +kernel
theorem dX6_readPage_98 : decode cX6_readPage 98 = .ok (.iinc 2 1, 3) := by decide +kernel
theorem dX6_readPage_101 : decode cX6_readPage 101 = .ok (.goto (-41), 3) := by decide +kernel
theorem dX6_readPage_104 : decode cX6_readPage 104 = .ok (.iconst 0, 1) := by decide +kernel
theorem dX6_readPage_105 : decode cX6_readPage 105 = .ok (.istore_n 2, 1) := by decide +kernel
theorem dX6_readPage_106 : decode cX6_readPage 106 = .ok (.iload_n 2, 1) := by decide +kernel
theorem dX6_readPage_107 : decode cX6_readPage 107 = .ok (.bipush 40, 2) := by decide +kernel
theorem dX6_readPage_109 : decode cX6_readPage 109 = .ok (.if_icmp .ge 24, 3) := by decide +kernel
theorem dX6_readPage_112 : decode cX6_readPage 112 = .ok (.aload_n 0, 1) := by decide +kernel
theorem dX6_readPage_113 : decode cX6_readPage 113 = .ok (.getfield 7, 3) := by decide +kernel
theorem dX6_readPage_116 : decode cX6_readPage 116 = .ok (.bipush 46, 2) := by decide +kernel
theorem dX6_readPage_118 : decode cX6_readPage 118 = .ok (.iload_n 2, 1) := by decide +kernel
theorem dX6_readPage_119 : decode cX6_readPage 119 = .ok (.iadd, 1) := by decide +kernel
theorem dX6_readPage_120 : decode cX6_readPage 120 = .ok (.aload_n 0, 1) := by decide +kernel
theorem dX6_readPage_121 : decode cX6_readPage 121 = .ok (.getfield 25, 3) := by decide +kernel
theorem dX6_readPage_124 : decode cX6_readPage 124 = .ok (.iload_n 2, 1) := by decide +kernel
theorem dX6_readPage_125 : decode cX6_readPage 125 = .ok (.iaload, 1) := by decide +kernel
theorem dX6_readPage_126 : decode cX6_readPage 126 = .ok (.iastore, 1) := by decide +kernel
theorem dX6_readPage_127 : decode cX6_readPage 127 = .ok (.iinc 2 1, 3) := by decide +kernel
theorem dX6_readPage_130 : decode cX6_readPage 130 = .ok (.goto (-24), 3) := by decide +kernel
theorem dX6_readPage_133 : decode cX6_readPage 133 = .ok (.iconst 0, 1) := by decide +kernel
theorem dX6_readPage_134 : decode cX6_readPage 134 = .ok (.istore_n 2, 1) := by decide +kernel
theorem dX6_readPage_135 : decode cX6_readPage 135 = .ok (.iload_n 2, 1) := by decide +kernel
theorem dX6_readPage_136 : decode cX6_readPage 136 = .ok (.iconst 2, 1) := by decide +kernel
theorem dX6_readPage_137 : decode cX6_readPage 137 = .ok (.if_icmp .ge 29, 3) := by decide +kernel
theorem dX6_readPage_140 : decode cX6_readPage 140 = .ok (.aload_n 0, 1) := by decide +kernel
theorem dX6_readPage_141 : decode cX6_readPage 141 = .ok (.getfield 7, 3) := by decide +kernel
theorem dX6_readPage_144 : decode cX6_readPage 144 = .ok (.bipush 14, 2) := by decide +kernel
theorem dX6_readPage_146 : decode cX6_readPage 146 = .ok (.iload_n 2, 1) := by decide +kernel
theorem dX6_readPage_147 : decode cX6_readPage 147 = .ok (.iadd, 1) := by decide +kernel
theorem dX6_readPage_148 : decode cX6_readPage 148 = .ok (.iconst 0, 1) := by decide +kernel
theorem dX6_readPage_149 : decode cX6_readPage 149 = .ok (.iastore, 1) := by decide +kernel
theorem dX6_readPage_150 : decode cX6_readPage 150 = .ok (.aload_n 0, 1) := by decide +kernel
theorem dX6_readPage_151 : decode cX6_readPage 151 = .ok (.getfield 7, 3) := by decide +kernel
theorem dX6_readPage_154 : decode cX6_readPage 154 = .ok (.bipush 16, 2) := by decide +kernel
theorem dX6_readPage_156 : decode cX6_readPage 156 = .ok (.iload_n 2, 1) := by decide +kernel
theorem dX6_readPage_157 : decode cX6_readPage 157 = .ok (.iadd, 1) := by decide +kernel
theorem dX6_readPage_158 : decode cX6_readPage 158 = .ok (.iconst 0, 1) := by decide +kernel
theorem dX6_readPage_159 : decode cX6_readPage 159 = .ok (.iastore, 1) := by decide +kernel
theorem dX6_readPage_160 : decode cX6_readPage 160 = .ok (.iinc 2 1, 3) := by decide +kernel
theorem dX6_readPage_163 : decode cX6_readPage 163 = .ok (.goto (-28), 3) := by decide +kernel
theorem dX6_readPage_166 : decode cX6_readPage 166 = .ok (.aload_n 0, 1) := by decide +kernel
theorem dX6_readPage_167 : decode cX6_readPage 167 = .ok (.getfield 7, 3) := by decide +kernel
theorem dX6_readPage_170 : decode cX6_readPage 170 = .ok (.iconst 4, 1) := by decide +kernel
theorem dX6_readPage_171 : decode cX6_readPage 171 = .ok (.iconst 2, 1) := by decide +kernel
theorem dX6_readPage_172 : decode cX6_readPage 172 = .ok (.aload_n 0, 1) := by decide +kernel
theorem dX6_readPage_173 : decode cX6_readPage 173 = .ok (.getfield 69, 3) := by decide +kernel
theorem dX6_readPage_176 : decode cX6_readPage 176 = .ok (.imul, 1) := by decide +kernel
theorem dX6_readPage_177 : decode cX6_readPage 177 = .ok (.iastore, 1) := by decide +kernel
theorem dX6_readPage_178 : decode cX6_readPage 178 = .ok (.aload_n 0, 1) := by decide +kernel
theorem dX6_readPage_179 : decode cX6_readPage 179 = .ok (.getfield 7, 3) := by decide +kernel
theorem dX6_readPage_182 : decode cX6_readPage 182 = .ok (.iconst 5, 1) := by decide +kernel
theorem dX6_readPage_183 : decode cX6_readPage 183 = .ok (.iconst 0, 1) := by decide +kernel
theorem dX6_readPage_184 : decode cX6_readPage 184 = .ok (.iastore, 1) := by decide +kernel
theorem dX6_readPage_185 : decode cX6_readPage 185 = .ok (.aload_n 0, 1) := by decide +kernel
theorem dX6_readPage_186 : decode cX6_readPage 186 = .ok (.getfield 7, 3) := by decide +kernel
theorem dX6_readPage_189 : decode cX6_readPage 189 = .ok (.bipush 9, 2) := by decide +kernel
theorem dX6_readPage_191 : decode cX6_readPage 191 = .ok (.dup2, 1) := by decide +kernel
theorem dX6_readPage_192 : decode cX6_readPage 192 = .ok (.iaload, 1) := by decide +kernel
theorem dX6_readPage_193 : decode cX6_readPage 193 = .ok (.iconst 1, 1) := by decide +kernel
theorem dX6_readPage_194 : decode cX6_readPage 194 = .ok (.iadd, 1) := by decide +kernel
theorem dX6_readPage_195 : decode cX6_readPage 195 = .ok (.iastore, 1) := by decide +kernel
theorem dX6_readPage_196 : decode cX6_readPage 196 = .ok (.aload_n 0, 1) := by decide +kernel
theorem dX6_readPage_197 : decode cX6_readPage 197 = .ok (.aload_n 0, 1) := by decide +kernel
theorem dX6_readPage_198 : decode cX6_readPage 198 = .ok (.getfield 7, 3) := by decide +kernel
theorem dX6_readPage_201 : decode cX6_readPage 201 = .ok (.iconst 4, 1) := by decide +kernel
theorem dX6_readPage_202 : decode cX6_readPage 202 = .ok (.iaload, 1) := by decide +kernel
theorem dX6_readPage_203 : decode cX6_readPage 203 = .ok (.invokevirtual 75, 3) := by decide +kernel
theorem dX6_readPage_206 : decode cX6_readPage 206 = .ok (.ireturn, 1) := by decide +kernel
theorem dX6_isBegun_0 : decode cX6_isBegun 0 = .ok (.aload_n 0, 1) := by decide +kernel
theorem dX6_isBegun_1 : decode cX6_isBegun 1 = .ok (.getfield 7, 3) := by decide +kernel
theorem dX6_isBegun_4 : decode cX6_isBegun 4 = .ok (.bipush 86, 2) := by decide +kernel
theorem dX6_isBegun_6 : decode cX6_isBegun 6 = .ok (.iload_n 1, 1) := by decide +kernel
theorem dX6_isBegun_7 : decode cX6_isBegun 7 = .ok (.iadd, 1) := by decide +kernel
theorem dX6_isBegun_8 : decode cX6_isBegun 8 = .ok (.iaload, 1) := by decide +kernel
theorem dX6_isBegun_9 : decode cX6_isBegun 9 = .ok (.ifCond .le 7, 3) := by decide +kernel
theorem dX6_isBegun_12 : decode cX6_isBegun 12 = .ok (.iconst 1, 1) := by decide +kernel
theorem dX6_isBegun_13 : decode cX6_isBegun 13 = .ok (.goto 4, 3) := by decide +kernel
theorem dX6_isBegun_16 : decode cX6_isBegun 16 = .ok (.iconst 0, 1) := by decide +kernel
theorem dX6_isBegun_17 : decode cX6_isBegun 17 = .ok (.istore_n 2, 1) := by decide +kernel
theorem dX6_isBegun_18 : decode cX6_isBegun 18 = .ok (.iconst 0, 1) := by decide +kernel
theorem dX6_isBegun_19 : decode cX6_isBegun 19 = .ok (.istore_n 3, 1) := by decide +kernel
theorem dX6_isBegun_20 : decode cX6_isBegun 20 = .ok (.iload_n 3, 1) := by decide +kernel
theorem dX6_isBegun_21 : decode cX6_isBegun 21 = .ok (.iconst 2, 1) := by decide +kernel
theorem dX6_isBegun_22 : decode cX6_isBegun 22 = .ok (.if_icmp .ge 40, 3) := by decide +kernel
theorem dX6_isBegun_25 : decode cX6_isBegun 25 = .ok (.iload_n 2, 1) := by decide +kernel
theorem dX6_isBegun_26 : decode cX6_isBegun 26 = .ok (.ifCond .ne 24, 3) := by decide +kernel
theorem dX6_isBegun_29 : decode cX6_isBegun 29 = .ok (.aload_n 0, 1) := by decide +kernel
theorem dX6_isBegun_30 : decode cX6_isBegun 30 = .ok (.iload_n 3, 1) := by decide +kernel
theorem dX6_isBegun_31 : decode cX6_isBegun 31 = .ok (.invokevirtual 43, 3) := by decide +kernel
theorem dX6_isBegun_34 : decode cX6_isBegun 34 = .ok (.iload_n 1, 1) := by decide +kernel
theorem dX6_isBegun_35 : decode cX6_isBegun 35 = .ok (.if_icmp .ne 19, 3) := by decide +kernel
theorem dX6_isBegun_38 : decode cX6_isBegun 38 = .ok (.aload_n 0, 1) := by decide +kernel
theorem dX6_isBegun_39 : decode cX6_isBegun 39 = .ok (.getfield 7, 3) := by decide +kernel
theorem dX6_isBegun_42 : decode cX6_isBegun 42 = .ok (.bipush 16, 2) := by decide +kernel
theorem dX6_isBegun_44 : decode cX6_isBegun 44 = .ok (.iload_n 3, 1) := by decide +kernel
theorem dX6_isBegun_45 : decode cX6_isBegun 45 = .ok (.iadd, 1) := by decide +kernel
theorem dX6_isBegun_46 : decode cX6_isBegun 46 = .ok (.iaload, 1) := by decide +kernel
theorem dX6_isBegun_47 : decode cX6_isBegun 47 = .ok (.ifCond .le 7, 3) := by decide +kernel
theorem dX6_isBegun_50 : decode cX6_isBegun 50 = .ok (.iconst 1, 1) := by decide +kernel
theorem dX6_isBegun_51 : decode cX6_isBegun 51 = .ok (.goto 4, 3) := by decide +kernel
theorem dX6_isBegun_54 : decode cX6_isBegun 54 = .ok (.iconst 0, 1) := by decide +kernel
theorem dX6_isBegun_55 : decode cX6_isBegun 55 = .ok (.istore_n 2, 1) := by decide +kernel
theorem dX6_isBegun_56 : decode cX6_isBegun 56 = .ok (.iinc 3 1, 3) := by decide +kernel
theorem dX6_isBegun_59 : decode cX6_isBegun 59 = .ok (.goto (-39), 3) := by decide +kernel
theorem dX6_isBegun_62 : decode cX6_isBegun 62 = .ok (.iload_n 2, 1) := by decide +kernel
theorem dX6_isBegun_63 : decode cX6_isBegun 63 = .ok (.ireturn, 1) := by decide +kernel
theorem dX6_misread_0 : decode cX6_misread 0 = .ok (.aload_n 0, 1) := by decide +kernel
theorem dX6_misread_1 : decode cX6_misread 1 = .ok (.iload_n 1, 1) := by decide +kernel
theorem dX6_misread_2 : decode cX6_misread 2 = .ok (.invokevirtual 78, 3) := by decide +kernel
theorem dX6_misread_5 : decode cX6_misread 5 = .ok (.ifCond .ne 5, 3) := by decide +kernel
theorem dX6_misread_8 : decode cX6_misread 8 = .ok (.iconst (-1), 1) := by decide +kernel
theorem dX6_misread_9 : decode cX6_misread 9 = .ok (.ireturn, 1) := by decide +kernel
theorem dX6_misread_10 : decode cX6_misread 10 = .ok (.iload_n 2, 1) := by decide +kernel
theorem dX6_misread_11 : decode cX6_misread 11 = .ok (.i2l, 1) := by decide +kernel
theorem dX6_misread_12 : decode cX6_misread 12 = .ok (.lconst 0, 1) := by decide +kernel
theorem dX6_misread_13 : decode cX6_misread 13 = .ok (.ldc2_w 82, 3) := by decide +kernel
theorem dX6_misread_16 : decode cX6_misread 16 = .ok (.invokestatic 35, 3) := by decide +kernel
theorem dX6_misread_19 : decode cX6_misread 19 = .ok (.ifCond .ne 6, 3) := by decide +kernel
theorem dX6_misread_22 : decode cX6_misread 22 = .ok (.bipush (-2), 2) := by decide +kernel
theorem dX6_misread_24 : decode cX6_misread 24 = .ok (.ireturn, 1) := by decide +kernel
theorem dX6_misread_25 : decode cX6_misread 25 = .ok (.aload_n 0, 1) := by decide +kernel
theorem dX6_misread_26 : decode cX6_misread 26 = .ok (.iload_n 1, 1) := by decide +kernel
theorem dX6_misread_27 : decode cX6_misread 27 = .ok (.invokevirtual 84, 3) := by decide +kernel
theorem dX6_misread_30 : decode cX6_misread 30 = .ok (.ifCond .eq 6, 3) := by decide +kernel
theorem dX6_misread_33 : decode cX6_misread 33 = .ok (.bipush (-4), 2) := by decide +kernel
theorem dX6_misread_35 : decode cX6_misread 35 = .ok (.ireturn, 1) := by decide +kernel
theorem dX6_misread_36 : decode cX6_misread 36 = .ok (.aload_n 0, 1) := by decide +kernel
theorem dX6_misread_37 : decode cX6_misread 37 = .ok (.getfield 7, 3) := by decide +kernel
theorem dX6_misread_40 : decode cX6_misread 40 = .ok (.bipush 46, 2) := by decide +kernel
theorem dX6_misread_42 : decode cX6_misread 42 = .ok (.iload_n 1, 1) := by decide +kernel
theorem dX6_misread_43 : decode cX6_misread 43 = .ok (.iadd, 1) := by decide +kernel
theorem dX6_misread_44 : decode cX6_misread 44 = .ok (.iaload, 1) := by decide +kernel
theorem dX6_misread_45 : decode cX6_misread 45 = .ok (.iload_n 2, 1) := by decide +kernel
theorem dX6_misread_46 : decode cX6_misread 46 = .ok (.if_icmp .ne 6, 3) := by decide +kernel
theorem dX6_misread_49 : decode cX6_misread 49 = .ok (.bipush (-5), 2) := by decide +kernel
theorem dX6_misread_51 : decode cX6_misread 51 = .ok (.ireturn, 1) := by decide +kernel
theorem dX6_misread_52 : decode cX6_misread 52 = .ok (.aload_n 0, 1) := by decide +kernel
theorem dX6_misread_53 : decode cX6_misread 53 = .ok (.invokevirtual 72, 3) := by decide +kernel
theorem dX6_misread_56 : decode cX6_misread 56 = .ok (.aload_n 0, 1) := by decide +kernel
theorem dX6_misread_57 : decode cX6_misread 57 = .ok (.iload_n 1, 1) := by decide +kernel
theorem dX6_misread_58 : decode cX6_misread 58 = .ok (.invokevirtual 46, 3) := by decide +kernel
theorem dX6_misread_61 : decode cX6_misread 61 = .ok (.istore_n 3, 1) := by decide +kernel
theorem dX6_misread_62 : decode cX6_misread 62 = .ok (.aload_n 0, 1) := by decide +kernel
theorem dX6_misread_63 : decode cX6_misread 63 = .ok (.getfield 7, 3) := by decide +kernel
theorem dX6_misread_66 : decode cX6_misread 66 = .ok (.bipush 46, 2) := by decide +kernel
theorem dX6_misread_68 : decode cX6_misread 68 = .ok (.iload_n 1, 1) := by decide +kernel
theorem dX6_misread_69 : decode cX6_misread 69 = .ok (.iadd, 1) := by decide +kernel
theorem dX6_misread_70 : decode cX6_misread 70 = .ok (.iload_n 2, 1) := by decide +kernel
theorem dX6_misread_71 : decode cX6_misread 71 = .ok (.iastore, 1) := by decide +kernel
theorem dX6_misread_72 : decode cX6_misread 72 = .ok (.aload_n 0, 1) := by decide +kernel
theorem dX6_misread_73 : decode cX6_misread 73 = .ok (.iload_n 3, 1) := by decide +kernel
theorem dX6_misread_74 : decode cX6_misread 74 = .ok (.invokevirtual 75, 3) := by decide +kernel
theorem dX6_misread_77 : decode cX6_misread 77 = .ok (.ireturn, 1) := by decide +kernel
theorem dX6_correct_0 : decode cX6_correct 0 = .ok (.aload_n 0, 1) := by decide +kernel
theorem dX6_correct_1 : decode cX6_correct 1 = .ok (.iload_n 1, 1) := by decide +kernel
theorem dX6_correct_2 : decode cX6_correct 2 = .ok (.invokevirtual 78, 3) := by decide +kernel
theorem dX6_correct_5 : decode cX6_correct 5 = .ok (.ifCond .ne 5, 3) := by decide +kernel
theorem dX6_correct_8 : decode cX6_correct 8 = .ok (.iconst (-1), 1) := by decide +kernel
theorem dX6_correct_9 : decode cX6_correct 9 = .ok (.ireturn, 1) := by decide +kernel
theorem dX6_correct_10 : decode cX6_correct 10 = .ok (.aload_n 0, 1) := by decide +kernel
theorem dX6_correct_11 : decode cX6_correct 11 = .ok (.iload_n 1, 1) := by decide +kernel
theorem dX6_correct_12 : decode cX6_correct 12 = .ok (.invokevirtual 39, 3) := by decide +kernel
theorem dX6_correct_15 : decode cX6_correct 15 = .ok (.istore_n 2, 1) := by decide +kernel
theorem dX6_correct_16 : decode cX6_correct 16 = .ok (.aload_n 0, 1) := by decide +kernel
theorem dX6_correct_17 : decode cX6_correct 17 = .ok (.getfield 7, 3) := by decide +kernel
theorem dX6_correct_20 : decode cX6_correct 20 = .ok (.bipush 86, 2) := by decide +kernel
theorem dX6_correct_22 : decode cX6_correct 22 = .ok (.iload_n 1, 1) := by decide +kernel
theorem dX6_correct_23 : decode cX6_correct 23 = .ok (.iadd, 1) := by decide +kernel
theorem dX6_correct_24 : decode cX6_correct 24 = .ok (.iaload, 1) := by decide +kernel
theorem dX6_correct_25 : decode cX6_correct 25 = .ok (.ifCond .eq 21, 3) := by decide +kernel
theorem dX6_correct_28 : decode cX6_correct 28 = .ok (.aload_n 0, 1) := by decide +kernel
theorem dX6_correct_29 : decode cX6_correct 29 = .ok (.invokevirtual 87, 3) := by decide +kernel
theorem dX6_correct_32 : decode cX6_correct 32 = .ok (.ifCond .eq 14, 3) := by decide +kernel
theorem dX6_correct_35 : decode cX6_correct 35 = .ok (.aload_n 0, 1) := by decide +kernel
theorem dX6_correct_36 : decode cX6_correct 36 = .ok (.getfield 7, 3) := by decide +kernel
theorem dX6_correct_39 : decode cX6_correct 39 = .ok (.bipush 6, 2) := by decide +kernel
theorem dX6_correct_41 : decode cX6_correct 41 = .ok (.iaload, 1) := by decide +kernel
theorem dX6_correct_42 : decode cX6_correct 42 = .ok (.iload_n 2, 1) := by decide +kernel
theorem dX6_correct_43 : decode cX6_correct 43 = .ok (.if_icmp .ge 6, 3) := by decide +kernel
theorem dX6_correct_46 : decode cX6_correct 46 = .ok (.bipush (-4), 2) := by decide +kernel
theorem dX6_correct_48 : decode cX6_correct 48 = .ok (.ireturn, 1) := by decide +kernel
theorem dX6_correct_49 : decode cX6_correct 49 = .ok (.aload_n 0, 1) := by decide +kernel
theorem dX6_correct_50 : decode cX6_correct 50 = .ok (.getfield 7, 3) := by decide +kernel
theorem dX6_correct_53 : decode cX6_correct 53 = .ok (.bipush 86, 2) := by decide +kernel
theorem dX6_correct_55 : decode cX6_correct 55 = .ok (.iload_n 1, 1) := by decide +kernel
theorem dX6_correct_56 : decode cX6_correct 56 = .ok (.iadd, 1) := by decide +kernel
theorem dX6_correct_57 : decode cX6_correct 57 = .ok (.iaload, 1) := by decide +kernel
theorem dX6_correct_58 : decode cX6_correct 58 = .ok (.iload_n 2, 1) := by decide +kernel
theorem dX6_correct_59 : decode cX6_correct 59 = .ok (.if_icmp .ne 18, 3) := by decide +kernel
theorem dX6_correct_62 : decode cX6_correct 62 = .ok (.aload_n 0, 1) := by decide +kernel
theorem dX6_correct_63 : decode cX6_correct 63 = .ok (.getfield 7, 3) := by decide +kernel
theorem dX6_correct_66 : decode cX6_correct 66 = .ok (.bipush 126, 2) := by decide +kernel
theorem dX6_correct_68 : decode cX6_correct 68 = .ok (.iload_n 1, 1) := by decide +kernel
theorem dX6_correct_69 : decode cX6_correct 69 = .ok (.iadd, 1) := by decide +kernel
theorem dX6_correct_70 : decode cX6_correct 70 = .ok (.iaload, 1) := by decide +kernel
theorem dX6_correct_71 : decode cX6_correct 71 = .ok (.ifCond .ne 6, 3) := by decide +kernel
theorem dX6_correct_74 : decode cX6_correct 74 = .ok (.bipush (-5), 2) := by decide +kernel
theorem dX6_correct_76 : decode cX6_correct 76 = .ok (.ireturn, 1) := by decide +kernel
theorem dX6_correct_77 : decode cX6_correct 77 = .ok (.aload_n 0, 1) := by decide +kernel
theorem dX6_correct_78 : decode cX6_correct 78 = .ok (.invokevirtual 72, 3) := by decide +kernel
theorem dX6_correct_81 : decode cX6_correct 81 = .ok (.aload_n 0, 1) := by decide +kernel
theorem dX6_correct_82 : decode cX6_correct 82 = .ok (.getfield 7, 3) := by decide +kernel
theorem dX6_correct_85 : decode cX6_correct 85 = .ok (.bipush 86, 2) := by decide +kernel
theorem dX6_correct_87 : decode cX6_correct 87 = .ok (.iload_n 1, 1) := by decide +kernel
theorem dX6_correct_88 : decode cX6_correct 88 = .ok (.iadd, 1) := by decide +kernel
theorem dX6_correct_89 : decode cX6_correct 89 = .ok (.iload_n 2, 1) := by decide +kernel
theorem dX6_correct_90 : decode cX6_correct 90 = .ok (.iastore, 1) := by decide +kernel
theorem dX6_correct_91 : decode cX6_correct 91 = .ok (.aload_n 0, 1) := by decide +kernel
theorem dX6_correct_92 : decode cX6_correct 92 = .ok (.getfield 7, 3) := by decide +kernel
theorem dX6_correct_95 : decode cX6_correct 95 = .ok (.bipush 126, 2) := by decide +kernel
theorem dX6_correct_97 : decode cX6_correct 97 = .ok (.iload_n 1, 1) := by decide +kernel
theorem dX6_correct_98 : decode cX6_correct 98 = .ok (.iadd, 1) := by decide +kernel
theorem dX6_correct_99 : decode cX6_correct 99 = .ok (.iconst 0, 1) := by decide +kernel
theorem dX6_correct_100 : decode cX6_correct 100 = .ok (.iastore, 1) := by decide +kernel
theorem dX6_correct_101 : decode cX6_correct 101 = .ok (.aload_n 0, 1) := by decide +kernel
theorem dX6_correct_102 : decode cX6_correct 102 = .ok (.getfield 7, 3) := by decide +kernel
theorem dX6_correct_105 : decode cX6_correct 105 = .ok (.sipush 166, 3) := by decide +kernel
theorem dX6_correct_108 : decode cX6_correct 108 = .ok (.iload_n 1, 1) := by decide +kernel
theorem dX6_correct_109 : decode cX6_correct 109 = .ok (.iadd, 1) := by decide +kernel
theorem dX6_correct_110 : decode cX6_correct 110 = .ok (.iconst 1, 1) := by decide +kernel
theorem dX6_correct_111 : decode cX6_correct 111 = .ok (.iastore, 1) := by decide +kernel
theorem dX6_correct_112 : decode cX6_correct 112 = .ok (.aload_n 0, 1) := by decide +kernel
theorem dX6_correct_113 : decode cX6_correct 113 = .ok (.getfield 7, 3) := by decide +kernel
theorem dX6_correct_116 : decode cX6_correct 116 = .ok (.bipush 6, 2) := by decide +kernel
theorem dX6_correct_118 : decode cX6_correct 118 = .ok (.dup2, 1) := by decide +kernel
theorem dX6_correct_119 : decode cX6_correct 119 = .ok (.iaload, 1) := by decide +kernel
theorem dX6_correct_120 : decode cX6_correct 120 = .ok (.iload_n 2, 1) := by decide +kernel
theorem dX6_correct_121 : decode cX6_correct 121 = .ok (.isub, 1) := by decide +kernel
theorem dX6_correct_122 : decode cX6_correct 122 = .ok (.iastore, 1) := by decide +kernel
theorem dX6_correct_123 : decode cX6_correct 123 = .ok (.aload_n 0, 1) := by decide +kernel
theorem dX6_correct_124 : decode cX6_correct 124 = .ok (.getfield 7, 3) := by decide +kernel
theorem dX6_correct_127 : decode cX6_correct 127 = .ok (.bipush 8, 2) := by decide +kernel
theorem dX6_correct_129 : decode cX6_correct 129 = .ok (.dup2, 1) := by decide +kernel
theorem dX6_correct_130 : decode cX6_correct 130 = .ok (.iaload, 1) := by decide +kernel
theorem dX6_correct_131 : decode cX6_correct 131 = .ok (.iload_n 2, 1) := by decide +kernel
theorem dX6_correct_132 : decode cX6_correct 132 = .ok (.iadd, 1) := by decide +kernel
theorem dX6_correct_133 : decode cX6_correct 133 = .ok (.iastore, 1) := by decide +kernel
theorem dX6_correct_134 : decode cX6_correct 134 = .ok (.aload_n 0, 1) := by decide +kernel
theorem dX6_correct_135 : decode cX6_correct 135 = .ok (.getfield 7, 3) := by decide +kernel
theorem dX6_correct_138 : decode cX6_correct 138 = .ok (.iconst 5, 1) := by decide +kernel
theorem dX6_correct_139 : decode cX6_correct 139 = .ok (.dup2, 1) := by decide +kernel
theorem dX6_correct_140 : decode cX6_correct 140 = .ok (.iaload, 1) := by decide +kernel
theorem dX6_correct_141 : decode cX6_correct 141 = .ok (.iconst 1, 1) := by decide +kernel
theorem dX6_correct_142 : decode cX6_correct 142 = .ok (.iadd, 1) := by decide +kernel
theorem dX6_correct_143 : decode cX6_correct 143 = .ok (.iastore, 1) := by decide +kernel
theorem dX6_correct_144 : decode cX6_correct 144 = .ok (.aload_n 0, 1) := by decide +kernel
theorem dX6_correct_145 : decode cX6_correct 145 = .ok (.aload_n 0, 1) := by decide +kernel
theorem dX6_correct_146 : decode cX6_correct 146 = .ok (.invokevirtual 87, 3) := by decide +kernel
theorem dX6_correct_149 : decode cX6_correct 149 = .ok (.invokevirtual 75, 3) := by decide +kernel
theorem dX6_correct_152 : decode cX6_correct 152 = .ok (.ireturn, 1) := by decide +kernel
theorem dX6_isScribe_0 : decode cX6_isScribe 0 = .ok (.iload_n 0, 1) := by decide +kernel
theorem dX6_isScribe_1 : decode cX6_isScribe 1 = .ok (.ifCond .eq 8, 3) := by decide +kernel
theorem dX6_isScribe_4 : decode cX6_isScribe 4 = .ok (.iload_n 0, 1) := by decide +kernel
theorem dX6_isScribe_5 : decode cX6_isScribe 5 = .ok (.iconst 1, 1) := by decide +kernel
theorem dX6_isScribe_6 : decode cX6_isScribe 6 = .ok (.if_icmp .ne 7, 3) := by decide +kernel
theorem dX6_isScribe_9 : decode cX6_isScribe 9 = .ok (.iconst 1, 1) := by decide +kernel
theorem dX6_isScribe_10 : decode cX6_isScribe 10 = .ok (.goto 4, 3) := by decide +kernel
theorem dX6_isScribe_13 : decode cX6_isScribe 13 = .ok (.iconst 0, 1) := by decide +kernel
theorem dX6_isScribe_14 : decode cX6_isScribe 14 = .ok (.ireturn, 1) := by decide +kernel
theorem dX6_setPace_0 : decode cX6_setPace 0 = .ok (.iload_n 1, 1) := by decide +kernel
theorem dX6_setPace_1 : decode cX6_setPace 1 = .ok (.invokestatic 90, 3) := by decide +kernel
theorem dX6_setPace_4 : decode cX6_setPace 4 = .ok (.ifCond .ne 5, 3) := by decide +kernel
theorem dX6_setPace_7 : decode cX6_setPace 7 = .ok (.iconst (-1), 1) := by decide +kernel
theorem dX6_setPace_8 : decode cX6_setPace 8 = .ok (.ireturn, 1) := by decide +kernel
theorem dX6_setPace_9 : decode cX6_setPace 9 = .ok (.iload_n 2, 1) := by decide +kernel
theorem dX6_setPace_10 : decode cX6_setPace 10 = .ok (.i2l, 1) := by decide +kernel
theorem dX6_setPace_11 : decode cX6_setPace 11 = .ok (.lconst 1, 1) := by decide +kernel
theorem dX6_setPace_12 : decode cX6_setPace 12 = .ok (.ldc2_w 93, 3) := by decide +kernel
theorem dX6_setPace_15 : decode cX6_setPace 15 = .ok (.invokestatic 35, 3) := by decide +kernel
theorem dX6_setPace_18 : decode cX6_setPace 18 = .ok (.ifCond .ne 6, 3) := by decide +kernel
theorem dX6_setPace_21 : decode cX6_setPace 21 = .ok (.bipush (-2), 2) := by decide +kernel
theorem dX6_setPace_23 : decode cX6_setPace 23 = .ok (.ireturn, 1) := by decide +kernel
theorem dX6_setPace_24 : decode cX6_setPace 24 = .ok (.aload_n 0, 1) := by decide +kernel
theorem dX6_setPace_25 : decode cX6_setPace 25 = .ok (.getfield 7, 3) := by decide +kernel
theorem dX6_setPace_28 : decode cX6_setPace 28 = .ok (.bipush 12, 2) := by decide +kernel
theorem dX6_setPace_30 : decode cX6_setPace 30 = .ok (.iload_n 1, 1) := by decide +kernel
theorem dX6_setPace_31 : decode cX6_setPace 31 = .ok (.iadd, 1) := by decide +kernel
theorem dX6_setPace_32 : decode cX6_setPace 32 = .ok (.iaload, 1) := by decide +kernel
theorem dX6_setPace_33 : decode cX6_setPace 33 = .ok (.istore_n 3, 1) := by decide +kernel
theorem dX6_setPace_34 : decode cX6_setPace 34 = .ok (.iload_n 3, 1) := by decide +kernel
theorem dX6_setPace_35 : decode cX6_setPace 35 = .ok (.iload_n 2, 1) := by decide +kernel
theorem dX6_setPace_36 : decode cX6_setPace 36 = .ok (.if_icmp .ne 6, 3) := by decide +kernel
theorem dX6_setPace_39 : decode cX6_setPace 39 = .ok (.bipush (-5), 2) := by decide +kernel
theorem dX6_setPace_41 : decode cX6_setPace 41 = .ok (.ireturn, 1) := by decide +kernel
theorem dX6_setPace_42 : decode cX6_setPace 42 = .ok (.aload_n 0, 1) := by decide +kernel
theorem dX6_setPace_43 : decode cX6_setPace 43 = .ok (.invokevirtual 72, 3) := by decide +kernel
theorem dX6_setPace_46 : decode cX6_setPace 46 = .ok (.aload_n 0, 1) := by decide +kernel
theorem dX6_setPace_47 : decode cX6_setPace 47 = .ok (.getfield 7, 3) := by decide +kernel
theorem dX6_setPace_50 : decode cX6_setPace 50 = .ok (.bipush 12, 2) := by decide +kernel
theorem dX6_setPace_52 : decode cX6_setPace 52 = .ok (.iload_n 1, 1) := by decide +kernel
theorem dX6_setPace_53 : decode cX6_setPace 53 = .ok (.iadd, 1) := by decide +kernel
theorem dX6_setPace_54 : decode cX6_setPace 54 = .ok (.iload_n 2, 1) := by decide +kernel
theorem dX6_setPace_55 : decode cX6_setPace 55 = .ok (.iastore, 1) := by decide +kernel
theorem dX6_setPace_56 : decode cX6_setPace 56 = .ok (.aload_n 0, 1) := by decide +kernel
theorem dX6_setPace_57 : decode cX6_setPace 57 = .ok (.iload_n 3, 1) := by decide +kernel
theorem dX6_setPace_58 : decode cX6_setPace 58 = .ok (.invokevirtual 75, 3) := by decide +kernel
theorem dX6_setPace_61 : decode cX6_setPace 61 = .ok (.ireturn, 1) := by decide +kernel
theorem dX6_pour_0 : decode cX6_pour 0 = .ok (.iload_n 1, 1) := by decide +kernel
theorem dX6_pour_1 : decode cX6_pour 1 = .ok (.i2l, 1) := by decide +kernel
theorem dX6_pour_2 : decode cX6_pour 2 = .ok (.lconst 1, 1) := by decide +kernel
theorem dX6_pour_3 : decode cX6_pour 3 = .ok (.ldc2_w 95, 3) := by decide +kernel
theorem dX6_pour_6 : decode cX6_pour 6 = .ok (.invokestatic 35, 3) := by decide +kernel
theorem dX6_pour_9 : decode cX6_pour 9 = .ok (.ifCond .ne 6, 3) := by decide +kernel
theorem dX6_pour_12 : decode cX6_pour 12 = .ok (.bipush (-2), 2) := by decide +kernel
theorem dX6_pour_14 : decode cX6_pour 14 = .ok (.ireturn, 1) := by decide +kernel
theorem dX6_pour_15 : decode cX6_pour 15 = .ok (.aload_n 0, 1) := by decide +kernel
theorem dX6_pour_16 : decode cX6_pour 16 = .ok (.getfield 7, 3) := by decide +kernel
theorem dX6_pour_19 : decode cX6_pour 19 = .ok (.bipush 11, 2) := by decide +kernel
theorem dX6_pour_21 : decode cX6_pour 21 = .ok (.iaload, 1) := by decide +kernel
theorem dX6_pour_22 : decode cX6_pour 22 = .ok (.iload_n 1, 1) := by decide +kernel
theorem dX6_pour_23 : decode cX6_pour 23 = .ok (.iadd, 1) := by decide +kernel
theorem dX6_pour_24 : decode cX6_pour 24 = .ok (.sipush 9999, 3) := by decide +kernel
theorem dX6_pour_27 : decode cX6_pour 27 = .ok (.if_icmp .le 6, 3) := by decide +kernel
theorem dX6_pour_30 : decode cX6_pour 30 = .ok (.bipush (-3), 2) := by decide +kernel
theorem dX6_pour_32 : decode cX6_pour 32 = .ok (.ireturn, 1) := by decide +kernel
theorem dX6_pour_33 : decode cX6_pour 33 = .ok (.aload_n 0, 1) := by decide +kernel
theorem dX6_pour_34 : decode cX6_pour 34 = .ok (.invokevirtual 72, 3) := by decide +kernel
theorem dX6_pour_37 : decode cX6_pour 37 = .ok (.aload_n 0, 1) := by decide +kernel
theorem dX6_pour_38 : decode cX6_pour 38 = .ok (.getfield 7, 3) := by decide +kernel
theorem dX6_pour_41 : decode cX6_pour 41 = .ok (.bipush 11, 2) := by decide +kernel
theorem dX6_pour_43 : decode cX6_pour 43 = .ok (.dup2, 1) := by decide +kernel
theorem dX6_pour_44 : decode cX6_pour 44 = .ok (.iaload, 1) := by decide +kernel
theorem dX6_pour_45 : decode cX6_pour 45 = .ok (.iload_n 1, 1) := by decide +kernel
theorem dX6_pour_46 : decode cX6_pour 46 = .ok (.iadd, 1) := by decide +kernel
theorem dX6_pour_47 : decode cX6_pour 47 = .ok (.iastore, 1) := by decide +kernel
theorem dX6_pour_48 : decode cX6_pour 48 = .ok (.aload_n 0, 1) := by decide +kernel
theorem dX6_pour_49 : decode cX6_pour 49 = .ok (.getfield 7, 3) := by decide +kernel
theorem dX6_pour_52 : decode cX6_pour 52 = .ok (.bipush 6, 2) := by decide +kernel
theorem dX6_pour_54 : decode cX6_pour 54 = .ok (.dup2, 1) := by decide +kernel
theorem dX6_pour_55 : decode cX6_pour 55 = .ok (.iaload, 1) := by decide +kernel
theorem dX6_pour_56 : decode cX6_pour 56 = .ok (.bipush 8, 2) := by decide +kernel
theorem dX6_pour_58 : decode cX6_pour 58 = .ok (.iload_n 1, 1) := by decide +kernel
theorem dX6_pour_59 : decode cX6_pour 59 = .ok (.imul, 1) := by decide +kernel
theorem dX6_pour_60 : decode cX6_pour 60 = .ok (.iadd, 1) := by decide +kernel
theorem dX6_pour_61 : decode cX6_pour 61 = .ok (.iastore, 1) := by decide +kernel
theorem dX6_pour_62 : decode cX6_pour 62 = .ok (.aload_n 0, 1) := by decide +kernel
theorem dX6_pour_63 : decode cX6_pour 63 = .ok (.aload_n 0, 1) := by decide +kernel
theorem dX6_pour_64 : decode cX6_pour 64 = .ok (.getfield 7, 3) := by decide +kernel
theorem dX6_pour_67 : decode cX6_pour 67 = .ok (.bipush 11, 2) := by decide +kernel
theorem dX6_pour_69 : decode cX6_pour 69 = .ok (.iaload, 1) := by decide +kernel
theorem dX6_pour_70 : decode cX6_pour 70 = .ok (.invokevirtual 75, 3) := by decide +kernel
theorem dX6_pour_73 : decode cX6_pour 73 = .ok (.ireturn, 1) := by decide +kernel
theorem dX6_set_0 : decode cX6_set 0 = .ok (.iload_n 1, 1) := by decide +kernel
theorem dX6_set_1 : decode cX6_set 1 = .ok (.i2l, 1) := by decide +kernel
theorem dX6_set_2 : decode cX6_set 2 = .ok (.lconst 0, 1) := by decide +kernel
theorem dX6_set_3 : decode cX6_set 3 = .ok (.ldc2_w 97, 3) := by decide +kernel
theorem dX6_set_6 : decode cX6_set 6 = .ok (.invokestatic 35, 3) := by decide +kernel
theorem dX6_set_9 : decode cX6_set 9 = .ok (.ifCond .ne 5, 3) := by decide +kernel
theorem dX6_set_12 : decode cX6_set 12 = .ok (.iconst (-1), 1) := by decide +kernel
theorem dX6_set_13 : decode cX6_set 13 = .ok (.ireturn, 1) := by decide +kernel
theorem dX6_set_14 : decode cX6_set 14 = .ok (.iload_n 2, 1) := by decide +kernel
theorem dX6_set_15 : decode cX6_set 15 = .ok (.i2l, 1) := by decide +kernel
theorem dX6_set_16 : decode cX6_set 16 = .ok (.iload_n 1, 1) := by decide +kernel
theorem dX6_set_17 : decode cX6_set 17 = .ok (.ifCond .ne 7, 3) := by decide +kernel
theorem dX6_set_20 : decode cX6_set 20 = .ok (.lconst 1, 1) := by decide +kernel
theorem dX6_set_21 : decode cX6_set 21 = .ok (.goto 4, 3) := by decide +kernel
theorem dX6_set_24 : decode cX6_set 24 = .ok (.lconst 0, 1) := by decide +kernel
theorem dX6_set_25 : decode cX6_set 25 = .ok (.iload_n 1, 1) := by decide +kernel
theorem dX6_set_26 : decode cX6_set 26 = .ok (.ifCond .ne 9, 3) := by decide +kernel
theorem dX6_set_29 : decode cX6_set 29 = .ok (.ldc2_w 93, 3) := by decide +kernel
theorem dX6_set_32 : decode cX6_set 32 = .ok (.goto 17, 3) := by decide +kernel
theorem dX6_set_35 : decode cX6_set 35 = .ok (.iload_n 1, 1) := by decide +kernel
theorem dX6_set_36 : decode cX6_set 36 = .ok (.iconst 1, 1) := by decide +kernel
theorem dX6_set_37 : decode cX6_set 37 = .ok (.if_icmp .ne 9, 3) := by decide +kernel
theorem dX6_set_40 : decode cX6_set 40 = .ok (.ldc2_w 99, 3) := by decide +kernel
theorem dX6_set_43 : decode cX6_set 43 = .ok (.goto 6, 3) := by decide +kernel
theorem dX6_set_46 : decode cX6_set 46 = .ok (.ldc2_w 101, 3) := by decide +kernel
theorem dX6_set_49 : decode cX6_set 49 = .ok (.invokestatic 35, 3) := by decide +kernel
theorem dX6_set_52 : decode cX6_set 52 = .ok (.ifCond .ne 6, 3) := by decide +kernel
theorem dX6_set_55 : decode cX6_set 55 = .ok (.bipush (-2), 2) := by decide +kernel
theorem dX6_set_57 : decode cX6_set 57 = .ok (.ireturn, 1) := by decide +kernel
theorem dX6_set_58 : decode cX6_set 58 = .ok (.aload_n 0, 1) := by decide +kernel
theorem dX6_set_59 : decode cX6_set 59 = .ok (.getfield 7, 3) := by decide +kernel
theorem dX6_set_62 : decode cX6_set 62 = .ok (.iload_n 1, 1) := by decide +kernel
theorem dX6_set_63 : decode cX6_set 63 = .ok (.iaload, 1) := by decide +kernel
theorem dX6_set_64 : decode cX6_set 64 = .ok (.istore_n 3, 1) := by decide +kernel
theorem dX6_set_65 : decode cX6_set 65 = .ok (.iload_n 3, 1) := by decide +kernel
theorem dX6_set_66 : decode cX6_set 66 = .ok (.iload_n 2, 1) := by decide +kernel
theorem dX6_set_67 : decode cX6_set 67 = .ok (.if_icmp .ne 6, 3) := by decide +kernel
theorem dX6_set_70 : decode cX6_set 70 = .ok (.bipush (-5), 2) := by decide +kernel
theorem dX6_set_72 : decode cX6_set 72 = .ok (.ireturn, 1) := by decide +kernel
theorem dX6_set_73 : decode cX6_set 73 = .ok (.aload_n 0, 1) := by decide +kernel
theorem dX6_set_74 : decode cX6_set 74 = .ok (.invokevirtual 72, 3) := by decide +kernel
theorem dX6_set_77 : decode cX6_set 77 = .ok (.aload_n 0, 1) := by decide +kernel
theorem dX6_set_78 : decode cX6_set 78 = .ok (.getfield 7, 3) := by decide +kernel
theorem dX6_set_81 : decode cX6_set 81 = .ok (.iload_n 1, 1) := by decide +kernel
theorem dX6_set_82 : decode cX6_set 82 = .ok (.iload_n 2, 1) := by decide +kernel
theorem dX6_set_83 : decode cX6_set 83 = .ok (.iastore, 1) := by decide +kernel
theorem dX6_set_84 : decode cX6_set 84 = .ok (.aload_n 0, 1) := by decide +kernel
theorem dX6_set_85 : decode cX6_set 85 = .ok (.iload_n 3, 1) := by decide +kernel
theorem dX6_set_86 : decode cX6_set 86 = .ok (.invokevirtual 75, 3) := by decide +kernel
theorem dX6_set_89 : decode cX6_set 89 = .ok (.ireturn, 1) := by decide +kernel
theorem dX6_pass_0 : decode cX6_pass 0 = .ok (.iload_n 1, 1) := by decide +kernel
theorem dX6_pass_1 : decode cX6_pass 1 = .ok (.i2l, 1) := by decide +kernel
theorem dX6_pass_2 : decode cX6_pass 2 = .ok (.lconst 1, 1) := by decide +kernel
theorem dX6_pass_3 : decode cX6_pass 3 = .ok (.ldc2_w 103, 3) := by decide +kernel
theorem dX6_pass_6 : decode cX6_pass 6 = .ok (.invokestatic 35, 3) := by decide +kernel
theorem dX6_pass_9 : decode cX6_pass 9 = .ok (.ifCond .ne 6, 3) := by decide +kernel
theorem dX6_pass_12 : decode cX6_pass 12 = .ok (.bipush (-2), 2) := by decide +kernel
theorem dX6_pass_14 : decode cX6_pass 14 = .ok (.ireturn, 1) := by decide +kernel
theorem dX6_pass_15 : decode cX6_pass 15 = .ok (.aload_n 0, 1) := by decide +kernel
theorem dX6_pass_16 : decode cX6_pass 16 = .ok (.getfield 7, 3) := by decide +kernel
theorem dX6_pass_19 : decode cX6_pass 19 = .ok (.iconst 3, 1) := by decide +kernel
theorem dX6_pass_20 : decode cX6_pass 20 = .ok (.iaload, 1) := by decide +kernel
theorem dX6_pass_21 : decode cX6_pass 21 = .ok (.iload_n 1, 1) := by decide +kernel
theorem dX6_pass_22 : decode cX6_pass 22 = .ok (.iadd, 1) := by decide +kernel
theorem dX6_pass_23 : decode cX6_pass 23 = .ok (.ldc 105, 2) := by decide +kernel
theorem dX6_pass_25 : decode cX6_pass 25 = .ok (.if_icmp .le 6, 3) := by decide +kernel
theorem dX6_pass_28 : decode cX6_pass 28 = .ok (.bipush (-3), 2) := by decide +kernel
theorem dX6_pass_30 : decode cX6_pass 30 = .ok (.ireturn, 1) := by decide +kernel
theorem dX6_pass_31 : decode cX6_pass 31 = .ok (.aload_n 0, 1) := by decide +kernel
theorem dX6_pass_32 : decode cX6_pass 32 = .ok (.invokevirtual 72, 3) := by decide +kernel
theorem dX6_pass_35 : decode cX6_pass 35 = .ok (.aload_n 0, 1) := by decide +kernel
theorem dX6_pass_36 : decode cX6_pass 36 = .ok (.getfield 7, 3) := by decide +kernel
theorem dX6_pass_39 : decode cX6_pass 39 = .ok (.bipush 10, 2) := by decide +kernel
theorem dX6_pass_41 : decode cX6_pass 41 = .ok (.iaload, 1) := by decide +kernel
theorem dX6_pass_42 : decode cX6_pass 42 = .ok (.istore_n 2, 1) := by decide +kernel
theorem dX6_pass_43 : decode cX6_pass 43 = .ok (.iconst 0, 1) := by decide +kernel
theorem dX6_pass_44 : decode cX6_pass 44 = .ok (.istore_n 3, 1) := by decide +kernel
theorem dX6_pass_45 : decode cX6_pass 45 = .ok (.iload_n 3, 1) := by decide +kernel
theorem dX6_pass_46 : decode cX6_pass 46 = .ok (.iload_n 1, 1) := by decide +kernel
theorem dX6_pass_47 : decode cX6_pass 47 = .ok (.if_icmp .ge 13, 3) := by decide +kernel
theorem dX6_pass_50 : decode cX6_pass 50 = .ok (.aload_n 0, 1) := by decide +kernel
theorem dX6_pass_51 : decode cX6_pass 51 = .ok (.invokevirtual 106, 3) := by decide +kernel
theorem dX6_pass_54 : decode cX6_pass 54 = .ok (.iinc 3 1, 3) := by decide +kernel
theorem dX6_pass_57 : decode cX6_pass 57 = .ok (.goto (-12), 3) := by decide +kernel
theorem dX6_pass_60 : decode cX6_pass 60 = .ok (.aload_n 0, 1) := by decide +kernel
theorem dX6_pass_61 : decode cX6_pass 61 = .ok (.aload_n 0, 1) := by decide +kernel
theorem dX6_pass_62 : decode cX6_pass 62 = .ok (.getfield 7, 3) := by decide +kernel
theorem dX6_pass_65 : decode cX6_pass 65 = .ok (.bipush 10, 2) := by decide +kernel
theorem dX6_pass_67 : decode cX6_pass 67 = .ok (.iaload, 1) := by decide +kernel
theorem dX6_pass_68 : decode cX6_pass 68 = .ok (.iload_n 2, 1) := by decide +kernel
theorem dX6_pass_69 : decode cX6_pass 69 = .ok (.isub, 1) := by decide +kernel
theorem dX6_pass_70 : decode cX6_pass 70 = .ok (.invokevirtual 75, 3) := by decide +kernel
theorem dX6_pass_73 : decode cX6_pass 73 = .ok (.ireturn, 1) := by decide +kernel
theorem dX6_type_0 : decode cX6_type 0 = .ok (.aload_n 0, 1) := by decide +kernel
theorem dX6_type_1 : decode cX6_type 1 = .ok (.getfield 109, 3) := by decide +kernel
theorem dX6_type_4 : decode cX6_type 4 = .ok (.bipush 60, 2) := by decide +kernel
theorem dX6_type_6 : decode cX6_type 6 = .ok (.if_icmp .ne 6, 3) := by decide +kernel
theorem dX6_type_9 : decode cX6_type 9 = .ok (.bipush (-3), 2) := by decide +kernel
theorem dX6_type_11 : decode cX6_type 11 = .ok (.ireturn, 1) := by decide +kernel
theorem dX6_type_12 : decode cX6_type 12 = .ok (.aload_n 0, 1) := by decide +kernel
theorem dX6_type_13 : decode cX6_type 13 = .ok (.getfield 28, 3) := by decide +kernel
theorem dX6_type_16 : decode cX6_type 16 = .ok (.aload_n 0, 1) := by decide +kernel
theorem dX6_type_17 : decode cX6_type 17 = .ok (.getfield 109, 3) := by decide +kernel
theorem dX6_type_20 : decode cX6_type 20 = .ok (.iload_n 1, 1) := by decide +kernel
theorem dX6_type_21 : decode cX6_type 21 = .ok (.iastore, 1) := by decide +kernel
theorem dX6_type_22 : decode cX6_type 22 = .ok (.aload_n 0, 1) := by decide +kernel
theorem dX6_type_23 : decode cX6_type 23 = .ok (.dup, 1) := by decide +kernel
theorem dX6_type_24 : decode cX6_type 24 = .ok (.getfield 109, 3) := by decide +kernel
theorem dX6_type_27 : decode cX6_type 27 = .ok (.iconst 1, 1) := by decide +kernel
theorem dX6_type_28 : decode cX6_type 28 = .ok (.iadd, 1) := by decide +kernel
theorem dX6_type_29 : decode cX6_type 29 = .ok (.putfield 109, 3) := by decide +kernel
theorem dX6_type_32 : decode cX6_type 32 = .ok (.aload_n 0, 1) := by decide +kernel
theorem dX6_type_33 : decode cX6_type 33 = .ok (.getfield 109, 3) := by decide +kernel
theorem dX6_type_36 : decode cX6_type 36 = .ok (.ireturn, 1) := by decide +kernel
theorem dX6_clearText_0 : decode cX6_clearText 0 = .ok (.aload_n 0, 1) := by decide +kernel
theorem dX6_clearText_1 : decode cX6_clearText 1 = .ok (.getfield 109, 3) := by decide +kernel
theorem dX6_clearText_4 : decode cX6_clearText 4 = .ok (.istore_n 1, 1) := by decide +kernel
theorem dX6_clearText_5 : decode cX6_clearText 5 = .ok (.aload_n 0, 1) := by decide +kernel
theorem dX6_clearText_6 : decode cX6_clearText 6 = .ok (.iconst 0, 1) := by decide +kernel
theorem dX6_clearText_7 : decode cX6_clearText 7 = .ok (.putfield 109, 3) := by decide +kernel
theorem dX6_clearText_10 : decode cX6_clearText 10 = .ok (.iload_n 1, 1) := by decide +kernel
theorem dX6_clearText_11 : decode cX6_clearText 11 = .ok (.ireturn, 1) := by decide +kernel
theorem dX6_isHere_0 : decode cX6_isHere 0 = .ok (.aload_n 0, 1) := by decide +kernel
theorem dX6_isHere_1 : decode cX6_isHere 1 = .ok (.getfield 112, 3) := by decide +kernel
theorem dX6_isHere_4 : decode cX6_isHere 4 = .ok (.aload_n 0, 1) := by decide +kernel
theorem dX6_isHere_5 : decode cX6_isHere 5 = .ok (.getfield 109, 3) := by decide +kernel
theorem dX6_isHere_8 : decode cX6_isHere 8 = .ok (.if_icmp .ge 27, 3) := by decide +kernel
theorem dX6_isHere_11 : decode cX6_isHere 11 = .ok (.aload_n 0, 1) := by decide +kernel
theorem dX6_isHere_12 : decode cX6_isHere 12 = .ok (.getfield 28, 3) := by decide +kernel
theorem dX6_isHere_15 : decode cX6_isHere 15 = .ok (.aload_n 0, 1) := by decide +kernel
theorem dX6_isHere_16 : decode cX6_isHere 16 = .ok (.getfield 112, 3) := by decide +kernel
theorem dX6_isHere_19 : decode cX6_isHere 19 = .ok (.iaload, 1) := by decide +kernel
theorem dX6_isHere_20 : decode cX6_isHere 20 = .ok (.i2l, 1) := by decide +kernel
theorem dX6_isHere_21 : decode cX6_isHere 21 = .ok (.iload_n 1, 1) := by decide +kernel
theorem dX6_isHere_22 : decode cX6_isHere 22 = .ok (.i2l, 1) := by decide +kernel
theorem dX6_isHere_23 : decode cX6_isHere 23 = .ok (.iload_n 2, 1) := by decide +kernel
theorem dX6_isHere_24 : decode cX6_isHere 24 = .ok (.i2l, 1) := by decide +kernel
theorem dX6_isHere_25 : decode cX6_isHere 25 = .ok (.invokestatic 35, 3) := by decide +kernel
theorem dX6_isHere_28 : decode cX6_isHere 28 = .ok (.ifCond .eq 7, 3) := by decide +kernel
theorem dX6_isHere_31 : decode cX6_isHere 31 = .ok (.iconst 1, 1) := by decide +kernel
theorem dX6_isHere_32 : decode cX6_isHere 32 = .ok (.goto 4, 3) := by decide +kernel
theorem dX6_isHere_35 : decode cX6_isHere 35 = .ok (.iconst 0, 1) := by decide +kernel
theorem dX6_isHere_36 : decode cX6_isHere 36 = .ok (.ireturn, 1) := by decide +kernel
theorem dX6_takesOne_0 : decode cX6_takesOne 0 = .ok (.aload_n 0, 1) := by decide +kernel
theorem dX6_takesOne_1 : decode cX6_takesOne 1 = .ok (.iload_n 1, 1) := by decide +kernel
theorem dX6_takesOne_2 : decode cX6_takesOne 2 = .ok (.iload_n 1, 1) := by decide +kernel
theorem dX6_takesOne_3 : decode cX6_takesOne 3 = .ok (.invokevirtual 115, 3) := by decide +kernel
theorem dX6_takesOne_6 : decode cX6_takesOne 6 = .ok (.istore_n 2, 1) := by decide +kernel
theorem dX6_takesOne_7 : decode cX6_takesOne 7 = .ok (.aload_n 0, 1) := by decide +kernel
theorem dX6_takesOne_8 : decode cX6_takesOne 8 = .ok (.dup, 1) := by decide +kernel
theorem dX6_takesOne_9 : decode cX6_takesOne 9 = .ok (.getfield 112, 3) := by decide +kernel
theorem dX6_takesOne_12 : decode cX6_takesOne 12 = .ok (.iload_n 2, 1) := by decide +kernel
theorem dX6_takesOne_13 : decode cX6_takesOne 13 = .ok (.ifCond .eq 7, 3) := by decide +kernel
theorem dX6_takesOne_16 : decode cX6_takesOne 16 = .ok (.iconst 1, 1) := by decide +kernel
theorem dX6_takesOne_17 : decode cX6_takesOne 17 = .ok (.goto 4, 3) := by decide +kernel
theorem dX6_takesOne_20 : decode cX6_takesOne 20 = .ok (.iconst 0, 1) := by decide +kernel
theorem dX6_takesOne_21 : decode cX6_takesOne 21 = .ok (.iadd, 1) := by decide +kernel
theorem dX6_takesOne_22 : decode cX6_takesOne 22 = .ok (.putfield 112, 3) := by decide +kernel
theorem dX6_takesOne_25 : decode cX6_takesOne 25 = .ok (.iload_n 2, 1) := by decide +kernel
theorem dX6_takesOne_26 : decode cX6_takesOne 26 = .ok (.ireturn, 1) := by decide +kernel
theorem dX6_readsMisreading_0 : decode cX6_readsMisreading 0 = .ok (.aload_n 0, 1) := by decide +kernel
theorem dX6_readsMisreading_1 : decode cX6_readsMisreading 1 = .ok (.bipush 48, 2) := by decide +kernel
theorem dX6_readsMisreading_3 : decode cX6_readsMisreading 3 = .ok (.bipush 57, 2) := by decide +kernel
theorem dX6_readsMisreading_5 : decode cX6_readsMisreading 5 = .ok (.invokevirtual 115, 3) := by decide +kernel
theorem dX6_readsMisreading_8 : decode cX6_readsMisreading 8 = .ok (.ifCond .ne 5, 3) := by decide +kernel
theorem dX6_readsMisreading_11 : decode cX6_readsMisreading 11 = .ok (.iconst 0, 1) := by decide +kernel
theorem dX6_readsMisreading_12 : decode cX6_readsMisreading 12 = .ok (.ireturn, 1) := by decide +kernel
theorem dX6_readsMisreading_13 : decode cX6_readsMisreading 13 = .ok (.aload_n 0, 1) := by decide +kernel
theorem dX6_readsMisreading_14 : decode cX6_readsMisreading 14 = .ok (.getfield 28, 3) := by decide +kernel
theorem dX6_readsMisreading_17 : decode cX6_readsMisreading 17 = .ok (.aload_n 0, 1) := by decide +kernel
theorem dX6_readsMisreading_18 : decode cX6_readsMisreading 18 = .ok (.getfield 112, 3) := by decide +kernel
theorem dX6_readsMisreading_21 : decode cX6_readsMisreading 21 = .ok (.iaload, 1) := by decide +kernel
theorem dX6_readsMisreading_22 : decode cX6_readsMisreading 22 = .ok (.bipush 48, 2) := by decide +kernel
theorem dX6_readsMisreading_24 : decode cX6_readsMisreading 24 = .ok (.isub, 1) := by decide +kernel
theorem dX6_readsMisreading_25 : decode cX6_readsMisreading 25 = .ok (.istore_n 1, 1) := by decide +kernel
theorem dX6_readsMisreading_26 : decode cX6_readsMisreading 26 = .ok (.aload_n 0, 1) := by decide +kernel
theorem dX6_readsMisreading_27 : decode cX6_readsMisreading 27 = .ok (.dup, 1) := by decide +kernel
theorem dX6_readsMisreading_28 : decode cX6_readsMisreading 28 = .ok (.getfield 112, 3) := by decide +kernel
theorem dX6_readsMisreading_31 : decode cX6_readsMisreading 31 = .ok (.iconst 1, 1) := by decide +kernel
theorem dX6_readsMisreading_32 : decode cX6_readsMisreading 32 = .ok (.iadd, 1) := by decide +kernel
theorem dX6_readsMisreading_33 : decode cX6_readsMisreading 33 = .ok (.putfield 112, 3) := by decide +kernel
theorem dX6_readsMisreading_36 : decode cX6_readsMisreading 36 = .ok (.iload_n 1, 1) := by decide +kernel
theorem dX6_readsMisreading_37 : decode cX6_readsMisreading 37 = .ok (.ifCond .le 64, 3) := by decide +kernel
theorem dX6_readsMisreading_40 : decode cX6_readsMisreading 40 = .ok (.aload_n 0, 1) := by decide +kernel
theorem dX6_readsMisreading_41 : decode cX6_readsMisreading 41 = .ok (.bipush 48, 2) := by decide +kernel
theorem dX6_readsMisreading_43 : decode cX6_readsMisreading 43 = .ok (.bipush 57, 2) := by decide +kernel
theorem dX6_readsMisreading_45 : decode cX6_readsMisreading 45 = .ok (.invokevirtual 115, 3) := by decide +kernel
theorem dX6_readsMisreading_48 : decode cX6_readsMisreading 48 = .ok (.ifCond .eq 53, 3) := by decide +kernel
theorem dX6_readsMisreading_51 : decode cX6_readsMisreading 51 = .ok (.bipush 10, 2) := by decide +kernel
theorem dX6_readsMisreading_53 : decode cX6_readsMisreading 53 = .ok (.iload_n 1, 1) := by decide +kernel
theorem dX6_readsMisreading_54 : decode cX6_readsMisreading 54 = .ok (.imul, 1) := by decide +kernel
theorem dX6_readsMisreading_55 : decode cX6_readsMisreading 55 = .ok (.aload_n 0, 1) := by decide +kernel
theorem dX6_readsMisreading_56 : decode cX6_readsMisreading 56 = .ok (.getfield 28, 3) := by decide +kernel
theorem dX6_readsMisreading_59 : decode cX6_readsMisreading 59 = .ok (.aload_n 0, 1) := by decide +kernel
theorem dX6_readsMisreading_60 : decode cX6_readsMisreading 60 = .ok (.getfield 112, 3) := by decide +kernel
theorem dX6_readsMisreading_63 : decode cX6_readsMisreading 63 = .ok (.iaload, 1) := by decide +kernel
theorem dX6_readsMisreading_64 : decode cX6_readsMisreading 64 = .ok (.iadd, 1) := by decide +kernel
theorem dX6_readsMisreading_65 : decode cX6_readsMisreading 65 = .ok (.bipush 48, 2) := by decide +kernel
theorem dX6_readsMisreading_67 : decode cX6_readsMisreading 67 = .ok (.isub, 1) := by decide +kernel
theorem dX6_readsMisreading_68 : decode cX6_readsMisreading 68 = .ok (.bipush 40, 2) := by decide +kernel
theorem dX6_readsMisreading_70 : decode cX6_readsMisreading 70 = .ok (.if_icmp .ge 31, 3) := by decide +kernel
theorem dX6_readsMisreading_73 : decode cX6_readsMisreading 73 = .ok (.bipush 10, 2) := by decide +kernel
theorem dX6_readsMisreading_75 : decode cX6_readsMisreading 75 = .ok (.iload_n 1, 1) := by decide +kernel
theorem dX6_readsMisreading_76 : decode cX6_readsMisreading 76 = .ok (.imul, 1) := by decide +kernel
theorem dX6_readsMisreading_77 : decode cX6_readsMisreading 77 = .ok (.aload_n 0, 1) := by decide +kernel
theorem dX6_readsMisreading_78 : decode cX6_readsMisreading 78 = .ok (.getfield 28, 3) := by decide +kernel
theorem dX6_readsMisreading_81 : decode cX6_readsMisreading 81 = .ok (.aload_n 0, 1) := by decide +kernel
theorem dX6_readsMisreading_82 : decode cX6_readsMisreading 82 = .ok (.getfield 112, 3) := by decide +kernel
theorem dX6_readsMisreading_85 : decode cX6_readsMisreading 85 = .ok (.iaload, 1) := by decide +kernel
theorem dX6_readsMisreading_86 : decode cX6_readsMisreading 86 = .ok (.iadd, 1) := by decide +kernel
theorem dX6_readsMisreading_87 : decode cX6_readsMisreading 87 = .ok (.bipush 48, 2) := by decide +kernel
theorem dX6_readsMisreading_89 : decode cX6_readsMisreading 89 = .ok (.isub, 1) := by decide +kernel
theorem dX6_readsMisreading_90 : decode cX6_readsMisreading 90 = .ok (.istore_n 1, 1) := by decide +kernel
theorem dX6_readsMisreading_91 : decode cX6_readsMisreading 91 = .ok (.aload_n 0, 1) := by decide +kernel
theorem dX6_readsMisreading_92 : decode cX6_readsMisreading 92 = .ok (.dup, 1) := by decide +kernel
theorem dX6_readsMisreading_93 : decode cX6_readsMisreading 93 = .ok (.getfield 112, 3) := by decide +kernel
theorem dX6_readsMisreading_96 : decode cX6_readsMisreading 96 = .ok (.iconst 1, 1) := by decide +kernel
theorem dX6_readsMisreading_97 : decode cX6_readsMisreading 97 = .ok (.iadd, 1) := by decide +kernel
theorem dX6_readsMisreading_98 : decode cX6_readsMisreading 98 = .ok (.putfield 112, 3) := by decide +kernel
theorem dX6_readsMisreading_101 : decode cX6_readsMisreading 101 = .ok (.aload_n 0, 1) := by decide +kernel
theorem dX6_readsMisreading_102 : decode cX6_readsMisreading 102 = .ok (.bipush 97, 2) := by decide +kernel
theorem dX6_readsMisreading_104 : decode cX6_readsMisreading 104 = .ok (.bipush 122, 2) := by decide +kernel
theorem dX6_readsMisreading_106 : decode cX6_readsMisreading 106 = .ok (.invokevirtual 115, 3) := by decide +kernel
theorem dX6_readsMisreading_109 : decode cX6_readsMisreading 109 = .ok (.ifCond .ne 5, 3) := by decide +kernel
theorem dX6_readsMisreading_112 : decode cX6_readsMisreading 112 = .ok (.iconst 0, 1) := by decide +kernel
theorem dX6_readsMisreading_113 : decode cX6_readsMisreading 113 = .ok (.ireturn, 1) := by decide +kernel
theorem dX6_readsMisreading_114 : decode cX6_readsMisreading 114 = .ok (.aload_n 0, 1) := by decide +kernel
theorem dX6_readsMisreading_115 : decode cX6_readsMisreading 115 = .ok (.getfield 25, 3) := by decide +kernel
theorem dX6_readsMisreading_118 : decode cX6_readsMisreading 118 = .ok (.iload_n 1, 1) := by decide +kernel
theorem dX6_readsMisreading_119 : decode cX6_readsMisreading 119 = .ok (.aload_n 0, 1) := by decide +kernel
theorem dX6_readsMisreading_120 : decode cX6_readsMisreading 120 = .ok (.getfield 28, 3) := by decide +kernel
theorem dX6_readsMisreading_123 : decode cX6_readsMisreading 123 = .ok (.aload_n 0, 1) := by decide +kernel
theorem dX6_readsMisreading_124 : decode cX6_readsMisreading 124 = .ok (.getfield 112, 3) := by decide +kernel
theorem dX6_readsMisreading_127 : decode cX6_readsMisreading 127 = .ok (.iaload, 1) := by decide +kernel
theorem dX6_readsMisreading_128 : decode cX6_readsMisreading 128 = .ok (.bipush 97, 2) := by decide +kernel
theorem dX6_readsMisreading_130 : decode cX6_readsMisreading 130 = .ok (.isub, 1) := by decide +kernel
theorem dX6_readsMisreading_131 : decode cX6_readsMisreading 131 = .ok (.iconst 1, 1) := by decide +kernel
theorem dX6_readsMisreading_132 : decode cX6_readsMisreading 132 = .ok (.iadd, 1) := by decide +kernel
theorem dX6_readsMisreading_133 : decode cX6_readsMisreading 133 = .ok (.iastore, 1) := by decide +kernel
theorem dX6_readsMisreading_134 : decode cX6_readsMisreading 134 = .ok (.aload_n 0, 1) := by decide +kernel
theorem dX6_readsMisreading_135 : decode cX6_readsMisreading 135 = .ok (.dup, 1) := by decide +kernel
theorem dX6_readsMisreading_136 : decode cX6_readsMisreading 136 = .ok (.getfield 112, 3) := by decide +kernel
theorem dX6_readsMisreading_139 : decode cX6_readsMisreading 139 = .ok (.iconst 1, 1) := by decide +kernel
theorem dX6_readsMisreading_140 : decode cX6_readsMisreading 140 = .ok (.iadd, 1) := by decide +kernel
theorem dX6_readsMisreading_141 : decode cX6_readsMisreading 141 = .ok (.putfield 112, 3) := by decide +kernel
theorem dX6_readsMisreading_144 : decode cX6_readsMisreading 144 = .ok (.aload_n 0, 1) := by decide +kernel
theorem dX6_readsMisreading_145 : decode cX6_readsMisreading 145 = .ok (.iload_n 1, 1) := by decide +kernel
theorem dX6_readsMisreading_146 : decode cX6_readsMisreading 146 = .ok (.aload_n 0, 1) := by decide +kernel
theorem dX6_readsMisreading_147 : decode cX6_readsMisreading 147 = .ok (.getfield 66, 3) := by decide +kernel
theorem dX6_readsMisreading_150 : decode cX6_readsMisreading 150 = .ok (.if_icmp .le 7, 3) := by decide +kernel
theorem dX6_readsMisreading_153 : decode cX6_readsMisreading 153 = .ok (.iload_n 1, 1) := by decide +kernel
theorem dX6_readsMisreading_154 : decode cX6_readsMisreading 154 = .ok (.goto 7, 3) := by decide +kernel
theorem dX6_readsMisreading_157 : decode cX6_readsMisreading 157 = .ok (.aload_n 0, 1) := by decide +kernel
theorem dX6_readsMisreading_158 : decode cX6_readsMisreading 158 = .ok (.getfield 66, 3) := by decide +kernel
theorem dX6_readsMisreading_161 : decode cX6_readsMisreading 161 = .ok (.putfield 66, 3) := by decide +kernel
theorem dX6_readsMisreading_164 : decode cX6_readsMisreading 164 = .ok (.iconst 1, 1) := by decide +kernel
theorem dX6_readsMisreading_165 : decode cX6_readsMisreading 165 = .ok (.ireturn, 1) := by decide +kernel
theorem dX6_fault_0 : decode cX6_fault 0 = .ok (.aload_n 0, 1) := by decide +kernel
theorem dX6_fault_1 : decode cX6_fault 1 = .ok (.iconst 0, 1) := by decide +kernel
theorem dX6_fault_2 : decode cX6_fault 2 = .ok (.putfield 112, 3) := by decide +kernel
theorem dX6_fault_5 : decode cX6_fault 5 = .ok (.aload_n 0, 1) := by decide +kernel
theorem dX6_fault_6 : decode cX6_fault 6 = .ok (.iconst (-1), 1) := by decide +kernel
theorem dX6_fault_7 : decode cX6_fault 7 = .ok (.putfield 66, 3) := by decide +kernel
theorem dX6_fault_10 : decode cX6_fault 10 = .ok (.iconst 0, 1) := by decide +kernel
theorem dX6_fault_11 : decode cX6_fault 11 = .ok (.istore_n 1, 1) := by decide +kernel
theorem dX6_fault_12 : decode cX6_fault 12 = .ok (.iload_n 1, 1) := by decide +kernel
theorem dX6_fault_13 : decode cX6_fault 13 = .ok (.bipush 40, 2) := by decide +kernel
theorem dX6_fault_15 : decode cX6_fault 15 = .ok (.if_icmp .ge 16, 3) := by decide +kernel
theorem dX6_fault_18 : decode cX6_fault 18 = .ok (.aload_n 0, 1) := by decide +kernel
theorem dX6_fault_19 : decode cX6_fault 19 = .ok (.getfield 25, 3) := by decide +kernel
theorem dX6_fault_22 : decode cX6_fault 22 = .ok (.iload_n 1, 1) := by decide +kernel
theorem dX6_fault_23 : decode cX6_fault 23 = .ok (.iconst 0, 1) := by decide +kernel
theorem dX6_fault_24 : decode cX6_fault 24 = .ok (.iastore, 1) := by decide +kernel
theorem dX6_fault_25 : decode cX6_fault 25 = .ok (.iinc 1 1, 3) := by decide +kernel
theorem dX6_fault_28 : decode cX6_fault 28 = .ok (.goto (-16), 3) := by decide +kernel
theorem dX6_fault_31 : decode cX6_fault 31 = .ok (.aload_n 0, 1) := by decide +kernel
theorem dX6_fault_32 : decode cX6_fault 32 = .ok (.getfield 112, 3) := by decide +kernel
theorem dX6_fault_35 : decode cX6_fault 35 = .ok (.bipush 20, 2) := by decide +kernel
theorem dX6_fault_37 : decode cX6_fault 37 = .ok (.if_icmp .ge 27, 3) := by decide +kernel
theorem dX6_fault_40 : decode cX6_fault 40 = .ok (.aload_n 0, 1) := by decide +kernel
theorem dX6_fault_41 : decode cX6_fault 41 = .ok (.bipush 97, 2) := by decide +kernel
theorem dX6_fault_43 : decode cX6_fault 43 = .ok (.bipush 122, 2) := by decide +kernel
theorem dX6_fault_45 : decode cX6_fault 45 = .ok (.invokevirtual 115, 3) := by decide +kernel
theorem dX6_fault_48 : decode cX6_fault 48 = .ok (.ifCond .eq 16, 3) := by decide +kernel
theorem dX6_fault_51 : decode cX6_fault 51 = .ok (.aload_n 0, 1) := by decide +kernel
theorem dX6_fault_52 : decode cX6_fault 52 = .ok (.dup, 1) := by decide +kernel
theorem dX6_fault_53 : decode cX6_fault 53 = .ok (.getfield 112, 3) := by decide +kernel
theorem dX6_fault_56 : decode cX6_fault 56 = .ok (.iconst 1, 1) := by decide +kernel
theorem dX6_fault_57 : decode cX6_fault 57 = .ok (.iadd, 1) := by decide +kernel
theorem dX6_fault_58 : decode cX6_fault 58 = .ok (.putfield 112, 3) := by decide +kernel
theorem dX6_fault_61 : decode cX6_fault 61 = .ok (.goto (-30), 3) := by decide +kernel
theorem dX6_fault_64 : decode cX6_fault 64 = .ok (.aload_n 0, 1) := by decide +kernel
theorem dX6_fault_65 : decode cX6_fault 65 = .ok (.aload_n 0, 1) := by decide +kernel
theorem dX6_fault_66 : decode cX6_fault 66 = .ok (.getfield 112, 3) := by decide +kernel
theorem dX6_fault_69 : decode cX6_fault 69 = .ok (.putfield 69, 3) := by decide +kernel
theorem dX6_fault_72 : decode cX6_fault 72 = .ok (.aload_n 0, 1) := by decide +kernel
theorem dX6_fault_73 : decode cX6_fault 73 = .ok (.getfield 69, 3) := by decide +kernel
theorem dX6_fault_76 : decode cX6_fault 76 = .ok (.ifCond .le 16, 3) := by decide +kernel
theorem dX6_fault_79 : decode cX6_fault 79 = .ok (.aload_n 0, 1) := by decide +kernel
theorem dX6_fault_80 : decode cX6_fault 80 = .ok (.bipush 33, 2) := by decide +kernel
theorem dX6_fault_82 : decode cX6_fault 82 = .ok (.invokevirtual 119, 3) := by decide +kernel
theorem dX6_fault_85 : decode cX6_fault 85 = .ok (.ifCond .eq 7, 3) := by decide +kernel
theorem dX6_fault_88 : decode cX6_fault 88 = .ok (.iconst 1, 1) := by decide +kernel
theorem dX6_fault_89 : decode cX6_fault 89 = .ok (.goto 4, 3) := by decide +kernel
theorem dX6_fault_92 : decode cX6_fault 92 = .ok (.iconst 0, 1) := by decide +kernel
theorem dX6_fault_93 : decode cX6_fault 93 = .ok (.istore_n 1, 1) := by decide +kernel
theorem dX6_fault_94 : decode cX6_fault 94 = .ok (.iload_n 1, 1) := by decide +kernel
theorem dX6_fault_95 : decode cX6_fault 95 = .ok (.ifCond .eq 25, 3) := by decide +kernel
theorem dX6_fault_98 : decode cX6_fault 98 = .ok (.aload_n 0, 1) := by decide +kernel
theorem dX6_fault_99 : decode cX6_fault 99 = .ok (.invokevirtual 122, 3) := by decide +kernel
theorem dX6_fault_102 : decode cX6_fault 102 = .ok (.ifCond .ne 8, 3) := by decide +kernel
theorem dX6_fault_105 : decode cX6_fault 105 = .ok (.aload_n 0, 1) := by decide +kernel
theorem dX6_fault_106 : decode cX6_fault 106 = .ok (.getfield 112, 3) := by decide +kernel
theorem dX6_fault_109 : decode cX6_fault 109 = .ok (.ireturn, 1) := by decide +kernel
theorem dX6_fault_110 : decode cX6_fault 110 = .ok (.aload_n 0, 1) := by decide +kernel
theorem dX6_fault_111 : decode cX6_fault 111 = .ok (.bipush 44, 2) := by decide +kernel
theorem dX6_fault_113 : decode cX6_fault 113 = .ok (.invokevirtual 119, 3) := by decide +kernel
theorem dX6_fault_116 : decode cX6_fault 116 = .ok (.istore_n 1, 1) := by decide +kernel
theorem dX6_fault_117 : decode cX6_fault 117 = .ok (.goto (-23), 3) := by decide +kernel
theorem dX6_fault_120 : decode cX6_fault 120 = .ok (.aload_n 0, 1) := by decide +kernel
theorem dX6_fault_121 : decode cX6_fault 121 = .ok (.getfield 112, 3) := by decide +kernel
theorem dX6_fault_124 : decode cX6_fault 124 = .ok (.aload_n 0, 1) := by decide +kernel
theorem dX6_fault_125 : decode cX6_fault 125 = .ok (.getfield 109, 3) := by decide +kernel
theorem dX6_fault_128 : decode cX6_fault 128 = .ok (.if_icmp .ne 15, 3) := by decide +kernel
theorem dX6_fault_131 : decode cX6_fault 131 = .ok (.aload_n 0, 1) := by decide +kernel
theorem dX6_fault_132 : decode cX6_fault 132 = .ok (.getfield 69, 3) := by decide +kernel
theorem dX6_fault_135 : decode cX6_fault 135 = .ok (.ifCond .le 8, 3) := by decide +kernel
theorem dX6_fault_138 : decode cX6_fault 138 = .ok (.bipush (-5), 2) := by decide +kernel
theorem dX6_fault_140 : decode cX6_fault 140 = .ok (.goto 7, 3) := by decide +kernel
theorem dX6_fault_143 : decode cX6_fault 143 = .ok (.aload_n 0, 1) := by decide +kernel
theorem dX6_fault_144 : decode cX6_fault 144 = .ok (.getfield 112, 3) := by decide +kernel
theorem dX6_fault_147 : decode cX6_fault 147 = .ok (.ireturn, 1) := by decide +kernel
theorem dX6_undo_0 : decode cX6_undo 0 = .ok (.aload_n 0, 1) := by decide +kernel
theorem dX6_undo_1 : decode cX6_undo 1 = .ok (.getfield 31, 3) := by decide +kernel
theorem dX6_undo_4 : decode cX6_undo 4 = .ok (.ifCond .ne 6, 3) := by decide +kernel
theorem dX6_undo_7 : decode cX6_undo 7 = .ok (.bipush (-5), 2) := by decide +kernel
theorem dX6_undo_9 : decode cX6_undo 9 = .ok (.ireturn, 1) := by decide +kernel
theorem dX6_undo_10 : decode cX6_undo 10 = .ok (.aload_n 0, 1) := by decide +kernel
theorem dX6_undo_11 : decode cX6_undo 11 = .ok (.dup, 1) := by decide +kernel
theorem dX6_undo_12 : decode cX6_undo 12 = .ok (.getfield 31, 3) := by decide +kernel
theorem dX6_undo_15 : decode cX6_undo 15 = .ok (.iconst 1, 1) := by decide +kernel
theorem dX6_undo_16 : decode cX6_undo 16 = .ok (.isub, 1) := by decide +kernel
theorem dX6_undo_17 : decode cX6_undo 17 = .ok (.putfield 31, 3) := by decide +kernel
theorem dX6_undo_20 : decode cX6_undo 20 = .ok (.iconst 0, 1) := by decide +kernel
theorem dX6_undo_21 : decode cX6_undo 21 = .ok (.istore_n 1, 1) := by decide +kernel
theorem dX6_undo_22 : decode cX6_undo 22 = .ok (.iload_n 1, 1) := by decide +kernel
theorem dX6_undo_23 : decode cX6_undo 23 = .ok (.sipush 246, 3) := by decide +kernel
theorem dX6_undo_26 : decode cX6_undo 26 = .ok (.if_icmp .ge 30, 3) := by decide +kernel
theorem dX6_undo_29 : decode cX6_undo 29 = .ok (.aload_n 0, 1) := by decide +kernel
theorem dX6_undo_30 : decode cX6_undo 30 = .ok (.getfield 7, 3) := by decide +kernel
theorem dX6_undo_33 : decode cX6_undo 33 = .ok (.iload_n 1, 1) := by decide +kernel
theorem dX6_undo_34 : decode cX6_undo 34 = .ok (.aload_n 0, 1) := by decide +kernel
theorem dX6_undo_35 : decode cX6_undo 35 = .ok (.getfield 19, 3) := by decide +kernel
theorem dX6_undo_38 : decode cX6_undo 38 = .ok (.sipush 246, 3) := by decide +kernel
theorem dX6_undo_41 : decode cX6_undo 41 = .ok (.aload_n 0, 1) := by decide +kernel
theorem dX6_undo_42 : decode cX6_undo 42 = .ok (.getfield 31, 3) := by decide +kernel
theorem dX6_undo_45 : decode cX6_undo 45 = .ok (.imul, 1) := by decide +kernel
theorem dX6_undo_46 : decode cX6_undo 46 = .ok (.iload_n 1, 1) := by decide +kernel
theorem dX6_undo_47 : decode cX6_undo 47 = .ok (.iadd, 1) := by decide +kernel
theorem dX6_undo_48 : decode cX6_undo 48 = .ok (.iaload, 1) := by decide +kernel
theorem dX6_undo_49 : decode cX6_undo 49 = .ok (.iastore, 1) := by decide +kernel
theorem dX6_undo_50 : decode cX6_undo 50 = .ok (.iinc 1 1, 3) := by decide +kernel
theorem dX6_undo_53 : decode cX6_undo 53 = .ok (.goto (-31), 3) := by decide +kernel
theorem dX6_undo_56 : decode cX6_undo 56 = .ok (.aload_n 0, 1) := by decide +kernel
theorem dX6_undo_57 : decode cX6_undo 57 = .ok (.getfield 31, 3) := by decide +kernel
theorem dX6_undo_60 : decode cX6_undo 60 = .ok (.ireturn, 1) := by decide +kernel
theorem dX6_keep_0 : decode cX6_keep 0 = .ok (.iconst 0, 1) := by decide +kernel
theorem dX6_keep_1 : decode cX6_keep 1 = .ok (.istore_n 1, 1) := by decide +kernel
theorem dX6_keep_2 : decode cX6_keep 2 = .ok (.iload_n 1, 1) := by decide +kernel
theorem dX6_keep_3 : decode cX6_keep 3 = .ok (.sipush 246, 3) := by decide +kernel
theorem dX6_keep_6 : decode cX6_keep 6 = .ok (.if_icmp .ge 21, 3) := by decide +kernel
theorem dX6_keep_9 : decode cX6_keep 9 = .ok (.aload_n 0, 1) := by decide +kernel
theorem dX6_keep_10 : decode cX6_keep 10 = .ok (.getfield 22, 3) := by decide +kernel
theorem dX6_keep_13 : decode cX6_keep 13 = .ok (.iload_n 1, 1) := by decide +kernel
theorem dX6_keep_14 : decode cX6_keep 14 = .ok (.aload_n 0, 1) := by decide +kernel
theorem dX6_keep_15 : decode cX6_keep 15 = .ok (.getfield 7, 3) := by decide +kernel
theorem dX6_keep_18 : decode cX6_keep 18 = .ok (.iload_n 1, 1) := by decide +kernel
theorem dX6_keep_19 : decode cX6_keep 19 = .ok (.iaload, 1) := by decide +kernel
theorem dX6_keep_20 : decode cX6_keep 20 = .ok (.iastore, 1) := by decide +kernel
theorem dX6_keep_21 : decode cX6_keep 21 = .ok (.iinc 1 1, 3) := by decide +kernel
theorem dX6_keep_24 : decode cX6_keep 24 = .ok (.goto (-22), 3) := by decide +kernel
theorem dX6_keep_27 : decode cX6_keep 27 = .ok (.aload_n 0, 1) := by decide +kernel
theorem dX6_keep_28 : decode cX6_keep 28 = .ok (.iconst 1, 1) := by decide +kernel
theorem dX6_keep_29 : decode cX6_keep 29 = .ok (.putfield 126, 3) := by decide +kernel
theorem dX6_keep_32 : decode cX6_keep 32 = .ok (.aload_n 0, 1) := by decide +kernel
theorem dX6_keep_33 : decode cX6_keep 33 = .ok (.getfield 7, 3) := by decide +kernel
theorem dX6_keep_36 : decode cX6_keep 36 = .ok (.iconst 3, 1) := by decide +kernel
theorem dX6_keep_37 : decode cX6_keep 37 = .ok (.iaload, 1) := by decide +kernel
theorem dX6_keep_38 : decode cX6_keep 38 = .ok (.ireturn, 1) := by decide +kernel
theorem dX6_restore_0 : decode cX6_restore 0 = .ok (.aload_n 0, 1) := by decide +kernel
theorem dX6_restore_1 : decode cX6_restore 1 = .ok (.getfield 126, 3) := by decide +kernel
theorem dX6_restore_4 : decode cX6_restore 4 = .ok (.ifCond .ne 6, 3) := by decide +kernel
theorem dX6_restore_7 : decode cX6_restore 7 = .ok (.bipush (-5), 2) := by decide +kernel
theorem dX6_restore_9 : decode cX6_restore 9 = .ok (.ireturn, 1) := by decide +kernel
theorem dX6_restore_10 : decode cX6_restore 10 = .ok (.aload_n 0, 1) := by decide +kernel
theorem dX6_restore_11 : decode cX6_restore 11 = .ok (.invokevirtual 72, 3) := by decide +kernel
theorem dX6_restore_14 : decode cX6_restore 14 = .ok (.iconst 0, 1) := by decide +kernel
theorem dX6_restore_15 : decode cX6_restore 15 = .ok (.istore_n 1, 1) := by decide +kernel
theorem dX6_restore_16 : decode cX6_restore 16 = .ok (.iload_n 1, 1) := by decide +kernel
theorem dX6_restore_17 : decode cX6_restore 17 = .ok (.sipush 246, 3) := by decide +kernel
theorem dX6_restore_20 : decode cX6_restore 20 = .ok (.if_icmp .ge 21, 3) := by decide +kernel
theorem dX6_restore_23 : decode cX6_restore 23 = .ok (.aload_n 0, 1) := by decide +kernel
theorem dX6_restore_24 : decode cX6_restore 24 = .ok (.getfield 7, 3) := by decide +kernel
theorem dX6_restore_27 : decode cX6_restore 27 = .ok (.iload_n 1, 1) := by decide +kernel
theorem dX6_restore_28 : decode cX6_restore 28 = .ok (.aload_n 0, 1) := by decide +kernel
theorem dX6_restore_29 : decode cX6_restore 29 = .ok (.getfield 22, 3) := by decide +kernel
theorem dX6_restore_32 : decode cX6_restore 32 = .ok (.iload_n 1, 1) := by decide +kernel
theorem dX6_restore_33 : decode cX6_restore 33 = .ok (.iaload, 1) := by decide +kernel
theorem dX6_restore_34 : decode cX6_restore 34 = .ok (.iastore, 1) := by decide +kernel
theorem dX6_restore_35 : decode cX6_restore 35 = .ok (.iinc 1 1, 3) := by decide +kernel
theorem dX6_restore_38 : decode cX6_restore 38 = .ok (.goto (-22), 3) := by decide +kernel
theorem dX6_restore_41 : decode cX6_restore 41 = .ok (.aload_n 0, 1) := by decide +kernel
theorem dX6_restore_42 : decode cX6_restore 42 = .ok (.aload_n 0, 1) := by decide +kernel
theorem dX6_restore_43 : decode cX6_restore 43 = .ok (.getfield 7, 3) := by decide +kernel
theorem dX6_restore_46 : decode cX6_restore 46 = .ok (.iconst 3, 1) := by decide +kernel
theorem dX6_restore_47 : decode cX6_restore 47 = .ok (.iaload, 1) := by decide +kernel
theorem dX6_restore_48 : decode cX6_restore 48 = .ok (.invokevirtual 75, 3) := by decide +kernel
theorem dX6_restore_51 : decode cX6_restore 51 = .ok (.ireturn, 1) := by decide +kernel
theorem dX6_place_0 : decode cX6_place 0 = .ok (.aload_n 0, 1) := by decide +kernel
theorem dX6_place_1 : decode cX6_place 1 = .ok (.iload_n 1, 1) := by decide +kernel
theorem dX6_place_2 : decode cX6_place 2 = .ok (.invokevirtual 78, 3) := by decide +kernel
theorem dX6_place_5 : decode cX6_place 5 = .ok (.ifCond .ne 5, 3) := by decide +kernel
theorem dX6_place_8 : decode cX6_place 8 = .ok (.iconst (-1), 1) := by decide +kernel
theorem dX6_place_9 : decode cX6_place 9 = .ok (.ireturn, 1) := by decide +kernel
theorem dX6_place_10 : decode cX6_place 10 = .ok (.iload_n 2, 1) := by decide +kernel
theorem dX6_place_11 : decode cX6_place 11 = .ok (.tableswitch 128 0 6 #[41, 47, 57, 67, 78, 88, 99], 41) := by decide +kernel
theorem dX6_place_52 : decode cX6_place 52 = .ok (.aload_n 0, 1) := by decide +kernel
theorem dX6_place_53 : decode cX6_place 53 = .ok (.iload_n 1, 1) := by decide +kernel
theorem dX6_place_54 : decode cX6_place 54 = .ok (.invokevirtual 39, 3) := by decide +kernel
theorem dX6_place_57 : decode cX6_place 57 = .ok (.ireturn, 1) := by decide +kernel
theorem dX6_place_58 : decode cX6_place 58 = .ok (.aload_n 0, 1) := by decide +kernel
theorem dX6_place_59 : decode cX6_place 59 = .ok (.getfield 7, 3) := by decide +kernel
theorem dX6_place_62 : decode cX6_place 62 = .ok (.bipush 86, 2) := by decide +kernel
theorem dX6_place_64 : decode cX6_place 64 = .ok (.iload_n 1, 1) := by decide +kernel
theorem dX6_place_65 : decode cX6_place 65 = .ok (.iadd, 1) := by decide +kernel
theorem dX6_place_66 : decode cX6_place 66 = .ok (.iaload, 1) := by decide +kernel
theorem dX6_place_67 : decode cX6_place 67 = .ok (.ireturn, 1) := by decide +kernel
theorem dX6_place_68 : decode cX6_place 68 = .ok (.aload_n 0, 1) := by decide +kernel
theorem dX6_place_69 : decode cX6_place 69 = .ok (.getfield 7, 3) := by decide +kernel
theorem dX6_place_72 : decode cX6_place 72 = .ok (.bipush 126, 2) := by decide +kernel
theorem dX6_place_74 : decode cX6_place 74 = .ok (.iload_n 1, 1) := by decide +kernel
theorem dX6_place_75 : decode cX6_place 75 = .ok (.iadd, 1) := by decide +kernel
theorem dX6_place_76 : decode cX6_place 76 = .ok (.iaload, 1) := by decide +kernel
theorem dX6_place_77 : decode cX6_place 77 = .ok (.ireturn, 1) := by decide +kernel
theorem dX6_place_78 : decode cX6_place 78 = .ok (.aload_n 0, 1) := by decide +kernel
theorem dX6_place_79 : decode cX6_place 79 = .ok (.getfield 7, 3) := by decide +kernel
theorem dX6_place_82 : decode cX6_place 82 = .ok (.sipush 166, 3) := by decide +kernel
theorem dX6_place_85 : decode cX6_place 85 = .ok (.iload_n 1, 1) := by decide +kernel
theorem dX6_place_86 : decode cX6_place 86 = .ok (.iadd, 1) := by decide +kernel
theorem dX6_place_87 : decode cX6_place 87 = .ok (.iaload, 1) := by decide +kernel
theorem dX6_place_88 : decode cX6_place 88 = .ok (.ireturn, 1) := by decide +kernel
theorem dX6_place_89 : decode cX6_place 89 = .ok (.aload_n 0, 1) := by decide +kernel
theorem dX6_place_90 : decode cX6_place 90 = .ok (.getfield 7, 3) := by decide +kernel
theorem dX6_place_93 : decode cX6_place 93 = .ok (.bipush 46, 2) := by decide +kernel
theorem dX6_place_95 : decode cX6_place 95 = .ok (.iload_n 1, 1) := by decide +kernel
theorem dX6_place_96 : decode cX6_place 96 = .ok (.iadd, 1) := by decide +kernel
theorem dX6_place_97 : decode cX6_place 97 = .ok (.iaload, 1) := by decide +kernel
theorem dX6_place_98 : decode cX6_place 98 = .ok (.ireturn, 1) := by decide +kernel
theorem dX6_place_99 : decode cX6_place 99 = .ok (.aload_n 0, 1) := by decide +kernel
theorem dX6_place_100 : decode cX6_place 100 = .ok (.getfield 7, 3) := by decide +kernel
theorem dX6_place_103 : decode cX6_place 103 = .ok (.iconst 4, 1) := by decide +kernel
theorem dX6_place_104 : decode cX6_place 104 = .ok (.iaload, 1) := by decide +kernel
theorem dX6_place_105 : decode cX6_place 105 = .ok (.iconst 1, 1) := by decide +kernel
theorem dX6_place_106 : decode cX6_place 106 = .ok (.isub, 1) := by decide +kernel
theorem dX6_place_107 : decode cX6_place 107 = .ok (.iload_n 1, 1) := by decide +kernel
theorem dX6_place_108 : decode cX6_place 108 = .ok (.isub, 1) := by decide +kernel
theorem dX6_place_109 : decode cX6_place 109 = .ok (.ireturn, 1) := by decide +kernel
theorem dX6_place_110 : decode cX6_place 110 = .ok (.aload_n 0, 1) := by decide +kernel
theorem dX6_place_111 : decode cX6_place 111 = .ok (.getfield 7, 3) := by decide +kernel
theorem dX6_place_114 : decode cX6_place 114 = .ok (.sipush 206, 3) := by decide +kernel
theorem dX6_place_117 : decode cX6_place 117 = .ok (.iload_n 1, 1) := by decide +kernel
theorem dX6_place_118 : decode cX6_place 118 = .ok (.iadd, 1) := by decide +kernel
theorem dX6_place_119 : decode cX6_place 119 = .ok (.iaload, 1) := by decide +kernel
theorem dX6_place_120 : decode cX6_place 120 = .ok (.ifCond .ne 8, 3) := by decide +kernel
theorem dX6_place_123 : decode cX6_place 123 = .ok (.bipush (-5), 2) := by decide +kernel
theorem dX6_place_125 : decode cX6_place 125 = .ok (.goto 13, 3) := by decide +kernel
theorem dX6_place_128 : decode cX6_place 128 = .ok (.aload_n 0, 1) := by decide +kernel
theorem dX6_place_129 : decode cX6_place 129 = .ok (.getfield 7, 3) := by decide +kernel
theorem dX6_place_132 : decode cX6_place 132 = .ok (.sipush 206, 3) := by decide +kernel
theorem dX6_place_135 : decode cX6_place 135 = .ok (.iload_n 1, 1) := by decide +kernel
theorem dX6_place_136 : decode cX6_place 136 = .ok (.iadd, 1) := by decide +kernel
theorem dX6_place_137 : decode cX6_place 137 = .ok (.iaload, 1) := by decide +kernel
theorem dX6_place_138 : decode cX6_place 138 = .ok (.ireturn, 1) := by decide +kernel
theorem dX6_place_139 : decode cX6_place 139 = .ok (.bipush (-2), 2) := by decide +kernel
theorem dX6_place_141 : decode cX6_place 141 = .ok (.ireturn, 1) := by decide +kernel
theorem dX6_scribe_0 : decode cX6_scribe 0 = .ok (.iload_n 1, 1) := by decide +kernel
theorem dX6_scribe_1 : decode cX6_scribe 1 = .ok (.invokestatic 90, 3) := by decide +kernel
theorem dX6_scribe_4 : decode cX6_scribe 4 = .ok (.ifCond .ne 5, 3) := by decide +kernel
theorem dX6_scribe_7 : decode cX6_scribe 7 = .ok (.iconst (-1), 1) := by decide +kernel
theorem dX6_scribe_8 : decode cX6_scribe 8 = .ok (.ireturn, 1) := by decide +kernel
theorem dX6_scribe_9 : decode cX6_scribe 9 = .ok (.iload_n 2, 1) := by decide +kernel
theorem dX6_scribe_10 : decode cX6_scribe 10 = .ok (.iconst 2, 1) := by decide +kernel
theorem dX6_scribe_11 : decode cX6_scribe 11 = .ok (.if_icmp .ne 9, 3) := by decide +kernel
theorem dX6_scribe_14 : decode cX6_scribe 14 = .ok (.aload_n 0, 1) := by decide +kernel
theorem dX6_scribe_15 : decode cX6_scribe 15 = .ok (.iload_n 1, 1) := by decide +kernel
theorem dX6_scribe_16 : decode cX6_scribe 16 = .ok (.invokevirtual 43, 3) := by decide +kernel
theorem dX6_scribe_19 : decode cX6_scribe 19 = .ok (.ireturn, 1) := by decide +kernel
theorem dX6_scribe_20 : decode cX6_scribe 20 = .ok (.iload_n 2, 1) := by decide +kernel
theorem dX6_scribe_21 : decode cX6_scribe 21 = .ok (.i2l, 1) := by decide +kernel
theorem dX6_scribe_22 : decode cX6_scribe 22 = .ok (.lconst 0, 1) := by decide +kernel
theorem dX6_scribe_23 : decode cX6_scribe 23 = .ok (.ldc2_w 129, 3) := by decide +kernel
theorem dX6_scribe_26 : decode cX6_scribe 26 = .ok (.invokestatic 35, 3) := by decide +kernel
theorem dX6_scribe_29 : decode cX6_scribe 29 = .ok (.ifCond .ne 6, 3) := by decide +kernel
theorem dX6_scribe_32 : decode cX6_scribe 32 = .ok (.bipush (-2), 2) := by decide +kernel
theorem dX6_scribe_34 : decode cX6_scribe 34 = .ok (.ireturn, 1) := by decide +kernel
theorem dX6_scribe_35 : decode cX6_scribe 35 = .ok (.aload_n 0, 1) := by decide +kernel
theorem dX6_scribe_36 : decode cX6_scribe 36 = .ok (.getfield 7, 3) := by decide +kernel
theorem dX6_scribe_39 : decode cX6_scribe 39 = .ok (.bipush 12, 2) := by decide +kernel
theorem dX6_scribe_41 : decode cX6_scribe 41 = .ok (.iconst 2, 1) := by decide +kernel
theorem dX6_scribe_42 : decode cX6_scribe 42 = .ok (.iload_n 2, 1) := by decide +kernel
theorem dX6_scribe_43 : decode cX6_scribe 43 = .ok (.iconst 2, 1) := by decide +kernel
theorem dX6_scribe_44 : decode cX6_scribe 44 = .ok (.if_icmp .ge 7, 3) := by decide +kernel
theorem dX6_scribe_47 : decode cX6_scribe 47 = .ok (.iload_n 2, 1) := by decide +kernel
theorem dX6_scribe_48 : decode cX6_scribe 48 = .ok (.goto 6, 3) := by decide +kernel
theorem dX6_scribe_51 : decode cX6_scribe 51 = .ok (.iload_n 2, 1) := by decide +kernel
theorem dX6_scribe_52 : decode cX6_scribe 52 = .ok (.iconst 1, 1) := by decide +kernel
theorem dX6_scribe_53 : decode cX6_scribe 53 = .ok (.isub, 1) := by decide +kernel
theorem dX6_scribe_54 : decode cX6_scribe 54 = .ok (.imul, 1) := by decide +kernel
theorem dX6_scribe_55 : decode cX6_scribe 55 = .ok (.iadd, 1) := by decide +kernel
theorem dX6_scribe_56 : decode cX6_scribe 56 = .ok (.iload_n 1, 1) := by decide +kernel
theorem dX6_scribe_57 : decode cX6_scribe 57 = .ok (.iadd, 1) := by decide +kernel
theorem dX6_scribe_58 : decode cX6_scribe 58 = .ok (.iaload, 1) := by decide +kernel
theorem dX6_scribe_59 : decode cX6_scribe 59 = .ok (.ireturn, 1) := by decide +kernel
theorem dX6_ink_0 : decode cX6_ink 0 = .ok (.iload_n 1, 1) := by decide +kernel
theorem dX6_ink_1 : decode cX6_ink 1 = .ok (.tableswitch 67 0 4 #[35, 35, 50, 50, 50], 35) := by decide +kernel
theorem dX6_ink_36 : decode cX6_ink 36 = .ok (.aload_n 0, 1) := by decide +kernel
theorem dX6_ink_37 : decode cX6_ink 37 = .ok (.getfield 7, 3) := by decide +kernel
theorem dX6_ink_40 : decode cX6_ink 40 = .ok (.bipush 24, 2) := by decide +kernel
theorem dX6_ink_42 : decode cX6_ink 42 = .ok (.iload_n 1, 1) := by decide +kernel
theorem dX6_ink_43 : decode cX6_ink 43 = .ok (.iadd, 1) := by decide +kernel
theorem dX6_ink_44 : decode cX6_ink 44 = .ok (.iaload, 1) := by decide +kernel
theorem dX6_ink_45 : decode cX6_ink 45 = .ok (.i2d, 1) := by decide +kernel
theorem dX6_ink_46 : decode cX6_ink 46 = .ok (.ldc2_w 131, 3) := by decide +kernel
theorem dX6_ink_49 : decode cX6_ink 49 = .ok (.ddiv, 1) := by decide +kernel
theorem dX6_ink_50 : decode cX6_ink 50 = .ok (.dreturn, 1) := by decide +kernel
theorem dX6_ink_51 : decode cX6_ink 51 = .ok (.aload_n 0, 1) := by decide +kernel
theorem dX6_ink_52 : decode cX6_ink 52 = .ok (.getfield 7, 3) := by decide +kernel
theorem dX6_ink_55 : decode cX6_ink 55 = .ok (.bipush 6, 2) := by decide +kernel
theorem dX6_ink_57 : decode cX6_ink 57 = .ok (.iload_n 1, 1) := by decide +kernel
theorem dX6_ink_58 : decode cX6_ink 58 = .ok (.iadd, 1) := by decide +kernel
theorem dX6_ink_59 : decode cX6_ink 59 = .ok (.iconst 2, 1) := by decide +kernel
theorem dX6_ink_60 : decode cX6_ink 60 = .ok (.isub, 1) := by decide +kernel
theorem dX6_ink_61 : decode cX6_ink 61 = .ok (.iaload, 1) := by decide +kernel
theorem dX6_ink_62 : decode cX6_ink 62 = .ok (.i2d, 1) := by decide +kernel
theorem dX6_ink_63 : decode cX6_ink 63 = .ok (.ldc2_w 131, 3) := by decide +kernel
theorem dX6_ink_66 : decode cX6_ink 66 = .ok (.ddiv, 1) := by decide +kernel
theorem dX6_ink_67 : decode cX6_ink 67 = .ok (.dreturn, 1) := by decide +kernel
theorem dX6_ink_68 : decode cX6_ink 68 = .ok (.ldc2_w 133, 3) := by decide +kernel
theorem dX6_ink_71 : decode cX6_ink 71 = .ok (.dreturn, 1) := by decide +kernel
theorem dX6_next_0 : decode cX6_next 0 = .ok (.iload_n 1, 1) := by decide +kernel
theorem dX6_next_1 : decode cX6_next 1 = .ok (.invokestatic 90, 3) := by decide +kernel
theorem dX6_next_4 : decode cX6_next 4 = .ok (.ifCond .ne 5, 3) := by decide +kernel
theorem dX6_next_7 : decode cX6_next 7 = .ok (.iconst (-1), 1) := by decide +kernel
theorem dX6_next_8 : decode cX6_next 8 = .ok (.ireturn, 1) := by decide +kernel
theorem dX6_next_9 : decode cX6_next 9 = .ok (.iload_n 1, 1) := by decide +kernel
theorem dX6_next_10 : decode cX6_next 10 = .ok (.ifCond .ne 9, 3) := by decide +kernel
theorem dX6_next_13 : decode cX6_next 13 = .ok (.aload_n 0, 1) := by decide +kernel
theorem dX6_next_14 : decode cX6_next 14 = .ok (.iconst 0, 1) := by decide +kernel
theorem dX6_next_15 : decode cX6_next 15 = .ok (.invokevirtual 49, 3) := by decide +kernel
theorem dX6_next_18 : decode cX6_next 18 = .ok (.ireturn, 1) := by decide +kernel
theorem dX6_next_19 : decode cX6_next 19 = .ok (.aload_n 0, 1) := by decide +kernel
theorem dX6_next_20 : decode cX6_next 20 = .ok (.invokevirtual 135, 3) := by decide +kernel
theorem dX6_next_23 : decode cX6_next 23 = .ok (.aload_n 0, 1) := by decide +kernel
theorem dX6_next_24 : decode cX6_next 24 = .ok (.iconst 0, 1) := by decide +kernel
theorem dX6_next_25 : decode cX6_next 25 = .ok (.invokevirtual 59, 3) := by decide +kernel
theorem dX6_next_28 : decode cX6_next 28 = .ok (.aload_n 0, 1) := by decide +kernel
theorem dX6_next_29 : decode cX6_next 29 = .ok (.iconst 1, 1) := by decide +kernel
theorem dX6_next_30 : decode cX6_next 30 = .ok (.invokevirtual 49, 3) := by decide +kernel
theorem dX6_next_33 : decode cX6_next 33 = .ok (.istore_n 2, 1) := by decide +kernel
theorem dX6_next_34 : decode cX6_next 34 = .ok (.aload_n 0, 1) := by decide +kernel
theorem dX6_next_35 : decode cX6_next 35 = .ok (.invokevirtual 138, 3) := by decide +kernel
theorem dX6_next_38 : decode cX6_next 38 = .ok (.iload_n 2, 1) := by decide +kernel
theorem dX6_next_39 : decode cX6_next 39 = .ok (.ireturn, 1) := by decide +kernel
theorem dX6_doneBehind_0 : decode cX6_doneBehind 0 = .ok (.aload_n 0, 1) := by decide +kernel
theorem dX6_doneBehind_1 : decode cX6_doneBehind 1 = .ok (.invokevirtual 135, 3) := by decide +kernel
theorem dX6_doneBehind_4 : decode cX6_doneBehind 4 = .ok (.iconst 0, 1) := by decide +kernel
theorem dX6_doneBehind_5 : decode cX6_doneBehind 5 = .ok (.istore_n 1, 1) := by decide +kernel
theorem dX6_doneBehind_6 : decode cX6_doneBehind 6 = .ok (.iload_n 1, 1) := by decide +kernel
theorem dX6_doneBehind_7 : decode cX6_doneBehind 7 = .ok (.sipush 2000, 3) := by decide +kernel
theorem dX6_doneBehind_10 : decode cX6_doneBehind 10 = .ok (.if_icmp .gt 20, 3) := by decide +kernel
theorem dX6_doneBehind_13 : decode cX6_doneBehind 13 = .ok (.aload_n 0, 1) := by decide +kernel
theorem dX6_doneBehind_14 : decode cX6_doneBehind 14 = .ok (.invokevirtual 141, 3) := by decide +kernel
theorem dX6_doneBehind_17 : decode cX6_doneBehind 17 = .ok (.ifCond .ne 13, 3) := by decide +kernel
theorem dX6_doneBehind_20 : decode cX6_doneBehind 20 = .ok (.aload_n 0, 1) := by decide +kernel
theorem dX6_doneBehind_21 : decode cX6_doneBehind 21 = .ok (.invokevirtual 106, 3) := by decide +kernel
theorem dX6_doneBehind_24 : decode cX6_doneBehind 24 = .ok (.iinc 1 1, 3) := by decide +kernel
theorem dX6_doneBehind_27 : decode cX6_doneBehind 27 = .ok (.goto (-21), 3) := by decide +kernel
theorem dX6_doneBehind_30 : decode cX6_doneBehind 30 = .ok (.aload_n 0, 1) := by decide +kernel
theorem dX6_doneBehind_31 : decode cX6_doneBehind 31 = .ok (.invokevirtual 138, 3) := by decide +kernel
theorem dX6_doneBehind_34 : decode cX6_doneBehind 34 = .ok (.iload_n 1, 1) := by decide +kernel
theorem dX6_doneBehind_35 : decode cX6_doneBehind 35 = .ok (.sipush 2000, 3) := by decide +kernel
theorem dX6_doneBehind_38 : decode cX6_doneBehind 38 = .ok (.if_icmp .le 8, 3) := by decide +kernel
theorem dX6_doneBehind_41 : decode cX6_doneBehind 41 = .ok (.bipush (-5), 2) := by decide +kernel
theorem dX6_doneBehind_43 : decode cX6_doneBehind 43 = .ok (.goto 4, 3) := by decide +kernel
theorem dX6_doneBehind_46 : decode cX6_doneBehind 46 = .ok (.iload_n 1, 1) := by decide +kernel
theorem dX6_doneBehind_47 : decode cX6_doneBehind 47 = .ok (.ireturn, 1) := by decide +kernel
theorem dX6_doneIn_0 : decode cX6_doneIn 0 = .ok (.aload_n 0, 1) := by decide +kernel
theorem dX6_doneIn_1 : decode cX6_doneIn 1 = .ok (.invokevirtual 144, 3) := by decide +kernel
theorem dX6_doneIn_4 : decode cX6_doneIn 4 = .ok (.ireturn, 1) := by decide +kernel
theorem dX6_unlikePairs_0 : decode cX6_unlikePairs 0 = .ok (.iconst 0, 1) := by decide +kernel
theorem dX6_unlikePairs_1 : decode cX6_unlikePairs 1 = .ok (.istore_n 1, 1) := by decide +kernel
theorem dX6_unlikePairs_2 : decode cX6_unlikePairs 2 = .ok (.iconst 0, 1) := by decide +kernel
theorem dX6_unlikePairs_3 : decode cX6_unlikePairs 3 = .ok (.istore_n 2, 1) := by decide +kernel
theorem dX6_unlikePairs_4 : decode cX6_unlikePairs 4 = .ok (.iload_n 2, 1) := by decide +kernel
theorem dX6_unlikePairs_5 : decode cX6_unlikePairs 5 = .ok (.aload_n 0, 1) := by decide +kernel
theorem dX6_unlikePairs_6 : decode cX6_unlikePairs 6 = .ok (.getfield 7, 3) := by decide +kernel
theorem dX6_unlikePairs_9 : decode cX6_unlikePairs 9 = .ok (.iconst 4, 1) := by decide +kernel
theorem dX6_unlikePairs_10 : decode cX6_unlikePairs 10 = .ok (.iaload, 1) := by decide +kernel
theorem dX6_unlikePairs_11 : decode cX6_unlikePairs 11 = .ok (.iconst 2, 1) := by decide +kernel
theorem dX6_unlikePairs_12 : decode cX6_unlikePairs 12 = .ok (.idiv, 1) := by decide +kernel
theorem dX6_unlikePairs_13 : decode cX6_unlikePairs 13 = .ok (.if_icmp .ge 73, 3) := by decide +kernel
theorem dX6_unlikePairs_16 : decode cX6_unlikePairs 16 = .ok (.aload_n 0, 1) := by decide +kernel
theorem dX6_unlikePairs_17 : decode cX6_unlikePairs 17 = .ok (.getfield 7, 3) := by decide +kernel
theorem dX6_unlikePairs_20 : decode cX6_unlikePairs 20 = .ok (.iconst 4, 1) := by decide +kernel
theorem dX6_unlikePairs_21 : decode cX6_unlikePairs 21 = .ok (.iaload, 1) := by decide +kernel
theorem dX6_unlikePairs_22 : decode cX6_unlikePairs 22 = .ok (.iconst 1, 1) := by decide +kernel
theorem dX6_unlikePairs_23 : decode cX6_unlikePairs 23 = .ok (.isub, 1) := by decide +kernel
theorem dX6_unlikePairs_24 : decode cX6_unlikePairs 24 = .ok (.iload_n 2, 1) := by decide +kernel
theorem dX6_unlikePairs_25 : decode cX6_unlikePairs 25 = .ok (.isub, 1) := by decide +kernel
theorem dX6_unlikePairs_26 : decode cX6_unlikePairs 26 = .ok (.istore_n 3, 1) := by decide +kernel
theorem dX6_unlikePairs_27 : decode cX6_unlikePairs 27 = .ok (.iload_n 1, 1) := by decide +kernel
theorem dX6_unlikePairs_28 : decode cX6_unlikePairs 28 = .ok (.aload_n 0, 1) := by decide +kernel
theorem dX6_unlikePairs_29 : decode cX6_unlikePairs 29 = .ok (.getfield 7, 3) := by decide +kernel
theorem dX6_unlikePairs_32 : decode cX6_unlikePairs 32 = .ok (.bipush 86, 2) := by decide +kernel
theorem dX6_unlikePairs_34 : decode cX6_unlikePairs 34 = .ok (.iload_n 2, 1) := by decide +kernel
theorem dX6_unlikePairs_35 : decode cX6_unlikePairs 35 = .ok (.iadd, 1) := by decide +kernel
theorem dX6_unlikePairs_36 : decode cX6_unlikePairs 36 = .ok (.iaload, 1) := by decide +kernel
theorem dX6_unlikePairs_37 : decode cX6_unlikePairs 37 = .ok (.ifCond .le 40, 3) := by decide +kernel
theorem dX6_unlikePairs_40 : decode cX6_unlikePairs 40 = .ok (.aload_n 0, 1) := by decide +kernel
theorem dX6_unlikePairs_41 : decode cX6_unlikePairs 41 = .ok (.getfield 7, 3) := by decide +kernel
theorem dX6_unlikePairs_44 : decode cX6_unlikePairs 44 = .ok (.bipush 86, 2) := by decide +kernel
theorem dX6_unlikePairs_46 : decode cX6_unlikePairs 46 = .ok (.iload_n 3, 1) := by decide +kernel
theorem dX6_unlikePairs_47 : decode cX6_unlikePairs 47 = .ok (.iadd, 1) := by decide +kernel
theorem dX6_unlikePairs_48 : decode cX6_unlikePairs 48 = .ok (.iaload, 1) := by decide +kernel
theorem dX6_unlikePairs_49 : decode cX6_unlikePairs 49 = .ok (.ifCond .le 28, 3) := by decide +kernel
theorem dX6_unlikePairs_52 : decode cX6_unlikePairs 52 = .ok (.aload_n 0, 1) := by decide +kernel
theorem dX6_unlikePairs_53 : decode cX6_unlikePairs 53 = .ok (.getfield 7, 3) := by decide +kernel
theorem dX6_unlikePairs_56 : decode cX6_unlikePairs 56 = .ok (.bipush 86, 2) := by decide +kernel
theorem dX6_unlikePairs_58 : decode cX6_unlikePairs 58 = .ok (.iload_n 2, 1) := by decide +kernel
theorem dX6_unlikePairs_59 : decode cX6_unlikePairs 59 = .ok (.iadd, 1) := by decide +kernel
theorem dX6_unlikePairs_60 : decode cX6_unlikePairs 60 = .ok (.iaload, 1) := by decide +kernel
theorem dX6_unlikePairs_61 : decode cX6_unlikePairs 61 = .ok (.aload_n 0, 1) := by decide +kernel
theorem dX6_unlikePairs_62 : decode cX6_unlikePairs 62 = .ok (.getfield 7, 3) := by decide +kernel
theorem dX6_unlikePairs_65 : decode cX6_unlikePairs 65 = .ok (.bipush 86, 2) := by decide +kernel
theorem dX6_unlikePairs_67 : decode cX6_unlikePairs 67 = .ok (.iload_n 3, 1) := by decide +kernel
theorem dX6_unlikePairs_68 : decode cX6_unlikePairs 68 = .ok (.iadd, 1) := by decide +kernel
theorem dX6_unlikePairs_69 : decode cX6_unlikePairs 69 = .ok (.iaload, 1) := by decide +kernel
theorem dX6_unlikePairs_70 : decode cX6_unlikePairs 70 = .ok (.if_icmp .eq 7, 3) := by decide +kernel
theorem dX6_unlikePairs_73 : decode cX6_unlikePairs 73 = .ok (.iconst 1, 1) := by decide +kernel
theorem dX6_unlikePairs_74 : decode cX6_unlikePairs 74 = .ok (.goto 4, 3) := by decide +kernel
theorem dX6_unlikePairs_77 : decode cX6_unlikePairs 77 = .ok (.iconst 0, 1) := by decide +kernel
theorem dX6_unlikePairs_78 : decode cX6_unlikePairs 78 = .ok (.iadd, 1) := by decide +kernel
theorem dX6_unlikePairs_79 : decode cX6_unlikePairs 79 = .ok (.istore_n 1, 1) := by decide +kernel
theorem dX6_unlikePairs_80 : decode cX6_unlikePairs 80 = .ok (.iinc 2 1, 3) := by decide +kernel
theorem dX6_unlikePairs_83 : decode cX6_unlikePairs 83 = .ok (.goto (-79), 3) := by decide +kernel
theorem dX6_unlikePairs_86 : decode cX6_unlikePairs 86 = .ok (.iload_n 1, 1) := by decide +kernel
theorem dX6_unlikePairs_87 : decode cX6_unlikePairs 87 = .ok (.ireturn, 1) := by decide +kernel
theorem dX6_unlikeReadings_0 : decode cX6_unlikeReadings 0 = .ok (.iconst 0, 1) := by decide +kernel
theorem dX6_unlikeReadings_1 : decode cX6_unlikeReadings 1 = .ok (.istore_n 1, 1) := by decide +kernel
theorem dX6_unlikeReadings_2 : decode cX6_unlikeReadings 2 = .ok (.iconst 0, 1) := by decide +kernel
theorem dX6_unlikeReadings_3 : decode cX6_unlikeReadings 3 = .ok (.istore_n 2, 1) := by decide +kernel
theorem dX6_unlikeReadings_4 : decode cX6_unlikeReadings 4 = .ok (.iload_n 2, 1) := by decide +kernel
theorem dX6_unlikeReadings_5 : decode cX6_unlikeReadings 5 = .ok (.aload_n 0, 1) := by decide +kernel
theorem dX6_unlikeReadings_6 : decode cX6_unlikeReadings 6 = .ok (.getfield 7, 3) := by decide +kernel
theorem dX6_unlikeReadings_9 : decode cX6_unlikeReadings 9 = .ok (.iconst 4, 1) := by decide +kernel
theorem dX6_unlikeReadings_10 : decode cX6_unlikeReadings 10 = .ok (.iaload, 1) := by decide +kernel
theorem dX6_unlikeReadings_11 : decode cX6_unlikeReadings 11 = .ok (.if_icmp .ge 65, 3) := by decide +kernel
theorem dX6_unlikeReadings_14 : decode cX6_unlikeReadings 14 = .ok (.aload_n 0, 1) := by decide +kernel
theorem dX6_unlikeReadings_15 : decode cX6_unlikeReadings 15 = .ok (.getfield 7, 3) := by decide +kernel
theorem dX6_unlikeReadings_18 : decode cX6_unlikeReadings 18 = .ok (.bipush 86, 2) := by decide +kernel
theorem dX6_unlikeReadings_20 : decode cX6_unlikeReadings 20 = .ok (.aload_n 0, 1) := by decide +kernel
theorem dX6_unlikeReadings_21 : decode cX6_unlikeReadings 21 = .ok (.getfield 7, 3) := by decide +kernel
theorem dX6_unlikeReadings_24 : decode cX6_unlikeReadings 24 = .ok (.iconst 4, 1) := by decide +kernel
theorem dX6_unlikeReadings_25 : decode cX6_unlikeReadings 25 = .ok (.iaload, 1) := by decide +kernel
theorem dX6_unlikeReadings_26 : decode cX6_unlikeReadings 26 = .ok (.iadd, 1) := by decide +kernel
theorem dX6_unlikeReadings_27 : decode cX6_unlikeReadings 27 = .ok (.iconst 1, 1) := by decide +kernel
theorem dX6_unlikeReadings_28 : decode cX6_unlikeReadings 28 = .ok (.isub, 1) := by decide +kernel
theorem dX6_unlikeReadings_29 : decode cX6_unlikeReadings 29 = .ok (.iload_n 2, 1) := by decide +kernel
theorem dX6_unlikeReadings_30 : decode cX6_unlikeReadings 30 = .ok (.isub, 1) := by decide +kernel
theorem dX6_unlikeReadings_31 : decode cX6_unlikeReadings 31 = .ok (.iaload, 1) := by decide +kernel
theorem dX6_unlikeReadings_32 : decode cX6_unlikeReadings 32 = .ok (.istore_n 3, 1) := by decide +kernel
theorem dX6_unlikeReadings_33 : decode cX6_unlikeReadings 33 = .ok (.iload_n 1, 1) := by decide +kernel
theorem dX6_unlikeReadings_34 : decode cX6_unlikeReadings 34 = .ok (.aload_n 0, 1) := by decide +kernel
theorem dX6_unlikeReadings_35 : decode cX6_unlikeReadings 35 = .ok (.getfield 7, 3) := by decide +kernel
theorem dX6_unlikeReadings_38 : decode cX6_unlikeReadings 38 = .ok (.bipush 86, 2) := by decide +kernel
theorem dX6_unlikeReadings_40 : decode cX6_unlikeReadings 40 = .ok (.iload_n 2, 1) := by decide +kernel
theorem dX6_unlikeReadings_41 : decode cX6_unlikeReadings 41 = .ok (.iadd, 1) := by decide +kernel
theorem dX6_unlikeReadings_42 : decode cX6_unlikeReadings 42 = .ok (.iaload, 1) := by decide +kernel
theorem dX6_unlikeReadings_43 : decode cX6_unlikeReadings 43 = .ok (.iload_n 3, 1) := by decide +kernel
theorem dX6_unlikeReadings_44 : decode cX6_unlikeReadings 44 = .ok (.if_icmp .eq 23, 3) := by decide +kernel
theorem dX6_unlikeReadings_47 : decode cX6_unlikeReadings 47 = .ok (.iload_n 3, 1) := by decide +kernel
theorem dX6_unlikeReadings_48 : decode cX6_unlikeReadings 48 = .ok (.ifCond .le 19, 3) := by decide +kernel
theorem dX6_unlikeReadings_51 : decode cX6_unlikeReadings 51 = .ok (.aload_n 0, 1) := by decide +kernel
theorem dX6_unlikeReadings_52 : decode cX6_unlikeReadings 52 = .ok (.getfield 7, 3) := by decide +kernel
theorem dX6_unlikeReadings_55 : decode cX6_unlikeReadings 55 = .ok (.bipush 86, 2) := by decide +kernel
theorem dX6_unlikeReadings_57 : decode cX6_unlikeReadings 57 = .ok (.iload_n 2, 1) := by decide +kernel
theorem dX6_unlikeReadings_58 : decode cX6_unlikeReadings 58 = .ok (.iadd, 1) := by decide +kernel
theorem dX6_unlikeReadings_59 : decode cX6_unlikeReadings 59 = .ok (.iaload, 1) := by decide +kernel
theorem dX6_unlikeReadings_60 : decode cX6_unlikeReadings 60 = .ok (.ifCond .le 7, 3) := by decide +kernel
theorem dX6_unlikeReadings_63 : decode cX6_unlikeReadings 63 = .ok (.iconst 1, 1) := by decide +kernel
theorem dX6_unlikeReadings_64 : decode cX6_unlikeReadings 64 = .ok (.goto 4, 3) := by decide +kernel
theorem dX6_unlikeReadings_67 : decode cX6_unlikeReadings 67 = .ok (.iconst 0, 1) := by decide +kernel
theorem dX6_unlikeReadings_68 : decode cX6_unlikeReadings 68 = .ok (.iadd, 1) := by decide +kernel
theorem dX6_unlikeReadings_69 : decode cX6_unlikeReadings 69 = .ok (.istore_n 1, 1) := by decide +kernel
theorem dX6_unlikeReadings_70 : decode cX6_unlikeReadings 70 = .ok (.iinc 2 1, 3) := by decide +kernel
theorem dX6_unlikeReadings_73 : decode cX6_unlikeReadings 73 = .ok (.goto (-69), 3) := by decide +kernel
theorem dX6_unlikeReadings_76 : decode cX6_unlikeReadings 76 = .ok (.iload_n 1, 1) := by decide +kernel
theorem dX6_unlikeReadings_77 : decode cX6_unlikeReadings 77 = .ok (.iconst 2, 1) := by decide +kernel
theorem dX6_unlikeReadings_78 : decode cX6_unlikeReadings 78 = .ok (.idiv, 1) := by decide +kernel
theorem dX6_unlikeReadings_79 : decode cX6_unlikeReadings 79 = .ok (.ireturn, 1) := by decide +kernel
theorem dX6_needed_0 : decode cX6_needed 0 = .ok (.iconst 0, 1) := by decide +kernel
theorem dX6_needed_1 : decode cX6_needed 1 = .ok (.istore_n 1, 1) := by decide +kernel
theorem dX6_needed_2 : decode cX6_needed 2 = .ok (.iconst 0, 1) := by decide +kernel
theorem dX6_needed_3 : decode cX6_needed 3 = .ok (.istore_n 2, 1) := by decide +kernel
theorem dX6_needed_4 : decode cX6_needed 4 = .ok (.iload_n 2, 1) := by decide +kernel
theorem dX6_needed_5 : decode cX6_needed 5 = .ok (.aload_n 0, 1) := by decide +kernel
theorem dX6_needed_6 : decode cX6_needed 6 = .ok (.getfield 7, 3) := by decide +kernel
theorem dX6_needed_9 : decode cX6_needed 9 = .ok (.iconst 4, 1) := by decide +kernel
theorem dX6_needed_10 : decode cX6_needed 10 = .ok (.iaload, 1) := by decide +kernel
theorem dX6_needed_11 : decode cX6_needed 11 = .ok (.if_icmp .ge 33, 3) := by decide +kernel
theorem dX6_needed_14 : decode cX6_needed 14 = .ok (.iload_n 1, 1) := by decide +kernel
theorem dX6_needed_15 : decode cX6_needed 15 = .ok (.aload_n 0, 1) := by decide +kernel
theorem dX6_needed_16 : decode cX6_needed 16 = .ok (.getfield 7, 3) := by decide +kernel
theorem dX6_needed_19 : decode cX6_needed 19 = .ok (.bipush 86, 2) := by decide +kernel
theorem dX6_needed_21 : decode cX6_needed 21 = .ok (.iload_n 2, 1) := by decide +kernel
theorem dX6_needed_22 : decode cX6_needed 22 = .ok (.iadd, 1) := by decide +kernel
theorem dX6_needed_23 : decode cX6_needed 23 = .ok (.iaload, 1) := by decide +kernel
theorem dX6_needed_24 : decode cX6_needed 24 = .ok (.ifCond .ne 11, 3) := by decide +kernel
theorem dX6_needed_27 : decode cX6_needed 27 = .ok (.aload_n 0, 1) := by decide +kernel
theorem dX6_needed_28 : decode cX6_needed 28 = .ok (.iload_n 2, 1) := by decide +kernel
theorem dX6_needed_29 : decode cX6_needed 29 = .ok (.invokevirtual 46, 3) := by decide +kernel
theorem dX6_needed_32 : decode cX6_needed 32 = .ok (.goto 4, 3) := by decide +kernel
theorem dX6_needed_35 : decode cX6_needed 35 = .ok (.iconst 0, 1) := by decide +kernel
theorem dX6_needed_36 : decode cX6_needed 36 = .ok (.iadd, 1) := by decide +kernel
theorem dX6_needed_37 : decode cX6_needed 37 = .ok (.istore_n 1, 1) := by decide +kernel
theorem dX6_needed_38 : decode cX6_needed 38 = .ok (.iinc 2 1, 3) := by decide +kernel
theorem dX6_needed_41 : decode cX6_needed 41 = .ok (.goto (-37), 3) := by decide +kernel
theorem dX6_needed_44 : decode cX6_needed 44 = .ok (.iload_n 1, 1) := by decide +kernel
theorem dX6_needed_45 : decode cX6_needed 45 = .ok (.i2d, 1) := by decide +kernel
theorem dX6_needed_46 : decode cX6_needed 46 = .ok (.ldc2_w 131, 3) := by decide +kernel
theorem dX6_needed_49 : decode cX6_needed 49 = .ok (.ddiv, 1) := by decide +kernel
theorem dX6_needed_50 : decode cX6_needed 50 = .ok (.dreturn, 1) := by decide +kernel
theorem dX6_bestPace_0 : decode cX6_bestPace 0 = .ok (.iload_n 1, 1) := by decide +kernel
theorem dX6_bestPace_1 : decode cX6_bestPace 1 = .ok (.invokestatic 90, 3) := by decide +kernel
theorem dX6_bestPace_4 : decode cX6_bestPace 4 = .ok (.ifCond .ne 5, 3) := by decide +kernel
theorem dX6_bestPace_7 : decode cX6_bestPace 7 = .ok (.iconst (-1), 1) := by decide +kernel
theorem dX6_bestPace_8 : decode cX6_bestPace 8 = .ok (.ireturn, 1) := by decide +kernel
theorem dX6_bestPace_9 : decode cX6_bestPace 9 = .ok (.aload_n 0, 1) := by decide +kernel
theorem dX6_bestPace_10 : decode cX6_bestPace 10 = .ok (.invokevirtual 141, 3) := by decide +kernel
theorem dX6_bestPace_13 : decode cX6_bestPace 13 = .ok (.ifCond .eq 6, 3) := by decide +kernel
theorem dX6_bestPace_16 : decode cX6_bestPace 16 = .ok (.bipush (-5), 2) := by decide +kernel
theorem dX6_bestPace_18 : decode cX6_bestPace 18 = .ok (.ireturn, 1) := by decide +kernel
theorem dX6_bestPace_19 : decode cX6_bestPace 19 = .ok (.aload_n 0, 1) := by decide +kernel
theorem dX6_bestPace_20 : decode cX6_bestPace 20 = .ok (.getfield 7, 3) := by decide +kernel
theorem dX6_bestPace_23 : decode cX6_bestPace 23 = .ok (.bipush 12, 2) := by decide +kernel
theorem dX6_bestPace_25 : decode cX6_bestPace 25 = .ok (.iload_n 1, 1) := by decide +kernel
theorem dX6_bestPace_26 : decode cX6_bestPace 26 = .ok (.iadd, 1) := by decide +kernel
theorem dX6_bestPace_27 : decode cX6_bestPace 27 = .ok (.iaload, 1) := by decide +kernel
theorem dX6_bestPace_28 : decode cX6_bestPace 28 = .ok (.istore_n 2, 1) := by decide +kernel
theorem dX6_bestPace_29 : decode cX6_bestPace 29 = .ok (.bipush (-5), 2) := by decide +kernel
theorem dX6_bestPace_31 : decode cX6_bestPace 31 = .ok (.istore_n 3, 1) := by decide +kernel
theorem dX6_bestPace_32 : decode cX6_bestPace 32 = .ok (.sipush 2001, 3) := by decide +kernel
theorem dX6_bestPace_35 : decode cX6_bestPace 35 = .ok (.istore 4, 2) := by decide +kernel
theorem dX6_bestPace_37 : decode cX6_bestPace 37 = .ok (.bipush 9, 2) := by decide +kernel
theorem dX6_bestPace_39 : decode cX6_bestPace 39 = .ok (.istore 5, 2) := by decide +kernel
theorem dX6_bestPace_41 : decode cX6_bestPace 41 = .ok (.iload 5, 2) := by decide +kernel
theorem dX6_bestPace_43 : decode cX6_bestPace 43 = .ok (.ifCond .le 70, 3) := by decide +kernel
theorem dX6_bestPace_46 : decode cX6_bestPace 46 = .ok (.aload_n 0, 1) := by decide +kernel
theorem dX6_bestPace_47 : decode cX6_bestPace 47 = .ok (.getfield 7, 3) := by decide +kernel
theorem dX6_bestPace_50 : decode cX6_bestPace 50 = .ok (.bipush 12, 2) := by decide +kernel
theorem dX6_bestPace_52 : decode cX6_bestPace 52 = .ok (.iload_n 1, 1) := by decide +kernel
theorem dX6_bestPace_53 : decode cX6_bestPace 53 = .ok (.iadd, 1) := by decide +kernel
theorem dX6_bestPace_54 : decode cX6_bestPace 54 = .ok (.iload 5, 2) := by decide +kernel
theorem dX6_bestPace_56 : decode cX6_bestPace 56 = .ok (.iastore, 1) := by decide +kernel
theorem dX6_bestPace_57 : decode cX6_bestPace 57 = .ok (.aload_n 0, 1) := by decide +kernel
theorem dX6_bestPace_58 : decode cX6_bestPace 58 = .ok (.invokevirtual 144, 3) := by decide +kernel
theorem dX6_bestPace_61 : decode cX6_bestPace 61 = .ok (.istore 6, 2) := by decide +kernel
theorem dX6_bestPace_63 : decode cX6_bestPace 63 = .ok (.iload 6, 2) := by decide +kernel
theorem dX6_bestPace_65 : decode cX6_bestPace 65 = .ok (.bipush (-5), 2) := by decide +kernel
theorem dX6_bestPace_67 : decode cX6_bestPace 67 = .ok (.if_icmp .eq 15, 3) := by decide +kernel
theorem dX6_bestPace_70 : decode cX6_bestPace 70 = .ok (.iload 6, 2) := by decide +kernel
theorem dX6_bestPace_72 : decode cX6_bestPace 72 = .ok (.iload 4, 2) := by decide +kernel
theorem dX6_bestPace_74 : decode cX6_bestPace 74 = .ok (.if_icmp .ge 8, 3) := by decide +kernel
theorem dX6_bestPace_77 : decode cX6_bestPace 77 = .ok (.iload 5, 2) := by decide +kernel
theorem dX6_bestPace_79 : decode cX6_bestPace 79 = .ok (.goto 4, 3) := by decide +kernel
theorem dX6_bestPace_82 : decode cX6_bestPace 82 = .ok (.iload_n 3, 1) := by decide +kernel
theorem dX6_bestPace_83 : decode cX6_bestPace 83 = .ok (.istore_n 3, 1) := by decide +kernel
theorem dX6_bestPace_84 : decode cX6_bestPace 84 = .ok (.iload 6, 2) := by decide +kernel
theorem dX6_bestPace_86 : decode cX6_bestPace 86 = .ok (.bipush (-5), 2) := by decide +kernel
theorem dX6_bestPace_88 : decode cX6_bestPace 88 = .ok (.if_icmp .eq 15, 3) := by decide +kernel
theorem dX6_bestPace_91 : decode cX6_bestPace 91 = .ok (.iload 6, 2) := by decide +kernel
theorem dX6_bestPace_93 : decode cX6_bestPace 93 = .ok (.iload 4, 2) := by decide +kernel
theorem dX6_bestPace_95 : decode cX6_bestPace 95 = .ok (.if_icmp .ge 8, 3) := by decide +kernel
theorem dX6_bestPace_98 : decode cX6_bestPace 98 = .ok (.iload 6, 2) := by decide +kernel
theorem dX6_bestPace_100 : decode cX6_bestPace 100 = .ok (.goto 5, 3) := by decide +kernel
theorem dX6_bestPace_103 : decode cX6_bestPace 103 = .ok (.iload 4, 2) := by decide +kernel
theorem dX6_bestPace_105 : decode cX6_bestPace 105 = .ok (.istore 4, 2) := by decide +kernel
theorem dX6_bestPace_107 : decode cX6_bestPace 107 = .ok (.iinc 5 (-1), 3) := by decide +kernel
theorem dX6_bestPace_110 : decode cX6_bestPace 110 = .ok (.goto (-69), 3) := by decide +kernel
theorem dX6_bestPace_113 : decode cX6_bestPace 113 = .ok (.aload_n 0, 1) := by decide +kernel
theorem dX6_bestPace_114 : decode cX6_bestPace 114 = .ok (.getfield 7, 3) := by decide +kernel
theorem dX6_bestPace_117 : decode cX6_bestPace 117 = .ok (.bipush 12, 2) := by decide +kernel
theorem dX6_bestPace_119 : decode cX6_bestPace 119 = .ok (.iload_n 1, 1) := by decide +kernel
theorem dX6_bestPace_120 : decode cX6_bestPace 120 = .ok (.iadd, 1) := by decide +kernel
theorem dX6_bestPace_121 : decode cX6_bestPace 121 = .ok (.iload_n 2, 1) := by decide +kernel
theorem dX6_bestPace_122 : decode cX6_bestPace 122 = .ok (.iastore, 1) := by decide +kernel
theorem dX6_bestPace_123 : decode cX6_bestPace 123 = .ok (.iload_n 3, 1) := by decide +kernel
theorem dX6_bestPace_124 : decode cX6_bestPace 124 = .ok (.ireturn, 1) := by decide +kernel
theorem dX6_places_0 : decode cX6_places 0 = .ok (.iconst 0, 1) := by decide +kernel
theorem dX6_places_1 : decode cX6_places 1 = .ok (.istore_n 2, 1) := by decide +kernel
theorem dX6_places_2 : decode cX6_places 2 = .ok (.iconst 0, 1) := by decide +kernel
theorem dX6_places_3 : decode cX6_places 3 = .ok (.istore_n 3, 1) := by decide +kernel
theorem dX6_places_4 : decode cX6_places 4 = .ok (.iload_n 3, 1) := by decide +kernel
theorem dX6_places_5 : decode cX6_places 5 = .ok (.aload_n 0, 1) := by decide +kernel
theorem dX6_places_6 : decode cX6_places 6 = .ok (.getfield 7, 3) := by decide +kernel
theorem dX6_places_9 : decode cX6_places 9 = .ok (.iconst 4, 1) := by decide +kernel
theorem dX6_places_10 : decode cX6_places 10 = .ok (.iaload, 1) := by decide +kernel
theorem dX6_places_11 : decode cX6_places 11 = .ok (.if_icmp .ge 108, 3) := by decide +kernel
theorem dX6_places_14 : decode cX6_places 14 = .ok (.iload_n 1, 1) := by decide +kernel
theorem dX6_places_15 : decode cX6_places 15 = .ok (.ifCond .ne 23, 3) := by decide +kernel
theorem dX6_places_18 : decode cX6_places 18 = .ok (.aload_n 0, 1) := by decide +kernel
theorem dX6_places_19 : decode cX6_places 19 = .ok (.getfield 7, 3) := by decide +kernel
theorem dX6_places_22 : decode cX6_places 22 = .ok (.bipush 86, 2) := by decide +kernel
theorem dX6_places_24 : decode cX6_places 24 = .ok (.iload_n 3, 1) := by decide +kernel
theorem dX6_places_25 : decode cX6_places 25 = .ok (.iadd, 1) := by decide +kernel
theorem dX6_places_26 : decode cX6_places 26 = .ok (.iaload, 1) := by decide +kernel
theorem dX6_places_27 : decode cX6_places 27 = .ok (.ifCond .le 7, 3) := by decide +kernel
theorem dX6_places_30 : decode cX6_places 30 = .ok (.iconst 1, 1) := by decide +kernel
theorem dX6_places_31 : decode cX6_places 31 = .ok (.goto 67, 3) := by decide +kernel
theorem dX6_places_34 : decode cX6_places 34 = .ok (.iconst 0, 1) := by decide +kernel
theorem dX6_places_35 : decode cX6_places 35 = .ok (.goto 63, 3) := by decide +kernel
theorem dX6_places_38 : decode cX6_places 38 = .ok (.iload_n 1, 1) := by decide +kernel
theorem dX6_places_39 : decode cX6_places 39 = .ok (.iconst 1, 1) := by decide +kernel
theorem dX6_places_40 : decode cX6_places 40 = .ok (.if_icmp .ne 24, 3) := by decide +kernel
theorem dX6_places_43 : decode cX6_places 43 = .ok (.aload_n 0, 1) := by decide +kernel
theorem dX6_places_44 : decode cX6_places 44 = .ok (.getfield 7, 3) := by decide +kernel
theorem dX6_places_47 : decode cX6_places 47 = .ok (.bipush 126, 2) := by decide +kernel
theorem dX6_places_49 : decode cX6_places 49 = .ok (.iload_n 3, 1) := by decide +kernel
theorem dX6_places_50 : decode cX6_places 50 = .ok (.iadd, 1) := by decide +kernel
theorem dX6_places_51 : decode cX6_places 51 = .ok (.iaload, 1) := by decide +kernel
theorem dX6_places_52 : decode cX6_places 52 = .ok (.iconst 1, 1) := by decide +kernel
theorem dX6_places_53 : decode cX6_places 53 = .ok (.if_icmp .ne 7, 3) := by decide +kernel
theorem dX6_places_56 : decode cX6_places 56 = .ok (.iconst 1, 1) := by decide +kernel
theorem dX6_places_57 : decode cX6_places 57 = .ok (.goto 41, 3) := by decide +kernel
theorem dX6_places_60 : decode cX6_places 60 = .ok (.iconst 0, 1) := by decide +kernel
theorem dX6_places_61 : decode cX6_places 61 = .ok (.goto 37, 3) := by decide +kernel
theorem dX6_places_64 : decode cX6_places 64 = .ok (.aload_n 0, 1) := by decide +kernel
theorem dX6_places_65 : decode cX6_places 65 = .ok (.getfield 7, 3) := by decide +kernel
theorem dX6_places_68 : decode cX6_places 68 = .ok (.bipush 86, 2) := by decide +kernel
theorem dX6_places_70 : decode cX6_places 70 = .ok (.iload_n 3, 1) := by decide +kernel
theorem dX6_places_71 : decode cX6_places 71 = .ok (.iadd, 1) := by decide +kernel
theorem dX6_places_72 : decode cX6_places 72 = .ok (.iaload, 1) := by decide +kernel
theorem dX6_places_73 : decode cX6_places 73 = .ok (.ifCond .le 24, 3) := by decide +kernel
theorem dX6_places_76 : decode cX6_places 76 = .ok (.aload_n 0, 1) := by decide +kernel
theorem dX6_places_77 : decode cX6_places 77 = .ok (.getfield 7, 3) := by decide +kernel
theorem dX6_places_80 : decode cX6_places 80 = .ok (.bipush 86, 2) := by decide +kernel
theorem dX6_places_82 : decode cX6_places 82 = .ok (.iload_n 3, 1) := by decide +kernel
theorem dX6_places_83 : decode cX6_places 83 = .ok (.iadd, 1) := by decide +kernel
theorem dX6_places_84 : decode cX6_places 84 = .ok (.iaload, 1) := by decide +kernel
theorem dX6_places_85 : decode cX6_places 85 = .ok (.aload_n 0, 1) := by decide +kernel
theorem dX6_places_86 : decode cX6_places 86 = .ok (.iload_n 3, 1) := by decide +kernel
theorem dX6_places_87 : decode cX6_places 87 = .ok (.invokevirtual 39, 3) := by decide +kernel
theorem dX6_places_90 : decode cX6_places 90 = .ok (.if_icmp .eq 7, 3) := by decide +kernel
theorem dX6_places_93 : decode cX6_places 93 = .ok (.iconst 1, 1) := by decide +kernel
theorem dX6_places_94 : decode cX6_places 94 = .ok (.goto 4, 3) := by decide +kernel
theorem dX6_places_97 : decode cX6_places 97 = .ok (.iconst 0, 1) := by decide +kernel
theorem dX6_places_98 : decode cX6_places 98 = .ok (.istore 4, 2) := by decide +kernel
theorem dX6_places_100 : decode cX6_places 100 = .ok (.iload_n 2, 1) := by decide +kernel
theorem dX6_places_101 : decode cX6_places 101 = .ok (.iload 4, 2) := by decide +kernel
theorem dX6_places_103 : decode cX6_places 103 = .ok (.ifCond .eq 7, 3) := by decide +kernel
theorem dX6_places_106 : decode cX6_places 106 = .ok (.iconst 1, 1) := by decide +kernel
theorem dX6_places_107 : decode cX6_places 107 = .ok (.goto 4, 3) := by decide +kernel
theorem dX6_places_110 : decode cX6_places 110 = .ok (.iconst 0, 1) := by decide +kernel
theorem dX6_places_111 : decode cX6_places 111 = .ok (.iadd, 1) := by decide +kernel
theorem dX6_places_112 : decode cX6_places 112 = .ok (.istore_n 2, 1) := by decide +kernel
theorem dX6_places_113 : decode cX6_places 113 = .ok (.iinc 3 1, 3) := by decide +kernel
theorem dX6_places_116 : decode cX6_places 116 = .ok (.goto (-112), 3) := by decide +kernel
theorem dX6_places_119 : decode cX6_places 119 = .ok (.iload_n 2, 1) := by decide +kernel
theorem dX6_places_120 : decode cX6_places 120 = .ok (.ireturn, 1) := by decide +kernel
theorem dX6_count_0 : decode cX6_count 0 = .ok (.iload_n 1, 1) := by decide +kernel
theorem dX6_count_1 : decode cX6_count 1 = .ok (.tableswitch 126 0 13 #[71, 71, 80, 80, 80, 88, 93, 93, 93, 106, 106, 106, 116, 121], 71) := by decide +kernel
theorem dX6_count_72 : decode cX6_count 72 = .ok (.aload_n 0, 1) := by decide +kernel
theorem dX6_count_73 : decode cX6_count 73 = .ok (.getfield 7, 3) := by decide +kernel
theorem dX6_count_76 : decode cX6_count 76 = .ok (.iconst 3, 1) := by decide +kernel
theorem dX6_count_77 : decode cX6_count 77 = .ok (.iload_n 1, 1) := by decide +kernel
theorem dX6_count_78 : decode cX6_count 78 = .ok (.iadd, 1) := by decide +kernel
theorem dX6_count_79 : decode cX6_count 79 = .ok (.iaload, 1) := by decide +kernel
theorem dX6_count_80 : decode cX6_count 80 = .ok (.ireturn, 1) := by decide +kernel
theorem dX6_count_81 : decode cX6_count 81 = .ok (.aload_n 0, 1) := by decide +kernel
theorem dX6_count_82 : decode cX6_count 82 = .ok (.iload_n 1, 1) := by decide +kernel
theorem dX6_count_83 : decode cX6_count 83 = .ok (.iconst 2, 1) := by decide +kernel
theorem dX6_count_84 : decode cX6_count 84 = .ok (.isub, 1) := by decide +kernel
theorem dX6_count_85 : decode cX6_count 85 = .ok (.invokevirtual 147, 3) := by decide +kernel
theorem dX6_count_88 : decode cX6_count 88 = .ok (.ireturn, 1) := by decide +kernel
theorem dX6_count_89 : decode cX6_count 89 = .ok (.aload_n 0, 1) := by decide +kernel
theorem dX6_count_90 : decode cX6_count 90 = .ok (.invokevirtual 87, 3) := by decide +kernel
theorem dX6_count_93 : decode cX6_count 93 = .ok (.ireturn, 1) := by decide +kernel
theorem dX6_count_94 : decode cX6_count 94 = .ok (.aload_n 0, 1) := by decide +kernel
theorem dX6_count_95 : decode cX6_count 95 = .ok (.getfield 7, 3) := by decide +kernel
theorem dX6_count_98 : decode cX6_count 98 = .ok (.bipush 9, 2) := by decide +kernel
theorem dX6_count_100 : decode cX6_count 100 = .ok (.iload_n 1, 1) := by decide +kernel
theorem dX6_count_101 : decode cX6_count 101 = .ok (.iadd, 1) := by decide +kernel
theorem dX6_count_102 : decode cX6_count 102 = .ok (.bipush 6, 2) := by decide +kernel
theorem dX6_count_104 : decode cX6_count 104 = .ok (.isub, 1) := by decide +kernel
theorem dX6_count_105 : decode cX6_count 105 = .ok (.iaload, 1) := by decide +kernel
theorem dX6_count_106 : decode cX6_count 106 = .ok (.ireturn, 1) := by decide +kernel
theorem dX6_count_107 : decode cX6_count 107 = .ok (.aload_n 0, 1) := by decide +kernel
theorem dX6_count_108 : decode cX6_count 108 = .ok (.getfield 7, 3) := by decide +kernel
theorem dX6_count_111 : decode cX6_count 111 = .ok (.iload_n 1, 1) := by decide +kernel
theorem dX6_count_112 : decode cX6_count 112 = .ok (.bipush 9, 2) := by decide +kernel
theorem dX6_count_114 : decode cX6_count 114 = .ok (.isub, 1) := by decide +kernel
theorem dX6_count_115 : decode cX6_count 115 = .ok (.iaload, 1) := by decide +kernel
theorem dX6_count_116 : decode cX6_count 116 = .ok (.ireturn, 1) := by decide +kernel
theorem dX6_count_117 : decode cX6_count 117 = .ok (.aload_n 0, 1) := by decide +kernel
theorem dX6_count_118 : decode cX6_count 118 = .ok (.getfield 31, 3) := by decide +kernel
theorem dX6_count_121 : decode cX6_count 121 = .ok (.ireturn, 1) := by decide +kernel
theorem dX6_count_122 : decode cX6_count 122 = .ok (.aload_n 0, 1) := by decide +kernel
theorem dX6_count_123 : decode cX6_count 123 = .ok (.getfield 109, 3) := by decide +kernel
theorem dX6_count_126 : decode cX6_count 126 = .ok (.ireturn, 1) := by decide +kernel
theorem dX6_count_127 : decode cX6_count 127 = .ok (.bipush (-2), 2) := by decide +kernel
theorem dX6_count_129 : decode cX6_count 129 = .ok (.ireturn, 1) := by decide +kernel
theorem dL_law_0 : decode cL_law 0 = .ok (.new 7, 3) := by decide +kernel
theorem dL_law_3 : decode cL_law 3 = .ok (.dup, 1) := by decide +kernel
theorem dL_law_4 : decode cL_law 4 = .ok (.invokespecial 9, 3) := by decide +kernel
theorem dL_law_7 : decode cL_law 7 = .ok (.astore_n 1, 1) := by decide +kernel
theorem dL_law_8 : decode cL_law 8 = .ok (.new 10, 3) := by decide +kernel
theorem dL_law_11 : decode cL_law 11 = .ok (.dup, 1) := by decide +kernel
theorem dL_law_12 : decode cL_law 12 = .ok (.invokespecial 12, 3) := by decide +kernel
theorem dL_law_15 : decode cL_law 15 = .ok (.astore_n 2, 1) := by decide +kernel
theorem dL_law_16 : decode cL_law 16 = .ok (.iconst 0, 1) := by decide +kernel
theorem dL_law_17 : decode cL_law 17 = .ok (.istore_n 3, 1) := by decide +kernel
theorem dL_law_18 : decode cL_law 18 = .ok (.iload_n 3, 1) := by decide +kernel
theorem dL_law_19 : decode cL_law 19 = .ok (.aload_n 0, 1) := by decide +kernel
theorem dL_law_20 : decode cL_law 20 = .ok (.arraylength, 1) := by decide +kernel
theorem dL_law_21 : decode cL_law 21 = .ok (.iconst 3, 1) := by decide +kernel
theorem dL_law_22 : decode cL_law 22 = .ok (.isub, 1) := by decide +kernel
theorem dL_law_23 : decode cL_law 23 = .ok (.if_icmp .gt 643, 3) := by decide +kernel
theorem dL_law_26 : decode cL_law 26 = .ok (.aload_n 0, 1) := by decide +kernel
theorem dL_law_27 : decode cL_law 27 = .ok (.iload_n 3, 1) := by decide +kernel
theorem dL_law_28 : decode cL_law 28 = .ok (.iaload, 1) := by decide +kernel
theorem dL_law_29 : decode cL_law 29 = .ok (.bipush 31, 2) := by decide +kernel
theorem dL_law_31 : decode cL_law 31 = .ok (.iand, 1) := by decide +kernel
theorem dL_law_32 : decode cL_law 32 = .ok (.tableswitch 628 0 21 #[104, 117, 150, 173, 206, 229, 262, 285, 310, 323, 336, 349, 362, 395, 428, 479, 502, 515, 528, 541, 582, 605], 104) := by decide +kernel
theorem dL_law_136 : decode cL_law 136 = .ok (.aload_n 1, 1) := by decide +kernel
theorem dL_law_137 : decode cL_law 137 = .ok (.invokevirtual 13, 3) := by decide +kernel
theorem dL_law_140 : decode cL_law 140 = .ok (.aload_n 2, 1) := by decide +kernel
theorem dL_law_141 : decode cL_law 141 = .ok (.invokevirtual 17, 3) := by decide +kernel
theorem dL_law_144 : decode cL_law 144 = .ok (.if_icmp .eq 516, 3) := by decide +kernel
theorem dL_law_147 : decode cL_law 147 = .ok (.iconst 0, 1) := by decide +kernel
theorem dL_law_148 : decode cL_law 148 = .ok (.ireturn, 1) := by decide +kernel
theorem dL_law_149 : decode cL_law 149 = .ok (.aload_n 1, 1) := by decide +kernel
theorem dL_law_150 : decode cL_law 150 = .ok (.aload_n 0, 1) := by decide +kernel
theorem dL_law_151 : decode cL_law 151 = .ok (.iload_n 3, 1) := by decide +kernel
theorem dL_law_152 : decode cL_law 152 = .ok (.iconst 1, 1) := by decide +kernel
theorem dL_law_153 : decode cL_law 153 = .ok (.iadd, 1) := by decide +kernel
theorem dL_law_154 : decode cL_law 154 = .ok (.iaload, 1) := by decide +kernel
theorem dL_law_155 : decode cL_law 155 = .ok (.aload_n 0, 1) := by decide +kernel
theorem dL_law_156 : decode cL_law 156 = .ok (.iload_n 3, 1) := by decide +kernel
theorem dL_law_157 : decode cL_law 157 = .ok (.iconst 2, 1) := by decide +kernel
theorem dL_law_158 : decode cL_law 158 = .ok (.iadd, 1) := by decide +kernel
theorem dL_law_159 : decode cL_law 159 = .ok (.iaload, 1) := by decide +kernel
theorem dL_law_160 : decode cL_law 160 = .ok (.invokevirtual 18, 3) := by decide +kernel
theorem dL_law_163 : decode cL_law 163 = .ok (.aload_n 2, 1) := by decide +kernel
theorem dL_law_164 : decode cL_law 164 = .ok (.aload_n 0, 1) := by decide +kernel
theorem dL_law_165 : decode cL_law 165 = .ok (.iload_n 3, 1) := by decide +kernel
theorem dL_law_166 : decode cL_law 166 = .ok (.iconst 1, 1) := by decide +kernel
theorem dL_law_167 : decode cL_law 167 = .ok (.iadd, 1) := by decide +kernel
theorem dL_law_168 : decode cL_law 168 = .ok (.iaload, 1) := by decide +kernel
theorem dL_law_169 : decode cL_law 169 = .ok (.aload_n 0, 1) := by decide +kernel
theorem dL_law_170 : decode cL_law 170 = .ok (.iload_n 3, 1) := by decide +kernel
theorem dL_law_171 : decode cL_law 171 = .ok (.iconst 2, 1) := by decide +kernel
theorem dL_law_172 : decode cL_law 172 = .ok (.iadd, 1) := by decide +kernel
theorem dL_law_173 : decode cL_law 173 = .ok (.iaload, 1) := by decide +kernel
theorem dL_law_174 : decode cL_law 174 = .ok (.invokevirtual 22, 3) := by decide +kernel
theorem dL_law_177 : decode cL_law 177 = .ok (.if_icmp .eq 483, 3) := by decide +kernel
theorem dL_law_180 : decode cL_law 180 = .ok (.iconst 0, 1) := by decide +kernel
theorem dL_law_181 : decode cL_law 181 = .ok (.ireturn, 1) := by decide +kernel
theorem dL_law_182 : decode cL_law 182 = .ok (.aload_n 1, 1) := by decide +kernel
theorem dL_law_183 : decode cL_law 183 = .ok (.aload_n 0, 1) := by decide +kernel
theorem dL_law_184 : decode cL_law 184 = .ok (.iload_n 3, 1) := by decide +kernel
theorem dL_law_185 : decode cL_law 185 = .ok (.iconst 1, 1) := by decide +kernel
theorem dL_law_186 : decode cL_law 186 = .ok (.iadd, 1) := by decide +kernel
theorem dL_law_187 : decode cL_law 187 = .ok (.iaload, 1) := by decide +kernel
theorem dL_law_188 : decode cL_law 188 = .ok (.invokevirtual 23, 3) := by decide +kernel
theorem dL_law_191 : decode cL_law 191 = .ok (.aload_n 2, 1) := by decide +kernel
theorem dL_law_192 : decode cL_law 192 = .ok (.aload_n 0, 1) := by decide +kernel
theorem dL_law_193 : decode cL_law 193 = .ok (.iload_n 3, 1) := by decide +kernel
theorem dL_law_194 : decode cL_law 194 = .ok (.iconst 1, 1) := by decide +kernel
theorem dL_law_195 : decode cL_law 195 = .ok (.iadd, 1) := by decide +kernel
theorem dL_law_196 : decode cL_law 196 = .ok (.iaload, 1) := by decide +kernel
theorem dL_law_197 : decode cL_law 197 = .ok (.invokevirtual 27, 3) := by decide +kernel
theorem dL_law_200 : decode cL_law 200 = .ok (.if_icmp .eq 460, 3) := by decide +kernel
theorem dL_law_203 : decode cL_law 203 = .ok (.iconst 0, 1) := by decide +kernel
theorem dL_law_204 : decode cL_law 204 = .ok (.ireturn, 1) := by decide +kernel
theorem dL_law_205 : decode cL_law 205 = .ok (.aload_n 1, 1) := by decide +kernel
theorem dL_law_206 : decode cL_law 206 = .ok (.aload_n 0, 1) := by decide +kernel
theorem dL_law_207 : decode cL_law 207 = .ok (.iload_n 3, 1) := by decide +kernel
theorem dL_law_208 : decode cL_law 208 = .ok (.iconst 1, 1) := by decide +kernel
theorem dL_law_209 : decode cL_law 209 = .ok (.iadd, 1) := by decide +kernel
theorem dL_law_210 : decode cL_law 210 = .ok (.iaload, 1) := by decide +kernel
theorem dL_law_211 : decode cL_law 211 = .ok (.aload_n 0, 1) := by decide +kernel
theorem dL_law_212 : decode cL_law 212 = .ok (.iload_n 3, 1) := by decide +kernel
theorem dL_law_213 : decode cL_law 213 = .ok (.iconst 2, 1) := by decide +kernel
theorem dL_law_214 : decode cL_law 214 = .ok (.iadd, 1) := by decide +kernel
theorem dL_law_215 : decode cL_law 215 = .ok (.iaload, 1) := by decide +kernel
theorem dL_law_216 : decode cL_law 216 = .ok (.invokevirtual 28, 3) := by decide +kernel
theorem dL_law_219 : decode cL_law 219 = .ok (.aload_n 2, 1) := by decide +kernel
theorem dL_law_220 : decode cL_law 220 = .ok (.aload_n 0, 1) := by decide +kernel
theorem dL_law_221 : decode cL_law 221 = .ok (.iload_n 3, 1) := by decide +kernel
theorem dL_law_222 : decode cL_law 222 = .ok (.iconst 1, 1) := by decide +kernel
theorem dL_law_223 : decode cL_law 223 = .ok (.iadd, 1) := by decide +kernel
theorem dL_law_224 : decode cL_law 224 = .ok (.iaload, 1) := by decide +kernel
theorem dL_law_225 : decode cL_law 225 = .ok (.aload_n 0, 1) := by decide +kernel
theorem dL_law_226 : decode cL_law 226 = .ok (.iload_n 3, 1) := by decide +kernel
theorem dL_law_227 : decode cL_law 227 = .ok (.iconst 2, 1) := by decide +kernel
theorem dL_law_228 : decode cL_law 228 = .ok (.iadd, 1) := by decide +kernel
theorem dL_law_229 : decode cL_law 229 = .ok (.iaload, 1) := by decide +kernel
theorem dL_law_230 : decode cL_law 230 = .ok (.invokevirtual 31, 3) := by decide +kernel
theorem dL_law_233 : decode cL_law 233 = .ok (.if_icmp .eq 427, 3) := by decide +kernel
theorem dL_law_236 : decode cL_law 236 = .ok (.iconst 0, 1) := by decide +kernel
theorem dL_law_237 : decode cL_law 237 = .ok (.ireturn, 1) := by decide +kernel
theorem dL_law_238 : decode cL_law 238 = .ok (.aload_n 1, 1) := by decide +kernel
theorem dL_law_239 : decode cL_law 239 = .ok (.aload_n 0, 1) := by decide +kernel
theorem dL_law_240 : decode cL_law 240 = .ok (.iload_n 3, 1) := by decide +kernel
theorem dL_law_241 : decode cL_law 241 = .ok (.iconst 1, 1) := by decide +kernel
theorem dL_law_242 : decode cL_law 242 = .ok (.iadd, 1) := by decide +kernel
theorem dL_law_243 : decode cL_law 243 = .ok (.iaload, 1) := by decide +kernel
theorem dL_law_244 : decode cL_law 244 = .ok (.invokevirtual 32, 3) := by decide +kernel
theorem dL_law_247 : decode cL_law 247 = .ok (.aload_n 2, 1) := by decide +kernel
theorem dL_law_248 : decode cL_law 248 = .ok (.aload_n 0, 1) := by decide +kernel
theorem dL_law_249 : decode cL_law 249 = .ok (.iload_n 3, 1) := by decide +kernel
theorem dL_law_250 : decode cL_law 250 = .ok (.iconst 1, 1) := by decide +kernel
theorem dL_law_251 : decode cL_law 251 = .ok (.iadd, 1) := by decide +kernel
theorem dL_law_252 : decode cL_law 252 = .ok (.iaload, 1) := by decide +kernel
theorem dL_law_253 : decode cL_law 253 = .ok (.invokevirtual 35, 3) := by decide +kernel
theorem dL_law_256 : decode cL_law 256 = .ok (.if_icmp .eq 404, 3) := by decide +kernel
theorem dL_law_259 : decode cL_law 259 = .ok (.iconst 0, 1) := by decide +kernel
theorem dL_law_260 : decode cL_law 260 = .ok (.ireturn, 1) := by decide +kernel
theorem dL_law_261 : decode cL_law 261 = .ok (.aload_n 1, 1) := by decide +kernel
theorem dL_law_262 : decode cL_law 262 = .ok (.aload_n 0, 1) := by decide +kernel
theorem dL_law_263 : decode cL_law 263 = .ok (.iload_n 3, 1) := by decide +kernel
theorem dL_law_264 : decode cL_law 264 = .ok (.iconst 1, 1) := by decide +kernel
theorem dL_law_265 : decode cL_law 265 = .ok (.iadd, 1) := by decide +kernel
theorem dL_law_266 : decode cL_law 266 = .ok (.iaload, 1) := by decide +kernel
theorem dL_law_267 : decode cL_law 267 = .ok (.aload_n 0, 1) := by decide +kernel
theorem dL_law_268 : decode cL_law 268 = .ok (.iload_n 3, 1) := by decide +kernel
theorem dL_law_269 : decode cL_law 269 = .ok (.iconst 2, 1) := by decide +kernel
theorem dL_law_270 : decode cL_law 270 = .ok (.iadd, 1) := by decide +kernel
theorem dL_law_271 : decode cL_law 271 = .ok (.iaload, 1) := by decide +kernel
theorem dL_law_272 : decode cL_law 272 = .ok (.invokevirtual 36, 3) := by decide +kernel
theorem dL_law_275 : decode cL_law 275 = .ok (.aload_n 2, 1) := by decide +kernel
theorem dL_law_276 : decode cL_law 276 = .ok (.aload_n 0, 1) := by decide +kernel
theorem dL_law_277 : decode cL_law 277 = .ok (.iload_n 3, 1) := by decide +kernel
theorem dL_law_278 : decode cL_law 278 = .ok (.iconst 1, 1) := by decide +kernel
theorem dL_law_279 : decode cL_law 279 = .ok (.iadd, 1) := by decide +kernel
theorem dL_law_280 : decode cL_law 280 = .ok (.iaload, 1) := by decide +kernel
theorem dL_law_281 : decode cL_law 281 = .ok (.aload_n 0, 1) := by decide +kernel
theorem dL_law_282 : decode cL_law 282 = .ok (.iload_n 3, 1) := by decide +kernel
theorem dL_law_283 : decode cL_law 283 = .ok (.iconst 2, 1) := by decide +kernel
theorem dL_law_284 : decode cL_law 284 = .ok (.iadd, 1) := by decide +kernel
theorem dL_law_285 : decode cL_law 285 = .ok (.iaload, 1) := by decide +kernel
theorem dL_law_286 : decode cL_law 286 = .ok (.invokevirtual 39, 3) := by decide +kernel
theorem dL_law_289 : decode cL_law 289 = .ok (.if_icmp .eq 371, 3) := by decide +kernel
theorem dL_law_292 : decode cL_law 292 = .ok (.iconst 0, 1) := by decide +kernel
theorem dL_law_293 : decode cL_law 293 = .ok (.ireturn, 1) := by decide +kernel
theorem dL_law_294 : decode cL_law 294 = .ok (.aload_n 1, 1) := by decide +kernel
theorem dL_law_295 : decode cL_law 295 = .ok (.aload_n 0, 1) := by decide +kernel
theorem dL_law_296 : decode cL_law 296 = .ok (.iload_n 3, 1) := by decide +kernel
theorem dL_law_297 : decode cL_law 297 = .ok (.iconst 1, 1) := by decide +kernel
theorem dL_law_298 : decode cL_law 298 = .ok (.iadd, 1) := by decide +kernel
theorem dL_law_299 : decode cL_law 299 = .ok (.iaload, 1) := by decide +kernel
theorem dL_law_300 : decode cL_law 300 = .ok (.invokevirtual 40, 3) := by decide +kernel
theorem dL_law_303 : decode cL_law 303 = .ok (.aload_n 2, 1) := by decide +kernel
theorem dL_law_304 : decode cL_law 304 = .ok (.aload_n 0, 1) := by decide +kernel
theorem dL_law_305 : decode cL_law 305 = .ok (.iload_n 3, 1) := by decide +kernel
theorem dL_law_306 : decode cL_law 306 = .ok (.iconst 1, 1) := by decide +kernel
theorem dL_law_307 : decode cL_law 307 = .ok (.iadd, 1) := by decide +kernel
theorem dL_law_308 : decode cL_law 308 = .ok (.iaload, 1) := by decide +kernel
theorem dL_law_309 : decode cL_law 309 = .ok (.invokevirtual 43, 3) := by decide +kernel
theorem dL_law_312 : decode cL_law 312 = .ok (.if_icmp .eq 348, 3) := by decide +kernel
theorem dL_law_315 : decode cL_law 315 = .ok (.iconst 0, 1) := by decide +kernel
theorem dL_law_316 : decode cL_law 316 = .ok (.ireturn, 1) := by decide +kernel
theorem dL_law_317 : decode cL_law 317 = .ok (.aload_n 1, 1) := by decide +kernel
theorem dL_law_318 : decode cL_law 318 = .ok (.aload_n 0, 1) := by decide +kernel
theorem dL_law_319 : decode cL_law 319 = .ok (.iload_n 3, 1) := by decide +kernel
theorem dL_law_320 : decode cL_law 320 = .ok (.iconst 1, 1) := by decide +kernel
theorem dL_law_321 : decode cL_law 321 = .ok (.iadd, 1) := by decide +kernel
theorem dL_law_322 : decode cL_law 322 = .ok (.iaload, 1) := by decide +kernel
theorem dL_law_323 : decode cL_law 323 = .ok (.i2c, 1) := by decide +kernel
theorem dL_law_324 : decode cL_law 324 = .ok (.invokevirtual 44, 3) := by decide +kernel
theorem dL_law_327 : decode cL_law 327 = .ok (.aload_n 2, 1) := by decide +kernel
theorem dL_law_328 : decode cL_law 328 = .ok (.aload_n 0, 1) := by decide +kernel
theorem dL_law_329 : decode cL_law 329 = .ok (.iload_n 3, 1) := by decide +kernel
theorem dL_law_330 : decode cL_law 330 = .ok (.iconst 1, 1) := by decide +kernel
theorem dL_law_331 : decode cL_law 331 = .ok (.iadd, 1) := by decide +kernel
theorem dL_law_332 : decode cL_law 332 = .ok (.iaload, 1) := by decide +kernel
theorem dL_law_333 : decode cL_law 333 = .ok (.i2c, 1) := by decide +kernel
theorem dL_law_334 : decode cL_law 334 = .ok (.invokevirtual 48, 3) := by decide +kernel
theorem dL_law_337 : decode cL_law 337 = .ok (.if_icmp .eq 323, 3) := by decide +kernel
theorem dL_law_340 : decode cL_law 340 = .ok (.iconst 0, 1) := by decide +kernel
theorem dL_law_341 : decode cL_law 341 = .ok (.ireturn, 1) := by decide +kernel
theorem dL_law_342 : decode cL_law 342 = .ok (.aload_n 1, 1) := by decide +kernel
theorem dL_law_343 : decode cL_law 343 = .ok (.invokevirtual 49, 3) := by decide +kernel
theorem dL_law_346 : decode cL_law 346 = .ok (.aload_n 2, 1) := by decide +kernel
theorem dL_law_347 : decode cL_law 347 = .ok (.invokevirtual 52, 3) := by decide +kernel
theorem dL_law_350 : decode cL_law 350 = .ok (.if_icmp .eq 310, 3) := by decide +kernel
theorem dL_law_353 : decode cL_law 353 = .ok (.iconst 0, 1) := by decide +kernel
theorem dL_law_354 : decode cL_law 354 = .ok (.ireturn, 1) := by decide +kernel
theorem dL_law_355 : decode cL_law 355 = .ok (.aload_n 1, 1) := by decide +kernel
theorem dL_law_356 : decode cL_law 356 = .ok (.invokevirtual 53, 3) := by decide +kernel
theorem dL_law_359 : decode cL_law 359 = .ok (.aload_n 2, 1) := by decide +kernel
theorem dL_law_360 : decode cL_law 360 = .ok (.invokevirtual 56, 3) := by decide +kernel
theorem dL_law_363 : decode cL_law 363 = .ok (.if_icmp .eq 297, 3) := by decide +kernel
theorem dL_law_366 : decode cL_law 366 = .ok (.iconst 0, 1) := by decide +kernel
theorem dL_law_367 : decode cL_law 367 = .ok (.ireturn, 1) := by decide +kernel
theorem dL_law_368 : decode cL_law 368 = .ok (.aload_n 1, 1) := by decide +kernel
theorem dL_law_369 : decode cL_law 369 = .ok (.invokevirtual 57, 3) := by decide +kernel
theorem dL_law_372 : decode cL_law 372 = .ok (.aload_n 2, 1) := by decide +kernel
theorem dL_law_373 : decode cL_law 373 = .ok (.invokevirtual 60, 3) := by decide +kernel
theorem dL_law_376 : decode cL_law 376 = .ok (.if_icmp .eq 284, 3) := by decide +kernel
theorem dL_law_379 : decode cL_law 379 = .ok (.iconst 0, 1) := by decide +kernel
theorem dL_law_380 : decode cL_law 380 = .ok (.ireturn, 1) := by decide +kernel
theorem dL_law_381 : decode cL_law 381 = .ok (.aload_n 1, 1) := by decide +kernel
theorem dL_law_382 : decode cL_law 382 = .ok (.invokevirtual 61, 3) := by decide +kernel
theorem dL_law_385 : decode cL_law 385 = .ok (.aload_n 2, 1) := by decide +kernel
theorem dL_law_386 : decode cL_law 386 = .ok (.invokevirtual 64, 3) := by decide +kernel
theorem dL_law_389 : decode cL_law 389 = .ok (.if_icmp .eq 271, 3) := by decide +kernel
theorem dL_law_392 : decode cL_law 392 = .ok (.iconst 0, 1) := by decide +kernel
theorem dL_law_393 : decode cL_law 393 = .ok (.ireturn, 1) := by decide +kernel
theorem dL_law_394 : decode cL_law 394 = .ok (.aload_n 1, 1) := by decide +kernel
theorem dL_law_395 : decode cL_law 395 = .ok (.aload_n 0, 1) := by decide +kernel
theorem dL_law_396 : decode cL_law 396 = .ok (.iload_n 3, 1) := by decide +kernel
theorem dL_law_397 : decode cL_law 397 = .ok (.iconst 1, 1) := by decide +kernel
theorem dL_law_398 : decode cL_law 398 = .ok (.iadd, 1) := by decide +kernel
theorem dL_law_399 : decode cL_law 399 = .ok (.iaload, 1) := by decide +kernel
theorem dL_law_400 : decode cL_law 400 = .ok (.aload_n 0, 1) := by decide +kernel
theorem dL_law_401 : decode cL_law 401 = .ok (.iload_n 3, 1) := by decide +kernel
theorem dL_law_402 : decode cL_law 402 = .ok (.iconst 2, 1) := by decide +kernel
theorem dL_law_403 : decode cL_law 403 = .ok (.iadd, 1) := by decide +kernel
theorem dL_law_404 : decode cL_law 404 = .ok (.iaload, 1) := by decide +kernel
theorem dL_law_405 : decode cL_law 405 = .ok (.invokevirtual 65, 3) := by decide +kernel
theorem dL_law_408 : decode cL_law 408 = .ok (.aload_n 2, 1) := by decide +kernel
theorem dL_law_409 : decode cL_law 409 = .ok (.aload_n 0, 1) := by decide +kernel
theorem dL_law_410 : decode cL_law 410 = .ok (.iload_n 3, 1) := by decide +kernel
theorem dL_law_411 : decode cL_law 411 = .ok (.iconst 1, 1) := by decide +kernel
theorem dL_law_412 : decode cL_law 412 = .ok (.iadd, 1) := by decide +kernel
theorem dL_law_413 : decode cL_law 413 = .ok (.iaload, 1) := by decide +kernel
theorem dL_law_414 : decode cL_law 414 = .ok (.aload_n 0, 1) := by decide +kernel
theorem dL_law_415 : decode cL_law 415 = .ok (.iload_n 3, 1) := by decide +kernel
theorem dL_law_416 : decode cL_law 416 = .ok (.iconst 2, 1) := by decide +kernel
theorem dL_law_417 : decode cL_law 417 = .ok (.iadd, 1) := by decide +kernel
theorem dL_law_418 : decode cL_law 418 = .ok (.iaload, 1) := by decide +kernel
theorem dL_law_419 : decode cL_law 419 = .ok (.invokevirtual 68, 3) := by decide +kernel
theorem dL_law_422 : decode cL_law 422 = .ok (.if_icmp .eq 238, 3) := by decide +kernel
theorem dL_law_425 : decode cL_law 425 = .ok (.iconst 0, 1) := by decide +kernel
theorem dL_law_426 : decode cL_law 426 = .ok (.ireturn, 1) := by decide +kernel
theorem dL_law_427 : decode cL_law 427 = .ok (.aload_n 1, 1) := by decide +kernel
theorem dL_law_428 : decode cL_law 428 = .ok (.aload_n 0, 1) := by decide +kernel
theorem dL_law_429 : decode cL_law 429 = .ok (.iload_n 3, 1) := by decide +kernel
theorem dL_law_430 : decode cL_law 430 = .ok (.iconst 1, 1) := by decide +kernel
theorem dL_law_431 : decode cL_law 431 = .ok (.iadd, 1) := by decide +kernel
theorem dL_law_432 : decode cL_law 432 = .ok (.iaload, 1) := by decide +kernel
theorem dL_law_433 : decode cL_law 433 = .ok (.aload_n 0, 1) := by decide +kernel
theorem dL_law_434 : decode cL_law 434 = .ok (.iload_n 3, 1) := by decide +kernel
theorem dL_law_435 : decode cL_law 435 = .ok (.iconst 2, 1) := by decide +kernel
theorem dL_law_436 : decode cL_law 436 = .ok (.iadd, 1) := by decide +kernel
theorem dL_law_437 : decode cL_law 437 = .ok (.iaload, 1) := by decide +kernel
theorem dL_law_438 : decode cL_law 438 = .ok (.invokevirtual 69, 3) := by decide +kernel
theorem dL_law_441 : decode cL_law 441 = .ok (.aload_n 2, 1) := by decide +kernel
theorem dL_law_442 : decode cL_law 442 = .ok (.aload_n 0, 1) := by decide +kernel
theorem dL_law_443 : decode cL_law 443 = .ok (.iload_n 3, 1) := by decide +kernel
theorem dL_law_444 : decode cL_law 444 = .ok (.iconst 1, 1) := by decide +kernel
theorem dL_law_445 : decode cL_law 445 = .ok (.iadd, 1) := by decide +kernel
theorem dL_law_446 : decode cL_law 446 = .ok (.iaload, 1) := by decide +kernel
theorem dL_law_447 : decode cL_law 447 = .ok (.aload_n 0, 1) := by decide +kernel
theorem dL_law_448 : decode cL_law 448 = .ok (.iload_n 3, 1) := by decide +kernel
theorem dL_law_449 : decode cL_law 449 = .ok (.iconst 2, 1) := by decide +kernel
theorem dL_law_450 : decode cL_law 450 = .ok (.iadd, 1) := by decide +kernel
theorem dL_law_451 : decode cL_law 451 = .ok (.iaload, 1) := by decide +kernel
theorem dL_law_452 : decode cL_law 452 = .ok (.invokevirtual 72, 3) := by decide +kernel
theorem dL_law_455 : decode cL_law 455 = .ok (.if_icmp .eq 205, 3) := by decide +kernel
theorem dL_law_458 : decode cL_law 458 = .ok (.iconst 0, 1) := by decide +kernel
theorem dL_law_459 : decode cL_law 459 = .ok (.ireturn, 1) := by decide +kernel
theorem dL_law_460 : decode cL_law 460 = .ok (.aload_n 1, 1) := by decide +kernel
theorem dL_law_461 : decode cL_law 461 = .ok (.aload_n 0, 1) := by decide +kernel
theorem dL_law_462 : decode cL_law 462 = .ok (.iload_n 3, 1) := by decide +kernel
theorem dL_law_463 : decode cL_law 463 = .ok (.iconst 1, 1) := by decide +kernel
theorem dL_law_464 : decode cL_law 464 = .ok (.iadd, 1) := by decide +kernel
theorem dL_law_465 : decode cL_law 465 = .ok (.iaload, 1) := by decide +kernel
theorem dL_law_466 : decode cL_law 466 = .ok (.invokevirtual 73, 3) := by decide +kernel
theorem dL_law_469 : decode cL_law 469 = .ok (.dstore 4, 2) := by decide +kernel
theorem dL_law_471 : decode cL_law 471 = .ok (.aload_n 2, 1) := by decide +kernel
theorem dL_law_472 : decode cL_law 472 = .ok (.aload_n 0, 1) := by decide +kernel
theorem dL_law_473 : decode cL_law 473 = .ok (.iload_n 3, 1) := by decide +kernel
theorem dL_law_474 : decode cL_law 474 = .ok (.iconst 1, 1) := by decide +kernel
theorem dL_law_475 : decode cL_law 475 = .ok (.iadd, 1) := by decide +kernel
theorem dL_law_476 : decode cL_law 476 = .ok (.iaload, 1) := by decide +kernel
theorem dL_law_477 : decode cL_law 477 = .ok (.invokevirtual 77, 3) := by decide +kernel
theorem dL_law_480 : decode cL_law 480 = .ok (.dstore 6, 2) := by decide +kernel
theorem dL_law_482 : decode cL_law 482 = .ok (.dload 4, 2) := by decide +kernel
theorem dL_law_484 : decode cL_law 484 = .ok (.dload 6, 2) := by decide +kernel
theorem dL_law_486 : decode cL_law 486 = .ok (.dcmp .l, 1) := by decide +kernel
theorem dL_law_487 : decode cL_law 487 = .ok (.ifCond .eq 21, 3) := by decide +kernel
theorem dL_law_490 : decode cL_law 490 = .ok (.dload 4, 2) := by decide +kernel
theorem dL_law_492 : decode cL_law 492 = .ok (.dload 4, 2) := by decide +kernel
theorem dL_law_494 : decode cL_law 494 = .ok (.dcmp .l, 1) := by decide +kernel
theorem dL_law_495 : decode cL_law 495 = .ok (.ifCond .eq 11, 3) := by decide +kernel
theorem dL_law_498 : decode cL_law 498 = .ok (.dload 6, 2) := by decide +kernel
theorem dL_law_500 : decode cL_law 500 = .ok (.dload 6, 2) := by decide +kernel
theorem dL_law_502 : decode cL_law 502 = .ok (.dcmp .l, 1) := by decide +kernel
theorem dL_law_503 : decode cL_law 503 = .ok (.ifCond .ne 5, 3) := by decide +kernel
theorem dL_law_506 : decode cL_law 506 = .ok (.iconst 0, 1) := by decide +kernel
theorem dL_law_507 : decode cL_law 507 = .ok (.ireturn, 1) := by decide +kernel
theorem dL_law_508 : decode cL_law 508 = .ok (.goto 152, 3) := by decide +kernel
theorem dL_law_511 : decode cL_law 511 = .ok (.aload_n 1, 1) := by decide +kernel
theorem dL_law_512 : decode cL_law 512 = .ok (.aload_n 0, 1) := by decide +kernel
theorem dL_law_513 : decode cL_law 513 = .ok (.iload_n 3, 1) := by decide +kernel
theorem dL_law_514 : decode cL_law 514 = .ok (.iconst 1, 1) := by decide +kernel
theorem dL_law_515 : decode cL_law 515 = .ok (.iadd, 1) := by decide +kernel
theorem dL_law_516 : decode cL_law 516 = .ok (.iaload, 1) := by decide +kernel
theorem dL_law_517 : decode cL_law 517 = .ok (.invokevirtual 78, 3) := by decide +kernel
theorem dL_law_520 : decode cL_law 520 = .ok (.aload_n 2, 1) := by decide +kernel
theorem dL_law_521 : decode cL_law 521 = .ok (.aload_n 0, 1) := by decide +kernel
theorem dL_law_522 : decode cL_law 522 = .ok (.iload_n 3, 1) := by decide +kernel
theorem dL_law_523 : decode cL_law 523 = .ok (.iconst 1, 1) := by decide +kernel
theorem dL_law_524 : decode cL_law 524 = .ok (.iadd, 1) := by decide +kernel
theorem dL_law_525 : decode cL_law 525 = .ok (.iaload, 1) := by decide +kernel
theorem dL_law_526 : decode cL_law 526 = .ok (.invokevirtual 81, 3) := by decide +kernel
theorem dL_law_529 : decode cL_law 529 = .ok (.if_icmp .eq 131, 3) := by decide +kernel
theorem dL_law_532 : decode cL_law 532 = .ok (.iconst 0, 1) := by decide +kernel
theorem dL_law_533 : decode cL_law 533 = .ok (.ireturn, 1) := by decide +kernel
theorem dL_law_534 : decode cL_law 534 = .ok (.aload_n 1, 1) := by decide +kernel
theorem dL_law_535 : decode cL_law 535 = .ok (.invokevirtual 82, 3) := by decide +kernel
theorem dL_law_538 : decode cL_law 538 = .ok (.aload_n 2, 1) := by decide +kernel
theorem dL_law_539 : decode cL_law 539 = .ok (.invokevirtual 85, 3) := by decide +kernel
theorem dL_law_542 : decode cL_law 542 = .ok (.if_icmp .eq 118, 3) := by decide +kernel
theorem dL_law_545 : decode cL_law 545 = .ok (.iconst 0, 1) := by decide +kernel
theorem dL_law_546 : decode cL_law 546 = .ok (.ireturn, 1) := by decide +kernel
theorem dL_law_547 : decode cL_law 547 = .ok (.aload_n 1, 1) := by decide +kernel
theorem dL_law_548 : decode cL_law 548 = .ok (.invokevirtual 86, 3) := by decide +kernel
theorem dL_law_551 : decode cL_law 551 = .ok (.aload_n 2, 1) := by decide +kernel
theorem dL_law_552 : decode cL_law 552 = .ok (.invokevirtual 89, 3) := by decide +kernel
theorem dL_law_555 : decode cL_law 555 = .ok (.if_icmp .eq 105, 3) := by decide +kernel
theorem dL_law_558 : decode cL_law 558 = .ok (.iconst 0, 1) := by decide +kernel
theorem dL_law_559 : decode cL_law 559 = .ok (.ireturn, 1) := by decide +kernel
theorem dL_law_560 : decode cL_law 560 = .ok (.aload_n 1, 1) := by decide +kernel
theorem dL_law_561 : decode cL_law 561 = .ok (.invokevirtual 90, 3) := by decide +kernel
theorem dL_law_564 : decode cL_law 564 = .ok (.aload_n 2, 1) := by decide +kernel
theorem dL_law_565 : decode cL_law 565 = .ok (.invokevirtual 93, 3) := by decide +kernel
theorem dL_law_568 : decode cL_law 568 = .ok (.if_icmp .eq 92, 3) := by decide +kernel
theorem dL_law_571 : decode cL_law 571 = .ok (.iconst 0, 1) := by decide +kernel
theorem dL_law_572 : decode cL_law 572 = .ok (.ireturn, 1) := by decide +kernel
theorem dL_law_573 : decode cL_law 573 = .ok (.aload_n 1, 1) := by decide +kernel
theorem dL_law_574 : decode cL_law 574 = .ok (.invokevirtual 94, 3) := by decide +kernel
theorem dL_law_577 : decode cL_law 577 = .ok (.dstore 4, 2) := by decide +kernel
theorem dL_law_579 : decode cL_law 579 = .ok (.aload_n 2, 1) := by decide +kernel
theorem dL_law_580 : decode cL_law 580 = .ok (.invokevirtual 98, 3) := by decide +kernel
theorem dL_law_583 : decode cL_law 583 = .ok (.dstore 6, 2) := by decide +kernel
theorem dL_law_585 : decode cL_law 585 = .ok (.dload 4, 2) := by decide +kernel
theorem dL_law_587 : decode cL_law 587 = .ok (.dload 6, 2) := by decide +kernel
theorem dL_law_589 : decode cL_law 589 = .ok (.dcmp .l, 1) := by decide +kernel
theorem dL_law_590 : decode cL_law 590 = .ok (.ifCond .eq 21, 3) := by decide +kernel
theorem dL_law_593 : decode cL_law 593 = .ok (.dload 4, 2) := by decide +kernel
theorem dL_law_595 : decode cL_law 595 = .ok (.dload 4, 2) := by decide +kernel
theorem dL_law_597 : decode cL_law 597 = .ok (.dcmp .l, 1) := by decide +kernel
theorem dL_law_598 : decode cL_law 598 = .ok (.ifCond .eq 11, 3) := by decide +kernel
theorem dL_law_601 : decode cL_law 601 = .ok (.dload 6, 2) := by decide +kernel
theorem dL_law_603 : decode cL_law 603 = .ok (.dload 6, 2) := by decide +kernel
theorem dL_law_605 : decode cL_law 605 = .ok (.dcmp .l, 1) := by decide +kernel
theorem dL_law_606 : decode cL_law 606 = .ok (.ifCond .ne 5, 3) := by decide +kernel
theorem dL_law_609 : decode cL_law 609 = .ok (.iconst 0, 1) := by decide +kernel
theorem dL_law_610 : decode cL_law 610 = .ok (.ireturn, 1) := by decide +kernel
theorem dL_law_611 : decode cL_law 611 = .ok (.goto 49, 3) := by decide +kernel
theorem dL_law_614 : decode cL_law 614 = .ok (.aload_n 1, 1) := by decide +kernel
theorem dL_law_615 : decode cL_law 615 = .ok (.aload_n 0, 1) := by decide +kernel
theorem dL_law_616 : decode cL_law 616 = .ok (.iload_n 3, 1) := by decide +kernel
theorem dL_law_617 : decode cL_law 617 = .ok (.iconst 1, 1) := by decide +kernel
theorem dL_law_618 : decode cL_law 618 = .ok (.iadd, 1) := by decide +kernel
theorem dL_law_619 : decode cL_law 619 = .ok (.iaload, 1) := by decide +kernel
theorem dL_law_620 : decode cL_law 620 = .ok (.invokevirtual 99, 3) := by decide +kernel
theorem dL_law_623 : decode cL_law 623 = .ok (.aload_n 2, 1) := by decide +kernel
theorem dL_law_624 : decode cL_law 624 = .ok (.aload_n 0, 1) := by decide +kernel
theorem dL_law_625 : decode cL_law 625 = .ok (.iload_n 3, 1) := by decide +kernel
theorem dL_law_626 : decode cL_law 626 = .ok (.iconst 1, 1) := by decide +kernel
theorem dL_law_627 : decode cL_law 627 = .ok (.iadd, 1) := by decide +kernel
theorem dL_law_628 : decode cL_law 628 = .ok (.iaload, 1) := by decide +kernel
theorem dL_law_629 : decode cL_law 629 = .ok (.invokevirtual 102, 3) := by decide +kernel
theorem dL_law_632 : decode cL_law 632 = .ok (.if_icmp .eq 28, 3) := by decide +kernel
theorem dL_law_635 : decode cL_law 635 = .ok (.iconst 0, 1) := by decide +kernel
theorem dL_law_636 : decode cL_law 636 = .ok (.ireturn, 1) := by decide +kernel
theorem dL_law_637 : decode cL_law 637 = .ok (.aload_n 1, 1) := by decide +kernel
theorem dL_law_638 : decode cL_law 638 = .ok (.aload_n 0, 1) := by decide +kernel
theorem dL_law_639 : decode cL_law 639 = .ok (.iload_n 3, 1) := by decide +kernel
theorem dL_law_640 : decode cL_law 640 = .ok (.iconst 1, 1) := by decide +kernel
theorem dL_law_641 : decode cL_law 641 = .ok (.iadd, 1) := by decide +kernel
theorem dL_law_642 : decode cL_law 642 = .ok (.iaload, 1) := by decide +kernel
theorem dL_law_643 : decode cL_law 643 = .ok (.invokevirtual 103, 3) := by decide +kernel
theorem dL_law_646 : decode cL_law 646 = .ok (.aload_n 2, 1) := by decide +kernel
theorem dL_law_647 : decode cL_law 647 = .ok (.aload_n 0, 1) := by decide +kernel
theorem dL_law_648 : decode cL_law 648 = .ok (.iload_n 3, 1) := by decide +kernel
theorem dL_law_649 : decode cL_law 649 = .ok (.iconst 1, 1) := by decide +kernel
theorem dL_law_650 : decode cL_law 650 = .ok (.iadd, 1) := by decide +kernel
theorem dL_law_651 : decode cL_law 651 = .ok (.iaload, 1) := by decide +kernel
theorem dL_law_652 : decode cL_law 652 = .ok (.invokevirtual 106, 3) := by decide +kernel
theorem dL_law_655 : decode cL_law 655 = .ok (.if_icmp .eq 5, 3) := by decide +kernel
theorem dL_law_658 : decode cL_law 658 = .ok (.iconst 0, 1) := by decide +kernel
theorem dL_law_659 : decode cL_law 659 = .ok (.ireturn, 1) := by decide +kernel
theorem dL_law_660 : decode cL_law 660 = .ok (.iinc 3 3, 3) := by decide +kernel
theorem dL_law_663 : decode cL_law 663 = .ok (.goto (-645), 3) := by decide +kernel
theorem dL_law_666 : decode cL_law 666 = .ok (.iconst 1, 1) := by decide +kernel
theorem dL_law_667 : decode cL_law 667 = .ok (.ireturn, 1) := by decide +kernel
