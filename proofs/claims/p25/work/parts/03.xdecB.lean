/-! decode rows -/
theorem dX5_init_0 : decode cX5_init 0 = .ok (.aload_n 0, 1) := by decide +kernel
theorem dX5_init_1 : decode cX5_init 1 = .ok (.invokespecial 1, 3) := by decide +kernel
theorem dX5_init_4 : decode cX5_init 4 = .ok (.aload_n 0, 1) := by decide +kernel
theorem dX5_init_5 : decode cX5_init 5 = .ok (.new 7, 3) := by decide +kernel
theorem dX5_init_8 : decode cX5_init 8 = .ok (.dup, 1) := by decide +kernel
theorem dX5_init_9 : decode cX5_init 9 = .ok (.invokespecial 9, 3) := by decide +kernel
theorem dX5_init_12 : decode cX5_init 12 = .ok (.putfield 10, 3) := by decide +kernel
theorem dX5_init_15 : decode cX5_init 15 = .ok (.aload_n 0, 1) := by decide +kernel
theorem dX5_init_16 : decode cX5_init 16 = .ok (.new 7, 3) := by decide +kernel
theorem dX5_init_19 : decode cX5_init 19 = .ok (.dup, 1) := by decide +kernel
theorem dX5_init_20 : decode cX5_init 20 = .ok (.invokespecial 9, 3) := by decide +kernel
theorem dX5_init_23 : decode cX5_init 23 = .ok (.putfield 16, 3) := by decide +kernel
theorem dX5_init_26 : decode cX5_init 26 = .ok (.aload_n 0, 1) := by decide +kernel
theorem dX5_init_27 : decode cX5_init 27 = .ok (.new 7, 3) := by decide +kernel
theorem dX5_init_30 : decode cX5_init 30 = .ok (.dup, 1) := by decide +kernel
theorem dX5_init_31 : decode cX5_init 31 = .ok (.invokespecial 9, 3) := by decide +kernel
theorem dX5_init_34 : decode cX5_init 34 = .ok (.putfield 19, 3) := by decide +kernel
theorem dX5_init_37 : decode cX5_init 37 = .ok (.aload_n 0, 1) := by decide +kernel
theorem dX5_init_38 : decode cX5_init 38 = .ok (.new 22, 3) := by decide +kernel
theorem dX5_init_41 : decode cX5_init 41 = .ok (.dup, 1) := by decide +kernel
theorem dX5_init_42 : decode cX5_init 42 = .ok (.invokespecial 24, 3) := by decide +kernel
theorem dX5_init_45 : decode cX5_init 45 = .ok (.putfield 25, 3) := by decide +kernel
theorem dX5_init_48 : decode cX5_init 48 = .ok (.aload_n 0, 1) := by decide +kernel
theorem dX5_init_49 : decode cX5_init 49 = .ok (.new 29, 3) := by decide +kernel
theorem dX5_init_52 : decode cX5_init 52 = .ok (.dup, 1) := by decide +kernel
theorem dX5_init_53 : decode cX5_init 53 = .ok (.invokespecial 31, 3) := by decide +kernel
theorem dX5_init_56 : decode cX5_init 56 = .ok (.putfield 32, 3) := by decide +kernel
theorem dX5_init_59 : decode cX5_init 59 = .ok (.return_, 1) := by decide +kernel
theorem dX5_readPage_0 : decode cX5_readPage 0 = .ok (.aload_n 0, 1) := by decide +kernel
theorem dX5_readPage_1 : decode cX5_readPage 1 = .ok (.getfield 32, 3) := by decide +kernel
theorem dX5_readPage_4 : decode cX5_readPage 4 = .ok (.invokevirtual 36, 3) := by decide +kernel
theorem dX5_readPage_7 : decode cX5_readPage 7 = .ok (.istore_n 1, 1) := by decide +kernel
theorem dX5_readPage_8 : decode cX5_readPage 8 = .ok (.iload_n 1, 1) := by decide +kernel
theorem dX5_readPage_9 : decode cX5_readPage 9 = .ok (.iconst (-1), 1) := by decide +kernel
theorem dX5_readPage_10 : decode cX5_readPage 10 = .ok (.if_icmp .eq 8, 3) := by decide +kernel
theorem dX5_readPage_13 : decode cX5_readPage 13 = .ok (.bipush (-100), 2) := by decide +kernel
theorem dX5_readPage_15 : decode cX5_readPage 15 = .ok (.iload_n 1, 1) := by decide +kernel
theorem dX5_readPage_16 : decode cX5_readPage 16 = .ok (.isub, 1) := by decide +kernel
theorem dX5_readPage_17 : decode cX5_readPage 17 = .ok (.ireturn, 1) := by decide +kernel
theorem dX5_readPage_18 : decode cX5_readPage 18 = .ok (.aload_n 0, 1) := by decide +kernel
theorem dX5_readPage_19 : decode cX5_readPage 19 = .ok (.getfield 32, 3) := by decide +kernel
theorem dX5_readPage_22 : decode cX5_readPage 22 = .ok (.getfield 40, 3) := by decide +kernel
theorem dX5_readPage_25 : decode cX5_readPage 25 = .ok (.iconst 2, 1) := by decide +kernel
theorem dX5_readPage_26 : decode cX5_readPage 26 = .ok (.aload_n 0, 1) := by decide +kernel
theorem dX5_readPage_27 : decode cX5_readPage 27 = .ok (.getfield 32, 3) := by decide +kernel
theorem dX5_readPage_30 : decode cX5_readPage 30 = .ok (.getfield 44, 3) := by decide +kernel
theorem dX5_readPage_33 : decode cX5_readPage 33 = .ok (.imul, 1) := by decide +kernel
theorem dX5_readPage_34 : decode cX5_readPage 34 = .ok (.if_icmp .lt 5, 3) := by decide +kernel
theorem dX5_readPage_37 : decode cX5_readPage 37 = .ok (.iconst (-1), 1) := by decide +kernel
theorem dX5_readPage_38 : decode cX5_readPage 38 = .ok (.ireturn, 1) := by decide +kernel
theorem dX5_readPage_39 : decode cX5_readPage 39 = .ok (.aload_n 0, 1) := by decide +kernel
theorem dX5_readPage_40 : decode cX5_readPage 40 = .ok (.getfield 25, 3) := by decide +kernel
theorem dX5_readPage_43 : decode cX5_readPage 43 = .ok (.aload_n 0, 1) := by decide +kernel
theorem dX5_readPage_44 : decode cX5_readPage 44 = .ok (.getfield 10, 3) := by decide +kernel
theorem dX5_readPage_47 : decode cX5_readPage 47 = .ok (.invokevirtual 47, 3) := by decide +kernel
theorem dX5_readPage_50 : decode cX5_readPage 50 = .ok (.aload_n 0, 1) := by decide +kernel
theorem dX5_readPage_51 : decode cX5_readPage 51 = .ok (.getfield 10, 3) := by decide +kernel
theorem dX5_readPage_54 : decode cX5_readPage 54 = .ok (.aload_n 0, 1) := by decide +kernel
theorem dX5_readPage_55 : decode cX5_readPage 55 = .ok (.getfield 32, 3) := by decide +kernel
theorem dX5_readPage_58 : decode cX5_readPage 58 = .ok (.invokevirtual 51, 3) := by decide +kernel
theorem dX5_readPage_61 : decode cX5_readPage 61 = .ok (.aload_n 0, 1) := by decide +kernel
theorem dX5_readPage_62 : decode cX5_readPage 62 = .ok (.getfield 10, 3) := by decide +kernel
theorem dX5_readPage_65 : decode cX5_readPage 65 = .ok (.getfield 55, 3) := by decide +kernel
theorem dX5_readPage_68 : decode cX5_readPage 68 = .ok (.getfield 59, 3) := by decide +kernel
theorem dX5_readPage_71 : decode cX5_readPage 71 = .ok (.ireturn, 1) := by decide +kernel
theorem dX5_misread_0 : decode cX5_misread 0 = .ok (.aload_n 0, 1) := by decide +kernel
theorem dX5_misread_1 : decode cX5_misread 1 = .ok (.getfield 10, 3) := by decide +kernel
theorem dX5_misread_4 : decode cX5_misread 4 = .ok (.getfield 55, 3) := by decide +kernel
theorem dX5_misread_7 : decode cX5_misread 7 = .ok (.iload_n 1, 1) := by decide +kernel
theorem dX5_misread_8 : decode cX5_misread 8 = .ok (.invokevirtual 64, 3) := by decide +kernel
theorem dX5_misread_11 : decode cX5_misread 11 = .ok (.ifCond .ne 5, 3) := by decide +kernel
theorem dX5_misread_14 : decode cX5_misread 14 = .ok (.iconst (-1), 1) := by decide +kernel
theorem dX5_misread_15 : decode cX5_misread 15 = .ok (.ireturn, 1) := by decide +kernel
theorem dX5_misread_16 : decode cX5_misread 16 = .ok (.iload_n 2, 1) := by decide +kernel
theorem dX5_misread_17 : decode cX5_misread 17 = .ok (.ifCond .lt 9, 3) := by decide +kernel
theorem dX5_misread_20 : decode cX5_misread 20 = .ok (.iload_n 2, 1) := by decide +kernel
theorem dX5_misread_21 : decode cX5_misread 21 = .ok (.bipush 26, 2) := by decide +kernel
theorem dX5_misread_23 : decode cX5_misread 23 = .ok (.if_icmp .le 6, 3) := by decide +kernel
theorem dX5_misread_26 : decode cX5_misread 26 = .ok (.bipush (-2), 2) := by decide +kernel
theorem dX5_misread_28 : decode cX5_misread 28 = .ok (.ireturn, 1) := by decide +kernel
theorem dX5_misread_29 : decode cX5_misread 29 = .ok (.aload_n 0, 1) := by decide +kernel
theorem dX5_misread_30 : decode cX5_misread 30 = .ok (.getfield 10, 3) := by decide +kernel
theorem dX5_misread_33 : decode cX5_misread 33 = .ok (.iload_n 1, 1) := by decide +kernel
theorem dX5_misread_34 : decode cX5_misread 34 = .ok (.invokevirtual 68, 3) := by decide +kernel
theorem dX5_misread_37 : decode cX5_misread 37 = .ok (.ifCond .eq 6, 3) := by decide +kernel
theorem dX5_misread_40 : decode cX5_misread 40 = .ok (.bipush (-4), 2) := by decide +kernel
theorem dX5_misread_42 : decode cX5_misread 42 = .ok (.ireturn, 1) := by decide +kernel
theorem dX5_misread_43 : decode cX5_misread 43 = .ok (.aload_n 0, 1) := by decide +kernel
theorem dX5_misread_44 : decode cX5_misread 44 = .ok (.getfield 10, 3) := by decide +kernel
theorem dX5_misread_47 : decode cX5_misread 47 = .ok (.getfield 55, 3) := by decide +kernel
theorem dX5_misread_50 : decode cX5_misread 50 = .ok (.getfield 71, 3) := by decide +kernel
theorem dX5_misread_53 : decode cX5_misread 53 = .ok (.iload_n 1, 1) := by decide +kernel
theorem dX5_misread_54 : decode cX5_misread 54 = .ok (.invokestatic 75, 3) := by decide +kernel
theorem dX5_misread_57 : decode cX5_misread 57 = .ok (.iload_n 2, 1) := by decide +kernel
theorem dX5_misread_58 : decode cX5_misread 58 = .ok (.if_icmp .ne 6, 3) := by decide +kernel
theorem dX5_misread_61 : decode cX5_misread 61 = .ok (.bipush (-5), 2) := by decide +kernel
theorem dX5_misread_63 : decode cX5_misread 63 = .ok (.ireturn, 1) := by decide +kernel
theorem dX5_misread_64 : decode cX5_misread 64 = .ok (.aload_n 0, 1) := by decide +kernel
theorem dX5_misread_65 : decode cX5_misread 65 = .ok (.getfield 25, 3) := by decide +kernel
theorem dX5_misread_68 : decode cX5_misread 68 = .ok (.aload_n 0, 1) := by decide +kernel
theorem dX5_misread_69 : decode cX5_misread 69 = .ok (.getfield 10, 3) := by decide +kernel
theorem dX5_misread_72 : decode cX5_misread 72 = .ok (.invokevirtual 47, 3) := by decide +kernel
theorem dX5_misread_75 : decode cX5_misread 75 = .ok (.aload_n 0, 1) := by decide +kernel
theorem dX5_misread_76 : decode cX5_misread 76 = .ok (.getfield 10, 3) := by decide +kernel
theorem dX5_misread_79 : decode cX5_misread 79 = .ok (.getfield 55, 3) := by decide +kernel
theorem dX5_misread_82 : decode cX5_misread 82 = .ok (.iload_n 1, 1) := by decide +kernel
theorem dX5_misread_83 : decode cX5_misread 83 = .ok (.invokevirtual 79, 3) := by decide +kernel
theorem dX5_misread_86 : decode cX5_misread 86 = .ok (.istore_n 3, 1) := by decide +kernel
theorem dX5_misread_87 : decode cX5_misread 87 = .ok (.aload_n 0, 1) := by decide +kernel
theorem dX5_misread_88 : decode cX5_misread 88 = .ok (.getfield 10, 3) := by decide +kernel
theorem dX5_misread_91 : decode cX5_misread 91 = .ok (.getfield 55, 3) := by decide +kernel
theorem dX5_misread_94 : decode cX5_misread 94 = .ok (.getfield 71, 3) := by decide +kernel
theorem dX5_misread_97 : decode cX5_misread 97 = .ok (.iload_n 1, 1) := by decide +kernel
theorem dX5_misread_98 : decode cX5_misread 98 = .ok (.iload_n 2, 1) := by decide +kernel
theorem dX5_misread_99 : decode cX5_misread 99 = .ok (.invokestatic 83, 3) := by decide +kernel
theorem dX5_misread_102 : decode cX5_misread 102 = .ok (.iload_n 3, 1) := by decide +kernel
theorem dX5_misread_103 : decode cX5_misread 103 = .ok (.ireturn, 1) := by decide +kernel
theorem dX5_correct_0 : decode cX5_correct 0 = .ok (.aload_n 0, 1) := by decide +kernel
theorem dX5_correct_1 : decode cX5_correct 1 = .ok (.getfield 10, 3) := by decide +kernel
theorem dX5_correct_4 : decode cX5_correct 4 = .ok (.getfield 55, 3) := by decide +kernel
theorem dX5_correct_7 : decode cX5_correct 7 = .ok (.iload_n 1, 1) := by decide +kernel
theorem dX5_correct_8 : decode cX5_correct 8 = .ok (.invokevirtual 64, 3) := by decide +kernel
theorem dX5_correct_11 : decode cX5_correct 11 = .ok (.ifCond .ne 5, 3) := by decide +kernel
theorem dX5_correct_14 : decode cX5_correct 14 = .ok (.iconst (-1), 1) := by decide +kernel
theorem dX5_correct_15 : decode cX5_correct 15 = .ok (.ireturn, 1) := by decide +kernel
theorem dX5_correct_16 : decode cX5_correct 16 = .ok (.aload_n 0, 1) := by decide +kernel
theorem dX5_correct_17 : decode cX5_correct 17 = .ok (.getfield 10, 3) := by decide +kernel
theorem dX5_correct_20 : decode cX5_correct 20 = .ok (.iload_n 1, 1) := by decide +kernel
theorem dX5_correct_21 : decode cX5_correct 21 = .ok (.invokevirtual 87, 3) := by decide +kernel
theorem dX5_correct_24 : decode cX5_correct 24 = .ok (.ifCond .ne 6, 3) := by decide +kernel
theorem dX5_correct_27 : decode cX5_correct 27 = .ok (.bipush (-4), 2) := by decide +kernel
theorem dX5_correct_29 : decode cX5_correct 29 = .ok (.ireturn, 1) := by decide +kernel
theorem dX5_correct_30 : decode cX5_correct 30 = .ok (.aload_n 0, 1) := by decide +kernel
theorem dX5_correct_31 : decode cX5_correct 31 = .ok (.getfield 10, 3) := by decide +kernel
theorem dX5_correct_34 : decode cX5_correct 34 = .ok (.getfield 55, 3) := by decide +kernel
theorem dX5_correct_37 : decode cX5_correct 37 = .ok (.iload_n 1, 1) := by decide +kernel
theorem dX5_correct_38 : decode cX5_correct 38 = .ok (.invokevirtual 90, 3) := by decide +kernel
theorem dX5_correct_41 : decode cX5_correct 41 = .ok (.ifCond .eq 6, 3) := by decide +kernel
theorem dX5_correct_44 : decode cX5_correct 44 = .ok (.bipush (-5), 2) := by decide +kernel
theorem dX5_correct_46 : decode cX5_correct 46 = .ok (.ireturn, 1) := by decide +kernel
theorem dX5_correct_47 : decode cX5_correct 47 = .ok (.aload_n 0, 1) := by decide +kernel
theorem dX5_correct_48 : decode cX5_correct 48 = .ok (.getfield 25, 3) := by decide +kernel
theorem dX5_correct_51 : decode cX5_correct 51 = .ok (.aload_n 0, 1) := by decide +kernel
theorem dX5_correct_52 : decode cX5_correct 52 = .ok (.getfield 10, 3) := by decide +kernel
theorem dX5_correct_55 : decode cX5_correct 55 = .ok (.invokevirtual 47, 3) := by decide +kernel
theorem dX5_correct_58 : decode cX5_correct 58 = .ok (.aload_n 0, 1) := by decide +kernel
theorem dX5_correct_59 : decode cX5_correct 59 = .ok (.getfield 10, 3) := by decide +kernel
theorem dX5_correct_62 : decode cX5_correct 62 = .ok (.iload_n 1, 1) := by decide +kernel
theorem dX5_correct_63 : decode cX5_correct 63 = .ok (.invokevirtual 93, 3) := by decide +kernel
theorem dX5_correct_66 : decode cX5_correct 66 = .ok (.aload_n 0, 1) := by decide +kernel
theorem dX5_correct_67 : decode cX5_correct 67 = .ok (.getfield 10, 3) := by decide +kernel
theorem dX5_correct_70 : decode cX5_correct 70 = .ok (.invokevirtual 97, 3) := by decide +kernel
theorem dX5_correct_73 : decode cX5_correct 73 = .ok (.ireturn, 1) := by decide +kernel
theorem dX5_setPace_0 : decode cX5_setPace 0 = .ok (.iload_n 1, 1) := by decide +kernel
theorem dX5_setPace_1 : decode cX5_setPace 1 = .ok (.invokestatic 100, 3) := by decide +kernel
theorem dX5_setPace_4 : decode cX5_setPace 4 = .ok (.ifCond .ne 5, 3) := by decide +kernel
theorem dX5_setPace_7 : decode cX5_setPace 7 = .ok (.iconst (-1), 1) := by decide +kernel
theorem dX5_setPace_8 : decode cX5_setPace 8 = .ok (.ireturn, 1) := by decide +kernel
theorem dX5_setPace_9 : decode cX5_setPace 9 = .ok (.iload_n 2, 1) := by decide +kernel
theorem dX5_setPace_10 : decode cX5_setPace 10 = .ok (.iconst 1, 1) := by decide +kernel
theorem dX5_setPace_11 : decode cX5_setPace 11 = .ok (.if_icmp .lt 9, 3) := by decide +kernel
theorem dX5_setPace_14 : decode cX5_setPace 14 = .ok (.iload_n 2, 1) := by decide +kernel
theorem dX5_setPace_15 : decode cX5_setPace 15 = .ok (.bipush 9, 2) := by decide +kernel
theorem dX5_setPace_17 : decode cX5_setPace 17 = .ok (.if_icmp .le 6, 3) := by decide +kernel
theorem dX5_setPace_20 : decode cX5_setPace 20 = .ok (.bipush (-2), 2) := by decide +kernel
theorem dX5_setPace_22 : decode cX5_setPace 22 = .ok (.ireturn, 1) := by decide +kernel
theorem dX5_setPace_23 : decode cX5_setPace 23 = .ok (.aload_n 0, 1) := by decide +kernel
theorem dX5_setPace_24 : decode cX5_setPace 24 = .ok (.getfield 10, 3) := by decide +kernel
theorem dX5_setPace_27 : decode cX5_setPace 27 = .ok (.iload_n 1, 1) := by decide +kernel
theorem dX5_setPace_28 : decode cX5_setPace 28 = .ok (.invokevirtual 103, 3) := by decide +kernel
theorem dX5_setPace_31 : decode cX5_setPace 31 = .ok (.getfield 107, 3) := by decide +kernel
theorem dX5_setPace_34 : decode cX5_setPace 34 = .ok (.istore_n 3, 1) := by decide +kernel
theorem dX5_setPace_35 : decode cX5_setPace 35 = .ok (.iload_n 3, 1) := by decide +kernel
theorem dX5_setPace_36 : decode cX5_setPace 36 = .ok (.iload_n 2, 1) := by decide +kernel
theorem dX5_setPace_37 : decode cX5_setPace 37 = .ok (.if_icmp .ne 6, 3) := by decide +kernel
theorem dX5_setPace_40 : decode cX5_setPace 40 = .ok (.bipush (-5), 2) := by decide +kernel
theorem dX5_setPace_42 : decode cX5_setPace 42 = .ok (.ireturn, 1) := by decide +kernel
theorem dX5_setPace_43 : decode cX5_setPace 43 = .ok (.aload_n 0, 1) := by decide +kernel
theorem dX5_setPace_44 : decode cX5_setPace 44 = .ok (.getfield 25, 3) := by decide +kernel
theorem dX5_setPace_47 : decode cX5_setPace 47 = .ok (.aload_n 0, 1) := by decide +kernel
theorem dX5_setPace_48 : decode cX5_setPace 48 = .ok (.getfield 10, 3) := by decide +kernel
theorem dX5_setPace_51 : decode cX5_setPace 51 = .ok (.invokevirtual 47, 3) := by decide +kernel
theorem dX5_setPace_54 : decode cX5_setPace 54 = .ok (.aload_n 0, 1) := by decide +kernel
theorem dX5_setPace_55 : decode cX5_setPace 55 = .ok (.getfield 10, 3) := by decide +kernel
theorem dX5_setPace_58 : decode cX5_setPace 58 = .ok (.iload_n 1, 1) := by decide +kernel
theorem dX5_setPace_59 : decode cX5_setPace 59 = .ok (.invokevirtual 103, 3) := by decide +kernel
theorem dX5_setPace_62 : decode cX5_setPace 62 = .ok (.iload_n 2, 1) := by decide +kernel
theorem dX5_setPace_63 : decode cX5_setPace 63 = .ok (.putfield 107, 3) := by decide +kernel
theorem dX5_setPace_66 : decode cX5_setPace 66 = .ok (.iload_n 3, 1) := by decide +kernel
theorem dX5_setPace_67 : decode cX5_setPace 67 = .ok (.ireturn, 1) := by decide +kernel
theorem dX5_pour_0 : decode cX5_pour 0 = .ok (.iload_n 1, 1) := by decide +kernel
theorem dX5_pour_1 : decode cX5_pour 1 = .ok (.iconst 1, 1) := by decide +kernel
theorem dX5_pour_2 : decode cX5_pour 2 = .ok (.if_icmp .lt 9, 3) := by decide +kernel
theorem dX5_pour_5 : decode cX5_pour 5 = .ok (.iload_n 1, 1) := by decide +kernel
theorem dX5_pour_6 : decode cX5_pour 6 = .ok (.bipush 80, 2) := by decide +kernel
theorem dX5_pour_8 : decode cX5_pour 8 = .ok (.if_icmp .le 6, 3) := by decide +kernel
theorem dX5_pour_11 : decode cX5_pour 11 = .ok (.bipush (-2), 2) := by decide +kernel
theorem dX5_pour_13 : decode cX5_pour 13 = .ok (.ireturn, 1) := by decide +kernel
theorem dX5_pour_14 : decode cX5_pour 14 = .ok (.aload_n 0, 1) := by decide +kernel
theorem dX5_pour_15 : decode cX5_pour 15 = .ok (.getfield 10, 3) := by decide +kernel
theorem dX5_pour_18 : decode cX5_pour 18 = .ok (.getfield 112, 3) := by decide +kernel
theorem dX5_pour_21 : decode cX5_pour 21 = .ok (.iload_n 1, 1) := by decide +kernel
theorem dX5_pour_22 : decode cX5_pour 22 = .ok (.iadd, 1) := by decide +kernel
theorem dX5_pour_23 : decode cX5_pour 23 = .ok (.sipush 9999, 3) := by decide +kernel
theorem dX5_pour_26 : decode cX5_pour 26 = .ok (.if_icmp .le 6, 3) := by decide +kernel
theorem dX5_pour_29 : decode cX5_pour 29 = .ok (.bipush (-3), 2) := by decide +kernel
theorem dX5_pour_31 : decode cX5_pour 31 = .ok (.ireturn, 1) := by decide +kernel
theorem dX5_pour_32 : decode cX5_pour 32 = .ok (.aload_n 0, 1) := by decide +kernel
theorem dX5_pour_33 : decode cX5_pour 33 = .ok (.getfield 25, 3) := by decide +kernel
theorem dX5_pour_36 : decode cX5_pour 36 = .ok (.aload_n 0, 1) := by decide +kernel
theorem dX5_pour_37 : decode cX5_pour 37 = .ok (.getfield 10, 3) := by decide +kernel
theorem dX5_pour_40 : decode cX5_pour 40 = .ok (.invokevirtual 47, 3) := by decide +kernel
theorem dX5_pour_43 : decode cX5_pour 43 = .ok (.aload_n 0, 1) := by decide +kernel
theorem dX5_pour_44 : decode cX5_pour 44 = .ok (.getfield 10, 3) := by decide +kernel
theorem dX5_pour_47 : decode cX5_pour 47 = .ok (.dup, 1) := by decide +kernel
theorem dX5_pour_48 : decode cX5_pour 48 = .ok (.getfield 112, 3) := by decide +kernel
theorem dX5_pour_51 : decode cX5_pour 51 = .ok (.iload_n 1, 1) := by decide +kernel
theorem dX5_pour_52 : decode cX5_pour 52 = .ok (.iadd, 1) := by decide +kernel
theorem dX5_pour_53 : decode cX5_pour 53 = .ok (.putfield 112, 3) := by decide +kernel
theorem dX5_pour_56 : decode cX5_pour 56 = .ok (.aload_n 0, 1) := by decide +kernel
theorem dX5_pour_57 : decode cX5_pour 57 = .ok (.getfield 10, 3) := by decide +kernel
theorem dX5_pour_60 : decode cX5_pour 60 = .ok (.dup, 1) := by decide +kernel
theorem dX5_pour_61 : decode cX5_pour 61 = .ok (.getfield 115, 3) := by decide +kernel
theorem dX5_pour_64 : decode cX5_pour 64 = .ok (.iload_n 1, 1) := by decide +kernel
theorem dX5_pour_65 : decode cX5_pour 65 = .ok (.i2f, 1) := by decide +kernel
theorem dX5_pour_66 : decode cX5_pour 66 = .ok (.ldc 119, 2) := by decide +kernel
theorem dX5_pour_68 : decode cX5_pour 68 = .ok (.fdiv, 1) := by decide +kernel
theorem dX5_pour_69 : decode cX5_pour 69 = .ok (.fadd, 1) := by decide +kernel
theorem dX5_pour_70 : decode cX5_pour 70 = .ok (.putfield 115, 3) := by decide +kernel
theorem dX5_pour_73 : decode cX5_pour 73 = .ok (.aload_n 0, 1) := by decide +kernel
theorem dX5_pour_74 : decode cX5_pour 74 = .ok (.getfield 10, 3) := by decide +kernel
theorem dX5_pour_77 : decode cX5_pour 77 = .ok (.getfield 112, 3) := by decide +kernel
theorem dX5_pour_80 : decode cX5_pour 80 = .ok (.ireturn, 1) := by decide +kernel
theorem dX5_set_0 : decode cX5_set 0 = .ok (.iload_n 1, 1) := by decide +kernel
theorem dX5_set_1 : decode cX5_set 1 = .ok (.ifCond .lt 8, 3) := by decide +kernel
theorem dX5_set_4 : decode cX5_set 4 = .ok (.iload_n 1, 1) := by decide +kernel
theorem dX5_set_5 : decode cX5_set 5 = .ok (.iconst 2, 1) := by decide +kernel
theorem dX5_set_6 : decode cX5_set 6 = .ok (.if_icmp .le 5, 3) := by decide +kernel
theorem dX5_set_9 : decode cX5_set 9 = .ok (.iconst (-1), 1) := by decide +kernel
theorem dX5_set_10 : decode cX5_set 10 = .ok (.ireturn, 1) := by decide +kernel
theorem dX5_set_11 : decode cX5_set 11 = .ok (.iload_n 2, 1) := by decide +kernel
theorem dX5_set_12 : decode cX5_set 12 = .ok (.getstatic 120, 3) := by decide +kernel
theorem dX5_set_15 : decode cX5_set 15 = .ok (.iload_n 1, 1) := by decide +kernel
theorem dX5_set_16 : decode cX5_set 16 = .ok (.invokestatic 75, 3) := by decide +kernel
theorem dX5_set_19 : decode cX5_set 19 = .ok (.if_icmp .lt 14, 3) := by decide +kernel
theorem dX5_set_22 : decode cX5_set 22 = .ok (.iload_n 2, 1) := by decide +kernel
theorem dX5_set_23 : decode cX5_set 23 = .ok (.getstatic 123, 3) := by decide +kernel
theorem dX5_set_26 : decode cX5_set 26 = .ok (.iload_n 1, 1) := by decide +kernel
theorem dX5_set_27 : decode cX5_set 27 = .ok (.invokestatic 75, 3) := by decide +kernel
theorem dX5_set_30 : decode cX5_set 30 = .ok (.if_icmp .le 6, 3) := by decide +kernel
theorem dX5_set_33 : decode cX5_set 33 = .ok (.bipush (-2), 2) := by decide +kernel
theorem dX5_set_35 : decode cX5_set 35 = .ok (.ireturn, 1) := by decide +kernel
theorem dX5_set_36 : decode cX5_set 36 = .ok (.aload_n 0, 1) := by decide +kernel
theorem dX5_set_37 : decode cX5_set 37 = .ok (.getfield 10, 3) := by decide +kernel
theorem dX5_set_40 : decode cX5_set 40 = .ok (.getfield 126, 3) := by decide +kernel
theorem dX5_set_43 : decode cX5_set 43 = .ok (.iload_n 1, 1) := by decide +kernel
theorem dX5_set_44 : decode cX5_set 44 = .ok (.invokestatic 75, 3) := by decide +kernel
theorem dX5_set_47 : decode cX5_set 47 = .ok (.istore_n 3, 1) := by decide +kernel
theorem dX5_set_48 : decode cX5_set 48 = .ok (.iload_n 3, 1) := by decide +kernel
theorem dX5_set_49 : decode cX5_set 49 = .ok (.iload_n 2, 1) := by decide +kernel
theorem dX5_set_50 : decode cX5_set 50 = .ok (.if_icmp .ne 6, 3) := by decide +kernel
theorem dX5_set_53 : decode cX5_set 53 = .ok (.bipush (-5), 2) := by decide +kernel
theorem dX5_set_55 : decode cX5_set 55 = .ok (.ireturn, 1) := by decide +kernel
theorem dX5_set_56 : decode cX5_set 56 = .ok (.aload_n 0, 1) := by decide +kernel
theorem dX5_set_57 : decode cX5_set 57 = .ok (.getfield 25, 3) := by decide +kernel
theorem dX5_set_60 : decode cX5_set 60 = .ok (.aload_n 0, 1) := by decide +kernel
theorem dX5_set_61 : decode cX5_set 61 = .ok (.getfield 10, 3) := by decide +kernel
theorem dX5_set_64 : decode cX5_set 64 = .ok (.invokevirtual 47, 3) := by decide +kernel
theorem dX5_set_67 : decode cX5_set 67 = .ok (.aload_n 0, 1) := by decide +kernel
theorem dX5_set_68 : decode cX5_set 68 = .ok (.getfield 10, 3) := by decide +kernel
theorem dX5_set_71 : decode cX5_set 71 = .ok (.getfield 126, 3) := by decide +kernel
theorem dX5_set_74 : decode cX5_set 74 = .ok (.iload_n 1, 1) := by decide +kernel
theorem dX5_set_75 : decode cX5_set 75 = .ok (.iload_n 2, 1) := by decide +kernel
theorem dX5_set_76 : decode cX5_set 76 = .ok (.invokestatic 83, 3) := by decide +kernel
theorem dX5_set_79 : decode cX5_set 79 = .ok (.iload_n 3, 1) := by decide +kernel
theorem dX5_set_80 : decode cX5_set 80 = .ok (.ireturn, 1) := by decide +kernel
theorem dX5_pass_0 : decode cX5_pass 0 = .ok (.iload_n 1, 1) := by decide +kernel
theorem dX5_pass_1 : decode cX5_pass 1 = .ok (.iconst 1, 1) := by decide +kernel
theorem dX5_pass_2 : decode cX5_pass 2 = .ok (.if_icmp .lt 9, 3) := by decide +kernel
theorem dX5_pass_5 : decode cX5_pass 5 = .ok (.iload_n 1, 1) := by decide +kernel
theorem dX5_pass_6 : decode cX5_pass 6 = .ok (.bipush 99, 2) := by decide +kernel
theorem dX5_pass_8 : decode cX5_pass 8 = .ok (.if_icmp .le 6, 3) := by decide +kernel
theorem dX5_pass_11 : decode cX5_pass 11 = .ok (.bipush (-2), 2) := by decide +kernel
theorem dX5_pass_13 : decode cX5_pass 13 = .ok (.ireturn, 1) := by decide +kernel
theorem dX5_pass_14 : decode cX5_pass 14 = .ok (.aload_n 0, 1) := by decide +kernel
theorem dX5_pass_15 : decode cX5_pass 15 = .ok (.getfield 10, 3) := by decide +kernel
theorem dX5_pass_18 : decode cX5_pass 18 = .ok (.getfield 129, 3) := by decide +kernel
theorem dX5_pass_21 : decode cX5_pass 21 = .ok (.iload_n 1, 1) := by decide +kernel
theorem dX5_pass_22 : decode cX5_pass 22 = .ok (.iadd, 1) := by decide +kernel
theorem dX5_pass_23 : decode cX5_pass 23 = .ok (.ldc 132, 2) := by decide +kernel
theorem dX5_pass_25 : decode cX5_pass 25 = .ok (.if_icmp .le 6, 3) := by decide +kernel
theorem dX5_pass_28 : decode cX5_pass 28 = .ok (.bipush (-3), 2) := by decide +kernel
theorem dX5_pass_30 : decode cX5_pass 30 = .ok (.ireturn, 1) := by decide +kernel
theorem dX5_pass_31 : decode cX5_pass 31 = .ok (.aload_n 0, 1) := by decide +kernel
theorem dX5_pass_32 : decode cX5_pass 32 = .ok (.getfield 25, 3) := by decide +kernel
theorem dX5_pass_35 : decode cX5_pass 35 = .ok (.aload_n 0, 1) := by decide +kernel
theorem dX5_pass_36 : decode cX5_pass 36 = .ok (.getfield 10, 3) := by decide +kernel
theorem dX5_pass_39 : decode cX5_pass 39 = .ok (.invokevirtual 47, 3) := by decide +kernel
theorem dX5_pass_42 : decode cX5_pass 42 = .ok (.aload_n 0, 1) := by decide +kernel
theorem dX5_pass_43 : decode cX5_pass 43 = .ok (.getfield 10, 3) := by decide +kernel
theorem dX5_pass_46 : decode cX5_pass 46 = .ok (.getfield 133, 3) := by decide +kernel
theorem dX5_pass_49 : decode cX5_pass 49 = .ok (.istore_n 2, 1) := by decide +kernel
theorem dX5_pass_50 : decode cX5_pass 50 = .ok (.iconst 0, 1) := by decide +kernel
theorem dX5_pass_51 : decode cX5_pass 51 = .ok (.istore_n 3, 1) := by decide +kernel
theorem dX5_pass_52 : decode cX5_pass 52 = .ok (.iload_n 3, 1) := by decide +kernel
theorem dX5_pass_53 : decode cX5_pass 53 = .ok (.iload_n 1, 1) := by decide +kernel
theorem dX5_pass_54 : decode cX5_pass 54 = .ok (.if_icmp .ge 17, 3) := by decide +kernel
theorem dX5_pass_57 : decode cX5_pass 57 = .ok (.aload_n 0, 1) := by decide +kernel
theorem dX5_pass_58 : decode cX5_pass 58 = .ok (.getfield 10, 3) := by decide +kernel
theorem dX5_pass_61 : decode cX5_pass 61 = .ok (.invokevirtual 136, 3) := by decide +kernel
theorem dX5_pass_64 : decode cX5_pass 64 = .ok (.pop, 1) := by decide +kernel
theorem dX5_pass_65 : decode cX5_pass 65 = .ok (.iinc 3 1, 3) := by decide +kernel
theorem dX5_pass_68 : decode cX5_pass 68 = .ok (.goto (-16), 3) := by decide +kernel
theorem dX5_pass_71 : decode cX5_pass 71 = .ok (.aload_n 0, 1) := by decide +kernel
theorem dX5_pass_72 : decode cX5_pass 72 = .ok (.getfield 10, 3) := by decide +kernel
theorem dX5_pass_75 : decode cX5_pass 75 = .ok (.getfield 133, 3) := by decide +kernel
theorem dX5_pass_78 : decode cX5_pass 78 = .ok (.iload_n 2, 1) := by decide +kernel
theorem dX5_pass_79 : decode cX5_pass 79 = .ok (.isub, 1) := by decide +kernel
theorem dX5_pass_80 : decode cX5_pass 80 = .ok (.ireturn, 1) := by decide +kernel
theorem dX5_type_0 : decode cX5_type 0 = .ok (.aload_n 0, 1) := by decide +kernel
theorem dX5_type_1 : decode cX5_type 1 = .ok (.getfield 32, 3) := by decide +kernel
theorem dX5_type_4 : decode cX5_type 4 = .ok (.iload_n 1, 1) := by decide +kernel
theorem dX5_type_5 : decode cX5_type 5 = .ok (.invokevirtual 140, 3) := by decide +kernel
theorem dX5_type_8 : decode cX5_type 8 = .ok (.ifCond .eq 13, 3) := by decide +kernel
theorem dX5_type_11 : decode cX5_type 11 = .ok (.aload_n 0, 1) := by decide +kernel
theorem dX5_type_12 : decode cX5_type 12 = .ok (.getfield 32, 3) := by decide +kernel
theorem dX5_type_15 : decode cX5_type 15 = .ok (.getfield 144, 3) := by decide +kernel
theorem dX5_type_18 : decode cX5_type 18 = .ok (.goto 5, 3) := by decide +kernel
theorem dX5_type_21 : decode cX5_type 21 = .ok (.bipush (-3), 2) := by decide +kernel
theorem dX5_type_23 : decode cX5_type 23 = .ok (.ireturn, 1) := by decide +kernel
theorem dX5_clearText_0 : decode cX5_clearText 0 = .ok (.aload_n 0, 1) := by decide +kernel
theorem dX5_clearText_1 : decode cX5_clearText 1 = .ok (.getfield 32, 3) := by decide +kernel
theorem dX5_clearText_4 : decode cX5_clearText 4 = .ok (.getfield 144, 3) := by decide +kernel
theorem dX5_clearText_7 : decode cX5_clearText 7 = .ok (.istore_n 1, 1) := by decide +kernel
theorem dX5_clearText_8 : decode cX5_clearText 8 = .ok (.aload_n 0, 1) := by decide +kernel
theorem dX5_clearText_9 : decode cX5_clearText 9 = .ok (.getfield 32, 3) := by decide +kernel
theorem dX5_clearText_12 : decode cX5_clearText 12 = .ok (.iconst 0, 1) := by decide +kernel
theorem dX5_clearText_13 : decode cX5_clearText 13 = .ok (.putfield 144, 3) := by decide +kernel
theorem dX5_clearText_16 : decode cX5_clearText 16 = .ok (.iload_n 1, 1) := by decide +kernel
theorem dX5_clearText_17 : decode cX5_clearText 17 = .ok (.ireturn, 1) := by decide +kernel
theorem dX5_keep_0 : decode cX5_keep 0 = .ok (.aload_n 0, 1) := by decide +kernel
theorem dX5_keep_1 : decode cX5_keep 1 = .ok (.getfield 19, 3) := by decide +kernel
theorem dX5_keep_4 : decode cX5_keep 4 = .ok (.aload_n 0, 1) := by decide +kernel
theorem dX5_keep_5 : decode cX5_keep 5 = .ok (.getfield 10, 3) := by decide +kernel
theorem dX5_keep_8 : decode cX5_keep 8 = .ok (.invokevirtual 154, 3) := by decide +kernel
theorem dX5_keep_11 : decode cX5_keep 11 = .ok (.aload_n 0, 1) := by decide +kernel
theorem dX5_keep_12 : decode cX5_keep 12 = .ok (.iconst 1, 1) := by decide +kernel
theorem dX5_keep_13 : decode cX5_keep 13 = .ok (.putfield 157, 3) := by decide +kernel
theorem dX5_keep_16 : decode cX5_keep 16 = .ok (.aload_n 0, 1) := by decide +kernel
theorem dX5_keep_17 : decode cX5_keep 17 = .ok (.getfield 10, 3) := by decide +kernel
theorem dX5_keep_20 : decode cX5_keep 20 = .ok (.getfield 129, 3) := by decide +kernel
theorem dX5_keep_23 : decode cX5_keep 23 = .ok (.ireturn, 1) := by decide +kernel
theorem dX5_restore_0 : decode cX5_restore 0 = .ok (.aload_n 0, 1) := by decide +kernel
theorem dX5_restore_1 : decode cX5_restore 1 = .ok (.getfield 157, 3) := by decide +kernel
theorem dX5_restore_4 : decode cX5_restore 4 = .ok (.ifCond .ne 6, 3) := by decide +kernel
theorem dX5_restore_7 : decode cX5_restore 7 = .ok (.bipush (-5), 2) := by decide +kernel
theorem dX5_restore_9 : decode cX5_restore 9 = .ok (.ireturn, 1) := by decide +kernel
theorem dX5_restore_10 : decode cX5_restore 10 = .ok (.aload_n 0, 1) := by decide +kernel
theorem dX5_restore_11 : decode cX5_restore 11 = .ok (.getfield 25, 3) := by decide +kernel
theorem dX5_restore_14 : decode cX5_restore 14 = .ok (.aload_n 0, 1) := by decide +kernel
theorem dX5_restore_15 : decode cX5_restore 15 = .ok (.getfield 10, 3) := by decide +kernel
theorem dX5_restore_18 : decode cX5_restore 18 = .ok (.invokevirtual 47, 3) := by decide +kernel
theorem dX5_restore_21 : decode cX5_restore 21 = .ok (.aload_n 0, 1) := by decide +kernel
theorem dX5_restore_22 : decode cX5_restore 22 = .ok (.getfield 10, 3) := by decide +kernel
theorem dX5_restore_25 : decode cX5_restore 25 = .ok (.aload_n 0, 1) := by decide +kernel
theorem dX5_restore_26 : decode cX5_restore 26 = .ok (.getfield 19, 3) := by decide +kernel
theorem dX5_restore_29 : decode cX5_restore 29 = .ok (.invokevirtual 154, 3) := by decide +kernel
theorem dX5_restore_32 : decode cX5_restore 32 = .ok (.aload_n 0, 1) := by decide +kernel
theorem dX5_restore_33 : decode cX5_restore 33 = .ok (.getfield 10, 3) := by decide +kernel
theorem dX5_restore_36 : decode cX5_restore 36 = .ok (.getfield 129, 3) := by decide +kernel
theorem dX5_restore_39 : decode cX5_restore 39 = .ok (.ireturn, 1) := by decide +kernel
theorem dX5_place_0 : decode cX5_place 0 = .ok (.aload_n 0, 1) := by decide +kernel
theorem dX5_place_1 : decode cX5_place 1 = .ok (.getfield 10, 3) := by decide +kernel
theorem dX5_place_4 : decode cX5_place 4 = .ok (.getfield 55, 3) := by decide +kernel
theorem dX5_place_7 : decode cX5_place 7 = .ok (.astore_n 3, 1) := by decide +kernel
theorem dX5_place_8 : decode cX5_place 8 = .ok (.aload_n 3, 1) := by decide +kernel
theorem dX5_place_9 : decode cX5_place 9 = .ok (.iload_n 1, 1) := by decide +kernel
theorem dX5_place_10 : decode cX5_place 10 = .ok (.invokevirtual 64, 3) := by decide +kernel
theorem dX5_place_13 : decode cX5_place 13 = .ok (.ifCond .ne 5, 3) := by decide +kernel
theorem dX5_place_16 : decode cX5_place 16 = .ok (.iconst (-1), 1) := by decide +kernel
theorem dX5_place_17 : decode cX5_place 17 = .ok (.ireturn, 1) := by decide +kernel
theorem dX5_place_18 : decode cX5_place 18 = .ok (.iload_n 2, 1) := by decide +kernel
theorem dX5_place_19 : decode cX5_place 19 = .ok (.tableswitch 114 0 6 #[41, 50, 59, 68, 77, 86, 92], 41) := by decide +kernel
theorem dX5_place_60 : decode cX5_place 60 = .ok (.aload_n 3, 1) := by decide +kernel
theorem dX5_place_61 : decode cX5_place 61 = .ok (.getfield 161, 3) := by decide +kernel
theorem dX5_place_64 : decode cX5_place 64 = .ok (.iload_n 1, 1) := by decide +kernel
theorem dX5_place_65 : decode cX5_place 65 = .ok (.invokestatic 75, 3) := by decide +kernel
theorem dX5_place_68 : decode cX5_place 68 = .ok (.ireturn, 1) := by decide +kernel
theorem dX5_place_69 : decode cX5_place 69 = .ok (.aload_n 3, 1) := by decide +kernel
theorem dX5_place_70 : decode cX5_place 70 = .ok (.getfield 164, 3) := by decide +kernel
theorem dX5_place_73 : decode cX5_place 73 = .ok (.iload_n 1, 1) := by decide +kernel
theorem dX5_place_74 : decode cX5_place 74 = .ok (.invokestatic 75, 3) := by decide +kernel
theorem dX5_place_77 : decode cX5_place 77 = .ok (.ireturn, 1) := by decide +kernel
theorem dX5_place_78 : decode cX5_place 78 = .ok (.aload_n 3, 1) := by decide +kernel
theorem dX5_place_79 : decode cX5_place 79 = .ok (.getfield 167, 3) := by decide +kernel
theorem dX5_place_82 : decode cX5_place 82 = .ok (.iload_n 1, 1) := by decide +kernel
theorem dX5_place_83 : decode cX5_place 83 = .ok (.invokestatic 75, 3) := by decide +kernel
theorem dX5_place_86 : decode cX5_place 86 = .ok (.ireturn, 1) := by decide +kernel
theorem dX5_place_87 : decode cX5_place 87 = .ok (.aload_n 3, 1) := by decide +kernel
theorem dX5_place_88 : decode cX5_place 88 = .ok (.getfield 170, 3) := by decide +kernel
theorem dX5_place_91 : decode cX5_place 91 = .ok (.iload_n 1, 1) := by decide +kernel
theorem dX5_place_92 : decode cX5_place 92 = .ok (.invokestatic 75, 3) := by decide +kernel
theorem dX5_place_95 : decode cX5_place 95 = .ok (.ireturn, 1) := by decide +kernel
theorem dX5_place_96 : decode cX5_place 96 = .ok (.aload_n 3, 1) := by decide +kernel
theorem dX5_place_97 : decode cX5_place 97 = .ok (.getfield 71, 3) := by decide +kernel
theorem dX5_place_100 : decode cX5_place 100 = .ok (.iload_n 1, 1) := by decide +kernel
theorem dX5_place_101 : decode cX5_place 101 = .ok (.invokestatic 75, 3) := by decide +kernel
theorem dX5_place_104 : decode cX5_place 104 = .ok (.ireturn, 1) := by decide +kernel
theorem dX5_place_105 : decode cX5_place 105 = .ok (.aload_n 3, 1) := by decide +kernel
theorem dX5_place_106 : decode cX5_place 106 = .ok (.iload_n 1, 1) := by decide +kernel
theorem dX5_place_107 : decode cX5_place 107 = .ok (.invokevirtual 173, 3) := by decide +kernel
theorem dX5_place_110 : decode cX5_place 110 = .ok (.ireturn, 1) := by decide +kernel
theorem dX5_place_111 : decode cX5_place 111 = .ok (.aload_n 3, 1) := by decide +kernel
theorem dX5_place_112 : decode cX5_place 112 = .ok (.iload_n 1, 1) := by decide +kernel
theorem dX5_place_113 : decode cX5_place 113 = .ok (.invokevirtual 176, 3) := by decide +kernel
theorem dX5_place_116 : decode cX5_place 116 = .ok (.ifCond .eq 14, 3) := by decide +kernel
theorem dX5_place_119 : decode cX5_place 119 = .ok (.aload_n 3, 1) := by decide +kernel
theorem dX5_place_120 : decode cX5_place 120 = .ok (.getfield 179, 3) := by decide +kernel
theorem dX5_place_123 : decode cX5_place 123 = .ok (.iload_n 1, 1) := by decide +kernel
theorem dX5_place_124 : decode cX5_place 124 = .ok (.invokestatic 75, 3) := by decide +kernel
theorem dX5_place_127 : decode cX5_place 127 = .ok (.goto 5, 3) := by decide +kernel
theorem dX5_place_130 : decode cX5_place 130 = .ok (.bipush (-5), 2) := by decide +kernel
theorem dX5_place_132 : decode cX5_place 132 = .ok (.ireturn, 1) := by decide +kernel
theorem dX5_place_133 : decode cX5_place 133 = .ok (.bipush (-2), 2) := by decide +kernel
theorem dX5_place_135 : decode cX5_place 135 = .ok (.ireturn, 1) := by decide +kernel
theorem dX5_scribe_0 : decode cX5_scribe 0 = .ok (.iload_n 1, 1) := by decide +kernel
theorem dX5_scribe_1 : decode cX5_scribe 1 = .ok (.invokestatic 100, 3) := by decide +kernel
theorem dX5_scribe_4 : decode cX5_scribe 4 = .ok (.ifCond .ne 5, 3) := by decide +kernel
theorem dX5_scribe_7 : decode cX5_scribe 7 = .ok (.iconst (-1), 1) := by decide +kernel
theorem dX5_scribe_8 : decode cX5_scribe 8 = .ok (.ireturn, 1) := by decide +kernel
theorem dX5_scribe_9 : decode cX5_scribe 9 = .ok (.aload_n 0, 1) := by decide +kernel
theorem dX5_scribe_10 : decode cX5_scribe 10 = .ok (.getfield 10, 3) := by decide +kernel
theorem dX5_scribe_13 : decode cX5_scribe 13 = .ok (.iload_n 1, 1) := by decide +kernel
theorem dX5_scribe_14 : decode cX5_scribe 14 = .ok (.invokevirtual 103, 3) := by decide +kernel
theorem dX5_scribe_17 : decode cX5_scribe 17 = .ok (.astore_n 3, 1) := by decide +kernel
theorem dX5_scribe_18 : decode cX5_scribe 18 = .ok (.iload_n 2, 1) := by decide +kernel
theorem dX5_scribe_19 : decode cX5_scribe 19 = .ok (.tableswitch 80 0 6 #[41, 46, 51, 60, 65, 70, 75], 41) := by decide +kernel
theorem dX5_scribe_60 : decode cX5_scribe 60 = .ok (.aload_n 3, 1) := by decide +kernel
theorem dX5_scribe_61 : decode cX5_scribe 61 = .ok (.getfield 107, 3) := by decide +kernel
theorem dX5_scribe_64 : decode cX5_scribe 64 = .ok (.ireturn, 1) := by decide +kernel
theorem dX5_scribe_65 : decode cX5_scribe 65 = .ok (.aload_n 3, 1) := by decide +kernel
theorem dX5_scribe_66 : decode cX5_scribe 66 = .ok (.getfield 182, 3) := by decide +kernel
theorem dX5_scribe_69 : decode cX5_scribe 69 = .ok (.ireturn, 1) := by decide +kernel
theorem dX5_scribe_70 : decode cX5_scribe 70 = .ok (.aload_n 0, 1) := by decide +kernel
theorem dX5_scribe_71 : decode cX5_scribe 71 = .ok (.getfield 10, 3) := by decide +kernel
theorem dX5_scribe_74 : decode cX5_scribe 74 = .ok (.iload_n 1, 1) := by decide +kernel
theorem dX5_scribe_75 : decode cX5_scribe 75 = .ok (.invokevirtual 183, 3) := by decide +kernel
theorem dX5_scribe_78 : decode cX5_scribe 78 = .ok (.ireturn, 1) := by decide +kernel
theorem dX5_scribe_79 : decode cX5_scribe 79 = .ok (.aload_n 3, 1) := by decide +kernel
theorem dX5_scribe_80 : decode cX5_scribe 80 = .ok (.getfield 186, 3) := by decide +kernel
theorem dX5_scribe_83 : decode cX5_scribe 83 = .ok (.ireturn, 1) := by decide +kernel
theorem dX5_scribe_84 : decode cX5_scribe 84 = .ok (.aload_n 3, 1) := by decide +kernel
theorem dX5_scribe_85 : decode cX5_scribe 85 = .ok (.getfield 189, 3) := by decide +kernel
theorem dX5_scribe_88 : decode cX5_scribe 88 = .ok (.ireturn, 1) := by decide +kernel
theorem dX5_scribe_89 : decode cX5_scribe 89 = .ok (.aload_n 3, 1) := by decide +kernel
theorem dX5_scribe_90 : decode cX5_scribe 90 = .ok (.getfield 192, 3) := by decide +kernel
theorem dX5_scribe_93 : decode cX5_scribe 93 = .ok (.ireturn, 1) := by decide +kernel
theorem dX5_scribe_94 : decode cX5_scribe 94 = .ok (.aload_n 3, 1) := by decide +kernel
theorem dX5_scribe_95 : decode cX5_scribe 95 = .ok (.getfield 195, 3) := by decide +kernel
theorem dX5_scribe_98 : decode cX5_scribe 98 = .ok (.ireturn, 1) := by decide +kernel
theorem dX5_scribe_99 : decode cX5_scribe 99 = .ok (.bipush (-2), 2) := by decide +kernel
theorem dX5_scribe_101 : decode cX5_scribe 101 = .ok (.ireturn, 1) := by decide +kernel
theorem dX5_ink_0 : decode cX5_ink 0 = .ok (.iload_n 1, 1) := by decide +kernel
theorem dX5_ink_1 : decode cX5_ink 1 = .ok (.tableswitch 86 0 4 #[35, 47, 59, 68, 77], 35) := by decide +kernel
theorem dX5_ink_36 : decode cX5_ink 36 = .ok (.aload_n 0, 1) := by decide +kernel
theorem dX5_ink_37 : decode cX5_ink 37 = .ok (.getfield 10, 3) := by decide +kernel
theorem dX5_ink_40 : decode cX5_ink 40 = .ok (.getfield 198, 3) := by decide +kernel
theorem dX5_ink_43 : decode cX5_ink 43 = .ok (.getfield 202, 3) := by decide +kernel
theorem dX5_ink_46 : decode cX5_ink 46 = .ok (.f2d, 1) := by decide +kernel
theorem dX5_ink_47 : decode cX5_ink 47 = .ok (.dreturn, 1) := by decide +kernel
theorem dX5_ink_48 : decode cX5_ink 48 = .ok (.aload_n 0, 1) := by decide +kernel
theorem dX5_ink_49 : decode cX5_ink 49 = .ok (.getfield 10, 3) := by decide +kernel
theorem dX5_ink_52 : decode cX5_ink 52 = .ok (.getfield 205, 3) := by decide +kernel
theorem dX5_ink_55 : decode cX5_ink 55 = .ok (.getfield 202, 3) := by decide +kernel
theorem dX5_ink_58 : decode cX5_ink 58 = .ok (.f2d, 1) := by decide +kernel
theorem dX5_ink_59 : decode cX5_ink 59 = .ok (.dreturn, 1) := by decide +kernel
theorem dX5_ink_60 : decode cX5_ink 60 = .ok (.aload_n 0, 1) := by decide +kernel
theorem dX5_ink_61 : decode cX5_ink 61 = .ok (.getfield 10, 3) := by decide +kernel
theorem dX5_ink_64 : decode cX5_ink 64 = .ok (.getfield 115, 3) := by decide +kernel
theorem dX5_ink_67 : decode cX5_ink 67 = .ok (.f2d, 1) := by decide +kernel
theorem dX5_ink_68 : decode cX5_ink 68 = .ok (.dreturn, 1) := by decide +kernel
theorem dX5_ink_69 : decode cX5_ink 69 = .ok (.aload_n 0, 1) := by decide +kernel
theorem dX5_ink_70 : decode cX5_ink 70 = .ok (.getfield 10, 3) := by decide +kernel
theorem dX5_ink_73 : decode cX5_ink 73 = .ok (.getfield 208, 3) := by decide +kernel
theorem dX5_ink_76 : decode cX5_ink 76 = .ok (.f2d, 1) := by decide +kernel
theorem dX5_ink_77 : decode cX5_ink 77 = .ok (.dreturn, 1) := by decide +kernel
theorem dX5_ink_78 : decode cX5_ink 78 = .ok (.aload_n 0, 1) := by decide +kernel
theorem dX5_ink_79 : decode cX5_ink 79 = .ok (.getfield 10, 3) := by decide +kernel
theorem dX5_ink_82 : decode cX5_ink 82 = .ok (.getfield 211, 3) := by decide +kernel
theorem dX5_ink_85 : decode cX5_ink 85 = .ok (.f2d, 1) := by decide +kernel
theorem dX5_ink_86 : decode cX5_ink 86 = .ok (.dreturn, 1) := by decide +kernel
theorem dX5_ink_87 : decode cX5_ink 87 = .ok (.ldc2_w 214, 3) := by decide +kernel
theorem dX5_ink_90 : decode cX5_ink 90 = .ok (.dreturn, 1) := by decide +kernel
theorem dX5_next_0 : decode cX5_next 0 = .ok (.iload_n 1, 1) := by decide +kernel
theorem dX5_next_1 : decode cX5_next 1 = .ok (.invokestatic 100, 3) := by decide +kernel
theorem dX5_next_4 : decode cX5_next 4 = .ok (.ifCond .ne 5, 3) := by decide +kernel
theorem dX5_next_7 : decode cX5_next 7 = .ok (.iconst (-1), 1) := by decide +kernel
theorem dX5_next_8 : decode cX5_next 8 = .ok (.ireturn, 1) := by decide +kernel
theorem dX5_next_9 : decode cX5_next 9 = .ok (.iload_n 1, 1) := by decide +kernel
theorem dX5_next_10 : decode cX5_next 10 = .ok (.ifCond .ne 12, 3) := by decide +kernel
theorem dX5_next_13 : decode cX5_next 13 = .ok (.aload_n 0, 1) := by decide +kernel
theorem dX5_next_14 : decode cX5_next 14 = .ok (.getfield 10, 3) := by decide +kernel
theorem dX5_next_17 : decode cX5_next 17 = .ok (.iconst 0, 1) := by decide +kernel
theorem dX5_next_18 : decode cX5_next 18 = .ok (.invokevirtual 216, 3) := by decide +kernel
theorem dX5_next_21 : decode cX5_next 21 = .ok (.ireturn, 1) := by decide +kernel
theorem dX5_next_22 : decode cX5_next 22 = .ok (.aload_n 0, 1) := by decide +kernel
theorem dX5_next_23 : decode cX5_next 23 = .ok (.getfield 16, 3) := by decide +kernel
theorem dX5_next_26 : decode cX5_next 26 = .ok (.aload_n 0, 1) := by decide +kernel
theorem dX5_next_27 : decode cX5_next 27 = .ok (.getfield 10, 3) := by decide +kernel
theorem dX5_next_30 : decode cX5_next 30 = .ok (.invokevirtual 154, 3) := by decide +kernel
theorem dX5_next_33 : decode cX5_next 33 = .ok (.aload_n 0, 1) := by decide +kernel
theorem dX5_next_34 : decode cX5_next 34 = .ok (.getfield 16, 3) := by decide +kernel
theorem dX5_next_37 : decode cX5_next 37 = .ok (.iconst 0, 1) := by decide +kernel
theorem dX5_next_38 : decode cX5_next 38 = .ok (.invokevirtual 219, 3) := by decide +kernel
theorem dX5_next_41 : decode cX5_next 41 = .ok (.pop, 1) := by decide +kernel
theorem dX5_next_42 : decode cX5_next 42 = .ok (.aload_n 0, 1) := by decide +kernel
theorem dX5_next_43 : decode cX5_next 43 = .ok (.getfield 16, 3) := by decide +kernel
theorem dX5_next_46 : decode cX5_next 46 = .ok (.iconst 1, 1) := by decide +kernel
theorem dX5_next_47 : decode cX5_next 47 = .ok (.invokevirtual 216, 3) := by decide +kernel
theorem dX5_next_50 : decode cX5_next 50 = .ok (.ireturn, 1) := by decide +kernel
theorem dX5_doneIn_0 : decode cX5_doneIn 0 = .ok (.aload_n 0, 1) := by decide +kernel
theorem dX5_doneIn_1 : decode cX5_doneIn 1 = .ok (.getfield 16, 3) := by decide +kernel
theorem dX5_doneIn_4 : decode cX5_doneIn 4 = .ok (.aload_n 0, 1) := by decide +kernel
theorem dX5_doneIn_5 : decode cX5_doneIn 5 = .ok (.getfield 10, 3) := by decide +kernel
theorem dX5_doneIn_8 : decode cX5_doneIn 8 = .ok (.invokevirtual 154, 3) := by decide +kernel
theorem dX5_doneIn_11 : decode cX5_doneIn 11 = .ok (.aload_n 0, 1) := by decide +kernel
theorem dX5_doneIn_12 : decode cX5_doneIn 12 = .ok (.getfield 16, 3) := by decide +kernel
theorem dX5_doneIn_15 : decode cX5_doneIn 15 = .ok (.invokevirtual 222, 3) := by decide +kernel
theorem dX5_doneIn_18 : decode cX5_doneIn 18 = .ok (.ireturn, 1) := by decide +kernel
theorem dX5_unlikePairs_0 : decode cX5_unlikePairs 0 = .ok (.aload_n 0, 1) := by decide +kernel
theorem dX5_unlikePairs_1 : decode cX5_unlikePairs 1 = .ok (.getfield 10, 3) := by decide +kernel
theorem dX5_unlikePairs_4 : decode cX5_unlikePairs 4 = .ok (.getfield 55, 3) := by decide +kernel
theorem dX5_unlikePairs_7 : decode cX5_unlikePairs 7 = .ok (.astore_n 1, 1) := by decide +kernel
theorem dX5_unlikePairs_8 : decode cX5_unlikePairs 8 = .ok (.iconst 0, 1) := by decide +kernel
theorem dX5_unlikePairs_9 : decode cX5_unlikePairs 9 = .ok (.istore_n 2, 1) := by decide +kernel
theorem dX5_unlikePairs_10 : decode cX5_unlikePairs 10 = .ok (.iconst 0, 1) := by decide +kernel
theorem dX5_unlikePairs_11 : decode cX5_unlikePairs 11 = .ok (.istore_n 3, 1) := by decide +kernel
theorem dX5_unlikePairs_12 : decode cX5_unlikePairs 12 = .ok (.iload_n 3, 1) := by decide +kernel
theorem dX5_unlikePairs_13 : decode cX5_unlikePairs 13 = .ok (.aload_n 1, 1) := by decide +kernel
theorem dX5_unlikePairs_14 : decode cX5_unlikePairs 14 = .ok (.getfield 59, 3) := by decide +kernel
theorem dX5_unlikePairs_17 : decode cX5_unlikePairs 17 = .ok (.iconst 2, 1) := by decide +kernel
theorem dX5_unlikePairs_18 : decode cX5_unlikePairs 18 = .ok (.idiv, 1) := by decide +kernel
theorem dX5_unlikePairs_19 : decode cX5_unlikePairs 19 = .ok (.if_icmp .ge 25, 3) := by decide +kernel
theorem dX5_unlikePairs_22 : decode cX5_unlikePairs 22 = .ok (.aload_n 1, 1) := by decide +kernel
theorem dX5_unlikePairs_23 : decode cX5_unlikePairs 23 = .ok (.iload_n 3, 1) := by decide +kernel
theorem dX5_unlikePairs_24 : decode cX5_unlikePairs 24 = .ok (.aload_n 1, 1) := by decide +kernel
theorem dX5_unlikePairs_25 : decode cX5_unlikePairs 25 = .ok (.iload_n 3, 1) := by decide +kernel
theorem dX5_unlikePairs_26 : decode cX5_unlikePairs 26 = .ok (.invokevirtual 173, 3) := by decide +kernel
theorem dX5_unlikePairs_29 : decode cX5_unlikePairs 29 = .ok (.invokevirtual 225, 3) := by decide +kernel
theorem dX5_unlikePairs_32 : decode cX5_unlikePairs 32 = .ok (.ifCond .eq 6, 3) := by decide +kernel
theorem dX5_unlikePairs_35 : decode cX5_unlikePairs 35 = .ok (.iinc 2 1, 3) := by decide +kernel
theorem dX5_unlikePairs_38 : decode cX5_unlikePairs 38 = .ok (.iinc 3 1, 3) := by decide +kernel
theorem dX5_unlikePairs_41 : decode cX5_unlikePairs 41 = .ok (.goto (-29), 3) := by decide +kernel
theorem dX5_unlikePairs_44 : decode cX5_unlikePairs 44 = .ok (.iload_n 2, 1) := by decide +kernel
theorem dX5_unlikePairs_45 : decode cX5_unlikePairs 45 = .ok (.ireturn, 1) := by decide +kernel
theorem dX5_unlikeReadings_0 : decode cX5_unlikeReadings 0 = .ok (.aload_n 0, 1) := by decide +kernel
theorem dX5_unlikeReadings_1 : decode cX5_unlikeReadings 1 = .ok (.getfield 10, 3) := by decide +kernel
theorem dX5_unlikeReadings_4 : decode cX5_unlikeReadings 4 = .ok (.getfield 55, 3) := by decide +kernel
theorem dX5_unlikeReadings_7 : decode cX5_unlikeReadings 7 = .ok (.astore_n 1, 1) := by decide +kernel
theorem dX5_unlikeReadings_8 : decode cX5_unlikeReadings 8 = .ok (.iconst 0, 1) := by decide +kernel
theorem dX5_unlikeReadings_9 : decode cX5_unlikeReadings 9 = .ok (.istore_n 2, 1) := by decide +kernel
theorem dX5_unlikeReadings_10 : decode cX5_unlikeReadings 10 = .ok (.aload_n 1, 1) := by decide +kernel
theorem dX5_unlikeReadings_11 : decode cX5_unlikeReadings 11 = .ok (.getfield 59, 3) := by decide +kernel
theorem dX5_unlikeReadings_14 : decode cX5_unlikeReadings 14 = .ok (.istore_n 3, 1) := by decide +kernel
theorem dX5_unlikeReadings_15 : decode cX5_unlikeReadings 15 = .ok (.iconst 0, 1) := by decide +kernel
theorem dX5_unlikeReadings_16 : decode cX5_unlikeReadings 16 = .ok (.istore 4, 2) := by decide +kernel
theorem dX5_unlikeReadings_18 : decode cX5_unlikeReadings 18 = .ok (.iload 4, 2) := by decide +kernel
theorem dX5_unlikeReadings_20 : decode cX5_unlikeReadings 20 = .ok (.aload_n 1, 1) := by decide +kernel
theorem dX5_unlikeReadings_21 : decode cX5_unlikeReadings 21 = .ok (.getfield 59, 3) := by decide +kernel
theorem dX5_unlikeReadings_24 : decode cX5_unlikeReadings 24 = .ok (.if_icmp .ge 25, 3) := by decide +kernel
theorem dX5_unlikeReadings_27 : decode cX5_unlikeReadings 27 = .ok (.iinc 3 (-1), 3) := by decide +kernel
theorem dX5_unlikeReadings_30 : decode cX5_unlikeReadings 30 = .ok (.aload_n 1, 1) := by decide +kernel
theorem dX5_unlikeReadings_31 : decode cX5_unlikeReadings 31 = .ok (.iload 4, 2) := by decide +kernel
theorem dX5_unlikeReadings_33 : decode cX5_unlikeReadings 33 = .ok (.iload_n 3, 1) := by decide +kernel
theorem dX5_unlikeReadings_34 : decode cX5_unlikeReadings 34 = .ok (.invokevirtual 225, 3) := by decide +kernel
theorem dX5_unlikeReadings_37 : decode cX5_unlikeReadings 37 = .ok (.ifCond .eq 6, 3) := by decide +kernel
theorem dX5_unlikeReadings_40 : decode cX5_unlikeReadings 40 = .ok (.iinc 2 1, 3) := by decide +kernel
theorem dX5_unlikeReadings_43 : decode cX5_unlikeReadings 43 = .ok (.iinc 4 1, 3) := by decide +kernel
theorem dX5_unlikeReadings_46 : decode cX5_unlikeReadings 46 = .ok (.goto (-28), 3) := by decide +kernel
theorem dX5_unlikeReadings_49 : decode cX5_unlikeReadings 49 = .ok (.iload_n 2, 1) := by decide +kernel
theorem dX5_unlikeReadings_50 : decode cX5_unlikeReadings 50 = .ok (.iconst 2, 1) := by decide +kernel
theorem dX5_unlikeReadings_51 : decode cX5_unlikeReadings 51 = .ok (.idiv, 1) := by decide +kernel
theorem dX5_unlikeReadings_52 : decode cX5_unlikeReadings 52 = .ok (.ireturn, 1) := by decide +kernel
theorem dX5_needed_0 : decode cX5_needed 0 = .ok (.aload_n 0, 1) := by decide +kernel
theorem dX5_needed_1 : decode cX5_needed 1 = .ok (.getfield 10, 3) := by decide +kernel
theorem dX5_needed_4 : decode cX5_needed 4 = .ok (.getfield 55, 3) := by decide +kernel
theorem dX5_needed_7 : decode cX5_needed 7 = .ok (.astore_n 1, 1) := by decide +kernel
theorem dX5_needed_8 : decode cX5_needed 8 = .ok (.fconst 0, 1) := by decide +kernel
theorem dX5_needed_9 : decode cX5_needed 9 = .ok (.fstore_n 2, 1) := by decide +kernel
theorem dX5_needed_10 : decode cX5_needed 10 = .ok (.iconst 0, 1) := by decide +kernel
theorem dX5_needed_11 : decode cX5_needed 11 = .ok (.istore_n 3, 1) := by decide +kernel
theorem dX5_needed_12 : decode cX5_needed 12 = .ok (.iload_n 3, 1) := by decide +kernel
theorem dX5_needed_13 : decode cX5_needed 13 = .ok (.aload_n 1, 1) := by decide +kernel
theorem dX5_needed_14 : decode cX5_needed 14 = .ok (.getfield 59, 3) := by decide +kernel
theorem dX5_needed_17 : decode cX5_needed 17 = .ok (.if_icmp .ge 28, 3) := by decide +kernel
theorem dX5_needed_20 : decode cX5_needed 20 = .ok (.aload_n 1, 1) := by decide +kernel
theorem dX5_needed_21 : decode cX5_needed 21 = .ok (.iload_n 3, 1) := by decide +kernel
theorem dX5_needed_22 : decode cX5_needed 22 = .ok (.invokevirtual 176, 3) := by decide +kernel
theorem dX5_needed_25 : decode cX5_needed 25 = .ok (.ifCond .ne 14, 3) := by decide +kernel
theorem dX5_needed_28 : decode cX5_needed 28 = .ok (.fload_n 2, 1) := by decide +kernel
theorem dX5_needed_29 : decode cX5_needed 29 = .ok (.aload_n 1, 1) := by decide +kernel
theorem dX5_needed_30 : decode cX5_needed 30 = .ok (.iload_n 3, 1) := by decide +kernel
theorem dX5_needed_31 : decode cX5_needed 31 = .ok (.invokevirtual 79, 3) := by decide +kernel
theorem dX5_needed_34 : decode cX5_needed 34 = .ok (.invokestatic 229, 3) := by decide +kernel
theorem dX5_needed_37 : decode cX5_needed 37 = .ok (.fadd, 1) := by decide +kernel
theorem dX5_needed_38 : decode cX5_needed 38 = .ok (.fstore_n 2, 1) := by decide +kernel
theorem dX5_needed_39 : decode cX5_needed 39 = .ok (.iinc 3 1, 3) := by decide +kernel
theorem dX5_needed_42 : decode cX5_needed 42 = .ok (.goto (-30), 3) := by decide +kernel
theorem dX5_needed_45 : decode cX5_needed 45 = .ok (.fload_n 2, 1) := by decide +kernel
theorem dX5_needed_46 : decode cX5_needed 46 = .ok (.f2d, 1) := by decide +kernel
theorem dX5_needed_47 : decode cX5_needed 47 = .ok (.dreturn, 1) := by decide +kernel
theorem dX5_bestPace_0 : decode cX5_bestPace 0 = .ok (.iload_n 1, 1) := by decide +kernel
theorem dX5_bestPace_1 : decode cX5_bestPace 1 = .ok (.invokestatic 100, 3) := by decide +kernel
theorem dX5_bestPace_4 : decode cX5_bestPace 4 = .ok (.ifCond .ne 5, 3) := by decide +kernel
theorem dX5_bestPace_7 : decode cX5_bestPace 7 = .ok (.iconst (-1), 1) := by decide +kernel
theorem dX5_bestPace_8 : decode cX5_bestPace 8 = .ok (.ireturn, 1) := by decide +kernel
theorem dX5_bestPace_9 : decode cX5_bestPace 9 = .ok (.aload_n 0, 1) := by decide +kernel
theorem dX5_bestPace_10 : decode cX5_bestPace 10 = .ok (.getfield 10, 3) := by decide +kernel
theorem dX5_bestPace_13 : decode cX5_bestPace 13 = .ok (.invokevirtual 233, 3) := by decide +kernel
theorem dX5_bestPace_16 : decode cX5_bestPace 16 = .ok (.ifCond .eq 6, 3) := by decide +kernel
theorem dX5_bestPace_19 : decode cX5_bestPace 19 = .ok (.bipush (-5), 2) := by decide +kernel
theorem dX5_bestPace_21 : decode cX5_bestPace 21 = .ok (.ireturn, 1) := by decide +kernel
theorem dX5_bestPace_22 : decode cX5_bestPace 22 = .ok (.bipush (-5), 2) := by decide +kernel
theorem dX5_bestPace_24 : decode cX5_bestPace 24 = .ok (.istore_n 2, 1) := by decide +kernel
theorem dX5_bestPace_25 : decode cX5_bestPace 25 = .ok (.sipush 2000, 3) := by decide +kernel
theorem dX5_bestPace_28 : decode cX5_bestPace 28 = .ok (.istore_n 3, 1) := by decide +kernel
theorem dX5_bestPace_29 : decode cX5_bestPace 29 = .ok (.iconst 1, 1) := by decide +kernel
theorem dX5_bestPace_30 : decode cX5_bestPace 30 = .ok (.istore 4, 2) := by decide +kernel
theorem dX5_bestPace_32 : decode cX5_bestPace 32 = .ok (.iload 4, 2) := by decide +kernel
theorem dX5_bestPace_34 : decode cX5_bestPace 34 = .ok (.bipush 9, 2) := by decide +kernel
theorem dX5_bestPace_36 : decode cX5_bestPace 36 = .ok (.if_icmp .gt 61, 3) := by decide +kernel
theorem dX5_bestPace_39 : decode cX5_bestPace 39 = .ok (.aload_n 0, 1) := by decide +kernel
theorem dX5_bestPace_40 : decode cX5_bestPace 40 = .ok (.getfield 16, 3) := by decide +kernel
theorem dX5_bestPace_43 : decode cX5_bestPace 43 = .ok (.aload_n 0, 1) := by decide +kernel
theorem dX5_bestPace_44 : decode cX5_bestPace 44 = .ok (.getfield 10, 3) := by decide +kernel
theorem dX5_bestPace_47 : decode cX5_bestPace 47 = .ok (.invokevirtual 154, 3) := by decide +kernel
theorem dX5_bestPace_50 : decode cX5_bestPace 50 = .ok (.aload_n 0, 1) := by decide +kernel
theorem dX5_bestPace_51 : decode cX5_bestPace 51 = .ok (.getfield 16, 3) := by decide +kernel
theorem dX5_bestPace_54 : decode cX5_bestPace 54 = .ok (.iload_n 1, 1) := by decide +kernel
theorem dX5_bestPace_55 : decode cX5_bestPace 55 = .ok (.invokevirtual 103, 3) := by decide +kernel
theorem dX5_bestPace_58 : decode cX5_bestPace 58 = .ok (.iload 4, 2) := by decide +kernel
theorem dX5_bestPace_60 : decode cX5_bestPace 60 = .ok (.putfield 107, 3) := by decide +kernel
theorem dX5_bestPace_63 : decode cX5_bestPace 63 = .ok (.aload_n 0, 1) := by decide +kernel
theorem dX5_bestPace_64 : decode cX5_bestPace 64 = .ok (.getfield 16, 3) := by decide +kernel
theorem dX5_bestPace_67 : decode cX5_bestPace 67 = .ok (.invokevirtual 222, 3) := by decide +kernel
theorem dX5_bestPace_70 : decode cX5_bestPace 70 = .ok (.istore 5, 2) := by decide +kernel
theorem dX5_bestPace_72 : decode cX5_bestPace 72 = .ok (.iload 5, 2) := by decide +kernel
theorem dX5_bestPace_74 : decode cX5_bestPace 74 = .ok (.bipush (-5), 2) := by decide +kernel
theorem dX5_bestPace_76 : decode cX5_bestPace 76 = .ok (.if_icmp .eq 15, 3) := by decide +kernel
theorem dX5_bestPace_79 : decode cX5_bestPace 79 = .ok (.iload 5, 2) := by decide +kernel
theorem dX5_bestPace_81 : decode cX5_bestPace 81 = .ok (.iload_n 3, 1) := by decide +kernel
theorem dX5_bestPace_82 : decode cX5_bestPace 82 = .ok (.if_icmp .gt 9, 3) := by decide +kernel
theorem dX5_bestPace_85 : decode cX5_bestPace 85 = .ok (.iload 4, 2) := by decide +kernel
theorem dX5_bestPace_87 : decode cX5_bestPace 87 = .ok (.istore_n 2, 1) := by decide +kernel
theorem dX5_bestPace_88 : decode cX5_bestPace 88 = .ok (.iload 5, 2) := by decide +kernel
theorem dX5_bestPace_90 : decode cX5_bestPace 90 = .ok (.istore_n 3, 1) := by decide +kernel
theorem dX5_bestPace_91 : decode cX5_bestPace 91 = .ok (.iinc 4 1, 3) := by decide +kernel
theorem dX5_bestPace_94 : decode cX5_bestPace 94 = .ok (.goto (-62), 3) := by decide +kernel
theorem dX5_bestPace_97 : decode cX5_bestPace 97 = .ok (.iload_n 2, 1) := by decide +kernel
theorem dX5_bestPace_98 : decode cX5_bestPace 98 = .ok (.ireturn, 1) := by decide +kernel
theorem dX5_count_0 : decode cX5_count 0 = .ok (.iload_n 1, 1) := by decide +kernel
theorem dX5_count_1 : decode cX5_count 1 = .ok (.tableswitch 204 0 13 #[71, 79, 90, 98, 109, 120, 128, 136, 144, 152, 164, 176, 188, 196], 71) := by decide +kernel
theorem dX5_count_72 : decode cX5_count 72 = .ok (.aload_n 0, 1) := by decide +kernel
theorem dX5_count_73 : decode cX5_count 73 = .ok (.getfield 10, 3) := by decide +kernel
theorem dX5_count_76 : decode cX5_count 76 = .ok (.getfield 129, 3) := by decide +kernel
theorem dX5_count_79 : decode cX5_count 79 = .ok (.ireturn, 1) := by decide +kernel
theorem dX5_count_80 : decode cX5_count 80 = .ok (.aload_n 0, 1) := by decide +kernel
theorem dX5_count_81 : decode cX5_count 81 = .ok (.getfield 10, 3) := by decide +kernel
theorem dX5_count_84 : decode cX5_count 84 = .ok (.getfield 55, 3) := by decide +kernel
theorem dX5_count_87 : decode cX5_count 87 = .ok (.getfield 59, 3) := by decide +kernel
theorem dX5_count_90 : decode cX5_count 90 = .ok (.ireturn, 1) := by decide +kernel
theorem dX5_count_91 : decode cX5_count 91 = .ok (.aload_n 0, 1) := by decide +kernel
theorem dX5_count_92 : decode cX5_count 92 = .ok (.getfield 10, 3) := by decide +kernel
theorem dX5_count_95 : decode cX5_count 95 = .ok (.invokevirtual 236, 3) := by decide +kernel
theorem dX5_count_98 : decode cX5_count 98 = .ok (.ireturn, 1) := by decide +kernel
theorem dX5_count_99 : decode cX5_count 99 = .ok (.aload_n 0, 1) := by decide +kernel
theorem dX5_count_100 : decode cX5_count 100 = .ok (.getfield 10, 3) := by decide +kernel
theorem dX5_count_103 : decode cX5_count 103 = .ok (.getfield 55, 3) := by decide +kernel
theorem dX5_count_106 : decode cX5_count 106 = .ok (.invokevirtual 239, 3) := by decide +kernel
theorem dX5_count_109 : decode cX5_count 109 = .ok (.ireturn, 1) := by decide +kernel
theorem dX5_count_110 : decode cX5_count 110 = .ok (.aload_n 0, 1) := by decide +kernel
theorem dX5_count_111 : decode cX5_count 111 = .ok (.getfield 10, 3) := by decide +kernel
theorem dX5_count_114 : decode cX5_count 114 = .ok (.getfield 55, 3) := by decide +kernel
theorem dX5_count_117 : decode cX5_count 117 = .ok (.invokevirtual 242, 3) := by decide +kernel
theorem dX5_count_120 : decode cX5_count 120 = .ok (.ireturn, 1) := by decide +kernel
theorem dX5_count_121 : decode cX5_count 121 = .ok (.aload_n 0, 1) := by decide +kernel
theorem dX5_count_122 : decode cX5_count 122 = .ok (.getfield 10, 3) := by decide +kernel
theorem dX5_count_125 : decode cX5_count 125 = .ok (.invokevirtual 97, 3) := by decide +kernel
theorem dX5_count_128 : decode cX5_count 128 = .ok (.ireturn, 1) := by decide +kernel
theorem dX5_count_129 : decode cX5_count 129 = .ok (.aload_n 0, 1) := by decide +kernel
theorem dX5_count_130 : decode cX5_count 130 = .ok (.getfield 10, 3) := by decide +kernel
theorem dX5_count_133 : decode cX5_count 133 = .ok (.getfield 245, 3) := by decide +kernel
theorem dX5_count_136 : decode cX5_count 136 = .ok (.ireturn, 1) := by decide +kernel
theorem dX5_count_137 : decode cX5_count 137 = .ok (.aload_n 0, 1) := by decide +kernel
theorem dX5_count_138 : decode cX5_count 138 = .ok (.getfield 10, 3) := by decide +kernel
theorem dX5_count_141 : decode cX5_count 141 = .ok (.getfield 133, 3) := by decide +kernel
theorem dX5_count_144 : decode cX5_count 144 = .ok (.ireturn, 1) := by decide +kernel
theorem dX5_count_145 : decode cX5_count 145 = .ok (.aload_n 0, 1) := by decide +kernel
theorem dX5_count_146 : decode cX5_count 146 = .ok (.getfield 10, 3) := by decide +kernel
theorem dX5_count_149 : decode cX5_count 149 = .ok (.getfield 112, 3) := by decide +kernel
theorem dX5_count_152 : decode cX5_count 152 = .ok (.ireturn, 1) := by decide +kernel
theorem dX5_count_153 : decode cX5_count 153 = .ok (.aload_n 0, 1) := by decide +kernel
theorem dX5_count_154 : decode cX5_count 154 = .ok (.getfield 10, 3) := by decide +kernel
theorem dX5_count_157 : decode cX5_count 157 = .ok (.getfield 126, 3) := by decide +kernel
theorem dX5_count_160 : decode cX5_count 160 = .ok (.iconst 0, 1) := by decide +kernel
theorem dX5_count_161 : decode cX5_count 161 = .ok (.invokestatic 75, 3) := by decide +kernel
theorem dX5_count_164 : decode cX5_count 164 = .ok (.ireturn, 1) := by decide +kernel
theorem dX5_count_165 : decode cX5_count 165 = .ok (.aload_n 0, 1) := by decide +kernel
theorem dX5_count_166 : decode cX5_count 166 = .ok (.getfield 10, 3) := by decide +kernel
theorem dX5_count_169 : decode cX5_count 169 = .ok (.getfield 126, 3) := by decide +kernel
theorem dX5_count_172 : decode cX5_count 172 = .ok (.iconst 1, 1) := by decide +kernel
theorem dX5_count_173 : decode cX5_count 173 = .ok (.invokestatic 75, 3) := by decide +kernel
theorem dX5_count_176 : decode cX5_count 176 = .ok (.ireturn, 1) := by decide +kernel
theorem dX5_count_177 : decode cX5_count 177 = .ok (.aload_n 0, 1) := by decide +kernel
theorem dX5_count_178 : decode cX5_count 178 = .ok (.getfield 10, 3) := by decide +kernel
theorem dX5_count_181 : decode cX5_count 181 = .ok (.getfield 126, 3) := by decide +kernel
theorem dX5_count_184 : decode cX5_count 184 = .ok (.iconst 2, 1) := by decide +kernel
theorem dX5_count_185 : decode cX5_count 185 = .ok (.invokestatic 75, 3) := by decide +kernel
theorem dX5_count_188 : decode cX5_count 188 = .ok (.ireturn, 1) := by decide +kernel
theorem dX5_count_189 : decode cX5_count 189 = .ok (.aload_n 0, 1) := by decide +kernel
theorem dX5_count_190 : decode cX5_count 190 = .ok (.getfield 25, 3) := by decide +kernel
theorem dX5_count_193 : decode cX5_count 193 = .ok (.getfield 151, 3) := by decide +kernel
theorem dX5_count_196 : decode cX5_count 196 = .ok (.ireturn, 1) := by decide +kernel
theorem dX5_count_197 : decode cX5_count 197 = .ok (.aload_n 0, 1) := by decide +kernel
theorem dX5_count_198 : decode cX5_count 198 = .ok (.getfield 32, 3) := by decide +kernel
theorem dX5_count_201 : decode cX5_count 201 = .ok (.getfield 144, 3) := by decide +kernel
theorem dX5_count_204 : decode cX5_count 204 = .ok (.ireturn, 1) := by decide +kernel
theorem dX5_count_205 : decode cX5_count 205 = .ok (.bipush (-2), 2) := by decide +kernel
theorem dX5_count_207 : decode cX5_count 207 = .ok (.ireturn, 1) := by decide +kernel
theorem dX5_isScribe_0 : decode cX5_isScribe 0 = .ok (.iload_n 0, 1) := by decide +kernel
theorem dX5_isScribe_1 : decode cX5_isScribe 1 = .ok (.ifCond .eq 8, 3) := by decide +kernel
theorem dX5_isScribe_4 : decode cX5_isScribe 4 = .ok (.iload_n 0, 1) := by decide +kernel
theorem dX5_isScribe_5 : decode cX5_isScribe 5 = .ok (.iconst 1, 1) := by decide +kernel
theorem dX5_isScribe_6 : decode cX5_isScribe 6 = .ok (.if_icmp .ne 7, 3) := by decide +kernel
theorem dX5_isScribe_9 : decode cX5_isScribe 9 = .ok (.iconst 1, 1) := by decide +kernel
theorem dX5_isScribe_10 : decode cX5_isScribe 10 = .ok (.goto 4, 3) := by decide +kernel
theorem dX5_isScribe_13 : decode cX5_isScribe 13 = .ok (.iconst 0, 1) := by decide +kernel
theorem dX5_isScribe_14 : decode cX5_isScribe 14 = .ok (.ireturn, 1) := by decide +kernel
theorem dX5_inkFor_0 : decode cX5_inkFor 0 = .ok (.iload_n 0, 1) := by decide +kernel
theorem dX5_inkFor_1 : decode cX5_inkFor 1 = .ok (.i2f, 1) := by decide +kernel
theorem dX5_inkFor_2 : decode cX5_inkFor 2 = .ok (.ldc 248, 2) := by decide +kernel
theorem dX5_inkFor_4 : decode cX5_inkFor 4 = .ok (.fdiv, 1) := by decide +kernel
theorem dX5_inkFor_5 : decode cX5_inkFor 5 = .ok (.freturn, 1) := by decide +kernel
theorem dX5_at_0 : decode cX5_at 0 = .ok (.iload_n 1, 1) := by decide +kernel
theorem dX5_at_1 : decode cX5_at 1 = .ok (.ifCond .lt 15, 3) := by decide +kernel
theorem dX5_at_4 : decode cX5_at 4 = .ok (.iload_n 1, 1) := by decide +kernel
theorem dX5_at_5 : decode cX5_at 5 = .ok (.aload_n 0, 1) := by decide +kernel
theorem dX5_at_6 : decode cX5_at 6 = .ok (.arraylength, 1) := by decide +kernel
theorem dX5_at_7 : decode cX5_at 7 = .ok (.if_icmp .ge 9, 3) := by decide +kernel
theorem dX5_at_10 : decode cX5_at 10 = .ok (.aload_n 0, 1) := by decide +kernel
theorem dX5_at_11 : decode cX5_at 11 = .ok (.iload_n 1, 1) := by decide +kernel
theorem dX5_at_12 : decode cX5_at 12 = .ok (.iaload, 1) := by decide +kernel
theorem dX5_at_13 : decode cX5_at 13 = .ok (.goto 4, 3) := by decide +kernel
theorem dX5_at_16 : decode cX5_at 16 = .ok (.iconst 0, 1) := by decide +kernel
theorem dX5_at_17 : decode cX5_at 17 = .ok (.ireturn, 1) := by decide +kernel
theorem dX5_put_0 : decode cX5_put 0 = .ok (.iload_n 1, 1) := by decide +kernel
theorem dX5_put_1 : decode cX5_put 1 = .ok (.ifCond .lt 13, 3) := by decide +kernel
theorem dX5_put_4 : decode cX5_put 4 = .ok (.iload_n 1, 1) := by decide +kernel
theorem dX5_put_5 : decode cX5_put 5 = .ok (.aload_n 0, 1) := by decide +kernel
theorem dX5_put_6 : decode cX5_put 6 = .ok (.arraylength, 1) := by decide +kernel
theorem dX5_put_7 : decode cX5_put 7 = .ok (.if_icmp .ge 7, 3) := by decide +kernel
theorem dX5_put_10 : decode cX5_put 10 = .ok (.aload_n 0, 1) := by decide +kernel
theorem dX5_put_11 : decode cX5_put 11 = .ok (.iload_n 1, 1) := by decide +kernel
theorem dX5_put_12 : decode cX5_put 12 = .ok (.iload_n 2, 1) := by decide +kernel
theorem dX5_put_13 : decode cX5_put 13 = .ok (.iastore, 1) := by decide +kernel
theorem dX5_put_14 : decode cX5_put 14 = .ok (.return_, 1) := by decide +kernel
theorem dX5_clearRow_0 : decode cX5_clearRow 0 = .ok (.iconst 0, 1) := by decide +kernel
theorem dX5_clearRow_1 : decode cX5_clearRow 1 = .ok (.istore_n 1, 1) := by decide +kernel
theorem dX5_clearRow_2 : decode cX5_clearRow 2 = .ok (.iload_n 1, 1) := by decide +kernel
theorem dX5_clearRow_3 : decode cX5_clearRow 3 = .ok (.aload_n 0, 1) := by decide +kernel
theorem dX5_clearRow_4 : decode cX5_clearRow 4 = .ok (.arraylength, 1) := by decide +kernel
theorem dX5_clearRow_5 : decode cX5_clearRow 5 = .ok (.if_icmp .ge 13, 3) := by decide +kernel
theorem dX5_clearRow_8 : decode cX5_clearRow 8 = .ok (.aload_n 0, 1) := by decide +kernel
theorem dX5_clearRow_9 : decode cX5_clearRow 9 = .ok (.iload_n 1, 1) := by decide +kernel
theorem dX5_clearRow_10 : decode cX5_clearRow 10 = .ok (.iconst 0, 1) := by decide +kernel
theorem dX5_clearRow_11 : decode cX5_clearRow 11 = .ok (.iastore, 1) := by decide +kernel
theorem dX5_clearRow_12 : decode cX5_clearRow 12 = .ok (.iinc 1 1, 3) := by decide +kernel
theorem dX5_clearRow_15 : decode cX5_clearRow 15 = .ok (.goto (-13), 3) := by decide +kernel
theorem dX5_clearRow_18 : decode cX5_clearRow 18 = .ok (.return_, 1) := by decide +kernel
theorem dX5_copyRow_0 : decode cX5_copyRow 0 = .ok (.aload_n 0, 1) := by decide +kernel
theorem dX5_copyRow_1 : decode cX5_copyRow 1 = .ok (.iconst 0, 1) := by decide +kernel
theorem dX5_copyRow_2 : decode cX5_copyRow 2 = .ok (.aload_n 1, 1) := by decide +kernel
theorem dX5_copyRow_3 : decode cX5_copyRow 3 = .ok (.iconst 0, 1) := by decide +kernel
theorem dX5_copyRow_4 : decode cX5_copyRow 4 = .ok (.aload_n 0, 1) := by decide +kernel
theorem dX5_copyRow_5 : decode cX5_copyRow 5 = .ok (.arraylength, 1) := by decide +kernel
theorem dX5_copyRow_6 : decode cX5_copyRow 6 = .ok (.aload_n 1, 1) := by decide +kernel
theorem dX5_copyRow_7 : decode cX5_copyRow 7 = .ok (.arraylength, 1) := by decide +kernel
theorem dX5_copyRow_8 : decode cX5_copyRow 8 = .ok (.invokestatic 249, 3) := by decide +kernel
theorem dX5_copyRow_11 : decode cX5_copyRow 11 = .ok (.invokestatic 255, 3) := by decide +kernel
theorem dX5_copyRow_14 : decode cX5_copyRow 14 = .ok (.return_, 1) := by decide +kernel
