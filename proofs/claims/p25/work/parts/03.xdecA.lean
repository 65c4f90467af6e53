/-! decode rows -/
theorem dX0_init_0 : decode cX0_init 0 = .ok (.aload_n 0, 1) := by decide +kernel
theorem dX0_init_1 : decode cX0_init 1 = .ok (.invokespecial 3, 3) := by decide +kernel
theorem dX0_init_4 : decode cX0_init 4 = .ok (.aload_n 0, 1) := by decide +kernel
theorem dX0_init_5 : decode cX0_init 5 = .ok (.iconst 4, 1) := by decide +kernel
theorem dX0_init_6 : decode cX0_init 6 = .ok (.anewarray 9, 3) := by decide +kernel
theorem dX0_init_9 : decode cX0_init 9 = .ok (.putfield 11, 3) := by decide +kernel
theorem dX0_init_12 : decode cX0_init 12 = .ok (.iconst 0, 1) := by decide +kernel
theorem dX0_init_13 : decode cX0_init 13 = .ok (.istore_n 1, 1) := by decide +kernel
theorem dX0_init_14 : decode cX0_init 14 = .ok (.iload_n 1, 1) := by decide +kernel
theorem dX0_init_15 : decode cX0_init 15 = .ok (.aload_n 0, 1) := by decide +kernel
theorem dX0_init_16 : decode cX0_init 16 = .ok (.getfield 11, 3) := by decide +kernel
theorem dX0_init_19 : decode cX0_init 19 = .ok (.arraylength, 1) := by decide +kernel
theorem dX0_init_20 : decode cX0_init 20 = .ok (.if_icmp .ge 22, 3) := by decide +kernel
theorem dX0_init_23 : decode cX0_init 23 = .ok (.aload_n 0, 1) := by decide +kernel
theorem dX0_init_24 : decode cX0_init 24 = .ok (.getfield 11, 3) := by decide +kernel
theorem dX0_init_27 : decode cX0_init 27 = .ok (.iload_n 1, 1) := by decide +kernel
theorem dX0_init_28 : decode cX0_init 28 = .ok (.new 9, 3) := by decide +kernel
theorem dX0_init_31 : decode cX0_init 31 = .ok (.dup, 1) := by decide +kernel
theorem dX0_init_32 : decode cX0_init 32 = .ok (.invokespecial 17, 3) := by decide +kernel
theorem dX0_init_35 : decode cX0_init 35 = .ok (.aastore, 1) := by decide +kernel
theorem dX0_init_36 : decode cX0_init 36 = .ok (.iinc 1 1, 3) := by decide +kernel
theorem dX0_init_39 : decode cX0_init 39 = .ok (.goto (-25), 3) := by decide +kernel
theorem dX0_init_42 : decode cX0_init 42 = .ok (.return_, 1) := by decide +kernel
theorem dX0_record_0 : decode cX0_record 0 = .ok (.aload_n 0, 1) := by decide +kernel
theorem dX0_record_1 : decode cX0_record 1 = .ok (.getfield 18, 3) := by decide +kernel
theorem dX0_record_4 : decode cX0_record 4 = .ok (.iconst 4, 1) := by decide +kernel
theorem dX0_record_5 : decode cX0_record 5 = .ok (.if_icmp .ne 25, 3) := by decide +kernel
theorem dX0_record_8 : decode cX0_record 8 = .ok (.aload_n 0, 1) := by decide +kernel
theorem dX0_record_9 : decode cX0_record 9 = .ok (.aload_n 0, 1) := by decide +kernel
theorem dX0_record_10 : decode cX0_record 10 = .ok (.getfield 22, 3) := by decide +kernel
theorem dX0_record_13 : decode cX0_record 13 = .ok (.iconst 1, 1) := by decide +kernel
theorem dX0_record_14 : decode cX0_record 14 = .ok (.iadd, 1) := by decide +kernel
theorem dX0_record_15 : decode cX0_record 15 = .ok (.iconst 4, 1) := by decide +kernel
theorem dX0_record_16 : decode cX0_record 16 = .ok (.irem, 1) := by decide +kernel
theorem dX0_record_17 : decode cX0_record 17 = .ok (.putfield 22, 3) := by decide +kernel
theorem dX0_record_20 : decode cX0_record 20 = .ok (.aload_n 0, 1) := by decide +kernel
theorem dX0_record_21 : decode cX0_record 21 = .ok (.dup, 1) := by decide +kernel
theorem dX0_record_22 : decode cX0_record 22 = .ok (.getfield 18, 3) := by decide +kernel
theorem dX0_record_25 : decode cX0_record 25 = .ok (.iconst 1, 1) := by decide +kernel
theorem dX0_record_26 : decode cX0_record 26 = .ok (.isub, 1) := by decide +kernel
theorem dX0_record_27 : decode cX0_record 27 = .ok (.putfield 18, 3) := by decide +kernel
theorem dX0_record_30 : decode cX0_record 30 = .ok (.aload_n 0, 1) := by decide +kernel
theorem dX0_record_31 : decode cX0_record 31 = .ok (.aload_n 0, 1) := by decide +kernel
theorem dX0_record_32 : decode cX0_record 32 = .ok (.getfield 18, 3) := by decide +kernel
theorem dX0_record_35 : decode cX0_record 35 = .ok (.invokevirtual 25, 3) := by decide +kernel
theorem dX0_record_38 : decode cX0_record 38 = .ok (.astore_n 2, 1) := by decide +kernel
theorem dX0_record_39 : decode cX0_record 39 = .ok (.aload_n 2, 1) := by decide +kernel
theorem dX0_record_40 : decode cX0_record 40 = .ok (.ifnull 18, 3) := by decide +kernel
theorem dX0_record_43 : decode cX0_record 43 = .ok (.aload_n 2, 1) := by decide +kernel
theorem dX0_record_44 : decode cX0_record 44 = .ok (.aload_n 1, 1) := by decide +kernel
theorem dX0_record_45 : decode cX0_record 45 = .ok (.invokevirtual 29, 3) := by decide +kernel
theorem dX0_record_48 : decode cX0_record 48 = .ok (.aload_n 0, 1) := by decide +kernel
theorem dX0_record_49 : decode cX0_record 49 = .ok (.dup, 1) := by decide +kernel
theorem dX0_record_50 : decode cX0_record 50 = .ok (.getfield 18, 3) := by decide +kernel
theorem dX0_record_53 : decode cX0_record 53 = .ok (.iconst 1, 1) := by decide +kernel
theorem dX0_record_54 : decode cX0_record 54 = .ok (.iadd, 1) := by decide +kernel
theorem dX0_record_55 : decode cX0_record 55 = .ok (.putfield 18, 3) := by decide +kernel
theorem dX0_record_58 : decode cX0_record 58 = .ok (.return_, 1) := by decide +kernel
theorem dX0_stateAt_0 : decode cX0_stateAt 0 = .ok (.aload_n 0, 1) := by decide +kernel
theorem dX0_stateAt_1 : decode cX0_stateAt 1 = .ok (.getfield 22, 3) := by decide +kernel
theorem dX0_stateAt_4 : decode cX0_stateAt 4 = .ok (.iload_n 1, 1) := by decide +kernel
theorem dX0_stateAt_5 : decode cX0_stateAt 5 = .ok (.iadd, 1) := by decide +kernel
theorem dX0_stateAt_6 : decode cX0_stateAt 6 = .ok (.iconst 4, 1) := by decide +kernel
theorem dX0_stateAt_7 : decode cX0_stateAt 7 = .ok (.irem, 1) := by decide +kernel
theorem dX0_stateAt_8 : decode cX0_stateAt 8 = .ok (.istore_n 2, 1) := by decide +kernel
theorem dX0_stateAt_9 : decode cX0_stateAt 9 = .ok (.iload_n 2, 1) := by decide +kernel
theorem dX0_stateAt_10 : decode cX0_stateAt 10 = .ok (.ifCond .lt 21, 3) := by decide +kernel
theorem dX0_stateAt_13 : decode cX0_stateAt 13 = .ok (.iload_n 2, 1) := by decide +kernel
theorem dX0_stateAt_14 : decode cX0_stateAt 14 = .ok (.aload_n 0, 1) := by decide +kernel
theorem dX0_stateAt_15 : decode cX0_stateAt 15 = .ok (.getfield 11, 3) := by decide +kernel
theorem dX0_stateAt_18 : decode cX0_stateAt 18 = .ok (.arraylength, 1) := by decide +kernel
theorem dX0_stateAt_19 : decode cX0_stateAt 19 = .ok (.if_icmp .ge 12, 3) := by decide +kernel
theorem dX0_stateAt_22 : decode cX0_stateAt 22 = .ok (.aload_n 0, 1) := by decide +kernel
theorem dX0_stateAt_23 : decode cX0_stateAt 23 = .ok (.getfield 11, 3) := by decide +kernel
theorem dX0_stateAt_26 : decode cX0_stateAt 26 = .ok (.iload_n 2, 1) := by decide +kernel
theorem dX0_stateAt_27 : decode cX0_stateAt 27 = .ok (.aaload, 1) := by decide +kernel
theorem dX0_stateAt_28 : decode cX0_stateAt 28 = .ok (.goto 4, 3) := by decide +kernel
theorem dX0_stateAt_31 : decode cX0_stateAt 31 = .ok (.aconst_null, 1) := by decide +kernel
theorem dX0_stateAt_32 : decode cX0_stateAt 32 = .ok (.areturn, 1) := by decide +kernel
theorem dX1_init_0 : decode cX1_init 0 = .ok (.aload_n 0, 1) := by decide +kernel
theorem dX1_init_1 : decode cX1_init 1 = .ok (.invokespecial 3, 3) := by decide +kernel
theorem dX1_init_4 : decode cX1_init 4 = .ok (.aload_n 0, 1) := by decide +kernel
theorem dX1_init_5 : decode cX1_init 5 = .ok (.bipush 40, 2) := by decide +kernel
theorem dX1_init_7 : decode cX1_init 7 = .ok (.newarray .int, 2) := by decide +kernel
theorem dX1_init_9 : decode cX1_init 9 = .ok (.putfield 9, 3) := by decide +kernel
theorem dX1_init_12 : decode cX1_init 12 = .ok (.aload_n 0, 1) := by decide +kernel
theorem dX1_init_13 : decode cX1_init 13 = .ok (.bipush 40, 2) := by decide +kernel
theorem dX1_init_15 : decode cX1_init 15 = .ok (.newarray .int, 2) := by decide +kernel
theorem dX1_init_17 : decode cX1_init 17 = .ok (.putfield 15, 3) := by decide +kernel
theorem dX1_init_20 : decode cX1_init 20 = .ok (.aload_n 0, 1) := by decide +kernel
theorem dX1_init_21 : decode cX1_init 21 = .ok (.bipush 40, 2) := by decide +kernel
theorem dX1_init_23 : decode cX1_init 23 = .ok (.newarray .int, 2) := by decide +kernel
theorem dX1_init_25 : decode cX1_init 25 = .ok (.putfield 18, 3) := by decide +kernel
theorem dX1_init_28 : decode cX1_init 28 = .ok (.aload_n 0, 1) := by decide +kernel
theorem dX1_init_29 : decode cX1_init 29 = .ok (.bipush 40, 2) := by decide +kernel
theorem dX1_init_31 : decode cX1_init 31 = .ok (.newarray .int, 2) := by decide +kernel
theorem dX1_init_33 : decode cX1_init 33 = .ok (.putfield 21, 3) := by decide +kernel
theorem dX1_init_36 : decode cX1_init 36 = .ok (.aload_n 0, 1) := by decide +kernel
theorem dX1_init_37 : decode cX1_init 37 = .ok (.bipush 40, 2) := by decide +kernel
theorem dX1_init_39 : decode cX1_init 39 = .ok (.newarray .int, 2) := by decide +kernel
theorem dX1_init_41 : decode cX1_init 41 = .ok (.putfield 24, 3) := by decide +kernel
theorem dX1_init_44 : decode cX1_init 44 = .ok (.aload_n 0, 1) := by decide +kernel
theorem dX1_init_45 : decode cX1_init 45 = .ok (.bipush 40, 2) := by decide +kernel
theorem dX1_init_47 : decode cX1_init 47 = .ok (.newarray .int, 2) := by decide +kernel
theorem dX1_init_49 : decode cX1_init 49 = .ok (.putfield 27, 3) := by decide +kernel
theorem dX1_init_52 : decode cX1_init 52 = .ok (.return_, 1) := by decide +kernel
theorem dX1_copyFrom_0 : decode cX1_copyFrom 0 = .ok (.aload_n 1, 1) := by decide +kernel
theorem dX1_copyFrom_1 : decode cX1_copyFrom 1 = .ok (.getfield 9, 3) := by decide +kernel
theorem dX1_copyFrom_4 : decode cX1_copyFrom 4 = .ok (.aload_n 0, 1) := by decide +kernel
theorem dX1_copyFrom_5 : decode cX1_copyFrom 5 = .ok (.getfield 9, 3) := by decide +kernel
theorem dX1_copyFrom_8 : decode cX1_copyFrom 8 = .ok (.invokestatic 30, 3) := by decide +kernel
theorem dX1_copyFrom_11 : decode cX1_copyFrom 11 = .ok (.aload_n 1, 1) := by decide +kernel
theorem dX1_copyFrom_12 : decode cX1_copyFrom 12 = .ok (.getfield 15, 3) := by decide +kernel
theorem dX1_copyFrom_15 : decode cX1_copyFrom 15 = .ok (.aload_n 0, 1) := by decide +kernel
theorem dX1_copyFrom_16 : decode cX1_copyFrom 16 = .ok (.getfield 15, 3) := by decide +kernel
theorem dX1_copyFrom_19 : decode cX1_copyFrom 19 = .ok (.invokestatic 30, 3) := by decide +kernel
theorem dX1_copyFrom_22 : decode cX1_copyFrom 22 = .ok (.aload_n 1, 1) := by decide +kernel
theorem dX1_copyFrom_23 : decode cX1_copyFrom 23 = .ok (.getfield 18, 3) := by decide +kernel
theorem dX1_copyFrom_26 : decode cX1_copyFrom 26 = .ok (.aload_n 0, 1) := by decide +kernel
theorem dX1_copyFrom_27 : decode cX1_copyFrom 27 = .ok (.getfield 18, 3) := by decide +kernel
theorem dX1_copyFrom_30 : decode cX1_copyFrom 30 = .ok (.invokestatic 30, 3) := by decide +kernel
theorem dX1_copyFrom_33 : decode cX1_copyFrom 33 = .ok (.aload_n 1, 1) := by decide +kernel
theorem dX1_copyFrom_34 : decode cX1_copyFrom 34 = .ok (.getfield 21, 3) := by decide +kernel
theorem dX1_copyFrom_37 : decode cX1_copyFrom 37 = .ok (.aload_n 0, 1) := by decide +kernel
theorem dX1_copyFrom_38 : decode cX1_copyFrom 38 = .ok (.getfield 21, 3) := by decide +kernel
theorem dX1_copyFrom_41 : decode cX1_copyFrom 41 = .ok (.invokestatic 30, 3) := by decide +kernel
theorem dX1_copyFrom_44 : decode cX1_copyFrom 44 = .ok (.aload_n 1, 1) := by decide +kernel
theorem dX1_copyFrom_45 : decode cX1_copyFrom 45 = .ok (.getfield 24, 3) := by decide +kernel
theorem dX1_copyFrom_48 : decode cX1_copyFrom 48 = .ok (.aload_n 0, 1) := by decide +kernel
theorem dX1_copyFrom_49 : decode cX1_copyFrom 49 = .ok (.getfield 24, 3) := by decide +kernel
theorem dX1_copyFrom_52 : decode cX1_copyFrom 52 = .ok (.invokestatic 30, 3) := by decide +kernel
theorem dX1_copyFrom_55 : decode cX1_copyFrom 55 = .ok (.aload_n 1, 1) := by decide +kernel
theorem dX1_copyFrom_56 : decode cX1_copyFrom 56 = .ok (.getfield 27, 3) := by decide +kernel
theorem dX1_copyFrom_59 : decode cX1_copyFrom 59 = .ok (.aload_n 0, 1) := by decide +kernel
theorem dX1_copyFrom_60 : decode cX1_copyFrom 60 = .ok (.getfield 27, 3) := by decide +kernel
theorem dX1_copyFrom_63 : decode cX1_copyFrom 63 = .ok (.invokestatic 30, 3) := by decide +kernel
theorem dX1_copyFrom_66 : decode cX1_copyFrom 66 = .ok (.aload_n 0, 1) := by decide +kernel
theorem dX1_copyFrom_67 : decode cX1_copyFrom 67 = .ok (.aload_n 1, 1) := by decide +kernel
theorem dX1_copyFrom_68 : decode cX1_copyFrom 68 = .ok (.getfield 34, 3) := by decide +kernel
theorem dX1_copyFrom_71 : decode cX1_copyFrom 71 = .ok (.putfield 34, 3) := by decide +kernel
theorem dX1_copyFrom_74 : decode cX1_copyFrom 74 = .ok (.aload_n 0, 1) := by decide +kernel
theorem dX1_copyFrom_75 : decode cX1_copyFrom 75 = .ok (.aload_n 1, 1) := by decide +kernel
theorem dX1_copyFrom_76 : decode cX1_copyFrom 76 = .ok (.getfield 38, 3) := by decide +kernel
theorem dX1_copyFrom_79 : decode cX1_copyFrom 79 = .ok (.putfield 38, 3) := by decide +kernel
theorem dX1_copyFrom_82 : decode cX1_copyFrom 82 = .ok (.return_, 1) := by decide +kernel
theorem dX1_begin_0 : decode cX1_begin 0 = .ok (.aload_n 0, 1) := by decide +kernel
theorem dX1_begin_1 : decode cX1_begin 1 = .ok (.iconst 2, 1) := by decide +kernel
theorem dX1_begin_2 : decode cX1_begin 2 = .ok (.aload_n 1, 1) := by decide +kernel
theorem dX1_begin_3 : decode cX1_begin 3 = .ok (.getfield 41, 3) := by decide +kernel
theorem dX1_begin_6 : decode cX1_begin 6 = .ok (.imul, 1) := by decide +kernel
theorem dX1_begin_7 : decode cX1_begin 7 = .ok (.putfield 34, 3) := by decide +kernel
theorem dX1_begin_10 : decode cX1_begin 10 = .ok (.aload_n 0, 1) := by decide +kernel
theorem dX1_begin_11 : decode cX1_begin 11 = .ok (.iconst 0, 1) := by decide +kernel
theorem dX1_begin_12 : decode cX1_begin 12 = .ok (.putfield 38, 3) := by decide +kernel
theorem dX1_begin_15 : decode cX1_begin 15 = .ok (.aload_n 0, 1) := by decide +kernel
theorem dX1_begin_16 : decode cX1_begin 16 = .ok (.getfield 18, 3) := by decide +kernel
theorem dX1_begin_19 : decode cX1_begin 19 = .ok (.invokestatic 46, 3) := by decide +kernel
theorem dX1_begin_22 : decode cX1_begin 22 = .ok (.aload_n 0, 1) := by decide +kernel
theorem dX1_begin_23 : decode cX1_begin 23 = .ok (.getfield 21, 3) := by decide +kernel
theorem dX1_begin_26 : decode cX1_begin 26 = .ok (.invokestatic 46, 3) := by decide +kernel
theorem dX1_begin_29 : decode cX1_begin 29 = .ok (.aload_n 0, 1) := by decide +kernel
theorem dX1_begin_30 : decode cX1_begin 30 = .ok (.getfield 24, 3) := by decide +kernel
theorem dX1_begin_33 : decode cX1_begin 33 = .ok (.invokestatic 46, 3) := by decide +kernel
theorem dX1_begin_36 : decode cX1_begin 36 = .ok (.aload_n 0, 1) := by decide +kernel
theorem dX1_begin_37 : decode cX1_begin 37 = .ok (.getfield 27, 3) := by decide +kernel
theorem dX1_begin_40 : decode cX1_begin 40 = .ok (.invokestatic 46, 3) := by decide +kernel
theorem dX1_begin_43 : decode cX1_begin 43 = .ok (.aload_n 1, 1) := by decide +kernel
theorem dX1_begin_44 : decode cX1_begin 44 = .ok (.getfield 50, 3) := by decide +kernel
theorem dX1_begin_47 : decode cX1_begin 47 = .ok (.aload_n 0, 1) := by decide +kernel
theorem dX1_begin_48 : decode cX1_begin 48 = .ok (.getfield 15, 3) := by decide +kernel
theorem dX1_begin_51 : decode cX1_begin 51 = .ok (.invokestatic 30, 3) := by decide +kernel
theorem dX1_begin_54 : decode cX1_begin 54 = .ok (.iconst 0, 1) := by decide +kernel
theorem dX1_begin_55 : decode cX1_begin 55 = .ok (.istore_n 2, 1) := by decide +kernel
theorem dX1_begin_56 : decode cX1_begin 56 = .ok (.iload_n 2, 1) := by decide +kernel
theorem dX1_begin_57 : decode cX1_begin 57 = .ok (.aload_n 1, 1) := by decide +kernel
theorem dX1_begin_58 : decode cX1_begin 58 = .ok (.getfield 41, 3) := by decide +kernel
theorem dX1_begin_61 : decode cX1_begin 61 = .ok (.if_icmp .ge 40, 3) := by decide +kernel
theorem dX1_begin_64 : decode cX1_begin 64 = .ok (.aload_n 1, 1) := by decide +kernel
theorem dX1_begin_65 : decode cX1_begin 65 = .ok (.getfield 53, 3) := by decide +kernel
theorem dX1_begin_68 : decode cX1_begin 68 = .ok (.iload_n 2, 1) := by decide +kernel
theorem dX1_begin_69 : decode cX1_begin 69 = .ok (.invokestatic 56, 3) := by decide +kernel
theorem dX1_begin_72 : decode cX1_begin 72 = .ok (.istore_n 3, 1) := by decide +kernel
theorem dX1_begin_73 : decode cX1_begin 73 = .ok (.aload_n 0, 1) := by decide +kernel
theorem dX1_begin_74 : decode cX1_begin 74 = .ok (.getfield 9, 3) := by decide +kernel
theorem dX1_begin_77 : decode cX1_begin 77 = .ok (.iload_n 2, 1) := by decide +kernel
theorem dX1_begin_78 : decode cX1_begin 78 = .ok (.iload_n 3, 1) := by decide +kernel
theorem dX1_begin_79 : decode cX1_begin 79 = .ok (.invokestatic 60, 3) := by decide +kernel
theorem dX1_begin_82 : decode cX1_begin 82 = .ok (.aload_n 0, 1) := by decide +kernel
theorem dX1_begin_83 : decode cX1_begin 83 = .ok (.getfield 9, 3) := by decide +kernel
theorem dX1_begin_86 : decode cX1_begin 86 = .ok (.aload_n 0, 1) := by decide +kernel
theorem dX1_begin_87 : decode cX1_begin 87 = .ok (.iload_n 2, 1) := by decide +kernel
theorem dX1_begin_88 : decode cX1_begin 88 = .ok (.invokevirtual 64, 3) := by decide +kernel
theorem dX1_begin_91 : decode cX1_begin 91 = .ok (.iload_n 3, 1) := by decide +kernel
theorem dX1_begin_92 : decode cX1_begin 92 = .ok (.invokestatic 60, 3) := by decide +kernel
theorem dX1_begin_95 : decode cX1_begin 95 = .ok (.iinc 2 1, 3) := by decide +kernel
theorem dX1_begin_98 : decode cX1_begin 98 = .ok (.goto (-42), 3) := by decide +kernel
theorem dX1_begin_101 : decode cX1_begin 101 = .ok (.return_, 1) := by decide +kernel
theorem dX1_has_0 : decode cX1_has 0 = .ok (.iload_n 1, 1) := by decide +kernel
theorem dX1_has_1 : decode cX1_has 1 = .ok (.ifCond .lt 15, 3) := by decide +kernel
theorem dX1_has_4 : decode cX1_has 4 = .ok (.iload_n 1, 1) := by decide +kernel
theorem dX1_has_5 : decode cX1_has 5 = .ok (.aload_n 0, 1) := by decide +kernel
theorem dX1_has_6 : decode cX1_has 6 = .ok (.getfield 34, 3) := by decide +kernel
theorem dX1_has_9 : decode cX1_has 9 = .ok (.if_icmp .ge 7, 3) := by decide +kernel
theorem dX1_has_12 : decode cX1_has 12 = .ok (.iconst 1, 1) := by decide +kernel
theorem dX1_has_13 : decode cX1_has 13 = .ok (.goto 4, 3) := by decide +kernel
theorem dX1_has_16 : decode cX1_has 16 = .ok (.iconst 0, 1) := by decide +kernel
theorem dX1_has_17 : decode cX1_has 17 = .ok (.ireturn, 1) := by decide +kernel
theorem dX1_mirrorOf_0 : decode cX1_mirrorOf 0 = .ok (.aload_n 0, 1) := by decide +kernel
theorem dX1_mirrorOf_1 : decode cX1_mirrorOf 1 = .ok (.getfield 34, 3) := by decide +kernel
theorem dX1_mirrorOf_4 : decode cX1_mirrorOf 4 = .ok (.iconst 1, 1) := by decide +kernel
theorem dX1_mirrorOf_5 : decode cX1_mirrorOf 5 = .ok (.isub, 1) := by decide +kernel
theorem dX1_mirrorOf_6 : decode cX1_mirrorOf 6 = .ok (.iload_n 1, 1) := by decide +kernel
theorem dX1_mirrorOf_7 : decode cX1_mirrorOf 7 = .ok (.isub, 1) := by decide +kernel
theorem dX1_mirrorOf_8 : decode cX1_mirrorOf 8 = .ok (.ireturn, 1) := by decide +kernel
theorem dX1_letterFor_0 : decode cX1_letterFor 0 = .ok (.aload_n 0, 1) := by decide +kernel
theorem dX1_letterFor_1 : decode cX1_letterFor 1 = .ok (.getfield 15, 3) := by decide +kernel
theorem dX1_letterFor_4 : decode cX1_letterFor 4 = .ok (.iload_n 1, 1) := by decide +kernel
theorem dX1_letterFor_5 : decode cX1_letterFor 5 = .ok (.invokestatic 56, 3) := by decide +kernel
theorem dX1_letterFor_8 : decode cX1_letterFor 8 = .ok (.istore_n 2, 1) := by decide +kernel
theorem dX1_letterFor_9 : decode cX1_letterFor 9 = .ok (.iload_n 2, 1) := by decide +kernel
theorem dX1_letterFor_10 : decode cX1_letterFor 10 = .ok (.ifCond .eq 7, 3) := by decide +kernel
theorem dX1_letterFor_13 : decode cX1_letterFor 13 = .ok (.iload_n 2, 1) := by decide +kernel
theorem dX1_letterFor_14 : decode cX1_letterFor 14 = .ok (.goto 11, 3) := by decide +kernel
theorem dX1_letterFor_17 : decode cX1_letterFor 17 = .ok (.aload_n 0, 1) := by decide +kernel
theorem dX1_letterFor_18 : decode cX1_letterFor 18 = .ok (.getfield 9, 3) := by decide +kernel
theorem dX1_letterFor_21 : decode cX1_letterFor 21 = .ok (.iload_n 1, 1) := by decide +kernel
theorem dX1_letterFor_22 : decode cX1_letterFor 22 = .ok (.invokestatic 56, 3) := by decide +kernel
theorem dX1_letterFor_25 : decode cX1_letterFor 25 = .ok (.ireturn, 1) := by decide +kernel
theorem dX1_isWritten_0 : decode cX1_isWritten 0 = .ok (.aload_n 0, 1) := by decide +kernel
theorem dX1_isWritten_1 : decode cX1_isWritten 1 = .ok (.getfield 18, 3) := by decide +kernel
theorem dX1_isWritten_4 : decode cX1_isWritten 4 = .ok (.iload_n 1, 1) := by decide +kernel
theorem dX1_isWritten_5 : decode cX1_isWritten 5 = .ok (.invokestatic 56, 3) := by decide +kernel
theorem dX1_isWritten_8 : decode cX1_isWritten 8 = .ok (.ifCond .eq 7, 3) := by decide +kernel
theorem dX1_isWritten_11 : decode cX1_isWritten 11 = .ok (.iconst 1, 1) := by decide +kernel
theorem dX1_isWritten_12 : decode cX1_isWritten 12 = .ok (.goto 4, 3) := by decide +kernel
theorem dX1_isWritten_15 : decode cX1_isWritten 15 = .ok (.iconst 0, 1) := by decide +kernel
theorem dX1_isWritten_16 : decode cX1_isWritten 16 = .ok (.ireturn, 1) := by decide +kernel
theorem dX1_isFaultless_0 : decode cX1_isFaultless 0 = .ok (.aload_n 0, 1) := by decide +kernel
theorem dX1_isFaultless_1 : decode cX1_isFaultless 1 = .ok (.getfield 18, 3) := by decide +kernel
theorem dX1_isFaultless_4 : decode cX1_isFaultless 4 = .ok (.iload_n 1, 1) := by decide +kernel
theorem dX1_isFaultless_5 : decode cX1_isFaultless 5 = .ok (.invokestatic 56, 3) := by decide +kernel
theorem dX1_isFaultless_8 : decode cX1_isFaultless 8 = .ok (.aload_n 0, 1) := by decide +kernel
theorem dX1_isFaultless_9 : decode cX1_isFaultless 9 = .ok (.getfield 9, 3) := by decide +kernel
theorem dX1_isFaultless_12 : decode cX1_isFaultless 12 = .ok (.iload_n 1, 1) := by decide +kernel
theorem dX1_isFaultless_13 : decode cX1_isFaultless 13 = .ok (.invokestatic 56, 3) := by decide +kernel
theorem dX1_isFaultless_16 : decode cX1_isFaultless 16 = .ok (.if_icmp .ne 18, 3) := by decide +kernel
theorem dX1_isFaultless_19 : decode cX1_isFaultless 19 = .ok (.aload_n 0, 1) := by decide +kernel
theorem dX1_isFaultless_20 : decode cX1_isFaultless 20 = .ok (.getfield 24, 3) := by decide +kernel
theorem dX1_isFaultless_23 : decode cX1_isFaultless 23 = .ok (.iload_n 1, 1) := by decide +kernel
theorem dX1_isFaultless_24 : decode cX1_isFaultless 24 = .ok (.invokestatic 56, 3) := by decide +kernel
theorem dX1_isFaultless_27 : decode cX1_isFaultless 27 = .ok (.ifCond .ne 7, 3) := by decide +kernel
theorem dX1_isFaultless_30 : decode cX1_isFaultless 30 = .ok (.iconst 1, 1) := by decide +kernel
theorem dX1_isFaultless_31 : decode cX1_isFaultless 31 = .ok (.goto 4, 3) := by decide +kernel
theorem dX1_isFaultless_34 : decode cX1_isFaultless 34 = .ok (.iconst 0, 1) := by decide +kernel
theorem dX1_isFaultless_35 : decode cX1_isFaultless 35 = .ok (.ireturn, 1) := by decide +kernel
theorem dX1_areUnlike_0 : decode cX1_areUnlike 0 = .ok (.aload_n 0, 1) := by decide +kernel
theorem dX1_areUnlike_1 : decode cX1_areUnlike 1 = .ok (.iload_n 1, 1) := by decide +kernel
theorem dX1_areUnlike_2 : decode cX1_areUnlike 2 = .ok (.invokevirtual 68, 3) := by decide +kernel
theorem dX1_areUnlike_5 : decode cX1_areUnlike 5 = .ok (.ifCond .eq 34, 3) := by decide +kernel
theorem dX1_areUnlike_8 : decode cX1_areUnlike 8 = .ok (.aload_n 0, 1) := by decide +kernel
theorem dX1_areUnlike_9 : decode cX1_areUnlike 9 = .ok (.iload_n 2, 1) := by decide +kernel
theorem dX1_areUnlike_10 : decode cX1_areUnlike 10 = .ok (.invokevirtual 68, 3) := by decide +kernel
theorem dX1_areUnlike_13 : decode cX1_areUnlike 13 = .ok (.ifCond .eq 26, 3) := by decide +kernel
theorem dX1_areUnlike_16 : decode cX1_areUnlike 16 = .ok (.aload_n 0, 1) := by decide +kernel
theorem dX1_areUnlike_17 : decode cX1_areUnlike 17 = .ok (.getfield 18, 3) := by decide +kernel
theorem dX1_areUnlike_20 : decode cX1_areUnlike 20 = .ok (.iload_n 1, 1) := by decide +kernel
theorem dX1_areUnlike_21 : decode cX1_areUnlike 21 = .ok (.invokestatic 56, 3) := by decide +kernel
theorem dX1_areUnlike_24 : decode cX1_areUnlike 24 = .ok (.aload_n 0, 1) := by decide +kernel
theorem dX1_areUnlike_25 : decode cX1_areUnlike 25 = .ok (.getfield 18, 3) := by decide +kernel
theorem dX1_areUnlike_28 : decode cX1_areUnlike 28 = .ok (.iload_n 2, 1) := by decide +kernel
theorem dX1_areUnlike_29 : decode cX1_areUnlike 29 = .ok (.invokestatic 56, 3) := by decide +kernel
theorem dX1_areUnlike_32 : decode cX1_areUnlike 32 = .ok (.if_icmp .eq 7, 3) := by decide +kernel
theorem dX1_areUnlike_35 : decode cX1_areUnlike 35 = .ok (.iconst 1, 1) := by decide +kernel
theorem dX1_areUnlike_36 : decode cX1_areUnlike 36 = .ok (.goto 4, 3) := by decide +kernel
theorem dX1_areUnlike_39 : decode cX1_areUnlike 39 = .ok (.iconst 0, 1) := by decide +kernel
theorem dX1_areUnlike_40 : decode cX1_areUnlike 40 = .ok (.ireturn, 1) := by decide +kernel
theorem dX1_write_0 : decode cX1_write 0 = .ok (.aload_n 0, 1) := by decide +kernel
theorem dX1_write_1 : decode cX1_write 1 = .ok (.getfield 18, 3) := by decide +kernel
theorem dX1_write_4 : decode cX1_write 4 = .ok (.iload_n 1, 1) := by decide +kernel
theorem dX1_write_5 : decode cX1_write 5 = .ok (.iload_n 2, 1) := by decide +kernel
theorem dX1_write_6 : decode cX1_write 6 = .ok (.invokestatic 60, 3) := by decide +kernel
theorem dX1_write_9 : decode cX1_write 9 = .ok (.aload_n 0, 1) := by decide +kernel
theorem dX1_write_10 : decode cX1_write 10 = .ok (.getfield 24, 3) := by decide +kernel
theorem dX1_write_13 : decode cX1_write 13 = .ok (.iload_n 1, 1) := by decide +kernel
theorem dX1_write_14 : decode cX1_write 14 = .ok (.iload_n 3, 1) := by decide +kernel
theorem dX1_write_15 : decode cX1_write 15 = .ok (.ifCond .eq 7, 3) := by decide +kernel
theorem dX1_write_18 : decode cX1_write 18 = .ok (.iconst 1, 1) := by decide +kernel
theorem dX1_write_19 : decode cX1_write 19 = .ok (.goto 4, 3) := by decide +kernel
theorem dX1_write_22 : decode cX1_write 22 = .ok (.iconst 0, 1) := by decide +kernel
theorem dX1_write_23 : decode cX1_write 23 = .ok (.invokestatic 60, 3) := by decide +kernel
theorem dX1_write_26 : decode cX1_write 26 = .ok (.aload_n 0, 1) := by decide +kernel
theorem dX1_write_27 : decode cX1_write 27 = .ok (.getfield 21, 3) := by decide +kernel
theorem dX1_write_30 : decode cX1_write 30 = .ok (.iload_n 1, 1) := by decide +kernel
theorem dX1_write_31 : decode cX1_write 31 = .ok (.iload 4, 2) := by decide +kernel
theorem dX1_write_33 : decode cX1_write 33 = .ok (.invokestatic 60, 3) := by decide +kernel
theorem dX1_write_36 : decode cX1_write 36 = .ok (.return_, 1) := by decide +kernel
theorem dX1_amend_0 : decode cX1_amend 0 = .ok (.aload_n 0, 1) := by decide +kernel
theorem dX1_amend_1 : decode cX1_amend 1 = .ok (.getfield 18, 3) := by decide +kernel
theorem dX1_amend_4 : decode cX1_amend 4 = .ok (.iload_n 1, 1) := by decide +kernel
theorem dX1_amend_5 : decode cX1_amend 5 = .ok (.aload_n 0, 1) := by decide +kernel
theorem dX1_amend_6 : decode cX1_amend 6 = .ok (.getfield 9, 3) := by decide +kernel
theorem dX1_amend_9 : decode cX1_amend 9 = .ok (.iload_n 1, 1) := by decide +kernel
theorem dX1_amend_10 : decode cX1_amend 10 = .ok (.invokestatic 56, 3) := by decide +kernel
theorem dX1_amend_13 : decode cX1_amend 13 = .ok (.invokestatic 60, 3) := by decide +kernel
theorem dX1_amend_16 : decode cX1_amend 16 = .ok (.aload_n 0, 1) := by decide +kernel
theorem dX1_amend_17 : decode cX1_amend 17 = .ok (.getfield 24, 3) := by decide +kernel
theorem dX1_amend_20 : decode cX1_amend 20 = .ok (.iload_n 1, 1) := by decide +kernel
theorem dX1_amend_21 : decode cX1_amend 21 = .ok (.iconst 0, 1) := by decide +kernel
theorem dX1_amend_22 : decode cX1_amend 22 = .ok (.invokestatic 60, 3) := by decide +kernel
theorem dX1_amend_25 : decode cX1_amend 25 = .ok (.aload_n 0, 1) := by decide +kernel
theorem dX1_amend_26 : decode cX1_amend 26 = .ok (.getfield 27, 3) := by decide +kernel
theorem dX1_amend_29 : decode cX1_amend 29 = .ok (.iload_n 1, 1) := by decide +kernel
theorem dX1_amend_30 : decode cX1_amend 30 = .ok (.iconst 1, 1) := by decide +kernel
theorem dX1_amend_31 : decode cX1_amend 31 = .ok (.invokestatic 60, 3) := by decide +kernel
theorem dX1_amend_34 : decode cX1_amend 34 = .ok (.aload_n 0, 1) := by decide +kernel
theorem dX1_amend_35 : decode cX1_amend 35 = .ok (.dup, 1) := by decide +kernel
theorem dX1_amend_36 : decode cX1_amend 36 = .ok (.getfield 38, 3) := by decide +kernel
theorem dX1_amend_39 : decode cX1_amend 39 = .ok (.iconst 1, 1) := by decide +kernel
theorem dX1_amend_40 : decode cX1_amend 40 = .ok (.iadd, 1) := by decide +kernel
theorem dX1_amend_41 : decode cX1_amend 41 = .ok (.putfield 38, 3) := by decide +kernel
theorem dX1_amend_44 : decode cX1_amend 44 = .ok (.return_, 1) := by decide +kernel
theorem dX1_countBlots_0 : decode cX1_countBlots 0 = .ok (.iconst 0, 1) := by decide +kernel
theorem dX1_countBlots_1 : decode cX1_countBlots 1 = .ok (.istore_n 1, 1) := by decide +kernel
theorem dX1_countBlots_2 : decode cX1_countBlots 2 = .ok (.iconst 0, 1) := by decide +kernel
theorem dX1_countBlots_3 : decode cX1_countBlots 3 = .ok (.istore_n 2, 1) := by decide +kernel
theorem dX1_countBlots_4 : decode cX1_countBlots 4 = .ok (.iload_n 2, 1) := by decide +kernel
theorem dX1_countBlots_5 : decode cX1_countBlots 5 = .ok (.aload_n 0, 1) := by decide +kernel
theorem dX1_countBlots_6 : decode cX1_countBlots 6 = .ok (.getfield 34, 3) := by decide +kernel
theorem dX1_countBlots_9 : decode cX1_countBlots 9 = .ok (.if_icmp .ge 20, 3) := by decide +kernel
theorem dX1_countBlots_12 : decode cX1_countBlots 12 = .ok (.iload_n 1, 1) := by decide +kernel
theorem dX1_countBlots_13 : decode cX1_countBlots 13 = .ok (.aload_n 0, 1) := by decide +kernel
theorem dX1_countBlots_14 : decode cX1_countBlots 14 = .ok (.getfield 24, 3) := by decide +kernel
theorem dX1_countBlots_17 : decode cX1_countBlots 17 = .ok (.iload_n 2, 1) := by decide +kernel
theorem dX1_countBlots_18 : decode cX1_countBlots 18 = .ok (.invokestatic 56, 3) := by decide +kernel
theorem dX1_countBlots_21 : decode cX1_countBlots 21 = .ok (.iadd, 1) := by decide +kernel
theorem dX1_countBlots_22 : decode cX1_countBlots 22 = .ok (.istore_n 1, 1) := by decide +kernel
theorem dX1_countBlots_23 : decode cX1_countBlots 23 = .ok (.iinc 2 1, 3) := by decide +kernel
theorem dX1_countBlots_26 : decode cX1_countBlots 26 = .ok (.goto (-22), 3) := by decide +kernel
theorem dX1_countBlots_29 : decode cX1_countBlots 29 = .ok (.iload_n 1, 1) := by decide +kernel
theorem dX1_countBlots_30 : decode cX1_countBlots 30 = .ok (.ireturn, 1) := by decide +kernel
theorem dX1_countNotDue_0 : decode cX1_countNotDue 0 = .ok (.iconst 0, 1) := by decide +kernel
theorem dX1_countNotDue_1 : decode cX1_countNotDue 1 = .ok (.istore_n 1, 1) := by decide +kernel
theorem dX1_countNotDue_2 : decode cX1_countNotDue 2 = .ok (.iconst 0, 1) := by decide +kernel
theorem dX1_countNotDue_3 : decode cX1_countNotDue 3 = .ok (.istore_n 2, 1) := by decide +kernel
theorem dX1_countNotDue_4 : decode cX1_countNotDue 4 = .ok (.iload_n 2, 1) := by decide +kernel
theorem dX1_countNotDue_5 : decode cX1_countNotDue 5 = .ok (.aload_n 0, 1) := by decide +kernel
theorem dX1_countNotDue_6 : decode cX1_countNotDue 6 = .ok (.getfield 34, 3) := by decide +kernel
theorem dX1_countNotDue_9 : decode cX1_countNotDue 9 = .ok (.if_icmp .ge 39, 3) := by decide +kernel
theorem dX1_countNotDue_12 : decode cX1_countNotDue 12 = .ok (.aload_n 0, 1) := by decide +kernel
theorem dX1_countNotDue_13 : decode cX1_countNotDue 13 = .ok (.iload_n 2, 1) := by decide +kernel
theorem dX1_countNotDue_14 : decode cX1_countNotDue 14 = .ok (.invokevirtual 68, 3) := by decide +kernel
theorem dX1_countNotDue_17 : decode cX1_countNotDue 17 = .ok (.ifCond .eq 25, 3) := by decide +kernel
theorem dX1_countNotDue_20 : decode cX1_countNotDue 20 = .ok (.aload_n 0, 1) := by decide +kernel
theorem dX1_countNotDue_21 : decode cX1_countNotDue 21 = .ok (.getfield 18, 3) := by decide +kernel
theorem dX1_countNotDue_24 : decode cX1_countNotDue 24 = .ok (.iload_n 2, 1) := by decide +kernel
theorem dX1_countNotDue_25 : decode cX1_countNotDue 25 = .ok (.invokestatic 56, 3) := by decide +kernel
theorem dX1_countNotDue_28 : decode cX1_countNotDue 28 = .ok (.aload_n 0, 1) := by decide +kernel
theorem dX1_countNotDue_29 : decode cX1_countNotDue 29 = .ok (.getfield 9, 3) := by decide +kernel
theorem dX1_countNotDue_32 : decode cX1_countNotDue 32 = .ok (.iload_n 2, 1) := by decide +kernel
theorem dX1_countNotDue_33 : decode cX1_countNotDue 33 = .ok (.invokestatic 56, 3) := by decide +kernel
theorem dX1_countNotDue_36 : decode cX1_countNotDue 36 = .ok (.if_icmp .eq 6, 3) := by decide +kernel
theorem dX1_countNotDue_39 : decode cX1_countNotDue 39 = .ok (.iinc 1 1, 3) := by decide +kernel
theorem dX1_countNotDue_42 : decode cX1_countNotDue 42 = .ok (.iinc 2 1, 3) := by decide +kernel
theorem dX1_countNotDue_45 : decode cX1_countNotDue 45 = .ok (.goto (-41), 3) := by decide +kernel
theorem dX1_countNotDue_48 : decode cX1_countNotDue 48 = .ok (.iload_n 1, 1) := by decide +kernel
theorem dX1_countNotDue_49 : decode cX1_countNotDue 49 = .ok (.ireturn, 1) := by decide +kernel
theorem dX2_init_0 : decode cX2_init 0 = .ok (.aload_n 0, 1) := by decide +kernel
theorem dX2_init_1 : decode cX2_init 1 = .ok (.invokespecial 3, 3) := by decide +kernel
theorem dX2_init_4 : decode cX2_init 4 = .ok (.aload_n 0, 1) := by decide +kernel
theorem dX2_init_5 : decode cX2_init 5 = .ok (.bipush 60, 2) := by decide +kernel
theorem dX2_init_7 : decode cX2_init 7 = .ok (.newarray .char, 2) := by decide +kernel
theorem dX2_init_9 : decode cX2_init 9 = .ok (.putfield 9, 3) := by decide +kernel
theorem dX2_init_12 : decode cX2_init 12 = .ok (.aload_n 0, 1) := by decide +kernel
theorem dX2_init_13 : decode cX2_init 13 = .ok (.bipush 20, 2) := by decide +kernel
theorem dX2_init_15 : decode cX2_init 15 = .ok (.newarray .int, 2) := by decide +kernel
theorem dX2_init_17 : decode cX2_init 17 = .ok (.putfield 15, 3) := by decide +kernel
theorem dX2_init_20 : decode cX2_init 20 = .ok (.aload_n 0, 1) := by decide +kernel
theorem dX2_init_21 : decode cX2_init 21 = .ok (.bipush 40, 2) := by decide +kernel
theorem dX2_init_23 : decode cX2_init 23 = .ok (.newarray .int, 2) := by decide +kernel
theorem dX2_init_25 : decode cX2_init 25 = .ok (.putfield 19, 3) := by decide +kernel
theorem dX2_init_28 : decode cX2_init 28 = .ok (.return_, 1) := by decide +kernel
theorem dX2_append_0 : decode cX2_append 0 = .ok (.aload_n 0, 1) := by decide +kernel
theorem dX2_append_1 : decode cX2_append 1 = .ok (.getfield 22, 3) := by decide +kernel
theorem dX2_append_4 : decode cX2_append 4 = .ok (.ifCond .lt 15, 3) := by decide +kernel
theorem dX2_append_7 : decode cX2_append 7 = .ok (.aload_n 0, 1) := by decide +kernel
theorem dX2_append_8 : decode cX2_append 8 = .ok (.getfield 22, 3) := by decide +kernel
theorem dX2_append_11 : decode cX2_append 11 = .ok (.aload_n 0, 1) := by decide +kernel
theorem dX2_append_12 : decode cX2_append 12 = .ok (.getfield 9, 3) := by decide +kernel
theorem dX2_append_15 : decode cX2_append 15 = .ok (.arraylength, 1) := by decide +kernel
theorem dX2_append_16 : decode cX2_append 16 = .ok (.if_icmp .lt 5, 3) := by decide +kernel
theorem dX2_append_19 : decode cX2_append 19 = .ok (.iconst 0, 1) := by decide +kernel
theorem dX2_append_20 : decode cX2_append 20 = .ok (.ireturn, 1) := by decide +kernel
theorem dX2_append_21 : decode cX2_append 21 = .ok (.aload_n 0, 1) := by decide +kernel
theorem dX2_append_22 : decode cX2_append 22 = .ok (.getfield 9, 3) := by decide +kernel
theorem dX2_append_25 : decode cX2_append 25 = .ok (.aload_n 0, 1) := by decide +kernel
theorem dX2_append_26 : decode cX2_append 26 = .ok (.getfield 22, 3) := by decide +kernel
theorem dX2_append_29 : decode cX2_append 29 = .ok (.iload_n 1, 1) := by decide +kernel
theorem dX2_append_30 : decode cX2_append 30 = .ok (.castore, 1) := by decide +kernel
theorem dX2_append_31 : decode cX2_append 31 = .ok (.aload_n 0, 1) := by decide +kernel
theorem dX2_append_32 : decode cX2_append 32 = .ok (.dup, 1) := by decide +kernel
theorem dX2_append_33 : decode cX2_append 33 = .ok (.getfield 22, 3) := by decide +kernel
theorem dX2_append_36 : decode cX2_append 36 = .ok (.iconst 1, 1) := by decide +kernel
theorem dX2_append_37 : decode cX2_append 37 = .ok (.iadd, 1) := by decide +kernel
theorem dX2_append_38 : decode cX2_append 38 = .ok (.putfield 22, 3) := by decide +kernel
theorem dX2_append_41 : decode cX2_append 41 = .ok (.iconst 1, 1) := by decide +kernel
theorem dX2_append_42 : decode cX2_append 42 = .ok (.ireturn, 1) := by decide +kernel
theorem dX2_findFault_0 : decode cX2_findFault 0 = .ok (.aload_n 0, 1) := by decide +kernel
theorem dX2_findFault_1 : decode cX2_findFault 1 = .ok (.invokevirtual 26, 3) := by decide +kernel
theorem dX2_findFault_4 : decode cX2_findFault 4 = .ok (.aload_n 0, 1) := by decide +kernel
theorem dX2_findFault_5 : decode cX2_findFault 5 = .ok (.getfield 29, 3) := by decide +kernel
theorem dX2_findFault_8 : decode cX2_findFault 8 = .ok (.ifCond .ne 8, 3) := by decide +kernel
theorem dX2_findFault_11 : decode cX2_findFault 11 = .ok (.aload_n 0, 1) := by decide +kernel
theorem dX2_findFault_12 : decode cX2_findFault 12 = .ok (.getfield 32, 3) := by decide +kernel
theorem dX2_findFault_15 : decode cX2_findFault 15 = .ok (.ireturn, 1) := by decide +kernel
theorem dX2_findFault_16 : decode cX2_findFault 16 = .ok (.aload_n 0, 1) := by decide +kernel
theorem dX2_findFault_17 : decode cX2_findFault 17 = .ok (.getfield 32, 3) := by decide +kernel
theorem dX2_findFault_20 : decode cX2_findFault 20 = .ok (.aload_n 0, 1) := by decide +kernel
theorem dX2_findFault_21 : decode cX2_findFault 21 = .ok (.getfield 22, 3) := by decide +kernel
theorem dX2_findFault_24 : decode cX2_findFault 24 = .ok (.if_icmp .ne 5, 3) := by decide +kernel
theorem dX2_findFault_27 : decode cX2_findFault 27 = .ok (.iconst (-1), 1) := by decide +kernel
theorem dX2_findFault_28 : decode cX2_findFault 28 = .ok (.ireturn, 1) := by decide +kernel
theorem dX2_findFault_29 : decode cX2_findFault 29 = .ok (.aload_n 0, 1) := by decide +kernel
theorem dX2_findFault_30 : decode cX2_findFault 30 = .ok (.bipush 33, 2) := by decide +kernel
theorem dX2_findFault_32 : decode cX2_findFault 32 = .ok (.invokevirtual 35, 3) := by decide +kernel
theorem dX2_findFault_35 : decode cX2_findFault 35 = .ok (.ifCond .ne 8, 3) := by decide +kernel
theorem dX2_findFault_38 : decode cX2_findFault 38 = .ok (.aload_n 0, 1) := by decide +kernel
theorem dX2_findFault_39 : decode cX2_findFault 39 = .ok (.getfield 32, 3) := by decide +kernel
theorem dX2_findFault_42 : decode cX2_findFault 42 = .ok (.ireturn, 1) := by decide +kernel
theorem dX2_findFault_43 : decode cX2_findFault 43 = .ok (.iconst 0, 1) := by decide +kernel
theorem dX2_findFault_44 : decode cX2_findFault 44 = .ok (.istore_n 1, 1) := by decide +kernel
theorem dX2_findFault_45 : decode cX2_findFault 45 = .ok (.iload_n 1, 1) := by decide +kernel
theorem dX2_findFault_46 : decode cX2_findFault 46 = .ok (.bipush 60, 2) := by decide +kernel
theorem dX2_findFault_48 : decode cX2_findFault 48 = .ok (.if_icmp .ge 48, 3) := by decide +kernel
theorem dX2_findFault_51 : decode cX2_findFault 51 = .ok (.aload_n 0, 1) := by decide +kernel
theorem dX2_findFault_52 : decode cX2_findFault 52 = .ok (.invokevirtual 39, 3) := by decide +kernel
theorem dX2_findFault_55 : decode cX2_findFault 55 = .ok (.ifCond .ne 8, 3) := by decide +kernel
theorem dX2_findFault_58 : decode cX2_findFault 58 = .ok (.aload_n 0, 1) := by decide +kernel
theorem dX2_findFault_59 : decode cX2_findFault 59 = .ok (.getfield 32, 3) := by decide +kernel
theorem dX2_findFault_62 : decode cX2_findFault 62 = .ok (.ireturn, 1) := by decide +kernel
theorem dX2_findFault_63 : decode cX2_findFault 63 = .ok (.aload_n 0, 1) := by decide +kernel
theorem dX2_findFault_64 : decode cX2_findFault 64 = .ok (.getfield 32, 3) := by decide +kernel
theorem dX2_findFault_67 : decode cX2_findFault 67 = .ok (.aload_n 0, 1) := by decide +kernel
theorem dX2_findFault_68 : decode cX2_findFault 68 = .ok (.getfield 22, 3) := by decide +kernel
theorem dX2_findFault_71 : decode cX2_findFault 71 = .ok (.if_icmp .ne 5, 3) := by decide +kernel
theorem dX2_findFault_74 : decode cX2_findFault 74 = .ok (.iconst (-1), 1) := by decide +kernel
theorem dX2_findFault_75 : decode cX2_findFault 75 = .ok (.ireturn, 1) := by decide +kernel
theorem dX2_findFault_76 : decode cX2_findFault 76 = .ok (.aload_n 0, 1) := by decide +kernel
theorem dX2_findFault_77 : decode cX2_findFault 77 = .ok (.bipush 44, 2) := by decide +kernel
theorem dX2_findFault_79 : decode cX2_findFault 79 = .ok (.invokevirtual 35, 3) := by decide +kernel
theorem dX2_findFault_82 : decode cX2_findFault 82 = .ok (.ifCond .ne 8, 3) := by decide +kernel
theorem dX2_findFault_85 : decode cX2_findFault 85 = .ok (.aload_n 0, 1) := by decide +kernel
theorem dX2_findFault_86 : decode cX2_findFault 86 = .ok (.getfield 32, 3) := by decide +kernel
theorem dX2_findFault_89 : decode cX2_findFault 89 = .ok (.ireturn, 1) := by decide +kernel
theorem dX2_findFault_90 : decode cX2_findFault 90 = .ok (.iinc 1 1, 3) := by decide +kernel
theorem dX2_findFault_93 : decode cX2_findFault 93 = .ok (.goto (-48), 3) := by decide +kernel
theorem dX2_findFault_96 : decode cX2_findFault 96 = .ok (.aload_n 0, 1) := by decide +kernel
theorem dX2_findFault_97 : decode cX2_findFault 97 = .ok (.getfield 32, 3) := by decide +kernel
theorem dX2_findFault_100 : decode cX2_findFault 100 = .ok (.ireturn, 1) := by decide +kernel
theorem dX2_readHalf_0 : decode cX2_readHalf 0 = .ok (.aload_n 0, 1) := by decide +kernel
theorem dX2_readHalf_1 : decode cX2_readHalf 1 = .ok (.iconst 0, 1) := by decide +kernel
theorem dX2_readHalf_2 : decode cX2_readHalf 2 = .ok (.putfield 32, 3) := by decide +kernel
theorem dX2_readHalf_5 : decode cX2_readHalf 5 = .ok (.aload_n 0, 1) := by decide +kernel
theorem dX2_readHalf_6 : decode cX2_readHalf 6 = .ok (.iconst 0, 1) := by decide +kernel
theorem dX2_readHalf_7 : decode cX2_readHalf 7 = .ok (.putfield 29, 3) := by decide +kernel
theorem dX2_readHalf_10 : decode cX2_readHalf 10 = .ok (.aload_n 0, 1) := by decide +kernel
theorem dX2_readHalf_11 : decode cX2_readHalf 11 = .ok (.iconst (-1), 1) := by decide +kernel
theorem dX2_readHalf_12 : decode cX2_readHalf 12 = .ok (.putfield 43, 3) := by decide +kernel
theorem dX2_readHalf_15 : decode cX2_readHalf 15 = .ok (.aload_n 0, 1) := by decide +kernel
theorem dX2_readHalf_16 : decode cX2_readHalf 16 = .ok (.getfield 19, 3) := by decide +kernel
theorem dX2_readHalf_19 : decode cX2_readHalf 19 = .ok (.invokestatic 46, 3) := by decide +kernel
theorem dX2_readHalf_22 : decode cX2_readHalf 22 = .ok (.iconst 0, 1) := by decide +kernel
theorem dX2_readHalf_23 : decode cX2_readHalf 23 = .ok (.istore_n 1, 1) := by decide +kernel
theorem dX2_readHalf_24 : decode cX2_readHalf 24 = .ok (.iload_n 1, 1) := by decide +kernel
theorem dX2_readHalf_25 : decode cX2_readHalf 25 = .ok (.bipush 20, 2) := by decide +kernel
theorem dX2_readHalf_27 : decode cX2_readHalf 27 = .ok (.if_icmp .ge 48, 3) := by decide +kernel
theorem dX2_readHalf_30 : decode cX2_readHalf 30 = .ok (.aload_n 0, 1) := by decide +kernel
theorem dX2_readHalf_31 : decode cX2_readHalf 31 = .ok (.invokevirtual 50, 3) := by decide +kernel
theorem dX2_readHalf_34 : decode cX2_readHalf 34 = .ok (.istore_n 2, 1) := by decide +kernel
theorem dX2_readHalf_35 : decode cX2_readHalf 35 = .ok (.iload_n 2, 1) := by decide +kernel
theorem dX2_readHalf_36 : decode cX2_readHalf 36 = .ok (.ifCond .ne 4, 3) := by decide +kernel
theorem dX2_readHalf_39 : decode cX2_readHalf 39 = .ok (.return_, 1) := by decide +kernel
theorem dX2_readHalf_40 : decode cX2_readHalf 40 = .ok (.aload_n 0, 1) := by decide +kernel
theorem dX2_readHalf_41 : decode cX2_readHalf 41 = .ok (.getfield 15, 3) := by decide +kernel
theorem dX2_readHalf_44 : decode cX2_readHalf 44 = .ok (.iload_n 1, 1) := by decide +kernel
theorem dX2_readHalf_45 : decode cX2_readHalf 45 = .ok (.iload_n 2, 1) := by decide +kernel
theorem dX2_readHalf_46 : decode cX2_readHalf 46 = .ok (.invokestatic 54, 3) := by decide +kernel
theorem dX2_readHalf_49 : decode cX2_readHalf 49 = .ok (.aload_n 0, 1) := by decide +kernel
theorem dX2_readHalf_50 : decode cX2_readHalf 50 = .ok (.dup, 1) := by decide +kernel
theorem dX2_readHalf_51 : decode cX2_readHalf 51 = .ok (.getfield 29, 3) := by decide +kernel
theorem dX2_readHalf_54 : decode cX2_readHalf 54 = .ok (.iconst 1, 1) := by decide +kernel
theorem dX2_readHalf_55 : decode cX2_readHalf 55 = .ok (.iadd, 1) := by decide +kernel
theorem dX2_readHalf_56 : decode cX2_readHalf 56 = .ok (.putfield 29, 3) := by decide +kernel
theorem dX2_readHalf_59 : decode cX2_readHalf 59 = .ok (.aload_n 0, 1) := by decide +kernel
theorem dX2_readHalf_60 : decode cX2_readHalf 60 = .ok (.dup, 1) := by decide +kernel
theorem dX2_readHalf_61 : decode cX2_readHalf 61 = .ok (.getfield 32, 3) := by decide +kernel
theorem dX2_readHalf_64 : decode cX2_readHalf 64 = .ok (.iconst 1, 1) := by decide +kernel
theorem dX2_readHalf_65 : decode cX2_readHalf 65 = .ok (.iadd, 1) := by decide +kernel
theorem dX2_readHalf_66 : decode cX2_readHalf 66 = .ok (.putfield 32, 3) := by decide +kernel
theorem dX2_readHalf_69 : decode cX2_readHalf 69 = .ok (.iinc 1 1, 3) := by decide +kernel
theorem dX2_readHalf_72 : decode cX2_readHalf 72 = .ok (.goto (-48), 3) := by decide +kernel
theorem dX2_readHalf_75 : decode cX2_readHalf 75 = .ok (.return_, 1) := by decide +kernel
theorem dX2_readMisreading_0 : decode cX2_readMisreading 0 = .ok (.aload_n 0, 1) := by decide +kernel
theorem dX2_readMisreading_1 : decode cX2_readMisreading 1 = .ok (.invokevirtual 58, 3) := by decide +kernel
theorem dX2_readMisreading_4 : decode cX2_readMisreading 4 = .ok (.istore_n 1, 1) := by decide +kernel
theorem dX2_readMisreading_5 : decode cX2_readMisreading 5 = .ok (.iload_n 1, 1) := by decide +kernel
theorem dX2_readMisreading_6 : decode cX2_readMisreading 6 = .ok (.ifCond .ge 5, 3) := by decide +kernel
theorem dX2_readMisreading_9 : decode cX2_readMisreading 9 = .ok (.iconst 0, 1) := by decide +kernel
theorem dX2_readMisreading_10 : decode cX2_readMisreading 10 = .ok (.ireturn, 1) := by decide +kernel
theorem dX2_readMisreading_11 : decode cX2_readMisreading 11 = .ok (.aload_n 0, 1) := by decide +kernel
theorem dX2_readMisreading_12 : decode cX2_readMisreading 12 = .ok (.dup, 1) := by decide +kernel
theorem dX2_readMisreading_13 : decode cX2_readMisreading 13 = .ok (.getfield 32, 3) := by decide +kernel
theorem dX2_readMisreading_16 : decode cX2_readMisreading 16 = .ok (.iconst 1, 1) := by decide +kernel
theorem dX2_readMisreading_17 : decode cX2_readMisreading 17 = .ok (.iadd, 1) := by decide +kernel
theorem dX2_readMisreading_18 : decode cX2_readMisreading 18 = .ok (.putfield 32, 3) := by decide +kernel
theorem dX2_readMisreading_21 : decode cX2_readMisreading 21 = .ok (.aload_n 0, 1) := by decide +kernel
theorem dX2_readMisreading_22 : decode cX2_readMisreading 22 = .ok (.invokevirtual 58, 3) := by decide +kernel
theorem dX2_readMisreading_25 : decode cX2_readMisreading 25 = .ok (.istore_n 2, 1) := by decide +kernel
theorem dX2_readMisreading_26 : decode cX2_readMisreading 26 = .ok (.iload_n 1, 1) := by decide +kernel
theorem dX2_readMisreading_27 : decode cX2_readMisreading 27 = .ok (.ifCond .eq 35, 3) := by decide +kernel
theorem dX2_readMisreading_30 : decode cX2_readMisreading 30 = .ok (.iload_n 2, 1) := by decide +kernel
theorem dX2_readMisreading_31 : decode cX2_readMisreading 31 = .ok (.ifCond .lt 31, 3) := by decide +kernel
theorem dX2_readMisreading_34 : decode cX2_readMisreading 34 = .ok (.iload_n 1, 1) := by decide +kernel
theorem dX2_readMisreading_35 : decode cX2_readMisreading 35 = .ok (.bipush 10, 2) := by decide +kernel
theorem dX2_readMisreading_37 : decode cX2_readMisreading 37 = .ok (.imul, 1) := by decide +kernel
theorem dX2_readMisreading_38 : decode cX2_readMisreading 38 = .ok (.iload_n 2, 1) := by decide +kernel
theorem dX2_readMisreading_39 : decode cX2_readMisreading 39 = .ok (.iadd, 1) := by decide +kernel
theorem dX2_readMisreading_40 : decode cX2_readMisreading 40 = .ok (.bipush 39, 2) := by decide +kernel
theorem dX2_readMisreading_42 : decode cX2_readMisreading 42 = .ok (.if_icmp .gt 20, 3) := by decide +kernel
theorem dX2_readMisreading_45 : decode cX2_readMisreading 45 = .ok (.iload_n 1, 1) := by decide +kernel
theorem dX2_readMisreading_46 : decode cX2_readMisreading 46 = .ok (.bipush 10, 2) := by decide +kernel
theorem dX2_readMisreading_48 : decode cX2_readMisreading 48 = .ok (.imul, 1) := by decide +kernel
theorem dX2_readMisreading_49 : decode cX2_readMisreading 49 = .ok (.iload_n 2, 1) := by decide +kernel
theorem dX2_readMisreading_50 : decode cX2_readMisreading 50 = .ok (.iadd, 1) := by decide +kernel
theorem dX2_readMisreading_51 : decode cX2_readMisreading 51 = .ok (.istore_n 1, 1) := by decide +kernel
theorem dX2_readMisreading_52 : decode cX2_readMisreading 52 = .ok (.aload_n 0, 1) := by decide +kernel
theorem dX2_readMisreading_53 : decode cX2_readMisreading 53 = .ok (.dup, 1) := by decide +kernel
theorem dX2_readMisreading_54 : decode cX2_readMisreading 54 = .ok (.getfield 32, 3) := by decide +kernel
theorem dX2_readMisreading_57 : decode cX2_readMisreading 57 = .ok (.iconst 1, 1) := by decide +kernel
theorem dX2_readMisreading_58 : decode cX2_readMisreading 58 = .ok (.iadd, 1) := by decide +kernel
theorem dX2_readMisreading_59 : decode cX2_readMisreading 59 = .ok (.putfield 32, 3) := by decide +kernel
theorem dX2_readMisreading_62 : decode cX2_readMisreading 62 = .ok (.aload_n 0, 1) := by decide +kernel
theorem dX2_readMisreading_63 : decode cX2_readMisreading 63 = .ok (.invokevirtual 50, 3) := by decide +kernel
theorem dX2_readMisreading_66 : decode cX2_readMisreading 66 = .ok (.istore_n 3, 1) := by decide +kernel
theorem dX2_readMisreading_67 : decode cX2_readMisreading 67 = .ok (.iload_n 3, 1) := by decide +kernel
theorem dX2_readMisreading_68 : decode cX2_readMisreading 68 = .ok (.ifCond .ne 5, 3) := by decide +kernel
theorem dX2_readMisreading_71 : decode cX2_readMisreading 71 = .ok (.iconst 0, 1) := by decide +kernel
theorem dX2_readMisreading_72 : decode cX2_readMisreading 72 = .ok (.ireturn, 1) := by decide +kernel
theorem dX2_readMisreading_73 : decode cX2_readMisreading 73 = .ok (.aload_n 0, 1) := by decide +kernel
theorem dX2_readMisreading_74 : decode cX2_readMisreading 74 = .ok (.getfield 19, 3) := by decide +kernel
theorem dX2_readMisreading_77 : decode cX2_readMisreading 77 = .ok (.iload_n 1, 1) := by decide +kernel
theorem dX2_readMisreading_78 : decode cX2_readMisreading 78 = .ok (.iload_n 3, 1) := by decide +kernel
theorem dX2_readMisreading_79 : decode cX2_readMisreading 79 = .ok (.invokestatic 54, 3) := by decide +kernel
theorem dX2_readMisreading_82 : decode cX2_readMisreading 82 = .ok (.aload_n 0, 1) := by decide +kernel
theorem dX2_readMisreading_83 : decode cX2_readMisreading 83 = .ok (.aload_n 0, 1) := by decide +kernel
theorem dX2_readMisreading_84 : decode cX2_readMisreading 84 = .ok (.getfield 43, 3) := by decide +kernel
theorem dX2_readMisreading_87 : decode cX2_readMisreading 87 = .ok (.iload_n 1, 1) := by decide +kernel
theorem dX2_readMisreading_88 : decode cX2_readMisreading 88 = .ok (.invokestatic 61, 3) := by decide +kernel
theorem dX2_readMisreading_91 : decode cX2_readMisreading 91 = .ok (.putfield 43, 3) := by decide +kernel
theorem dX2_readMisreading_94 : decode cX2_readMisreading 94 = .ok (.aload_n 0, 1) := by decide +kernel
theorem dX2_readMisreading_95 : decode cX2_readMisreading 95 = .ok (.dup, 1) := by decide +kernel
theorem dX2_readMisreading_96 : decode cX2_readMisreading 96 = .ok (.getfield 32, 3) := by decide +kernel
theorem dX2_readMisreading_99 : decode cX2_readMisreading 99 = .ok (.iconst 1, 1) := by decide +kernel
theorem dX2_readMisreading_100 : decode cX2_readMisreading 100 = .ok (.iadd, 1) := by decide +kernel
theorem dX2_readMisreading_101 : decode cX2_readMisreading 101 = .ok (.putfield 32, 3) := by decide +kernel
theorem dX2_readMisreading_104 : decode cX2_readMisreading 104 = .ok (.iconst 1, 1) := by decide +kernel
theorem dX2_readMisreading_105 : decode cX2_readMisreading 105 = .ok (.ireturn, 1) := by decide +kernel
theorem dX2_skip_0 : decode cX2_skip 0 = .ok (.aload_n 0, 1) := by decide +kernel
theorem dX2_skip_1 : decode cX2_skip 1 = .ok (.invokevirtual 67, 3) := by decide +kernel
theorem dX2_skip_4 : decode cX2_skip 4 = .ok (.ifCond .eq 16, 3) := by decide +kernel
theorem dX2_skip_7 : decode cX2_skip 7 = .ok (.aload_n 0, 1) := by decide +kernel
theorem dX2_skip_8 : decode cX2_skip 8 = .ok (.getfield 9, 3) := by decide +kernel
theorem dX2_skip_11 : decode cX2_skip 11 = .ok (.aload_n 0, 1) := by decide +kernel
theorem dX2_skip_12 : decode cX2_skip 12 = .ok (.getfield 32, 3) := by decide +kernel
theorem dX2_skip_15 : decode cX2_skip 15 = .ok (.caload, 1) := by decide +kernel
theorem dX2_skip_16 : decode cX2_skip 16 = .ok (.iload_n 1, 1) := by decide +kernel
theorem dX2_skip_17 : decode cX2_skip 17 = .ok (.if_icmp .eq 5, 3) := by decide +kernel
theorem dX2_skip_20 : decode cX2_skip 20 = .ok (.iconst 0, 1) := by decide +kernel
theorem dX2_skip_21 : decode cX2_skip 21 = .ok (.ireturn, 1) := by decide +kernel
theorem dX2_skip_22 : decode cX2_skip 22 = .ok (.aload_n 0, 1) := by decide +kernel
theorem dX2_skip_23 : decode cX2_skip 23 = .ok (.dup, 1) := by decide +kernel
theorem dX2_skip_24 : decode cX2_skip 24 = .ok (.getfield 32, 3) := by decide +kernel
theorem dX2_skip_27 : decode cX2_skip 27 = .ok (.iconst 1, 1) := by decide +kernel
theorem dX2_skip_28 : decode cX2_skip 28 = .ok (.iadd, 1) := by decide +kernel
theorem dX2_skip_29 : decode cX2_skip 29 = .ok (.putfield 32, 3) := by decide +kernel
theorem dX2_skip_32 : decode cX2_skip 32 = .ok (.iconst 1, 1) := by decide +kernel
theorem dX2_skip_33 : decode cX2_skip 33 = .ok (.ireturn, 1) := by decide +kernel
theorem dX2_letterAtCursor_0 : decode cX2_letterAtCursor 0 = .ok (.aload_n 0, 1) := by decide +kernel
theorem dX2_letterAtCursor_1 : decode cX2_letterAtCursor 1 = .ok (.invokevirtual 67, 3) := by decide +kernel
theorem dX2_letterAtCursor_4 : decode cX2_letterAtCursor 4 = .ok (.ifCond .ne 5, 3) := by decide +kernel
theorem dX2_letterAtCursor_7 : decode cX2_letterAtCursor 7 = .ok (.iconst 0, 1) := by decide +kernel
theorem dX2_letterAtCursor_8 : decode cX2_letterAtCursor 8 = .ok (.ireturn, 1) := by decide +kernel
theorem dX2_letterAtCursor_9 : decode cX2_letterAtCursor 9 = .ok (.aload_n 0, 1) := by decide +kernel
theorem dX2_letterAtCursor_10 : decode cX2_letterAtCursor 10 = .ok (.getfield 9, 3) := by decide +kernel
theorem dX2_letterAtCursor_13 : decode cX2_letterAtCursor 13 = .ok (.aload_n 0, 1) := by decide +kernel
theorem dX2_letterAtCursor_14 : decode cX2_letterAtCursor 14 = .ok (.getfield 32, 3) := by decide +kernel
theorem dX2_letterAtCursor_17 : decode cX2_letterAtCursor 17 = .ok (.caload, 1) := by decide +kernel
theorem dX2_letterAtCursor_18 : decode cX2_letterAtCursor 18 = .ok (.istore_n 1, 1) := by decide +kernel
theorem dX2_letterAtCursor_19 : decode cX2_letterAtCursor 19 = .ok (.iload_n 1, 1) := by decide +kernel
theorem dX2_letterAtCursor_20 : decode cX2_letterAtCursor 20 = .ok (.bipush 97, 2) := by decide +kernel
theorem dX2_letterAtCursor_22 : decode cX2_letterAtCursor 22 = .ok (.if_icmp .lt 18, 3) := by decide +kernel
theorem dX2_letterAtCursor_25 : decode cX2_letterAtCursor 25 = .ok (.iload_n 1, 1) := by decide +kernel
theorem dX2_letterAtCursor_26 : decode cX2_letterAtCursor 26 = .ok (.bipush 122, 2) := by decide +kernel
theorem dX2_letterAtCursor_28 : decode cX2_letterAtCursor 28 = .ok (.if_icmp .gt 12, 3) := by decide +kernel
theorem dX2_letterAtCursor_31 : decode cX2_letterAtCursor 31 = .ok (.iload_n 1, 1) := by decide +kernel
theorem dX2_letterAtCursor_32 : decode cX2_letterAtCursor 32 = .ok (.bipush 97, 2) := by decide +kernel
theorem dX2_letterAtCursor_34 : decode cX2_letterAtCursor 34 = .ok (.isub, 1) := by decide +kernel
theorem dX2_letterAtCursor_35 : decode cX2_letterAtCursor 35 = .ok (.iconst 1, 1) := by decide +kernel
theorem dX2_letterAtCursor_36 : decode cX2_letterAtCursor 36 = .ok (.iadd, 1) := by decide +kernel
theorem dX2_letterAtCursor_37 : decode cX2_letterAtCursor 37 = .ok (.goto 4, 3) := by decide +kernel
theorem dX2_letterAtCursor_40 : decode cX2_letterAtCursor 40 = .ok (.iconst 0, 1) := by decide +kernel
theorem dX2_letterAtCursor_41 : decode cX2_letterAtCursor 41 = .ok (.ireturn, 1) := by decide +kernel
theorem dX2_digitAtCursor_0 : decode cX2_digitAtCursor 0 = .ok (.aload_n 0, 1) := by decide +kernel
theorem dX2_digitAtCursor_1 : decode cX2_digitAtCursor 1 = .ok (.invokevirtual 67, 3) := by decide +kernel
theorem dX2_digitAtCursor_4 : decode cX2_digitAtCursor 4 = .ok (.ifCond .ne 5, 3) := by decide +kernel
theorem dX2_digitAtCursor_7 : decode cX2_digitAtCursor 7 = .ok (.iconst (-1), 1) := by decide +kernel
theorem dX2_digitAtCursor_8 : decode cX2_digitAtCursor 8 = .ok (.ireturn, 1) := by decide +kernel
theorem dX2_digitAtCursor_9 : decode cX2_digitAtCursor 9 = .ok (.aload_n 0, 1) := by decide +kernel
theorem dX2_digitAtCursor_10 : decode cX2_digitAtCursor 10 = .ok (.getfield 9, 3) := by decide +kernel
theorem dX2_digitAtCursor_13 : decode cX2_digitAtCursor 13 = .ok (.aload_n 0, 1) := by decide +kernel
theorem dX2_digitAtCursor_14 : decode cX2_digitAtCursor 14 = .ok (.getfield 32, 3) := by decide +kernel
theorem dX2_digitAtCursor_17 : decode cX2_digitAtCursor 17 = .ok (.caload, 1) := by decide +kernel
theorem dX2_digitAtCursor_18 : decode cX2_digitAtCursor 18 = .ok (.istore_n 1, 1) := by decide +kernel
theorem dX2_digitAtCursor_19 : decode cX2_digitAtCursor 19 = .ok (.iload_n 1, 1) := by decide +kernel
theorem dX2_digitAtCursor_20 : decode cX2_digitAtCursor 20 = .ok (.bipush 48, 2) := by decide +kernel
theorem dX2_digitAtCursor_22 : decode cX2_digitAtCursor 22 = .ok (.if_icmp .lt 16, 3) := by decide +kernel
theorem dX2_digitAtCursor_25 : decode cX2_digitAtCursor 25 = .ok (.iload_n 1, 1) := by decide +kernel
theorem dX2_digitAtCursor_26 : decode cX2_digitAtCursor 26 = .ok (.bipush 57, 2) := by decide +kernel
theorem dX2_digitAtCursor_28 : decode cX2_digitAtCursor 28 = .ok (.if_icmp .gt 10, 3) := by decide +kernel
theorem dX2_digitAtCursor_31 : decode cX2_digitAtCursor 31 = .ok (.iload_n 1, 1) := by decide +kernel
theorem dX2_digitAtCursor_32 : decode cX2_digitAtCursor 32 = .ok (.bipush 48, 2) := by decide +kernel
theorem dX2_digitAtCursor_34 : decode cX2_digitAtCursor 34 = .ok (.isub, 1) := by decide +kernel
theorem dX2_digitAtCursor_35 : decode cX2_digitAtCursor 35 = .ok (.goto 4, 3) := by decide +kernel
theorem dX2_digitAtCursor_38 : decode cX2_digitAtCursor 38 = .ok (.iconst (-1), 1) := by decide +kernel
theorem dX2_digitAtCursor_39 : decode cX2_digitAtCursor 39 = .ok (.ireturn, 1) := by decide +kernel
theorem dX2_isAtCharacter_0 : decode cX2_isAtCharacter 0 = .ok (.aload_n 0, 1) := by decide +kernel
theorem dX2_isAtCharacter_1 : decode cX2_isAtCharacter 1 = .ok (.getfield 32, 3) := by decide +kernel
theorem dX2_isAtCharacter_4 : decode cX2_isAtCharacter 4 = .ok (.ifCond .lt 30, 3) := by decide +kernel
theorem dX2_isAtCharacter_7 : decode cX2_isAtCharacter 7 = .ok (.aload_n 0, 1) := by decide +kernel
theorem dX2_isAtCharacter_8 : decode cX2_isAtCharacter 8 = .ok (.getfield 32, 3) := by decide +kernel
theorem dX2_isAtCharacter_11 : decode cX2_isAtCharacter 11 = .ok (.aload_n 0, 1) := by decide +kernel
theorem dX2_isAtCharacter_12 : decode cX2_isAtCharacter 12 = .ok (.getfield 22, 3) := by decide +kernel
theorem dX2_isAtCharacter_15 : decode cX2_isAtCharacter 15 = .ok (.if_icmp .ge 19, 3) := by decide +kernel
theorem dX2_isAtCharacter_18 : decode cX2_isAtCharacter 18 = .ok (.aload_n 0, 1) := by decide +kernel
theorem dX2_isAtCharacter_19 : decode cX2_isAtCharacter 19 = .ok (.getfield 32, 3) := by decide +kernel
theorem dX2_isAtCharacter_22 : decode cX2_isAtCharacter 22 = .ok (.aload_n 0, 1) := by decide +kernel
theorem dX2_isAtCharacter_23 : decode cX2_isAtCharacter 23 = .ok (.getfield 9, 3) := by decide +kernel
theorem dX2_isAtCharacter_26 : decode cX2_isAtCharacter 26 = .ok (.arraylength, 1) := by decide +kernel
theorem dX2_isAtCharacter_27 : decode cX2_isAtCharacter 27 = .ok (.if_icmp .ge 7, 3) := by decide +kernel
theorem dX2_isAtCharacter_30 : decode cX2_isAtCharacter 30 = .ok (.iconst 1, 1) := by decide +kernel
theorem dX2_isAtCharacter_31 : decode cX2_isAtCharacter 31 = .ok (.goto 4, 3) := by decide +kernel
theorem dX2_isAtCharacter_34 : decode cX2_isAtCharacter 34 = .ok (.iconst 0, 1) := by decide +kernel
theorem dX2_isAtCharacter_35 : decode cX2_isAtCharacter 35 = .ok (.ireturn, 1) := by decide +kernel
theorem dX3_init_0 : decode cX3_init 0 = .ok (.aload_n 0, 1) := by decide +kernel
theorem dX3_init_1 : decode cX3_init 1 = .ok (.invokespecial 1, 3) := by decide +kernel
theorem dX3_init_4 : decode cX3_init 4 = .ok (.aload_n 0, 1) := by decide +kernel
theorem dX3_init_5 : decode cX3_init 5 = .ok (.iconst 2, 1) := by decide +kernel
theorem dX3_init_6 : decode cX3_init 6 = .ok (.putfield 7, 3) := by decide +kernel
theorem dX3_init_9 : decode cX3_init 9 = .ok (.return_, 1) := by decide +kernel
theorem dX3_copyFrom_0 : decode cX3_copyFrom 0 = .ok (.aload_n 0, 1) := by decide +kernel
theorem dX3_copyFrom_1 : decode cX3_copyFrom 1 = .ok (.aload_n 1, 1) := by decide +kernel
theorem dX3_copyFrom_2 : decode cX3_copyFrom 2 = .ok (.getfield 7, 3) := by decide +kernel
theorem dX3_copyFrom_5 : decode cX3_copyFrom 5 = .ok (.putfield 7, 3) := by decide +kernel
theorem dX3_copyFrom_8 : decode cX3_copyFrom 8 = .ok (.aload_n 0, 1) := by decide +kernel
theorem dX3_copyFrom_9 : decode cX3_copyFrom 9 = .ok (.aload_n 1, 1) := by decide +kernel
theorem dX3_copyFrom_10 : decode cX3_copyFrom 10 = .ok (.getfield 13, 3) := by decide +kernel
theorem dX3_copyFrom_13 : decode cX3_copyFrom 13 = .ok (.putfield 13, 3) := by decide +kernel
theorem dX3_copyFrom_16 : decode cX3_copyFrom 16 = .ok (.aload_n 0, 1) := by decide +kernel
theorem dX3_copyFrom_17 : decode cX3_copyFrom 17 = .ok (.aload_n 1, 1) := by decide +kernel
theorem dX3_copyFrom_18 : decode cX3_copyFrom 18 = .ok (.getfield 16, 3) := by decide +kernel
theorem dX3_copyFrom_21 : decode cX3_copyFrom 21 = .ok (.putfield 16, 3) := by decide +kernel
theorem dX3_copyFrom_24 : decode cX3_copyFrom 24 = .ok (.aload_n 0, 1) := by decide +kernel
theorem dX3_copyFrom_25 : decode cX3_copyFrom 25 = .ok (.aload_n 1, 1) := by decide +kernel
theorem dX3_copyFrom_26 : decode cX3_copyFrom 26 = .ok (.getfield 19, 3) := by decide +kernel
theorem dX3_copyFrom_29 : decode cX3_copyFrom 29 = .ok (.putfield 19, 3) := by decide +kernel
theorem dX3_copyFrom_32 : decode cX3_copyFrom 32 = .ok (.aload_n 0, 1) := by decide +kernel
theorem dX3_copyFrom_33 : decode cX3_copyFrom 33 = .ok (.aload_n 1, 1) := by decide +kernel
theorem dX3_copyFrom_34 : decode cX3_copyFrom 34 = .ok (.getfield 22, 3) := by decide +kernel
theorem dX3_copyFrom_37 : decode cX3_copyFrom 37 = .ok (.putfield 22, 3) := by decide +kernel
theorem dX3_copyFrom_40 : decode cX3_copyFrom 40 = .ok (.aload_n 0, 1) := by decide +kernel
theorem dX3_copyFrom_41 : decode cX3_copyFrom 41 = .ok (.aload_n 1, 1) := by decide +kernel
theorem dX3_copyFrom_42 : decode cX3_copyFrom 42 = .ok (.getfield 25, 3) := by decide +kernel
theorem dX3_copyFrom_45 : decode cX3_copyFrom 45 = .ok (.putfield 25, 3) := by decide +kernel
theorem dX3_copyFrom_48 : decode cX3_copyFrom 48 = .ok (.aload_n 0, 1) := by decide +kernel
theorem dX3_copyFrom_49 : decode cX3_copyFrom 49 = .ok (.aload_n 1, 1) := by decide +kernel
theorem dX3_copyFrom_50 : decode cX3_copyFrom 50 = .ok (.getfield 28, 3) := by decide +kernel
theorem dX3_copyFrom_53 : decode cX3_copyFrom 53 = .ok (.putfield 28, 3) := by decide +kernel
theorem dX3_copyFrom_56 : decode cX3_copyFrom 56 = .ok (.return_, 1) := by decide +kernel
theorem dX3_beginPage_0 : decode cX3_beginPage 0 = .ok (.aload_n 0, 1) := by decide +kernel
theorem dX3_beginPage_1 : decode cX3_beginPage 1 = .ok (.iconst 0, 1) := by decide +kernel
theorem dX3_beginPage_2 : decode cX3_beginPage 2 = .ok (.putfield 13, 3) := by decide +kernel
theorem dX3_beginPage_5 : decode cX3_beginPage 5 = .ok (.aload_n 0, 1) := by decide +kernel
theorem dX3_beginPage_6 : decode cX3_beginPage 6 = .ok (.iconst 0, 1) := by decide +kernel
theorem dX3_beginPage_7 : decode cX3_beginPage 7 = .ok (.putfield 16, 3) := by decide +kernel
theorem dX3_beginPage_10 : decode cX3_beginPage 10 = .ok (.return_, 1) := by decide +kernel
theorem dX4_init_0 : decode cX4_init 0 = .ok (.aload_n 0, 1) := by decide +kernel
theorem dX4_init_1 : decode cX4_init 1 = .ok (.invokespecial 3, 3) := by decide +kernel
theorem dX4_init_4 : decode cX4_init 4 = .ok (.aload_n 0, 1) := by decide +kernel
theorem dX4_init_5 : decode cX4_init 5 = .ok (.new 9, 3) := by decide +kernel
theorem dX4_init_8 : decode cX4_init 8 = .ok (.dup, 1) := by decide +kernel
theorem dX4_init_9 : decode cX4_init 9 = .ok (.invokespecial 11, 3) := by decide +kernel
theorem dX4_init_12 : decode cX4_init 12 = .ok (.putfield 12, 3) := by decide +kernel
theorem dX4_init_15 : decode cX4_init 15 = .ok (.aload_n 0, 1) := by decide +kernel
theorem dX4_init_16 : decode cX4_init 16 = .ok (.new 18, 3) := by decide +kernel
theorem dX4_init_19 : decode cX4_init 19 = .ok (.dup, 1) := by decide +kernel
theorem dX4_init_20 : decode cX4_init 20 = .ok (.invokespecial 20, 3) := by decide +kernel
theorem dX4_init_23 : decode cX4_init 23 = .ok (.putfield 21, 3) := by decide +kernel
theorem dX4_init_26 : decode cX4_init 26 = .ok (.aload_n 0, 1) := by decide +kernel
theorem dX4_init_27 : decode cX4_init 27 = .ok (.new 18, 3) := by decide +kernel
theorem dX4_init_30 : decode cX4_init 30 = .ok (.dup, 1) := by decide +kernel
theorem dX4_init_31 : decode cX4_init 31 = .ok (.invokespecial 20, 3) := by decide +kernel
theorem dX4_init_34 : decode cX4_init 34 = .ok (.putfield 25, 3) := by decide +kernel
theorem dX4_init_37 : decode cX4_init 37 = .ok (.aload_n 0, 1) := by decide +kernel
theorem dX4_init_38 : decode cX4_init 38 = .ok (.iconst 3, 1) := by decide +kernel
theorem dX4_init_39 : decode cX4_init 39 = .ok (.newarray .int, 2) := by decide +kernel
theorem dX4_init_41 : decode cX4_init 41 = .ok (.dup, 1) := by decide +kernel
theorem dX4_init_42 : decode cX4_init 42 = .ok (.iconst 0, 1) := by decide +kernel
theorem dX4_init_43 : decode cX4_init 43 = .ok (.iconst 2, 1) := by decide +kernel
theorem dX4_init_44 : decode cX4_init 44 = .ok (.iastore, 1) := by decide +kernel
theorem dX4_init_45 : decode cX4_init 45 = .ok (.dup, 1) := by decide +kernel
theorem dX4_init_46 : decode cX4_init 46 = .ok (.iconst 1, 1) := by decide +kernel
theorem dX4_init_47 : decode cX4_init 47 = .ok (.bipush 7, 2) := by decide +kernel
theorem dX4_init_49 : decode cX4_init 49 = .ok (.iastore, 1) := by decide +kernel
theorem dX4_init_50 : decode cX4_init 50 = .ok (.dup, 1) := by decide +kernel
theorem dX4_init_51 : decode cX4_init 51 = .ok (.iconst 2, 1) := by decide +kernel
theorem dX4_init_52 : decode cX4_init 52 = .ok (.iconst 4, 1) := by decide +kernel
theorem dX4_init_53 : decode cX4_init 53 = .ok (.iastore, 1) := by decide +kernel
theorem dX4_init_54 : decode cX4_init 54 = .ok (.putfield 28, 3) := by decide +kernel
theorem dX4_init_57 : decode cX4_init 57 = .ok (.aload_n 0, 1) := by decide +kernel
theorem dX4_init_58 : decode cX4_init 58 = .ok (.ldc 32, 2) := by decide +kernel
theorem dX4_init_60 : decode cX4_init 60 = .ok (.putfield 33, 3) := by decide +kernel
theorem dX4_init_63 : decode cX4_init 63 = .ok (.return_, 1) := by decide +kernel
theorem dX4_copyFrom_0 : decode cX4_copyFrom 0 = .ok (.aload_n 0, 1) := by decide +kernel
theorem dX4_copyFrom_1 : decode cX4_copyFrom 1 = .ok (.getfield 12, 3) := by decide +kernel
theorem dX4_copyFrom_4 : decode cX4_copyFrom 4 = .ok (.aload_n 1, 1) := by decide +kernel
theorem dX4_copyFrom_5 : decode cX4_copyFrom 5 = .ok (.getfield 12, 3) := by decide +kernel
theorem dX4_copyFrom_8 : decode cX4_copyFrom 8 = .ok (.invokevirtual 37, 3) := by decide +kernel
theorem dX4_copyFrom_11 : decode cX4_copyFrom 11 = .ok (.aload_n 0, 1) := by decide +kernel
theorem dX4_copyFrom_12 : decode cX4_copyFrom 12 = .ok (.getfield 21, 3) := by decide +kernel
theorem dX4_copyFrom_15 : decode cX4_copyFrom 15 = .ok (.aload_n 1, 1) := by decide +kernel
theorem dX4_copyFrom_16 : decode cX4_copyFrom 16 = .ok (.getfield 21, 3) := by decide +kernel
theorem dX4_copyFrom_19 : decode cX4_copyFrom 19 = .ok (.invokevirtual 41, 3) := by decide +kernel
theorem dX4_copyFrom_22 : decode cX4_copyFrom 22 = .ok (.aload_n 0, 1) := by decide +kernel
theorem dX4_copyFrom_23 : decode cX4_copyFrom 23 = .ok (.getfield 25, 3) := by decide +kernel
theorem dX4_copyFrom_26 : decode cX4_copyFrom 26 = .ok (.aload_n 1, 1) := by decide +kernel
theorem dX4_copyFrom_27 : decode cX4_copyFrom 27 = .ok (.getfield 25, 3) := by decide +kernel
theorem dX4_copyFrom_30 : decode cX4_copyFrom 30 = .ok (.invokevirtual 41, 3) := by decide +kernel
theorem dX4_copyFrom_33 : decode cX4_copyFrom 33 = .ok (.aload_n 1, 1) := by decide +kernel
theorem dX4_copyFrom_34 : decode cX4_copyFrom 34 = .ok (.getfield 28, 3) := by decide +kernel
theorem dX4_copyFrom_37 : decode cX4_copyFrom 37 = .ok (.aload_n 0, 1) := by decide +kernel
theorem dX4_copyFrom_38 : decode cX4_copyFrom 38 = .ok (.getfield 28, 3) := by decide +kernel
theorem dX4_copyFrom_41 : decode cX4_copyFrom 41 = .ok (.invokestatic 44, 3) := by decide +kernel
theorem dX4_copyFrom_44 : decode cX4_copyFrom 44 = .ok (.aload_n 0, 1) := by decide +kernel
theorem dX4_copyFrom_45 : decode cX4_copyFrom 45 = .ok (.aload_n 1, 1) := by decide +kernel
theorem dX4_copyFrom_46 : decode cX4_copyFrom 46 = .ok (.getfield 33, 3) := by decide +kernel
theorem dX4_copyFrom_49 : decode cX4_copyFrom 49 = .ok (.putfield 33, 3) := by decide +kernel
theorem dX4_copyFrom_52 : decode cX4_copyFrom 52 = .ok (.aload_n 0, 1) := by decide +kernel
theorem dX4_copyFrom_53 : decode cX4_copyFrom 53 = .ok (.aload_n 1, 1) := by decide +kernel
theorem dX4_copyFrom_54 : decode cX4_copyFrom 54 = .ok (.getfield 48, 3) := by decide +kernel
theorem dX4_copyFrom_57 : decode cX4_copyFrom 57 = .ok (.putfield 48, 3) := by decide +kernel
theorem dX4_copyFrom_60 : decode cX4_copyFrom 60 = .ok (.aload_n 0, 1) := by decide +kernel
theorem dX4_copyFrom_61 : decode cX4_copyFrom 61 = .ok (.aload_n 1, 1) := by decide +kernel
theorem dX4_copyFrom_62 : decode cX4_copyFrom 62 = .ok (.getfield 51, 3) := by decide +kernel
theorem dX4_copyFrom_65 : decode cX4_copyFrom 65 = .ok (.putfield 51, 3) := by decide +kernel
theorem dX4_copyFrom_68 : decode cX4_copyFrom 68 = .ok (.aload_n 0, 1) := by decide +kernel
theorem dX4_copyFrom_69 : decode cX4_copyFrom 69 = .ok (.aload_n 1, 1) := by decide +kernel
theorem dX4_copyFrom_70 : decode cX4_copyFrom 70 = .ok (.getfield 54, 3) := by decide +kernel
theorem dX4_copyFrom_73 : decode cX4_copyFrom 73 = .ok (.putfield 54, 3) := by decide +kernel
theorem dX4_copyFrom_76 : decode cX4_copyFrom 76 = .ok (.aload_n 0, 1) := by decide +kernel
theorem dX4_copyFrom_77 : decode cX4_copyFrom 77 = .ok (.aload_n 1, 1) := by decide +kernel
theorem dX4_copyFrom_78 : decode cX4_copyFrom 78 = .ok (.getfield 58, 3) := by decide +kernel
theorem dX4_copyFrom_81 : decode cX4_copyFrom 81 = .ok (.putfield 58, 3) := by decide +kernel
theorem dX4_copyFrom_84 : decode cX4_copyFrom 84 = .ok (.aload_n 0, 1) := by decide +kernel
theorem dX4_copyFrom_85 : decode cX4_copyFrom 85 = .ok (.aload_n 1, 1) := by decide +kernel
theorem dX4_copyFrom_86 : decode cX4_copyFrom 86 = .ok (.getfield 61, 3) := by decide +kernel
theorem dX4_copyFrom_89 : decode cX4_copyFrom 89 = .ok (.putfield 61, 3) := by decide +kernel
theorem dX4_copyFrom_92 : decode cX4_copyFrom 92 = .ok (.aload_n 0, 1) := by decide +kernel
theorem dX4_copyFrom_93 : decode cX4_copyFrom 93 = .ok (.aload_n 1, 1) := by decide +kernel
theorem dX4_copyFrom_94 : decode cX4_copyFrom 94 = .ok (.getfield 64, 3) := by decide +kernel
theorem dX4_copyFrom_97 : decode cX4_copyFrom 97 = .ok (.putfield 64, 3) := by decide +kernel
theorem dX4_copyFrom_100 : decode cX4_copyFrom 100 = .ok (.return_, 1) := by decide +kernel
theorem dX4_scribeOf_0 : decode cX4_scribeOf 0 = .ok (.iload_n 1, 1) := by decide +kernel
theorem dX4_scribeOf_1 : decode cX4_scribeOf 1 = .ok (.ifCond .ne 10, 3) := by decide +kernel
theorem dX4_scribeOf_4 : decode cX4_scribeOf 4 = .ok (.aload_n 0, 1) := by decide +kernel
theorem dX4_scribeOf_5 : decode cX4_scribeOf 5 = .ok (.getfield 21, 3) := by decide +kernel
theorem dX4_scribeOf_8 : decode cX4_scribeOf 8 = .ok (.goto 7, 3) := by decide +kernel
theorem dX4_scribeOf_11 : decode cX4_scribeOf 11 = .ok (.aload_n 0, 1) := by decide +kernel
theorem dX4_scribeOf_12 : decode cX4_scribeOf 12 = .ok (.getfield 25, 3) := by decide +kernel
theorem dX4_scribeOf_15 : decode cX4_scribeOf 15 = .ok (.areturn, 1) := by decide +kernel
theorem dX4_beginPage_0 : decode cX4_beginPage 0 = .ok (.aload_n 0, 1) := by decide +kernel
theorem dX4_beginPage_1 : decode cX4_beginPage 1 = .ok (.getfield 12, 3) := by decide +kernel
theorem dX4_beginPage_4 : decode cX4_beginPage 4 = .ok (.aload_n 1, 1) := by decide +kernel
theorem dX4_beginPage_5 : decode cX4_beginPage 5 = .ok (.invokevirtual 67, 3) := by decide +kernel
theorem dX4_beginPage_8 : decode cX4_beginPage 8 = .ok (.aload_n 0, 1) := by decide +kernel
theorem dX4_beginPage_9 : decode cX4_beginPage 9 = .ok (.getfield 21, 3) := by decide +kernel
theorem dX4_beginPage_12 : decode cX4_beginPage 12 = .ok (.invokevirtual 71, 3) := by decide +kernel
theorem dX4_beginPage_15 : decode cX4_beginPage 15 = .ok (.aload_n 0, 1) := by decide +kernel
theorem dX4_beginPage_16 : decode cX4_beginPage 16 = .ok (.getfield 25, 3) := by decide +kernel
theorem dX4_beginPage_19 : decode cX4_beginPage 19 = .ok (.invokevirtual 71, 3) := by decide +kernel
theorem dX4_beginPage_22 : decode cX4_beginPage 22 = .ok (.aload_n 0, 1) := by decide +kernel
theorem dX4_beginPage_23 : decode cX4_beginPage 23 = .ok (.dup, 1) := by decide +kernel
theorem dX4_beginPage_24 : decode cX4_beginPage 24 = .ok (.getfield 58, 3) := by decide +kernel
theorem dX4_beginPage_27 : decode cX4_beginPage 27 = .ok (.iconst 1, 1) := by decide +kernel
theorem dX4_beginPage_28 : decode cX4_beginPage 28 = .ok (.iadd, 1) := by decide +kernel
theorem dX4_beginPage_29 : decode cX4_beginPage 29 = .ok (.putfield 58, 3) := by decide +kernel
theorem dX4_beginPage_32 : decode cX4_beginPage 32 = .ok (.return_, 1) := by decide +kernel
theorem dX4_lettersOnPage_0 : decode cX4_lettersOnPage 0 = .ok (.aload_n 0, 1) := by decide +kernel
theorem dX4_lettersOnPage_1 : decode cX4_lettersOnPage 1 = .ok (.getfield 21, 3) := by decide +kernel
theorem dX4_lettersOnPage_4 : decode cX4_lettersOnPage 4 = .ok (.getfield 74, 3) := by decide +kernel
theorem dX4_lettersOnPage_7 : decode cX4_lettersOnPage 7 = .ok (.aload_n 0, 1) := by decide +kernel
theorem dX4_lettersOnPage_8 : decode cX4_lettersOnPage 8 = .ok (.getfield 25, 3) := by decide +kernel
theorem dX4_lettersOnPage_11 : decode cX4_lettersOnPage 11 = .ok (.getfield 74, 3) := by decide +kernel
theorem dX4_lettersOnPage_14 : decode cX4_lettersOnPage 14 = .ok (.iadd, 1) := by decide +kernel
theorem dX4_lettersOnPage_15 : decode cX4_lettersOnPage 15 = .ok (.ireturn, 1) := by decide +kernel
theorem dX4_isDone_0 : decode cX4_isDone 0 = .ok (.aload_n 0, 1) := by decide +kernel
theorem dX4_isDone_1 : decode cX4_isDone 1 = .ok (.invokevirtual 75, 3) := by decide +kernel
theorem dX4_isDone_4 : decode cX4_isDone 4 = .ok (.aload_n 0, 1) := by decide +kernel
theorem dX4_isDone_5 : decode cX4_isDone 5 = .ok (.getfield 12, 3) := by decide +kernel
theorem dX4_isDone_8 : decode cX4_isDone 8 = .ok (.getfield 79, 3) := by decide +kernel
theorem dX4_isDone_11 : decode cX4_isDone 11 = .ok (.if_icmp .lt 7, 3) := by decide +kernel
theorem dX4_isDone_14 : decode cX4_isDone 14 = .ok (.iconst 1, 1) := by decide +kernel
theorem dX4_isDone_15 : decode cX4_isDone 15 = .ok (.goto 4, 3) := by decide +kernel
theorem dX4_isDone_18 : decode cX4_isDone 18 = .ok (.iconst 0, 1) := by decide +kernel
theorem dX4_isDone_19 : decode cX4_isDone 19 = .ok (.ireturn, 1) := by decide +kernel
theorem dX4_nextPlaceOf_0 : decode cX4_nextPlaceOf 0 = .ok (.aload_n 0, 1) := by decide +kernel
theorem dX4_nextPlaceOf_1 : decode cX4_nextPlaceOf 1 = .ok (.iload_n 1, 1) := by decide +kernel
theorem dX4_nextPlaceOf_2 : decode cX4_nextPlaceOf 2 = .ok (.invokevirtual 82, 3) := by decide +kernel
theorem dX4_nextPlaceOf_5 : decode cX4_nextPlaceOf 5 = .ok (.getfield 74, 3) := by decide +kernel
theorem dX4_nextPlaceOf_8 : decode cX4_nextPlaceOf 8 = .ok (.istore_n 2, 1) := by decide +kernel
theorem dX4_nextPlaceOf_9 : decode cX4_nextPlaceOf 9 = .ok (.iload_n 2, 1) := by decide +kernel
theorem dX4_nextPlaceOf_10 : decode cX4_nextPlaceOf 10 = .ok (.aload_n 0, 1) := by decide +kernel
theorem dX4_nextPlaceOf_11 : decode cX4_nextPlaceOf 11 = .ok (.getfield 12, 3) := by decide +kernel
theorem dX4_nextPlaceOf_14 : decode cX4_nextPlaceOf 14 = .ok (.getfield 79, 3) := by decide +kernel
theorem dX4_nextPlaceOf_17 : decode cX4_nextPlaceOf 17 = .ok (.iconst 2, 1) := by decide +kernel
theorem dX4_nextPlaceOf_18 : decode cX4_nextPlaceOf 18 = .ok (.idiv, 1) := by decide +kernel
theorem dX4_nextPlaceOf_19 : decode cX4_nextPlaceOf 19 = .ok (.if_icmp .lt 6, 3) := by decide +kernel
theorem dX4_nextPlaceOf_22 : decode cX4_nextPlaceOf 22 = .ok (.bipush (-5), 2) := by decide +kernel
theorem dX4_nextPlaceOf_24 : decode cX4_nextPlaceOf 24 = .ok (.ireturn, 1) := by decide +kernel
theorem dX4_nextPlaceOf_25 : decode cX4_nextPlaceOf 25 = .ok (.iload_n 1, 1) := by decide +kernel
theorem dX4_nextPlaceOf_26 : decode cX4_nextPlaceOf 26 = .ok (.ifCond .ne 7, 3) := by decide +kernel
theorem dX4_nextPlaceOf_29 : decode cX4_nextPlaceOf 29 = .ok (.iload_n 2, 1) := by decide +kernel
theorem dX4_nextPlaceOf_30 : decode cX4_nextPlaceOf 30 = .ok (.goto 11, 3) := by decide +kernel
theorem dX4_nextPlaceOf_33 : decode cX4_nextPlaceOf 33 = .ok (.aload_n 0, 1) := by decide +kernel
theorem dX4_nextPlaceOf_34 : decode cX4_nextPlaceOf 34 = .ok (.getfield 12, 3) := by decide +kernel
theorem dX4_nextPlaceOf_37 : decode cX4_nextPlaceOf 37 = .ok (.iload_n 2, 1) := by decide +kernel
theorem dX4_nextPlaceOf_38 : decode cX4_nextPlaceOf 38 = .ok (.invokevirtual 86, 3) := by decide +kernel
theorem dX4_nextPlaceOf_41 : decode cX4_nextPlaceOf 41 = .ok (.ireturn, 1) := by decide +kernel
theorem dX4_isBegun_0 : decode cX4_isBegun 0 = .ok (.aload_n 0, 1) := by decide +kernel
theorem dX4_isBegun_1 : decode cX4_isBegun 1 = .ok (.getfield 12, 3) := by decide +kernel
theorem dX4_isBegun_4 : decode cX4_isBegun 4 = .ok (.iload_n 1, 1) := by decide +kernel
theorem dX4_isBegun_5 : decode cX4_isBegun 5 = .ok (.invokevirtual 90, 3) := by decide +kernel
theorem dX4_isBegun_8 : decode cX4_isBegun 8 = .ok (.ifCond .ne 41, 3) := by decide +kernel
theorem dX4_isBegun_11 : decode cX4_isBegun 11 = .ok (.aload_n 0, 1) := by decide +kernel
theorem dX4_isBegun_12 : decode cX4_isBegun 12 = .ok (.getfield 21, 3) := by decide +kernel
theorem dX4_isBegun_15 : decode cX4_isBegun 15 = .ok (.getfield 94, 3) := by decide +kernel
theorem dX4_isBegun_18 : decode cX4_isBegun 18 = .ok (.ifCond .le 12, 3) := by decide +kernel
theorem dX4_isBegun_21 : decode cX4_isBegun 21 = .ok (.aload_n 0, 1) := by decide +kernel
theorem dX4_isBegun_22 : decode cX4_isBegun 22 = .ok (.iconst 0, 1) := by decide +kernel
theorem dX4_isBegun_23 : decode cX4_isBegun 23 = .ok (.invokevirtual 97, 3) := by decide +kernel
theorem dX4_isBegun_26 : decode cX4_isBegun 26 = .ok (.iload_n 1, 1) := by decide +kernel
theorem dX4_isBegun_27 : decode cX4_isBegun 27 = .ok (.if_icmp .eq 22, 3) := by decide +kernel
theorem dX4_isBegun_30 : decode cX4_isBegun 30 = .ok (.aload_n 0, 1) := by decide +kernel
theorem dX4_isBegun_31 : decode cX4_isBegun 31 = .ok (.getfield 25, 3) := by decide +kernel
theorem dX4_isBegun_34 : decode cX4_isBegun 34 = .ok (.getfield 94, 3) := by decide +kernel
theorem dX4_isBegun_37 : decode cX4_isBegun 37 = .ok (.ifCond .le 16, 3) := by decide +kernel
theorem dX4_isBegun_40 : decode cX4_isBegun 40 = .ok (.aload_n 0, 1) := by decide +kernel
theorem dX4_isBegun_41 : decode cX4_isBegun 41 = .ok (.iconst 1, 1) := by decide +kernel
theorem dX4_isBegun_42 : decode cX4_isBegun 42 = .ok (.invokevirtual 97, 3) := by decide +kernel
theorem dX4_isBegun_45 : decode cX4_isBegun 45 = .ok (.iload_n 1, 1) := by decide +kernel
theorem dX4_isBegun_46 : decode cX4_isBegun 46 = .ok (.if_icmp .ne 7, 3) := by decide +kernel
theorem dX4_isBegun_49 : decode cX4_isBegun 49 = .ok (.iconst 1, 1) := by decide +kernel
theorem dX4_isBegun_50 : decode cX4_isBegun 50 = .ok (.goto 4, 3) := by decide +kernel
theorem dX4_isBegun_53 : decode cX4_isBegun 53 = .ok (.iconst 0, 1) := by decide +kernel
theorem dX4_isBegun_54 : decode cX4_isBegun 54 = .ok (.ireturn, 1) := by decide +kernel
theorem dX4_correctionsLeft_0 : decode cX4_correctionsLeft 0 = .ok (.iconst 0, 1) := by decide +kernel
theorem dX4_correctionsLeft_1 : decode cX4_correctionsLeft 1 = .ok (.aload_n 0, 1) := by decide +kernel
theorem dX4_correctionsLeft_2 : decode cX4_correctionsLeft 2 = .ok (.getfield 28, 3) := by decide +kernel
theorem dX4_correctionsLeft_5 : decode cX4_correctionsLeft 5 = .ok (.iconst 2, 1) := by decide +kernel
theorem dX4_correctionsLeft_6 : decode cX4_correctionsLeft 6 = .ok (.invokestatic 100, 3) := by decide +kernel
theorem dX4_correctionsLeft_9 : decode cX4_correctionsLeft 9 = .ok (.aload_n 0, 1) := by decide +kernel
theorem dX4_correctionsLeft_10 : decode cX4_correctionsLeft 10 = .ok (.getfield 12, 3) := by decide +kernel
theorem dX4_correctionsLeft_13 : decode cX4_correctionsLeft 13 = .ok (.getfield 104, 3) := by decide +kernel
theorem dX4_correctionsLeft_16 : decode cX4_correctionsLeft 16 = .ok (.isub, 1) := by decide +kernel
theorem dX4_correctionsLeft_17 : decode cX4_correctionsLeft 17 = .ok (.invokestatic 107, 3) := by decide +kernel
theorem dX4_correctionsLeft_20 : decode cX4_correctionsLeft 20 = .ok (.ireturn, 1) := by decide +kernel
theorem dX4_canCorrect_0 : decode cX4_canCorrect 0 = .ok (.aload_n 0, 1) := by decide +kernel
theorem dX4_canCorrect_1 : decode cX4_canCorrect 1 = .ok (.getfield 12, 3) := by decide +kernel
theorem dX4_canCorrect_4 : decode cX4_canCorrect 4 = .ok (.iload_n 1, 1) := by decide +kernel
theorem dX4_canCorrect_5 : decode cX4_canCorrect 5 = .ok (.invokevirtual 90, 3) := by decide +kernel
theorem dX4_canCorrect_8 : decode cX4_canCorrect 8 = .ok (.ifCond .eq 36, 3) := by decide +kernel
theorem dX4_canCorrect_11 : decode cX4_canCorrect 11 = .ok (.aload_n 0, 1) := by decide +kernel
theorem dX4_canCorrect_12 : decode cX4_canCorrect 12 = .ok (.invokevirtual 113, 3) := by decide +kernel
theorem dX4_canCorrect_15 : decode cX4_canCorrect 15 = .ok (.ifCond .le 29, 3) := by decide +kernel
theorem dX4_canCorrect_18 : decode cX4_canCorrect 18 = .ok (.aload_n 0, 1) := by decide +kernel
theorem dX4_canCorrect_19 : decode cX4_canCorrect 19 = .ok (.getfield 33, 3) := by decide +kernel
theorem dX4_canCorrect_22 : decode cX4_canCorrect 22 = .ok (.aload_n 0, 1) := by decide +kernel
theorem dX4_canCorrect_23 : decode cX4_canCorrect 23 = .ok (.getfield 12, 3) := by decide +kernel
theorem dX4_canCorrect_26 : decode cX4_canCorrect 26 = .ok (.getfield 116, 3) := by decide +kernel
theorem dX4_canCorrect_29 : decode cX4_canCorrect 29 = .ok (.iload_n 1, 1) := by decide +kernel
theorem dX4_canCorrect_30 : decode cX4_canCorrect 30 = .ok (.invokestatic 100, 3) := by decide +kernel
theorem dX4_canCorrect_33 : decode cX4_canCorrect 33 = .ok (.invokestatic 119, 3) := by decide +kernel
theorem dX4_canCorrect_36 : decode cX4_canCorrect 36 = .ok (.fcmp .l, 1) := by decide +kernel
theorem dX4_canCorrect_37 : decode cX4_canCorrect 37 = .ok (.ifCond .lt 7, 3) := by decide +kernel
theorem dX4_canCorrect_40 : decode cX4_canCorrect 40 = .ok (.iconst 1, 1) := by decide +kernel
theorem dX4_canCorrect_41 : decode cX4_canCorrect 41 = .ok (.goto 4, 3) := by decide +kernel
theorem dX4_canCorrect_44 : decode cX4_canCorrect 44 = .ok (.iconst 0, 1) := by decide +kernel
theorem dX4_canCorrect_45 : decode cX4_canCorrect 45 = .ok (.ireturn, 1) := by decide +kernel
theorem dX4_makeCorrection_0 : decode cX4_makeCorrection 0 = .ok (.aload_n 0, 1) := by decide +kernel
theorem dX4_makeCorrection_1 : decode cX4_makeCorrection 1 = .ok (.getfield 12, 3) := by decide +kernel
theorem dX4_makeCorrection_4 : decode cX4_makeCorrection 4 = .ok (.getfield 116, 3) := by decide +kernel
theorem dX4_makeCorrection_7 : decode cX4_makeCorrection 7 = .ok (.iload_n 1, 1) := by decide +kernel
theorem dX4_makeCorrection_8 : decode cX4_makeCorrection 8 = .ok (.invokestatic 100, 3) := by decide +kernel
theorem dX4_makeCorrection_11 : decode cX4_makeCorrection 11 = .ok (.invokestatic 119, 3) := by decide +kernel
theorem dX4_makeCorrection_14 : decode cX4_makeCorrection 14 = .ok (.fstore_n 2, 1) := by decide +kernel
theorem dX4_makeCorrection_15 : decode cX4_makeCorrection 15 = .ok (.aload_n 0, 1) := by decide +kernel
theorem dX4_makeCorrection_16 : decode cX4_makeCorrection 16 = .ok (.dup, 1) := by decide +kernel
theorem dX4_makeCorrection_17 : decode cX4_makeCorrection 17 = .ok (.getfield 33, 3) := by decide +kernel
theorem dX4_makeCorrection_20 : decode cX4_makeCorrection 20 = .ok (.fload_n 2, 1) := by decide +kernel
theorem dX4_makeCorrection_21 : decode cX4_makeCorrection 21 = .ok (.fsub, 1) := by decide +kernel
theorem dX4_makeCorrection_22 : decode cX4_makeCorrection 22 = .ok (.putfield 33, 3) := by decide +kernel
theorem dX4_makeCorrection_25 : decode cX4_makeCorrection 25 = .ok (.aload_n 0, 1) := by decide +kernel
theorem dX4_makeCorrection_26 : decode cX4_makeCorrection 26 = .ok (.dup, 1) := by decide +kernel
theorem dX4_makeCorrection_27 : decode cX4_makeCorrection 27 = .ok (.getfield 51, 3) := by decide +kernel
theorem dX4_makeCorrection_30 : decode cX4_makeCorrection 30 = .ok (.fload_n 2, 1) := by decide +kernel
theorem dX4_makeCorrection_31 : decode cX4_makeCorrection 31 = .ok (.fadd, 1) := by decide +kernel
theorem dX4_makeCorrection_32 : decode cX4_makeCorrection 32 = .ok (.putfield 51, 3) := by decide +kernel
theorem dX4_makeCorrection_35 : decode cX4_makeCorrection 35 = .ok (.aload_n 0, 1) := by decide +kernel
theorem dX4_makeCorrection_36 : decode cX4_makeCorrection 36 = .ok (.getfield 12, 3) := by decide +kernel
theorem dX4_makeCorrection_39 : decode cX4_makeCorrection 39 = .ok (.iload_n 1, 1) := by decide +kernel
theorem dX4_makeCorrection_40 : decode cX4_makeCorrection 40 = .ok (.invokevirtual 123, 3) := by decide +kernel
theorem dX4_makeCorrection_43 : decode cX4_makeCorrection 43 = .ok (.return_, 1) := by decide +kernel
theorem dX4_deedOf_0 : decode cX4_deedOf 0 = .ok (.aload_n 0, 1) := by decide +kernel
theorem dX4_deedOf_1 : decode cX4_deedOf 1 = .ok (.iload_n 1, 1) := by decide +kernel
theorem dX4_deedOf_2 : decode cX4_deedOf 2 = .ok (.invokevirtual 82, 3) := by decide +kernel
theorem dX4_deedOf_5 : decode cX4_deedOf 5 = .ok (.astore_n 2, 1) := by decide +kernel
theorem dX4_deedOf_6 : decode cX4_deedOf 6 = .ok (.aload_n 2, 1) := by decide +kernel
theorem dX4_deedOf_7 : decode cX4_deedOf 7 = .ok (.getfield 127, 3) := by decide +kernel
theorem dX4_deedOf_10 : decode cX4_deedOf 10 = .ok (.ifCond .le 5, 3) := by decide +kernel
theorem dX4_deedOf_13 : decode cX4_deedOf 13 = .ok (.iconst 1, 1) := by decide +kernel
theorem dX4_deedOf_14 : decode cX4_deedOf 14 = .ok (.ireturn, 1) := by decide +kernel
theorem dX4_deedOf_15 : decode cX4_deedOf 15 = .ok (.aload_n 0, 1) := by decide +kernel
theorem dX4_deedOf_16 : decode cX4_deedOf 16 = .ok (.iload_n 1, 1) := by decide +kernel
theorem dX4_deedOf_17 : decode cX4_deedOf 17 = .ok (.invokevirtual 97, 3) := by decide +kernel
theorem dX4_deedOf_20 : decode cX4_deedOf 20 = .ok (.istore_n 3, 1) := by decide +kernel
theorem dX4_deedOf_21 : decode cX4_deedOf 21 = .ok (.iload_n 3, 1) := by decide +kernel
theorem dX4_deedOf_22 : decode cX4_deedOf 22 = .ok (.bipush (-5), 2) := by decide +kernel
theorem dX4_deedOf_24 : decode cX4_deedOf 24 = .ok (.if_icmp .ne 5, 3) := by decide +kernel
theorem dX4_deedOf_27 : decode cX4_deedOf 27 = .ok (.iconst 5, 1) := by decide +kernel
theorem dX4_deedOf_28 : decode cX4_deedOf 28 = .ok (.ireturn, 1) := by decide +kernel
theorem dX4_deedOf_29 : decode cX4_deedOf 29 = .ok (.aload_n 2, 1) := by decide +kernel
theorem dX4_deedOf_30 : decode cX4_deedOf 30 = .ok (.getfield 94, 3) := by decide +kernel
theorem dX4_deedOf_33 : decode cX4_deedOf 33 = .ok (.ifCond .gt 22, 3) := by decide +kernel
theorem dX4_deedOf_36 : decode cX4_deedOf 36 = .ok (.aload_n 2, 1) := by decide +kernel
theorem dX4_deedOf_37 : decode cX4_deedOf 37 = .ok (.getfield 130, 3) := by decide +kernel
theorem dX4_deedOf_40 : decode cX4_deedOf 40 = .ok (.aload_n 0, 1) := by decide +kernel
theorem dX4_deedOf_41 : decode cX4_deedOf 41 = .ok (.getfield 12, 3) := by decide +kernel
theorem dX4_deedOf_44 : decode cX4_deedOf 44 = .ok (.iload_n 3, 1) := by decide +kernel
theorem dX4_deedOf_45 : decode cX4_deedOf 45 = .ok (.invokevirtual 133, 3) := by decide +kernel
theorem dX4_deedOf_48 : decode cX4_deedOf 48 = .ok (.invokestatic 119, 3) := by decide +kernel
theorem dX4_deedOf_51 : decode cX4_deedOf 51 = .ok (.fcmp .l, 1) := by decide +kernel
theorem dX4_deedOf_52 : decode cX4_deedOf 52 = .ok (.ifCond .lt 5, 3) := by decide +kernel
theorem dX4_deedOf_55 : decode cX4_deedOf 55 = .ok (.iconst 0, 1) := by decide +kernel
theorem dX4_deedOf_56 : decode cX4_deedOf 56 = .ok (.ireturn, 1) := by decide +kernel
theorem dX4_deedOf_57 : decode cX4_deedOf 57 = .ok (.aload_n 0, 1) := by decide +kernel
theorem dX4_deedOf_58 : decode cX4_deedOf 58 = .ok (.iconst 1, 1) := by decide +kernel
theorem dX4_deedOf_59 : decode cX4_deedOf 59 = .ok (.iload_n 1, 1) := by decide +kernel
theorem dX4_deedOf_60 : decode cX4_deedOf 60 = .ok (.isub, 1) := by decide +kernel
theorem dX4_deedOf_61 : decode cX4_deedOf 61 = .ok (.invokevirtual 82, 3) := by decide +kernel
theorem dX4_deedOf_64 : decode cX4_deedOf 64 = .ok (.getfield 127, 3) := by decide +kernel
theorem dX4_deedOf_67 : decode cX4_deedOf 67 = .ok (.ifCond .le 5, 3) := by decide +kernel
theorem dX4_deedOf_70 : decode cX4_deedOf 70 = .ok (.iconst 3, 1) := by decide +kernel
theorem dX4_deedOf_71 : decode cX4_deedOf 71 = .ok (.ireturn, 1) := by decide +kernel
theorem dX4_deedOf_72 : decode cX4_deedOf 72 = .ok (.aload_n 0, 1) := by decide +kernel
theorem dX4_deedOf_73 : decode cX4_deedOf 73 = .ok (.getfield 33, 3) := by decide +kernel
theorem dX4_deedOf_76 : decode cX4_deedOf 76 = .ok (.fconst 0, 1) := by decide +kernel
theorem dX4_deedOf_77 : decode cX4_deedOf 77 = .ok (.fcmp .l, 1) := by decide +kernel
theorem dX4_deedOf_78 : decode cX4_deedOf 78 = .ok (.ifCond .le 7, 3) := by decide +kernel
theorem dX4_deedOf_81 : decode cX4_deedOf 81 = .ok (.iconst 2, 1) := by decide +kernel
theorem dX4_deedOf_82 : decode cX4_deedOf 82 = .ok (.goto 4, 3) := by decide +kernel
theorem dX4_deedOf_85 : decode cX4_deedOf 85 = .ok (.iconst 4, 1) := by decide +kernel
theorem dX4_deedOf_86 : decode cX4_deedOf 86 = .ok (.ireturn, 1) := by decide +kernel
theorem dX4_takeTurn_0 : decode cX4_takeTurn 0 = .ok (.aload_n 0, 1) := by decide +kernel
theorem dX4_takeTurn_1 : decode cX4_takeTurn 1 = .ok (.iload_n 1, 1) := by decide +kernel
theorem dX4_takeTurn_2 : decode cX4_takeTurn 2 = .ok (.invokevirtual 82, 3) := by decide +kernel
theorem dX4_takeTurn_5 : decode cX4_takeTurn 5 = .ok (.astore_n 2, 1) := by decide +kernel
theorem dX4_takeTurn_6 : decode cX4_takeTurn 6 = .ok (.aload_n 0, 1) := by decide +kernel
theorem dX4_takeTurn_7 : decode cX4_takeTurn 7 = .ok (.iload_n 1, 1) := by decide +kernel
theorem dX4_takeTurn_8 : decode cX4_takeTurn 8 = .ok (.invokevirtual 136, 3) := by decide +kernel
theorem dX4_takeTurn_11 : decode cX4_takeTurn 11 = .ok (.istore_n 3, 1) := by decide +kernel
theorem dX4_takeTurn_12 : decode cX4_takeTurn 12 = .ok (.iload_n 3, 1) := by decide +kernel
theorem dX4_takeTurn_13 : decode cX4_takeTurn 13 = .ok (.tableswitch 79 0 4 #[35, 43, 51, 66, 66], 35) := by decide +kernel
theorem dX4_takeTurn_48 : decode cX4_takeTurn 48 = .ok (.aload_n 0, 1) := by decide +kernel
theorem dX4_takeTurn_49 : decode cX4_takeTurn 49 = .ok (.iload_n 1, 1) := by decide +kernel
theorem dX4_takeTurn_50 : decode cX4_takeTurn 50 = .ok (.invokevirtual 139, 3) := by decide +kernel
theorem dX4_takeTurn_53 : decode cX4_takeTurn 53 = .ok (.goto 39, 3) := by decide +kernel
theorem dX4_takeTurn_56 : decode cX4_takeTurn 56 = .ok (.aload_n 0, 1) := by decide +kernel
theorem dX4_takeTurn_57 : decode cX4_takeTurn 57 = .ok (.aload_n 2, 1) := by decide +kernel
theorem dX4_takeTurn_58 : decode cX4_takeTurn 58 = .ok (.invokevirtual 142, 3) := by decide +kernel
theorem dX4_takeTurn_61 : decode cX4_takeTurn 61 = .ok (.goto 31, 3) := by decide +kernel
theorem dX4_takeTurn_64 : decode cX4_takeTurn 64 = .ok (.aload_n 2, 1) := by decide +kernel
theorem dX4_takeTurn_65 : decode cX4_takeTurn 65 = .ok (.aload_n 0, 1) := by decide +kernel
theorem dX4_takeTurn_66 : decode cX4_takeTurn 66 = .ok (.getfield 28, 3) := by decide +kernel
theorem dX4_takeTurn_69 : decode cX4_takeTurn 69 = .ok (.iconst 0, 1) := by decide +kernel
theorem dX4_takeTurn_70 : decode cX4_takeTurn 70 = .ok (.invokestatic 100, 3) := by decide +kernel
theorem dX4_takeTurn_73 : decode cX4_takeTurn 73 = .ok (.putfield 127, 3) := by decide +kernel
theorem dX4_takeTurn_76 : decode cX4_takeTurn 76 = .ok (.goto 16, 3) := by decide +kernel
theorem dX4_takeTurn_79 : decode cX4_takeTurn 79 = .ok (.aload_n 2, 1) := by decide +kernel
theorem dX4_takeTurn_80 : decode cX4_takeTurn 80 = .ok (.dup, 1) := by decide +kernel
theorem dX4_takeTurn_81 : decode cX4_takeTurn 81 = .ok (.getfield 145, 3) := by decide +kernel
theorem dX4_takeTurn_84 : decode cX4_takeTurn 84 = .ok (.iconst 1, 1) := by decide +kernel
theorem dX4_takeTurn_85 : decode cX4_takeTurn 85 = .ok (.iadd, 1) := by decide +kernel
theorem dX4_takeTurn_86 : decode cX4_takeTurn 86 = .ok (.putfield 145, 3) := by decide +kernel
theorem dX4_takeTurn_89 : decode cX4_takeTurn 89 = .ok (.goto 3, 3) := by decide +kernel
theorem dX4_takeTurn_92 : decode cX4_takeTurn 92 = .ok (.iload_n 3, 1) := by decide +kernel
theorem dX4_takeTurn_93 : decode cX4_takeTurn 93 = .ok (.ireturn, 1) := by decide +kernel
theorem dX4_goOnDipping_0 : decode cX4_goOnDipping 0 = .ok (.aload_n 1, 1) := by decide +kernel
theorem dX4_goOnDipping_1 : decode cX4_goOnDipping 1 = .ok (.dup, 1) := by decide +kernel
theorem dX4_goOnDipping_2 : decode cX4_goOnDipping 2 = .ok (.getfield 127, 3) := by decide +kernel
theorem dX4_goOnDipping_5 : decode cX4_goOnDipping 5 = .ok (.iconst 1, 1) := by decide +kernel
theorem dX4_goOnDipping_6 : decode cX4_goOnDipping 6 = .ok (.isub, 1) := by decide +kernel
theorem dX4_goOnDipping_7 : decode cX4_goOnDipping 7 = .ok (.putfield 127, 3) := by decide +kernel
theorem dX4_goOnDipping_10 : decode cX4_goOnDipping 10 = .ok (.aload_n 1, 1) := by decide +kernel
theorem dX4_goOnDipping_11 : decode cX4_goOnDipping 11 = .ok (.getfield 127, 3) := by decide +kernel
theorem dX4_goOnDipping_14 : decode cX4_goOnDipping 14 = .ok (.ifCond .le 4, 3) := by decide +kernel
theorem dX4_goOnDipping_17 : decode cX4_goOnDipping 17 = .ok (.return_, 1) := by decide +kernel
theorem dX4_goOnDipping_18 : decode cX4_goOnDipping 18 = .ok (.fconst 1, 1) := by decide +kernel
theorem dX4_goOnDipping_19 : decode cX4_goOnDipping 19 = .ok (.aload_n 1, 1) := by decide +kernel
theorem dX4_goOnDipping_20 : decode cX4_goOnDipping 20 = .ok (.getfield 130, 3) := by decide +kernel
theorem dX4_goOnDipping_23 : decode cX4_goOnDipping 23 = .ok (.fsub, 1) := by decide +kernel
theorem dX4_goOnDipping_24 : decode cX4_goOnDipping 24 = .ok (.fstore_n 2, 1) := by decide +kernel
theorem dX4_goOnDipping_25 : decode cX4_goOnDipping 25 = .ok (.aload_n 0, 1) := by decide +kernel
theorem dX4_goOnDipping_26 : decode cX4_goOnDipping 26 = .ok (.getfield 33, 3) := by decide +kernel
theorem dX4_goOnDipping_29 : decode cX4_goOnDipping 29 = .ok (.fload_n 2, 1) := by decide +kernel
theorem dX4_goOnDipping_30 : decode cX4_goOnDipping 30 = .ok (.fcmp .g, 1) := by decide +kernel
theorem dX4_goOnDipping_31 : decode cX4_goOnDipping 31 = .ok (.ifCond .ge 10, 3) := by decide +kernel
theorem dX4_goOnDipping_34 : decode cX4_goOnDipping 34 = .ok (.aload_n 0, 1) := by decide +kernel
theorem dX4_goOnDipping_35 : decode cX4_goOnDipping 35 = .ok (.getfield 33, 3) := by decide +kernel
theorem dX4_goOnDipping_38 : decode cX4_goOnDipping 38 = .ok (.goto 4, 3) := by decide +kernel
theorem dX4_goOnDipping_41 : decode cX4_goOnDipping 41 = .ok (.fload_n 2, 1) := by decide +kernel
theorem dX4_goOnDipping_42 : decode cX4_goOnDipping 42 = .ok (.fstore_n 3, 1) := by decide +kernel
theorem dX4_goOnDipping_43 : decode cX4_goOnDipping 43 = .ok (.aload_n 1, 1) := by decide +kernel
theorem dX4_goOnDipping_44 : decode cX4_goOnDipping 44 = .ok (.dup, 1) := by decide +kernel
theorem dX4_goOnDipping_45 : decode cX4_goOnDipping 45 = .ok (.getfield 130, 3) := by decide +kernel
theorem dX4_goOnDipping_48 : decode cX4_goOnDipping 48 = .ok (.fload_n 3, 1) := by decide +kernel
theorem dX4_goOnDipping_49 : decode cX4_goOnDipping 49 = .ok (.fadd, 1) := by decide +kernel
theorem dX4_goOnDipping_50 : decode cX4_goOnDipping 50 = .ok (.putfield 130, 3) := by decide +kernel
theorem dX4_goOnDipping_53 : decode cX4_goOnDipping 53 = .ok (.aload_n 0, 1) := by decide +kernel
theorem dX4_goOnDipping_54 : decode cX4_goOnDipping 54 = .ok (.dup, 1) := by decide +kernel
theorem dX4_goOnDipping_55 : decode cX4_goOnDipping 55 = .ok (.getfield 33, 3) := by decide +kernel
theorem dX4_goOnDipping_58 : decode cX4_goOnDipping 58 = .ok (.fload_n 3, 1) := by decide +kernel
theorem dX4_goOnDipping_59 : decode cX4_goOnDipping 59 = .ok (.fsub, 1) := by decide +kernel
theorem dX4_goOnDipping_60 : decode cX4_goOnDipping 60 = .ok (.putfield 33, 3) := by decide +kernel
theorem dX4_goOnDipping_63 : decode cX4_goOnDipping 63 = .ok (.aload_n 1, 1) := by decide +kernel
theorem dX4_goOnDipping_64 : decode cX4_goOnDipping 64 = .ok (.dup, 1) := by decide +kernel
theorem dX4_goOnDipping_65 : decode cX4_goOnDipping 65 = .ok (.getfield 148, 3) := by decide +kernel
theorem dX4_goOnDipping_68 : decode cX4_goOnDipping 68 = .ok (.iconst 1, 1) := by decide +kernel
theorem dX4_goOnDipping_69 : decode cX4_goOnDipping 69 = .ok (.iadd, 1) := by decide +kernel
theorem dX4_goOnDipping_70 : decode cX4_goOnDipping 70 = .ok (.putfield 148, 3) := by decide +kernel
theorem dX4_goOnDipping_73 : decode cX4_goOnDipping 73 = .ok (.return_, 1) := by decide +kernel
theorem dX4_spendTick_0 : decode cX4_spendTick 0 = .ok (.aload_n 0, 1) := by decide +kernel
theorem dX4_spendTick_1 : decode cX4_spendTick 1 = .ok (.iload_n 1, 1) := by decide +kernel
theorem dX4_spendTick_2 : decode cX4_spendTick 2 = .ok (.invokevirtual 82, 3) := by decide +kernel
theorem dX4_spendTick_5 : decode cX4_spendTick 5 = .ok (.astore_n 2, 1) := by decide +kernel
theorem dX4_spendTick_6 : decode cX4_spendTick 6 = .ok (.aload_n 2, 1) := by decide +kernel
theorem dX4_spendTick_7 : decode cX4_spendTick 7 = .ok (.dup, 1) := by decide +kernel
theorem dX4_spendTick_8 : decode cX4_spendTick 8 = .ok (.getfield 94, 3) := by decide +kernel
theorem dX4_spendTick_11 : decode cX4_spendTick 11 = .ok (.iconst 1, 1) := by decide +kernel
theorem dX4_spendTick_12 : decode cX4_spendTick 12 = .ok (.iadd, 1) := by decide +kernel
theorem dX4_spendTick_13 : decode cX4_spendTick 13 = .ok (.putfield 94, 3) := by decide +kernel
theorem dX4_spendTick_16 : decode cX4_spendTick 16 = .ok (.aload_n 2, 1) := by decide +kernel
theorem dX4_spendTick_17 : decode cX4_spendTick 17 = .ok (.getfield 94, 3) := by decide +kernel
theorem dX4_spendTick_20 : decode cX4_spendTick 20 = .ok (.aload_n 2, 1) := by decide +kernel
theorem dX4_spendTick_21 : decode cX4_spendTick 21 = .ok (.getfield 151, 3) := by decide +kernel
theorem dX4_spendTick_24 : decode cX4_spendTick 24 = .ok (.if_icmp .ge 4, 3) := by decide +kernel
theorem dX4_spendTick_27 : decode cX4_spendTick 27 = .ok (.return_, 1) := by decide +kernel
theorem dX4_spendTick_28 : decode cX4_spendTick 28 = .ok (.aload_n 0, 1) := by decide +kernel
theorem dX4_spendTick_29 : decode cX4_spendTick 29 = .ok (.iload_n 1, 1) := by decide +kernel
theorem dX4_spendTick_30 : decode cX4_spendTick 30 = .ok (.invokevirtual 97, 3) := by decide +kernel
theorem dX4_spendTick_33 : decode cX4_spendTick 33 = .ok (.istore_n 3, 1) := by decide +kernel
theorem dX4_spendTick_34 : decode cX4_spendTick 34 = .ok (.aload_n 0, 1) := by decide +kernel
theorem dX4_spendTick_35 : decode cX4_spendTick 35 = .ok (.getfield 12, 3) := by decide +kernel
theorem dX4_spendTick_38 : decode cX4_spendTick 38 = .ok (.iload_n 3, 1) := by decide +kernel
theorem dX4_spendTick_39 : decode cX4_spendTick 39 = .ok (.invokevirtual 133, 3) := by decide +kernel
theorem dX4_spendTick_42 : decode cX4_spendTick 42 = .ok (.istore 4, 2) := by decide +kernel
theorem dX4_spendTick_44 : decode cX4_spendTick 44 = .ok (.iload 4, 2) := by decide +kernel
theorem dX4_spendTick_46 : decode cX4_spendTick 46 = .ok (.invokestatic 119, 3) := by decide +kernel
theorem dX4_spendTick_49 : decode cX4_spendTick 49 = .ok (.fstore 5, 2) := by decide +kernel
theorem dX4_spendTick_51 : decode cX4_spendTick 51 = .ok (.aload_n 2, 1) := by decide +kernel
theorem dX4_spendTick_52 : decode cX4_spendTick 52 = .ok (.getfield 130, 3) := by decide +kernel
theorem dX4_spendTick_55 : decode cX4_spendTick 55 = .ok (.aload_n 0, 1) := by decide +kernel
theorem dX4_spendTick_56 : decode cX4_spendTick 56 = .ok (.getfield 28, 3) := by decide +kernel
theorem dX4_spendTick_59 : decode cX4_spendTick 59 = .ok (.iconst 1, 1) := by decide +kernel
theorem dX4_spendTick_60 : decode cX4_spendTick 60 = .ok (.invokestatic 100, 3) := by decide +kernel
theorem dX4_spendTick_63 : decode cX4_spendTick 63 = .ok (.i2f, 1) := by decide +kernel
theorem dX4_spendTick_64 : decode cX4_spendTick 64 = .ok (.ldc 154, 2) := by decide +kernel
theorem dX4_spendTick_66 : decode cX4_spendTick 66 = .ok (.fdiv, 1) := by decide +kernel
theorem dX4_spendTick_67 : decode cX4_spendTick 67 = .ok (.fcmp .l, 1) := by decide +kernel
theorem dX4_spendTick_68 : decode cX4_spendTick 68 = .ok (.ifCond .le 7, 3) := by decide +kernel
theorem dX4_spendTick_71 : decode cX4_spendTick 71 = .ok (.iconst 1, 1) := by decide +kernel
theorem dX4_spendTick_72 : decode cX4_spendTick 72 = .ok (.goto 4, 3) := by decide +kernel
theorem dX4_spendTick_75 : decode cX4_spendTick 75 = .ok (.iconst 0, 1) := by decide +kernel
theorem dX4_spendTick_76 : decode cX4_spendTick 76 = .ok (.istore 6, 2) := by decide +kernel
theorem dX4_spendTick_78 : decode cX4_spendTick 78 = .ok (.aload_n 0, 1) := by decide +kernel
theorem dX4_spendTick_79 : decode cX4_spendTick 79 = .ok (.getfield 12, 3) := by decide +kernel
theorem dX4_spendTick_82 : decode cX4_spendTick 82 = .ok (.iload_n 3, 1) := by decide +kernel
theorem dX4_spendTick_83 : decode cX4_spendTick 83 = .ok (.iload 4, 2) := by decide +kernel
theorem dX4_spendTick_85 : decode cX4_spendTick 85 = .ok (.iload 6, 2) := by decide +kernel
theorem dX4_spendTick_87 : decode cX4_spendTick 87 = .ok (.aload_n 0, 1) := by decide +kernel
theorem dX4_spendTick_88 : decode cX4_spendTick 88 = .ok (.getfield 54, 3) := by decide +kernel
theorem dX4_spendTick_91 : decode cX4_spendTick 91 = .ok (.invokevirtual 155, 3) := by decide +kernel
theorem dX4_spendTick_94 : decode cX4_spendTick 94 = .ok (.aload_n 2, 1) := by decide +kernel
theorem dX4_spendTick_95 : decode cX4_spendTick 95 = .ok (.dup, 1) := by decide +kernel
theorem dX4_spendTick_96 : decode cX4_spendTick 96 = .ok (.getfield 130, 3) := by decide +kernel
theorem dX4_spendTick_99 : decode cX4_spendTick 99 = .ok (.fload 5, 2) := by decide +kernel
theorem dX4_spendTick_101 : decode cX4_spendTick 101 = .ok (.fsub, 1) := by decide +kernel
theorem dX4_spendTick_102 : decode cX4_spendTick 102 = .ok (.putfield 130, 3) := by decide +kernel
theorem dX4_spendTick_105 : decode cX4_spendTick 105 = .ok (.aload_n 0, 1) := by decide +kernel
theorem dX4_spendTick_106 : decode cX4_spendTick 106 = .ok (.dup, 1) := by decide +kernel
theorem dX4_spendTick_107 : decode cX4_spendTick 107 = .ok (.getfield 48, 3) := by decide +kernel
theorem dX4_spendTick_110 : decode cX4_spendTick 110 = .ok (.fload 5, 2) := by decide +kernel
theorem dX4_spendTick_112 : decode cX4_spendTick 112 = .ok (.fadd, 1) := by decide +kernel
theorem dX4_spendTick_113 : decode cX4_spendTick 113 = .ok (.putfield 48, 3) := by decide +kernel
theorem dX4_spendTick_116 : decode cX4_spendTick 116 = .ok (.aload_n 2, 1) := by decide +kernel
theorem dX4_spendTick_117 : decode cX4_spendTick 117 = .ok (.iconst 0, 1) := by decide +kernel
theorem dX4_spendTick_118 : decode cX4_spendTick 118 = .ok (.putfield 94, 3) := by decide +kernel
theorem dX4_spendTick_121 : decode cX4_spendTick 121 = .ok (.aload_n 2, 1) := by decide +kernel
theorem dX4_spendTick_122 : decode cX4_spendTick 122 = .ok (.dup, 1) := by decide +kernel
theorem dX4_spendTick_123 : decode cX4_spendTick 123 = .ok (.getfield 74, 3) := by decide +kernel
theorem dX4_spendTick_126 : decode cX4_spendTick 126 = .ok (.iconst 1, 1) := by decide +kernel
theorem dX4_spendTick_127 : decode cX4_spendTick 127 = .ok (.iadd, 1) := by decide +kernel
theorem dX4_spendTick_128 : decode cX4_spendTick 128 = .ok (.putfield 74, 3) := by decide +kernel
theorem dX4_spendTick_131 : decode cX4_spendTick 131 = .ok (.aload_n 0, 1) := by decide +kernel
theorem dX4_spendTick_132 : decode cX4_spendTick 132 = .ok (.dup, 1) := by decide +kernel
theorem dX4_spendTick_133 : decode cX4_spendTick 133 = .ok (.getfield 61, 3) := by decide +kernel
theorem dX4_spendTick_136 : decode cX4_spendTick 136 = .ok (.iconst 1, 1) := by decide +kernel
theorem dX4_spendTick_137 : decode cX4_spendTick 137 = .ok (.iadd, 1) := by decide +kernel
theorem dX4_spendTick_138 : decode cX4_spendTick 138 = .ok (.putfield 61, 3) := by decide +kernel
theorem dX4_spendTick_141 : decode cX4_spendTick 141 = .ok (.return_, 1) := by decide +kernel
theorem dX4_passTick_0 : decode cX4_passTick 0 = .ok (.aload_n 0, 1) := by decide +kernel
theorem dX4_passTick_1 : decode cX4_passTick 1 = .ok (.dup, 1) := by decide +kernel
theorem dX4_passTick_2 : decode cX4_passTick 2 = .ok (.getfield 54, 3) := by decide +kernel
theorem dX4_passTick_5 : decode cX4_passTick 5 = .ok (.iconst 1, 1) := by decide +kernel
theorem dX4_passTick_6 : decode cX4_passTick 6 = .ok (.iadd, 1) := by decide +kernel
theorem dX4_passTick_7 : decode cX4_passTick 7 = .ok (.putfield 54, 3) := by decide +kernel
theorem dX4_passTick_10 : decode cX4_passTick 10 = .ok (.aload_n 0, 1) := by decide +kernel
theorem dX4_passTick_11 : decode cX4_passTick 11 = .ok (.iconst 0, 1) := by decide +kernel
theorem dX4_passTick_12 : decode cX4_passTick 12 = .ok (.invokevirtual 159, 3) := by decide +kernel
theorem dX4_passTick_15 : decode cX4_passTick 15 = .ok (.istore_n 1, 1) := by decide +kernel
theorem dX4_passTick_16 : decode cX4_passTick 16 = .ok (.aload_n 0, 1) := by decide +kernel
theorem dX4_passTick_17 : decode cX4_passTick 17 = .ok (.iconst 1, 1) := by decide +kernel
theorem dX4_passTick_18 : decode cX4_passTick 18 = .ok (.invokevirtual 159, 3) := by decide +kernel
theorem dX4_passTick_21 : decode cX4_passTick 21 = .ok (.istore_n 2, 1) := by decide +kernel
theorem dX4_passTick_22 : decode cX4_passTick 22 = .ok (.iload_n 1, 1) := by decide +kernel
theorem dX4_passTick_23 : decode cX4_passTick 23 = .ok (.iconst 2, 1) := by decide +kernel
theorem dX4_passTick_24 : decode cX4_passTick 24 = .ok (.if_icmp .le 8, 3) := by decide +kernel
theorem dX4_passTick_27 : decode cX4_passTick 27 = .ok (.iload_n 2, 1) := by decide +kernel
theorem dX4_passTick_28 : decode cX4_passTick 28 = .ok (.iconst 2, 1) := by decide +kernel
theorem dX4_passTick_29 : decode cX4_passTick 29 = .ok (.if_icmp .gt 7, 3) := by decide +kernel
theorem dX4_passTick_32 : decode cX4_passTick 32 = .ok (.iconst 1, 1) := by decide +kernel
theorem dX4_passTick_33 : decode cX4_passTick 33 = .ok (.goto 4, 3) := by decide +kernel
theorem dX4_passTick_36 : decode cX4_passTick 36 = .ok (.iconst 0, 1) := by decide +kernel
theorem dX4_passTick_37 : decode cX4_passTick 37 = .ok (.ireturn, 1) := by decide +kernel
theorem dX4_runUntilDone_0 : decode cX4_runUntilDone 0 = .ok (.iconst 0, 1) := by decide +kernel
theorem dX4_runUntilDone_1 : decode cX4_runUntilDone 1 = .ok (.istore_n 1, 1) := by decide +kernel
theorem dX4_runUntilDone_2 : decode cX4_runUntilDone 2 = .ok (.iload_n 1, 1) := by decide +kernel
theorem dX4_runUntilDone_3 : decode cX4_runUntilDone 3 = .ok (.sipush 2000, 3) := by decide +kernel
theorem dX4_runUntilDone_6 : decode cX4_runUntilDone 6 = .ok (.if_icmp .gt 28, 3) := by decide +kernel
theorem dX4_runUntilDone_9 : decode cX4_runUntilDone 9 = .ok (.aload_n 0, 1) := by decide +kernel
theorem dX4_runUntilDone_10 : decode cX4_runUntilDone 10 = .ok (.invokevirtual 162, 3) := by decide +kernel
theorem dX4_runUntilDone_13 : decode cX4_runUntilDone 13 = .ok (.ifCond .eq 5, 3) := by decide +kernel
theorem dX4_runUntilDone_16 : decode cX4_runUntilDone 16 = .ok (.iload_n 1, 1) := by decide +kernel
theorem dX4_runUntilDone_17 : decode cX4_runUntilDone 17 = .ok (.ireturn, 1) := by decide +kernel
theorem dX4_runUntilDone_18 : decode cX4_runUntilDone 18 = .ok (.aload_n 0, 1) := by decide +kernel
theorem dX4_runUntilDone_19 : decode cX4_runUntilDone 19 = .ok (.invokevirtual 166, 3) := by decide +kernel
theorem dX4_runUntilDone_22 : decode cX4_runUntilDone 22 = .ok (.ifCond .ne 6, 3) := by decide +kernel
theorem dX4_runUntilDone_25 : decode cX4_runUntilDone 25 = .ok (.bipush (-5), 2) := by decide +kernel
theorem dX4_runUntilDone_27 : decode cX4_runUntilDone 27 = .ok (.ireturn, 1) := by decide +kernel
theorem dX4_runUntilDone_28 : decode cX4_runUntilDone 28 = .ok (.iinc 1 1, 3) := by decide +kernel
theorem dX4_runUntilDone_31 : decode cX4_runUntilDone 31 = .ok (.goto (-29), 3) := by decide +kernel
theorem dX4_runUntilDone_34 : decode cX4_runUntilDone 34 = .ok (.bipush (-5), 2) := by decide +kernel
theorem dX4_runUntilDone_36 : decode cX4_runUntilDone 36 = .ok (.ireturn, 1) := by decide +kernel
