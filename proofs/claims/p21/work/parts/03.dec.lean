theorem dX0_init_0 : decode cX0_init 0 = .ok (.aload_n 0, 1) := by decide +kernel
theorem dX0_init_1 : decode cX0_init 1 = .ok (.invokespecial 3, 3) := by decide +kernel
theorem dX0_init_4 : decode cX0_init 4 = .ok (.return_, 1) := by decide +kernel
theorem dX0_set_0 : decode cX0_set 0 = .ok (.aload_n 0, 1) := by decide +kernel
theorem dX0_set_1 : decode cX0_set 1 = .ok (.iload_n 1, 1) := by decide +kernel
theorem dX0_set_2 : decode cX0_set 2 = .ok (.putfield 9, 3) := by decide +kernel
theorem dX0_set_5 : decode cX0_set 5 = .ok (.aload_n 0, 1) := by decide +kernel
theorem dX0_set_6 : decode cX0_set 6 = .ok (.iload_n 2, 1) := by decide +kernel
theorem dX0_set_7 : decode cX0_set 7 = .ok (.putfield 15, 3) := by decide +kernel
theorem dX0_set_10 : decode cX0_set 10 = .ok (.aload_n 0, 1) := by decide +kernel
theorem dX0_set_11 : decode cX0_set 11 = .ok (.iload_n 3, 1) := by decide +kernel
theorem dX0_set_12 : decode cX0_set 12 = .ok (.putfield 18, 3) := by decide +kernel
theorem dX0_set_15 : decode cX0_set 15 = .ok (.aload_n 0, 1) := by decide +kernel
theorem dX0_set_16 : decode cX0_set 16 = .ok (.iload 4, 2) := by decide +kernel
theorem dX0_set_18 : decode cX0_set 18 = .ok (.putfield 21, 3) := by decide +kernel
theorem dX0_set_21 : decode cX0_set 21 = .ok (.aload_n 0, 1) := by decide +kernel
theorem dX0_set_22 : decode cX0_set 22 = .ok (.iload 5, 2) := by decide +kernel
theorem dX0_set_24 : decode cX0_set 24 = .ok (.putfield 24, 3) := by decide +kernel
theorem dX0_set_27 : decode cX0_set 27 = .ok (.aload_n 0, 1) := by decide +kernel
theorem dX0_set_28 : decode cX0_set 28 = .ok (.iload 6, 2) := by decide +kernel
theorem dX0_set_30 : decode cX0_set 30 = .ok (.putfield 27, 3) := by decide +kernel
theorem dX0_set_33 : decode cX0_set 33 = .ok (.return_, 1) := by decide +kernel
theorem dX0_copyFrom_0 : decode cX0_copyFrom 0 = .ok (.aload_n 0, 1) := by decide +kernel
theorem dX0_copyFrom_1 : decode cX0_copyFrom 1 = .ok (.aload_n 1, 1) := by decide +kernel
theorem dX0_copyFrom_2 : decode cX0_copyFrom 2 = .ok (.getfield 9, 3) := by decide +kernel
theorem dX0_copyFrom_5 : decode cX0_copyFrom 5 = .ok (.aload_n 1, 1) := by decide +kernel
theorem dX0_copyFrom_6 : decode cX0_copyFrom 6 = .ok (.getfield 15, 3) := by decide +kernel
theorem dX0_copyFrom_9 : decode cX0_copyFrom 9 = .ok (.aload_n 1, 1) := by decide +kernel
theorem dX0_copyFrom_10 : decode cX0_copyFrom 10 = .ok (.getfield 18, 3) := by decide +kernel
theorem dX0_copyFrom_13 : decode cX0_copyFrom 13 = .ok (.aload_n 1, 1) := by decide +kernel
theorem dX0_copyFrom_14 : decode cX0_copyFrom 14 = .ok (.getfield 21, 3) := by decide +kernel
theorem dX0_copyFrom_17 : decode cX0_copyFrom 17 = .ok (.aload_n 1, 1) := by decide +kernel
theorem dX0_copyFrom_18 : decode cX0_copyFrom 18 = .ok (.getfield 24, 3) := by decide +kernel
theorem dX0_copyFrom_21 : decode cX0_copyFrom 21 = .ok (.aload_n 1, 1) := by decide +kernel
theorem dX0_copyFrom_22 : decode cX0_copyFrom 22 = .ok (.getfield 27, 3) := by decide +kernel
theorem dX0_copyFrom_25 : decode cX0_copyFrom 25 = .ok (.invokevirtual 30, 3) := by decide +kernel
theorem dX0_copyFrom_28 : decode cX0_copyFrom 28 = .ok (.return_, 1) := by decide +kernel
theorem dX0_applyTo_0 : decode cX0_applyTo 0 = .ok (.aload_n 1, 1) := by decide +kernel
theorem dX0_applyTo_1 : decode cX0_applyTo 1 = .ok (.iconst 0, 1) := by decide +kernel
theorem dX0_applyTo_2 : decode cX0_applyTo 2 = .ok (.aload_n 2, 1) := by decide +kernel
theorem dX0_applyTo_3 : decode cX0_applyTo 3 = .ok (.iconst 0, 1) := by decide +kernel
theorem dX0_applyTo_4 : decode cX0_applyTo 4 = .ok (.bipush 48, 2) := by decide +kernel
theorem dX0_applyTo_6 : decode cX0_applyTo 6 = .ok (.invokestatic 34, 3) := by decide +kernel
theorem dX0_applyTo_9 : decode cX0_applyTo 9 = .ok (.iconst 0, 1) := by decide +kernel
theorem dX0_applyTo_10 : decode cX0_applyTo 10 = .ok (.istore_n 3, 1) := by decide +kernel
theorem dX0_applyTo_11 : decode cX0_applyTo 11 = .ok (.iload_n 3, 1) := by decide +kernel
theorem dX0_applyTo_12 : decode cX0_applyTo 12 = .ok (.aload_n 0, 1) := by decide +kernel
theorem dX0_applyTo_13 : decode cX0_applyTo 13 = .ok (.getfield 21, 3) := by decide +kernel
theorem dX0_applyTo_16 : decode cX0_applyTo 16 = .ok (.if_icmp .ge 63, 3) := by decide +kernel
theorem dX0_applyTo_19 : decode cX0_applyTo 19 = .ok (.iconst 0, 1) := by decide +kernel
theorem dX0_applyTo_20 : decode cX0_applyTo 20 = .ok (.istore 4, 2) := by decide +kernel
theorem dX0_applyTo_22 : decode cX0_applyTo 22 = .ok (.iload 4, 2) := by decide +kernel
theorem dX0_applyTo_24 : decode cX0_applyTo 24 = .ok (.aload_n 0, 1) := by decide +kernel
theorem dX0_applyTo_25 : decode cX0_applyTo 25 = .ok (.getfield 18, 3) := by decide +kernel
theorem dX0_applyTo_28 : decode cX0_applyTo 28 = .ok (.if_icmp .ge 45, 3) := by decide +kernel
theorem dX0_applyTo_31 : decode cX0_applyTo 31 = .ok (.aload_n 1, 1) := by decide +kernel
theorem dX0_applyTo_32 : decode cX0_applyTo 32 = .ok (.aload_n 0, 1) := by decide +kernel
theorem dX0_applyTo_33 : decode cX0_applyTo 33 = .ok (.getfield 24, 3) := by decide +kernel
theorem dX0_applyTo_36 : decode cX0_applyTo 36 = .ok (.iload 4, 2) := by decide +kernel
theorem dX0_applyTo_38 : decode cX0_applyTo 38 = .ok (.iadd, 1) := by decide +kernel
theorem dX0_applyTo_39 : decode cX0_applyTo 39 = .ok (.aload_n 0, 1) := by decide +kernel
theorem dX0_applyTo_40 : decode cX0_applyTo 40 = .ok (.getfield 27, 3) := by decide +kernel
theorem dX0_applyTo_43 : decode cX0_applyTo 43 = .ok (.iload_n 3, 1) := by decide +kernel
theorem dX0_applyTo_44 : decode cX0_applyTo 44 = .ok (.iadd, 1) := by decide +kernel
theorem dX0_applyTo_45 : decode cX0_applyTo 45 = .ok (.invokestatic 40, 3) := by decide +kernel
theorem dX0_applyTo_48 : decode cX0_applyTo 48 = .ok (.aload_n 2, 1) := by decide +kernel
theorem dX0_applyTo_49 : decode cX0_applyTo 49 = .ok (.aload_n 0, 1) := by decide +kernel
theorem dX0_applyTo_50 : decode cX0_applyTo 50 = .ok (.getfield 9, 3) := by decide +kernel
theorem dX0_applyTo_53 : decode cX0_applyTo 53 = .ok (.iload 4, 2) := by decide +kernel
theorem dX0_applyTo_55 : decode cX0_applyTo 55 = .ok (.iadd, 1) := by decide +kernel
theorem dX0_applyTo_56 : decode cX0_applyTo 56 = .ok (.aload_n 0, 1) := by decide +kernel
theorem dX0_applyTo_57 : decode cX0_applyTo 57 = .ok (.getfield 15, 3) := by decide +kernel
theorem dX0_applyTo_60 : decode cX0_applyTo 60 = .ok (.iload_n 3, 1) := by decide +kernel
theorem dX0_applyTo_61 : decode cX0_applyTo 61 = .ok (.iadd, 1) := by decide +kernel
theorem dX0_applyTo_62 : decode cX0_applyTo 62 = .ok (.invokestatic 40, 3) := by decide +kernel
theorem dX0_applyTo_65 : decode cX0_applyTo 65 = .ok (.iaload, 1) := by decide +kernel
theorem dX0_applyTo_66 : decode cX0_applyTo 66 = .ok (.iastore, 1) := by decide +kernel
theorem dX0_applyTo_67 : decode cX0_applyTo 67 = .ok (.iinc 4 1, 3) := by decide +kernel
theorem dX0_applyTo_70 : decode cX0_applyTo 70 = .ok (.goto (-48), 3) := by decide +kernel
theorem dX0_applyTo_73 : decode cX0_applyTo 73 = .ok (.iinc 3 1, 3) := by decide +kernel
theorem dX0_applyTo_76 : decode cX0_applyTo 76 = .ok (.goto (-65), 3) := by decide +kernel
theorem dX0_applyTo_79 : decode cX0_applyTo 79 = .ok (.return_, 1) := by decide +kernel
theorem dX1_init_0 : decode cX1_init 0 = .ok (.aload_n 0, 1) := by decide +kernel
theorem dX1_init_1 : decode cX1_init 1 = .ok (.invokespecial 3, 3) := by decide +kernel
theorem dX1_init_4 : decode cX1_init 4 = .ok (.aload_n 0, 1) := by decide +kernel
theorem dX1_init_5 : decode cX1_init 5 = .ok (.bipush 8, 2) := by decide +kernel
theorem dX1_init_7 : decode cX1_init 7 = .ok (.newarray .int, 2) := by decide +kernel
theorem dX1_init_9 : decode cX1_init 9 = .ok (.putfield 9, 3) := by decide +kernel
theorem dX1_init_12 : decode cX1_init 12 = .ok (.aload_n 0, 1) := by decide +kernel
theorem dX1_init_13 : decode cX1_init 13 = .ok (.iconst 0, 1) := by decide +kernel
theorem dX1_init_14 : decode cX1_init 14 = .ok (.putfield 15, 3) := by decide +kernel
theorem dX1_init_17 : decode cX1_init 17 = .ok (.return_, 1) := by decide +kernel
theorem dX1_copyFrom_0 : decode cX1_copyFrom 0 = .ok (.aload_n 1, 1) := by decide +kernel
theorem dX1_copyFrom_1 : decode cX1_copyFrom 1 = .ok (.getfield 9, 3) := by decide +kernel
theorem dX1_copyFrom_4 : decode cX1_copyFrom 4 = .ok (.iconst 0, 1) := by decide +kernel
theorem dX1_copyFrom_5 : decode cX1_copyFrom 5 = .ok (.aload_n 0, 1) := by decide +kernel
theorem dX1_copyFrom_6 : decode cX1_copyFrom 6 = .ok (.getfield 9, 3) := by decide +kernel
theorem dX1_copyFrom_9 : decode cX1_copyFrom 9 = .ok (.iconst 0, 1) := by decide +kernel
theorem dX1_copyFrom_10 : decode cX1_copyFrom 10 = .ok (.bipush 8, 2) := by decide +kernel
theorem dX1_copyFrom_12 : decode cX1_copyFrom 12 = .ok (.invokestatic 19, 3) := by decide +kernel
theorem dX1_copyFrom_15 : decode cX1_copyFrom 15 = .ok (.aload_n 0, 1) := by decide +kernel
theorem dX1_copyFrom_16 : decode cX1_copyFrom 16 = .ok (.aload_n 1, 1) := by decide +kernel
theorem dX1_copyFrom_17 : decode cX1_copyFrom 17 = .ok (.getfield 15, 3) := by decide +kernel
theorem dX1_copyFrom_20 : decode cX1_copyFrom 20 = .ok (.putfield 15, 3) := by decide +kernel
theorem dX1_copyFrom_23 : decode cX1_copyFrom 23 = .ok (.return_, 1) := by decide +kernel
theorem dX1_placeOf_0 : decode cX1_placeOf 0 = .ok (.iconst 0, 1) := by decide +kernel
theorem dX1_placeOf_1 : decode cX1_placeOf 1 = .ok (.istore_n 2, 1) := by decide +kernel
theorem dX1_placeOf_2 : decode cX1_placeOf 2 = .ok (.iload_n 2, 1) := by decide +kernel
theorem dX1_placeOf_3 : decode cX1_placeOf 3 = .ok (.aload_n 0, 1) := by decide +kernel
theorem dX1_placeOf_4 : decode cX1_placeOf 4 = .ok (.getfield 15, 3) := by decide +kernel
theorem dX1_placeOf_7 : decode cX1_placeOf 7 = .ok (.if_icmp .ge 21, 3) := by decide +kernel
theorem dX1_placeOf_10 : decode cX1_placeOf 10 = .ok (.aload_n 0, 1) := by decide +kernel
theorem dX1_placeOf_11 : decode cX1_placeOf 11 = .ok (.getfield 9, 3) := by decide +kernel
theorem dX1_placeOf_14 : decode cX1_placeOf 14 = .ok (.iload_n 2, 1) := by decide +kernel
theorem dX1_placeOf_15 : decode cX1_placeOf 15 = .ok (.iaload, 1) := by decide +kernel
theorem dX1_placeOf_16 : decode cX1_placeOf 16 = .ok (.iload_n 1, 1) := by decide +kernel
theorem dX1_placeOf_17 : decode cX1_placeOf 17 = .ok (.if_icmp .ne 5, 3) := by decide +kernel
theorem dX1_placeOf_20 : decode cX1_placeOf 20 = .ok (.iload_n 2, 1) := by decide +kernel
theorem dX1_placeOf_21 : decode cX1_placeOf 21 = .ok (.ireturn, 1) := by decide +kernel
theorem dX1_placeOf_22 : decode cX1_placeOf 22 = .ok (.iinc 2 1, 3) := by decide +kernel
theorem dX1_placeOf_25 : decode cX1_placeOf 25 = .ok (.goto (-23), 3) := by decide +kernel
theorem dX1_placeOf_28 : decode cX1_placeOf 28 = .ok (.iconst (-1), 1) := by decide +kernel
theorem dX1_placeOf_29 : decode cX1_placeOf 29 = .ok (.ireturn, 1) := by decide +kernel
theorem dX1_holds_0 : decode cX1_holds 0 = .ok (.aload_n 0, 1) := by decide +kernel
theorem dX1_holds_1 : decode cX1_holds 1 = .ok (.iload_n 1, 1) := by decide +kernel
theorem dX1_holds_2 : decode cX1_holds 2 = .ok (.invokevirtual 25, 3) := by decide +kernel
theorem dX1_holds_5 : decode cX1_holds 5 = .ok (.iconst (-1), 1) := by decide +kernel
theorem dX1_holds_6 : decode cX1_holds 6 = .ok (.if_icmp .eq 7, 3) := by decide +kernel
theorem dX1_holds_9 : decode cX1_holds 9 = .ok (.iconst 1, 1) := by decide +kernel
theorem dX1_holds_10 : decode cX1_holds 10 = .ok (.goto 4, 3) := by decide +kernel
theorem dX1_holds_13 : decode cX1_holds 13 = .ok (.iconst 0, 1) := by decide +kernel
theorem dX1_holds_14 : decode cX1_holds 14 = .ok (.ireturn, 1) := by decide +kernel
theorem dX1_meet_0 : decode cX1_meet 0 = .ok (.aload_n 0, 1) := by decide +kernel
theorem dX1_meet_1 : decode cX1_meet 1 = .ok (.iload_n 1, 1) := by decide +kernel
theorem dX1_meet_2 : decode cX1_meet 2 = .ok (.invokevirtual 25, 3) := by decide +kernel
theorem dX1_meet_5 : decode cX1_meet 5 = .ok (.istore_n 2, 1) := by decide +kernel
theorem dX1_meet_6 : decode cX1_meet 6 = .ok (.iload_n 2, 1) := by decide +kernel
theorem dX1_meet_7 : decode cX1_meet 7 = .ok (.iconst (-1), 1) := by decide +kernel
theorem dX1_meet_8 : decode cX1_meet 8 = .ok (.if_icmp .ne 29, 3) := by decide +kernel
theorem dX1_meet_11 : decode cX1_meet 11 = .ok (.aload_n 0, 1) := by decide +kernel
theorem dX1_meet_12 : decode cX1_meet 12 = .ok (.getfield 15, 3) := by decide +kernel
theorem dX1_meet_15 : decode cX1_meet 15 = .ok (.bipush 8, 2) := by decide +kernel
theorem dX1_meet_17 : decode cX1_meet 17 = .ok (.if_icmp .ge 13, 3) := by decide +kernel
theorem dX1_meet_20 : decode cX1_meet 20 = .ok (.aload_n 0, 1) := by decide +kernel
theorem dX1_meet_21 : decode cX1_meet 21 = .ok (.dup, 1) := by decide +kernel
theorem dX1_meet_22 : decode cX1_meet 22 = .ok (.getfield 15, 3) := by decide +kernel
theorem dX1_meet_25 : decode cX1_meet 25 = .ok (.iconst 1, 1) := by decide +kernel
theorem dX1_meet_26 : decode cX1_meet 26 = .ok (.iadd, 1) := by decide +kernel
theorem dX1_meet_27 : decode cX1_meet 27 = .ok (.putfield 15, 3) := by decide +kernel
theorem dX1_meet_30 : decode cX1_meet 30 = .ok (.aload_n 0, 1) := by decide +kernel
theorem dX1_meet_31 : decode cX1_meet 31 = .ok (.getfield 15, 3) := by decide +kernel
theorem dX1_meet_34 : decode cX1_meet 34 = .ok (.iconst 1, 1) := by decide +kernel
theorem dX1_meet_35 : decode cX1_meet 35 = .ok (.isub, 1) := by decide +kernel
theorem dX1_meet_36 : decode cX1_meet 36 = .ok (.istore_n 2, 1) := by decide +kernel
theorem dX1_meet_37 : decode cX1_meet 37 = .ok (.iload_n 2, 1) := by decide +kernel
theorem dX1_meet_38 : decode cX1_meet 38 = .ok (.istore_n 3, 1) := by decide +kernel
theorem dX1_meet_39 : decode cX1_meet 39 = .ok (.iload_n 3, 1) := by decide +kernel
theorem dX1_meet_40 : decode cX1_meet 40 = .ok (.ifCond .le 23, 3) := by decide +kernel
theorem dX1_meet_43 : decode cX1_meet 43 = .ok (.aload_n 0, 1) := by decide +kernel
theorem dX1_meet_44 : decode cX1_meet 44 = .ok (.getfield 9, 3) := by decide +kernel
theorem dX1_meet_47 : decode cX1_meet 47 = .ok (.iload_n 3, 1) := by decide +kernel
theorem dX1_meet_48 : decode cX1_meet 48 = .ok (.aload_n 0, 1) := by decide +kernel
theorem dX1_meet_49 : decode cX1_meet 49 = .ok (.getfield 9, 3) := by decide +kernel
theorem dX1_meet_52 : decode cX1_meet 52 = .ok (.iload_n 3, 1) := by decide +kernel
theorem dX1_meet_53 : decode cX1_meet 53 = .ok (.iconst 1, 1) := by decide +kernel
theorem dX1_meet_54 : decode cX1_meet 54 = .ok (.isub, 1) := by decide +kernel
theorem dX1_meet_55 : decode cX1_meet 55 = .ok (.iaload, 1) := by decide +kernel
theorem dX1_meet_56 : decode cX1_meet 56 = .ok (.iastore, 1) := by decide +kernel
theorem dX1_meet_57 : decode cX1_meet 57 = .ok (.iinc 3 (-1), 3) := by decide +kernel
theorem dX1_meet_60 : decode cX1_meet 60 = .ok (.goto (-21), 3) := by decide +kernel
theorem dX1_meet_63 : decode cX1_meet 63 = .ok (.aload_n 0, 1) := by decide +kernel
theorem dX1_meet_64 : decode cX1_meet 64 = .ok (.getfield 9, 3) := by decide +kernel
theorem dX1_meet_67 : decode cX1_meet 67 = .ok (.iconst 0, 1) := by decide +kernel
theorem dX1_meet_68 : decode cX1_meet 68 = .ok (.iload_n 1, 1) := by decide +kernel
theorem dX1_meet_69 : decode cX1_meet 69 = .ok (.iastore, 1) := by decide +kernel
theorem dX1_meet_70 : decode cX1_meet 70 = .ok (.return_, 1) := by decide +kernel
theorem dX2_init_0 : decode cX2_init 0 = .ok (.aload_n 0, 1) := by decide +kernel
theorem dX2_init_1 : decode cX2_init 1 = .ok (.invokespecial 3, 3) := by decide +kernel
theorem dX2_init_4 : decode cX2_init 4 = .ok (.aload_n 0, 1) := by decide +kernel
theorem dX2_init_5 : decode cX2_init 5 = .ok (.bipush 48, 2) := by decide +kernel
theorem dX2_init_7 : decode cX2_init 7 = .ok (.newarray .int, 2) := by decide +kernel
theorem dX2_init_9 : decode cX2_init 9 = .ok (.putfield 9, 3) := by decide +kernel
theorem dX2_init_12 : decode cX2_init 12 = .ok (.aload_n 0, 1) := by decide +kernel
theorem dX2_init_13 : decode cX2_init 13 = .ok (.bipush 48, 2) := by decide +kernel
theorem dX2_init_15 : decode cX2_init 15 = .ok (.newarray .int, 2) := by decide +kernel
theorem dX2_init_17 : decode cX2_init 17 = .ok (.putfield 15, 3) := by decide +kernel
theorem dX2_init_20 : decode cX2_init 20 = .ok (.aload_n 0, 1) := by decide +kernel
theorem dX2_init_21 : decode cX2_init 21 = .ok (.bipush 48, 2) := by decide +kernel
theorem dX2_init_23 : decode cX2_init 23 = .ok (.newarray .int, 2) := by decide +kernel
theorem dX2_init_25 : decode cX2_init 25 = .ok (.putfield 18, 3) := by decide +kernel
theorem dX2_init_28 : decode cX2_init 28 = .ok (.aload_n 0, 1) := by decide +kernel
theorem dX2_init_29 : decode cX2_init 29 = .ok (.bipush 48, 2) := by decide +kernel
theorem dX2_init_31 : decode cX2_init 31 = .ok (.newarray .int, 2) := by decide +kernel
theorem dX2_init_33 : decode cX2_init 33 = .ok (.putfield 21, 3) := by decide +kernel
theorem dX2_init_36 : decode cX2_init 36 = .ok (.aload_n 0, 1) := by decide +kernel
theorem dX2_init_37 : decode cX2_init 37 = .ok (.bipush 48, 2) := by decide +kernel
theorem dX2_init_39 : decode cX2_init 39 = .ok (.newarray .int, 2) := by decide +kernel
theorem dX2_init_41 : decode cX2_init 41 = .ok (.putfield 24, 3) := by decide +kernel
theorem dX2_init_44 : decode cX2_init 44 = .ok (.aload_n 0, 1) := by decide +kernel
theorem dX2_init_45 : decode cX2_init 45 = .ok (.bipush 48, 2) := by decide +kernel
theorem dX2_init_47 : decode cX2_init 47 = .ok (.newarray .int, 2) := by decide +kernel
theorem dX2_init_49 : decode cX2_init 49 = .ok (.putfield 27, 3) := by decide +kernel
theorem dX2_init_52 : decode cX2_init 52 = .ok (.aload_n 0, 1) := by decide +kernel
theorem dX2_init_53 : decode cX2_init 53 = .ok (.bipush 48, 2) := by decide +kernel
theorem dX2_init_55 : decode cX2_init 55 = .ok (.newarray .int, 2) := by decide +kernel
theorem dX2_init_57 : decode cX2_init 57 = .ok (.putfield 30, 3) := by decide +kernel
theorem dX2_init_60 : decode cX2_init 60 = .ok (.aload_n 0, 1) := by decide +kernel
theorem dX2_init_61 : decode cX2_init 61 = .ok (.iconst 5, 1) := by decide +kernel
theorem dX2_init_62 : decode cX2_init 62 = .ok (.anewarray 33, 3) := by decide +kernel
theorem dX2_init_65 : decode cX2_init 65 = .ok (.putfield 35, 3) := by decide +kernel
theorem dX2_init_68 : decode cX2_init 68 = .ok (.aload_n 0, 1) := by decide +kernel
theorem dX2_init_69 : decode cX2_init 69 = .ok (.iconst 0, 1) := by decide +kernel
theorem dX2_init_70 : decode cX2_init 70 = .ok (.putfield 39, 3) := by decide +kernel
theorem dX2_init_73 : decode cX2_init 73 = .ok (.aload_n 0, 1) := by decide +kernel
theorem dX2_init_74 : decode cX2_init 74 = .ok (.new 43, 3) := by decide +kernel
theorem dX2_init_77 : decode cX2_init 77 = .ok (.dup, 1) := by decide +kernel
theorem dX2_init_78 : decode cX2_init 78 = .ok (.invokespecial 45, 3) := by decide +kernel
theorem dX2_init_81 : decode cX2_init 81 = .ok (.putfield 46, 3) := by decide +kernel
theorem dX2_init_84 : decode cX2_init 84 = .ok (.aload_n 0, 1) := by decide +kernel
theorem dX2_init_85 : decode cX2_init 85 = .ok (.iconst 4, 1) := by decide +kernel
theorem dX2_init_86 : decode cX2_init 86 = .ok (.newarray .int, 2) := by decide +kernel
theorem dX2_init_88 : decode cX2_init 88 = .ok (.putfield 50, 3) := by decide +kernel
theorem dX2_init_91 : decode cX2_init 91 = .ok (.aload_n 0, 1) := by decide +kernel
theorem dX2_init_92 : decode cX2_init 92 = .ok (.iconst 0, 1) := by decide +kernel
theorem dX2_init_93 : decode cX2_init 93 = .ok (.putfield 53, 3) := by decide +kernel
theorem dX2_init_96 : decode cX2_init 96 = .ok (.aload_n 0, 1) := by decide +kernel
theorem dX2_init_97 : decode cX2_init 97 = .ok (.iconst 0, 1) := by decide +kernel
theorem dX2_init_98 : decode cX2_init 98 = .ok (.putfield 56, 3) := by decide +kernel
theorem dX2_init_101 : decode cX2_init 101 = .ok (.aload_n 0, 1) := by decide +kernel
theorem dX2_init_102 : decode cX2_init 102 = .ok (.iconst 0, 1) := by decide +kernel
theorem dX2_init_103 : decode cX2_init 103 = .ok (.putfield 59, 3) := by decide +kernel
theorem dX2_init_106 : decode cX2_init 106 = .ok (.iconst 0, 1) := by decide +kernel
theorem dX2_init_107 : decode cX2_init 107 = .ok (.istore_n 1, 1) := by decide +kernel
theorem dX2_init_108 : decode cX2_init 108 = .ok (.iload_n 1, 1) := by decide +kernel
theorem dX2_init_109 : decode cX2_init 109 = .ok (.bipush 48, 2) := by decide +kernel
theorem dX2_init_111 : decode cX2_init 111 = .ok (.if_icmp .ge 16, 3) := by decide +kernel
theorem dX2_init_114 : decode cX2_init 114 = .ok (.aload_n 0, 1) := by decide +kernel
theorem dX2_init_115 : decode cX2_init 115 = .ok (.getfield 18, 3) := by decide +kernel
theorem dX2_init_118 : decode cX2_init 118 = .ok (.iload_n 1, 1) := by decide +kernel
theorem dX2_init_119 : decode cX2_init 119 = .ok (.iconst (-1), 1) := by decide +kernel
theorem dX2_init_120 : decode cX2_init 120 = .ok (.iastore, 1) := by decide +kernel
theorem dX2_init_121 : decode cX2_init 121 = .ok (.iinc 1 1, 3) := by decide +kernel
theorem dX2_init_124 : decode cX2_init 124 = .ok (.goto (-16), 3) := by decide +kernel
theorem dX2_init_127 : decode cX2_init 127 = .ok (.iconst 0, 1) := by decide +kernel
theorem dX2_init_128 : decode cX2_init 128 = .ok (.istore_n 1, 1) := by decide +kernel
theorem dX2_init_129 : decode cX2_init 129 = .ok (.iload_n 1, 1) := by decide +kernel
theorem dX2_init_130 : decode cX2_init 130 = .ok (.aload_n 0, 1) := by decide +kernel
theorem dX2_init_131 : decode cX2_init 131 = .ok (.getfield 35, 3) := by decide +kernel
theorem dX2_init_134 : decode cX2_init 134 = .ok (.arraylength, 1) := by decide +kernel
theorem dX2_init_135 : decode cX2_init 135 = .ok (.if_icmp .ge 22, 3) := by decide +kernel
theorem dX2_init_138 : decode cX2_init 138 = .ok (.aload_n 0, 1) := by decide +kernel
theorem dX2_init_139 : decode cX2_init 139 = .ok (.getfield 35, 3) := by decide +kernel
theorem dX2_init_142 : decode cX2_init 142 = .ok (.iload_n 1, 1) := by decide +kernel
theorem dX2_init_143 : decode cX2_init 143 = .ok (.new 33, 3) := by decide +kernel
theorem dX2_init_146 : decode cX2_init 146 = .ok (.dup, 1) := by decide +kernel
theorem dX2_init_147 : decode cX2_init 147 = .ok (.invokespecial 62, 3) := by decide +kernel
theorem dX2_init_150 : decode cX2_init 150 = .ok (.aastore, 1) := by decide +kernel
theorem dX2_init_151 : decode cX2_init 151 = .ok (.iinc 1 1, 3) := by decide +kernel
theorem dX2_init_154 : decode cX2_init 154 = .ok (.goto (-25), 3) := by decide +kernel
theorem dX2_init_157 : decode cX2_init 157 = .ok (.return_, 1) := by decide +kernel
theorem dX2_copyFrom_0 : decode cX2_copyFrom 0 = .ok (.aload_n 1, 1) := by decide +kernel
theorem dX2_copyFrom_1 : decode cX2_copyFrom 1 = .ok (.getfield 9, 3) := by decide +kernel
theorem dX2_copyFrom_4 : decode cX2_copyFrom 4 = .ok (.iconst 0, 1) := by decide +kernel
theorem dX2_copyFrom_5 : decode cX2_copyFrom 5 = .ok (.aload_n 0, 1) := by decide +kernel
theorem dX2_copyFrom_6 : decode cX2_copyFrom 6 = .ok (.getfield 9, 3) := by decide +kernel
theorem dX2_copyFrom_9 : decode cX2_copyFrom 9 = .ok (.iconst 0, 1) := by decide +kernel
theorem dX2_copyFrom_10 : decode cX2_copyFrom 10 = .ok (.bipush 48, 2) := by decide +kernel
theorem dX2_copyFrom_12 : decode cX2_copyFrom 12 = .ok (.invokestatic 63, 3) := by decide +kernel
theorem dX2_copyFrom_15 : decode cX2_copyFrom 15 = .ok (.aload_n 1, 1) := by decide +kernel
theorem dX2_copyFrom_16 : decode cX2_copyFrom 16 = .ok (.getfield 15, 3) := by decide +kernel
theorem dX2_copyFrom_19 : decode cX2_copyFrom 19 = .ok (.iconst 0, 1) := by decide +kernel
theorem dX2_copyFrom_20 : decode cX2_copyFrom 20 = .ok (.aload_n 0, 1) := by decide +kernel
theorem dX2_copyFrom_21 : decode cX2_copyFrom 21 = .ok (.getfield 15, 3) := by decide +kernel
theorem dX2_copyFrom_24 : decode cX2_copyFrom 24 = .ok (.iconst 0, 1) := by decide +kernel
theorem dX2_copyFrom_25 : decode cX2_copyFrom 25 = .ok (.bipush 48, 2) := by decide +kernel
theorem dX2_copyFrom_27 : decode cX2_copyFrom 27 = .ok (.invokestatic 63, 3) := by decide +kernel
theorem dX2_copyFrom_30 : decode cX2_copyFrom 30 = .ok (.aload_n 1, 1) := by decide +kernel
theorem dX2_copyFrom_31 : decode cX2_copyFrom 31 = .ok (.getfield 18, 3) := by decide +kernel
theorem dX2_copyFrom_34 : decode cX2_copyFrom 34 = .ok (.iconst 0, 1) := by decide +kernel
theorem dX2_copyFrom_35 : decode cX2_copyFrom 35 = .ok (.aload_n 0, 1) := by decide +kernel
theorem dX2_copyFrom_36 : decode cX2_copyFrom 36 = .ok (.getfield 18, 3) := by decide +kernel
theorem dX2_copyFrom_39 : decode cX2_copyFrom 39 = .ok (.iconst 0, 1) := by decide +kernel
theorem dX2_copyFrom_40 : decode cX2_copyFrom 40 = .ok (.bipush 48, 2) := by decide +kernel
theorem dX2_copyFrom_42 : decode cX2_copyFrom 42 = .ok (.invokestatic 63, 3) := by decide +kernel
theorem dX2_copyFrom_45 : decode cX2_copyFrom 45 = .ok (.aload_n 1, 1) := by decide +kernel
theorem dX2_copyFrom_46 : decode cX2_copyFrom 46 = .ok (.getfield 21, 3) := by decide +kernel
theorem dX2_copyFrom_49 : decode cX2_copyFrom 49 = .ok (.iconst 0, 1) := by decide +kernel
theorem dX2_copyFrom_50 : decode cX2_copyFrom 50 = .ok (.aload_n 0, 1) := by decide +kernel
theorem dX2_copyFrom_51 : decode cX2_copyFrom 51 = .ok (.getfield 21, 3) := by decide +kernel
theorem dX2_copyFrom_54 : decode cX2_copyFrom 54 = .ok (.iconst 0, 1) := by decide +kernel
theorem dX2_copyFrom_55 : decode cX2_copyFrom 55 = .ok (.bipush 48, 2) := by decide +kernel
theorem dX2_copyFrom_57 : decode cX2_copyFrom 57 = .ok (.invokestatic 63, 3) := by decide +kernel
theorem dX2_copyFrom_60 : decode cX2_copyFrom 60 = .ok (.aload_n 0, 1) := by decide +kernel
theorem dX2_copyFrom_61 : decode cX2_copyFrom 61 = .ok (.aload_n 1, 1) := by decide +kernel
theorem dX2_copyFrom_62 : decode cX2_copyFrom 62 = .ok (.getfield 39, 3) := by decide +kernel
theorem dX2_copyFrom_65 : decode cX2_copyFrom 65 = .ok (.putfield 39, 3) := by decide +kernel
theorem dX2_copyFrom_68 : decode cX2_copyFrom 68 = .ok (.iconst 0, 1) := by decide +kernel
theorem dX2_copyFrom_69 : decode cX2_copyFrom 69 = .ok (.istore_n 2, 1) := by decide +kernel
theorem dX2_copyFrom_70 : decode cX2_copyFrom 70 = .ok (.iload_n 2, 1) := by decide +kernel
theorem dX2_copyFrom_71 : decode cX2_copyFrom 71 = .ok (.aload_n 0, 1) := by decide +kernel
theorem dX2_copyFrom_72 : decode cX2_copyFrom 72 = .ok (.getfield 39, 3) := by decide +kernel
theorem dX2_copyFrom_75 : decode cX2_copyFrom 75 = .ok (.if_icmp .ge 24, 3) := by decide +kernel
theorem dX2_copyFrom_78 : decode cX2_copyFrom 78 = .ok (.aload_n 0, 1) := by decide +kernel
theorem dX2_copyFrom_79 : decode cX2_copyFrom 79 = .ok (.getfield 35, 3) := by decide +kernel
theorem dX2_copyFrom_82 : decode cX2_copyFrom 82 = .ok (.iload_n 2, 1) := by decide +kernel
theorem dX2_copyFrom_83 : decode cX2_copyFrom 83 = .ok (.aaload, 1) := by decide +kernel
theorem dX2_copyFrom_84 : decode cX2_copyFrom 84 = .ok (.aload_n 1, 1) := by decide +kernel
theorem dX2_copyFrom_85 : decode cX2_copyFrom 85 = .ok (.getfield 35, 3) := by decide +kernel
theorem dX2_copyFrom_88 : decode cX2_copyFrom 88 = .ok (.iload_n 2, 1) := by decide +kernel
theorem dX2_copyFrom_89 : decode cX2_copyFrom 89 = .ok (.aaload, 1) := by decide +kernel
theorem dX2_copyFrom_90 : decode cX2_copyFrom 90 = .ok (.invokevirtual 69, 3) := by decide +kernel
theorem dX2_copyFrom_93 : decode cX2_copyFrom 93 = .ok (.iinc 2 1, 3) := by decide +kernel
theorem dX2_copyFrom_96 : decode cX2_copyFrom 96 = .ok (.goto (-26), 3) := by decide +kernel
theorem dX2_copyFrom_99 : decode cX2_copyFrom 99 = .ok (.aload_n 0, 1) := by decide +kernel
theorem dX2_copyFrom_100 : decode cX2_copyFrom 100 = .ok (.getfield 46, 3) := by decide +kernel
theorem dX2_copyFrom_103 : decode cX2_copyFrom 103 = .ok (.aload_n 1, 1) := by decide +kernel
theorem dX2_copyFrom_104 : decode cX2_copyFrom 104 = .ok (.getfield 46, 3) := by decide +kernel
theorem dX2_copyFrom_107 : decode cX2_copyFrom 107 = .ok (.invokevirtual 73, 3) := by decide +kernel
theorem dX2_copyFrom_110 : decode cX2_copyFrom 110 = .ok (.aload_n 1, 1) := by decide +kernel
theorem dX2_copyFrom_111 : decode cX2_copyFrom 111 = .ok (.getfield 50, 3) := by decide +kernel
theorem dX2_copyFrom_114 : decode cX2_copyFrom 114 = .ok (.iconst 0, 1) := by decide +kernel
theorem dX2_copyFrom_115 : decode cX2_copyFrom 115 = .ok (.aload_n 0, 1) := by decide +kernel
theorem dX2_copyFrom_116 : decode cX2_copyFrom 116 = .ok (.getfield 50, 3) := by decide +kernel
theorem dX2_copyFrom_119 : decode cX2_copyFrom 119 = .ok (.iconst 0, 1) := by decide +kernel
theorem dX2_copyFrom_120 : decode cX2_copyFrom 120 = .ok (.iconst 4, 1) := by decide +kernel
theorem dX2_copyFrom_121 : decode cX2_copyFrom 121 = .ok (.invokestatic 63, 3) := by decide +kernel
theorem dX2_copyFrom_124 : decode cX2_copyFrom 124 = .ok (.aload_n 0, 1) := by decide +kernel
theorem dX2_copyFrom_125 : decode cX2_copyFrom 125 = .ok (.aload_n 1, 1) := by decide +kernel
theorem dX2_copyFrom_126 : decode cX2_copyFrom 126 = .ok (.getfield 53, 3) := by decide +kernel
theorem dX2_copyFrom_129 : decode cX2_copyFrom 129 = .ok (.putfield 53, 3) := by decide +kernel
theorem dX2_copyFrom_132 : decode cX2_copyFrom 132 = .ok (.aload_n 0, 1) := by decide +kernel
theorem dX2_copyFrom_133 : decode cX2_copyFrom 133 = .ok (.aload_n 1, 1) := by decide +kernel
theorem dX2_copyFrom_134 : decode cX2_copyFrom 134 = .ok (.getfield 56, 3) := by decide +kernel
theorem dX2_copyFrom_137 : decode cX2_copyFrom 137 = .ok (.putfield 56, 3) := by decide +kernel
theorem dX2_copyFrom_140 : decode cX2_copyFrom 140 = .ok (.aload_n 0, 1) := by decide +kernel
theorem dX2_copyFrom_141 : decode cX2_copyFrom 141 = .ok (.aload_n 1, 1) := by decide +kernel
theorem dX2_copyFrom_142 : decode cX2_copyFrom 142 = .ok (.getfield 59, 3) := by decide +kernel
theorem dX2_copyFrom_145 : decode cX2_copyFrom 145 = .ok (.putfield 59, 3) := by decide +kernel
theorem dX2_copyFrom_148 : decode cX2_copyFrom 148 = .ok (.return_, 1) := by decide +kernel
theorem dX2_paint_0 : decode cX2_paint 0 = .ok (.aload_n 0, 1) := by decide +kernel
theorem dX2_paint_1 : decode cX2_paint 1 = .ok (.getfield 9, 3) := by decide +kernel
theorem dX2_paint_4 : decode cX2_paint 4 = .ok (.iconst 0, 1) := by decide +kernel
theorem dX2_paint_5 : decode cX2_paint 5 = .ok (.aload_n 0, 1) := by decide +kernel
theorem dX2_paint_6 : decode cX2_paint 6 = .ok (.getfield 30, 3) := by decide +kernel
theorem dX2_paint_9 : decode cX2_paint 9 = .ok (.iconst 0, 1) := by decide +kernel
theorem dX2_paint_10 : decode cX2_paint 10 = .ok (.bipush 48, 2) := by decide +kernel
theorem dX2_paint_12 : decode cX2_paint 12 = .ok (.invokestatic 63, 3) := by decide +kernel
theorem dX2_paint_15 : decode cX2_paint 15 = .ok (.iload_n 2, 1) := by decide +kernel
theorem dX2_paint_16 : decode cX2_paint 16 = .ok (.istore 6, 2) := by decide +kernel
theorem dX2_paint_18 : decode cX2_paint 18 = .ok (.iload 6, 2) := by decide +kernel
theorem dX2_paint_20 : decode cX2_paint 20 = .ok (.iload_n 2, 1) := by decide +kernel
theorem dX2_paint_21 : decode cX2_paint 21 = .ok (.iload 4, 2) := by decide +kernel
theorem dX2_paint_23 : decode cX2_paint 23 = .ok (.iadd, 1) := by decide +kernel
theorem dX2_paint_24 : decode cX2_paint 24 = .ok (.if_icmp .ge 40, 3) := by decide +kernel
theorem dX2_paint_27 : decode cX2_paint 27 = .ok (.iload_n 1, 1) := by decide +kernel
theorem dX2_paint_28 : decode cX2_paint 28 = .ok (.istore 7, 2) := by decide +kernel
theorem dX2_paint_30 : decode cX2_paint 30 = .ok (.iload 7, 2) := by decide +kernel
theorem dX2_paint_32 : decode cX2_paint 32 = .ok (.iload_n 1, 1) := by decide +kernel
theorem dX2_paint_33 : decode cX2_paint 33 = .ok (.iload_n 3, 1) := by decide +kernel
theorem dX2_paint_34 : decode cX2_paint 34 = .ok (.iadd, 1) := by decide +kernel
theorem dX2_paint_35 : decode cX2_paint 35 = .ok (.if_icmp .ge 23, 3) := by decide +kernel
theorem dX2_paint_38 : decode cX2_paint 38 = .ok (.aload_n 0, 1) := by decide +kernel
theorem dX2_paint_39 : decode cX2_paint 39 = .ok (.getfield 9, 3) := by decide +kernel
theorem dX2_paint_42 : decode cX2_paint 42 = .ok (.iload 7, 2) := by decide +kernel
theorem dX2_paint_44 : decode cX2_paint 44 = .ok (.iload 6, 2) := by decide +kernel
theorem dX2_paint_46 : decode cX2_paint 46 = .ok (.invokestatic 76, 3) := by decide +kernel
theorem dX2_paint_49 : decode cX2_paint 49 = .ok (.iload 5, 2) := by decide +kernel
theorem dX2_paint_51 : decode cX2_paint 51 = .ok (.iastore, 1) := by decide +kernel
theorem dX2_paint_52 : decode cX2_paint 52 = .ok (.iinc 7 1, 3) := by decide +kernel
theorem dX2_paint_55 : decode cX2_paint 55 = .ok (.goto (-25), 3) := by decide +kernel
theorem dX2_paint_58 : decode cX2_paint 58 = .ok (.iinc 6 1, 3) := by decide +kernel
theorem dX2_paint_61 : decode cX2_paint 61 = .ok (.goto (-43), 3) := by decide +kernel
theorem dX2_paint_64 : decode cX2_paint 64 = .ok (.aload_n 0, 1) := by decide +kernel
theorem dX2_paint_65 : decode cX2_paint 65 = .ok (.invokevirtual 80, 3) := by decide +kernel
theorem dX2_paint_68 : decode cX2_paint 68 = .ok (.aload_n 0, 1) := by decide +kernel
theorem dX2_paint_69 : decode cX2_paint 69 = .ok (.invokevirtual 83, 3) := by decide +kernel
theorem dX2_paint_72 : decode cX2_paint 72 = .ok (.return_, 1) := by decide +kernel
theorem dX2_shift_0 : decode cX2_shift 0 = .ok (.aload_n 0, 1) := by decide +kernel
theorem dX2_shift_1 : decode cX2_shift 1 = .ok (.getfield 35, 3) := by decide +kernel
theorem dX2_shift_4 : decode cX2_shift 4 = .ok (.aload_n 0, 1) := by decide +kernel
theorem dX2_shift_5 : decode cX2_shift 5 = .ok (.getfield 39, 3) := by decide +kernel
theorem dX2_shift_8 : decode cX2_shift 8 = .ok (.aaload, 1) := by decide +kernel
theorem dX2_shift_9 : decode cX2_shift 9 = .ok (.astore 7, 2) := by decide +kernel
theorem dX2_shift_11 : decode cX2_shift 11 = .ok (.aload 7, 2) := by decide +kernel
theorem dX2_shift_13 : decode cX2_shift 13 = .ok (.iload_n 1, 1) := by decide +kernel
theorem dX2_shift_14 : decode cX2_shift 14 = .ok (.iload_n 2, 1) := by decide +kernel
theorem dX2_shift_15 : decode cX2_shift 15 = .ok (.iload_n 3, 1) := by decide +kernel
theorem dX2_shift_16 : decode cX2_shift 16 = .ok (.iload 4, 2) := by decide +kernel
theorem dX2_shift_18 : decode cX2_shift 18 = .ok (.iload 5, 2) := by decide +kernel
theorem dX2_shift_20 : decode cX2_shift 20 = .ok (.iload 6, 2) := by decide +kernel
theorem dX2_shift_22 : decode cX2_shift 22 = .ok (.invokevirtual 86, 3) := by decide +kernel
theorem dX2_shift_25 : decode cX2_shift 25 = .ok (.aload 7, 2) := by decide +kernel
theorem dX2_shift_27 : decode cX2_shift 27 = .ok (.aload_n 0, 1) := by decide +kernel
theorem dX2_shift_28 : decode cX2_shift 28 = .ok (.getfield 9, 3) := by decide +kernel
theorem dX2_shift_31 : decode cX2_shift 31 = .ok (.aload_n 0, 1) := by decide +kernel
theorem dX2_shift_32 : decode cX2_shift 32 = .ok (.getfield 30, 3) := by decide +kernel
theorem dX2_shift_35 : decode cX2_shift 35 = .ok (.invokevirtual 90, 3) := by decide +kernel
theorem dX2_shift_38 : decode cX2_shift 38 = .ok (.aload_n 0, 1) := by decide +kernel
theorem dX2_shift_39 : decode cX2_shift 39 = .ok (.getfield 39, 3) := by decide +kernel
theorem dX2_shift_42 : decode cX2_shift 42 = .ok (.iconst 4, 1) := by decide +kernel
theorem dX2_shift_43 : decode cX2_shift 43 = .ok (.if_icmp .ge 13, 3) := by decide +kernel
theorem dX2_shift_46 : decode cX2_shift 46 = .ok (.aload_n 0, 1) := by decide +kernel
theorem dX2_shift_47 : decode cX2_shift 47 = .ok (.dup, 1) := by decide +kernel
theorem dX2_shift_48 : decode cX2_shift 48 = .ok (.getfield 39, 3) := by decide +kernel
theorem dX2_shift_51 : decode cX2_shift 51 = .ok (.iconst 1, 1) := by decide +kernel
theorem dX2_shift_52 : decode cX2_shift 52 = .ok (.iadd, 1) := by decide +kernel
theorem dX2_shift_53 : decode cX2_shift 53 = .ok (.putfield 39, 3) := by decide +kernel
theorem dX2_shift_56 : decode cX2_shift 56 = .ok (.aload_n 0, 1) := by decide +kernel
theorem dX2_shift_57 : decode cX2_shift 57 = .ok (.invokevirtual 80, 3) := by decide +kernel
theorem dX2_shift_60 : decode cX2_shift 60 = .ok (.aload_n 0, 1) := by decide +kernel
theorem dX2_shift_61 : decode cX2_shift 61 = .ok (.invokevirtual 83, 3) := by decide +kernel
theorem dX2_shift_64 : decode cX2_shift 64 = .ok (.return_, 1) := by decide +kernel
theorem dX2_noteChanges_0 : decode cX2_noteChanges 0 = .ok (.iconst 0, 1) := by decide +kernel
theorem dX2_noteChanges_1 : decode cX2_noteChanges 1 = .ok (.istore_n 1, 1) := by decide +kernel
theorem dX2_noteChanges_2 : decode cX2_noteChanges 2 = .ok (.iload_n 1, 1) := by decide +kernel
theorem dX2_noteChanges_3 : decode cX2_noteChanges 3 = .ok (.bipush 48, 2) := by decide +kernel
theorem dX2_noteChanges_5 : decode cX2_noteChanges 5 = .ok (.if_icmp .ge 34, 3) := by decide +kernel
theorem dX2_noteChanges_8 : decode cX2_noteChanges 8 = .ok (.aload_n 0, 1) := by decide +kernel
theorem dX2_noteChanges_9 : decode cX2_noteChanges 9 = .ok (.getfield 9, 3) := by decide +kernel
theorem dX2_noteChanges_12 : decode cX2_noteChanges 12 = .ok (.iload_n 1, 1) := by decide +kernel
theorem dX2_noteChanges_13 : decode cX2_noteChanges 13 = .ok (.iaload, 1) := by decide +kernel
theorem dX2_noteChanges_14 : decode cX2_noteChanges 14 = .ok (.aload_n 0, 1) := by decide +kernel
theorem dX2_noteChanges_15 : decode cX2_noteChanges 15 = .ok (.getfield 30, 3) := by decide +kernel
theorem dX2_noteChanges_18 : decode cX2_noteChanges 18 = .ok (.iload_n 1, 1) := by decide +kernel
theorem dX2_noteChanges_19 : decode cX2_noteChanges 19 = .ok (.iaload, 1) := by decide +kernel
theorem dX2_noteChanges_20 : decode cX2_noteChanges 20 = .ok (.if_icmp .eq 13, 3) := by decide +kernel
theorem dX2_noteChanges_23 : decode cX2_noteChanges 23 = .ok (.aload_n 0, 1) := by decide +kernel
theorem dX2_noteChanges_24 : decode cX2_noteChanges 24 = .ok (.getfield 21, 3) := by decide +kernel
theorem dX2_noteChanges_27 : decode cX2_noteChanges 27 = .ok (.iload_n 1, 1) := by decide +kernel
theorem dX2_noteChanges_28 : decode cX2_noteChanges 28 = .ok (.dup2, 1) := by decide +kernel
theorem dX2_noteChanges_29 : decode cX2_noteChanges 29 = .ok (.iaload, 1) := by decide +kernel
theorem dX2_noteChanges_30 : decode cX2_noteChanges 30 = .ok (.iconst 1, 1) := by decide +kernel
theorem dX2_noteChanges_31 : decode cX2_noteChanges 31 = .ok (.ior, 1) := by decide +kernel
theorem dX2_noteChanges_32 : decode cX2_noteChanges 32 = .ok (.iastore, 1) := by decide +kernel
theorem dX2_noteChanges_33 : decode cX2_noteChanges 33 = .ok (.iinc 1 1, 3) := by decide +kernel
theorem dX2_noteChanges_36 : decode cX2_noteChanges 36 = .ok (.goto (-34), 3) := by decide +kernel
theorem dX2_noteChanges_39 : decode cX2_noteChanges 39 = .ok (.return_, 1) := by decide +kernel
theorem dX2_noteUnlike_0 : decode cX2_noteUnlike 0 = .ok (.iconst 0, 1) := by decide +kernel
theorem dX2_noteUnlike_1 : decode cX2_noteUnlike 1 = .ok (.istore_n 1, 1) := by decide +kernel
theorem dX2_noteUnlike_2 : decode cX2_noteUnlike 2 = .ok (.iload_n 1, 1) := by decide +kernel
theorem dX2_noteUnlike_3 : decode cX2_noteUnlike 3 = .ok (.bipush 48, 2) := by decide +kernel
theorem dX2_noteUnlike_5 : decode cX2_noteUnlike 5 = .ok (.if_icmp .ge 54, 3) := by decide +kernel
theorem dX2_noteUnlike_8 : decode cX2_noteUnlike 8 = .ok (.aload_n 0, 1) := by decide +kernel
theorem dX2_noteUnlike_9 : decode cX2_noteUnlike 9 = .ok (.getfield 9, 3) := by decide +kernel
theorem dX2_noteUnlike_12 : decode cX2_noteUnlike 12 = .ok (.iload_n 1, 1) := by decide +kernel
theorem dX2_noteUnlike_13 : decode cX2_noteUnlike 13 = .ok (.iaload, 1) := by decide +kernel
theorem dX2_noteUnlike_14 : decode cX2_noteUnlike 14 = .ok (.aload_n 0, 1) := by decide +kernel
theorem dX2_noteUnlike_15 : decode cX2_noteUnlike 15 = .ok (.getfield 15, 3) := by decide +kernel
theorem dX2_noteUnlike_18 : decode cX2_noteUnlike 18 = .ok (.iload_n 1, 1) := by decide +kernel
theorem dX2_noteUnlike_19 : decode cX2_noteUnlike 19 = .ok (.iaload, 1) := by decide +kernel
theorem dX2_noteUnlike_20 : decode cX2_noteUnlike 20 = .ok (.if_icmp .ne 13, 3) := by decide +kernel
theorem dX2_noteUnlike_23 : decode cX2_noteUnlike 23 = .ok (.aload_n 0, 1) := by decide +kernel
theorem dX2_noteUnlike_24 : decode cX2_noteUnlike 24 = .ok (.getfield 18, 3) := by decide +kernel
theorem dX2_noteUnlike_27 : decode cX2_noteUnlike 27 = .ok (.iload_n 1, 1) := by decide +kernel
theorem dX2_noteUnlike_28 : decode cX2_noteUnlike 28 = .ok (.iconst (-1), 1) := by decide +kernel
theorem dX2_noteUnlike_29 : decode cX2_noteUnlike 29 = .ok (.iastore, 1) := by decide +kernel
theorem dX2_noteUnlike_30 : decode cX2_noteUnlike 30 = .ok (.goto 23, 3) := by decide +kernel
theorem dX2_noteUnlike_33 : decode cX2_noteUnlike 33 = .ok (.aload_n 0, 1) := by decide +kernel
theorem dX2_noteUnlike_34 : decode cX2_noteUnlike 34 = .ok (.getfield 18, 3) := by decide +kernel
theorem dX2_noteUnlike_37 : decode cX2_noteUnlike 37 = .ok (.iload_n 1, 1) := by decide +kernel
theorem dX2_noteUnlike_38 : decode cX2_noteUnlike 38 = .ok (.iaload, 1) := by decide +kernel
theorem dX2_noteUnlike_39 : decode cX2_noteUnlike 39 = .ok (.iconst (-1), 1) := by decide +kernel
theorem dX2_noteUnlike_40 : decode cX2_noteUnlike 40 = .ok (.if_icmp .ne 13, 3) := by decide +kernel
theorem dX2_noteUnlike_43 : decode cX2_noteUnlike 43 = .ok (.aload_n 0, 1) := by decide +kernel
theorem dX2_noteUnlike_44 : decode cX2_noteUnlike 44 = .ok (.getfield 18, 3) := by decide +kernel
theorem dX2_noteUnlike_47 : decode cX2_noteUnlike 47 = .ok (.iload_n 1, 1) := by decide +kernel
theorem dX2_noteUnlike_48 : decode cX2_noteUnlike 48 = .ok (.aload_n 0, 1) := by decide +kernel
theorem dX2_noteUnlike_49 : decode cX2_noteUnlike 49 = .ok (.getfield 56, 3) := by decide +kernel
theorem dX2_noteUnlike_52 : decode cX2_noteUnlike 52 = .ok (.iastore, 1) := by decide +kernel
theorem dX2_noteUnlike_53 : decode cX2_noteUnlike 53 = .ok (.iinc 1 1, 3) := by decide +kernel
theorem dX2_noteUnlike_56 : decode cX2_noteUnlike 56 = .ok (.goto (-54), 3) := by decide +kernel
theorem dX2_noteUnlike_59 : decode cX2_noteUnlike 59 = .ok (.return_, 1) := by decide +kernel
theorem dX2_kindOf_0 : decode cX2_kindOf 0 = .ok (.aload_n 0, 1) := by decide +kernel
theorem dX2_kindOf_1 : decode cX2_kindOf 1 = .ok (.getfield 21, 3) := by decide +kernel
theorem dX2_kindOf_4 : decode cX2_kindOf 4 = .ok (.iload_n 1, 1) := by decide +kernel
theorem dX2_kindOf_5 : decode cX2_kindOf 5 = .ok (.iaload, 1) := by decide +kernel
theorem dX2_kindOf_6 : decode cX2_kindOf 6 = .ok (.invokestatic 94, 3) := by decide +kernel
theorem dX2_kindOf_9 : decode cX2_kindOf 9 = .ok (.iconst 4, 1) := by decide +kernel
theorem dX2_kindOf_10 : decode cX2_kindOf 10 = .ok (.if_icmp .lt 5, 3) := by decide +kernel
theorem dX2_kindOf_13 : decode cX2_kindOf 13 = .ok (.iconst 2, 1) := by decide +kernel
theorem dX2_kindOf_14 : decode cX2_kindOf 14 = .ok (.ireturn, 1) := by decide +kernel
theorem dX2_kindOf_15 : decode cX2_kindOf 15 = .ok (.aload_n 0, 1) := by decide +kernel
theorem dX2_kindOf_16 : decode cX2_kindOf 16 = .ok (.getfield 9, 3) := by decide +kernel
theorem dX2_kindOf_19 : decode cX2_kindOf 19 = .ok (.iload_n 1, 1) := by decide +kernel
theorem dX2_kindOf_20 : decode cX2_kindOf 20 = .ok (.iaload, 1) := by decide +kernel
theorem dX2_kindOf_21 : decode cX2_kindOf 21 = .ok (.bipush 64, 2) := by decide +kernel
theorem dX2_kindOf_23 : decode cX2_kindOf 23 = .ok (.if_icmp .ge 7, 3) := by decide +kernel
theorem dX2_kindOf_26 : decode cX2_kindOf 26 = .ok (.iconst 0, 1) := by decide +kernel
theorem dX2_kindOf_27 : decode cX2_kindOf 27 = .ok (.goto 4, 3) := by decide +kernel
theorem dX2_kindOf_30 : decode cX2_kindOf 30 = .ok (.iconst 1, 1) := by decide +kernel
theorem dX2_kindOf_31 : decode cX2_kindOf 31 = .ok (.ireturn, 1) := by decide +kernel
theorem dX2_hasFilm_0 : decode cX2_hasFilm 0 = .ok (.iconst 0, 1) := by decide +kernel
theorem dX2_hasFilm_1 : decode cX2_hasFilm 1 = .ok (.istore_n 1, 1) := by decide +kernel
theorem dX2_hasFilm_2 : decode cX2_hasFilm 2 = .ok (.iload_n 1, 1) := by decide +kernel
theorem dX2_hasFilm_3 : decode cX2_hasFilm 3 = .ok (.bipush 48, 2) := by decide +kernel
theorem dX2_hasFilm_5 : decode cX2_hasFilm 5 = .ok (.if_icmp .ge 20, 3) := by decide +kernel
theorem dX2_hasFilm_8 : decode cX2_hasFilm 8 = .ok (.aload_n 0, 1) := by decide +kernel
theorem dX2_hasFilm_9 : decode cX2_hasFilm 9 = .ok (.iload_n 1, 1) := by decide +kernel
theorem dX2_hasFilm_10 : decode cX2_hasFilm 10 = .ok (.invokevirtual 100, 3) := by decide +kernel
theorem dX2_hasFilm_13 : decode cX2_hasFilm 13 = .ok (.iconst 2, 1) := by decide +kernel
theorem dX2_hasFilm_14 : decode cX2_hasFilm 14 = .ok (.if_icmp .ne 5, 3) := by decide +kernel
theorem dX2_hasFilm_17 : decode cX2_hasFilm 17 = .ok (.iconst 1, 1) := by decide +kernel
theorem dX2_hasFilm_18 : decode cX2_hasFilm 18 = .ok (.ireturn, 1) := by decide +kernel
theorem dX2_hasFilm_19 : decode cX2_hasFilm 19 = .ok (.iinc 1 1, 3) := by decide +kernel
theorem dX2_hasFilm_22 : decode cX2_hasFilm 22 = .ok (.goto (-20), 3) := by decide +kernel
theorem dX2_hasFilm_25 : decode cX2_hasFilm 25 = .ok (.iconst 0, 1) := by decide +kernel
theorem dX2_hasFilm_26 : decode cX2_hasFilm 26 = .ok (.ireturn, 1) := by decide +kernel
theorem dX2_unlikeSet_0 : decode cX2_unlikeSet 0 = .ok (.lconst 0, 1) := by decide +kernel
theorem dX2_unlikeSet_1 : decode cX2_unlikeSet 1 = .ok (.lstore_n 1, 1) := by decide +kernel
theorem dX2_unlikeSet_2 : decode cX2_unlikeSet 2 = .ok (.iconst 0, 1) := by decide +kernel
theorem dX2_unlikeSet_3 : decode cX2_unlikeSet 3 = .ok (.istore_n 3, 1) := by decide +kernel
theorem dX2_unlikeSet_4 : decode cX2_unlikeSet 4 = .ok (.iload_n 3, 1) := by decide +kernel
theorem dX2_unlikeSet_5 : decode cX2_unlikeSet 5 = .ok (.bipush 48, 2) := by decide +kernel
theorem dX2_unlikeSet_7 : decode cX2_unlikeSet 7 = .ok (.if_icmp .ge 25, 3) := by decide +kernel
theorem dX2_unlikeSet_10 : decode cX2_unlikeSet 10 = .ok (.aload_n 0, 1) := by decide +kernel
theorem dX2_unlikeSet_11 : decode cX2_unlikeSet 11 = .ok (.getfield 18, 3) := by decide +kernel
theorem dX2_unlikeSet_14 : decode cX2_unlikeSet 14 = .ok (.iload_n 3, 1) := by decide +kernel
theorem dX2_unlikeSet_15 : decode cX2_unlikeSet 15 = .ok (.iaload, 1) := by decide +kernel
theorem dX2_unlikeSet_16 : decode cX2_unlikeSet 16 = .ok (.iconst (-1), 1) := by decide +kernel
theorem dX2_unlikeSet_17 : decode cX2_unlikeSet 17 = .ok (.if_icmp .eq 9, 3) := by decide +kernel
theorem dX2_unlikeSet_20 : decode cX2_unlikeSet 20 = .ok (.lload_n 1, 1) := by decide +kernel
theorem dX2_unlikeSet_21 : decode cX2_unlikeSet 21 = .ok (.lconst 1, 1) := by decide +kernel
theorem dX2_unlikeSet_22 : decode cX2_unlikeSet 22 = .ok (.iload_n 3, 1) := by decide +kernel
theorem dX2_unlikeSet_23 : decode cX2_unlikeSet 23 = .ok (.lshl, 1) := by decide +kernel
theorem dX2_unlikeSet_24 : decode cX2_unlikeSet 24 = .ok (.lor, 1) := by decide +kernel
theorem dX2_unlikeSet_25 : decode cX2_unlikeSet 25 = .ok (.lstore_n 1, 1) := by decide +kernel
theorem dX2_unlikeSet_26 : decode cX2_unlikeSet 26 = .ok (.iinc 3 1, 3) := by decide +kernel
theorem dX2_unlikeSet_29 : decode cX2_unlikeSet 29 = .ok (.goto (-25), 3) := by decide +kernel
theorem dX2_unlikeSet_32 : decode cX2_unlikeSet 32 = .ok (.lload_n 1, 1) := by decide +kernel
theorem dX2_unlikeSet_33 : decode cX2_unlikeSet 33 = .ok (.lreturn, 1) := by decide +kernel
theorem dX2_countUnlike_0 : decode cX2_countUnlike 0 = .ok (.aload_n 0, 1) := by decide +kernel
theorem dX2_countUnlike_1 : decode cX2_countUnlike 1 = .ok (.invokevirtual 103, 3) := by decide +kernel
theorem dX2_countUnlike_4 : decode cX2_countUnlike 4 = .ok (.invokestatic 107, 3) := by decide +kernel
theorem dX2_countUnlike_7 : decode cX2_countUnlike 7 = .ok (.ireturn, 1) := by decide +kernel
theorem dX2_countRough_0 : decode cX2_countRough 0 = .ok (.iconst 0, 1) := by decide +kernel
theorem dX2_countRough_1 : decode cX2_countRough 1 = .ok (.istore_n 1, 1) := by decide +kernel
theorem dX2_countRough_2 : decode cX2_countRough 2 = .ok (.iconst 0, 1) := by decide +kernel
theorem dX2_countRough_3 : decode cX2_countRough 3 = .ok (.istore_n 2, 1) := by decide +kernel
theorem dX2_countRough_4 : decode cX2_countRough 4 = .ok (.iload_n 2, 1) := by decide +kernel
theorem dX2_countRough_5 : decode cX2_countRough 5 = .ok (.bipush 48, 2) := by decide +kernel
theorem dX2_countRough_7 : decode cX2_countRough 7 = .ok (.if_icmp .ge 24, 3) := by decide +kernel
theorem dX2_countRough_10 : decode cX2_countRough 10 = .ok (.aload_n 0, 1) := by decide +kernel
theorem dX2_countRough_11 : decode cX2_countRough 11 = .ok (.getfield 15, 3) := by decide +kernel
theorem dX2_countRough_14 : decode cX2_countRough 14 = .ok (.iload_n 2, 1) := by decide +kernel
theorem dX2_countRough_15 : decode cX2_countRough 15 = .ok (.iaload, 1) := by decide +kernel
theorem dX2_countRough_16 : decode cX2_countRough 16 = .ok (.sipush 1000, 3) := by decide +kernel
theorem dX2_countRough_19 : decode cX2_countRough 19 = .ok (.if_icmp .lt 6, 3) := by decide +kernel
theorem dX2_countRough_22 : decode cX2_countRough 22 = .ok (.iinc 1 1, 3) := by decide +kernel
theorem dX2_countRough_25 : decode cX2_countRough 25 = .ok (.iinc 2 1, 3) := by decide +kernel
theorem dX2_countRough_28 : decode cX2_countRough 28 = .ok (.goto (-24), 3) := by decide +kernel
theorem dX2_countRough_31 : decode cX2_countRough 31 = .ok (.iload_n 1, 1) := by decide +kernel
theorem dX2_countRough_32 : decode cX2_countRough 32 = .ok (.ireturn, 1) := by decide +kernel
theorem dX2_isAllSent_0 : decode cX2_isAllSent 0 = .ok (.aload_n 0, 1) := by decide +kernel
theorem dX2_isAllSent_1 : decode cX2_isAllSent 1 = .ok (.getfield 39, 3) := by decide +kernel
theorem dX2_isAllSent_4 : decode cX2_isAllSent 4 = .ok (.ifCond .ne 16, 3) := by decide +kernel
theorem dX2_isAllSent_7 : decode cX2_isAllSent 7 = .ok (.aload_n 0, 1) := by decide +kernel
theorem dX2_isAllSent_8 : decode cX2_isAllSent 8 = .ok (.invokevirtual 103, 3) := by decide +kernel
theorem dX2_isAllSent_11 : decode cX2_isAllSent 11 = .ok (.lconst 0, 1) := by decide +kernel
theorem dX2_isAllSent_12 : decode cX2_isAllSent 12 = .ok (.lcmp, 1) := by decide +kernel
theorem dX2_isAllSent_13 : decode cX2_isAllSent 13 = .ok (.ifCond .ne 7, 3) := by decide +kernel
theorem dX2_isAllSent_16 : decode cX2_isAllSent 16 = .ok (.iconst 1, 1) := by decide +kernel
theorem dX2_isAllSent_17 : decode cX2_isAllSent 17 = .ok (.goto 4, 3) := by decide +kernel
theorem dX2_isAllSent_20 : decode cX2_isAllSent 20 = .ok (.iconst 0, 1) := by decide +kernel
theorem dX2_isAllSent_21 : decode cX2_isAllSent 21 = .ok (.ireturn, 1) := by decide +kernel
theorem dX2_passStep_0 : decode cX2_passStep 0 = .ok (.aload_n 0, 1) := by decide +kernel
theorem dX2_passStep_1 : decode cX2_passStep 1 = .ok (.iload_n 1, 1) := by decide +kernel
theorem dX2_passStep_2 : decode cX2_passStep 2 = .ok (.invokevirtual 112, 3) := by decide +kernel
theorem dX2_passStep_5 : decode cX2_passStep 5 = .ok (.istore_n 2, 1) := by decide +kernel
theorem dX2_passStep_6 : decode cX2_passStep 6 = .ok (.aload_n 0, 1) := by decide +kernel
theorem dX2_passStep_7 : decode cX2_passStep 7 = .ok (.getfield 39, 3) := by decide +kernel
theorem dX2_passStep_10 : decode cX2_passStep 10 = .ok (.ifCond .ne 13, 3) := by decide +kernel
theorem dX2_passStep_13 : decode cX2_passStep 13 = .ok (.iload_n 2, 1) := by decide +kernel
theorem dX2_passStep_14 : decode cX2_passStep 14 = .ok (.aload_n 0, 1) := by decide +kernel
theorem dX2_passStep_15 : decode cX2_passStep 15 = .ok (.iload_n 1, 1) := by decide +kernel
theorem dX2_passStep_16 : decode cX2_passStep 16 = .ok (.iload_n 2, 1) := by decide +kernel
theorem dX2_passStep_17 : decode cX2_passStep 17 = .ok (.isub, 1) := by decide +kernel
theorem dX2_passStep_18 : decode cX2_passStep 18 = .ok (.invokevirtual 115, 3) := by decide +kernel
theorem dX2_passStep_21 : decode cX2_passStep 21 = .ok (.iadd, 1) := by decide +kernel
theorem dX2_passStep_22 : decode cX2_passStep 22 = .ok (.istore_n 2, 1) := by decide +kernel
theorem dX2_passStep_23 : decode cX2_passStep 23 = .ok (.aload_n 0, 1) := by decide +kernel
theorem dX2_passStep_24 : decode cX2_passStep 24 = .ok (.dup, 1) := by decide +kernel
theorem dX2_passStep_25 : decode cX2_passStep 25 = .ok (.getfield 53, 3) := by decide +kernel
theorem dX2_passStep_28 : decode cX2_passStep 28 = .ok (.iload_n 2, 1) := by decide +kernel
theorem dX2_passStep_29 : decode cX2_passStep 29 = .ok (.iadd, 1) := by decide +kernel
theorem dX2_passStep_30 : decode cX2_passStep 30 = .ok (.putfield 53, 3) := by decide +kernel
theorem dX2_passStep_33 : decode cX2_passStep 33 = .ok (.aload_n 0, 1) := by decide +kernel
theorem dX2_passStep_34 : decode cX2_passStep 34 = .ok (.dup, 1) := by decide +kernel
theorem dX2_passStep_35 : decode cX2_passStep 35 = .ok (.getfield 56, 3) := by decide +kernel
theorem dX2_passStep_38 : decode cX2_passStep 38 = .ok (.iconst 1, 1) := by decide +kernel
theorem dX2_passStep_39 : decode cX2_passStep 39 = .ok (.iadd, 1) := by decide +kernel
theorem dX2_passStep_40 : decode cX2_passStep 40 = .ok (.putfield 56, 3) := by decide +kernel
theorem dX2_passStep_43 : decode cX2_passStep 43 = .ok (.aload_n 0, 1) := by decide +kernel
theorem dX2_passStep_44 : decode cX2_passStep 44 = .ok (.invokevirtual 118, 3) := by decide +kernel
theorem dX2_passStep_47 : decode cX2_passStep 47 = .ok (.iload_n 2, 1) := by decide +kernel
theorem dX2_passStep_48 : decode cX2_passStep 48 = .ok (.ireturn, 1) := by decide +kernel
theorem dX2_tellMoves_0 : decode cX2_tellMoves 0 = .ok (.iconst 0, 1) := by decide +kernel
theorem dX2_tellMoves_1 : decode cX2_tellMoves 1 = .ok (.istore_n 2, 1) := by decide +kernel
theorem dX2_tellMoves_2 : decode cX2_tellMoves 2 = .ok (.iload_n 2, 1) := by decide +kernel
theorem dX2_tellMoves_3 : decode cX2_tellMoves 3 = .ok (.aload_n 0, 1) := by decide +kernel
theorem dX2_tellMoves_4 : decode cX2_tellMoves 4 = .ok (.getfield 39, 3) := by decide +kernel
theorem dX2_tellMoves_7 : decode cX2_tellMoves 7 = .ok (.if_icmp .ge 39, 3) := by decide +kernel
theorem dX2_tellMoves_10 : decode cX2_tellMoves 10 = .ok (.iload_n 1, 1) := by decide +kernel
theorem dX2_tellMoves_11 : decode cX2_tellMoves 11 = .ok (.iload_n 2, 1) := by decide +kernel
theorem dX2_tellMoves_12 : decode cX2_tellMoves 12 = .ok (.iconst 2, 1) := by decide +kernel
theorem dX2_tellMoves_13 : decode cX2_tellMoves 13 = .ok (.imul, 1) := by decide +kernel
theorem dX2_tellMoves_14 : decode cX2_tellMoves 14 = .ok (.isub, 1) := by decide +kernel
theorem dX2_tellMoves_15 : decode cX2_tellMoves 15 = .ok (.iconst 2, 1) := by decide +kernel
theorem dX2_tellMoves_16 : decode cX2_tellMoves 16 = .ok (.if_icmp .lt 30, 3) := by decide +kernel
theorem dX2_tellMoves_19 : decode cX2_tellMoves 19 = .ok (.aload_n 0, 1) := by decide +kernel
theorem dX2_tellMoves_20 : decode cX2_tellMoves 20 = .ok (.getfield 35, 3) := by decide +kernel
theorem dX2_tellMoves_23 : decode cX2_tellMoves 23 = .ok (.iload_n 2, 1) := by decide +kernel
theorem dX2_tellMoves_24 : decode cX2_tellMoves 24 = .ok (.aaload, 1) := by decide +kernel
theorem dX2_tellMoves_25 : decode cX2_tellMoves 25 = .ok (.aload_n 0, 1) := by decide +kernel
theorem dX2_tellMoves_26 : decode cX2_tellMoves 26 = .ok (.getfield 15, 3) := by decide +kernel
theorem dX2_tellMoves_29 : decode cX2_tellMoves 29 = .ok (.aload_n 0, 1) := by decide +kernel
theorem dX2_tellMoves_30 : decode cX2_tellMoves 30 = .ok (.getfield 30, 3) := by decide +kernel
theorem dX2_tellMoves_33 : decode cX2_tellMoves 33 = .ok (.invokevirtual 90, 3) := by decide +kernel
theorem dX2_tellMoves_36 : decode cX2_tellMoves 36 = .ok (.aload_n 0, 1) := by decide +kernel
theorem dX2_tellMoves_37 : decode cX2_tellMoves 37 = .ok (.invokevirtual 83, 3) := by decide +kernel
theorem dX2_tellMoves_40 : decode cX2_tellMoves 40 = .ok (.iinc 2 1, 3) := by decide +kernel
theorem dX2_tellMoves_43 : decode cX2_tellMoves 43 = .ok (.goto (-41), 3) := by decide +kernel
theorem dX2_tellMoves_46 : decode cX2_tellMoves 46 = .ok (.aload_n 0, 1) := by decide +kernel
theorem dX2_tellMoves_47 : decode cX2_tellMoves 47 = .ok (.iload_n 2, 1) := by decide +kernel
theorem dX2_tellMoves_48 : decode cX2_tellMoves 48 = .ok (.invokevirtual 121, 3) := by decide +kernel
theorem dX2_tellMoves_51 : decode cX2_tellMoves 51 = .ok (.aload_n 0, 1) := by decide +kernel
theorem dX2_tellMoves_52 : decode cX2_tellMoves 52 = .ok (.getfield 50, 3) := by decide +kernel
theorem dX2_tellMoves_55 : decode cX2_tellMoves 55 = .ok (.iconst 0, 1) := by decide +kernel
theorem dX2_tellMoves_56 : decode cX2_tellMoves 56 = .ok (.dup2, 1) := by decide +kernel
theorem dX2_tellMoves_57 : decode cX2_tellMoves 57 = .ok (.iaload, 1) := by decide +kernel
theorem dX2_tellMoves_58 : decode cX2_tellMoves 58 = .ok (.iload_n 2, 1) := by decide +kernel
theorem dX2_tellMoves_59 : decode cX2_tellMoves 59 = .ok (.iadd, 1) := by decide +kernel
theorem dX2_tellMoves_60 : decode cX2_tellMoves 60 = .ok (.iastore, 1) := by decide +kernel
theorem dX2_tellMoves_61 : decode cX2_tellMoves 61 = .ok (.iload_n 2, 1) := by decide +kernel
theorem dX2_tellMoves_62 : decode cX2_tellMoves 62 = .ok (.iconst 2, 1) := by decide +kernel
theorem dX2_tellMoves_63 : decode cX2_tellMoves 63 = .ok (.imul, 1) := by decide +kernel
theorem dX2_tellMoves_64 : decode cX2_tellMoves 64 = .ok (.ireturn, 1) := by decide +kernel
theorem dX2_forgetMoves_0 : decode cX2_forgetMoves 0 = .ok (.iload_n 1, 1) := by decide +kernel
theorem dX2_forgetMoves_1 : decode cX2_forgetMoves 1 = .ok (.istore_n 2, 1) := by decide +kernel
theorem dX2_forgetMoves_2 : decode cX2_forgetMoves 2 = .ok (.iload_n 2, 1) := by decide +kernel
theorem dX2_forgetMoves_3 : decode cX2_forgetMoves 3 = .ok (.aload_n 0, 1) := by decide +kernel
theorem dX2_forgetMoves_4 : decode cX2_forgetMoves 4 = .ok (.getfield 39, 3) := by decide +kernel
theorem dX2_forgetMoves_7 : decode cX2_forgetMoves 7 = .ok (.if_icmp .ge 26, 3) := by decide +kernel
theorem dX2_forgetMoves_10 : decode cX2_forgetMoves 10 = .ok (.aload_n 0, 1) := by decide +kernel
theorem dX2_forgetMoves_11 : decode cX2_forgetMoves 11 = .ok (.getfield 35, 3) := by decide +kernel
theorem dX2_forgetMoves_14 : decode cX2_forgetMoves 14 = .ok (.iload_n 2, 1) := by decide +kernel
theorem dX2_forgetMoves_15 : decode cX2_forgetMoves 15 = .ok (.iload_n 1, 1) := by decide +kernel
theorem dX2_forgetMoves_16 : decode cX2_forgetMoves 16 = .ok (.isub, 1) := by decide +kernel
theorem dX2_forgetMoves_17 : decode cX2_forgetMoves 17 = .ok (.aaload, 1) := by decide +kernel
theorem dX2_forgetMoves_18 : decode cX2_forgetMoves 18 = .ok (.aload_n 0, 1) := by decide +kernel
theorem dX2_forgetMoves_19 : decode cX2_forgetMoves 19 = .ok (.getfield 35, 3) := by decide +kernel
theorem dX2_forgetMoves_22 : decode cX2_forgetMoves 22 = .ok (.iload_n 2, 1) := by decide +kernel
theorem dX2_forgetMoves_23 : decode cX2_forgetMoves 23 = .ok (.aaload, 1) := by decide +kernel
theorem dX2_forgetMoves_24 : decode cX2_forgetMoves 24 = .ok (.invokevirtual 69, 3) := by decide +kernel
theorem dX2_forgetMoves_27 : decode cX2_forgetMoves 27 = .ok (.iinc 2 1, 3) := by decide +kernel
theorem dX2_forgetMoves_30 : decode cX2_forgetMoves 30 = .ok (.goto (-28), 3) := by decide +kernel
theorem dX2_forgetMoves_33 : decode cX2_forgetMoves 33 = .ok (.aload_n 0, 1) := by decide +kernel
theorem dX2_forgetMoves_34 : decode cX2_forgetMoves 34 = .ok (.dup, 1) := by decide +kernel
theorem dX2_forgetMoves_35 : decode cX2_forgetMoves 35 = .ok (.getfield 39, 3) := by decide +kernel
theorem dX2_forgetMoves_38 : decode cX2_forgetMoves 38 = .ok (.iload_n 1, 1) := by decide +kernel
theorem dX2_forgetMoves_39 : decode cX2_forgetMoves 39 = .ok (.isub, 1) := by decide +kernel
theorem dX2_forgetMoves_40 : decode cX2_forgetMoves 40 = .ok (.putfield 39, 3) := by decide +kernel
theorem dX2_forgetMoves_43 : decode cX2_forgetMoves 43 = .ok (.return_, 1) := by decide +kernel
theorem dX2_sendTiles_0 : decode cX2_sendTiles 0 = .ok (.aload_n 0, 1) := by decide +kernel
theorem dX2_sendTiles_1 : decode cX2_sendTiles 1 = .ok (.invokevirtual 125, 3) := by decide +kernel
theorem dX2_sendTiles_4 : decode cX2_sendTiles 4 = .ok (.istore_n 2, 1) := by decide +kernel
theorem dX2_sendTiles_5 : decode cX2_sendTiles 5 = .ok (.iload_n 1, 1) := by decide +kernel
theorem dX2_sendTiles_6 : decode cX2_sendTiles 6 = .ok (.istore_n 3, 1) := by decide +kernel
theorem dX2_sendTiles_7 : decode cX2_sendTiles 7 = .ok (.iconst 0, 1) := by decide +kernel
theorem dX2_sendTiles_8 : decode cX2_sendTiles 8 = .ok (.istore 4, 2) := by decide +kernel
theorem dX2_sendTiles_10 : decode cX2_sendTiles 10 = .ok (.iload 4, 2) := by decide +kernel
theorem dX2_sendTiles_12 : decode cX2_sendTiles 12 = .ok (.iload_n 2, 1) := by decide +kernel
theorem dX2_sendTiles_13 : decode cX2_sendTiles 13 = .ok (.if_icmp .ge 24, 3) := by decide +kernel
theorem dX2_sendTiles_16 : decode cX2_sendTiles 16 = .ok (.iload_n 3, 1) := by decide +kernel
theorem dX2_sendTiles_17 : decode cX2_sendTiles 17 = .ok (.aload_n 0, 1) := by decide +kernel
theorem dX2_sendTiles_18 : decode cX2_sendTiles 18 = .ok (.aload_n 0, 1) := by decide +kernel
theorem dX2_sendTiles_19 : decode cX2_sendTiles 19 = .ok (.getfield 27, 3) := by decide +kernel
theorem dX2_sendTiles_22 : decode cX2_sendTiles 22 = .ok (.iload 4, 2) := by decide +kernel
theorem dX2_sendTiles_24 : decode cX2_sendTiles 24 = .ok (.iaload, 1) := by decide +kernel
theorem dX2_sendTiles_25 : decode cX2_sendTiles 25 = .ok (.iload_n 3, 1) := by decide +kernel
theorem dX2_sendTiles_26 : decode cX2_sendTiles 26 = .ok (.invokevirtual 129, 3) := by decide +kernel
theorem dX2_sendTiles_29 : decode cX2_sendTiles 29 = .ok (.isub, 1) := by decide +kernel
theorem dX2_sendTiles_30 : decode cX2_sendTiles 30 = .ok (.istore_n 3, 1) := by decide +kernel
theorem dX2_sendTiles_31 : decode cX2_sendTiles 31 = .ok (.iinc 4 1, 3) := by decide +kernel
theorem dX2_sendTiles_34 : decode cX2_sendTiles 34 = .ok (.goto (-24), 3) := by decide +kernel
theorem dX2_sendTiles_37 : decode cX2_sendTiles 37 = .ok (.iload_n 1, 1) := by decide +kernel
theorem dX2_sendTiles_38 : decode cX2_sendTiles 38 = .ok (.iload_n 3, 1) := by decide +kernel
theorem dX2_sendTiles_39 : decode cX2_sendTiles 39 = .ok (.isub, 1) := by decide +kernel
theorem dX2_sendTiles_40 : decode cX2_sendTiles 40 = .ok (.ireturn, 1) := by decide +kernel
theorem dX2_putInOrder_0 : decode cX2_putInOrder 0 = .ok (.iconst 0, 1) := by decide +kernel
theorem dX2_putInOrder_1 : decode cX2_putInOrder 1 = .ok (.istore_n 1, 1) := by decide +kernel
theorem dX2_putInOrder_2 : decode cX2_putInOrder 2 = .ok (.iconst 0, 1) := by decide +kernel
theorem dX2_putInOrder_3 : decode cX2_putInOrder 3 = .ok (.istore_n 2, 1) := by decide +kernel
theorem dX2_putInOrder_4 : decode cX2_putInOrder 4 = .ok (.iload_n 2, 1) := by decide +kernel
theorem dX2_putInOrder_5 : decode cX2_putInOrder 5 = .ok (.bipush 48, 2) := by decide +kernel
theorem dX2_putInOrder_7 : decode cX2_putInOrder 7 = .ok (.if_icmp .ge 39, 3) := by decide +kernel
theorem dX2_putInOrder_10 : decode cX2_putInOrder 10 = .ok (.aload_n 0, 1) := by decide +kernel
theorem dX2_putInOrder_11 : decode cX2_putInOrder 11 = .ok (.getfield 18, 3) := by decide +kernel
theorem dX2_putInOrder_14 : decode cX2_putInOrder 14 = .ok (.iload_n 2, 1) := by decide +kernel
theorem dX2_putInOrder_15 : decode cX2_putInOrder 15 = .ok (.iaload, 1) := by decide +kernel
theorem dX2_putInOrder_16 : decode cX2_putInOrder 16 = .ok (.iconst (-1), 1) := by decide +kernel
theorem dX2_putInOrder_17 : decode cX2_putInOrder 17 = .ok (.if_icmp .eq 23, 3) := by decide +kernel
theorem dX2_putInOrder_20 : decode cX2_putInOrder 20 = .ok (.aload_n 0, 1) := by decide +kernel
theorem dX2_putInOrder_21 : decode cX2_putInOrder 21 = .ok (.getfield 24, 3) := by decide +kernel
theorem dX2_putInOrder_24 : decode cX2_putInOrder 24 = .ok (.iload_n 2, 1) := by decide +kernel
theorem dX2_putInOrder_25 : decode cX2_putInOrder 25 = .ok (.aload_n 0, 1) := by decide +kernel
theorem dX2_putInOrder_26 : decode cX2_putInOrder 26 = .ok (.iload_n 2, 1) := by decide +kernel
theorem dX2_putInOrder_27 : decode cX2_putInOrder 27 = .ok (.invokevirtual 132, 3) := by decide +kernel
theorem dX2_putInOrder_30 : decode cX2_putInOrder 30 = .ok (.iastore, 1) := by decide +kernel
theorem dX2_putInOrder_31 : decode cX2_putInOrder 31 = .ok (.aload_n 0, 1) := by decide +kernel
theorem dX2_putInOrder_32 : decode cX2_putInOrder 32 = .ok (.iload_n 2, 1) := by decide +kernel
theorem dX2_putInOrder_33 : decode cX2_putInOrder 33 = .ok (.iload_n 1, 1) := by decide +kernel
theorem dX2_putInOrder_34 : decode cX2_putInOrder 34 = .ok (.invokevirtual 135, 3) := by decide +kernel
theorem dX2_putInOrder_37 : decode cX2_putInOrder 37 = .ok (.iinc 1 1, 3) := by decide +kernel
theorem dX2_putInOrder_40 : decode cX2_putInOrder 40 = .ok (.iinc 2 1, 3) := by decide +kernel
theorem dX2_putInOrder_43 : decode cX2_putInOrder 43 = .ok (.goto (-39), 3) := by decide +kernel
theorem dX2_putInOrder_46 : decode cX2_putInOrder 46 = .ok (.iload_n 1, 1) := by decide +kernel
theorem dX2_putInOrder_47 : decode cX2_putInOrder 47 = .ok (.ireturn, 1) := by decide +kernel
theorem dX2_insertInOrder_0 : decode cX2_insertInOrder 0 = .ok (.iload_n 2, 1) := by decide +kernel
theorem dX2_insertInOrder_1 : decode cX2_insertInOrder 1 = .ok (.istore_n 3, 1) := by decide +kernel
theorem dX2_insertInOrder_2 : decode cX2_insertInOrder 2 = .ok (.iload_n 3, 1) := by decide +kernel
theorem dX2_insertInOrder_3 : decode cX2_insertInOrder 3 = .ok (.ifCond .le 45, 3) := by decide +kernel
theorem dX2_insertInOrder_6 : decode cX2_insertInOrder 6 = .ok (.aload_n 0, 1) := by decide +kernel
theorem dX2_insertInOrder_7 : decode cX2_insertInOrder 7 = .ok (.getfield 24, 3) := by decide +kernel
theorem dX2_insertInOrder_10 : decode cX2_insertInOrder 10 = .ok (.aload_n 0, 1) := by decide +kernel
theorem dX2_insertInOrder_11 : decode cX2_insertInOrder 11 = .ok (.getfield 27, 3) := by decide +kernel
theorem dX2_insertInOrder_14 : decode cX2_insertInOrder 14 = .ok (.iload_n 3, 1) := by decide +kernel
theorem dX2_insertInOrder_15 : decode cX2_insertInOrder 15 = .ok (.iconst 1, 1) := by decide +kernel
theorem dX2_insertInOrder_16 : decode cX2_insertInOrder 16 = .ok (.isub, 1) := by decide +kernel
theorem dX2_insertInOrder_17 : decode cX2_insertInOrder 17 = .ok (.iaload, 1) := by decide +kernel
theorem dX2_insertInOrder_18 : decode cX2_insertInOrder 18 = .ok (.iaload, 1) := by decide +kernel
theorem dX2_insertInOrder_19 : decode cX2_insertInOrder 19 = .ok (.aload_n 0, 1) := by decide +kernel
theorem dX2_insertInOrder_20 : decode cX2_insertInOrder 20 = .ok (.getfield 24, 3) := by decide +kernel
theorem dX2_insertInOrder_23 : decode cX2_insertInOrder 23 = .ok (.iload_n 1, 1) := by decide +kernel
theorem dX2_insertInOrder_24 : decode cX2_insertInOrder 24 = .ok (.iaload, 1) := by decide +kernel
theorem dX2_insertInOrder_25 : decode cX2_insertInOrder 25 = .ok (.if_icmp .ge 23, 3) := by decide +kernel
theorem dX2_insertInOrder_28 : decode cX2_insertInOrder 28 = .ok (.aload_n 0, 1) := by decide +kernel
theorem dX2_insertInOrder_29 : decode cX2_insertInOrder 29 = .ok (.getfield 27, 3) := by decide +kernel
theorem dX2_insertInOrder_32 : decode cX2_insertInOrder 32 = .ok (.iload_n 3, 1) := by decide +kernel
theorem dX2_insertInOrder_33 : decode cX2_insertInOrder 33 = .ok (.aload_n 0, 1) := by decide +kernel
theorem dX2_insertInOrder_34 : decode cX2_insertInOrder 34 = .ok (.getfield 27, 3) := by decide +kernel
theorem dX2_insertInOrder_37 : decode cX2_insertInOrder 37 = .ok (.iload_n 3, 1) := by decide +kernel
theorem dX2_insertInOrder_38 : decode cX2_insertInOrder 38 = .ok (.iconst 1, 1) := by decide +kernel
theorem dX2_insertInOrder_39 : decode cX2_insertInOrder 39 = .ok (.isub, 1) := by decide +kernel
theorem dX2_insertInOrder_40 : decode cX2_insertInOrder 40 = .ok (.iaload, 1) := by decide +kernel
theorem dX2_insertInOrder_41 : decode cX2_insertInOrder 41 = .ok (.iastore, 1) := by decide +kernel
theorem dX2_insertInOrder_42 : decode cX2_insertInOrder 42 = .ok (.iinc 3 (-1), 3) := by decide +kernel
theorem dX2_insertInOrder_45 : decode cX2_insertInOrder 45 = .ok (.goto (-43), 3) := by decide +kernel
theorem dX2_insertInOrder_48 : decode cX2_insertInOrder 48 = .ok (.aload_n 0, 1) := by decide +kernel
theorem dX2_insertInOrder_49 : decode cX2_insertInOrder 49 = .ok (.getfield 27, 3) := by decide +kernel
theorem dX2_insertInOrder_52 : decode cX2_insertInOrder 52 = .ok (.iload_n 3, 1) := by decide +kernel
theorem dX2_insertInOrder_53 : decode cX2_insertInOrder 53 = .ok (.iload_n 1, 1) := by decide +kernel
theorem dX2_insertInOrder_54 : decode cX2_insertInOrder 54 = .ok (.iastore, 1) := by decide +kernel
theorem dX2_insertInOrder_55 : decode cX2_insertInOrder 55 = .ok (.return_, 1) := by decide +kernel
theorem dX2_worthOf_0 : decode cX2_worthOf 0 = .ok (.aload_n 0, 1) := by decide +kernel
theorem dX2_worthOf_1 : decode cX2_worthOf 1 = .ok (.getfield 56, 3) := by decide +kernel
theorem dX2_worthOf_4 : decode cX2_worthOf 4 = .ok (.aload_n 0, 1) := by decide +kernel
theorem dX2_worthOf_5 : decode cX2_worthOf 5 = .ok (.getfield 18, 3) := by decide +kernel
theorem dX2_worthOf_8 : decode cX2_worthOf 8 = .ok (.iload_n 1, 1) := by decide +kernel
theorem dX2_worthOf_9 : decode cX2_worthOf 9 = .ok (.iaload, 1) := by decide +kernel
theorem dX2_worthOf_10 : decode cX2_worthOf 10 = .ok (.isub, 1) := by decide +kernel
theorem dX2_worthOf_11 : decode cX2_worthOf 11 = .ok (.istore_n 2, 1) := by decide +kernel
theorem dX2_worthOf_12 : decode cX2_worthOf 12 = .ok (.aload_n 0, 1) := by decide +kernel
theorem dX2_worthOf_13 : decode cX2_worthOf 13 = .ok (.iload_n 1, 1) := by decide +kernel
theorem dX2_worthOf_14 : decode cX2_worthOf 14 = .ok (.invokevirtual 139, 3) := by decide +kernel
theorem dX2_worthOf_17 : decode cX2_worthOf 17 = .ok (.ifCond .eq 9, 3) := by decide +kernel
theorem dX2_worthOf_20 : decode cX2_worthOf 20 = .ok (.iload_n 2, 1) := by decide +kernel
theorem dX2_worthOf_21 : decode cX2_worthOf 21 = .ok (.iconst 5, 1) := by decide +kernel
theorem dX2_worthOf_22 : decode cX2_worthOf 22 = .ok (.iadd, 1) := by decide +kernel
theorem dX2_worthOf_23 : decode cX2_worthOf 23 = .ok (.goto 4, 3) := by decide +kernel
theorem dX2_worthOf_26 : decode cX2_worthOf 26 = .ok (.iload_n 2, 1) := by decide +kernel
theorem dX2_worthOf_27 : decode cX2_worthOf 27 = .ok (.ireturn, 1) := by decide +kernel
theorem dX2_isLookedAt_0 : decode cX2_isLookedAt 0 = .ok (.iload_n 1, 1) := by decide +kernel
theorem dX2_isLookedAt_1 : decode cX2_isLookedAt 1 = .ok (.bipush 8, 2) := by decide +kernel
theorem dX2_isLookedAt_3 : decode cX2_isLookedAt 3 = .ok (.irem, 1) := by decide +kernel
theorem dX2_isLookedAt_4 : decode cX2_isLookedAt 4 = .ok (.aload_n 0, 1) := by decide +kernel
theorem dX2_isLookedAt_5 : decode cX2_isLookedAt 5 = .ok (.getfield 59, 3) := by decide +kernel
theorem dX2_isLookedAt_8 : decode cX2_isLookedAt 8 = .ok (.bipush 8, 2) := by decide +kernel
theorem dX2_isLookedAt_10 : decode cX2_isLookedAt 10 = .ok (.irem, 1) := by decide +kernel
theorem dX2_isLookedAt_11 : decode cX2_isLookedAt 11 = .ok (.isub, 1) := by decide +kernel
theorem dX2_isLookedAt_12 : decode cX2_isLookedAt 12 = .ok (.invokestatic 143, 3) := by decide +kernel
theorem dX2_isLookedAt_15 : decode cX2_isLookedAt 15 = .ok (.istore_n 2, 1) := by decide +kernel
theorem dX2_isLookedAt_16 : decode cX2_isLookedAt 16 = .ok (.iload_n 1, 1) := by decide +kernel
theorem dX2_isLookedAt_17 : decode cX2_isLookedAt 17 = .ok (.bipush 8, 2) := by decide +kernel
theorem dX2_isLookedAt_19 : decode cX2_isLookedAt 19 = .ok (.idiv, 1) := by decide +kernel
theorem dX2_isLookedAt_20 : decode cX2_isLookedAt 20 = .ok (.aload_n 0, 1) := by decide +kernel
theorem dX2_isLookedAt_21 : decode cX2_isLookedAt 21 = .ok (.getfield 59, 3) := by decide +kernel
theorem dX2_isLookedAt_24 : decode cX2_isLookedAt 24 = .ok (.bipush 8, 2) := by decide +kernel
theorem dX2_isLookedAt_26 : decode cX2_isLookedAt 26 = .ok (.idiv, 1) := by decide +kernel
theorem dX2_isLookedAt_27 : decode cX2_isLookedAt 27 = .ok (.isub, 1) := by decide +kernel
theorem dX2_isLookedAt_28 : decode cX2_isLookedAt 28 = .ok (.invokestatic 143, 3) := by decide +kernel
theorem dX2_isLookedAt_31 : decode cX2_isLookedAt 31 = .ok (.istore_n 3, 1) := by decide +kernel
theorem dX2_isLookedAt_32 : decode cX2_isLookedAt 32 = .ok (.iload_n 2, 1) := by decide +kernel
theorem dX2_isLookedAt_33 : decode cX2_isLookedAt 33 = .ok (.iconst 1, 1) := by decide +kernel
theorem dX2_isLookedAt_34 : decode cX2_isLookedAt 34 = .ok (.if_icmp .gt 12, 3) := by decide +kernel
theorem dX2_isLookedAt_37 : decode cX2_isLookedAt 37 = .ok (.iload_n 3, 1) := by decide +kernel
theorem dX2_isLookedAt_38 : decode cX2_isLookedAt 38 = .ok (.iconst 1, 1) := by decide +kernel
theorem dX2_isLookedAt_39 : decode cX2_isLookedAt 39 = .ok (.if_icmp .gt 7, 3) := by decide +kernel
theorem dX2_isLookedAt_42 : decode cX2_isLookedAt 42 = .ok (.iconst 1, 1) := by decide +kernel
theorem dX2_isLookedAt_43 : decode cX2_isLookedAt 43 = .ok (.goto 4, 3) := by decide +kernel
theorem dX2_isLookedAt_46 : decode cX2_isLookedAt 46 = .ok (.iconst 0, 1) := by decide +kernel
theorem dX2_isLookedAt_47 : decode cX2_isLookedAt 47 = .ok (.ireturn, 1) := by decide +kernel
theorem dX2_sendTile_0 : decode cX2_sendTile 0 = .ok (.aload_n 0, 1) := by decide +kernel
theorem dX2_sendTile_1 : decode cX2_sendTile 1 = .ok (.getfield 9, 3) := by decide +kernel
theorem dX2_sendTile_4 : decode cX2_sendTile 4 = .ok (.iload_n 1, 1) := by decide +kernel
theorem dX2_sendTile_5 : decode cX2_sendTile 5 = .ok (.iaload, 1) := by decide +kernel
theorem dX2_sendTile_6 : decode cX2_sendTile 6 = .ok (.istore_n 3, 1) := by decide +kernel
theorem dX2_sendTile_7 : decode cX2_sendTile 7 = .ok (.aload_n 0, 1) := by decide +kernel
theorem dX2_sendTile_8 : decode cX2_sendTile 8 = .ok (.getfield 46, 3) := by decide +kernel
theorem dX2_sendTile_11 : decode cX2_sendTile 11 = .ok (.iload_n 3, 1) := by decide +kernel
theorem dX2_sendTile_12 : decode cX2_sendTile 12 = .ok (.invokevirtual 148, 3) := by decide +kernel
theorem dX2_sendTile_15 : decode cX2_sendTile 15 = .ok (.ifCond .eq 12, 3) := by decide +kernel
theorem dX2_sendTile_18 : decode cX2_sendTile 18 = .ok (.aload_n 0, 1) := by decide +kernel
theorem dX2_sendTile_19 : decode cX2_sendTile 19 = .ok (.iload_n 1, 1) := by decide +kernel
theorem dX2_sendTile_20 : decode cX2_sendTile 20 = .ok (.iconst 1, 1) := by decide +kernel
theorem dX2_sendTile_21 : decode cX2_sendTile 21 = .ok (.iconst 1, 1) := by decide +kernel
theorem dX2_sendTile_22 : decode cX2_sendTile 22 = .ok (.iload_n 2, 1) := by decide +kernel
theorem dX2_sendTile_23 : decode cX2_sendTile 23 = .ok (.invokevirtual 151, 3) := by decide +kernel
theorem dX2_sendTile_26 : decode cX2_sendTile 26 = .ok (.ireturn, 1) := by decide +kernel
theorem dX2_sendTile_27 : decode cX2_sendTile 27 = .ok (.aload_n 0, 1) := by decide +kernel
theorem dX2_sendTile_28 : decode cX2_sendTile 28 = .ok (.iload_n 1, 1) := by decide +kernel
theorem dX2_sendTile_29 : decode cX2_sendTile 29 = .ok (.invokevirtual 100, 3) := by decide +kernel
theorem dX2_sendTile_32 : decode cX2_sendTile 32 = .ok (.iconst 2, 1) := by decide +kernel
theorem dX2_sendTile_33 : decode cX2_sendTile 33 = .ok (.if_icmp .ne 10, 3) := by decide +kernel
theorem dX2_sendTile_36 : decode cX2_sendTile 36 = .ok (.aload_n 0, 1) := by decide +kernel
theorem dX2_sendTile_37 : decode cX2_sendTile 37 = .ok (.iload_n 1, 1) := by decide +kernel
theorem dX2_sendTile_38 : decode cX2_sendTile 38 = .ok (.iload_n 2, 1) := by decide +kernel
theorem dX2_sendTile_39 : decode cX2_sendTile 39 = .ok (.invokevirtual 155, 3) := by decide +kernel
theorem dX2_sendTile_42 : decode cX2_sendTile 42 = .ok (.ireturn, 1) := by decide +kernel
theorem dX2_sendTile_43 : decode cX2_sendTile 43 = .ok (.aload_n 0, 1) := by decide +kernel
theorem dX2_sendTile_44 : decode cX2_sendTile 44 = .ok (.iload_n 1, 1) := by decide +kernel
theorem dX2_sendTile_45 : decode cX2_sendTile 45 = .ok (.iconst 3, 1) := by decide +kernel
theorem dX2_sendTile_46 : decode cX2_sendTile 46 = .ok (.iload_n 3, 1) := by decide +kernel
theorem dX2_sendTile_47 : decode cX2_sendTile 47 = .ok (.invokestatic 158, 3) := by decide +kernel
theorem dX2_sendTile_50 : decode cX2_sendTile 50 = .ok (.iload_n 2, 1) := by decide +kernel
theorem dX2_sendTile_51 : decode cX2_sendTile 51 = .ok (.invokevirtual 151, 3) := by decide +kernel
theorem dX2_sendTile_54 : decode cX2_sendTile 54 = .ok (.ireturn, 1) := by decide +kernel
theorem dX2_sendPicture_0 : decode cX2_sendPicture 0 = .ok (.iload_n 3, 1) := by decide +kernel
theorem dX2_sendPicture_1 : decode cX2_sendPicture 1 = .ok (.iload 4, 2) := by decide +kernel
theorem dX2_sendPicture_3 : decode cX2_sendPicture 3 = .ok (.if_icmp .le 5, 3) := by decide +kernel
theorem dX2_sendPicture_6 : decode cX2_sendPicture 6 = .ok (.iconst 0, 1) := by decide +kernel
theorem dX2_sendPicture_7 : decode cX2_sendPicture 7 = .ok (.ireturn, 1) := by decide +kernel
theorem dX2_sendPicture_8 : decode cX2_sendPicture 8 = .ok (.aload_n 0, 1) := by decide +kernel
theorem dX2_sendPicture_9 : decode cX2_sendPicture 9 = .ok (.getfield 15, 3) := by decide +kernel
theorem dX2_sendPicture_12 : decode cX2_sendPicture 12 = .ok (.iload_n 1, 1) := by decide +kernel
theorem dX2_sendPicture_13 : decode cX2_sendPicture 13 = .ok (.aload_n 0, 1) := by decide +kernel
theorem dX2_sendPicture_14 : decode cX2_sendPicture 14 = .ok (.getfield 9, 3) := by decide +kernel
theorem dX2_sendPicture_17 : decode cX2_sendPicture 17 = .ok (.iload_n 1, 1) := by decide +kernel
theorem dX2_sendPicture_18 : decode cX2_sendPicture 18 = .ok (.iaload, 1) := by decide +kernel
theorem dX2_sendPicture_19 : decode cX2_sendPicture 19 = .ok (.iastore, 1) := by decide +kernel
theorem dX2_sendPicture_20 : decode cX2_sendPicture 20 = .ok (.aload_n 0, 1) := by decide +kernel
theorem dX2_sendPicture_21 : decode cX2_sendPicture 21 = .ok (.getfield 18, 3) := by decide +kernel
theorem dX2_sendPicture_24 : decode cX2_sendPicture 24 = .ok (.iload_n 1, 1) := by decide +kernel
theorem dX2_sendPicture_25 : decode cX2_sendPicture 25 = .ok (.iconst (-1), 1) := by decide +kernel
theorem dX2_sendPicture_26 : decode cX2_sendPicture 26 = .ok (.iastore, 1) := by decide +kernel
theorem dX2_sendPicture_27 : decode cX2_sendPicture 27 = .ok (.aload_n 0, 1) := by decide +kernel
theorem dX2_sendPicture_28 : decode cX2_sendPicture 28 = .ok (.getfield 46, 3) := by decide +kernel
theorem dX2_sendPicture_31 : decode cX2_sendPicture 31 = .ok (.aload_n 0, 1) := by decide +kernel
theorem dX2_sendPicture_32 : decode cX2_sendPicture 32 = .ok (.getfield 9, 3) := by decide +kernel
theorem dX2_sendPicture_35 : decode cX2_sendPicture 35 = .ok (.iload_n 1, 1) := by decide +kernel
theorem dX2_sendPicture_36 : decode cX2_sendPicture 36 = .ok (.iaload, 1) := by decide +kernel
theorem dX2_sendPicture_37 : decode cX2_sendPicture 37 = .ok (.invokevirtual 161, 3) := by decide +kernel
theorem dX2_sendPicture_40 : decode cX2_sendPicture 40 = .ok (.aload_n 0, 1) := by decide +kernel
theorem dX2_sendPicture_41 : decode cX2_sendPicture 41 = .ok (.getfield 50, 3) := by decide +kernel
theorem dX2_sendPicture_44 : decode cX2_sendPicture 44 = .ok (.iload_n 2, 1) := by decide +kernel
theorem dX2_sendPicture_45 : decode cX2_sendPicture 45 = .ok (.dup2, 1) := by decide +kernel
theorem dX2_sendPicture_46 : decode cX2_sendPicture 46 = .ok (.iaload, 1) := by decide +kernel
theorem dX2_sendPicture_47 : decode cX2_sendPicture 47 = .ok (.iconst 1, 1) := by decide +kernel
theorem dX2_sendPicture_48 : decode cX2_sendPicture 48 = .ok (.iadd, 1) := by decide +kernel
theorem dX2_sendPicture_49 : decode cX2_sendPicture 49 = .ok (.iastore, 1) := by decide +kernel
theorem dX2_sendPicture_50 : decode cX2_sendPicture 50 = .ok (.iload_n 3, 1) := by decide +kernel
theorem dX2_sendPicture_51 : decode cX2_sendPicture 51 = .ok (.ireturn, 1) := by decide +kernel
theorem dX2_sendRoughly_0 : decode cX2_sendRoughly 0 = .ok (.sipush 1000, 3) := by decide +kernel
theorem dX2_sendRoughly_3 : decode cX2_sendRoughly 3 = .ok (.aload_n 0, 1) := by decide +kernel
theorem dX2_sendRoughly_4 : decode cX2_sendRoughly 4 = .ok (.getfield 9, 3) := by decide +kernel
theorem dX2_sendRoughly_7 : decode cX2_sendRoughly 7 = .ok (.iload_n 1, 1) := by decide +kernel
theorem dX2_sendRoughly_8 : decode cX2_sendRoughly 8 = .ok (.iaload, 1) := by decide +kernel
theorem dX2_sendRoughly_9 : decode cX2_sendRoughly 9 = .ok (.bipush 16, 2) := by decide +kernel
theorem dX2_sendRoughly_11 : decode cX2_sendRoughly 11 = .ok (.idiv, 1) := by decide +kernel
theorem dX2_sendRoughly_12 : decode cX2_sendRoughly 12 = .ok (.iadd, 1) := by decide +kernel
theorem dX2_sendRoughly_13 : decode cX2_sendRoughly 13 = .ok (.istore_n 3, 1) := by decide +kernel
theorem dX2_sendRoughly_14 : decode cX2_sendRoughly 14 = .ok (.iconst 2, 1) := by decide +kernel
theorem dX2_sendRoughly_15 : decode cX2_sendRoughly 15 = .ok (.iload_n 2, 1) := by decide +kernel
theorem dX2_sendRoughly_16 : decode cX2_sendRoughly 16 = .ok (.if_icmp .gt 13, 3) := by decide +kernel
theorem dX2_sendRoughly_19 : decode cX2_sendRoughly 19 = .ok (.aload_n 0, 1) := by decide +kernel
theorem dX2_sendRoughly_20 : decode cX2_sendRoughly 20 = .ok (.getfield 15, 3) := by decide +kernel
theorem dX2_sendRoughly_23 : decode cX2_sendRoughly 23 = .ok (.iload_n 1, 1) := by decide +kernel
theorem dX2_sendRoughly_24 : decode cX2_sendRoughly 24 = .ok (.iaload, 1) := by decide +kernel
theorem dX2_sendRoughly_25 : decode cX2_sendRoughly 25 = .ok (.iload_n 3, 1) := by decide +kernel
theorem dX2_sendRoughly_26 : decode cX2_sendRoughly 26 = .ok (.if_icmp .ne 5, 3) := by decide +kernel
theorem dX2_sendRoughly_29 : decode cX2_sendRoughly 29 = .ok (.iconst 0, 1) := by decide +kernel
theorem dX2_sendRoughly_30 : decode cX2_sendRoughly 30 = .ok (.ireturn, 1) := by decide +kernel
theorem dX2_sendRoughly_31 : decode cX2_sendRoughly 31 = .ok (.aload_n 0, 1) := by decide +kernel
theorem dX2_sendRoughly_32 : decode cX2_sendRoughly 32 = .ok (.getfield 15, 3) := by decide +kernel
theorem dX2_sendRoughly_35 : decode cX2_sendRoughly 35 = .ok (.iload_n 1, 1) := by decide +kernel
theorem dX2_sendRoughly_36 : decode cX2_sendRoughly 36 = .ok (.iload_n 3, 1) := by decide +kernel
theorem dX2_sendRoughly_37 : decode cX2_sendRoughly 37 = .ok (.iastore, 1) := by decide +kernel
theorem dX2_sendRoughly_38 : decode cX2_sendRoughly 38 = .ok (.aload_n 0, 1) := by decide +kernel
theorem dX2_sendRoughly_39 : decode cX2_sendRoughly 39 = .ok (.getfield 50, 3) := by decide +kernel
theorem dX2_sendRoughly_42 : decode cX2_sendRoughly 42 = .ok (.iconst 2, 1) := by decide +kernel
theorem dX2_sendRoughly_43 : decode cX2_sendRoughly 43 = .ok (.dup2, 1) := by decide +kernel
theorem dX2_sendRoughly_44 : decode cX2_sendRoughly 44 = .ok (.iaload, 1) := by decide +kernel
theorem dX2_sendRoughly_45 : decode cX2_sendRoughly 45 = .ok (.iconst 1, 1) := by decide +kernel
theorem dX2_sendRoughly_46 : decode cX2_sendRoughly 46 = .ok (.iadd, 1) := by decide +kernel
theorem dX2_sendRoughly_47 : decode cX2_sendRoughly 47 = .ok (.iastore, 1) := by decide +kernel
theorem dX2_sendRoughly_48 : decode cX2_sendRoughly 48 = .ok (.iconst 2, 1) := by decide +kernel
theorem dX2_sendRoughly_49 : decode cX2_sendRoughly 49 = .ok (.ireturn, 1) := by decide +kernel
theorem dX2_settleChanges_0 : decode cX2_settleChanges 0 = .ok (.iconst 0, 1) := by decide +kernel
theorem dX2_settleChanges_1 : decode cX2_settleChanges 1 = .ok (.istore_n 1, 1) := by decide +kernel
theorem dX2_settleChanges_2 : decode cX2_settleChanges 2 = .ok (.iload_n 1, 1) := by decide +kernel
theorem dX2_settleChanges_3 : decode cX2_settleChanges 3 = .ok (.bipush 48, 2) := by decide +kernel
theorem dX2_settleChanges_5 : decode cX2_settleChanges 5 = .ok (.if_icmp .ge 27, 3) := by decide +kernel
theorem dX2_settleChanges_8 : decode cX2_settleChanges 8 = .ok (.aload_n 0, 1) := by decide +kernel
theorem dX2_settleChanges_9 : decode cX2_settleChanges 9 = .ok (.getfield 21, 3) := by decide +kernel
theorem dX2_settleChanges_12 : decode cX2_settleChanges 12 = .ok (.iload_n 1, 1) := by decide +kernel
theorem dX2_settleChanges_13 : decode cX2_settleChanges 13 = .ok (.aload_n 0, 1) := by decide +kernel
theorem dX2_settleChanges_14 : decode cX2_settleChanges 14 = .ok (.getfield 21, 3) := by decide +kernel
theorem dX2_settleChanges_17 : decode cX2_settleChanges 17 = .ok (.iload_n 1, 1) := by decide +kernel
theorem dX2_settleChanges_18 : decode cX2_settleChanges 18 = .ok (.iaload, 1) := by decide +kernel
theorem dX2_settleChanges_19 : decode cX2_settleChanges 19 = .ok (.iconst 1, 1) := by decide +kernel
theorem dX2_settleChanges_20 : decode cX2_settleChanges 20 = .ok (.ishl, 1) := by decide +kernel
theorem dX2_settleChanges_21 : decode cX2_settleChanges 21 = .ok (.sipush 255, 3) := by decide +kernel
theorem dX2_settleChanges_24 : decode cX2_settleChanges 24 = .ok (.iand, 1) := by decide +kernel
theorem dX2_settleChanges_25 : decode cX2_settleChanges 25 = .ok (.iastore, 1) := by decide +kernel
theorem dX2_settleChanges_26 : decode cX2_settleChanges 26 = .ok (.iinc 1 1, 3) := by decide +kernel
theorem dX2_settleChanges_29 : decode cX2_settleChanges 29 = .ok (.goto (-27), 3) := by decide +kernel
theorem dX2_settleChanges_32 : decode cX2_settleChanges 32 = .ok (.return_, 1) := by decide +kernel
theorem dX3_init_0 : decode cX3_init 0 = .ok (.aload_n 0, 1) := by decide +kernel
theorem dX3_init_1 : decode cX3_init 1 = .ok (.invokespecial 1, 3) := by decide +kernel
theorem dX3_init_4 : decode cX3_init 4 = .ok (.aload_n 0, 1) := by decide +kernel
theorem dX3_init_5 : decode cX3_init 5 = .ok (.new 7, 3) := by decide +kernel
theorem dX3_init_8 : decode cX3_init 8 = .ok (.dup, 1) := by decide +kernel
theorem dX3_init_9 : decode cX3_init 9 = .ok (.invokespecial 9, 3) := by decide +kernel
theorem dX3_init_12 : decode cX3_init 12 = .ok (.putfield 10, 3) := by decide +kernel
theorem dX3_init_15 : decode cX3_init 15 = .ok (.aload_n 0, 1) := by decide +kernel
theorem dX3_init_16 : decode cX3_init 16 = .ok (.new 7, 3) := by decide +kernel
theorem dX3_init_19 : decode cX3_init 19 = .ok (.dup, 1) := by decide +kernel
theorem dX3_init_20 : decode cX3_init 20 = .ok (.invokespecial 9, 3) := by decide +kernel
theorem dX3_init_23 : decode cX3_init 23 = .ok (.putfield 16, 3) := by decide +kernel
theorem dX3_init_26 : decode cX3_init 26 = .ok (.return_, 1) := by decide +kernel
theorem dX3_fill_0 : decode cX3_fill 0 = .ok (.iload_n 1, 1) := by decide +kernel
theorem dX3_fill_1 : decode cX3_fill 1 = .ok (.iload_n 2, 1) := by decide +kernel
theorem dX3_fill_2 : decode cX3_fill 2 = .ok (.iload_n 3, 1) := by decide +kernel
theorem dX3_fill_3 : decode cX3_fill 3 = .ok (.iload 4, 2) := by decide +kernel
theorem dX3_fill_5 : decode cX3_fill 5 = .ok (.invokestatic 19, 3) := by decide +kernel
theorem dX3_fill_8 : decode cX3_fill 8 = .ok (.iload 5, 2) := by decide +kernel
theorem dX3_fill_10 : decode cX3_fill 10 = .ok (.ifCond .lt 11, 3) := by decide +kernel
theorem dX3_fill_13 : decode cX3_fill 13 = .ok (.iload 5, 2) := by decide +kernel
theorem dX3_fill_15 : decode cX3_fill 15 = .ok (.sipush 255, 3) := by decide +kernel
theorem dX3_fill_18 : decode cX3_fill 18 = .ok (.if_icmp .le 13, 3) := by decide +kernel
theorem dX3_fill_21 : decode cX3_fill 21 = .ok (.new 23, 3) := by decide +kernel
theorem dX3_fill_24 : decode cX3_fill 24 = .ok (.dup, 1) := by decide +kernel
theorem dX3_fill_25 : decode cX3_fill 25 = .ok (.ldc 25, 2) := by decide +kernel
theorem dX3_fill_27 : decode cX3_fill 27 = .ok (.invokespecial 27, 3) := by decide +kernel
theorem dX3_fill_30 : decode cX3_fill 30 = .ok (.athrow, 1) := by decide +kernel
theorem dX3_fill_31 : decode cX3_fill 31 = .ok (.aload_n 0, 1) := by decide +kernel
theorem dX3_fill_32 : decode cX3_fill 32 = .ok (.getfield 10, 3) := by decide +kernel
theorem dX3_fill_35 : decode cX3_fill 35 = .ok (.iload_n 1, 1) := by decide +kernel
theorem dX3_fill_36 : decode cX3_fill 36 = .ok (.iload_n 2, 1) := by decide +kernel
theorem dX3_fill_37 : decode cX3_fill 37 = .ok (.iload_n 3, 1) := by decide +kernel
theorem dX3_fill_38 : decode cX3_fill 38 = .ok (.iload 4, 2) := by decide +kernel
theorem dX3_fill_40 : decode cX3_fill 40 = .ok (.iload 5, 2) := by decide +kernel
theorem dX3_fill_42 : decode cX3_fill 42 = .ok (.invokevirtual 30, 3) := by decide +kernel
theorem dX3_fill_45 : decode cX3_fill 45 = .ok (.aload_n 0, 1) := by decide +kernel
theorem dX3_fill_46 : decode cX3_fill 46 = .ok (.getfield 10, 3) := by decide +kernel
theorem dX3_fill_49 : decode cX3_fill 49 = .ok (.invokevirtual 34, 3) := by decide +kernel
theorem dX3_fill_52 : decode cX3_fill 52 = .ok (.ireturn, 1) := by decide +kernel
theorem dX3_move_0 : decode cX3_move 0 = .ok (.iload_n 1, 1) := by decide +kernel
theorem dX3_move_1 : decode cX3_move 1 = .ok (.iload_n 2, 1) := by decide +kernel
theorem dX3_move_2 : decode cX3_move 2 = .ok (.iload_n 3, 1) := by decide +kernel
theorem dX3_move_3 : decode cX3_move 3 = .ok (.iload 4, 2) := by decide +kernel
theorem dX3_move_5 : decode cX3_move 5 = .ok (.invokestatic 19, 3) := by decide +kernel
theorem dX3_move_8 : decode cX3_move 8 = .ok (.iload 5, 2) := by decide +kernel
theorem dX3_move_10 : decode cX3_move 10 = .ok (.iload 6, 2) := by decide +kernel
theorem dX3_move_12 : decode cX3_move 12 = .ok (.iload_n 3, 1) := by decide +kernel
theorem dX3_move_13 : decode cX3_move 13 = .ok (.iload 4, 2) := by decide +kernel
theorem dX3_move_15 : decode cX3_move 15 = .ok (.invokestatic 19, 3) := by decide +kernel
theorem dX3_move_18 : decode cX3_move 18 = .ok (.iload_n 1, 1) := by decide +kernel
theorem dX3_move_19 : decode cX3_move 19 = .ok (.iload 5, 2) := by decide +kernel
theorem dX3_move_21 : decode cX3_move 21 = .ok (.if_icmp .ne 19, 3) := by decide +kernel
theorem dX3_move_24 : decode cX3_move 24 = .ok (.iload_n 2, 1) := by decide +kernel
theorem dX3_move_25 : decode cX3_move 25 = .ok (.iload 6, 2) := by decide +kernel
theorem dX3_move_27 : decode cX3_move 27 = .ok (.if_icmp .ne 13, 3) := by decide +kernel
theorem dX3_move_30 : decode cX3_move 30 = .ok (.new 23, 3) := by decide +kernel
theorem dX3_move_33 : decode cX3_move 33 = .ok (.dup, 1) := by decide +kernel
theorem dX3_move_34 : decode cX3_move 34 = .ok (.ldc 38, 2) := by decide +kernel
theorem dX3_move_36 : decode cX3_move 36 = .ok (.invokespecial 27, 3) := by decide +kernel
theorem dX3_move_39 : decode cX3_move 39 = .ok (.athrow, 1) := by decide +kernel
theorem dX3_move_40 : decode cX3_move 40 = .ok (.aload_n 0, 1) := by decide +kernel
theorem dX3_move_41 : decode cX3_move 41 = .ok (.getfield 10, 3) := by decide +kernel
theorem dX3_move_44 : decode cX3_move 44 = .ok (.iload_n 1, 1) := by decide +kernel
theorem dX3_move_45 : decode cX3_move 45 = .ok (.iload_n 2, 1) := by decide +kernel
theorem dX3_move_46 : decode cX3_move 46 = .ok (.iload_n 3, 1) := by decide +kernel
theorem dX3_move_47 : decode cX3_move 47 = .ok (.iload 4, 2) := by decide +kernel
theorem dX3_move_49 : decode cX3_move 49 = .ok (.iload 5, 2) := by decide +kernel
theorem dX3_move_51 : decode cX3_move 51 = .ok (.iload 6, 2) := by decide +kernel
theorem dX3_move_53 : decode cX3_move 53 = .ok (.invokevirtual 40, 3) := by decide +kernel
theorem dX3_move_56 : decode cX3_move 56 = .ok (.aload_n 0, 1) := by decide +kernel
theorem dX3_move_57 : decode cX3_move 57 = .ok (.getfield 10, 3) := by decide +kernel
theorem dX3_move_60 : decode cX3_move 60 = .ok (.getfield 44, 3) := by decide +kernel
theorem dX3_move_63 : decode cX3_move 63 = .ok (.ireturn, 1) := by decide +kernel
theorem dX3_look_0 : decode cX3_look 0 = .ok (.iload_n 1, 1) := by decide +kernel
theorem dX3_look_1 : decode cX3_look 1 = .ok (.iload_n 2, 1) := by decide +kernel
theorem dX3_look_2 : decode cX3_look 2 = .ok (.invokestatic 48, 3) := by decide +kernel
theorem dX3_look_5 : decode cX3_look 5 = .ok (.aload_n 0, 1) := by decide +kernel
theorem dX3_look_6 : decode cX3_look 6 = .ok (.getfield 10, 3) := by decide +kernel
theorem dX3_look_9 : decode cX3_look 9 = .ok (.getfield 52, 3) := by decide +kernel
theorem dX3_look_12 : decode cX3_look 12 = .ok (.istore_n 3, 1) := by decide +kernel
theorem dX3_look_13 : decode cX3_look 13 = .ok (.aload_n 0, 1) := by decide +kernel
theorem dX3_look_14 : decode cX3_look 14 = .ok (.getfield 10, 3) := by decide +kernel
theorem dX3_look_17 : decode cX3_look 17 = .ok (.iload_n 1, 1) := by decide +kernel
theorem dX3_look_18 : decode cX3_look 18 = .ok (.iload_n 2, 1) := by decide +kernel
theorem dX3_look_19 : decode cX3_look 19 = .ok (.invokestatic 55, 3) := by decide +kernel
theorem dX3_look_22 : decode cX3_look 22 = .ok (.putfield 52, 3) := by decide +kernel
theorem dX3_look_25 : decode cX3_look 25 = .ok (.iload_n 3, 1) := by decide +kernel
theorem dX3_look_26 : decode cX3_look 26 = .ok (.ireturn, 1) := by decide +kernel
theorem dX3_step_0 : decode cX3_step 0 = .ok (.iload_n 1, 1) := by decide +kernel
theorem dX3_step_1 : decode cX3_step 1 = .ok (.invokestatic 59, 3) := by decide +kernel
theorem dX3_step_4 : decode cX3_step 4 = .ok (.aload_n 0, 1) := by decide +kernel
theorem dX3_step_5 : decode cX3_step 5 = .ok (.getfield 10, 3) := by decide +kernel
theorem dX3_step_8 : decode cX3_step 8 = .ok (.iload_n 1, 1) := by decide +kernel
theorem dX3_step_9 : decode cX3_step 9 = .ok (.invokevirtual 63, 3) := by decide +kernel
theorem dX3_step_12 : decode cX3_step 12 = .ok (.ireturn, 1) := by decide +kernel
theorem dX3_time_0 : decode cX3_time 0 = .ok (.aload_n 0, 1) := by decide +kernel
theorem dX3_time_1 : decode cX3_time 1 = .ok (.getfield 10, 3) := by decide +kernel
theorem dX3_time_4 : decode cX3_time 4 = .ok (.getfield 67, 3) := by decide +kernel
theorem dX3_time_7 : decode cX3_time 7 = .ok (.ireturn, 1) := by decide +kernel
theorem dX3_near_0 : decode cX3_near 0 = .ok (.iload_n 1, 1) := by decide +kernel
theorem dX3_near_1 : decode cX3_near 1 = .ok (.iload_n 2, 1) := by decide +kernel
theorem dX3_near_2 : decode cX3_near 2 = .ok (.invokestatic 48, 3) := by decide +kernel
theorem dX3_near_5 : decode cX3_near 5 = .ok (.aload_n 0, 1) := by decide +kernel
theorem dX3_near_6 : decode cX3_near 6 = .ok (.getfield 10, 3) := by decide +kernel
theorem dX3_near_9 : decode cX3_near 9 = .ok (.getfield 70, 3) := by decide +kernel
theorem dX3_near_12 : decode cX3_near 12 = .ok (.iload_n 1, 1) := by decide +kernel
theorem dX3_near_13 : decode cX3_near 13 = .ok (.iload_n 2, 1) := by decide +kernel
theorem dX3_near_14 : decode cX3_near 14 = .ok (.invokestatic 55, 3) := by decide +kernel
theorem dX3_near_17 : decode cX3_near 17 = .ok (.iaload, 1) := by decide +kernel
theorem dX3_near_18 : decode cX3_near 18 = .ok (.ireturn, 1) := by decide +kernel
theorem dX3_far_0 : decode cX3_far 0 = .ok (.iload_n 1, 1) := by decide +kernel
theorem dX3_far_1 : decode cX3_far 1 = .ok (.iload_n 2, 1) := by decide +kernel
theorem dX3_far_2 : decode cX3_far 2 = .ok (.invokestatic 48, 3) := by decide +kernel
theorem dX3_far_5 : decode cX3_far 5 = .ok (.aload_n 0, 1) := by decide +kernel
theorem dX3_far_6 : decode cX3_far 6 = .ok (.getfield 10, 3) := by decide +kernel
theorem dX3_far_9 : decode cX3_far 9 = .ok (.getfield 74, 3) := by decide +kernel
theorem dX3_far_12 : decode cX3_far 12 = .ok (.iload_n 1, 1) := by decide +kernel
theorem dX3_far_13 : decode cX3_far 13 = .ok (.iload_n 2, 1) := by decide +kernel
theorem dX3_far_14 : decode cX3_far 14 = .ok (.invokestatic 55, 3) := by decide +kernel
theorem dX3_far_17 : decode cX3_far 17 = .ok (.iaload, 1) := by decide +kernel
theorem dX3_far_18 : decode cX3_far 18 = .ok (.ireturn, 1) := by decide +kernel
theorem dX3_kind_0 : decode cX3_kind 0 = .ok (.iload_n 1, 1) := by decide +kernel
theorem dX3_kind_1 : decode cX3_kind 1 = .ok (.iload_n 2, 1) := by decide +kernel
theorem dX3_kind_2 : decode cX3_kind 2 = .ok (.invokestatic 48, 3) := by decide +kernel
theorem dX3_kind_5 : decode cX3_kind 5 = .ok (.aload_n 0, 1) := by decide +kernel
theorem dX3_kind_6 : decode cX3_kind 6 = .ok (.getfield 10, 3) := by decide +kernel
theorem dX3_kind_9 : decode cX3_kind 9 = .ok (.iload_n 1, 1) := by decide +kernel
theorem dX3_kind_10 : decode cX3_kind 10 = .ok (.iload_n 2, 1) := by decide +kernel
theorem dX3_kind_11 : decode cX3_kind 11 = .ok (.invokestatic 55, 3) := by decide +kernel
theorem dX3_kind_14 : decode cX3_kind 14 = .ok (.invokevirtual 77, 3) := by decide +kernel
theorem dX3_kind_17 : decode cX3_kind 17 = .ok (.ireturn, 1) := by decide +kernel
theorem dX3_since_0 : decode cX3_since 0 = .ok (.iload_n 1, 1) := by decide +kernel
theorem dX3_since_1 : decode cX3_since 1 = .ok (.iload_n 2, 1) := by decide +kernel
theorem dX3_since_2 : decode cX3_since 2 = .ok (.invokestatic 48, 3) := by decide +kernel
theorem dX3_since_5 : decode cX3_since 5 = .ok (.aload_n 0, 1) := by decide +kernel
theorem dX3_since_6 : decode cX3_since 6 = .ok (.getfield 10, 3) := by decide +kernel
theorem dX3_since_9 : decode cX3_since 9 = .ok (.getfield 80, 3) := by decide +kernel
theorem dX3_since_12 : decode cX3_since 12 = .ok (.iload_n 1, 1) := by decide +kernel
theorem dX3_since_13 : decode cX3_since 13 = .ok (.iload_n 2, 1) := by decide +kernel
theorem dX3_since_14 : decode cX3_since 14 = .ok (.invokestatic 55, 3) := by decide +kernel
theorem dX3_since_17 : decode cX3_since 17 = .ok (.iaload, 1) := by decide +kernel
theorem dX3_since_18 : decode cX3_since 18 = .ok (.ireturn, 1) := by decide +kernel
theorem dX3_unlike_0 : decode cX3_unlike 0 = .ok (.aload_n 0, 1) := by decide +kernel
theorem dX3_unlike_1 : decode cX3_unlike 1 = .ok (.getfield 10, 3) := by decide +kernel
theorem dX3_unlike_4 : decode cX3_unlike 4 = .ok (.invokevirtual 83, 3) := by decide +kernel
theorem dX3_unlike_7 : decode cX3_unlike 7 = .ok (.lreturn, 1) := by decide +kernel
theorem dX3_rough_0 : decode cX3_rough 0 = .ok (.aload_n 0, 1) := by decide +kernel
theorem dX3_rough_1 : decode cX3_rough 1 = .ok (.getfield 10, 3) := by decide +kernel
theorem dX3_rough_4 : decode cX3_rough 4 = .ok (.invokevirtual 87, 3) := by decide +kernel
theorem dX3_rough_7 : decode cX3_rough 7 = .ok (.ireturn, 1) := by decide +kernel
theorem dX3_waiting_0 : decode cX3_waiting 0 = .ok (.aload_n 0, 1) := by decide +kernel
theorem dX3_waiting_1 : decode cX3_waiting 1 = .ok (.getfield 10, 3) := by decide +kernel
theorem dX3_waiting_4 : decode cX3_waiting 4 = .ok (.getfield 44, 3) := by decide +kernel
theorem dX3_waiting_7 : decode cX3_waiting 7 = .ok (.ireturn, 1) := by decide +kernel
theorem dX3_known_0 : decode cX3_known 0 = .ok (.iload_n 1, 1) := by decide +kernel
theorem dX3_known_1 : decode cX3_known 1 = .ok (.ifCond .lt 17, 3) := by decide +kernel
theorem dX3_known_4 : decode cX3_known 4 = .ok (.iload_n 1, 1) := by decide +kernel
theorem dX3_known_5 : decode cX3_known 5 = .ok (.aload_n 0, 1) := by decide +kernel
theorem dX3_known_6 : decode cX3_known 6 = .ok (.getfield 10, 3) := by decide +kernel
theorem dX3_known_9 : decode cX3_known 9 = .ok (.getfield 90, 3) := by decide +kernel
theorem dX3_known_12 : decode cX3_known 12 = .ok (.getfield 94, 3) := by decide +kernel
theorem dX3_known_15 : decode cX3_known 15 = .ok (.if_icmp .lt 13, 3) := by decide +kernel
theorem dX3_known_18 : decode cX3_known 18 = .ok (.new 99, 3) := by decide +kernel
theorem dX3_known_21 : decode cX3_known 21 = .ok (.dup, 1) := by decide +kernel
theorem dX3_known_22 : decode cX3_known 22 = .ok (.ldc 101, 2) := by decide +kernel
theorem dX3_known_24 : decode cX3_known 24 = .ok (.invokespecial 103, 3) := by decide +kernel
theorem dX3_known_27 : decode cX3_known 27 = .ok (.athrow, 1) := by decide +kernel
theorem dX3_known_28 : decode cX3_known 28 = .ok (.aload_n 0, 1) := by decide +kernel
theorem dX3_known_29 : decode cX3_known 29 = .ok (.getfield 10, 3) := by decide +kernel
theorem dX3_known_32 : decode cX3_known 32 = .ok (.getfield 90, 3) := by decide +kernel
theorem dX3_known_35 : decode cX3_known 35 = .ok (.getfield 104, 3) := by decide +kernel
theorem dX3_known_38 : decode cX3_known 38 = .ok (.iload_n 1, 1) := by decide +kernel
theorem dX3_known_39 : decode cX3_known 39 = .ok (.iaload, 1) := by decide +kernel
theorem dX3_known_40 : decode cX3_known 40 = .ok (.ireturn, 1) := by decide +kernel
theorem dX3_knownPictures_0 : decode cX3_knownPictures 0 = .ok (.aload_n 0, 1) := by decide +kernel
theorem dX3_knownPictures_1 : decode cX3_knownPictures 1 = .ok (.getfield 10, 3) := by decide +kernel
theorem dX3_knownPictures_4 : decode cX3_knownPictures 4 = .ok (.getfield 90, 3) := by decide +kernel
theorem dX3_knownPictures_7 : decode cX3_knownPictures 7 = .ok (.getfield 94, 3) := by decide +kernel
theorem dX3_knownPictures_10 : decode cX3_knownPictures 10 = .ok (.ireturn, 1) := by decide +kernel
theorem dX3_sent_0 : decode cX3_sent 0 = .ok (.iload_n 1, 1) := by decide +kernel
theorem dX3_sent_1 : decode cX3_sent 1 = .ok (.ifCond .lt 8, 3) := by decide +kernel
theorem dX3_sent_4 : decode cX3_sent 4 = .ok (.iload_n 1, 1) := by decide +kernel
theorem dX3_sent_5 : decode cX3_sent 5 = .ok (.iconst 4, 1) := by decide +kernel
theorem dX3_sent_6 : decode cX3_sent 6 = .ok (.if_icmp .lt 13, 3) := by decide +kernel
theorem dX3_sent_9 : decode cX3_sent 9 = .ok (.new 23, 3) := by decide +kernel
theorem dX3_sent_12 : decode cX3_sent 12 = .ok (.dup, 1) := by decide +kernel
theorem dX3_sent_13 : decode cX3_sent 13 = .ok (.ldc 107, 2) := by decide +kernel
theorem dX3_sent_15 : decode cX3_sent 15 = .ok (.invokespecial 27, 3) := by decide +kernel
theorem dX3_sent_18 : decode cX3_sent 18 = .ok (.athrow, 1) := by decide +kernel
theorem dX3_sent_19 : decode cX3_sent 19 = .ok (.aload_n 0, 1) := by decide +kernel
theorem dX3_sent_20 : decode cX3_sent 20 = .ok (.getfield 10, 3) := by decide +kernel
theorem dX3_sent_23 : decode cX3_sent 23 = .ok (.getfield 109, 3) := by decide +kernel
theorem dX3_sent_26 : decode cX3_sent 26 = .ok (.iload_n 1, 1) := by decide +kernel
theorem dX3_sent_27 : decode cX3_sent 27 = .ok (.iaload, 1) := by decide +kernel
theorem dX3_sent_28 : decode cX3_sent 28 = .ok (.ireturn, 1) := by decide +kernel
theorem dX3_used_0 : decode cX3_used 0 = .ok (.aload_n 0, 1) := by decide +kernel
theorem dX3_used_1 : decode cX3_used 1 = .ok (.getfield 10, 3) := by decide +kernel
theorem dX3_used_4 : decode cX3_used 4 = .ok (.getfield 112, 3) := by decide +kernel
theorem dX3_used_7 : decode cX3_used 7 = .ok (.ireturn, 1) := by decide +kernel
theorem dX3_anew_0 : decode cX3_anew 0 = .ok (.iconst 0, 1) := by decide +kernel
theorem dX3_anew_1 : decode cX3_anew 1 = .ok (.istore_n 1, 1) := by decide +kernel
theorem dX3_anew_2 : decode cX3_anew 2 = .ok (.iconst 0, 1) := by decide +kernel
theorem dX3_anew_3 : decode cX3_anew 3 = .ok (.istore_n 2, 1) := by decide +kernel
theorem dX3_anew_4 : decode cX3_anew 4 = .ok (.iload_n 2, 1) := by decide +kernel
theorem dX3_anew_5 : decode cX3_anew 5 = .ok (.bipush 48, 2) := by decide +kernel
theorem dX3_anew_7 : decode cX3_anew 7 = .ok (.if_icmp .ge 24, 3) := by decide +kernel
theorem dX3_anew_10 : decode cX3_anew 10 = .ok (.iload_n 1, 1) := by decide +kernel
theorem dX3_anew_11 : decode cX3_anew 11 = .ok (.aload_n 0, 1) := by decide +kernel
theorem dX3_anew_12 : decode cX3_anew 12 = .ok (.getfield 10, 3) := by decide +kernel
theorem dX3_anew_15 : decode cX3_anew 15 = .ok (.getfield 70, 3) := by decide +kernel
theorem dX3_anew_18 : decode cX3_anew 18 = .ok (.iload_n 2, 1) := by decide +kernel
theorem dX3_anew_19 : decode cX3_anew 19 = .ok (.iaload, 1) := by decide +kernel
theorem dX3_anew_20 : decode cX3_anew 20 = .ok (.invokestatic 115, 3) := by decide +kernel
theorem dX3_anew_23 : decode cX3_anew 23 = .ok (.iadd, 1) := by decide +kernel
theorem dX3_anew_24 : decode cX3_anew 24 = .ok (.istore_n 1, 1) := by decide +kernel
theorem dX3_anew_25 : decode cX3_anew 25 = .ok (.iinc 2 1, 3) := by decide +kernel
theorem dX3_anew_28 : decode cX3_anew 28 = .ok (.goto (-24), 3) := by decide +kernel
theorem dX3_anew_31 : decode cX3_anew 31 = .ok (.iload_n 1, 1) := by decide +kernel
theorem dX3_anew_32 : decode cX3_anew 32 = .ok (.ireturn, 1) := by decide +kernel
theorem dX3_stepsToGo_0 : decode cX3_stepsToGo 0 = .ok (.iload_n 1, 1) := by decide +kernel
theorem dX3_stepsToGo_1 : decode cX3_stepsToGo 1 = .ok (.invokestatic 59, 3) := by decide +kernel
theorem dX3_stepsToGo_4 : decode cX3_stepsToGo 4 = .ok (.aload_n 0, 1) := by decide +kernel
theorem dX3_stepsToGo_5 : decode cX3_stepsToGo 5 = .ok (.getfield 16, 3) := by decide +kernel
theorem dX3_stepsToGo_8 : decode cX3_stepsToGo 8 = .ok (.aload_n 0, 1) := by decide +kernel
theorem dX3_stepsToGo_9 : decode cX3_stepsToGo 9 = .ok (.getfield 10, 3) := by decide +kernel
theorem dX3_stepsToGo_12 : decode cX3_stepsToGo 12 = .ok (.invokevirtual 118, 3) := by decide +kernel
theorem dX3_stepsToGo_15 : decode cX3_stepsToGo 15 = .ok (.iconst 0, 1) := by decide +kernel
theorem dX3_stepsToGo_16 : decode cX3_stepsToGo 16 = .ok (.istore_n 2, 1) := by decide +kernel
theorem dX3_stepsToGo_17 : decode cX3_stepsToGo 17 = .ok (.iload_n 2, 1) := by decide +kernel
theorem dX3_stepsToGo_18 : decode cX3_stepsToGo 18 = .ok (.bipush 100, 2) := by decide +kernel
theorem dX3_stepsToGo_20 : decode cX3_stepsToGo 20 = .ok (.if_icmp .ge 48, 3) := by decide +kernel
theorem dX3_stepsToGo_23 : decode cX3_stepsToGo 23 = .ok (.aload_n 0, 1) := by decide +kernel
theorem dX3_stepsToGo_24 : decode cX3_stepsToGo 24 = .ok (.getfield 16, 3) := by decide +kernel
theorem dX3_stepsToGo_27 : decode cX3_stepsToGo 27 = .ok (.invokevirtual 122, 3) := by decide +kernel
theorem dX3_stepsToGo_30 : decode cX3_stepsToGo 30 = .ok (.ifCond .ne 38, 3) := by decide +kernel
theorem dX3_stepsToGo_33 : decode cX3_stepsToGo 33 = .ok (.aload_n 0, 1) := by decide +kernel
theorem dX3_stepsToGo_34 : decode cX3_stepsToGo 34 = .ok (.getfield 16, 3) := by decide +kernel
theorem dX3_stepsToGo_37 : decode cX3_stepsToGo 37 = .ok (.invokevirtual 126, 3) := by decide +kernel
theorem dX3_stepsToGo_40 : decode cX3_stepsToGo 40 = .ok (.istore_n 3, 1) := by decide +kernel
theorem dX3_stepsToGo_41 : decode cX3_stepsToGo 41 = .ok (.aload_n 0, 1) := by decide +kernel
theorem dX3_stepsToGo_42 : decode cX3_stepsToGo 42 = .ok (.getfield 16, 3) := by decide +kernel
theorem dX3_stepsToGo_45 : decode cX3_stepsToGo 45 = .ok (.iload_n 1, 1) := by decide +kernel
theorem dX3_stepsToGo_46 : decode cX3_stepsToGo 46 = .ok (.invokevirtual 63, 3) := by decide +kernel
theorem dX3_stepsToGo_49 : decode cX3_stepsToGo 49 = .ok (.istore 4, 2) := by decide +kernel
theorem dX3_stepsToGo_51 : decode cX3_stepsToGo 51 = .ok (.iload 4, 2) := by decide +kernel
theorem dX3_stepsToGo_53 : decode cX3_stepsToGo 53 = .ok (.ifCond .ne 9, 3) := by decide +kernel
theorem dX3_stepsToGo_56 : decode cX3_stepsToGo 56 = .ok (.iload_n 3, 1) := by decide +kernel
theorem dX3_stepsToGo_57 : decode cX3_stepsToGo 57 = .ok (.ifCond .ne 5, 3) := by decide +kernel
theorem dX3_stepsToGo_60 : decode cX3_stepsToGo 60 = .ok (.iconst (-1), 1) := by decide +kernel
theorem dX3_stepsToGo_61 : decode cX3_stepsToGo 61 = .ok (.ireturn, 1) := by decide +kernel
theorem dX3_stepsToGo_62 : decode cX3_stepsToGo 62 = .ok (.iinc 2 1, 3) := by decide +kernel
theorem dX3_stepsToGo_65 : decode cX3_stepsToGo 65 = .ok (.goto (-48), 3) := by decide +kernel
theorem dX3_stepsToGo_68 : decode cX3_stepsToGo 68 = .ok (.aload_n 0, 1) := by decide +kernel
theorem dX3_stepsToGo_69 : decode cX3_stepsToGo 69 = .ok (.getfield 16, 3) := by decide +kernel
theorem dX3_stepsToGo_72 : decode cX3_stepsToGo 72 = .ok (.invokevirtual 122, 3) := by decide +kernel
theorem dX3_stepsToGo_75 : decode cX3_stepsToGo 75 = .ok (.ifCond .eq 7, 3) := by decide +kernel
theorem dX3_stepsToGo_78 : decode cX3_stepsToGo 78 = .ok (.iload_n 2, 1) := by decide +kernel
theorem dX3_stepsToGo_79 : decode cX3_stepsToGo 79 = .ok (.goto 4, 3) := by decide +kernel
theorem dX3_stepsToGo_82 : decode cX3_stepsToGo 82 = .ok (.iconst (-1), 1) := by decide +kernel
theorem dX3_stepsToGo_83 : decode cX3_stepsToGo 83 = .ok (.ireturn, 1) := by decide +kernel
theorem dX3_checkTile_0 : decode cX3_checkTile 0 = .ok (.iload_n 0, 1) := by decide +kernel
theorem dX3_checkTile_1 : decode cX3_checkTile 1 = .ok (.ifCond .lt 19, 3) := by decide +kernel
theorem dX3_checkTile_4 : decode cX3_checkTile 4 = .ok (.iload_n 0, 1) := by decide +kernel
theorem dX3_checkTile_5 : decode cX3_checkTile 5 = .ok (.bipush 8, 2) := by decide +kernel
theorem dX3_checkTile_7 : decode cX3_checkTile 7 = .ok (.if_icmp .ge 13, 3) := by decide +kernel
theorem dX3_checkTile_10 : decode cX3_checkTile 10 = .ok (.iload_n 1, 1) := by decide +kernel
theorem dX3_checkTile_11 : decode cX3_checkTile 11 = .ok (.ifCond .lt 9, 3) := by decide +kernel
theorem dX3_checkTile_14 : decode cX3_checkTile 14 = .ok (.iload_n 1, 1) := by decide +kernel
theorem dX3_checkTile_15 : decode cX3_checkTile 15 = .ok (.bipush 6, 2) := by decide +kernel
theorem dX3_checkTile_17 : decode cX3_checkTile 17 = .ok (.if_icmp .lt 13, 3) := by decide +kernel
theorem dX3_checkTile_20 : decode cX3_checkTile 20 = .ok (.new 99, 3) := by decide +kernel
theorem dX3_checkTile_23 : decode cX3_checkTile 23 = .ok (.dup, 1) := by decide +kernel
theorem dX3_checkTile_24 : decode cX3_checkTile 24 = .ok (.ldc 129, 2) := by decide +kernel
theorem dX3_checkTile_26 : decode cX3_checkTile 26 = .ok (.invokespecial 103, 3) := by decide +kernel
theorem dX3_checkTile_29 : decode cX3_checkTile 29 = .ok (.athrow, 1) := by decide +kernel
theorem dX3_checkTile_30 : decode cX3_checkTile 30 = .ok (.return_, 1) := by decide +kernel
theorem dX3_checkBlock_0 : decode cX3_checkBlock 0 = .ok (.iload_n 0, 1) := by decide +kernel
theorem dX3_checkBlock_1 : decode cX3_checkBlock 1 = .ok (.iload_n 1, 1) := by decide +kernel
theorem dX3_checkBlock_2 : decode cX3_checkBlock 2 = .ok (.invokestatic 48, 3) := by decide +kernel
theorem dX3_checkBlock_5 : decode cX3_checkBlock 5 = .ok (.iload_n 2, 1) := by decide +kernel
theorem dX3_checkBlock_6 : decode cX3_checkBlock 6 = .ok (.iconst 1, 1) := by decide +kernel
theorem dX3_checkBlock_7 : decode cX3_checkBlock 7 = .ok (.if_icmp .lt 24, 3) := by decide +kernel
theorem dX3_checkBlock_10 : decode cX3_checkBlock 10 = .ok (.iload_n 2, 1) := by decide +kernel
theorem dX3_checkBlock_11 : decode cX3_checkBlock 11 = .ok (.bipush 8, 2) := by decide +kernel
theorem dX3_checkBlock_13 : decode cX3_checkBlock 13 = .ok (.iload_n 0, 1) := by decide +kernel
theorem dX3_checkBlock_14 : decode cX3_checkBlock 14 = .ok (.isub, 1) := by decide +kernel
theorem dX3_checkBlock_15 : decode cX3_checkBlock 15 = .ok (.if_icmp .gt 16, 3) := by decide +kernel
theorem dX3_checkBlock_18 : decode cX3_checkBlock 18 = .ok (.iload_n 3, 1) := by decide +kernel
theorem dX3_checkBlock_19 : decode cX3_checkBlock 19 = .ok (.iconst 1, 1) := by decide +kernel
theorem dX3_checkBlock_20 : decode cX3_checkBlock 20 = .ok (.if_icmp .lt 11, 3) := by decide +kernel
theorem dX3_checkBlock_23 : decode cX3_checkBlock 23 = .ok (.iload_n 3, 1) := by decide +kernel
theorem dX3_checkBlock_24 : decode cX3_checkBlock 24 = .ok (.bipush 6, 2) := by decide +kernel
theorem dX3_checkBlock_26 : decode cX3_checkBlock 26 = .ok (.iload_n 1, 1) := by decide +kernel
theorem dX3_checkBlock_27 : decode cX3_checkBlock 27 = .ok (.isub, 1) := by decide +kernel
theorem dX3_checkBlock_28 : decode cX3_checkBlock 28 = .ok (.if_icmp .le 13, 3) := by decide +kernel
theorem dX3_checkBlock_31 : decode cX3_checkBlock 31 = .ok (.new 99, 3) := by decide +kernel
theorem dX3_checkBlock_34 : decode cX3_checkBlock 34 = .ok (.dup, 1) := by decide +kernel
theorem dX3_checkBlock_35 : decode cX3_checkBlock 35 = .ok (.ldc 131, 2) := by decide +kernel
theorem dX3_checkBlock_37 : decode cX3_checkBlock 37 = .ok (.invokespecial 103, 3) := by decide +kernel
theorem dX3_checkBlock_40 : decode cX3_checkBlock 40 = .ok (.athrow, 1) := by decide +kernel
theorem dX3_checkBlock_41 : decode cX3_checkBlock 41 = .ok (.return_, 1) := by decide +kernel
theorem dX3_checkBudget_0 : decode cX3_checkBudget 0 = .ok (.iload_n 0, 1) := by decide +kernel
theorem dX3_checkBudget_1 : decode cX3_checkBudget 1 = .ok (.ifCond .lt 10, 3) := by decide +kernel
theorem dX3_checkBudget_4 : decode cX3_checkBudget 4 = .ok (.iload_n 0, 1) := by decide +kernel
theorem dX3_checkBudget_5 : decode cX3_checkBudget 5 = .ok (.sipush 300, 3) := by decide +kernel
theorem dX3_checkBudget_8 : decode cX3_checkBudget 8 = .ok (.if_icmp .le 13, 3) := by decide +kernel
theorem dX3_checkBudget_11 : decode cX3_checkBudget 11 = .ok (.new 23, 3) := by decide +kernel
theorem dX3_checkBudget_14 : decode cX3_checkBudget 14 = .ok (.dup, 1) := by decide +kernel
theorem dX3_checkBudget_15 : decode cX3_checkBudget 15 = .ok (.ldc 133, 2) := by decide +kernel
theorem dX3_checkBudget_17 : decode cX3_checkBudget 17 = .ok (.invokespecial 27, 3) := by decide +kernel
theorem dX3_checkBudget_20 : decode cX3_checkBudget 20 = .ok (.athrow, 1) := by decide +kernel
theorem dX3_checkBudget_21 : decode cX3_checkBudget 21 = .ok (.return_, 1) := by decide +kernel
theorem dX3_tileAt_0 : decode cX3_tileAt 0 = .ok (.bipush 8, 2) := by decide +kernel
theorem dX3_tileAt_2 : decode cX3_tileAt 2 = .ok (.iload_n 1, 1) := by decide +kernel
theorem dX3_tileAt_3 : decode cX3_tileAt 3 = .ok (.imul, 1) := by decide +kernel
theorem dX3_tileAt_4 : decode cX3_tileAt 4 = .ok (.iload_n 0, 1) := by decide +kernel
theorem dX3_tileAt_5 : decode cX3_tileAt 5 = .ok (.iadd, 1) := by decide +kernel
theorem dX3_tileAt_6 : decode cX3_tileAt 6 = .ok (.ireturn, 1) := by decide +kernel
theorem dX3_wholeCost_0 : decode cX3_wholeCost 0 = .ok (.iload_n 0, 1) := by decide +kernel
theorem dX3_wholeCost_1 : decode cX3_wholeCost 1 = .ok (.bipush 64, 2) := by decide +kernel
theorem dX3_wholeCost_3 : decode cX3_wholeCost 3 = .ok (.if_icmp .ge 7, 3) := by decide +kernel
theorem dX3_wholeCost_6 : decode cX3_wholeCost 6 = .ok (.iconst 2, 1) := by decide +kernel
theorem dX3_wholeCost_7 : decode cX3_wholeCost 7 = .ok (.goto 5, 3) := by decide +kernel
theorem dX3_wholeCost_10 : decode cX3_wholeCost 10 = .ok (.bipush 6, 2) := by decide +kernel
theorem dX3_wholeCost_12 : decode cX3_wholeCost 12 = .ok (.ireturn, 1) := by decide +kernel
theorem dJ6_bitCount_0f7a4_0 : decode cJ6_bitCount_0f7a4 0 = .ok (.iload_n 0, 1) := by decide +kernel
theorem dJ6_bitCount_0f7a4_1 : decode cJ6_bitCount_0f7a4 1 = .ok (.iload_n 0, 1) := by decide +kernel
theorem dJ6_bitCount_0f7a4_2 : decode cJ6_bitCount_0f7a4 2 = .ok (.iconst 1, 1) := by decide +kernel
theorem dJ6_bitCount_0f7a4_3 : decode cJ6_bitCount_0f7a4 3 = .ok (.iushr, 1) := by decide +kernel
theorem dJ6_bitCount_0f7a4_4 : decode cJ6_bitCount_0f7a4 4 = .ok (.ldc_w 265, 3) := by decide +kernel
theorem dJ6_bitCount_0f7a4_7 : decode cJ6_bitCount_0f7a4 7 = .ok (.iand, 1) := by decide +kernel
theorem dJ6_bitCount_0f7a4_8 : decode cJ6_bitCount_0f7a4 8 = .ok (.isub, 1) := by decide +kernel
theorem dJ6_bitCount_0f7a4_9 : decode cJ6_bitCount_0f7a4 9 = .ok (.istore_n 0, 1) := by decide +kernel
theorem dJ6_bitCount_0f7a4_10 : decode cJ6_bitCount_0f7a4 10 = .ok (.iload_n 0, 1) := by decide +kernel
theorem dJ6_bitCount_0f7a4_11 : decode cJ6_bitCount_0f7a4 11 = .ok (.ldc_w 266, 3) := by decide +kernel
theorem dJ6_bitCount_0f7a4_14 : decode cJ6_bitCount_0f7a4 14 = .ok (.iand, 1) := by decide +kernel
theorem dJ6_bitCount_0f7a4_15 : decode cJ6_bitCount_0f7a4 15 = .ok (.iload_n 0, 1) := by decide +kernel
theorem dJ6_bitCount_0f7a4_16 : decode cJ6_bitCount_0f7a4 16 = .ok (.iconst 2, 1) := by decide +kernel
theorem dJ6_bitCount_0f7a4_17 : decode cJ6_bitCount_0f7a4 17 = .ok (.iushr, 1) := by decide +kernel
theorem dJ6_bitCount_0f7a4_18 : decode cJ6_bitCount_0f7a4 18 = .ok (.ldc_w 266, 3) := by decide +kernel
theorem dJ6_bitCount_0f7a4_21 : decode cJ6_bitCount_0f7a4 21 = .ok (.iand, 1) := by decide +kernel
theorem dJ6_bitCount_0f7a4_22 : decode cJ6_bitCount_0f7a4 22 = .ok (.iadd, 1) := by decide +kernel
theorem dJ6_bitCount_0f7a4_23 : decode cJ6_bitCount_0f7a4 23 = .ok (.istore_n 0, 1) := by decide +kernel
theorem dJ6_bitCount_0f7a4_24 : decode cJ6_bitCount_0f7a4 24 = .ok (.iload_n 0, 1) := by decide +kernel
theorem dJ6_bitCount_0f7a4_25 : decode cJ6_bitCount_0f7a4 25 = .ok (.iload_n 0, 1) := by decide +kernel
theorem dJ6_bitCount_0f7a4_26 : decode cJ6_bitCount_0f7a4 26 = .ok (.iconst 4, 1) := by decide +kernel
theorem dJ6_bitCount_0f7a4_27 : decode cJ6_bitCount_0f7a4 27 = .ok (.iushr, 1) := by decide +kernel
theorem dJ6_bitCount_0f7a4_28 : decode cJ6_bitCount_0f7a4 28 = .ok (.iadd, 1) := by decide +kernel
theorem dJ6_bitCount_0f7a4_29 : decode cJ6_bitCount_0f7a4 29 = .ok (.ldc_w 267, 3) := by decide +kernel
theorem dJ6_bitCount_0f7a4_32 : decode cJ6_bitCount_0f7a4 32 = .ok (.iand, 1) := by decide +kernel
theorem dJ6_bitCount_0f7a4_33 : decode cJ6_bitCount_0f7a4 33 = .ok (.istore_n 0, 1) := by decide +kernel
theorem dJ6_bitCount_0f7a4_34 : decode cJ6_bitCount_0f7a4 34 = .ok (.iload_n 0, 1) := by decide +kernel
theorem dJ6_bitCount_0f7a4_35 : decode cJ6_bitCount_0f7a4 35 = .ok (.iload_n 0, 1) := by decide +kernel
theorem dJ6_bitCount_0f7a4_36 : decode cJ6_bitCount_0f7a4 36 = .ok (.bipush 8, 2) := by decide +kernel
theorem dJ6_bitCount_0f7a4_38 : decode cJ6_bitCount_0f7a4 38 = .ok (.iushr, 1) := by decide +kernel
theorem dJ6_bitCount_0f7a4_39 : decode cJ6_bitCount_0f7a4 39 = .ok (.iadd, 1) := by decide +kernel
theorem dJ6_bitCount_0f7a4_40 : decode cJ6_bitCount_0f7a4 40 = .ok (.istore_n 0, 1) := by decide +kernel
theorem dJ6_bitCount_0f7a4_41 : decode cJ6_bitCount_0f7a4 41 = .ok (.iload_n 0, 1) := by decide +kernel
theorem dJ6_bitCount_0f7a4_42 : decode cJ6_bitCount_0f7a4 42 = .ok (.iload_n 0, 1) := by decide +kernel
theorem dJ6_bitCount_0f7a4_43 : decode cJ6_bitCount_0f7a4 43 = .ok (.bipush 16, 2) := by decide +kernel
theorem dJ6_bitCount_0f7a4_45 : decode cJ6_bitCount_0f7a4 45 = .ok (.iushr, 1) := by decide +kernel
theorem dJ6_bitCount_0f7a4_46 : decode cJ6_bitCount_0f7a4 46 = .ok (.iadd, 1) := by decide +kernel
theorem dJ6_bitCount_0f7a4_47 : decode cJ6_bitCount_0f7a4 47 = .ok (.istore_n 0, 1) := by decide +kernel
theorem dJ6_bitCount_0f7a4_48 : decode cJ6_bitCount_0f7a4 48 = .ok (.iload_n 0, 1) := by decide +kernel
theorem dJ6_bitCount_0f7a4_49 : decode cJ6_bitCount_0f7a4 49 = .ok (.bipush 63, 2) := by decide +kernel
theorem dJ6_bitCount_0f7a4_51 : decode cJ6_bitCount_0f7a4 51 = .ok (.iand, 1) := by decide +kernel
theorem dJ6_bitCount_0f7a4_52 : decode cJ6_bitCount_0f7a4 52 = .ok (.ireturn, 1) := by decide +kernel
theorem dJ13_bitCount_95d88_0 : decode cJ13_bitCount_95d88 0 = .ok (.lload_n 0, 1) := by decide +kernel
theorem dJ13_bitCount_95d88_1 : decode cJ13_bitCount_95d88 1 = .ok (.lload_n 0, 1) := by decide +kernel
theorem dJ13_bitCount_95d88_2 : decode cJ13_bitCount_95d88 2 = .ok (.iconst 1, 1) := by decide +kernel
theorem dJ13_bitCount_95d88_3 : decode cJ13_bitCount_95d88 3 = .ok (.lushr, 1) := by decide +kernel
theorem dJ13_bitCount_95d88_4 : decode cJ13_bitCount_95d88 4 = .ok (.ldc2_w 314, 3) := by decide +kernel
theorem dJ13_bitCount_95d88_7 : decode cJ13_bitCount_95d88 7 = .ok (.land, 1) := by decide +kernel
theorem dJ13_bitCount_95d88_8 : decode cJ13_bitCount_95d88 8 = .ok (.lsub, 1) := by decide +kernel
theorem dJ13_bitCount_95d88_9 : decode cJ13_bitCount_95d88 9 = .ok (.lstore_n 0, 1) := by decide +kernel
theorem dJ13_bitCount_95d88_10 : decode cJ13_bitCount_95d88 10 = .ok (.lload_n 0, 1) := by decide +kernel
theorem dJ13_bitCount_95d88_11 : decode cJ13_bitCount_95d88 11 = .ok (.ldc2_w 316, 3) := by decide +kernel
theorem dJ13_bitCount_95d88_14 : decode cJ13_bitCount_95d88 14 = .ok (.land, 1) := by decide +kernel
theorem dJ13_bitCount_95d88_15 : decode cJ13_bitCount_95d88 15 = .ok (.lload_n 0, 1) := by decide +kernel
theorem dJ13_bitCount_95d88_16 : decode cJ13_bitCount_95d88 16 = .ok (.iconst 2, 1) := by decide +kernel
theorem dJ13_bitCount_95d88_17 : decode cJ13_bitCount_95d88 17 = .ok (.lushr, 1) := by decide +kernel
theorem dJ13_bitCount_95d88_18 : decode cJ13_bitCount_95d88 18 = .ok (.ldc2_w 316, 3) := by decide +kernel
theorem dJ13_bitCount_95d88_21 : decode cJ13_bitCount_95d88 21 = .ok (.land, 1) := by decide +kernel
theorem dJ13_bitCount_95d88_22 : decode cJ13_bitCount_95d88 22 = .ok (.ladd, 1) := by decide +kernel
theorem dJ13_bitCount_95d88_23 : decode cJ13_bitCount_95d88 23 = .ok (.lstore_n 0, 1) := by decide +kernel
theorem dJ13_bitCount_95d88_24 : decode cJ13_bitCount_95d88 24 = .ok (.lload_n 0, 1) := by decide +kernel
theorem dJ13_bitCount_95d88_25 : decode cJ13_bitCount_95d88 25 = .ok (.lload_n 0, 1) := by decide +kernel
theorem dJ13_bitCount_95d88_26 : decode cJ13_bitCount_95d88 26 = .ok (.iconst 4, 1) := by decide +kernel
theorem dJ13_bitCount_95d88_27 : decode cJ13_bitCount_95d88 27 = .ok (.lushr, 1) := by decide +kernel
theorem dJ13_bitCount_95d88_28 : decode cJ13_bitCount_95d88 28 = .ok (.ladd, 1) := by decide +kernel
theorem dJ13_bitCount_95d88_29 : decode cJ13_bitCount_95d88 29 = .ok (.ldc2_w 318, 3) := by decide +kernel
theorem dJ13_bitCount_95d88_32 : decode cJ13_bitCount_95d88 32 = .ok (.land, 1) := by decide +kernel
theorem dJ13_bitCount_95d88_33 : decode cJ13_bitCount_95d88 33 = .ok (.lstore_n 0, 1) := by decide +kernel
theorem dJ13_bitCount_95d88_34 : decode cJ13_bitCount_95d88 34 = .ok (.lload_n 0, 1) := by decide +kernel
theorem dJ13_bitCount_95d88_35 : decode cJ13_bitCount_95d88 35 = .ok (.lload_n 0, 1) := by decide +kernel
theorem dJ13_bitCount_95d88_36 : decode cJ13_bitCount_95d88 36 = .ok (.bipush 8, 2) := by decide +kernel
theorem dJ13_bitCount_95d88_38 : decode cJ13_bitCount_95d88 38 = .ok (.lushr, 1) := by decide +kernel
theorem dJ13_bitCount_95d88_39 : decode cJ13_bitCount_95d88 39 = .ok (.ladd, 1) := by decide +kernel
theorem dJ13_bitCount_95d88_40 : decode cJ13_bitCount_95d88 40 = .ok (.lstore_n 0, 1) := by decide +kernel
theorem dJ13_bitCount_95d88_41 : decode cJ13_bitCount_95d88 41 = .ok (.lload_n 0, 1) := by decide +kernel
theorem dJ13_bitCount_95d88_42 : decode cJ13_bitCount_95d88 42 = .ok (.lload_n 0, 1) := by decide +kernel
theorem dJ13_bitCount_95d88_43 : decode cJ13_bitCount_95d88 43 = .ok (.bipush 16, 2) := by decide +kernel
theorem dJ13_bitCount_95d88_45 : decode cJ13_bitCount_95d88 45 = .ok (.lushr, 1) := by decide +kernel
theorem dJ13_bitCount_95d88_46 : decode cJ13_bitCount_95d88 46 = .ok (.ladd, 1) := by decide +kernel
theorem dJ13_bitCount_95d88_47 : decode cJ13_bitCount_95d88 47 = .ok (.lstore_n 0, 1) := by decide +kernel
theorem dJ13_bitCount_95d88_48 : decode cJ13_bitCount_95d88 48 = .ok (.lload_n 0, 1) := by decide +kernel
theorem dJ13_bitCount_95d88_49 : decode cJ13_bitCount_95d88 49 = .ok (.lload_n 0, 1) := by decide +kernel
theorem dJ13_bitCount_95d88_50 : decode cJ13_bitCount_95d88 50 = .ok (.bipush 32, 2) := by decide +kernel
theorem dJ13_bitCount_95d88_52 : decode cJ13_bitCount_95d88 52 = .ok (.lushr, 1) := by decide +kernel
theorem dJ13_bitCount_95d88_53 : decode cJ13_bitCount_95d88 53 = .ok (.ladd, 1) := by decide +kernel
theorem dJ13_bitCount_95d88_54 : decode cJ13_bitCount_95d88 54 = .ok (.lstore_n 0, 1) := by decide +kernel
theorem dJ13_bitCount_95d88_55 : decode cJ13_bitCount_95d88 55 = .ok (.lload_n 0, 1) := by decide +kernel
theorem dJ13_bitCount_95d88_56 : decode cJ13_bitCount_95d88 56 = .ok (.l2i, 1) := by decide +kernel
theorem dJ13_bitCount_95d88_57 : decode cJ13_bitCount_95d88 57 = .ok (.bipush 127, 2) := by decide +kernel
theorem dJ13_bitCount_95d88_59 : decode cJ13_bitCount_95d88 59 = .ok (.iand, 1) := by decide +kernel
theorem dJ13_bitCount_95d88_60 : decode cJ13_bitCount_95d88 60 = .ok (.ireturn, 1) := by decide +kernel
theorem dJ9_abs_0f7a4_0 : decode cJ9_abs_0f7a4 0 = .ok (.iload_n 0, 1) := by decide +kernel
theorem dJ9_abs_0f7a4_1 : decode cJ9_abs_0f7a4 1 = .ok (.ifCond .ge 8, 3) := by decide +kernel
theorem dJ9_abs_0f7a4_4 : decode cJ9_abs_0f7a4 4 = .ok (.iload_n 0, 1) := by decide +kernel
theorem dJ9_abs_0f7a4_5 : decode cJ9_abs_0f7a4 5 = .ok (.ineg, 1) := by decide +kernel
theorem dJ9_abs_0f7a4_6 : decode cJ9_abs_0f7a4 6 = .ok (.goto 4, 3) := by decide +kernel
theorem dJ9_abs_0f7a4_9 : decode cJ9_abs_0f7a4 9 = .ok (.iload_n 0, 1) := by decide +kernel
theorem dJ9_abs_0f7a4_10 : decode cJ9_abs_0f7a4 10 = .ok (.ireturn, 1) := by decide +kernel
