theorem dX0_init_0 : decode cX0_init 0 = .ok (.aload_n 0, 1) := by decide +kernel
theorem dX0_init_1 : decode cX0_init 1 = .ok (.invokespecial 3, 3) := by decide +kernel
theorem dX0_init_4 : decode cX0_init 4 = .ok (.return_, 1) := by decide +kernel
theorem dX0_set_0 : decode cX0_set 0 = .ok (.aload_n 0, 1) := by decide +kernel
theorem dX0_set_1 : decode cX0_set 1 = .ok (.iload_n 1, 1) := by decide +kernel
theorem dX0_set_2 : decode cX0_set 2 = .ok (.putfield 9, 3) := by decide +kernel
theorem dX0_set_5 : decode cX0_set 5 = .ok (.aload_n 0, 1) := by decide +kernel
theorem dX0_set_6 : decode cX0_set 6 = .ok (.iload_n 2, 1) := by decide +kernel
theorem dX0_set_7 : decode cX0_set 7 = .ok (.putfield 15, 3) := by decide +kernel
theorem dX0_set_10 : decode cX0_set 10 = .ok (.aload_n 0, 1) := by decide +kernel
theorem dX0_set_11 : decode cX0_set 11 = .ok (.iload_n 3, 1) := by decide +kernel
theorem dX0_set_12 : decode cX0_set 12 = .ok (.putfield 18, 3) := by decide +kernel
theorem dX0_set_15 : decode cX0_set 15 = .ok (.aload_n 0, 1) := by decide +kernel
theorem dX0_set_16 : decode cX0_set 16 = .ok (.iload 4, 2) := by decide +kernel
theorem dX0_set_18 : decode cX0_set 18 = .ok (.putfield 21, 3) := by decide +kernel
theorem dX0_set_21 : decode cX0_set 21 = .ok (.aload_n 0, 1) := by decide +kernel
theorem dX0_set_22 : decode cX0_set 22 = .ok (.iload 5, 2) := by decide +kernel
theorem dX0_set_24 : decode cX0_set 24 = .ok (.putfield 24, 3) := by decide +kernel
theorem dX0_set_27 : decode cX0_set 27 = .ok (.aload_n 0, 1) := by decide +kernel
theorem dX0_set_28 : decode cX0_set 28 = .ok (.iload 6, 2) := by decide +kernel
theorem dX0_set_30 : decode cX0_set 30 = .ok (.putfield 27, 3) := by decide +kernel
theorem dX0_set_33 : decode cX0_set 33 = .ok (.return_, 1) := by decide +kernel
theorem dX0_copyFrom_0 : decode cX0_copyFrom 0 = .ok (.aload_n 0, 1) := by decide +kernel
theorem dX0_copyFrom_1 : decode cX0_copyFrom 1 = .ok (.aload_n 1, 1) := by decide +kernel
theorem dX0_copyFrom_2 : decode cX0_copyFrom 2 = .ok (.getfield 9, 3) := by decide +kernel
theorem dX0_copyFrom_5 : decode cX0_copyFrom 5 = .ok (.aload_n 1, 1) := by decide +kernel
theorem dX0_copyFrom_6 : decode cX0_copyFrom 6 = .ok (.getfield 15, 3) := by decide +kernel
theorem dX0_copyFrom_9 : decode cX0_copyFrom 9 = .ok (.aload_n 1, 1) := by decide +kernel
theorem dX0_copyFrom_10 : decode cX0_copyFrom 10 = .ok (.getfield 18, 3) := by decide +kernel
theorem dX0_copyFrom_13 : decode cX0_copyFrom 13 = .ok (.aload_n 1, 1) := by decide +kernel
theorem dX0_copyFrom_14 : decode cX0_copyFrom 14 = .ok (.getfield 21, 3) := by decide +kernel
theorem dX0_copyFrom_17 : decode cX0_copyFrom 17 = .ok (.aload_n 1, 1) := by decide +kernel
theorem dX0_copyFrom_18 : decode cX0_copyFrom 18 = .ok (.getfield 24, 3) := by decide +kernel
theorem dX0_copyFrom_21 : decode cX0_copyFrom 21 = .ok (.aload_n 1, 1) := by decide +kernel
theorem dX0_copyFrom_22 : decode cX0_copyFrom 22 = .ok (.getfield 27, 3) := by decide +kernel
theorem dX0_copyFrom_25 : decode cX0_copyFrom 25 = .ok (.invokevirtual 30, 3) := by decide +kernel
theorem dX0_copyFrom_28 : decode cX0_copyFrom 28 = .ok (.return_, 1) := by decide +kernel
theorem dX0_applyTo_0 : decode cX0_applyTo 0 = .ok (.aload_n 1, 1) := by decide +kernel
theorem dX0_applyTo_1 : decode cX0_applyTo 1 = .ok (.iconst 0, 1) := by decide +kernel
theorem dX0_applyTo_2 : decode cX0_applyTo 2 = .ok (.aload_n 2, 1) := by decide +kernel
theorem dX0_applyTo_3 : decode cX0_applyTo 3 = .ok (.iconst 0, 1) := by decide +kernel
theorem dX0_applyTo_4 : decode cX0_applyTo 4 = .ok (.bipush 48, 2) := by decide +kernel
theorem dX0_applyTo_6 : decode cX0_applyTo 6 = .ok (.invokestatic 34, 3) := by decide +kernel
theorem dX0_applyTo_9 : decode cX0_applyTo 9 = .ok (.iconst 0, 1) := by decide +kernel
theorem dX0_applyTo_10 : decode cX0_applyTo 10 = .ok (.istore_n 3, 1) := by decide +kernel
theorem dX0_applyTo_11 : decode cX0_applyTo 11 = .ok (.iload_n 3, 1) := by decide +kernel
theorem dX0_applyTo_12 : decode cX0_applyTo 12 = .ok (.aload_n 0, 1) := by decide +kernel
theorem dX0_applyTo_13 : decode cX0_applyTo 13 = .ok (.getfield 21, 3) := by decide +kernel
theorem dX0_applyTo_16 : decode cX0_applyTo 16 = .ok (.if_icmp .ge 63, 3) := by decide +kernel
theorem dX0_applyTo_19 : decode cX0_applyTo 19 = .ok (.iconst 0, 1) := by decide +kernel
theorem dX0_applyTo_20 : decode cX0_applyTo 20 = .ok (.istore 4, 2) := by decide +kernel
theorem dX0_applyTo_22 : decode cX0_applyTo 22 = .ok (.iload 4, 2) := by decide +kernel
theorem dX0_applyTo_24 : decode cX0_applyTo 24 = .ok (.aload_n 0, 1) := by decide +kernel
theorem dX0_applyTo_25 : decode cX0_applyTo 25 = .ok (.getfield 18, 3) := by decide +kernel
theorem dX0_applyTo_28 : decode cX0_applyTo 28 = .ok (.if_icmp .ge 45, 3) := by decide +kernel
theorem dX0_applyTo_31 : decode cX0_applyTo 31 = .ok (.aload_n 1, 1) := by decide +kernel
theorem dX0_applyTo_32 : decode cX0_applyTo 32 = .ok (.aload_n 0, 1) := by decide +kernel
theorem dX0_applyTo_33 : decode cX0_applyTo 33 = .ok (.getfield 24, 3) := by decide +kernel
theorem dX0_applyTo_36 : decode cX0_applyTo 36 = .ok (.iload 4, 2) := by decide +kernel
theorem dX0_applyTo_38 : decode cX0_applyTo 38 = .ok (.iadd, 1) := by decide +kernel
theorem dX0_applyTo_39 : decode cX0_applyTo 39 = .ok (.aload_n 0, 1) := by decide +kernel
theorem dX0_applyTo_40 : decode cX0_applyTo 40 = .ok (.getfield 27, 3) := by decide +kernel
theorem dX0_applyTo_43 : decode cX0_applyTo 43 = .ok (.iload_n 3, 1) := by decide +kernel
theorem dX0_applyTo_44 : decode cX0_applyTo 44 = .ok (.iadd, 1) := by decide +kernel
theorem dX0_applyTo_45 : decode cX0_applyTo 45 = .ok (.invokestatic 40, 3) := by decide +kernel
theorem dX0_applyTo_48 : decode cX0_applyTo 48 = .ok (.aload_n 2, 1) := by decide +kernel
theorem dX0_applyTo_49 : decode cX0_applyTo 49 = .ok (.aload_n 0, 1) := by decide +kernel
theorem dX0_applyTo_50 : decode cX0_applyTo 50 = .ok (.getfield 9, 3) := by decide +kernel
theorem dX0_applyTo_53 : decode cX0_applyTo 53 = .ok (.iload 4, 2) := by decide +kernel
theorem dX0_applyTo_55 : decode cX0_applyTo 55 = .ok (.iadd, 1) := by decide +kernel
theorem dX0_applyTo_56 : decode cX0_applyTo 56 = .ok (.aload_n 0, 1) := by decide +kernel
theorem dX0_applyTo_57 : decode cX0_applyTo 57 = .ok (.getfield 15, 3) := by decide +kernel
theorem dX0_applyTo_60 : decode cX0_applyTo 60 = .ok (.iload_n 3, 1) := by decide +kernel
theorem dX0_applyTo_61 : decode cX0_applyTo 61 = .ok (.iadd, 1) := by decide +kernel
theorem dX0_applyTo_62 : decode cX0_applyTo 62 = .ok (.invokestatic 40, 3) := by decide +kernel
theorem dX0_applyTo_65 : decode cX0_applyTo 65 = .ok (.iaload, 1) := by decide +kernel
theorem dX0_applyTo_66 : decode cX0_applyTo 66 = .ok (.iastore, 1) := by decide +kernel
theorem dX0_applyTo_67 : decode cX0_applyTo 67 = .ok (.iinc 4 1, 3) := by decide +kernel
theorem dX0_applyTo_70 : decode cX0_applyTo 70 = .ok (.goto (-48), 3) := by decide +kernel
theorem dX0_applyTo_73 : decode cX0_applyTo 73 = .ok (.iinc 3 1, 3) := by decide +kernel
theorem dX0_applyTo_76 : decode cX0_applyTo 76 = .ok (.goto (-65), 3) := by decide +kernel
theorem dX0_applyTo_79 : decode cX0_applyTo 79 = .ok (.return_, 1) := by decide +kernel
theorem dX1_init_0 : decode cX1_init 0 = .ok (.aload_n 0, 1) := by decide +kernel
theorem dX1_init_1 : decode cX1_init 1 = .ok (.invokespecial 3, 3) := by decide +kernel
theorem dX1_init_4 : decode cX1_init 4 = .ok (.aload_n 0, 1) := by decide +kernel
theorem dX1_init_5 : decode cX1_init 5 = .ok (.bipush 8, 2) := by decide +kernel
theorem dX1_init_7 : decode cX1_init 7 = .ok (.newarray .int, 2) := by decide +kernel
theorem dX1_init_9 : decode cX1_init 9 = .ok (.putfield 9, 3) := by decide +kernel
theorem dX1_init_12 : decode cX1_init 12 = .ok (.aload_n 0, 1) := by decide +kernel
theorem dX1_init_13 : decode cX1_init 13 = .ok (.iconst 0, 1) := by decide +kernel
theorem dX1_init_14 : decode cX1_init 14 = .ok (.putfield 15, 3) := by decide +kernel
theorem dX1_init_17 : decode cX1_init 17 = .ok (.return_, 1) := by decide +kernel
theorem dX1_copyFrom_0 : decode cX1_copyFrom 0 = .ok (.aload_n 1, 1) := by decide +kernel
theorem dX1_copyFrom_1 : decode cX1_copyFrom 1 = .ok (.getfield 9, 3) := by decide +kernel
theorem dX1_copyFrom_4 : decode cX1_copyFrom 4 = .ok (.iconst 0, 1) := by decide +kernel
theorem dX1_copyFrom_5 : decode cX1_copyFrom 5 = .ok (.aload_n 0, 1) := by decide +kernel
theorem dX1_copyFrom_6 : decode cX1_copyFrom 6 = .ok (.getfield 9, 3) := by decide +kernel
theorem dX1_copyFrom_9 : decode cX1_copyFrom 9 = .ok (.iconst 0, 1) := by decide +kernel
theorem dX1_copyFrom_10 : decode cX1_copyFrom 10 = .ok (.bipush 8, 2) := by decide +kernel
theorem dX1_copyFrom_12 : decode cX1_copyFrom 12 = .ok (.invokestatic 19, 3) := by decide +kernel
theorem dX1_copyFrom_15 : decode cX1_copyFrom 15 = .ok (.aload_n 0, 1) := by decide +kernel
theorem dX1_copyFrom_16 : decode cX1_copyFrom 16 = .ok (.aload_n 1, 1) := by decide +kernel
theorem dX1_copyFrom_17 : decode cX1_copyFrom 17 = .ok (.getfield 15, 3) := by decide +kernel
theorem dX1_copyFrom_20 : decode cX1_copyFrom 20 = .ok (.putfield 15, 3) := by decide +kernel
theorem dX1_copyFrom_23 : decode cX1_copyFrom 23 = .ok (.return_, 1) := by decide +kernel
theorem dX1_placeOf_0 : decode cX1_placeOf 0 = .ok (.iconst 0, 1) := by decide +kernel
theorem dX1_placeOf_1 : decode cX1_placeOf 1 = .ok (.istore_n 2, 1) := by decide +kernel
theorem dX1_placeOf_2 : decode cX1_placeOf 2 = .ok (.iload_n 2, 1) := by decide +kernel
theorem dX1_placeOf_3 : decode cX1_placeOf 3 = .ok (.aload_n 0, 1) := by decide +kernel
theorem dX1_placeOf_4 : decode cX1_placeOf 4 = .ok (.getfield 15, 3) := by decide +kernel
theorem dX1_placeOf_7 : decode cX1_placeOf 7 = .ok (.if_icmp .ge 21, 3) := by decide +kernel
theorem dX1_placeOf_10 : decode cX1_placeOf 10 = .ok (.aload_n 0, 1) := by decide +kernel
theorem dX1_placeOf_11 : decode cX1_placeOf 11 = .ok (.getfield 9, 3) := by decide +kernel
theorem dX1_placeOf_14 : decode cX1_placeOf 14 = .ok (.iload_n 2, 1) := by decide +kernel
theorem dX1_placeOf_15 : decode cX1_placeOf 15 = .ok (.iaload, 1) := by decide +kernel
theorem dX1_placeOf_16 : decode cX1_placeOf 16 = .ok (.iload_n 1, 1) := by decide +kernel
theorem dX1_placeOf_17 : decode cX1_placeOf 17 = .ok (.if_icmp .ne 5, 3) := by decide +kernel
theorem dX1_placeOf_20 : decode cX1_placeOf 20 = .ok (.iload_n 2, 1) := by decide +kernel
theorem dX1_placeOf_21 : decode cX1_placeOf 21 = .ok (.ireturn, 1) := by decide +kernel
theorem dX1_placeOf_22 : decode cX1_placeOf 22 = .ok (.iinc 2 1, 3) := by decide +kernel
theorem dX1_placeOf_25 : decode cX1_placeOf 25 = .ok (.goto (-23), 3) := by decide +kernel
theorem dX1_placeOf_28 : decode cX1_placeOf 28 = .ok (.iconst (-1), 1) := by decide +kernel
theorem dX1_placeOf_29 : decode cX1_placeOf 29 = .ok (.ireturn, 1) := by decide +kernel
theorem dX1_holds_0 : decode cX1_holds 0 = .ok (.aload_n 0, 1) := by decide +kernel
theorem dX1_holds_1 : decode cX1_holds 1 = .ok (.iload_n 1, 1) := by decide +kernel
theorem dX1_holds_2 : decode cX1_holds 2 = .ok (.invokevirtual 25, 3) := by decide +kernel
theorem dX1_holds_5 : decode cX1_holds 5 = .ok (.iconst (-1), 1) := by decide +kernel
theorem dX1_holds_6 : decode cX1_holds 6 = .ok (.if_icmp .eq 7, 3) := by decide +kernel
theorem dX1_holds_9 : decode cX1_holds 9 = .ok (.iconst 1, 1) := by decide +kernel
theorem dX1_holds_10 : decode cX1_holds 10 = .ok (.goto 4, 3) := by decide +kernel
theorem dX1_holds_13 : decode cX1_holds 13 = .ok (.iconst 0, 1) := by decide +kernel
theorem dX1_holds_14 : decode cX1_holds 14 = .ok (.ireturn, 1) := by decide +kernel
theorem dX1_meet_0 : decode cX1_meet 0 = .ok (.aload_n 0, 1) := by decide +kernel
theorem dX1_meet_1 : decode cX1_meet 1 = .ok (.iload_n 1, 1) := by decide +kernel
theorem dX1_meet_2 : decode cX1_meet 2 = .ok (.invokevirtual 25, 3) := by decide +kernel
theorem dX1_meet_5 : decode cX1_meet 5 = .ok (.istore_n 2, 1) := by decide +kernel
theorem dX1_meet_6 : decode cX1_meet 6 = .ok (.iload_n 2, 1) := by decide +kernel
theorem dX1_meet_7 : decode cX1_meet 7 = .ok (.iconst (-1), 1) := by decide +kernel
theorem dX1_meet_8 : decode cX1_meet 8 = .ok (.if_icmp .ne 29, 3) := by decide +kernel
theorem dX1_meet_11 : decode cX1_meet 11 = .ok (.aload_n 0, 1) := by decide +kernel
theorem dX1_meet_12 : decode cX1_meet 12 = .ok (.getfield 15, 3) := by decide +kernel
theorem dX1_meet_15 : decode cX1_meet 15 = .ok (.bipush 8, 2) := by decide +kernel
theorem dX1_meet_17 : decode cX1_meet 17 = .ok (.if_icmp .ge 13, 3) := by decide +kernel
theorem dX1_meet_20 : decode cX1_meet 20 = .ok (.aload_n 0, 1) := by decide +kernel
theorem dX1_meet_21 : decode cX1_meet 21 = .ok (.dup, 1) := by decide +kernel
theorem dX1_meet_22 : decode cX1_meet 22 = .ok (.getfield 15, 3) := by decide +kernel
theorem dX1_meet_25 : decode cX1_meet 25 = .ok (.iconst 1, 1) := by decide +kernel
theorem dX1_meet_26 : decode cX1_meet 26 = .ok (.iadd, 1) := by decide +kernel
theorem dX1_meet_27 : decode cX1_meet 27 = .ok (.putfield 15, 3) := by decide +kernel
theorem dX1_meet_30 : decode cX1_meet 30 = .ok (.aload_n 0, 1) := by decide +kernel
theorem dX1_meet_31 : decode cX1_meet 31 = .ok (.getfield 15, 3) := by decide +kernel
theorem dX1_meet_34 : decode cX1_meet 34 = .ok (.iconst 1, 1) := by decide +kernel
theorem dX1_meet_35 : decode cX1_meet 35 = .ok (.isub, 1) := by decide +kernel
theorem dX1_meet_36 : decode cX1_meet 36 = .ok (.istore_n 2, 1) := by decide +kernel
theorem dX1_meet_37 : decode cX1_meet 37 = .ok (.iload_n 2, 1) := by decide +kernel
theorem dX1_meet_38 : decode cX1_meet 38 = .ok (.istore_n 3, 1) := by decide +kernel
theorem dX1_meet_39 : decode cX1_meet 39 = .ok (.iload_n 3, 1) := by decide +kernel
theorem dX1_meet_40 : decode cX1_meet 40 = .ok (.ifCond .le 23, 3) := by decide +kernel
theorem dX1_meet_43 : decode cX1_meet 43 = .ok (.aload_n 0, 1) := by decide +kernel
theorem dX1_meet_44 : decode cX1_meet 44 = .ok (.getfield 9, 3) := by decide +kernel
theorem dX1_meet_47 : decode cX1_meet 47 = .ok (.iload_n 3, 1) := by decide +kernel
theorem dX1_meet_48 : decode cX1_meet 48 = .ok (.aload_n 0, 1) := by decide +kernel
theorem dX1_meet_49 : decode cX1_meet 49 = .ok (.getfield 9, 3) := by decide +kernel
theorem dX1_meet_52 : decode cX1_meet 52 = .ok (.iload_n 3, 1) := by decide +kernel
theorem dX1_meet_53 : decode cX1_meet 53 = .ok (.iconst 1, 1) := by decide +kernel
theorem dX1_meet_54 : decode cX1_meet 54 = .ok (.isub, 1) := by decide +kernel
theorem dX1_meet_55 : decode cX1_meet 55 = .ok (.iaload, 1) := by decide +kernel
theorem dX1_meet_56 : decode cX1_meet 56 = .ok (.iastore, 1) := by decide +kernel
theorem dX1_meet_57 : decode cX1_meet 57 = .ok (.iinc 3 (-1), 3) := by decide +kernel
theorem dX1_meet_60 : decode cX1_meet 60 = .ok (.goto (-21), 3) := by decide +kernel
theorem dX1_meet_63 : decode cX1_meet 63 = .ok (.aload_n 0, 1) := by decide +kernel
theorem dX1_meet_64 : decode cX1_meet 64 = .ok (.getfield 9, 3) := by decide +kernel
theorem dX1_meet_67 : decode cX1_meet 67 = .ok (.iconst 0, 1) := by decide +kernel
theorem dX1_meet_68 : decode cX1_meet 68 = .ok (.iload_n 1, 1) := by decide +kernel
theorem dX1_meet_69 : decode cX1_meet 69 = .ok (.iastore, 1) := by decide +kernel
theorem dX1_meet_70 : decode cX1_meet 70 = .ok (.return_, 1) := by decide +kernel
theorem dX2_init_0 : decode cX2_init 0 = .ok (.aload_n 0, 1) := by decide +kernel
theorem dX2_init_1 : decode cX2_init 1 = .ok (.invokespecial 3, 3) := by decide +kernel
theorem dX2_init_4 : decode cX2_init 4 = .ok (.aload_n 0, 1) := by decide +kernel
theorem dX2_init_5 : decode cX2_init 5 = .ok (.bipush 48, 2) := by decide +kernel
theorem dX2_init_7 : decode cX2_init 7 = .ok (.newarray .int, 2) := by decide +kernel
theorem dX2_init_9 : decode cX2_init 9 = .ok (.putfield 9, 3) := by decide +kernel
theorem dX2_init_12 : decode cX2_init 12 = .ok (.aload_n 0, 1) := by decide +kernel
theorem dX2_init_13 : decode cX2_init 13 = .ok (.bipush 48, 2) := by decide +kernel
theorem dX2_init_15 : decode cX2_init 15 = .ok (.newarray .int, 2) := by decide +kernel
theorem dX2_init_17 : decode cX2_init 17 = .ok (.putfield 15, 3) := by decide +kernel
theorem dX2_init_20 : decode cX2_init 20 = .ok (.aload_n 0, 1) := by decide +kernel
theorem dX2_init_21 : decode cX2_init 21 = .ok (.bipush 48, 2) := by decide +kernel
theorem dX2_init_23 : decode cX2_init 23 = .ok (.newarray .int, 2) := by decide +kernel
theorem dX2_init_25 : decode cX2_init 25 = .ok (.putfield 18, 3) := by decide +kernel
theorem dX2_init_28 : decode cX2_init 28 = .ok (.aload_n 0, 1) := by decide +kernel
theorem dX2_init_29 : decode cX2_init 29 = .ok (.bipush 48, 2) := by decide +kernel
theorem dX2_init_31 : decode cX2_init 31 = .ok (.newarray .int, 2) := by decide +kernel
theorem dX2_init_33 : decode cX2_init 33 = .ok (.putfield 21, 3) := by decide +kernel
theorem dX2_init_36 : decode cX2_init 36 = .ok (.aload_n 0, 1) := by decide +kernel
theorem dX2_init_37 : decode cX2_init 37 = .ok (.bipush 48, 2) := by decide +kernel
theorem dX2_init_39 : decode cX2_init 39 = .ok (.newarray .int, 2) := by decide +kernel
theorem dX2_init_41 : decode cX2_init 41 = .ok (.putfield 24, 3) := by decide +kernel
theorem dX2_init_44 : decode cX2_init 44 = .ok (.aload_n 0, 1) := by decide +kernel
theorem dX2_init_45 : decode cX2_init 45 = .ok (.bipush 48, 2) := by decide +kernel
theorem dX2_init_47 : decode cX2_init 47 = .ok (.newarray .int, 2) := by decide +kernel
theorem dX2_init_49 : decode cX2_init 49 = .ok (.putfield 27, 3) := by decide +kernel
theorem dX2_init_52 : decode cX2_init 52 = .ok (.aload_n 0, 1) := by decide +kernel
theorem dX2_init_53 : decode cX2_init 53 = .ok (.bipush 48, 2) := by decide +kernel
theorem dX2_init_55 : decode cX2_init 55 = .ok (.newarray .int, 2) := by decide +kernel
theorem dX2_init_57 : decode cX2_init 57 = .ok (.putfield 30, 3) := by decide +kernel
theorem dX2_init_60 : decode cX2_init 60 = .ok (.aload_n 0, 1) := by decide +kernel
theorem dX2_init_61 : decode cX2_init 61 = .ok (.iconst 5, 1) := by decide +kernel
theorem dX2_init_62 : decode cX2_init 62 = .ok (.anewarray 33, 3) := by decide +kernel
theorem dX2_init_65 : decode cX2_init 65 = .ok (.putfield 35, 3) := by decide +kernel
theorem dX2_init_68 : decode cX2_init 68 = .ok (.aload_n 0, 1) := by decide +kernel
theorem dX2_init_69 : decode cX2_init 69 = .ok (.iconst 0, 1) := by decide +kernel
theorem dX2_init_70 : decode cX2_init 70 = .ok (.putfield 39, 3) := by decide +kernel
theorem dX2_init_73 : decode cX2_init 73 = .ok (.aload_n 0, 1) := by decide +kernel
theorem dX2_init_74 : decode cX2_init 74 = .ok (.new 43, 3) := by decide +kernel
theorem dX2_init_77 : decode cX2_init 77 = .ok (.dup, 1) := by decide +kernel
theorem dX2_init_78 : decode cX2_init 78 = .ok (.invokespecial 45, 3) := by decide +kernel
theorem dX2_init_81 : decode cX2_init 81 = .ok (.putfield 46, 3) := by decide +kernel
theorem dX2_init_84 : decode cX2_init 84 = .ok (.aload_n 0, 1) := by decide +kernel
theorem dX2_init_85 : decode cX2_init 85 = .ok (.iconst 4, 1) := by decide +kernel
theorem dX2_init_86 : decode cX2_init 86 = .ok (.newarray .int, 2) := by decide +kernel
theorem dX2_init_88 : decode cX2_init 88 = .ok (.putfield 50, 3) := by decide +kernel
theorem dX2_init_91 : decode cX2_init 91 = .ok (.aload_n 0, 1) := by decide +kernel
theorem dX2_init_92 : decode cX2_init 92 = .ok (.iconst 0, 1) := by decide +kernel
theorem dX2_init_93 : decode cX2_init 93 = .ok (.putfield 53, 3) := by decide +kernel
theorem dX2_init_96 : decode cX2_init 96 = .ok (.aload_n 0, 1) := by decide +kernel
theorem dX2_init_97 : decode cX2_init 97 = .ok (.iconst 0, 1) := by decide +kernel
theorem dX2_init_98 : decode cX2_init 98 = .ok (.putfield 56, 3) := by decide +kernel
theorem dX2_init_101 : decode cX2_init 101 = .ok (.aload_n 0, 1) := by decide +kernel
theorem dX2_init_102 : decode cX2_init 102 = .ok (.iconst 0, 1) := by decide +kernel
theorem dX2_init_103 : decode cX2_init 103 = .ok (.putfield 59, 3) := by decide +kernel
theorem dX2_init_106 : decode cX2_init 106 = .ok (.iconst 0, 1) := by decide +kernel
theorem dX2_init_107 : decode cX2_init 107 = .ok (.istore_n 1, 1) := by decide +kernel
theorem dX2_init_108 : decode cX2_init 108 = .ok (.iload_n 1, 1) := by decide +kernel
theorem dX2_init_109 : decode cX2_init 109 = .ok (.bipush 48, 2) := by decide +kernel
theorem dX2_init_111 : decode cX2_init 111 = .ok (.if_icmp .ge 16, 3) := by decide +kernel
theorem dX2_init_114 : decode cX2_init 114 = .ok (.aload_n 0, 1) := by decide +kernel
theorem dX2_init_115 : decode cX2_init 115 = .ok (.getfield 18, 3) := by decide +kernel
theorem dX2_init_118 : decode cX2_init 118 = .ok (.iload_n 1, 1) := by decide +kernel
theorem dX2_init_119 : decode cX2_init 119 = .ok (.iconst (-1), 1) := by decide +kernel
theorem dX2_init_120 : decode cX2_init 120 = .ok (.iastore, 1) := by decide +kernel
theorem dX2_init_121 : decode cX2_init 121 = .ok (.iinc 1 1, 3) := by decide +kernel
theorem dX2_init_124 : decode cX2_init 124 = .ok (.goto (-16), 3) := by decide +kernel
theorem dX2_init_127 : decode cX2_init 127 = .ok (.iconst 0, 1) := by decide +kernel
theorem dX2_init_128 : decode cX2_init 128 = .ok (.istore_n 1, 1) := by decide +kernel
theorem dX2_init_129 : decode cX2_init 129 = .ok (.iload_n 1, 1) := by decide +kernel
theorem dX2_init_130 : decode cX2_init 130 = .ok (.aload_n 0, 1) := by decide +kernel
theorem dX2_init_131 : decode cX2_init 131 = .ok (.getfield 35, 3) := by decide +kernel
theorem dX2_init_134 : decode cX2_init 134 = .ok (.arraylength, 1) := by decide +kernel
theorem dX2_init_135 : decode cX2_init 135 = .ok (.if_icmp .ge 22, 3) := by decide +kernel
theorem dX2_init_138 : decode cX2_init 138 = .ok (.aload_n 0, 1) := by decide +kernel
theorem dX2_init_139 : decode cX2_init 139 = .ok (.getfield 35, 3) := by decide +kernel
theorem dX2_init_142 : decode cX2_init 142 = .ok (.iload_n 1, 1) := by decide +kernel
theorem dX2_init_143 : decode cX2_init 143 = .ok (.new 33, 3) := by decide +kernel
theorem dX2_init_146 : decode cX2_init 146 = .ok (.dup, 1) := by decide +kernel
theorem dX2_init_147 : decode cX2_init 147 = .ok (.invokespecial 62, 3) := by decide +kernel
theorem dX2_init_150 : decode cX2_init 150 = .ok (.aastore, 1) := by decide +kernel
theorem dX2_init_151 : decode cX2_init 151 = .ok (.iinc 1 1, 3) := by decide +kernel
theorem dX2_init_154 : decode cX2_init 154 = .ok (.goto (-25), 3) := by decide +kernel
theorem dX2_init_157 : decode cX2_init 157 = .ok (.return_, 1) := by decide +kernel
theorem dX2_copyFrom_0 : decode cX2_copyFrom 0 = .ok (.aload_n 1, 1) := by decide +kernel
theorem dX2_copyFrom_1 : decode cX2_copyFrom 1 = .ok (.getfield 9, 3) := by decide +kernel
theorem dX2_copyFrom_4 : decode cX2_copyFrom 4 = .ok (.iconst 0, 1) := by decide +kernel
theorem dX2_copyFrom_5 : decode cX2_copyFrom 5 = .ok (.aload_n 0, 1) := by decide +kernel
theorem dX2_copyFrom_6 : decode cX2_copyFrom 6 = .ok (.getfield 9, 3) := by decide +kernel
theorem dX2_copyFrom_9 : decode cX2_copyFrom 9 = .ok (.iconst 0, 1) := by decide +kernel
theorem dX2_copyFrom_10 : decode cX2_copyFrom 10 = .ok (.bipush 48, 2) := by decide +kernel
theorem dX2_copyFrom_12 : decode cX2_copyFrom 12 = .ok (.invokestatic 63, 3) := by decide +kernel
theorem dX2_copyFrom_15 : decode cX2_copyFrom 15 = .ok (.aload_n 1, 1) := by decide +kernel
theorem dX2_copyFrom_16 : decode cX2_copyFrom 16 = .ok (.getfield 15, 3) := by decide +kernel
theorem dX2_copyFrom_19 : decode cX2_copyFrom 19 = .ok (.iconst 0, 1) := by decide +kernel
theorem dX2_copyFrom_20 : decode cX2_copyFrom 20 = .ok (.aload_n 0, 1) := by decide +kernel
theorem dX2_copyFrom_21 : decode cX2_copyFrom 21 = .ok (.getfield 15, 3) := by decide +kernel
theorem dX2_copyFrom_24 : decode cX2_copyFrom 24 = .ok (.iconst 0, 1) := by decide +kernel
theorem dX2_copyFrom_25 : decode cX2_copyFrom 25 = .ok (.bipush 48, 2) := by decide +kernel
theorem dX2_copyFrom_27 : decode cX2_copyFrom 27 = .ok (.invokestatic 63, 3) := by decide +kernel
theorem dX2_copyFrom_30 : decode cX2_copyFrom 30 = .ok (.aload_n 1, 1) := by decide +kernel
theorem dX2_copyFrom_31 : decode cX2_copyFrom 31 = .ok (.getfield 18, 3) := by decide +kernel
theorem dX2_copyFrom_34 : decode cX2_copyFrom 34 = .ok (.iconst 0, 1) := by decide +kernel
theorem dX2_copyFrom_35 : decode cX2_copyFrom 35 = .ok (.aload_n 0, 1) := by decide +kernel
theorem dX2_copyFrom_36 : decode cX2_copyFrom 36 = .ok (.getfield 18, 3) := by decide +kernel
theorem dX2_copyFrom_39 : decode cX2_copyFrom 39 = .ok (.iconst 0, 1) := by decide +kernel
theorem dX2_copyFrom_40 : decode cX2_copyFrom 40 = .ok (.bipush 48, 2) := by decide +kernel
theorem dX2_copyFrom_42 : decode cX2_copyFrom 42 = .ok (.invokestatic 63, 3) := by decide +kernel
theorem dX2_copyFrom_45 : decode cX2_copyFrom 45 = .ok (.aload_n 1, 1) := by decide +kernel
theorem dX2_copyFrom_46 : decode cX2_copyFrom 46 = .ok (.getfield 21, 3) := by decide +kernel
theorem dX2_copyFrom_49 : decode cX2_copyFrom 49 = .ok (.iconst 0, 1) := by decide +kernel
theorem dX2_copyFrom_50 : decode cX2_copyFrom 50 = .ok (.aload_n 0, 1) := by decide +kernel
theorem dX2_copyFrom_51 : decode cX2_copyFrom 51 = .ok (.getfield 21, 3) := by decide +kernel
theorem dX2_copyFrom_54 : decode cX2_copyFrom 54 = .ok (.iconst 0, 1) := by decide +kernel
theorem dX2_copyFrom_55 : decode cX2_copyFrom 55 = .ok (.bipush 48, 2) := by decide +kernel
theorem dX2_copyFrom_57 : decode cX2_copyFrom 57 = .ok (.invokestatic 63, 3) := by decide +kernel
theorem dX2_copyFrom_60 : decode cX2_copyFrom 60 = .ok (.aload_n 0, 1) := by decide +kernel
theorem dX2_copyFrom_61 : decode cX2_copyFrom 61 = .ok (.aload_n 1, 1) := by decide +kernel
theorem dX2_copyFrom_62 : decode cX2_copyFrom 62 = .ok (.getfield 39, 3) := by decide +kernel
theorem dX2_copyFrom_65 : decode cX2_copyFrom 65 = .ok (.putfield 39, 3) := by decide +kernel
theorem dX2_copyFrom_68 : decode cX2_copyFrom 68 = .ok (.iconst 0, 1) := by decide +kernel
theorem dX2_copyFrom_69 : decode cX2_copyFrom 69 = .ok (.istore_n 2, 1) := by decide +kernel
theorem dX2_copyFrom_70 : decode cX2_copyFrom 70 = .ok (.iload_n 2, 1) := by decide +kernel
theorem dX2_copyFrom_71 : decode cX2_copyFrom 71 = .ok (.aload_n 0, 1) := by decide +kernel
theorem dX2_copyFrom_72 : decode cX2_copyFrom 72 = .ok (.getfield 39, 3) := by decide +kernel
theorem dX2_copyFrom_75 : decode cX2_copyFrom 75 = .ok (.if_icmp .ge 24, 3) := by decide +kernel
theorem dX2_copyFrom_78 : decode cX2_copyFrom 78 = .ok (.aload_n 0, 1) := by decide +kernel
theorem dX2_copyFrom_79 : decode cX2_copyFrom 79 = .ok (.getfield 35, 3) := by decide +kernel
theorem dX2_copyFrom_82 : decode cX2_copyFrom 82 = .ok (.iload_n 2, 1) := by decide +kernel
theorem dX2_copyFrom_83 : decode cX2_copyFrom 83 = .ok (.aaload, 1) := by decide +kernel
theorem dX2_copyFrom_84 : decode cX2_copyFrom 84 = .ok (.aload_n 1, 1) := by decide +kernel
theorem dX2_copyFrom_85 : decode cX2_copyFrom 85 = .ok (.getfield 35, 3) := by decide +kernel
theorem dX2_copyFrom_88 : decode cX2_copyFrom 88 = .ok (.iload_n 2, 1) := by decide +kernel
theorem dX2_copyFrom_89 : decode cX2_copyFrom 89 = .ok (.aaload, 1) := by decide +kernel
theorem dX2_copyFrom_90 : decode cX2_copyFrom 90 = .ok (.invokevirtual 69, 3) := by decide +kernel
theorem dX2_copyFrom_93 : decode cX2_copyFrom 93 = .ok (.iinc 2 1, 3) := by decide +kernel
theorem dX2_copyFrom_96 : decode cX2_copyFrom 96 = .ok (.goto (-26), 3) := by decide +kernel
theorem dX2_copyFrom_99 : decode cX2_copyFrom 99 = .ok (.aload_n 0, 1) := by decide +kernel
theorem dX2_copyFrom_100 : decode cX2_copyFrom 100 = .ok (.getfield 46, 3) := by decide +kernel
theorem dX2_copyFrom_103 : decode cX2_copyFrom 103 = .ok (.aload_n 1, 1) := by decide +kernel
theorem dX2_copyFrom_104 : decode cX2_copyFrom 104 = .ok (.getfield 46, 3) := by decide +kernel
theorem dX2_copyFrom_107 : decode cX2_copyFrom 107 = .ok (.invokevirtual 73, 3) := by decide +kernel
theorem dX2_copyFrom_110 : decode cX2_copyFrom 110 = .ok (.aload_n 1, 1) := by decide +kernel
theorem dX2_copyFrom_111 : decode cX2_copyFrom 111 = .ok (.getfield 50, 3) := by decide +kernel
theorem dX2_copyFrom_114 : decode cX2_copyFrom 114 = .ok (.iconst 0, 1) := by decide +kernel
theorem dX2_copyFrom_115 : decode cX2_copyFrom 115 = .ok (.aload_n 0, 1) := by decide +kernel
theorem dX2_copyFrom_116 : decode cX2_copyFrom 116 = .ok (.getfield 50, 3) := by decide +kernel
theorem dX2_copyFrom_119 : decode cX2_copyFrom 119 = .ok (.iconst 0, 1) := by decide +kernel
theorem dX2_copyFrom_120 : decode cX2_copyFrom 120 = .ok (.iconst 4, 1) := by decide +kernel
theorem dX2_copyFrom_121 : decode cX2_copyFrom 121 = .ok (.invokestatic 63, 3) := by decide +kernel
theorem dX2_copyFrom_124 : decode cX2_copyFrom 124 = .ok (.aload_n 0, 1) := by decide +kernel
theorem dX2_copyFrom_125 : decode cX2_copyFrom 125 = .ok (.aload_n 1, 1) := by decide +kernel
theorem dX2_copyFrom_126 : decode cX2_copyFrom 126 = .ok (.getfield 53, 3) := by decide +kernel
theorem dX2_copyFrom_129 : decode cX2_copyFrom 129 = .ok (.putfield 53, 3) := by decide +kernel
theorem dX2_copyFrom_132 : decode cX2_copyFrom 132 = .ok (.aload_n 0, 1) := by decide +kernel
theorem dX2_copyFrom_133 : decode cX2_copyFrom 133 = .ok (.aload_n 1, 1) := by decide +kernel
theorem dX2_copyFrom_134 : decode cX2_copyFrom 134 = .ok (.getfield 56, 3) := by decide +kernel
theorem dX2_copyFrom_137 : decode cX2_copyFrom 137 = .ok (.putfield 56, 3) := by decide +kernel
theorem dX2_copyFrom_140 : decode cX2_copyFrom 140 = .ok (.aload_n 0, 1) := by decide +kernel
theorem dX2_copyFrom_141 : decode cX2_copyFrom 141 = .ok (.aload_n 1, 1) := by decide +kernel
theorem dX2_copyFrom_142 : decode cX2_copyFrom 142 = .ok (.getfield 59, 3) := by decide +kernel
theorem dX2_copyFrom_145 : decode cX2_copyFrom 145 = .ok (.putfield 59, 3) := by decide +kernel
theorem dX2_copyFrom_148 : decode cX2_copyFrom 148 = .ok (.return_, 1) := by decide +kernel
theorem dX2_paint_0 : decode cX2_paint 0 = .ok (.aload_n 0, 1) := by decide +kernel
theorem dX2_paint_1 : decode cX2_paint 1 = .ok (.getfield 9, 3) := by decide +kernel
theorem dX2_paint_4 : decode cX2_paint 4 = .ok (.iconst 0, 1) := by decide +kernel
theorem dX2_paint_5 : decode cX2_paint 5 = .ok (.aload_n 0, 1) := by decide +kernel
theorem dX2_paint_6 : decode cX2_paint 6 = .ok (.getfield 30, 3) := by decide +kernel
theorem dX2_paint_9 : decode cX2_paint 9 = .ok (.iconst 0, 1) := by decide +kernel
theorem dX2_paint_10 : decode cX2_paint 10 = .ok (.bipush 48, 2) := by decide +kernel
theorem dX2_paint_12 : decode cX2_paint 12 = .ok (.invokestatic 63, 3) := by decide +kernel
theorem dX2_paint_15 : decode cX2_paint 15 = .ok (.iload_n 2, 1) := by decide +kernel
theorem dX2_paint_16 : decode cX2_paint 16 = .ok (.istore 6, 2) := by decide +kernel
theorem dX2_paint_18 : decode cX2_paint 18 = .ok (.iload 6, 2) := by decide +kernel
theorem dX2_paint_20 : decode cX2_paint 20 = .ok (.iload_n 2, 1) := by decide +kernel
theorem dX2_paint_21 : decode cX2_paint 21 = .ok (.iload 4, 2) := by decide +kernel
theorem dX2_paint_23 : decode cX2_paint 23 = .ok (.iadd, 1) := by decide +kernel
theorem dX2_paint_24 : decode cX2_paint 24 = .ok (.if_icmp .ge 40, 3) := by decide +kernel
theorem dX2_paint_27 : decode cX2_paint 27 = .ok (.iload_n 1, 1) := by decide +kernel
theorem dX2_paint_28 : decode cX2_paint 28 = .ok (.istore 7, 2) := by decide +kernel
theorem dX2_paint_30 : decode cX2_paint 30 = .ok (.iload 7, 2) := by decide +kernel
theorem dX2_paint_32 : decode cX2_paint 32 = .ok (.iload_n 1, 1) := by decide +kernel
theorem dX2_paint_33 : decode cX2_paint 33 = .ok (.iload_n 3, 1) := by decide +kernel
theorem dX2_paint_34 : decode cX2_paint 34 = .ok (.iadd, 1) := by decide +kernel
theorem dX2_paint_35 : decode cX2_paint 35 = .ok (.if_icmp .ge 23, 3) := by decide +kernel
theorem dX2_paint_38 : decode cX2_paint 38 = .ok (.aload_n 0, 1) := by decide +kernel
theorem dX2_paint_39 : decode cX2_paint 39 = .ok (.getfield 9, 3) := by decide +kernel
theorem dX2_paint_42 : decode cX2_paint 42 = .ok (.iload 7, 2) := by decide +kernel
theorem dX2_paint_44 : decode cX2_paint 44 = .ok (.iload 6, 2) := by decide +kernel
theorem dX2_paint_46 : decode cX2_paint 46 = .ok (.invokestatic 76, 3) := by decide +kernel
theorem dX2_paint_49 : decode cX2_paint 49 = .ok (.iload 5, 2) := by decide +kernel
theorem dX2_paint_51 : decode cX2_paint 51 = .ok (.iastore, 1) := by decide +kernel
theorem dX2_paint_52 : decode cX2_paint 52 = .ok (.iinc 7 1, 3) := by decide +kernel
theorem dX2_paint_55 : decode cX2_paint 55 = .ok (.goto (-25), 3) := by decide +kernel
theorem dX2_paint_58 : decode cX2_paint 58 = .ok (.iinc 6 1, 3) := by decide +kernel
theorem dX2_paint_61 : decode cX2_paint 61 = .ok (.goto (-43), 3) := by decide +kernel
theorem dX2_paint_64 : decode cX2_paint 64 = .ok (.aload_n 0, 1) := by decide +kernel
theorem dX2_paint_65 : decode cX2_paint 65 = .ok (.invokevirtual 80, 3) := by decide +kernel
theorem dX2_paint_68 : decode cX2_paint 68 = .ok (.aload_n 0, 1) := by decide +kernel
theorem dX2_paint_69 : decode cX2_paint 69 = .ok (.invokevirtual 83, 3) := by decide +kernel
theorem dX2_paint_72 : decode cX2_paint 72 = .ok (.return_, 1) := by decide +kernel
theorem dX2_shift_0 : decode cX2_shift 0 = .ok (.aload_n 0, 1) := by decide +kernel
theorem dX2_shift_1 : decode cX2_shift 1 = .ok (.getfield 35, 3) := by decide +kernel
theorem dX2_shift_4 : decode cX2_shift 4 = .ok (.aload_n 0, 1) := by decide +kernel
theorem dX2_shift_5 : decode cX2_shift 5 = .ok (.getfield 39, 3) := by decide +kernel
theorem dX2_shift_8 : decode cX2_shift 8 = .ok (.aaload, 1) := by decide +kernel
theorem dX2_shift_9 : decode cX2_shift 9 = .ok (.astore 7, 2) := by decide +kernel
theorem dX2_shift_11 : decode cX2_shift 11 = .ok (.aload 7, 2) := by decide +kernel
theorem dX2_shift_13 : decode cX2_shift 13 = .ok (.iload_n 1, 1) := by decide +kernel
theorem dX2_shift_14 : decode cX2_shift 14 = .ok (.iload_n 2, 1) := by decide +kernel
theorem dX2_shift_15 : decode cX2_shift 15 = .ok (.iload_n 3, 1) := by decide +kernel
theorem dX2_shift_16 : decode cX2_shift 16 = .ok (.iload 4, 2) := by decide +kernel
theorem dX2_shift_18 : decode cX2_shift 18 = .ok (.iload 5, 2) := by decide +kernel
theorem dX2_shift_20 : decode cX2_shift 20 = .ok (.iload 6, 2) := by decide +kernel
theorem dX2_shift_22 : decode cX2_shift 22 = .ok (.invokevirtual 86, 3) := by decide +kernel
theorem dX2_shift_25 : decode cX2_shift 25 = .ok (.aload 7, 2) := by decide +kernel
theorem dX2_shift_27 : decode cX2_shift 27 = .ok (.aload_n 0, 1) := by decide +kernel
theorem dX2_shift_28 : decode cX2_shift 28 = .ok (.getfield 9, 3) := by decide +kernel
theorem dX2_shift_31 : decode cX2_shift 31 = .ok (.aload_n 0, 1) := by decide +kernel
theorem dX2_shift_32 : decode cX2_shift 32 = .ok (.getfield 30, 3) := by decide +kernel
theorem dX2_shift_35 : decode cX2_shift 35 = .ok (.invokevirtual 90, 3) := by decide +kernel
theorem dX2_shift_38 : decode cX2_shift 38 = .ok (.aload_n 0, 1) := by decide +kernel
theorem dX2_shift_39 : decode cX2_shift 39 = .ok (.getfield 39, 3) := by decide +kernel
theorem dX2_shift_42 : decode cX2_shift 42 = .ok (.iconst 4, 1) := by decide +kernel
theorem dX2_shift_43 : decode cX2_shift 43 = .ok (.if_icmp .ge 13, 3) := by decide +kernel
theorem dX2_shift_46 : decode cX2_shift 46 = .ok (.aload_n 0, 1) := by decide +kernel
theorem dX2_shift_47 : decode cX2_shift 47 = .ok (.dup, 1) := by decide +kernel
theorem dX2_shift_48 : decode cX2_shift 48 = .ok (.getfield 39, 3) := by decide +kernel
theorem dX2_shift_51 : decode cX2_shift 51 = .ok (.iconst 1, 1) := by decide +kernel
theorem dX2_shift_52 : decode cX2_shift 52 = .ok (.iadd, 1) := by decide +kernel
theorem dX2_shift_53 : decode cX2_shift 53 = .ok (.putfield 39, 3) := by decide +kernel
theorem dX2_shift_56 : decode cX2_shift 56 = .ok (.aload_n 0, 1) := by decide +kernel
theorem dX2_shift_57 : decode cX2_shift 57 = .ok (.invokevirtual 80, 3) := by decide +kernel
theorem dX2_shift_60 : decode cX2_shift 60 = .ok (.aload_n 0, 1) := by decide +kernel
theorem dX2_shift_61 : decode cX2_shift 61 = .ok (.invokevirtual 83, 3) := by decide +kernel
theorem dX2_shift_64 : decode cX2_shift 64 = .ok (.return_, 1) := by decide +kernel
theorem dX2_noteChanges_0 : decode cX2_noteChanges 0 = .ok (.iconst 0, 1) := by decide +kernel
theorem dX2_noteChanges_1 : decode cX2_noteChanges 1 = .ok (.istore_n 1, 1) := by decide +kernel
theorem dX2_noteChanges_2 : decode cX2_noteChanges 2 = .ok (.iload_n 1, 1) := by decide +kernel
theorem dX2_noteChanges_3 : decode cX2_noteChanges 3 = .ok (.bipush 48, 2) := by decide +kernel
theorem dX2_noteChanges_5 : decode cX2_noteChanges 5 = .ok (.if_icmp .ge 34, 3) := by decide +kernel
theorem dX2_noteChanges_8 : decode cX2_noteChanges 8 = .ok (.aload_n 0, 1) := by decide +kernel
theorem dX2_noteChanges_9 : decode cX2_noteChanges 9 = .ok (.getfield 9, 3) := by decide +kernel
theorem dX2_noteChanges_12 : decode cX2_noteChanges 12 = .ok (.iload_n 1, 1) := by decide +kernel
theorem dX2_noteChanges_13 : decode cX2_noteChanges 13 = .ok (.iaload, 1) := by decide +kernel
theorem dX2_noteChanges_14 : decode cX2_noteChanges 14 = .ok (.aload_n 0, 1) := by decide +kernel
theorem dX2_noteChanges_15 : decode cX2_noteChanges 15 = .ok (.getfield 30, 3) := by decide +kernel
theorem dX2_noteChanges_18 : decode cX2_noteChanges 18 = .ok (.iload_n 1, 1) := by decide +kernel
theorem dX2_noteChanges_19 : decode cX2_noteChanges 19 = .ok (.iaload, 1) := by decide +kernel
theorem dX2_noteChanges_20 : decode cX2_noteChanges 20 = .ok (.if_icmp .eq 13, 3) := by decide +kernel
theorem dX2_noteChanges_23 : decode cX2_noteChanges 23 = .ok (.aload_n 0, 1) := by decide +kernel
theorem dX2_noteChanges_24 : decode cX2_noteChanges 24 = .ok (.getfield 21, 3) := by decide +kernel
theorem dX2_noteChanges_27 : decode cX2_noteChanges 27 = .ok (.iload_n 1, 1) := by decide +kernel
theorem dX2_noteChanges_28 : decode cX2_noteChanges 28 = .ok (.dup2, 1) := by decide +kernel
theorem dX2_noteChanges_29 : decode cX2_noteChanges 29 = .ok (.iaload, 1) := by decide +kernel
theorem dX2_noteChanges_30 : decode cX2_noteChanges 30 = .ok (.iconst 1, 1) := by decide +kernel
theorem dX2_noteChanges_31 : decode cX2_noteChanges 31 = .ok (.ior, 1) := by decide +kernel
theorem dX2_noteChanges_32 : decode cX2_noteChanges 32 = .ok (.iastore, 1) := by decide +kernel
theorem dX2_noteChanges_33 : decode cX2_noteChanges 33 = .ok (.iinc 1 1, 3) := by decide +kernel
theorem dX2_noteChanges_36 : decode cX2_noteChanges 36 = .ok (.goto (-34), 3) := by decide +kernel
theorem dX2_noteChanges_39 : decode cX2_noteChanges 39 = .ok (.return_, 1) := by decide +kernel
theorem dX2_noteUnlike_0 : decode cX2_noteUnlike 0 = .ok (.iconst 0, 1) := by decide +kernel
theorem dX2_noteUnlike_1 : decode cX2_noteUnlike 1 = .ok (.istore_n 1, 1) := by decide +kernel
theorem dX2_noteUnlike_2 : decode cX2_noteUnlike 2 = .ok (.iload_n 1, 1) := by decide +kernel
theorem dX2_noteUnlike_3 : decode cX2_noteUnlike 3 = .ok (.bipush 48, 2) := by decide +kernel
theorem dX2_noteUnlike_5 : decode cX2_noteUnlike 5 = .ok (.if_icmp .ge 54, 3) := by decide +kernel
theorem dX2_noteUnlike_8 : decode cX2_noteUnlike 8 = .ok (.aload_n 0, 1) := by decide +kernel
theorem dX2_noteUnlike_9 : decode cX2_noteUnlike 9 = .ok (.getfield 9, 3) := by decide +kernel
theorem dX2_noteUnlike_12 : decode cX2_noteUnlike 12 = .ok (.iload_n 1, 1) := by decide +kernel
theorem dX2_noteUnlike_13 : decode cX2_noteUnlike 13 = .ok (.iaload, 1) := by decide +kernel
theorem dX2_noteUnlike_14 : decode cX2_noteUnlike 14 = .ok (.aload_n 0, 1) := by decide +kernel
theorem dX2_noteUnlike_15 : decode cX2_noteUnlike 15 = .ok (.getfield 15, 3) := by decide +kernel
theorem dX2_noteUnlike_18 : decode cX2_noteUnlike 18 = .ok (.iload_n 1, 1) := by decide +kernel
theorem dX2_noteUnlike_19 : decode cX2_noteUnlike 19 = .ok (.iaload, 1) := by decide +kernel
theorem dX2_noteUnlike_20 : decode cX2_noteUnlike 20 = .ok (.if_icmp .ne 13, 3) := by decide +kernel
theorem dX2_noteUnlike_23 : decode cX2_noteUnlike 23 = .ok (.aload_n 0, 1) := by decide +kernel
theorem dX2_noteUnlike_24 : decode cX2_noteUnlike 24 = .ok (.getfield 18, 3) := by decide +kernel
theorem dX2_noteUnlike_27 : decode cX2_noteUnlike 27 = .ok (.iload_n 1, 1) := by decide +kernel
theorem dX2_noteUnlike_28 : decode cX2_noteUnlike 28 = .ok (.iconst (-1), 1) := by decide +kernel
theorem dX2_noteUnlike_29 : decode cX2_noteUnlike 29 = .ok (.iastore, 1) := by decide +kernel
theorem dX2_noteUnlike_30 : decode cX2_noteUnlike 30 = .ok (.goto 23, 3) := by decide +kernel
theorem dX2_noteUnlike_33 : decode cX2_noteUnlike 33 = .ok (.aload_n 0, 1) := by decide +kernel
theorem dX2_noteUnlike_34 : decode cX2_noteUnlike 34 = .ok (.getfield 18, 3) := by decide +kernel
theorem dX2_noteUnlike_37 : decode cX2_noteUnlike 37 = .ok (.iload_n 1, 1) := by decide +kernel
theorem dX2_noteUnlike_38 : decode cX2_noteUnlike 38 = .ok (.iaload, 1) := by decide +kernel
theorem dX2_noteUnlike_39 : decode cX2_noteUnlike 39 = .ok (.iconst (-1), 1) := by decide +kernel
theorem dX2_noteUnlike_40 : decode cX2_noteUnlike 40 = .ok (.if_icmp .ne 13, 3) := by decide +kernel
theorem dX2_noteUnlike_43 : decode cX2_noteUnlike 43 = .ok (.aload_n 0, 1) := by decide +kernel
theorem dX2_noteUnlike_44 : decode cX2_noteUnlike 44 = .ok (.getfield 18, 3) := by decide +kernel
theorem dX2_noteUnlike_47 : decode cX2_noteUnlike 47 = .ok (.iload_n 1, 1) := by decide +kernel
theorem dX2_noteUnlike_48 : decode cX2_noteUnlike 48 = .ok (.aload_n 0, 1) := by decide +kernel
theorem dX2_noteUnlike_49 : decode cX2_noteUnlike 49 = .ok (.getfield 56, 3) := by decide +kernel
theorem dX2_noteUnlike_52 : decode cX2_noteUnlike 52 = .ok (.iastore, 1) := by decide +kernel
theorem dX2_noteUnlike_53 : decode cX2_noteUnlike 53 = .ok (.iinc 1 1, 3) := by decide +kernel
theorem dX2_noteUnlike_56 : decode cX2_noteUnlike 56 = .ok (.goto (-54), 3) := by decide +kernel
theorem dX2_noteUnlike_59 : decode cX2_noteUnlike 59 = .ok (.return_, 1) := by decide +kernel
theorem dX2_kindOf_0 : decode cX2_kindOf 0 = .ok (.aload_n 0, 1) := by decide +kernel
theorem dX2_kindOf_1 : decode cX2_kindOf 1 = .ok (.getfield 21, 3) := by decide +kernel
theorem dX2_kindOf_4 : decode cX2_kindOf 4 = .ok (.iload_n 1, 1) := by decide +kernel
theorem dX2_kindOf_5 : decode cX2_kindOf 5 = .ok (.iaload, 1) := by decide +kernel
theorem dX2_kindOf_6 : decode cX2_kindOf 6 = .ok (.invokestatic 94, 3) := by decide +kernel
theorem dX2_kindOf_9 : decode cX2_kindOf 9 = .ok (.iconst 4, 1) := by decide +kernel
theorem dX2_kindOf_10 : decode cX2_kindOf 10 = .ok (.if_icmp .lt 5, 3) := by decide +kernel
theorem dX2_kindOf_13 : decode cX2_kindOf 13 = .ok (.iconst 2, 1) := by decide +kernel
theorem dX2_kindOf_14 : decode cX2_kindOf 14 = .ok (.ireturn, 1) := by decide +kernel
theorem dX2_kindOf_15 : decode cX2_kindOf 15 = .ok (.aload_n 0, 1) := by decide +kernel
theorem dX2_kindOf_16 : decode cX2_kindOf 16 = .ok (.getfield 9, 3) := by decide +kernel
theorem dX2_kindOf_19 : decode cX2_kindOf 19 = .ok (.iload_n 1, 1) := by decide +kernel
theorem dX2_kindOf_20 : decode cX2_kindOf 20 = .ok (.iaload, 1) := by decide +kernel
theorem dX2_kindOf_21 : decode cX2_kindOf 21 = .ok (.bipush 64, 2) := by decide +kernel
theorem dX2_kindOf_23 : decode cX2_kindOf 23 = .ok (.if_icmp .ge 7, 3) := by decide +kernel
theorem dX2_kindOf_26 : decode cX2_kindOf 26 = .ok (.iconst 0, 1) := by decide +kernel
theorem dX2_kindOf_27 : decode cX2_kindOf 27 = .ok (.goto 4, 3) := by decide +kernel
theorem dX2_kindOf_30 : decode cX2_kindOf 30 = .ok (.iconst 1, 1) := by decide +kernel
theorem dX2_kindOf_31 : decode cX2_kindOf 31 = .ok (.ireturn, 1) := by decide +kernel
theorem dX2_hasFilm_0 : decode cX2_hasFilm 0 = .ok (.iconst 0, 1) := by decide +kernel
theorem dX2_hasFilm_1 : decode cX2_hasFilm 1 = .ok (.istore_n 1, 1) := by decide +kernel
theorem dX2_hasFilm_2 : decode cX2_hasFilm 2 = .ok (.iload_n 1, 1) := by decide +kernel
theorem dX2_hasFilm_3 : decode cX2_hasFilm 3 = .ok (.bipush 48, 2) := by decide +kernel
theorem dX2_hasFilm_5 : decode cX2_hasFilm 5 = .ok (.if_icmp .ge 20, 3) := by decide +kernel
theorem dX2_hasFilm_8 : decode cX2_hasFilm 8 = .ok (.aload_n 0, 1) := by decide +kernel
theorem dX2_hasFilm_9 : decode cX2_hasFilm 9 = .ok (.iload_n 1, 1) := by decide +kernel
theorem dX2_hasFilm_10 : decode cX2_hasFilm 10 = .ok (.invokevirtual 100, 3) := by decide +kernel
theorem dX2_hasFilm_13 : decode cX2_hasFilm 13 = .ok (.iconst 2, 1) := by decide +kernel
theorem dX2_hasFilm_14 : decode cX2_hasFilm 14 = .ok (.if_icmp .ne 5, 3) := by decide +kernel
theorem dX2_hasFilm_17 : decode cX2_hasFilm 17 = .ok (.iconst 1, 1) := by decide +kernel
theorem dX2_hasFilm_18 : decode cX2_hasFilm 18 = .ok (.ireturn, 1) := by decide +kernel
theorem dX2_hasFilm_19 : decode cX2_hasFilm 19 = .ok (.iinc 1 1, 3) := by decide +kernel
theorem dX2_hasFilm_22 : decode cX2_hasFilm 22 = .ok (.goto (-20), 3) := by decide +kernel
theorem dX2_hasFilm_25 : decode cX2_hasFilm 25 = .ok (.iconst 0, 1) := by decide +kernel
theorem dX2_hasFilm_26 : decode cX2_hasFilm 26 = .ok (.ireturn, 1) := by decide +kernel
theorem dX2_unlikeSet_0 : decode cX2_unlikeSet 0 = .ok (.lconst 0, 1) := by decide +kernel
theorem dX2_unlikeSet_1 : decode cX2_unlikeSet 1 = .ok (.lstore_n 1, 1) := by decide +kernel
theorem dX2_unlikeSet_2 : decode cX2_unlikeSet 2 = .ok (.iconst 0, 1) := by decide +kernel
theorem dX2_unlikeSet_3 : decode cX2_unlikeSet 3 = .ok (.istore_n 3, 1) := by decide +kernel
theorem dX2_unlikeSet_4 : decode cX2_unlikeSet 4 = .ok (.iload_n 3, 1) := by decide +kernel
theorem dX2_unlikeSet_5 : decode cX2_unlikeSet 5 = .ok (.bipush 48, 2) := by decide +kernel
theorem dX2_unlikeSet_7 : decode cX2_unlikeSet 7 = .ok (.if_icmp .ge 25, 3) := by decide +kernel
theorem dX2_unlikeSet_10 : decode cX2_unlikeSet 10 = .ok (.aload_n 0, 1) := by decide +kernel
theorem dX2_unlikeSet_11 : decode cX2_unlikeSet 11 = .ok (.getfield 18, 3) := by decide +kernel
theorem dX2_unlikeSet_14 : decode cX2_unlikeSet 14 = .ok (.iload_n 3, 1) := by decide +kernel
theorem dX2_unlikeSet_15 : decode cX2_unlikeSet 15 = .ok (.iaload, 1) := by decide +kernel
theorem dX2_unlikeSet_16 : decode cX2_unlikeSet 16 = .ok (.iconst (-1), 1) := by decide +kernel
theorem dX2_unlikeSet_17 : decode cX2_unlikeSet 17 = .ok (.if_icmp .eq 9, 3) := by decide +kernel
theorem dX2_unlikeSet_20 : decode cX2_unlikeSet 20 = .ok (.lload_n 1, 1) := by decide +kernel
theorem dX2_unlikeSet_21 : decode cX2_unlikeSet 21 = .ok (.lconst 1, 1) := by decide +kernel
theorem dX2_unlikeSet_22 : decode cX2_unlikeSet 22 = .ok (.iload_n 3, 1) := by decide +kernel
theorem dX2_unlikeSet_23 : decode cX2_unlikeSet 23 = .ok (.lshl, 1) := by decide +kernel
theorem dX2_unlikeSet_24 : decode cX2_unlikeSet 24 = .ok (.lor, 1) := by decide +kernel
theorem dX2_unlikeSet_25 : decode cX2_unlikeSet 25 = .ok (.lstore_n 1, 1) := by decide +kernel
theorem dX2_unlikeSet_26 : decode cX2_unlikeSet 26 = .ok (.iinc 3 1, 3) := by decide +kernel
theorem dX2_unlikeSet_29 : decode cX2_unlikeSet 29 = .ok (.goto (-25), 3) := by decide +kernel
theorem dX2_unlikeSet_32 : decode cX2_unlikeSet 32 = .ok (.lload_n 1, 1) := by decide +kernel
theorem dX2_unlikeSet_33 : decode cX2_unlikeSet 33 = .ok (.lreturn, 1) := by decide +kernel
theorem dX2_countUnlike_0 : decode cX2_countUnlike 0 = .ok (.aload_n 0, 1) := by decide +kernel
theorem dX2_countUnlike_1 : decode cX2_countUnlike 1 = .ok (.invokevirtual 103, 3) := by decide +kernel
theorem dX2_countUnlike_4 : decode cX2_countUnlike 4 = .ok (.invokestatic 107, 3) := by decide +kernel
theorem dX2_countUnlike_7 : decode cX2_countUnlike 7 = .ok (.ireturn, 1) := by decide +kernel
theorem dX2_countRough_0 : decode cX2_countRough 0 = .ok (.iconst 0, 1) := by decide +kernel
theorem dX2_countRough_1 : decode cX2_countRough 1 = .ok (.istore_n 1, 1) := by decide +kernel
theorem dX2_countRough_2 : decode cX2_countRough 2 = .ok (.iconst 0, 1) := by decide +kernel
theorem dX2_countRough_3 : decode cX2_countRough 3 = .ok (.istore_n 2, 1) := by decide +kernel
theorem dX2_countRough_4 : decode cX2_countRough 4 = .ok (.iload_n 2, 1) := by decide +kernel
theorem dX2_countRough_5 : decode cX2_countRough 5 = .ok (.bipush 48, 2) := by decide +kernel
theorem dX2_countRough_7 : decode cX2_countRough 7 = .ok (.if_icmp .ge 24, 3) := by decide +kernel
theorem dX2_countRough_10 : decode cX2_countRough 10 = .ok (.aload_n 0, 1) := by decide +kernel
theorem dX2_countRough_11 : decode cX2_countRough 11 = .ok (.getfield 15, 3) := by decide +kernel
theorem dX2_countRough_14 : decode cX2_countRough 14 = .ok (.iload_n 2, 1) := by decide +kernel
theorem dX2_countRough_15 : decode cX2_countRough 15 = .ok (.iaload, 1) := by decide +kernel
theorem dX2_countRough_16 : decode cX2_countRough 16 = .ok (.sipush 1000, 3) := by decide +kernel
theorem dX2_countRough_19 : decode cX2_countRough 19 = .ok (.if_icmp .lt 6, 3) := by decide +kernel
theorem dX2_countRough_22 : decode cX2_countRough 22 = .ok (.iinc 1 1, 3) := by decide +kernel
theorem dX2_countRough_25 : decode cX2_countRough 25 = .ok (.iinc 2 1, 3) := by decide +kernel
theorem dX2_countRough_28 : decode cX2_countRough 28 = .ok (.goto (-24), 3) := by decide +kernel
theorem dX2_countRough_31 : decode cX2_countRough 31 = .ok (.iload_n 1, 1) := by decide +kernel
theorem dX2_countRough_32 : decode cX2_countRough 32 = .ok (.ireturn, 1) := by decide +kernel
theorem dX2_isAllSent_0 : decode cX2_isAllSent 0 = .ok (.aload_n 0, 1) := by decide +kernel
theorem dX2_isAllSent_1 : decode cX2_isAllSent 1 = .ok (.getfield 39, 3) := by decide +kernel
theorem dX2_isAllSent_4 : decode cX2_isAllSent 4 = .ok (.ifCond .ne 16, 3) := by decide +kernel
theorem dX2_isAllSent_7 : decode cX2_isAllSent 7 = .ok (.aload_n 0, 1) := by decide +kernel
theorem dX2_isAllSent_8 : decode cX2_isAllSent 8 = .ok (.invokevirtual 103, 3) := by decide +kernel
theorem dX2_isAllSent_11 : decode cX2_isAllSent 11 = .ok (.lconst 0, 1) := by decide +kernel
theorem dX2_isAllSent_12 : decode cX2_isAllSent 12 = .ok (.lcmp, 1) := by decide +kernel
theorem dX2_isAllSent_13 : decode cX2_isAllSent 13 = .ok (.ifCond .ne 7, 3) := by decide +kernel
theorem dX2_isAllSent_16 : decode cX2_isAllSent 16 = .ok (.iconst 1, 1) := by decide +kernel
theorem dX2_isAllSent_17 : decode cX2_isAllSent 17 = .ok (.goto 4, 3) := by decide +kernel
theorem dX2_isAllSent_20 : decode cX2_isAllSent 20 = .ok (.iconst 0, 1) := by decide +kernel
theorem dX2_isAllSent_21 : decode cX2_isAllSent 21 = .ok (.ireturn, 1) := by decide +kernel
theorem dX2_passStep_0 : decode cX2_passStep 0 = .ok (.aload_n 0, 1) := by decide +kernel
theorem dX2_passStep_1 : decode cX2_passStep 1 = .ok (.iload_n 1, 1) := by decide +kernel
theorem dX2_passStep_2 : decode cX2_passStep 2 = .ok (.invokevirtual 112, 3) := by decide +kernel
theorem dX2_passStep_5 : decode cX2_passStep 5 = .ok (.istore_n 2, 1) := by decide +kernel
theorem dX2_passStep_6 : decode cX2_passStep 6 = .ok (.aload_n 0, 1) := by decide +kernel
theorem dX2_passStep_7 : decode cX2_passStep 7 = .ok (.getfield 39, 3) := by decide +kernel
theorem dX2_passStep_10 : decode cX2_passStep 10 = .ok (.ifCond .ne 13, 3) := by decide +kernel
theorem dX2_passStep_13 : decode cX2_passStep 13 = .ok (.iload_n 2, 1) := by decide +kernel
theorem dX2_passStep_14 : decode cX2_passStep 14 = .ok (.aload_n 0, 1) := by decide +kernel
theorem dX2_passStep_15 : decode cX2_passStep 15 = .ok (.iload_n 1, 1) := by decide +kernel
theorem dX2_passStep_16 : decode cX2_passStep 16 = .ok (.iload_n 2, 1) := by decide +kernel
theorem dX2_passStep_17 : decode cX2_passStep 17 = .ok (.isub, 1) := by decide +kernel
theorem dX2_passStep_18 : decode cX2_passStep 18 = .ok (.invokevirtual 115, 3) := by decide +kernel
theorem dX2_passStep_21 : decode cX2_passStep 21 = .ok (.iadd, 1) := by decide +kernel
theorem dX2_passStep_22 : decode cX2_passStep 22 = .ok (.istore_n 2, 1) := by decide +kernel
theorem dX2_passStep_23 : decode cX2_passStep 23 = .ok (.aload_n 0, 1) := by decide +kernel
theorem dX2_passStep_24 : decode cX2_passStep 24 = .ok (.dup, 1) := by decide +kernel
theorem dX2_passStep_25 : decode cX2_passStep 25 = .ok (.getfield 53, 3) := by decide +kernel
theorem dX2_passStep_28 : decode cX2_passStep 28 = .ok (.iload_n 2, 1) := by decide +kernel
theorem dX2_passStep_29 : decode cX2_passStep 29 = .ok (.iadd, 1) := by decide +kernel
theorem dX2_passStep_30 : decode cX2_passStep 30 = .ok (.putfield 53, 3) := by decide +kernel
theorem dX2_passStep_33 : decode cX2_passStep 33 = .ok (.aload_n 0, 1) := by decide +kernel
theorem dX2_passStep_34 : decode cX2_passStep 34 = .ok (.dup, 1) := by decide +kernel
theorem dX2_passStep_35 : decode cX2_passStep 35 = .ok (.getfield 56, 3) := by decide +kernel
theorem dX2_passStep_38 : decode cX2_passStep 38 = .ok (.iconst 1, 1) := by decide +kernel
theorem dX2_passStep_39 : decode cX2_passStep 39 = .ok (.iadd, 1) := by decide +kernel
theorem dX2_passStep_40 : decode cX2_passStep 40 = .ok (.putfield 56, 3) := by decide +kernel
theorem dX2_passStep_43 : decode cX2_passStep 43 = .ok (.aload_n 0, 1) := by decide +kernel
theorem dX2_passStep_44 : decode cX2_passStep 44 = .ok (.invokevirtual 118, 3) := by decide +kernel
theorem dX2_passStep_47 : decode cX2_passStep 47 = .ok (.iload_n 2, 1) := by decide +kernel
theorem dX2_passStep_48 : decode cX2_passStep 48 = .ok (.ireturn, 1) := by decide +kernel
theorem dX2_tellMoves_0 : decode cX2_tellMoves 0 = .ok (.iconst 0, 1) := by decide +kernel
theorem dX2_tellMoves_1 : decode cX2_tellMoves 1 = .ok (.istore_n 2, 1) := by decide +kernel
theorem dX2_tellMoves_2 : decode cX2_tellMoves 2 = .ok (.iload_n 2, 1) := by decide +kernel
theorem dX2_tellMoves_3 : decode cX2_tellMoves 3 = .ok (.aload_n 0, 1) := by decide +kernel
theorem dX2_tellMoves_4 : decode cX2_tellMoves 4 = .ok (.getfield 39, 3) := by decide +kernel
theorem dX2_tellMoves_7 : decode cX2_tellMoves 7 = .ok (.if_icmp .ge 39, 3) := by decide +kernel
theorem dX2_tellMoves_10 : decode cX2_tellMoves 10 = .ok (.iload_n 1, 1) := by decide +kernel
theorem dX2_tellMoves_11 : decode cX2_tellMoves 11 = .ok (.iload_n 2, 1) := by decide +kernel
theorem dX2_tellMoves_12 : decode cX2_tellMoves 12 = .ok (.iconst 2, 1) := by decide +kernel
theorem dX2_tellMoves_13 : decode cX2_tellMoves 13 = .ok (.imul, 1) := by decide +kernel
theorem dX2_tellMoves_14 : decode cX2_tellMoves 14 = .ok (.isub, 1) := by decide +kernel
theorem dX2_tellMoves_15 : decode cX2_tellMoves 15 = .ok (.iconst 2, 1) := by decide +kernel
theorem dX2_tellMoves_16 : decode cX2_tellMoves 16 = .ok (.if_icmp .lt 30, 3) := by decide +kernel
theorem dX2_tellMoves_19 : decode cX2_tellMoves 19 = .ok (.aload_n 0, 1) := by decide +kernel
theorem dX2_tellMoves_20 : decode cX2_tellMoves 20 = .ok (.getfield 35, 3) := by decide +kernel
theorem dX2_tellMoves_23 : decode cX2_tellMoves 23 = .ok (.iload_n 2, 1) := by decide +kernel
theorem dX2_tellMoves_24 : decode cX2_tellMoves 24 = .ok (.aaload, 1) := by decide +kernel
theorem dX2_tellMoves_25 : decode cX2_tellMoves 25 = .ok (.aload_n 0, 1) := by decide +kernel
theorem dX2_tellMoves_26 : decode cX2_tellMoves 26 = .ok (.getfield 15, 3) := by decide +kernel
theorem dX2_tellMoves_29 : decode cX2_tellMoves 29 = .ok (.aload_n 0, 1) := by decide +kernel
theorem dX2_tellMoves_30 : decode cX2_tellMoves 30 = .ok (.getfield 30, 3) := by decide +kernel
theorem dX2_tellMoves_33 : decode cX2_tellMoves 33 = .ok (.invokevirtual 90, 3) := by decide +kernel
theorem dX2_tellMoves_36 : decode cX2_tellMoves 36 = .ok (.aload_n 0, 1) := by decide +kernel
theorem dX2_tellMoves_37 : decode cX2_tellMoves 37 = .ok (.invokevirtual 83, 3) := by decide +kernel
theorem dX2_tellMoves_40 : decode cX2_tellMoves 40 = .ok (.iinc 2 1, 3) := by decide +kernel
theorem dX2_tellMoves_43 : decode cX2_tellMoves 43 = .ok (.goto (-41), 3) := by decide +kernel
theorem dX2_tellMoves_46 : decode cX2_tellMoves 46 = .ok (.aload_n 0, 1) := by decide +kernel
theorem dX2_tellMoves_47 : decode cX2_tellMoves 47 = .ok (.iload_n 2, 1) := by decide +kernel
theorem dX2_tellMoves_48 : decode cX2_tellMoves 48 = .ok (.invokevirtual 121, 3) := by decide +kernel
theorem dX2_tellMoves_51 : decode cX2_tellMoves 51 = .ok (.aload_n 0, 1) := by decide +kernel
theorem dX2_tellMoves_52 : decode cX2_tellMoves 52 = .ok (.getfield 50, 3) := by decide +kernel
theorem dX2_tellMoves_55 : decode cX2_tellMoves 55 = .ok (.iconst 0, 1) := by decide +kernel
theorem dX2_tellMoves_56 : decode cX2_tellMoves 56 = .ok (.dup2, 1) := by decide +kernel
theorem dX2_tellMoves_57 : decode cX2_tellMoves 57 = .ok (.iaload, 1) := by decide +kernel
theorem dX2_tellMoves_58 : decode cX2_tellMoves 58 = .ok (.iload_n 2, 1) := by decide +kernel
theorem dX2_tellMoves_59 : decode cX2_tellMoves 59 = .ok (.iadd, 1) := by decide +kernel
theorem dX2_tellMoves_60 : decode cX2_tellMoves 60 = .ok (.iastore, 1) := by decide +kernel
theorem dX2_tellMoves_61 : decode cX2_tellMoves 61 = .ok (.iload_n 2, 1) := by decide +kernel
theorem dX2_tellMoves_62 : decode cX2_tellMoves 62 = .ok (.iconst 2, 1) := by decide +kernel
theorem dX2_tellMoves_63 : decode cX2_tellMoves 63 = .ok (.imul, 1) := by decide +kernel
theorem dX2_tellMoves_64 : decode cX2_tellMoves 64 = .ok (.ireturn, 1) := by decide +kernel
theorem dX2_forgetMoves_0 : decode cX2_forgetMoves 0 = .ok (.iload_n 1, 1) := by decide +kernel
theorem dX2_forgetMoves_1 : decode cX2_forgetMoves 1 = .ok (.istore_n 2, 1) := by decide +kernel
theorem dX2_forgetMoves_2 : decode cX2_forgetMoves 2 = .ok (.iload_n 2, 1) := by decide +kernel
theorem dX2_forgetMoves_3 : decode cX2_forgetMoves 3 = .ok (.aload_n 0, 1) := by decide +kernel
theorem dX2_forgetMoves_4 : decode cX2_forgetMoves 4 = .ok (.getfield 39, 3) := by decide +kernel
theorem dX2_forgetMoves_7 : decode cX2_forgetMoves 7 = .ok (.if_icmp .ge 26, 3) := by decide +kernel
theorem dX2_forgetMoves_10 : decode cX2_forgetMoves 10 = .ok (.aload_n 0, 1) := by decide +kernel
theorem dX2_forgetMoves_11 : decode cX2_forgetMoves 11 = .ok (.getfield 35, 3) := by decide +kernel
theorem dX2_forgetMoves_14 : decode cX2_forgetMoves 14 = .ok (.iload_n 2, 1) := by decide +kernel
theorem dX2_forgetMoves_15 : decode cX2_forgetMoves 15 = .ok (.iload_n 1, 1) := by decide +kernel
theorem dX2_forgetMoves_16 : decode cX2_forgetMoves 16 = .ok (.isub, 1) := by decide +kernel
theorem dX2_forgetMoves_17 : decode cX2_forgetMoves 17 = .ok (.aaload, 1) := by decide +kernel
theorem dX2_forgetMoves_18 : decode cX2_forgetMoves 18 = .ok (.aload_n 0, 1) := by decide +kernel
theorem dX2_forgetMoves_19 : decode cX2_forgetMoves 19 = .ok (.getfield 35, 3) := by decide +kernel
theorem dX2_forgetMoves_22 : decode cX2_forgetMoves 22 = .ok (.iload_n 2, 1) := by decide +kernel
theorem dX2_forgetMoves_23 : decode cX2_forgetMoves 23 = .ok (.aaload, 1) := by decide +kernel
theorem dX2_forgetMoves_24 : decode cX2_forgetMoves 24 = .ok (.invokevirtual 69, 3) := by decide +kernel
theorem dX2_forgetMoves_27 : decode cX2_forgetMoves 27 = .ok (.iinc 2 1, 3) := by decide +kernel
theorem dX2_forgetMoves_30 : decode cX2_forgetMoves 30 = .ok (.goto (-28), 3) := by decide +kernel
theorem dX2_forgetMoves_33 : decode cX2_forgetMoves 33 = .ok (.aload_n 0, 1) := by decide +kernel
theorem dX2_forgetMoves_34 : decode cX2_forgetMoves 34 = .ok (.dup, 1) := by decide +kernel
theorem dX2_forgetMoves_35 : decode cX2_forgetMoves 35 = .ok (.getfield 39, 3) := by decide +kernel
theorem dX2_forgetMoves_38 : decode cX2_forgetMoves 38 = .ok (.iload_n 1, 1) := by decide +kernel
theorem dX2_forgetMoves_39 : decode cX2_forgetMoves 39 = .ok (.isub, 1) := by decide +kernel
theorem dX2_forgetMoves_40 : decode cX2_forgetMoves 40 = .ok (.putfield 39, 3) := by decide +kernel
theorem dX2_forgetMoves_43 : decode cX2_forgetMoves 43 = .ok (.return_, 1) := by decide +kernel
theorem dX2_sendTiles_0 : decode cX2_sendTiles 0 = .ok (.aload_n 0, 1) := by decide +kernel
theorem dX2_sendTiles_1 : decode cX2_sendTiles 1 = .ok (.invokevirtual 125, 3) := by decide +kernel
theorem dX2_sendTiles_4 : decode cX2_sendTiles 4 = .ok (.istore_n 2, 1) := by decide +kernel
theorem dX2_sendTiles_5 : decode cX2_sendTiles 5 = .ok (.iload_n 1, 1) := by decide +kernel
theorem dX2_sendTiles_6 : decode cX2_sendTiles 6 = .ok (.istore_n 3, 1) := by decide +kernel
theorem dX2_sendTiles_7 : decode cX2_sendTiles 7 = .ok (.iconst 0, 1) := by decide +kernel
theorem dX2_sendTiles_8 : decode cX2_sendTiles 8 = .ok (.istore 4, 2) := by decide +kernel
theorem dX2_sendTiles_10 : decode cX2_sendTiles 10 = .ok (.iload 4, 2) := by decide +kernel
theorem dX2_sendTiles_12 : decode cX2_sendTiles 12 = .ok (.iload_n 2, 1) := by decide +kernel
theorem dX2_sendTiles_13 : decode cX2_sendTiles 13 = .ok (.if_icmp .ge 24, 3) := by decide +kernel
theorem dX2_sendTiles_16 : decode cX2_sendTiles 16 = .ok (.iload_n 3, 1) := by decide +kernel
theorem dX2_sendTiles_17 : decode cX2_sendTiles 17 = .ok (.aload_n 0, 1) := by decide +kernel
theorem dX2_sendTiles_18 : decode cX2_sendTiles 18 = .ok (.aload_n 0, 1) := by decide +kernel
theorem dX2_sendTiles_19 : decode cX2_sendTiles 19 = .ok (.getfield 27, 3) := by decide +kernel
theorem dX2_sendTiles_22 : decode cX2_sendTiles 22 = .ok (.iload 4, 2) := by decide +kernel
theorem dX2_sendTiles_24 : decode cX2_sendTiles 24 = .ok (.iaload, 1) := by decide +kernel
theorem dX2_sendTiles_25 : decode cX2_sendTiles 25 = .ok (.iload_n 3, 1) := by decide +kernel
theorem dX2_sendTiles_26 : decode cX2_sendTiles 26 = .ok (.invokevirtual 129, 3) := by decide +kernel
theorem dX2_sendTiles_29 : decode cX2_sendTiles 29 = .ok (.isub, 1) := by decide +kernel
theorem dX2_sendTiles_30 : decode cX2_sendTiles 30 = .ok (.istore_n 3, 1) := by decide +kernel
theorem dX2_sendTiles_31 : decode cX2_sendTiles 31 = .ok (.iinc 4 1, 3) := by decide +kernel
theorem dX2_sendTiles_34 : decode cX2_sendTiles 34 = .ok (.goto (-24), 3) := by decide +kernel
theorem dX2_sendTiles_37 : decode cX2_sendTiles 37 = .ok (.iload_n 1, 1) := by decide +kernel
theorem dX2_sendTiles_38 : decode cX2_sendTiles 38 = .ok (.iload_n 3, 1) := by decide +kernel
theorem dX2_sendTiles_39 : decode cX2_sendTiles 39 = .ok (.isub, 1) := by decide +kernel
theorem dX2_sendTiles_40 : decode cX2_sendTiles 40 = .ok (.ireturn, 1) := by decide +kernel
theorem dX2_putInOrder_0 : decode cX2_putInOrder 0 = .ok (.iconst 0, 1) := by decide +kernel
theorem dX2_putInOrder_1 : decode cX2_putInOrder 1 = .ok (.istore_n 1, 1) := by decide +kernel
theorem dX2_putInOrder_2 : decode cX2_putInOrder 2 = .ok (.iconst 0, 1) := by decide +kernel
theorem dX2_putInOrder_3 : decode cX2_putInOrder 3 = .ok (.istore_n 2, 1) := by decide +kernel
theorem dX2_putInOrder_4 : decode cX2_putInOrder 4 = .ok (.iload_n 2, 1) := by decide +kernel
theorem dX2_putInOrder_5 : decode cX2_putInOrder 5 = .ok (.bipush 48, 2) := by decide +kernel
theorem dX2_putInOrder_7 : decode cX2_putInOrder 7 = .ok (.if_icmp .ge 39, 3) := by decide +kernel
theorem dX2_putInOrder_10 : decode cX2_putInOrder 10 = .ok (.aload_n 0, 1) := by decide +kernel
theorem dX2_putInOrder_11 : decode cX2_putInOrder 11 = .ok (.getfield 18, 3) := by decide +kernel
theorem dX2_putInOrder_14 : decode cX2_putInOrder 14 = .ok (.iload_n 2, 1) := by decide +kernel
theorem dX2_putInOrder_15 : decode cX2_putInOrder 15 = .ok (.iaload, 1) := by decide +kernel
theorem dX2_putInOrder_16 : decode cX2_putInOrder 16 = .ok (.iconst (-1), 1) := by decide +kernel
theorem dX2_putInOrder_17 : decode cX2_putInOrder 17 = .ok (.if_icmp .eq 23, 3) := by decide +kernel
theorem dX2_putInOrder_20 : decode cX2_putInOrder 20 = .ok (.aload_n 0, 1) := by decide +kernel
theorem dX2_putInOrder_21 : decode cX2_putInOrder 21 = .ok (.getfield 24, 3) := by decide +kernel
theorem dX2_putInOrder_24 : decode cX2_putInOrder 24 = .ok (.iload_n 2, 1) := by decide +kernel
theorem dX2_putInOrder_25 : decode cX2_putInOrder 25 = .ok (.aload_n 0, 1) := by decide +kernel
theorem dX2_putInOrder_26 : decode cX2_putInOrder 26 = .ok (.iload_n 2, 1) := by decide +kernel
theorem dX2_putInOrder_27 : decode cX2_putInOrder 27 = .ok (.invokevirtual 132, 3) := by decide +kernel
theorem dX2_putInOrder_30 : decode cX2_putInOrder 30 = .ok (.iastore, 1) := by decide +kernel
theorem dX2_putInOrder_31 : decode cX2_putInOrder 31 = .ok (.aload_n 0, 1) := by decide +kernel
theorem dX2_putInOrder_32 : decode cX2_putInOrder 32 = .ok (.iload_n 2, 1) := by decide +kernel
theorem dX2_putInOrder_33 : decode cX2_putInOrder 33 = .ok (.iload_n 1, 1) := by decide +kernel
theorem dX2_putInOrder_34 : decode cX2_putInOrder 34 = .ok (.invokevirtual 135, 3) := by decide +kernel
theorem dX2_putInOrder_37 : decode cX2_putInOrder 37 = .ok (.iinc 1 1, 3) := by decide +kernel
theorem dX2_putInOrder_40 : decode cX2_putInOrder 40 = .ok (.iinc 2 1, 3) := by decide +kernel
theorem dX2_putInOrder_43 : decode cX2_putInOrder 43 = .ok (.goto (-39), 3) := by decide +kernel
theorem dX2_putInOrder_46 : decode cX2_putInOrder 46 = .ok (.iload_n 1, 1) := by decide +kernel
theorem dX2_putInOrder_47 : decode cX2_putInOrder 47 = .ok (.ireturn, 1) := by decide +kernel
theorem dX2_insertInOrder_0 : decode cX2_insertInOrder 0 = .ok (.iload_n 2, 1) := by decide +kernel
theorem dX2_insertInOrder_1 : decode cX2_insertInOrder 1 = .ok (.istore_n 3, 1) := by decide +kernel
theorem dX2_insertInOrder_2 : decode cX2_insertInOrder 2 = .ok (.iload_n 3, 1) := by decide +kernel
theorem dX2_insertInOrder_3 : decode cX2_insertInOrder 3 = .ok (.ifCond .le 45, 3) := by decide +kernel
theorem dX2_insertInOrder_6 : decode cX2_insertInOrder 6 = .ok (.aload_n 0, 1) := by decide +kernel
theorem dX2_insertInOrder_7 : decode cX2_insertInOrder 7 = .ok (.getfield 24, 3) := by decide +kernel
theorem dX2_insertInOrder_10 : decode cX2_insertInOrder 10 = .ok (.aload_n 0, 1) := by decide +kernel
theorem dX2_insertInOrder_11 : decode cX2_insertInOrder 11 = .ok (.getfield 27, 3) := by decide +kernel
theorem dX2_insertInOrder_14 : decode cX2_insertInOrder 14 = .ok (.iload_n 3, 1) := by decide +kernel
theorem dX2_insertInOrder_15 : decode cX2_insertInOrder 15 = .ok (.iconst 1, 1) := by decide +kernel
theorem dX2_insertInOrder_16 : decode cX2_insertInOrder 16 = .ok (.isub, 1) := by decide +kernel
theorem dX2_insertInOrder_17 : decode cX2_insertInOrder 17 = .ok (.iaload, 1) := by decide +kernel
theorem dX2_insertInOrder_18 : decode cX2_insertInOrder 18 = .ok (.iaload, 1) := by decide +kernel
theorem dX2_insertInOrder_19 : decode cX2_insertInOrder 19 = .ok (.aload_n 0, 1) := by decide +kernel
theorem dX2_insertInOrder_20 : decode cX2_insertInOrder 20 = .ok (.getfield 24, 3) := by decide +kernel
theorem dX2_insertInOrder_23 : decode cX2_insertInOrder 23 = .ok (.iload_n 1, 1) := by decide +kernel
theorem dX2_insertInOrder_24 : decode cX2_insertInOrder 24 = .ok (.iaload, 1) := by decide +kernel
theorem dX2_insertInOrder_25 : decode cX2_insertInOrder 25 = .ok (.if_icmp .ge 23, 3) := by decide +kernel
theorem dX2_insertInOrder_28 : decode cX2_insertInOrder 28 = .ok (.aload_n 0, 1) := by decide +kernel
theorem dX2_insertInOrder_29 : decode cX2_insertInOrder 29 = .ok (.getfield 27, 3) := by decide +kernel
theorem dX2_insertInOrder_32 : decode cX2_insertInOrder 32 = .ok (.iload_n 3, 1) := by decide +kernel
theorem dX2_insertInOrder_33 : decode cX2_insertInOrder 33 = .ok (.aload_n 0, 1) := by decide +kernel
theorem dX2_insertInOrder_34 : decode cX2_insertInOrder 34 = .ok (.getfield 27, 3) := by decide +kernel
theorem dX2_insertInOrder_37 : decode cX2_insertInOrder 37 = .ok (.iload_n 3, 1) := by decide +kernel
theorem dX2_insertInOrder_38 : decode cX2_insertInOrder 38 = .ok (.iconst 1, 1) := by decide +kernel
theorem dX2_insertInOrder_39 : decode cX2_insertInOrder 39 = .ok (.isub, 1) := by decide +kernel
theorem dX2_insertInOrder_40 : decode cX2_insertInOrder 40 = .ok (.iaload, 1) := by decide +kernel
theorem dX2_insertInOrder_41 : decode cX2_insertInOrder 41 = .ok (.iastore, 1) := by decide +kernel
theorem dX2_insertInOrder_42 : decode cX2_insertInOrder 42 = .ok (.iinc 3 (-1), 3) := by decide +kernel
theorem dX2_insertInOrder_45 : decode cX2_insertInOrder 45 = .ok (.goto (-43), 3) := by decide +kernel
theorem dX2_insertInOrder_48 : decode cX2_insertInOrder 48 = .ok (.aload_n 0, 1) := by decide +kernel
theorem dX2_insertInOrder_49 : decode cX2_insertInOrder 49 = .ok (.getfield 27, 3) := by decide +kernel
theorem dX2_insertInOrder_52 : decode cX2_insertInOrder 52 = .ok (.iload_n 3, 1) := by decide +kernel
theorem dX2_insertInOrder_53 : decode cX2_insertInOrder 53 = .ok (.iload_n 1, 1) := by decide +kernel
theorem dX2_insertInOrder_54 : decode cX2_insertInOrder 54 = .ok (.iastore, 1) := by decide +kernel
theorem dX2_insertInOrder_55 : decode cX2_insertInOrder 55 = .ok (.return_, 1) := by decide +kernel
theorem dX2_worthOf_0 : decode cX2_worthOf 0 = .ok (.aload_n 0, 1) := by decide +kernel
theorem dX2_worthOf_1 : decode cX2_worthOf 1 = .ok (.getfield 56, 3) := by decide +kernel
theorem dX2_worthOf_4 : decode cX2_worthOf 4 = .ok (.aload_n 0, 1) := by decide +kernel
theorem dX2_worthOf_5 : decode cX2_worthOf 5 = .ok (.getfield 18, 3) := by decide +kernel
theorem dX2_worthOf_8 : decode cX2_worthOf 8 = .ok (.iload_n 1, 1) := by decide +kernel
theorem dX2_worthOf_9 : decode cX2_worthOf 9 = .ok (.iaload, 1) := by decide +kernel
theorem dX2_worthOf_10 : decode cX2_worthOf 10 = .ok (.isub, 1) := by decide +kernel
theorem dX2_worthOf_11 : decode cX2_worthOf 11 = .ok (.istore_n 2, 1) := by decide +kernel
theorem dX2_worthOf_12 : decode cX2_worthOf 12 = .ok (.aload_n 0, 1) := by decide +kernel
theorem dX2_worthOf_13 : decode cX2_worthOf 13 = .ok (.iload_n 1, 1) := by decide +kernel
theorem dX2_worthOf_14 : decode cX2_worthOf 14 = .ok (.invokevirtual 139, 3) := by decide +kernel
theorem dX2_worthOf_17 : decode cX2_worthOf 17 = .ok (.ifCond .eq 9, 3) := by decide +kernel
theorem dX2_worthOf_20 : decode cX2_worthOf 20 = .ok (.iload_n 2, 1) := by decide +kernel
theorem dX2_worthOf_21 : decode cX2_worthOf 21 = .ok (.iconst 5, 1) := by decide +kernel
theorem dX2_worthOf_22 : decode cX2_worthOf 22 = .ok (.iadd, 1) := by decide +kernel
theorem dX2_worthOf_23 : decode cX2_worthOf 23 = .ok (.goto 4, 3) := by decide +kernel
theorem dX2_worthOf_26 : decode cX2_worthOf 26 = .ok (.iload_n 2, 1) := by decide +kernel
theorem dX2_worthOf_27 : decode cX2_worthOf 27 = .ok (.ireturn, 1) := by decide +kernel
theorem dX2_isLookedAt_0 : decode cX2_isLookedAt 0 = .ok (.iload_n 1, 1) := by decide +kernel
theorem dX2_isLookedAt_1 : decode cX2_isLookedAt 1 = .ok (.bipush 8, 2) := by decide +kernel
theorem dX2_isLookedAt_3 : decode cX2_isLookedAt 3 = .ok (.irem, 1) := by decide +kernel
theorem dX2_isLookedAt_4 : decode cX2_isLookedAt 4 = .ok (.aload_n 0, 1) := by decide +kernel
theorem dX2_isLookedAt_5 : decode cX2_isLookedAt 5 = .ok (.getfield 59, 3) := by decide +kernel
theorem dX2_isLookedAt_8 : decode cX2_isLookedAt 8 = .ok (.bipush 8, 2) := by decide +kernel
theorem dX2_isLookedAt_10 : decode cX2_isLookedAt 10 = .ok (.irem, 1) := by decide +kernel
theorem dX2_isLookedAt_11 : decode cX2_isLookedAt 11 = .ok (.isub, 1) := by decide +kernel
theorem dX2_isLookedAt_12 : decode cX2_isLookedAt 12 = .ok (.invokestatic 143, 3) := by decide +kernel
theorem dX2_isLookedAt_15 : decode cX2_isLookedAt 15 = .ok (.istore_n 2, 1) := by decide +kernel
theorem dX2_isLookedAt_16 : decode cX2_isLookedAt 16 = .ok (.iload_n 1, 1) := by decide +kernel
theorem dX2_isLookedAt_17 : decode cX2_isLookedAt 17 = .ok (.bipush 8, 2) := by decide +kernel
theorem dX2_isLookedAt_19 : decode cX2_isLookedAt 19 = .ok (.idiv, 1) := by decide +kernel
theorem dX2_isLookedAt_20 : decode cX2_isLookedAt 20 = .ok (.aload_n 0, 1) := by decide +kernel
theorem dX2_isLookedAt_21 : decode cX2_isLookedAt 21 = .ok (.getfield 59, 3) := by decide +kernel
theorem dX2_isLookedAt_24 : decode cX2_isLookedAt 24 = .ok (.bipush 8, 2) := by decide +kernel
theorem dX2_isLookedAt_26 : decode cX2_isLookedAt 26 = .ok (.idiv, 1) := by decide +kernel
theorem dX2_isLookedAt_27 : decode cX2_isLookedAt 27 = .ok (.isub, 1) := by decide +kernel
theorem dX2_isLookedAt_28 : decode cX2_isLookedAt 28 = .ok (.invokestatic 143, 3) := by decide +kernel
theorem dX2_isLookedAt_31 : decode cX2_isLookedAt 31 = .ok (.istore_n 3, 1) := by decide +kernel
theorem dX2_isLookedAt_32 : decode cX2_isLookedAt 32 = .ok (.iload_n 2, 1) := by decide +kernel
theorem dX2_isLookedAt_33 : decode cX2_isLookedAt 33 = .ok (.iconst 1, 1) := by decide +kernel
theorem dX2_isLookedAt_34 : decode cX2_isLookedAt 34 = .ok (.if_icmp .gt 12, 3) := by decide +kernel
theorem dX2_isLookedAt_37 : decode cX2_isLookedAt 37 = .ok (.iload_n 3, 1) := by decide +kernel
theorem dX2_isLookedAt_38 : decode cX2_isLookedAt 38 = .ok (.iconst 1, 1) := by decide +kernel
theorem dX2_isLookedAt_39 : decode cX2_isLookedAt 39 = .ok (.if_icmp .gt 7, 3) := by decide +kernel
theorem dX2_isLookedAt_42 : decode cX2_isLookedAt 42 = .ok (.iconst 1, 1) := by decide +kernel
theorem dX2_isLookedAt_43 : decode cX2_isLookedAt 43 = .ok (.goto 4, 3) := by decide +kernel
theorem dX2_isLookedAt_46 : decode cX2_isLookedAt 46 = .ok (.iconst 0, 1) := by decide +kernel
theorem dX2_isLookedAt_47 : decode cX2_isLookedAt 47 = .ok (.ireturn, 1) := by decide +kernel
theorem dX2_sendTile_0 : decode cX2_sendTile 0 = .ok (.aload_n 0, 1) := by decide +kernel
theorem dX2_sendTile_1 : decode cX2_sendTile 1 = .ok (.getfield 9, 3) := by decide +kernel
theorem dX2_sendTile_4 : decode cX2_sendTile 4 = .ok (.iload_n 1, 1) := by decide +kernel
theorem dX2_sendTile_5 : decode cX2_sendTile 5 = .ok (.iaload, 1) := by decide +kernel
theorem dX2_sendTile_6 : decode cX2_sendTile 6 = .ok (.istore_n 3, 1) := by decide +kernel
theorem dX2_sendTile_7 : decode cX2_sendTile 7 = .ok (.aload_n 0, 1) := by decide +kernel
theorem dX2_sendTile_8 : decode cX2_sendTile 8 = .ok (.getfield 46, 3) := by decide +kernel
theorem dX2_sendTile_11 : decode cX2_sendTile 11 = .ok (.iload_n 3, 1) := by decide +kernel
theorem dX2_sendTile_12 : decode cX2_sendTile 12 = .ok (.invokevirtual 148, 3) := by decide +kernel
theorem dX2_sendTile_15 : decode cX2_sendTile 15 = .ok (.ifCond .eq 12, 3) := by decide +kernel
theorem dX2_sendTile_18 : decode cX2_sendTile 18 = .ok (.aload_n 0, 1) := by decide +kernel
theorem dX2_sendTile_19 : decode cX2_sendTile 19 = .ok (.iload_n 1, 1) := by decide +kernel
theorem dX2_sendTile_20 : decode cX2_sendTile 20 = .ok (.iconst 1, 1) := by decide +kernel
theorem dX2_sendTile_21 : decode cX2_sendTile 21 = .ok (.iconst 1, 1) := by decide +kernel
theorem dX2_sendTile_22 : decode cX2_sendTile 22 = .ok (.iload_n 2, 1) := by decide +kernel
theorem dX2_sendTile_23 : decode cX2_sendTile 23 = .ok (.invokevirtual 151, 3) := by decide +kernel
theorem dX2_sendTile_26 : decode cX2_sendTile 26 = .ok (.ireturn, 1) := by decide +kernel
theorem dX2_sendTile_27 : decode cX2_sendTile 27 = .ok (.aload_n 0, 1) := by decide +kernel
theorem dX2_sendTile_28 : decode cX2_sendTile 28 = .ok (.iload_n 1, 1) := by decide +kernel
theorem dX2_sendTile_29 : decode cX2_sendTile 29 = .ok (.invokevirtual 100, 3) := by decide +kernel
theorem dX2_sendTile_32 : decode cX2_sendTile 32 = .ok (.iconst 2, 1) := by decide +kernel
theorem dX2_sendTile_33 : decode cX2_sendTile 33 = .ok (.if_icmp .ne 10, 3) := by decide +kernel
theorem dX2_sendTile_36 : decode cX2_sendTile 36 = .ok (.aload_n 0, 1) := by decide +kernel
theorem dX2_sendTile_37 : decode cX2_sendTile 37 = .ok (.iload_n 1, 1) := by decide +kernel
theorem dX2_sendTile_38 : decode cX2_sendTile 38 = .ok (.iload_n 2, 1) := by decide +kernel
theorem dX2_sendTile_39 : decode cX2_sendTile 39 = .ok (.invokevirtual 155, 3) := by decide +kernel
theorem dX2_sendTile_42 : decode cX2_sendTile 42 = .ok (.ireturn, 1) := by decide +kernel
theorem dX2_sendTile_43 : decode cX2_sendTile 43 = .ok (.aload_n 0, 1) := by decide +kernel
theorem dX2_sendTile_44 : decode cX2_sendTile 44 = .ok (.iload_n 1, 1) := by decide +kernel
theorem dX2_sendTile_45 : decode cX2_sendTile 45 = .ok (.iconst 3, 1) := by decide +kernel
theorem dX2_sendTile_46 : decode cX2_sendTile 46 = .ok (.iload_n 3, 1) := by decide +kernel
theorem dX2_sendTile_47 : decode cX2_sendTile 47 = .ok (.invokestatic 158, 3) := by decide +kernel
theorem dX2_sendTile_50 : decode cX2_sendTile 50 = .ok (.iload_n 2, 1) := by decide +kernel
theorem dX2_sendTile_51 : decode cX2_sendTile 51 = .ok (.invokevirtual 151, 3) := by decide +kernel
theorem dX2_sendTile_54 : decode cX2_sendTile 54 = .ok (.ireturn, 1) := by decide +kernel
theorem dX2_sendPicture_0 : decode cX2_sendPicture 0 = .ok (.iload_n 3, 1) := by decide +kernel
theorem dX2_sendPicture_1 : decode cX2_sendPicture 1 = .ok (.iload 4, 2) := by decide +kernel
theorem dX2_sendPicture_3 : decode cX2_sendPicture 3 = .ok (.if_icmp .le 5, 3) := by decide +kernel
theorem dX2_sendPicture_6 : decode cX2_sendPicture 6 = .ok (.iconst 0, 1) := by decide +kernel
theorem dX2_sendPicture_7 : decode cX2_sendPicture 7 = .ok (.ireturn, 1) := by decide +kernel
theorem dX2_sendPicture_8 : decode cX2_sendPicture 8 = .ok (.aload_n 0, 1) := by decide +kernel
theorem dX2_sendPicture_9 : decode cX2_sendPicture 9 = .ok (.getfield 15, 3) := by decide +kernel
theorem dX2_sendPicture_12 : decode cX2_sendPicture 12 = .ok (.iload_n 1, 1) := by decide +kernel
theorem dX2_sendPicture_13 : decode cX2_sendPicture 13 = .ok (.aload_n 0, 1) := by decide +kernel
theorem dX2_sendPicture_14 : decode cX2_sendPicture 14 = .ok (.getfield 9, 3) := by decide +kernel
theorem dX2_sendPicture_17 : decode cX2_sendPicture 17 = .ok (.iload_n 1, 1) := by decide +kernel
theorem dX2_sendPicture_18 : decode cX2_sendPicture 18 = .ok (.iaload, 1) := by decide +kernel
theorem dX2_sendPicture_19 : decode cX2_sendPicture 19 = .ok (.iastore, 1) := by decide +kernel
theorem dX2_sendPicture_20 : decode cX2_sendPicture 20 = .ok (.aload_n 0, 1) := by decide +kernel
theorem dX2_sendPicture_21 : decode cX2_sendPicture 21 = .ok (.getfield 18, 3) := by decide +kernel
theorem dX2_sendPicture_24 : decode cX2_sendPicture 24 = .ok (.iload_n 1, 1) := by decide +kernel
theorem dX2_sendPicture_25 : decode cX2_sendPicture 25 = .ok (.iconst (-1), 1) := by decide +kernel
theorem dX2_sendPicture_26 : decode cX2_sendPicture 26 = .ok (.iastore, 1) := by decide +kernel
theorem dX2_sendPicture_27 : decode cX2_sendPicture 27 = .ok (.aload_n 0, 1) := by decide +kernel
theorem dX2_sendPicture_28 : decode cX2_sendPicture 28 = .ok (.getfield 46, 3) := by decide +kernel
theorem dX2_sendPicture_31 : decode cX2_sendPicture 31 = .ok (.aload_n 0, 1) := by decide +kernel
theorem dX2_sendPicture_32 : decode cX2_sendPicture 32 = .ok (.getfield 9, 3) := by decide +kernel
theorem dX2_sendPicture_35 : decode cX2_sendPicture 35 = .ok (.iload_n 1, 1) := by decide +kernel
theorem dX2_sendPicture_36 : decode cX2_sendPicture 36 = .ok (.iaload, 1) := by decide +kernel
theorem dX2_sendPicture_37 : decode cX2_sendPicture 37 = .ok (.invokevirtual 161, 3) := by decide +kernel
theorem dX2_sendPicture_40 : decode cX2_sendPicture 40 = .ok (.aload_n 0, 1) := by decide +kernel
theorem dX2_sendPicture_41 : decode cX2_sendPicture 41 = .ok (.getfield 50, 3) := by decide +kernel
theorem dX2_sendPicture_44 : decode cX2_sendPicture 44 = .ok (.iload_n 2, 1) := by decide +kernel
theorem dX2_sendPicture_45 : decode cX2_sendPicture 45 = .ok (.dup2, 1) := by decide +kernel
theorem dX2_sendPicture_46 : decode cX2_sendPicture 46 = .ok (.iaload, 1) := by decide +kernel
theorem dX2_sendPicture_47 : decode cX2_sendPicture 47 = .ok (.iconst 1, 1) := by decide +kernel
theorem dX2_sendPicture_48 : decode cX2_sendPicture 48 = .ok (.iadd, 1) := by decide +kernel
theorem dX2_sendPicture_49 : decode cX2_sendPicture 49 = .ok (.iastore, 1) := by decide +kernel
theorem dX2_sendPicture_50 : decode cX2_sendPicture 50 = .ok (.iload_n 3, 1) := by decide +kernel
theorem dX2_sendPicture_51 : decode cX2_sendPicture 51 = .ok (.ireturn, 1) := by decide +kernel
theorem dX2_sendRoughly_0 : decode cX2_sendRoughly 0 = .ok (.sipush 1000, 3) := by decide +kernel
theorem dX2_sendRoughly_3 : decode cX2_sendRoughly 3 = .ok (.aload_n 0, 1) := by decide +kernel
theorem dX2_sendRoughly_4 : decode cX2_sendRoughly 4 = .ok (.getfield 9, 3) := by decide +kernel
theorem dX2_sendRoughly_7 : decode cX2_sendRoughly 7 = .ok (.iload_n 1, 1) := by decide +kernel
theorem dX2_sendRoughly_8 : decode cX2_sendRoughly 8 = .ok (.iaload, 1) := by decide +kernel
theorem dX2_sendRoughly_9 : decode cX2_sendRoughly 9 = .ok (.bipush 16, 2) := by decide +kernel
theorem dX2_sendRoughly_11 : decode cX2_sendRoughly 11 = .ok (.idiv, 1) := by decide +kernel
theorem dX2_sendRoughly_12 : decode cX2_sendRoughly 12 = .ok (.iadd, 1) := by decide +kernel
theorem dX2_sendRoughly_13 : decode cX2_sendRoughly 13 = .ok (.istore_n 3, 1) := by decide +kernel
theorem dX2_sendRoughly_14 : decode cX2_sendRoughly 14 = .ok (.iconst 2, 1) := by decide +kernel
theorem dX2_sendRoughly_15 : decode cX2_sendRoughly 15 = .ok (.iload_n 2, 1) := by decide +kernel
theorem dX2_sendRoughly_16 : decode cX2_sendRoughly 16 = .ok (.if_icmp .gt 13, 3) := by decide +kernel
theorem dX2_sendRoughly_19 : decode cX2_sendRoughly 19 = .ok (.aload_n 0, 1) := by decide +kernel
theorem dX2_sendRoughly_20 : decode cX2_sendRoughly 20 = .ok (.getfield 15, 3) := by decide +kernel
theorem dX2_sendRoughly_23 : decode cX2_sendRoughly 23 = .ok (.iload_n 1, 1) := by decide +kernel
theorem dX2_sendRoughly_24 : decode cX2_sendRoughly 24 = .ok (.iaload, 1) := by decide +kernel
theorem dX2_sendRoughly_25 : decode cX2_sendRoughly 25 = .ok (.iload_n 3, 1) := by decide +kernel
theorem dX2_sendRoughly_26 : decode cX2_sendRoughly 26 = .ok (.if_icmp .ne 5, 3) := by decide +kernel
theorem dX2_sendRoughly_29 : decode cX2_sendRoughly 29 = .ok (.iconst 0, 1) := by decide +kernel
theorem dX2_sendRoughly_30 : decode cX2_sendRoughly 30 = .ok (.ireturn, 1) := by decide +kernel
theorem dX2_sendRoughly_31 : decode cX2_sendRoughly 31 = .ok (.aload_n 0, 1) := by decide +kernel
theorem dX2_sendRoughly_32 : decode cX2_sendRoughly 32 = .ok (.getfield 15, 3) := by decide +kernel
theorem dX2_sendRoughly_35 : decode cX2_sendRoughly 35 = .ok (.iload_n 1, 1) := by decide +kernel
theorem dX2_sendRoughly_36 : decode cX2_sendRoughly 36 = .ok (.iload_n 3, 1) := by decide +kernel
theorem dX2_sendRoughly_37 : decode cX2_sendRoughly 37 = .ok (.iastore, 1) := by decide +kernel
theorem dX2_sendRoughly_38 : decode cX2_sendRoughly 38 = .ok (.aload_n 0, 1) := by decide +kernel
theorem dX2_sendRoughly_39 : decode cX2_sendRoughly 39 = .ok (.getfield 50, 3) := by decide +kernel
theorem dX2_sendRoughly_42 : decode cX2_sendRoughly 42 = .ok (.iconst 2, 1) := by decide +kernel
theorem dX2_sendRoughly_43 : decode cX2_sendRoughly 43 = .ok (.dup2, 1) := by decide +kernel
theorem dX2_sendRoughly_44 : decode cX2_sendRoughly 44 = .ok (.iaload, 1) := by decide +kernel
theorem dX2_sendRoughly_45 : decode cX2_sendRoughly 45 = .ok (.iconst 1, 1) := by decide +kernel
theorem dX2_sendRoughly_46 : decode cX2_sendRoughly 46 = .ok (.iadd, 1) := by decide +kernel
theorem dX2_sendRoughly_47 : decode cX2_sendRoughly 47 = .ok (.iastore, 1) := by decide +kernel
theorem dX2_sendRoughly_48 : decode cX2_sendRoughly 48 = .ok (.iconst 2, 1) := by decide +kernel
theorem dX2_sendRoughly_49 : decode cX2_sendRoughly 49 = .ok (.ireturn, 1) := by decide +kernel
theorem dX2_settleChanges_0 : decode cX2_settleChanges 0 = .ok (.iconst 0, 1) := by decide +kernel
theorem dX2_settleChanges_1 : decode cX2_settleChanges 1 = .ok (.istore_n 1, 1) := by decide +kernel
theorem dX2_settleChanges_2 : decode cX2_settleChanges 2 = .ok (.iload_n 1, 1) := by decide +kernel
theorem dX2_settleChanges_3 : decode cX2_settleChanges 3 = .ok (.bipush 48, 2) := by decide +kernel
theorem dX2_settleChanges_5 : decode cX2_settleChanges 5 = .ok (.if_icmp .ge 27, 3) := by decide +kernel
theorem dX2_settleChanges_8 : decode cX2_settleChanges 8 = .ok (.aload_n 0, 1) := by decide +kernel
theorem dX2_settleChanges_9 : decode cX2_settleChanges 9 = .ok (.getfield 21, 3) := by decide +kernel
theorem dX2_settleChanges_12 : decode cX2_settleChanges 12 = .ok (.iload_n 1, 1) := by decide +kernel
theorem dX2_settleChanges_13 : decode cX2_settleChanges 13 = .ok (.aload_n 0, 1) := by decide +kernel
theorem dX2_settleChanges_14 : decode cX2_settleChanges 14 = .ok (.getfield 21, 3) := by decide +kernel
theorem dX2_settleChanges_17 : decode cX2_settleChanges 17 = .ok (.iload_n 1, 1) := by decide +kernel
theorem dX2_settleChanges_18 : decode cX2_settleChanges 18 = .ok (.iaload, 1) := by decide +kernel
theorem dX2_settleChanges_19 : decode cX2_settleChanges 19 = .ok (.iconst 1, 1) := by decide +kernel
theorem dX2_settleChanges_20 : decode cX2_settleChanges 20 = .ok (.ishl, 1) := by decide +kernel
theorem dX2_settleChanges_21 : decode cX2_settleChanges 21 = .ok (.sipush 255, 3) := by decide +kernel
theorem dX2_settleChanges_24 : decode cX2_settleChanges 24 = .ok (.iand, 1) := by decide +kernel
theorem dX2_settleChanges_25 : decode cX2_settleChanges 25 = .ok (.iastore, 1) := by decide +kernel
theorem dX2_settleChanges_26 : decode cX2_settleChanges 26 = .ok (.iinc 1 1, 3) := by decide +kernel
theorem dX2_settleChanges_29 : decode cX2_settleChanges 29 = .ok (.goto (-27), 3) := by decide +kernel
theorem dX2_settleChanges_32 : decode cX2_settleChanges 32 = .ok (.return_, 1) := by decide +kernel
theorem dX3_init_0 : decode cX3_init 0 = .ok (.aload_n 0, 1) := by decide +kernel
theorem dX3_init_1 : decode cX3_init 1 = .ok (.invokespecial 1, 3) := by decide +kernel
theorem dX3_init_4 : decode cX3_init 4 = .ok (.aload_n 0, 1) := by decide +kernel
theorem dX3_init_5 : decode cX3_init 5 = .ok (.new 7, 3) := by decide +kernel
theorem dX3_init_8 : decode cX3_init 8 = .ok (.dup, 1) := by decide +kernel
theorem dX3_init_9 : decode cX3_init 9 = .ok (.invokespecial 9, 3) := by decide +kernel
theorem dX3_init_12 : decode cX3_init 12 = .ok (.putfield 10, 3) := by decide +kernel
theorem dX3_init_15 : decode cX3_init 15 = .ok (.aload_n 0, 1) := by decide +kernel
theorem dX3_init_16 : decode cX3_init 16 = .ok (.new 7, 3) := by decide +kernel
theorem dX3_init_19 : decode cX3_init 19 = .ok (.dup, 1) := by decide +kernel
theorem dX3_init_20 : decode cX3_init 20 = .ok (.invokespecial 9, 3) := by decide +kernel
theorem dX3_init_23 : decode cX3_init 23 = .ok (.putfield 16, 3) := by decide +kernel
theorem dX3_init_26 : decode cX3_init 26 = .ok (.return_, 1) := by decide +kernel
theorem dX3_fill_0 : decode cX3_fill 0 = .ok (.iload_n 1, 1) := by decide +kernel
theorem dX3_fill_1 : decode cX3_fill 1 = .ok (.iload_n 2, 1) := by decide +kernel
theorem dX3_fill_2 : decode cX3_fill 2 = .ok (.iload_n 3, 1) := by decide +kernel
theorem dX3_fill_3 : decode cX3_fill 3 = .ok (.iload 4, 2) := by decide +kernel
theorem dX3_fill_5 : decode cX3_fill 5 = .ok (.invokestatic 19, 3) := by decide +kernel
theorem dX3_fill_8 : decode cX3_fill 8 = .ok (.iload 5, 2) := by decide +kernel
theorem dX3_fill_10 : decode cX3_fill 10 = .ok (.ifCond .lt 11, 3) := by decide +kernel
theorem dX3_fill_13 : decode cX3_fill 13 = .ok (.iload 5, 2) := by decide +kernel
theorem dX3_fill_15 : decode cX3_fill 15 = .ok (.sipush 255, 3) := by decide +kernel
theorem dX3_fill_18 : decode cX3_fill 18 = .ok (.if_icmp .le 13, 3) := by decide +kernel
theorem dX3_fill_21 : decode cX3_fill 21 = .ok (.new 23, 3) := by decide +kernel
theorem dX3_fill_24 : decode cX3_fill 24 = .ok (.dup, 1) := by decide +kernel
theorem dX3_fill_25 : decode cX3_fill 25 = .ok (.ldc 25, 2) := by decide +kernel
theorem dX3_fill_27 : decode cX3_fill 27 = .ok (.invokespecial 27, 3) := by decide +kernel
theorem dX3_fill_30 : decode cX3_fill 30 = .ok (.athrow, 1) := by decide +kernel
theorem dX3_fill_31 : decode cX3_fill 31 = .ok (.aload_n 0, 1) := by decide +kernel
theorem dX3_fill_32 : decode cX3_fill 32 = .ok (.getfield 10, 3) := by decide +kernel
theorem dX3_fill_35 : decode cX3_fill 35 = .ok (.iload_n 1, 1) := by decide +kernel
theorem dX3_fill_36 : decode cX3_fill 36 = .ok (.iload_n 2, 1) := by decide +kernel
theorem dX3_fill_37 : decode cX3_fill 37 = .ok (.iload_n 3, 1) := by decide +kernel
theorem dX3_fill_38 : decode cX3_fill 38 = .ok (.iload 4, 2) := by decide +kernel
theorem dX3_fill_40 : decode cX3_fill 40 = .ok (.iload 5, 2) := by decide +kernel
theorem dX3_fill_42 : decode cX3_fill 42 = .ok (.invokevirtual 30, 3) := by decide +kernel
theorem dX3_fill_45 : decode cX3_fill 45 = .ok (.aload_n 0, 1) := by decide +kernel
theorem dX3_fill_46 : decode cX3_fill 46 = .ok (.getfield 10, 3) := by decide +kernel
theorem dX3_fill_49 : decode cX3_fill 49 = .ok (.invokevirtual 34, 3) := by decide +kernel
theorem dX3_fill_52 : decode cX3_fill 52 = .ok (.ireturn, 1) := by decide +kernel
theorem dX3_move_0 : decode cX3_move 0 = .ok (.iload_n 1, 1) := by decide +kernel
theorem dX3_move_1 : decode cX3_move 1 = .ok (.iload_n 2, 1) := by decide +kernel
theorem dX3_move_2 : decode cX3_move 2 = .ok (.iload_n 3, 1) := by decide +kernel
theorem dX3_move_3 : decode cX3_move 3 = .ok (.iload 4, 2) := by decide +kernel
theorem dX3_move_5 : decode cX3_move 5 = .ok (.invokestatic 19, 3) := by decide +kernel
theorem dX3_move_8 : decode cX3_move 8 = .ok (.iload 5, 2) := by decide +kernel
theorem dX3_move_10 : decode cX3_move 10 = .ok (.iload 6, 2) := by decide +kernel
theorem dX3_move_12 : decode cX3_move 12 = .ok (.iload_n 3, 1) := by decide +kernel
theorem dX3_move_13 : decode cX3_move 13 = .ok (.iload 4, 2) := by decide +kernel
theorem dX3_move_15 : decode cX3_move 15 = .ok (.invokestatic 19, 3) := by decide +kernel
theorem dX3_move_18 : decode cX3_move 18 = .ok (.iload_n 1, 1) := by decide +kernel
theorem dX3_move_19 : decode cX3_move 19 = .ok (.iload 5, 2) := by decide +kernel
theorem dX3_move_21 : decode cX3_move 21 = .ok (.if_icmp .ne 19, 3) := by decide +kernel
theorem dX3_move_24 : decode cX3_move 24 = .ok (.iload_n 2, 1) := by decide +kernel
theorem dX3_move_25 : decode cX3_move 25 = .ok (.iload 6, 2) := by decide +kernel
theorem dX3_move_27 : decode cX3_move 27 = .ok (.if_icmp .ne 13, 3) := by decide +kernel
theorem dX3_move_30 : decode cX3_move 30 = .ok (.new 23, 3) := by decide +kernel
theorem dX3_move_33 : decode cX3_move 33 = .ok (.dup, 1) := by decide +kernel
theorem dX3_move_34 : decode cX3_move 34 = .ok (.ldc 38, 2) := by decide +kernel
theorem dX3_move_36 : decode cX3_move 36 = .ok (.invokespecial 27, 3) := by decide +kernel
theorem dX3_move_39 : decode cX3_move 39 = .ok (.athrow, 1) := by decide +kernel
theorem dX3_move_40 : decode cX3_move 40 = .ok (.aload_n 0, 1) := by decide +kernel
theorem dX3_move_41 : decode cX3_move 41 = .ok (.getfield 10, 3) := by decide +kernel
theorem dX3_move_44 : decode cX3_move 44 = .ok (.iload_n 1, 1) := by decide +kernel
theorem dX3_move_45 : decode cX3_move 45 = .ok (.iload_n 2, 1) := by decide +kernel
theorem dX3_move_46 : decode cX3_move 46 = .ok (.iload_n 3, 1) := by decide +kernel
theorem dX3_move_47 : decode cX3_move 47 = .ok (.iload 4, 2) := by decide +kernel
theorem dX3_move_49 : decode cX3_move 49 = .ok (.iload 5, 2) := by decide +kernel
theorem dX3_move_51 : decode cX3_move 51 = .ok (.iload 6, 2) := by decide +kernel
theorem dX3_move_53 : decode cX3_move 53 = .ok (.invokevirtual 40, 3) := by decide +kernel
theorem dX3_move_56 : decode cX3_move 56 = .ok (.aload_n 0, 1) := by decide +kernel
theorem dX3_move_57 : decode cX3_move 57 = .ok (.getfield 10, 3) := by decide +kernel
theorem dX3_move_60 : decode cX3_move 60 = .ok (.getfield 44, 3) := by decide +kernel
theorem dX3_move_63 : decode cX3_move 63 = .ok (.ireturn, 1) := by decide +kernel
theorem dX3_look_0 : decode cX3_look 0 = .ok (.iload_n 1, 1) := by decide +kernel
theorem dX3_look_1 : decode cX3_look 1 = .ok (.iload_n 2, 1) := by decide +kernel
theorem dX3_look_2 : decode cX3_look 2 = .ok (.invokestatic 48, 3) := by decide +kernel
theorem dX3_look_5 : decode cX3_look 5 = .ok (.aload_n 0, 1) := by decide +kernel
theorem dX3_look_6 : decode cX3_look 6 = .ok (.getfield 10, 3) := by decide +kernel
theorem dX3_look_9 : decode cX3_look 9 = .ok (.getfield 52, 3) := by decide +kernel
theorem dX3_look_12 : decode cX3_look 12 = .ok (.istore_n 3, 1) := by decide +kernel
theorem dX3_look_13 : decode cX3_look 13 = .ok (.aload_n 0, 1) := by decide +kernel
theorem dX3_look_14 : decode cX3_look 14 = .ok (.getfield 10, 3) := by decide +kernel
theorem dX3_look_17 : decode cX3_look 17 = .ok (.iload_n 1, 1) := by decide +kernel
theorem dX3_look_18 : decode cX3_look 18 = .ok (.iload_n 2, 1) := by decide +kernel
theorem dX3_look_19 : decode cX3_look 19 = .ok (.invokestatic 55, 3) := by decide +kernel
theorem dX3_look_22 : decode cX3_look 22 = .ok (.putfield 52, 3) := by decide +kernel
theorem dX3_look_25 : decode cX3_look 25 = .ok (.iload_n 3, 1) := by decide +kernel
theorem dX3_look_26 : decode cX3_look 26 = .ok (.ireturn, 1) := by decide +kernel
theorem dX3_step_0 : decode cX3_step 0 = .ok (.iload_n 1, 1) := by decide +kernel
theorem dX3_step_1 : decode cX3_step 1 = .ok (.invokestatic 59, 3) := by decide +kernel
theorem dX3_step_4 : decode cX3_step 4 = .ok (.aload_n 0, 1) := by decide +kernel
theorem dX3_step_5 : decode cX3_step 5 = .ok (.getfield 10, 3) := by decide +kernel
theorem dX3_step_8 : decode cX3_step 8 = .ok (.iload_n 1, 1) := by decide +kernel
theorem dX3_step_9 : decode cX3_step 9 = .ok (.invokevirtual 63, 3) := by decide +kernel
theorem dX3_step_12 : decode cX3_step 12 = .ok (.ireturn, 1) := by decide +kernel
theorem dX3_time_0 : decode cX3_time 0 = .ok (.aload_n 0, 1) := by decide +kernel
theorem dX3_time_1 : decode cX3_time 1 = .ok (.getfield 10, 3) := by decide +kernel
theorem dX3_time_4 : decode cX3_time 4 = .ok (.getfield 67, 3) := by decide +kernel
theorem dX3_time_7 : decode cX3_time 7 = .ok (.ireturn, 1) := by decide +kernel
theorem dX3_near_0 : decode cX3_near 0 = .ok (.iload_n 1, 1) := by decide +kernel
theorem dX3_near_1 : decode cX3_near 1 = .ok (.iload_n 2, 1) := by decide +kernel
theorem dX3_near_2 : decode cX3_near 2 = .ok (.invokestatic 48, 3) := by decide +kernel
theorem dX3_near_5 : decode cX3_near 5 = .ok (.aload_n 0, 1) := by decide +kernel
theorem dX3_near_6 : decode cX3_near 6 = .ok (.getfield 10, 3) := by decide +kernel
theorem dX3_near_9 : decode cX3_near 9 = .ok (.getfield 70, 3) := by decide +kernel
theorem dX3_near_12 : decode cX3_near 12 = .ok (.iload_n 1, 1) := by decide +kernel
theorem dX3_near_13 : decode cX3_near 13 = .ok (.iload_n 2, 1) := by decide +kernel
theorem dX3_near_14 : decode cX3_near 14 = .ok (.invokestatic 55, 3) := by decide +kernel
theorem dX3_near_17 : decode cX3_near 17 = .ok (.iaload, 1) := by decide +kernel
theorem dX3_near_18 : decode cX3_near 18 = .ok (.ireturn, 1) := by decide +kernel
theorem dX3_far_0 : decode cX3_far 0 = .ok (.iload_n 1, 1) := by decide +kernel
theorem dX3_far_1 : decode cX3_far 1 = .ok (.iload_n 2, 1) := by decide +kernel
theorem dX3_far_2 : decode cX3_far 2 = .ok (.invokestatic 48, 3) := by decide +kernel
theorem dX3_far_5 : decode cX3_far 5 = .ok (.aload_n 0, 1) := by decide +kernel
theorem dX3_far_6 : decode cX3_far 6 = .ok (.getfield 10, 3) := by decide +kernel
theorem dX3_far_9 : decode cX3_far 9 = .ok (.getfield 74, 3) := by decide +kernel
theorem dX3_far_12 : decode cX3_far 12 = .ok (.iload_n 1, 1) := by decide +kernel
theorem dX3_far_13 : decode cX3_far 13 = .ok (.iload_n 2, 1) := by decide +kernel
theorem dX3_far_14 : decode cX3_far 14 = .ok (.invokestatic 55, 3) := by decide +kernel
theorem dX3_far_17 : decode cX3_far 17 = .ok (.iaload, 1) := by decide +kernel
theorem dX3_far_18 : decode cX3_far 18 = .ok (.ireturn, 1) := by decide +kernel
theorem dX3_kind_0 : decode cX3_kind 0 = .ok (.iload_n 1, 1) := by decide +kernel
theorem dX3_kind_1 : decode cX3_kind 1 = .ok (.iload_n 2, 1) := by decide +kernel
theorem dX3_kind_2 : decode cX3_kind 2 = .ok (.invokestatic 48, 3) := by decide +kernel
theorem dX3_kind_5 : decode cX3_kind 5 = .ok (.aload_n 0, 1) := by decide +kernel
theorem dX3_kind_6 : decode cX3_kind 6 = .ok (.getfield 10, 3) := by decide +kernel
theorem dX3_kind_9 : decode cX3_kind 9 = .ok (.iload_n 1, 1) := by decide +kernel
theorem dX3_kind_10 : decode cX3_kind 10 = .ok (.iload_n 2, 1) := by decide +kernel
theorem dX3_kind_11 : decode cX3_kind 11 = .ok (.invokestatic 55, 3) := by decide +kernel
theorem dX3_kind_14 : decode cX3_kind 14 = .ok (.invokevirtual 77, 3) := by decide +kernel
theorem dX3_kind_17 : decode cX3_kind 17 = .ok (.ireturn, 1) := by decide +kernel
theorem dX3_since_0 : decode cX3_since 0 = .ok (.iload_n 1, 1) := by decide +kernel
theorem dX3_since_1 : decode cX3_since 1 = .ok (.iload_n 2, 1) := by decide +kernel
theorem dX3_since_2 : decode cX3_since 2 = .ok (.invokestatic 48, 3) := by decide +kernel
theorem dX3_since_5 : decode cX3_since 5 = .ok (.aload_n 0, 1) := by decide +kernel
theorem dX3_since_6 : decode cX3_since 6 = .ok (.getfield 10, 3) := by decide +kernel
theorem dX3_since_9 : decode cX3_since 9 = .ok (.getfield 80, 3) := by decide +kernel
theorem dX3_since_12 : decode cX3_since 12 = .ok (.iload_n 1, 1) := by decide +kernel
theorem dX3_since_13 : decode cX3_since 13 = .ok (.iload_n 2, 1) := by decide +kernel
theorem dX3_since_14 : decode cX3_since 14 = .ok (.invokestatic 55, 3) := by decide +kernel
theorem dX3_since_17 : decode cX3_since 17 = .ok (.iaload, 1) := by decide +kernel
theorem dX3_since_18 : decode cX3_since 18 = .ok (.ireturn, 1) := by decide +kernel
theorem dX3_unlike_0 : decode cX3_unlike 0 = .ok (.aload_n 0, 1) := by decide +kernel
theorem dX3_unlike_1 : decode cX3_unlike 1 = .ok (.getfield 10, 3) := by decide +kernel
theorem dX3_unlike_4 : decode cX3_unlike 4 = .ok (.invokevirtual 83, 3) := by decide +kernel
theorem dX3_unlike_7 : decode cX3_unlike 7 = .ok (.lreturn, 1) := by decide +kernel
theorem dX3_rough_0 : decode cX3_rough 0 = .ok (.aload_n 0, 1) := by decide +kernel
theorem dX3_rough_1 : decode cX3_rough 1 = .ok (.getfield 10, 3) := by decide +kernel
theorem dX3_rough_4 : decode cX3_rough 4 = .ok (.invokevirtual 87, 3) := by decide +kernel
theorem dX3_rough_7 : decode cX3_rough 7 = .ok (.ireturn, 1) := by decide +kernel
theorem dX3_waiting_0 : decode cX3_waiting 0 = .ok (.aload_n 0, 1) := by decide +kernel
theorem dX3_waiting_1 : decode cX3_waiting 1 = .ok (.getfield 10, 3) := by decide +kernel
theorem dX3_waiting_4 : decode cX3_waiting 4 = .ok (.getfield 44, 3) := by decide +kernel
theorem dX3_waiting_7 : decode cX3_waiting 7 = .ok (.ireturn, 1) := by decide +kernel
theorem dX3_known_0 : decode cX3_known 0 = .ok (.iload_n 1, 1) := by decide +kernel
theorem dX3_known_1 : decode cX3_known 1 = .ok (.ifCond .lt 17, 3) := by decide +kernel
theorem dX3_known_4 : decode cX3_known 4 = .ok (.iload_n 1, 1) := by decide +kernel
theorem dX3_known_5 : decode cX3_known 5 = .ok (.aload_n 0, 1) := by decide +kernel
theorem dX3_known_6 : decode cX3_known 6 = .ok (.getfield 10, 3) := by decide +kernel
theorem dX3_known_9 : decode cX3_known 9 = .ok (.getfield 90, 3) := by decide +kernel
theorem dX3_known_12 : decode cX3_known 12 = .ok (.getfield 94, 3) := by decide +kernel
theorem dX3_known_15 : decode cX3_known 15 = .ok (.if_icmp .lt 13, 3) := by decide +kernel
theorem dX3_known_18 : decode cX3_known 18 = .ok (.new 99, 3) := by decide +kernel
theorem dX3_known_21 : decode cX3_known 21 = .ok (.dup, 1) := by decide +kernel
theorem dX3_known_22 : decode cX3_known 22 = .ok (.ldc 101, 2) := by decide +kernel
theorem dX3_known_24 : decode cX3_known 24 = .ok (.invokespecial 103, 3) := by decide +kernel
theorem dX3_known_27 : decode cX3_known 27 = .ok (.athrow, 1) := by decide +kernel
theorem dX3_known_28 : decode cX3_known 28 = .ok (.aload_n 0, 1) := by decide +kernel
theorem dX3_known_29 : decode cX3_known 29 = .ok (.getfield 10, 3) := by decide +kernel
theorem dX3_known_32 : decode cX3_known 32 = .ok (.getfield 90, 3) := by decide +kernel
theorem dX3_known_35 : decode cX3_known 35 = .ok (.getfield 104, 3) := by decide +kernel
theorem dX3_known_38 : decode cX3_known 38 = .ok (.iload_n 1, 1) := by decide +kernel
theorem dX3_known_39 : decode cX3_known 39 = .ok (.iaload, 1) := by decide +kernel
theorem dX3_known_40 : decode cX3_known 40 = .ok (.ireturn, 1) := by decide +kernel
theorem dX3_knownPictures_0 : decode cX3_knownPictures 0 = .ok (.aload_n 0, 1) := by decide +kernel
theorem dX3_knownPictures_1 : decode cX3_knownPictures 1 = .ok (.getfield 10, 3) := by decide +kernel
theorem dX3_knownPictures_4 : decode cX3_knownPictures 4 = .ok (.getfield 90, 3) := by decide +kernel
theorem dX3_knownPictures_7 : decode cX3_knownPictures 7 = .ok (.getfield 94, 3) := by decide +kernel
theorem dX3_knownPictures_10 : decode cX3_knownPictures 10 = .ok (.ireturn, 1) := by decide +kernel
theorem dX3_sent_0 : decode cX3_sent 0 = .ok (.iload_n 1, 1) := by decide +kernel
theorem dX3_sent_1 : decode cX3_sent 1 = .ok (.ifCond .lt 8, 3) := by decide +kernel
theorem dX3_sent_4 : decode cX3_sent 4 = .ok (.iload_n 1, 1) := by decide +kernel
theorem dX3_sent_5 : decode cX3_sent 5 = .ok (.iconst 4, 1) := by decide +kernel
theorem dX3_sent_6 : decode cX3_sent 6 = .ok (.if_icmp .lt 13, 3) := by decide +kernel
theorem dX3_sent_9 : decode cX3_sent 9 = .ok (.new 23, 3) := by decide +kernel
theorem dX3_sent_12 : decode cX3_sent 12 = .ok (.dup, 1) := by decide +kernel
theorem dX3_sent_13 : decode cX3_sent 13 = .ok (.ldc 107, 2) := by decide +kernel
theorem dX3_sent_15 : decode cX3_sent 15 = .ok (.invokespecial 27, 3) := by decide +kernel
theorem dX3_sent_18 : decode cX3_sent 18 = .ok (.athrow, 1) := by decide +kernel
theorem dX3_sent_19 : decode cX3_sent 19 = .ok (.aload_n 0, 1) := by decide +kernel
theorem dX3_sent_20 : decode cX3_sent 20 = .ok (.getfield 10, 3) := by decide +kernel
theorem dX3_sent_23 : decode cX3_sent 23 = .ok (.getfield 109, 3) := by decide +kernel
theorem dX3_sent_26 : decode cX3_sent 26 = .ok (.iload_n 1, 1) := by decide +kernel
theorem dX3_sent_27 : decode cX3_sent 27 = .ok (.iaload, 1) := by decide +kernel
theorem dX3_sent_28 : decode cX3_sent 28 = .ok (.ireturn, 1) := by decide +kernel
theorem dX3_used_0 : decode cX3_used 0 = .ok (.aload_n 0, 1) := by decide +kernel
theorem dX3_used_1 : decode cX3_used 1 = .ok (.getfield 10, 3) := by decide +kernel
theorem dX3_used_4 : decode cX3_used 4 = .ok (.getfield 112, 3) := by decide +kernel
theorem dX3_used_7 : decode cX3_used 7 = .ok (.ireturn, 1) := by decide +kernel
theorem dX3_anew_0 : decode cX3_anew 0 = .ok (.iconst 0, 1) := by decide +kernel
theorem dX3_anew_1 : decode cX3_anew 1 = .ok (.istore_n 1, 1) := by decide +kernel
theorem dX3_anew_2 : decode cX3_anew 2 = .ok (.iconst 0, 1) := by decide +kernel
theorem dX3_anew_3 : decode cX3_anew 3 = .ok (.istore_n 2, 1) := by decide +kernel
theorem dX3_anew_4 : decode cX3_anew 4 = .ok (.iload_n 2, 1) := by decide +kernel
theorem dX3_anew_5 : decode cX3_anew 5 = .ok (.bipush 48, 2) := by decide +kernel
theorem dX3_anew_7 : decode cX3_anew 7 = .ok (.if_icmp .ge 24, 3) := by decide +kernel
theorem dX3_anew_10 : decode cX3_anew 10 = .ok (.iload_n 1, 1) := by decide +kernel
theorem dX3_anew_11 : decode cX3_anew 11 = .ok (.aload_n 0, 1) := by decide +kernel
theorem dX3_anew_12 : decode cX3_anew 12 = .ok (.getfield 10, 3) := by decide +kernel
theorem dX3_anew_15 : decode cX3_anew 15 = .ok (.getfield 70, 3) := by decide +kernel
theorem dX3_anew_18 : decode cX3_anew 18 = .ok (.iload_n 2, 1) := by decide +kernel
theorem dX3_anew_19 : decode cX3_anew 19 = .ok (.iaload, 1) := by decide +kernel
theorem dX3_anew_20 : decode cX3_anew 20 = .ok (.invokestatic 115, 3) := by decide +kernel
theorem dX3_anew_23 : decode cX3_anew 23 = .ok (.iadd, 1) := by decide +kernel
theorem dX3_anew_24 : decode cX3_anew 24 = .ok (.istore_n 1, 1) := by decide +kernel
theorem dX3_anew_25 : decode cX3_anew 25 = .ok (.iinc 2 1, 3) := by decide +kernel
theorem dX3_anew_28 : decode cX3_anew 28 = .ok (.goto (-24), 3) := by decide +kernel
theorem dX3_anew_31 : decode cX3_anew 31 = .ok (.iload_n 1, 1) := by decide +kernel
theorem dX3_anew_32 : decode cX3_anew 32 = .ok (.ireturn, 1) := by decide +kernel
theorem dX3_stepsToGo_0 : decode cX3_stepsToGo 0 = .ok (.iload_n 1, 1) := by decide +kernel
theorem dX3_stepsToGo_1 : decode cX3_stepsToGo 1 = .ok (.invokestatic 59, 3) := by decide +kernel
theorem dX3_stepsToGo_4 : decode cX3_stepsToGo 4 = .ok (.aload_n 0, 1) := by decide +kernel
theorem dX3_stepsToGo_5 : decode cX3_stepsToGo 5 = .ok (.getfield 16, 3) := by decide +kernel
theorem dX3_stepsToGo_8 : decode cX3_stepsToGo 8 = .ok (.aload_n 0, 1) := by decide +kernel
theorem dX3_stepsToGo_9 : decode cX3_stepsToGo 9 = .ok (.getfield 10, 3) := by decide +kernel
theorem dX3_stepsToGo_12 : decode cX3_stepsToGo 12 = .ok (.invokevirtual 118, 3) := by decide +kernel
theorem dX3_stepsToGo_15 : decode cX3_stepsToGo 15 = .ok (.iconst 0, 1) := by decide +kernel
theorem dX3_stepsToGo_16 : decode cX3_stepsToGo 16 = .ok (.istore_n 2, 1) := by decide +kernel
theorem dX3_stepsToGo_17 : decode cX3_stepsToGo 17 = .ok (.iload_n 2, 1) := by decide +kernel
theorem dX3_stepsToGo_18 : decode cX3_stepsToGo 18 = .ok (.bipush 100, 2) := by decide +kernel
theorem dX3_stepsToGo_20 : decode cX3_stepsToGo 20 = .ok (.if_icmp .ge 48, 3) := by decide +kernel
theorem dX3_stepsToGo_23 : decode cX3_stepsToGo 23 = .ok (.aload_n 0, 1) := by decide +kernel
theorem dX3_stepsToGo_24 : decode cX3_stepsToGo 24 = .ok (.getfield 16, 3) := by decide +kernel
theorem dX3_stepsToGo_27 : decode cX3_stepsToGo 27 = .ok (.invokevirtual 122, 3) := by decide +kernel
theorem dX3_stepsToGo_30 : decode cX3_stepsToGo 30 = .ok (.ifCond .ne 38, 3) := by decide +kernel
theorem dX3_stepsToGo_33 : decode cX3_stepsToGo 33 = .ok (.aload_n 0, 1) := by decide +kernel
theorem dX3_stepsToGo_34 : decode cX3_stepsToGo 34 = .ok (.getfield 16, 3) := by decide +kernel
theorem dX3_stepsToGo_37 : decode cX3_stepsToGo 37 = .ok (.invokevirtual 126, 3) := by decide +kernel
theorem dX3_stepsToGo_40 : decode cX3_stepsToGo 40 = .ok (.istore_n 3, 1) := by decide +kernel
theorem dX3_stepsToGo_41 : decode cX3_stepsToGo 41 = .ok (.aload_n 0, 1) := by decide +kernel
theorem dX3_stepsToGo_42 : decode cX3_stepsToGo 42 = .ok (.getfield 16, 3) := by decide +kernel
theorem dX3_stepsToGo_45 : decode cX3_stepsToGo 45 = .ok (.iload_n 1, 1) := by decide +kernel
theorem dX3_stepsToGo_46 : decode cX3_stepsToGo 46 = .ok (.invokevirtual 63, 3) := by decide +kernel
theorem dX3_stepsToGo_49 : decode cX3_stepsToGo 49 = .ok (.istore 4, 2) := by decide +kernel
theorem dX3_stepsToGo_51 : decode cX3_stepsToGo 51 = .ok (.iload 4, 2) := by decide +kernel
theorem dX3_stepsToGo_53 : decode cX3_stepsToGo 53 = .ok (.ifCond .ne 9, 3) := by decide +kernel
theorem dX3_stepsToGo_56 : decode cX3_stepsToGo 56 = .ok (.iload_n 3, 1) := by decide +kernel
theorem dX3_stepsToGo_57 : decode cX3_stepsToGo 57 = .ok (.ifCond .ne 5, 3) := by decide +kernel
theorem dX3_stepsToGo_60 : decode cX3_stepsToGo 60 = .ok (.iconst (-1), 1) := by decide +kernel
theorem dX3_stepsToGo_61 : decode cX3_stepsToGo 61 = .ok (.ireturn, 1) := by decide +kernel
theorem dX3_stepsToGo_62 : decode cX3_stepsToGo 62 = .ok (.iinc 2 1, 3) := by decide +kernel
theorem dX3_stepsToGo_65 : decode cX3_stepsToGo 65 = .ok (.goto (-48), 3) := by decide +kernel
theorem dX3_stepsToGo_68 : decode cX3_stepsToGo 68 = .ok (.aload_n 0, 1) := by decide +kernel
theorem dX3_stepsToGo_69 : decode cX3_stepsToGo 69 = .ok (.getfield 16, 3) := by decide +kernel
theorem dX3_stepsToGo_72 : decode cX3_stepsToGo 72 = .ok (.invokevirtual 122, 3) := by decide +kernel
theorem dX3_stepsToGo_75 : decode cX3_stepsToGo 75 = .ok (.ifCond .eq 7, 3) := by decide +kernel
theorem dX3_stepsToGo_78 : decode cX3_stepsToGo 78 = .ok (.iload_n 2, 1) := by decide +kernel
theorem dX3_stepsToGo_79 : decode cX3_stepsToGo 79 = .ok (.goto 4, 3) := by decide +kernel
theorem dX3_stepsToGo_82 : decode cX3_stepsToGo 82 = .ok (.iconst (-1), 1) := by decide +kernel
theorem dX3_stepsToGo_83 : decode cX3_stepsToGo 83 = .ok (.ireturn, 1) := by decide +kernel
theorem dX3_checkTile_0 : decode cX3_checkTile 0 = .ok (.iload_n 0, 1) := by decide +kernel
theorem dX3_checkTile_1 : decode cX3_checkTile 1 = .ok (.ifCond .lt 19, 3) := by decide +kernel
theorem dX3_checkTile_4 : decode cX3_checkTile 4 = .ok (.iload_n 0, 1) := by decide +kernel
theorem dX3_checkTile_5 : decode cX3_checkTile 5 = .ok (.bipush 8, 2) := by decide +kernel
theorem dX3_checkTile_7 : decode cX3_checkTile 7 = .ok (.if_icmp .ge 13, 3) := by decide +kernel
theorem dX3_checkTile_10 : decode cX3_checkTile 10 = .ok (.iload_n 1, 1) := by decide +kernel
theorem dX3_checkTile_11 : decode cX3_checkTile 11 = .ok (.ifCond .lt 9, 3) := by decide +kernel
theorem dX3_checkTile_14 : decode cX3_checkTile 14 = .ok (.iload_n 1, 1) := by decide +kernel
theorem dX3_checkTile_15 : decode cX3_checkTile 15 = .ok (.bipush 6, 2) := by decide +kernel
theorem dX3_checkTile_17 : decode cX3_checkTile 17 = .ok (.if_icmp .lt 13, 3) := by decide +kernel
theorem dX3_checkTile_20 : decode cX3_checkTile 20 = .ok (.new 99, 3) := by decide +kernel
theorem dX3_checkTile_23 : decode cX3_checkTile 23 = .ok (.dup, 1) := by decide +kernel
theorem dX3_checkTile_24 : decode cX3_checkTile 24 = .ok (.ldc 129, 2) := by decide +kernel
theorem dX3_checkTile_26 : decode cX3_checkTile 26 = .ok (.invokespecial 103, 3) := by decide +kernel
theorem dX3_checkTile_29 : decode cX3_checkTile 29 = .ok (.athrow, 1) := by decide +kernel
theorem dX3_checkTile_30 : decode cX3_checkTile 30 = .ok (.return_, 1) := by decide +kernel
theorem dX3_checkBlock_0 : decode cX3_checkBlock 0 = .ok (.iload_n 0, 1) := by decide +kernel
theorem dX3_checkBlock_1 : decode cX3_checkBlock 1 = .ok (.iload_n 1, 1) := by decide +kernel
theorem dX3_checkBlock_2 : decode cX3_checkBlock 2 = .ok (.invokestatic 48, 3) := by decide +kernel
theorem dX3_checkBlock_5 : decode cX3_checkBlock 5 = .ok (.iload_n 2, 1) := by decide +kernel
theorem dX3_checkBlock_6 : decode cX3_checkBlock 6 = .ok (.iconst 1, 1) := by decide +kernel
theorem dX3_checkBlock_7 : decode cX3_checkBlock 7 = .ok (.if_icmp .lt 24, 3) := by decide +kernel
theorem dX3_checkBlock_10 : decode cX3_checkBlock 10 = .ok (.iload_n 2, 1) := by decide +kernel
theorem dX3_checkBlock_11 : decode cX3_checkBlock 11 = .ok (.bipush 8, 2) := by decide +kernel
theorem dX3_checkBlock_13 : decode cX3_checkBlock 13 = .ok (.iload_n 0, 1) := by decide +kernel
theorem dX3_checkBlock_14 : decode cX3_checkBlock 14 = .ok (.isub, 1) := by decide +kernel
theorem dX3_checkBlock_15 : decode cX3_checkBlock 15 = .ok (.if_icmp .gt 16, 3) := by decide +kernel
theorem dX3_checkBlock_18 : decode cX3_checkBlock 18 = .ok (.iload_n 3, 1) := by decide +kernel
theorem dX3_checkBlock_19 : decode cX3_checkBlock 19 = .ok (.iconst 1, 1) := by decide +kernel
theorem dX3_checkBlock_20 : decode cX3_checkBlock 20 = .ok (.if_icmp .lt 11, 3) := by decide +kernel
theorem dX3_checkBlock_23 : decode cX3_checkBlock 23 = .ok (.iload_n 3, 1) := by decide +kernel
theorem dX3_checkBlock_24 : decode cX3_checkBlock 24 = .ok (.bipush 6, 2) := by decide +kernel
theorem dX3_checkBlock_26 : decode cX3_checkBlock 26 = .ok (.iload_n 1, 1) := by decide +kernel
theorem dX3_checkBlock_27 : decode cX3_checkBlock 27 = .ok (.isub, 1) := by decide +kernel
theorem dX3_checkBlock_28 : decode cX3_checkBlock 28 = .ok (.if_icmp .le 13, 3) := by decide +kernel
theorem dX3_checkBlock_31 : decode cX3_checkBlock 31 = .ok (.new 99, 3) := by decide +kernel
theorem dX3_checkBlock_34 : decode cX3_checkBlock 34 = .ok (.dup, 1) := by decide +kernel
theorem dX3_checkBlock_35 : decode cX3_checkBlock 35 = .ok (.ldc 131, 2) := by decide +kernel
theorem dX3_checkBlock_37 : decode cX3_checkBlock 37 = .ok (.invokespecial 103, 3) := by decide +kernel
theorem dX3_checkBlock_40 : decode cX3_checkBlock 40 = .ok (.athrow, 1) := by decide +kernel
theorem dX3_checkBlock_41 : decode cX3_checkBlock 41 = .ok (.return_, 1) := by decide +kernel
theorem dX3_checkBudget_0 : decode cX3_checkBudget 0 = .ok (.iload_n 0, 1) := by decide +kernel
theorem dX3_checkBudget_1 : decode cX3_checkBudget 1 = .ok (.ifCond .lt 10, 3) := by decide +kernel
theorem dX3_checkBudget_4 : decode cX3_checkBudget 4 = .ok (.iload_n 0, 1) := by decide +kernel
theorem dX3_checkBudget_5 : decode cX3_checkBudget 5 = .ok (.sipush 300, 3) := by decide +kernel
theorem dX3_checkBudget_8 : decode cX3_checkBudget 8 = .ok (.if_icmp .le 13, 3) := by decide +kernel
theorem dX3_checkBudget_11 : decode cX3_checkBudget 11 = .ok (.new 23, 3) := by decide +kernel
theorem dX3_checkBudget_14 : decode cX3_checkBudget 14 = .ok (.dup, 1) := by decide +kernel
theorem dX3_checkBudget_15 : decode cX3_checkBudget 15 = .ok (.ldc 133, 2) := by decide +kernel
theorem dX3_checkBudget_17 : decode cX3_checkBudget 17 = .ok (.invokespecial 27, 3) := by decide +kernel
theorem dX3_checkBudget_20 : decode cX3_checkBudget 20 = .ok (.athrow, 1) := by decide +kernel
theorem dX3_checkBudget_21 : decode cX3_checkBudget 21 = .ok (.return_, 1) := by decide +kernel
theorem dX3_tileAt_0 : decode cX3_tileAt 0 = .ok (.bipush 8, 2) := by decide +kernel
theorem dX3_tileAt_2 : decode cX3_tileAt 2 = .ok (.iload_n 1, 1) := by decide +kernel
theorem dX3_tileAt_3 : decode cX3_tileAt 3 = .ok (.imul, 1) := by decide +kernel
theorem dX3_tileAt_4 : decode cX3_tileAt 4 = .ok (.iload_n 0, 1) := by decide +kernel
theorem dX3_tileAt_5 : decode cX3_tileAt 5 = .ok (.iadd, 1) := by decide +kernel
theorem dX3_tileAt_6 : decode cX3_tileAt 6 = .ok (.ireturn, 1) := by decide +kernel
theorem dX3_wholeCost_0 : decode cX3_wholeCost 0 = .ok (.iload_n 0, 1) := by decide +kernel
theorem dX3_wholeCost_1 : decode cX3_wholeCost 1 = .ok (.bipush 64, 2) := by decide +kernel
theorem dX3_wholeCost_3 : decode cX3_wholeCost 3 = .ok (.if_icmp .ge 7, 3) := by decide +kernel
theorem dX3_wholeCost_6 : decode cX3_wholeCost 6 = .ok (.iconst 2, 1) := by decide +kernel
theorem dX3_wholeCost_7 : decode cX3_wholeCost 7 = .ok (.goto 5, 3) := by decide +kernel
theorem dX3_wholeCost_10 : decode cX3_wholeCost 10 = .ok (.bipush 6, 2) := by decide +kernel
theorem dX3_wholeCost_12 : decode cX3_wholeCost 12 = .ok (.ireturn, 1) := by decide +kernel
theorem dX4_init_0 : decode cX4_init 0 = .ok (.aload_n 0, 1) := by decide +kernel
theorem dX4_init_1 : decode cX4_init 1 = .ok (.invokespecial 1, 3) := by decide +kernel
theorem dX4_init_4 : decode cX4_init 4 = .ok (.aload_n 0, 1) := by decide +kernel
theorem dX4_init_5 : decode cX4_init 5 = .ok (.bipush 48, 2) := by decide +kernel
theorem dX4_init_7 : decode cX4_init 7 = .ok (.newarray .int, 2) := by decide +kernel
theorem dX4_init_9 : decode cX4_init 9 = .ok (.putfield 7, 3) := by decide +kernel
theorem dX4_init_12 : decode cX4_init 12 = .ok (.aload_n 0, 1) := by decide +kernel
theorem dX4_init_13 : decode cX4_init 13 = .ok (.bipush 48, 2) := by decide +kernel
theorem dX4_init_15 : decode cX4_init 15 = .ok (.newarray .int, 2) := by decide +kernel
theorem dX4_init_17 : decode cX4_init 17 = .ok (.putfield 13, 3) := by decide +kernel
theorem dX4_init_20 : decode cX4_init 20 = .ok (.aload_n 0, 1) := by decide +kernel
theorem dX4_init_21 : decode cX4_init 21 = .ok (.bipush 48, 2) := by decide +kernel
theorem dX4_init_23 : decode cX4_init 23 = .ok (.newarray .int, 2) := by decide +kernel
theorem dX4_init_25 : decode cX4_init 25 = .ok (.putfield 16, 3) := by decide +kernel
theorem dX4_init_28 : decode cX4_init 28 = .ok (.aload_n 0, 1) := by decide +kernel
theorem dX4_init_29 : decode cX4_init 29 = .ok (.bipush 48, 2) := by decide +kernel
theorem dX4_init_31 : decode cX4_init 31 = .ok (.newarray .int, 2) := by decide +kernel
theorem dX4_init_33 : decode cX4_init 33 = .ok (.putfield 19, 3) := by decide +kernel
theorem dX4_init_36 : decode cX4_init 36 = .ok (.aload_n 0, 1) := by decide +kernel
theorem dX4_init_37 : decode cX4_init 37 = .ok (.iconst 4, 1) := by decide +kernel
theorem dX4_init_38 : decode cX4_init 38 = .ok (.newarray .int, 2) := by decide +kernel
theorem dX4_init_40 : decode cX4_init 40 = .ok (.putfield 22, 3) := by decide +kernel
theorem dX4_init_43 : decode cX4_init 43 = .ok (.aload_n 0, 1) := by decide +kernel
theorem dX4_init_44 : decode cX4_init 44 = .ok (.iconst 4, 1) := by decide +kernel
theorem dX4_init_45 : decode cX4_init 45 = .ok (.newarray .int, 2) := by decide +kernel
theorem dX4_init_47 : decode cX4_init 47 = .ok (.putfield 25, 3) := by decide +kernel
theorem dX4_init_50 : decode cX4_init 50 = .ok (.aload_n 0, 1) := by decide +kernel
theorem dX4_init_51 : decode cX4_init 51 = .ok (.iconst 4, 1) := by decide +kernel
theorem dX4_init_52 : decode cX4_init 52 = .ok (.newarray .int, 2) := by decide +kernel
theorem dX4_init_54 : decode cX4_init 54 = .ok (.putfield 28, 3) := by decide +kernel
theorem dX4_init_57 : decode cX4_init 57 = .ok (.aload_n 0, 1) := by decide +kernel
theorem dX4_init_58 : decode cX4_init 58 = .ok (.iconst 4, 1) := by decide +kernel
theorem dX4_init_59 : decode cX4_init 59 = .ok (.newarray .int, 2) := by decide +kernel
theorem dX4_init_61 : decode cX4_init 61 = .ok (.putfield 31, 3) := by decide +kernel
theorem dX4_init_64 : decode cX4_init 64 = .ok (.aload_n 0, 1) := by decide +kernel
theorem dX4_init_65 : decode cX4_init 65 = .ok (.bipush 9, 2) := by decide +kernel
theorem dX4_init_67 : decode cX4_init 67 = .ok (.newarray .int, 2) := by decide +kernel
theorem dX4_init_69 : decode cX4_init 69 = .ok (.putfield 34, 3) := by decide +kernel
theorem dX4_init_72 : decode cX4_init 72 = .ok (.aload_n 0, 1) := by decide +kernel
theorem dX4_init_73 : decode cX4_init 73 = .ok (.iconst 4, 1) := by decide +kernel
theorem dX4_init_74 : decode cX4_init 74 = .ok (.newarray .int, 2) := by decide +kernel
theorem dX4_init_76 : decode cX4_init 76 = .ok (.putfield 37, 3) := by decide +kernel
theorem dX4_init_79 : decode cX4_init 79 = .ok (.aload_n 0, 1) := by decide +kernel
theorem dX4_init_80 : decode cX4_init 80 = .ok (.bipush 48, 2) := by decide +kernel
theorem dX4_init_82 : decode cX4_init 82 = .ok (.newarray .int, 2) := by decide +kernel
theorem dX4_init_84 : decode cX4_init 84 = .ok (.putfield 40, 3) := by decide +kernel
theorem dX4_init_87 : decode cX4_init 87 = .ok (.aload_n 0, 1) := by decide +kernel
theorem dX4_init_88 : decode cX4_init 88 = .ok (.bipush 48, 2) := by decide +kernel
theorem dX4_init_90 : decode cX4_init 90 = .ok (.newarray .boolean, 2) := by decide +kernel
theorem dX4_init_92 : decode cX4_init 92 = .ok (.putfield 43, 3) := by decide +kernel
theorem dX4_init_95 : decode cX4_init 95 = .ok (.aload_n 0, 1) := by decide +kernel
theorem dX4_init_96 : decode cX4_init 96 = .ok (.bipush 48, 2) := by decide +kernel
theorem dX4_init_98 : decode cX4_init 98 = .ok (.newarray .int, 2) := by decide +kernel
theorem dX4_init_100 : decode cX4_init 100 = .ok (.putfield 47, 3) := by decide +kernel
theorem dX4_init_103 : decode cX4_init 103 = .ok (.aload_n 0, 1) := by decide +kernel
theorem dX4_init_104 : decode cX4_init 104 = .ok (.sipush 300, 3) := by decide +kernel
theorem dX4_init_107 : decode cX4_init 107 = .ok (.newarray .int, 2) := by decide +kernel
theorem dX4_init_109 : decode cX4_init 109 = .ok (.putfield 50, 3) := by decide +kernel
theorem dX4_init_112 : decode cX4_init 112 = .ok (.iconst 0, 1) := by decide +kernel
theorem dX4_init_113 : decode cX4_init 113 = .ok (.istore_n 1, 1) := by decide +kernel
theorem dX4_init_114 : decode cX4_init 114 = .ok (.iload_n 1, 1) := by decide +kernel
theorem dX4_init_115 : decode cX4_init 115 = .ok (.bipush 48, 2) := by decide +kernel
theorem dX4_init_117 : decode cX4_init 117 = .ok (.if_icmp .ge 16, 3) := by decide +kernel
theorem dX4_init_120 : decode cX4_init 120 = .ok (.aload_n 0, 1) := by decide +kernel
theorem dX4_init_121 : decode cX4_init 121 = .ok (.getfield 16, 3) := by decide +kernel
theorem dX4_init_124 : decode cX4_init 124 = .ok (.iload_n 1, 1) := by decide +kernel
theorem dX4_init_125 : decode cX4_init 125 = .ok (.iconst (-1), 1) := by decide +kernel
theorem dX4_init_126 : decode cX4_init 126 = .ok (.iastore, 1) := by decide +kernel
theorem dX4_init_127 : decode cX4_init 127 = .ok (.iinc 1 1, 3) := by decide +kernel
theorem dX4_init_130 : decode cX4_init 130 = .ok (.goto (-16), 3) := by decide +kernel
theorem dX4_init_133 : decode cX4_init 133 = .ok (.return_, 1) := by decide +kernel
theorem dX4_thrown_0 : decode cX4_thrown 0 = .ok (.aload_n 0, 1) := by decide +kernel
theorem dX4_thrown_1 : decode cX4_thrown 1 = .ok (.getfield 53, 3) := by decide +kernel
theorem dX4_thrown_4 : decode cX4_thrown 4 = .ok (.ireturn, 1) := by decide +kernel
theorem dX4_isIn_0 : decode cX4_isIn 0 = .ok (.iload_n 0, 1) := by decide +kernel
theorem dX4_isIn_1 : decode cX4_isIn 1 = .ok (.iload_n 1, 1) := by decide +kernel
theorem dX4_isIn_2 : decode cX4_isIn 2 = .ok (.if_icmp .lt 12, 3) := by decide +kernel
theorem dX4_isIn_5 : decode cX4_isIn 5 = .ok (.iload_n 0, 1) := by decide +kernel
theorem dX4_isIn_6 : decode cX4_isIn 6 = .ok (.iload_n 2, 1) := by decide +kernel
theorem dX4_isIn_7 : decode cX4_isIn 7 = .ok (.if_icmp .gt 7, 3) := by decide +kernel
theorem dX4_isIn_10 : decode cX4_isIn 10 = .ok (.iconst 1, 1) := by decide +kernel
theorem dX4_isIn_11 : decode cX4_isIn 11 = .ok (.goto 4, 3) := by decide +kernel
theorem dX4_isIn_14 : decode cX4_isIn 14 = .ok (.iconst 0, 1) := by decide +kernel
theorem dX4_isIn_15 : decode cX4_isIn 15 = .ok (.ireturn, 1) := by decide +kernel
theorem dX4_isTile_0 : decode cX4_isTile 0 = .ok (.iload_n 0, 1) := by decide +kernel
theorem dX4_isTile_1 : decode cX4_isTile 1 = .ok (.iconst 0, 1) := by decide +kernel
theorem dX4_isTile_2 : decode cX4_isTile 2 = .ok (.bipush 7, 2) := by decide +kernel
theorem dX4_isTile_4 : decode cX4_isTile 4 = .ok (.invokestatic 57, 3) := by decide +kernel
theorem dX4_isTile_7 : decode cX4_isTile 7 = .ok (.ifCond .eq 16, 3) := by decide +kernel
theorem dX4_isTile_10 : decode cX4_isTile 10 = .ok (.iload_n 1, 1) := by decide +kernel
theorem dX4_isTile_11 : decode cX4_isTile 11 = .ok (.iconst 0, 1) := by decide +kernel
theorem dX4_isTile_12 : decode cX4_isTile 12 = .ok (.iconst 5, 1) := by decide +kernel
theorem dX4_isTile_13 : decode cX4_isTile 13 = .ok (.invokestatic 57, 3) := by decide +kernel
theorem dX4_isTile_16 : decode cX4_isTile 16 = .ok (.ifCond .eq 7, 3) := by decide +kernel
theorem dX4_isTile_19 : decode cX4_isTile 19 = .ok (.iconst 1, 1) := by decide +kernel
theorem dX4_isTile_20 : decode cX4_isTile 20 = .ok (.goto 4, 3) := by decide +kernel
theorem dX4_isTile_23 : decode cX4_isTile 23 = .ok (.iconst 0, 1) := by decide +kernel
theorem dX4_isTile_24 : decode cX4_isTile 24 = .ok (.ireturn, 1) := by decide +kernel
theorem dX4_isBlock_0 : decode cX4_isBlock 0 = .ok (.iload_n 0, 1) := by decide +kernel
theorem dX4_isBlock_1 : decode cX4_isBlock 1 = .ok (.iload_n 1, 1) := by decide +kernel
theorem dX4_isBlock_2 : decode cX4_isBlock 2 = .ok (.invokestatic 61, 3) := by decide +kernel
theorem dX4_isBlock_5 : decode cX4_isBlock 5 = .ok (.ifCond .eq 31, 3) := by decide +kernel
theorem dX4_isBlock_8 : decode cX4_isBlock 8 = .ok (.iload_n 2, 1) := by decide +kernel
theorem dX4_isBlock_9 : decode cX4_isBlock 9 = .ok (.iconst 1, 1) := by decide +kernel
theorem dX4_isBlock_10 : decode cX4_isBlock 10 = .ok (.bipush 8, 2) := by decide +kernel
theorem dX4_isBlock_12 : decode cX4_isBlock 12 = .ok (.iload_n 0, 1) := by decide +kernel
theorem dX4_isBlock_13 : decode cX4_isBlock 13 = .ok (.isub, 1) := by decide +kernel
theorem dX4_isBlock_14 : decode cX4_isBlock 14 = .ok (.invokestatic 57, 3) := by decide +kernel
theorem dX4_isBlock_17 : decode cX4_isBlock 17 = .ok (.ifCond .eq 19, 3) := by decide +kernel
theorem dX4_isBlock_20 : decode cX4_isBlock 20 = .ok (.iload_n 3, 1) := by decide +kernel
theorem dX4_isBlock_21 : decode cX4_isBlock 21 = .ok (.iconst 1, 1) := by decide +kernel
theorem dX4_isBlock_22 : decode cX4_isBlock 22 = .ok (.bipush 6, 2) := by decide +kernel
theorem dX4_isBlock_24 : decode cX4_isBlock 24 = .ok (.iload_n 1, 1) := by decide +kernel
theorem dX4_isBlock_25 : decode cX4_isBlock 25 = .ok (.isub, 1) := by decide +kernel
theorem dX4_isBlock_26 : decode cX4_isBlock 26 = .ok (.invokestatic 57, 3) := by decide +kernel
theorem dX4_isBlock_29 : decode cX4_isBlock 29 = .ok (.ifCond .eq 7, 3) := by decide +kernel
theorem dX4_isBlock_32 : decode cX4_isBlock 32 = .ok (.iconst 1, 1) := by decide +kernel
theorem dX4_isBlock_33 : decode cX4_isBlock 33 = .ok (.goto 4, 3) := by decide +kernel
theorem dX4_isBlock_36 : decode cX4_isBlock 36 = .ok (.iconst 0, 1) := by decide +kernel
theorem dX4_isBlock_37 : decode cX4_isBlock 37 = .ok (.ireturn, 1) := by decide +kernel
theorem dX4_compares_0 : decode cX4_compares 0 = .ok (.aload_n 0, 1) := by decide +kernel
theorem dX4_compares_1 : decode cX4_compares 1 = .ok (.getfield 13, 3) := by decide +kernel
theorem dX4_compares_4 : decode cX4_compares 4 = .ok (.iload_n 1, 1) := by decide +kernel
theorem dX4_compares_5 : decode cX4_compares 5 = .ok (.iaload, 1) := by decide +kernel
theorem dX4_compares_6 : decode cX4_compares 6 = .ok (.aload_n 0, 1) := by decide +kernel
theorem dX4_compares_7 : decode cX4_compares 7 = .ok (.getfield 7, 3) := by decide +kernel
theorem dX4_compares_10 : decode cX4_compares 10 = .ok (.iload_n 1, 1) := by decide +kernel
theorem dX4_compares_11 : decode cX4_compares 11 = .ok (.iaload, 1) := by decide +kernel
theorem dX4_compares_12 : decode cX4_compares 12 = .ok (.if_icmp .eq 7, 3) := by decide +kernel
theorem dX4_compares_15 : decode cX4_compares 15 = .ok (.iconst 1, 1) := by decide +kernel
theorem dX4_compares_16 : decode cX4_compares 16 = .ok (.goto 4, 3) := by decide +kernel
theorem dX4_compares_19 : decode cX4_compares 19 = .ok (.iconst 0, 1) := by decide +kernel
theorem dX4_compares_20 : decode cX4_compares 20 = .ok (.istore_n 2, 1) := by decide +kernel
theorem dX4_compares_21 : decode cX4_compares 21 = .ok (.aload_n 0, 1) := by decide +kernel
theorem dX4_compares_22 : decode cX4_compares 22 = .ok (.getfield 16, 3) := by decide +kernel
theorem dX4_compares_25 : decode cX4_compares 25 = .ok (.iload_n 1, 1) := by decide +kernel
theorem dX4_compares_26 : decode cX4_compares 26 = .ok (.iload_n 2, 1) := by decide +kernel
theorem dX4_compares_27 : decode cX4_compares 27 = .ok (.ifCond .ne 7, 3) := by decide +kernel
theorem dX4_compares_30 : decode cX4_compares 30 = .ok (.iconst (-1), 1) := by decide +kernel
theorem dX4_compares_31 : decode cX4_compares 31 = .ok (.goto 26, 3) := by decide +kernel
theorem dX4_compares_34 : decode cX4_compares 34 = .ok (.aload_n 0, 1) := by decide +kernel
theorem dX4_compares_35 : decode cX4_compares 35 = .ok (.getfield 16, 3) := by decide +kernel
theorem dX4_compares_38 : decode cX4_compares 38 = .ok (.iload_n 1, 1) := by decide +kernel
theorem dX4_compares_39 : decode cX4_compares 39 = .ok (.iaload, 1) := by decide +kernel
theorem dX4_compares_40 : decode cX4_compares 40 = .ok (.iconst (-1), 1) := by decide +kernel
theorem dX4_compares_41 : decode cX4_compares 41 = .ok (.if_icmp .ne 10, 3) := by decide +kernel
theorem dX4_compares_44 : decode cX4_compares 44 = .ok (.aload_n 0, 1) := by decide +kernel
theorem dX4_compares_45 : decode cX4_compares 45 = .ok (.getfield 65, 3) := by decide +kernel
theorem dX4_compares_48 : decode cX4_compares 48 = .ok (.goto 9, 3) := by decide +kernel
theorem dX4_compares_51 : decode cX4_compares 51 = .ok (.aload_n 0, 1) := by decide +kernel
theorem dX4_compares_52 : decode cX4_compares 52 = .ok (.getfield 16, 3) := by decide +kernel
theorem dX4_compares_55 : decode cX4_compares 55 = .ok (.iload_n 1, 1) := by decide +kernel
theorem dX4_compares_56 : decode cX4_compares 56 = .ok (.iaload, 1) := by decide +kernel
theorem dX4_compares_57 : decode cX4_compares 57 = .ok (.iastore, 1) := by decide +kernel
theorem dX4_compares_58 : decode cX4_compares 58 = .ok (.return_, 1) := by decide +kernel
theorem dX4_unlikeTiles_0 : decode cX4_unlikeTiles 0 = .ok (.iconst 0, 1) := by decide +kernel
theorem dX4_unlikeTiles_1 : decode cX4_unlikeTiles 1 = .ok (.istore_n 1, 1) := by decide +kernel
theorem dX4_unlikeTiles_2 : decode cX4_unlikeTiles 2 = .ok (.iconst 0, 1) := by decide +kernel
theorem dX4_unlikeTiles_3 : decode cX4_unlikeTiles 3 = .ok (.istore_n 2, 1) := by decide +kernel
theorem dX4_unlikeTiles_4 : decode cX4_unlikeTiles 4 = .ok (.iload_n 2, 1) := by decide +kernel
theorem dX4_unlikeTiles_5 : decode cX4_unlikeTiles 5 = .ok (.bipush 48, 2) := by decide +kernel
theorem dX4_unlikeTiles_7 : decode cX4_unlikeTiles 7 = .ok (.if_icmp .ge 27, 3) := by decide +kernel
theorem dX4_unlikeTiles_10 : decode cX4_unlikeTiles 10 = .ok (.iload_n 1, 1) := by decide +kernel
theorem dX4_unlikeTiles_11 : decode cX4_unlikeTiles 11 = .ok (.aload_n 0, 1) := by decide +kernel
theorem dX4_unlikeTiles_12 : decode cX4_unlikeTiles 12 = .ok (.getfield 16, 3) := by decide +kernel
theorem dX4_unlikeTiles_15 : decode cX4_unlikeTiles 15 = .ok (.iload_n 2, 1) := by decide +kernel
theorem dX4_unlikeTiles_16 : decode cX4_unlikeTiles 16 = .ok (.iaload, 1) := by decide +kernel
theorem dX4_unlikeTiles_17 : decode cX4_unlikeTiles 17 = .ok (.iconst (-1), 1) := by decide +kernel
theorem dX4_unlikeTiles_18 : decode cX4_unlikeTiles 18 = .ok (.if_icmp .ne 7, 3) := by decide +kernel
theorem dX4_unlikeTiles_21 : decode cX4_unlikeTiles 21 = .ok (.iconst 0, 1) := by decide +kernel
theorem dX4_unlikeTiles_22 : decode cX4_unlikeTiles 22 = .ok (.goto 4, 3) := by decide +kernel
theorem dX4_unlikeTiles_25 : decode cX4_unlikeTiles 25 = .ok (.iconst 1, 1) := by decide +kernel
theorem dX4_unlikeTiles_26 : decode cX4_unlikeTiles 26 = .ok (.iadd, 1) := by decide +kernel
theorem dX4_unlikeTiles_27 : decode cX4_unlikeTiles 27 = .ok (.istore_n 1, 1) := by decide +kernel
theorem dX4_unlikeTiles_28 : decode cX4_unlikeTiles 28 = .ok (.iinc 2 1, 3) := by decide +kernel
theorem dX4_unlikeTiles_31 : decode cX4_unlikeTiles 31 = .ok (.goto (-27), 3) := by decide +kernel
theorem dX4_unlikeTiles_34 : decode cX4_unlikeTiles 34 = .ok (.iload_n 1, 1) := by decide +kernel
theorem dX4_unlikeTiles_35 : decode cX4_unlikeTiles 35 = .ok (.ireturn, 1) := by decide +kernel
theorem dX4_draws_0 : decode cX4_draws 0 = .ok (.aload_n 0, 1) := by decide +kernel
theorem dX4_draws_1 : decode cX4_draws 1 = .ok (.getfield 19, 3) := by decide +kernel
theorem dX4_draws_4 : decode cX4_draws 4 = .ok (.iload_n 1, 1) := by decide +kernel
theorem dX4_draws_5 : decode cX4_draws 5 = .ok (.dup2, 1) := by decide +kernel
theorem dX4_draws_6 : decode cX4_draws 6 = .ok (.iaload, 1) := by decide +kernel
theorem dX4_draws_7 : decode cX4_draws 7 = .ok (.aload_n 0, 1) := by decide +kernel
theorem dX4_draws_8 : decode cX4_draws 8 = .ok (.getfield 7, 3) := by decide +kernel
theorem dX4_draws_11 : decode cX4_draws 11 = .ok (.iload_n 1, 1) := by decide +kernel
theorem dX4_draws_12 : decode cX4_draws 12 = .ok (.iaload, 1) := by decide +kernel
theorem dX4_draws_13 : decode cX4_draws 13 = .ok (.iload_n 2, 1) := by decide +kernel
theorem dX4_draws_14 : decode cX4_draws 14 = .ok (.if_icmp .ne 7, 3) := by decide +kernel
theorem dX4_draws_17 : decode cX4_draws 17 = .ok (.iconst 0, 1) := by decide +kernel
theorem dX4_draws_18 : decode cX4_draws 18 = .ok (.goto 4, 3) := by decide +kernel
theorem dX4_draws_21 : decode cX4_draws 21 = .ok (.iconst 1, 1) := by decide +kernel
theorem dX4_draws_22 : decode cX4_draws 22 = .ok (.ior, 1) := by decide +kernel
theorem dX4_draws_23 : decode cX4_draws 23 = .ok (.iastore, 1) := by decide +kernel
theorem dX4_draws_24 : decode cX4_draws 24 = .ok (.aload_n 0, 1) := by decide +kernel
theorem dX4_draws_25 : decode cX4_draws 25 = .ok (.getfield 7, 3) := by decide +kernel
theorem dX4_draws_28 : decode cX4_draws 28 = .ok (.iload_n 1, 1) := by decide +kernel
theorem dX4_draws_29 : decode cX4_draws 29 = .ok (.iload_n 2, 1) := by decide +kernel
theorem dX4_draws_30 : decode cX4_draws 30 = .ok (.iastore, 1) := by decide +kernel
theorem dX4_draws_31 : decode cX4_draws 31 = .ok (.aload_n 0, 1) := by decide +kernel
theorem dX4_draws_32 : decode cX4_draws 32 = .ok (.iload_n 1, 1) := by decide +kernel
theorem dX4_draws_33 : decode cX4_draws 33 = .ok (.invokevirtual 68, 3) := by decide +kernel
theorem dX4_draws_36 : decode cX4_draws 36 = .ok (.return_, 1) := by decide +kernel
theorem dX4_fill_0 : decode cX4_fill 0 = .ok (.aload_n 0, 1) := by decide +kernel
theorem dX4_fill_1 : decode cX4_fill 1 = .ok (.iload_n 1, 1) := by decide +kernel
theorem dX4_fill_2 : decode cX4_fill 2 = .ok (.iload_n 2, 1) := by decide +kernel
theorem dX4_fill_3 : decode cX4_fill 3 = .ok (.iload_n 3, 1) := by decide +kernel
theorem dX4_fill_4 : decode cX4_fill 4 = .ok (.iload 4, 2) := by decide +kernel
theorem dX4_fill_6 : decode cX4_fill 6 = .ok (.invokestatic 72, 3) := by decide +kernel
theorem dX4_fill_9 : decode cX4_fill 9 = .ok (.ifCond .ne 7, 3) := by decide +kernel
theorem dX4_fill_12 : decode cX4_fill 12 = .ok (.iconst 1, 1) := by decide +kernel
theorem dX4_fill_13 : decode cX4_fill 13 = .ok (.goto 20, 3) := by decide +kernel
theorem dX4_fill_16 : decode cX4_fill 16 = .ok (.iload 5, 2) := by decide +kernel
theorem dX4_fill_18 : decode cX4_fill 18 = .ok (.iconst 0, 1) := by decide +kernel
theorem dX4_fill_19 : decode cX4_fill 19 = .ok (.sipush 255, 3) := by decide +kernel
theorem dX4_fill_22 : decode cX4_fill 22 = .ok (.invokestatic 57, 3) := by decide +kernel
theorem dX4_fill_25 : decode cX4_fill 25 = .ok (.ifCond .eq 7, 3) := by decide +kernel
theorem dX4_fill_28 : decode cX4_fill 28 = .ok (.iconst 0, 1) := by decide +kernel
theorem dX4_fill_29 : decode cX4_fill 29 = .ok (.goto 4, 3) := by decide +kernel
theorem dX4_fill_32 : decode cX4_fill 32 = .ok (.iconst 2, 1) := by decide +kernel
theorem dX4_fill_33 : decode cX4_fill 33 = .ok (.putfield 53, 3) := by decide +kernel
theorem dX4_fill_36 : decode cX4_fill 36 = .ok (.aload_n 0, 1) := by decide +kernel
theorem dX4_fill_37 : decode cX4_fill 37 = .ok (.getfield 53, 3) := by decide +kernel
theorem dX4_fill_40 : decode cX4_fill 40 = .ok (.ifCond .le 5, 3) := by decide +kernel
theorem dX4_fill_43 : decode cX4_fill 43 = .ok (.iconst 0, 1) := by decide +kernel
theorem dX4_fill_44 : decode cX4_fill 44 = .ok (.ireturn, 1) := by decide +kernel
theorem dX4_fill_45 : decode cX4_fill 45 = .ok (.iconst 0, 1) := by decide +kernel
theorem dX4_fill_46 : decode cX4_fill 46 = .ok (.istore 6, 2) := by decide +kernel
theorem dX4_fill_48 : decode cX4_fill 48 = .ok (.iload 6, 2) := by decide +kernel
theorem dX4_fill_50 : decode cX4_fill 50 = .ok (.iload_n 3, 1) := by decide +kernel
theorem dX4_fill_51 : decode cX4_fill 51 = .ok (.iload 4, 2) := by decide +kernel
theorem dX4_fill_53 : decode cX4_fill 53 = .ok (.imul, 1) := by decide +kernel
theorem dX4_fill_54 : decode cX4_fill 54 = .ok (.if_icmp .ge 31, 3) := by decide +kernel
theorem dX4_fill_57 : decode cX4_fill 57 = .ok (.aload_n 0, 1) := by decide +kernel
theorem dX4_fill_58 : decode cX4_fill 58 = .ok (.bipush 8, 2) := by decide +kernel
theorem dX4_fill_60 : decode cX4_fill 60 = .ok (.iload_n 2, 1) := by decide +kernel
theorem dX4_fill_61 : decode cX4_fill 61 = .ok (.iload 6, 2) := by decide +kernel
theorem dX4_fill_63 : decode cX4_fill 63 = .ok (.iload_n 3, 1) := by decide +kernel
theorem dX4_fill_64 : decode cX4_fill 64 = .ok (.idiv, 1) := by decide +kernel
theorem dX4_fill_65 : decode cX4_fill 65 = .ok (.iadd, 1) := by decide +kernel
theorem dX4_fill_66 : decode cX4_fill 66 = .ok (.imul, 1) := by decide +kernel
theorem dX4_fill_67 : decode cX4_fill 67 = .ok (.iload_n 1, 1) := by decide +kernel
theorem dX4_fill_68 : decode cX4_fill 68 = .ok (.iadd, 1) := by decide +kernel
theorem dX4_fill_69 : decode cX4_fill 69 = .ok (.iload 6, 2) := by decide +kernel
theorem dX4_fill_71 : decode cX4_fill 71 = .ok (.iload_n 3, 1) := by decide +kernel
theorem dX4_fill_72 : decode cX4_fill 72 = .ok (.irem, 1) := by decide +kernel
theorem dX4_fill_73 : decode cX4_fill 73 = .ok (.iadd, 1) := by decide +kernel
theorem dX4_fill_74 : decode cX4_fill 74 = .ok (.iload 5, 2) := by decide +kernel
theorem dX4_fill_76 : decode cX4_fill 76 = .ok (.invokevirtual 76, 3) := by decide +kernel
theorem dX4_fill_79 : decode cX4_fill 79 = .ok (.iinc 6 1, 3) := by decide +kernel
theorem dX4_fill_82 : decode cX4_fill 82 = .ok (.goto (-34), 3) := by decide +kernel
theorem dX4_fill_85 : decode cX4_fill 85 = .ok (.aload_n 0, 1) := by decide +kernel
theorem dX4_fill_86 : decode cX4_fill 86 = .ok (.invokevirtual 80, 3) := by decide +kernel
theorem dX4_fill_89 : decode cX4_fill 89 = .ok (.ireturn, 1) := by decide +kernel
theorem dX4_copies_0 : decode cX4_copies 0 = .ok (.iconst 0, 1) := by decide +kernel
theorem dX4_copies_1 : decode cX4_copies 1 = .ok (.istore 5, 2) := by decide +kernel
theorem dX4_copies_3 : decode cX4_copies 3 = .ok (.iload 5, 2) := by decide +kernel
theorem dX4_copies_5 : decode cX4_copies 5 = .ok (.iload_n 3, 1) := by decide +kernel
theorem dX4_copies_6 : decode cX4_copies 6 = .ok (.iload 4, 2) := by decide +kernel
theorem dX4_copies_8 : decode cX4_copies 8 = .ok (.imul, 1) := by decide +kernel
theorem dX4_copies_9 : decode cX4_copies 9 = .ok (.if_icmp .ge 32, 3) := by decide +kernel
theorem dX4_copies_12 : decode cX4_copies 12 = .ok (.aload_n 0, 1) := by decide +kernel
theorem dX4_copies_13 : decode cX4_copies 13 = .ok (.getfield 40, 3) := by decide +kernel
theorem dX4_copies_16 : decode cX4_copies 16 = .ok (.iload 5, 2) := by decide +kernel
theorem dX4_copies_18 : decode cX4_copies 18 = .ok (.aload_n 1, 1) := by decide +kernel
theorem dX4_copies_19 : decode cX4_copies 19 = .ok (.iload_n 2, 1) := by decide +kernel
theorem dX4_copies_20 : decode cX4_copies 20 = .ok (.bipush 8, 2) := by decide +kernel
theorem dX4_copies_22 : decode cX4_copies 22 = .ok (.iload 5, 2) := by decide +kernel
theorem dX4_copies_24 : decode cX4_copies 24 = .ok (.iload_n 3, 1) := by decide +kernel
theorem dX4_copies_25 : decode cX4_copies 25 = .ok (.idiv, 1) := by decide +kernel
theorem dX4_copies_26 : decode cX4_copies 26 = .ok (.imul, 1) := by decide +kernel
theorem dX4_copies_27 : decode cX4_copies 27 = .ok (.iadd, 1) := by decide +kernel
theorem dX4_copies_28 : decode cX4_copies 28 = .ok (.iload 5, 2) := by decide +kernel
theorem dX4_copies_30 : decode cX4_copies 30 = .ok (.iload_n 3, 1) := by decide +kernel
theorem dX4_copies_31 : decode cX4_copies 31 = .ok (.irem, 1) := by decide +kernel
theorem dX4_copies_32 : decode cX4_copies 32 = .ok (.iadd, 1) := by decide +kernel
theorem dX4_copies_33 : decode cX4_copies 33 = .ok (.iaload, 1) := by decide +kernel
theorem dX4_copies_34 : decode cX4_copies 34 = .ok (.iastore, 1) := by decide +kernel
theorem dX4_copies_35 : decode cX4_copies 35 = .ok (.iinc 5 1, 3) := by decide +kernel
theorem dX4_copies_38 : decode cX4_copies 38 = .ok (.goto (-35), 3) := by decide +kernel
theorem dX4_copies_41 : decode cX4_copies 41 = .ok (.return_, 1) := by decide +kernel
theorem dX4_move_0 : decode cX4_move 0 = .ok (.iload_n 1, 1) := by decide +kernel
theorem dX4_move_1 : decode cX4_move 1 = .ok (.iload_n 2, 1) := by decide +kernel
theorem dX4_move_2 : decode cX4_move 2 = .ok (.iload_n 3, 1) := by decide +kernel
theorem dX4_move_3 : decode cX4_move 3 = .ok (.iload 4, 2) := by decide +kernel
theorem dX4_move_5 : decode cX4_move 5 = .ok (.invokestatic 72, 3) := by decide +kernel
theorem dX4_move_8 : decode cX4_move 8 = .ok (.ifCond .eq 20, 3) := by decide +kernel
theorem dX4_move_11 : decode cX4_move 11 = .ok (.iload 5, 2) := by decide +kernel
theorem dX4_move_13 : decode cX4_move 13 = .ok (.iload 6, 2) := by decide +kernel
theorem dX4_move_15 : decode cX4_move 15 = .ok (.iload_n 3, 1) := by decide +kernel
theorem dX4_move_16 : decode cX4_move 16 = .ok (.iload 4, 2) := by decide +kernel
theorem dX4_move_18 : decode cX4_move 18 = .ok (.invokestatic 72, 3) := by decide +kernel
theorem dX4_move_21 : decode cX4_move 21 = .ok (.ifCond .eq 7, 3) := by decide +kernel
theorem dX4_move_24 : decode cX4_move 24 = .ok (.iconst 1, 1) := by decide +kernel
theorem dX4_move_25 : decode cX4_move 25 = .ok (.goto 4, 3) := by decide +kernel
theorem dX4_move_28 : decode cX4_move 28 = .ok (.iconst 0, 1) := by decide +kernel
theorem dX4_move_29 : decode cX4_move 29 = .ok (.istore 7, 2) := by decide +kernel
theorem dX4_move_31 : decode cX4_move 31 = .ok (.aload_n 0, 1) := by decide +kernel
theorem dX4_move_32 : decode cX4_move 32 = .ok (.iload 7, 2) := by decide +kernel
theorem dX4_move_34 : decode cX4_move 34 = .ok (.ifCond .ne 7, 3) := by decide +kernel
theorem dX4_move_37 : decode cX4_move 37 = .ok (.iconst 1, 1) := by decide +kernel
theorem dX4_move_38 : decode cX4_move 38 = .ok (.goto 20, 3) := by decide +kernel
theorem dX4_move_41 : decode cX4_move 41 = .ok (.iload_n 1, 1) := by decide +kernel
theorem dX4_move_42 : decode cX4_move 42 = .ok (.iload 5, 2) := by decide +kernel
theorem dX4_move_44 : decode cX4_move 44 = .ok (.if_icmp .ne 13, 3) := by decide +kernel
theorem dX4_move_47 : decode cX4_move 47 = .ok (.iload_n 2, 1) := by decide +kernel
theorem dX4_move_48 : decode cX4_move 48 = .ok (.iload 6, 2) := by decide +kernel
theorem dX4_move_50 : decode cX4_move 50 = .ok (.if_icmp .ne 7, 3) := by decide +kernel
theorem dX4_move_53 : decode cX4_move 53 = .ok (.iconst 2, 1) := by decide +kernel
theorem dX4_move_54 : decode cX4_move 54 = .ok (.goto 4, 3) := by decide +kernel
theorem dX4_move_57 : decode cX4_move 57 = .ok (.iconst 0, 1) := by decide +kernel
theorem dX4_move_58 : decode cX4_move 58 = .ok (.putfield 53, 3) := by decide +kernel
theorem dX4_move_61 : decode cX4_move 61 = .ok (.aload_n 0, 1) := by decide +kernel
theorem dX4_move_62 : decode cX4_move 62 = .ok (.getfield 53, 3) := by decide +kernel
theorem dX4_move_65 : decode cX4_move 65 = .ok (.ifCond .le 5, 3) := by decide +kernel
theorem dX4_move_68 : decode cX4_move 68 = .ok (.iconst 0, 1) := by decide +kernel
theorem dX4_move_69 : decode cX4_move 69 = .ok (.ireturn, 1) := by decide +kernel
theorem dX4_move_70 : decode cX4_move 70 = .ok (.aload_n 0, 1) := by decide +kernel
theorem dX4_move_71 : decode cX4_move 71 = .ok (.aload_n 0, 1) := by decide +kernel
theorem dX4_move_72 : decode cX4_move 72 = .ok (.getfield 7, 3) := by decide +kernel
theorem dX4_move_75 : decode cX4_move 75 = .ok (.bipush 8, 2) := by decide +kernel
theorem dX4_move_77 : decode cX4_move 77 = .ok (.iload_n 2, 1) := by decide +kernel
theorem dX4_move_78 : decode cX4_move 78 = .ok (.imul, 1) := by decide +kernel
theorem dX4_move_79 : decode cX4_move 79 = .ok (.iload_n 1, 1) := by decide +kernel
theorem dX4_move_80 : decode cX4_move 80 = .ok (.iadd, 1) := by decide +kernel
theorem dX4_move_81 : decode cX4_move 81 = .ok (.iload_n 3, 1) := by decide +kernel
theorem dX4_move_82 : decode cX4_move 82 = .ok (.iload 4, 2) := by decide +kernel
theorem dX4_move_84 : decode cX4_move 84 = .ok (.invokevirtual 84, 3) := by decide +kernel
theorem dX4_move_87 : decode cX4_move 87 = .ok (.iconst 0, 1) := by decide +kernel
theorem dX4_move_88 : decode cX4_move 88 = .ok (.istore 8, 2) := by decide +kernel
theorem dX4_move_90 : decode cX4_move 90 = .ok (.iload 8, 2) := by decide +kernel
theorem dX4_move_92 : decode cX4_move 92 = .ok (.iload_n 3, 1) := by decide +kernel
theorem dX4_move_93 : decode cX4_move 93 = .ok (.iload 4, 2) := by decide +kernel
theorem dX4_move_95 : decode cX4_move 95 = .ok (.imul, 1) := by decide +kernel
theorem dX4_move_96 : decode cX4_move 96 = .ok (.if_icmp .ge 38, 3) := by decide +kernel
theorem dX4_move_99 : decode cX4_move 99 = .ok (.aload_n 0, 1) := by decide +kernel
theorem dX4_move_100 : decode cX4_move 100 = .ok (.bipush 8, 2) := by decide +kernel
theorem dX4_move_102 : decode cX4_move 102 = .ok (.iload 6, 2) := by decide +kernel
theorem dX4_move_104 : decode cX4_move 104 = .ok (.iload 8, 2) := by decide +kernel
theorem dX4_move_106 : decode cX4_move 106 = .ok (.iload_n 3, 1) := by decide +kernel
theorem dX4_move_107 : decode cX4_move 107 = .ok (.idiv, 1) := by decide +kernel
theorem dX4_move_108 : decode cX4_move 108 = .ok (.iadd, 1) := by decide +kernel
theorem dX4_move_109 : decode cX4_move 109 = .ok (.imul, 1) := by decide +kernel
theorem dX4_move_110 : decode cX4_move 110 = .ok (.iload 5, 2) := by decide +kernel
theorem dX4_move_112 : decode cX4_move 112 = .ok (.iadd, 1) := by decide +kernel
theorem dX4_move_113 : decode cX4_move 113 = .ok (.iload 8, 2) := by decide +kernel
theorem dX4_move_115 : decode cX4_move 115 = .ok (.iload_n 3, 1) := by decide +kernel
theorem dX4_move_116 : decode cX4_move 116 = .ok (.irem, 1) := by decide +kernel
theorem dX4_move_117 : decode cX4_move 117 = .ok (.iadd, 1) := by decide +kernel
theorem dX4_move_118 : decode cX4_move 118 = .ok (.aload_n 0, 1) := by decide +kernel
theorem dX4_move_119 : decode cX4_move 119 = .ok (.getfield 40, 3) := by decide +kernel
theorem dX4_move_122 : decode cX4_move 122 = .ok (.iload 8, 2) := by decide +kernel
theorem dX4_move_124 : decode cX4_move 124 = .ok (.iaload, 1) := by decide +kernel
theorem dX4_move_125 : decode cX4_move 125 = .ok (.invokevirtual 76, 3) := by decide +kernel
theorem dX4_move_128 : decode cX4_move 128 = .ok (.iinc 8 1, 3) := by decide +kernel
theorem dX4_move_131 : decode cX4_move 131 = .ok (.goto (-41), 3) := by decide +kernel
theorem dX4_move_134 : decode cX4_move 134 = .ok (.aload_n 0, 1) := by decide +kernel
theorem dX4_move_135 : decode cX4_move 135 = .ok (.getfield 88, 3) := by decide +kernel
theorem dX4_move_138 : decode cX4_move 138 = .ok (.iconst 4, 1) := by decide +kernel
theorem dX4_move_139 : decode cX4_move 139 = .ok (.if_icmp .ge 66, 3) := by decide +kernel
theorem dX4_move_142 : decode cX4_move 142 = .ok (.aload_n 0, 1) := by decide +kernel
theorem dX4_move_143 : decode cX4_move 143 = .ok (.getfield 22, 3) := by decide +kernel
theorem dX4_move_146 : decode cX4_move 146 = .ok (.aload_n 0, 1) := by decide +kernel
theorem dX4_move_147 : decode cX4_move 147 = .ok (.getfield 88, 3) := by decide +kernel
theorem dX4_move_150 : decode cX4_move 150 = .ok (.bipush 8, 2) := by decide +kernel
theorem dX4_move_152 : decode cX4_move 152 = .ok (.iload_n 2, 1) := by decide +kernel
theorem dX4_move_153 : decode cX4_move 153 = .ok (.imul, 1) := by decide +kernel
theorem dX4_move_154 : decode cX4_move 154 = .ok (.iload_n 1, 1) := by decide +kernel
theorem dX4_move_155 : decode cX4_move 155 = .ok (.iadd, 1) := by decide +kernel
theorem dX4_move_156 : decode cX4_move 156 = .ok (.iastore, 1) := by decide +kernel
theorem dX4_move_157 : decode cX4_move 157 = .ok (.aload_n 0, 1) := by decide +kernel
theorem dX4_move_158 : decode cX4_move 158 = .ok (.getfield 25, 3) := by decide +kernel
theorem dX4_move_161 : decode cX4_move 161 = .ok (.aload_n 0, 1) := by decide +kernel
theorem dX4_move_162 : decode cX4_move 162 = .ok (.getfield 88, 3) := by decide +kernel
theorem dX4_move_165 : decode cX4_move 165 = .ok (.bipush 8, 2) := by decide +kernel
theorem dX4_move_167 : decode cX4_move 167 = .ok (.iload 6, 2) := by decide +kernel
theorem dX4_move_169 : decode cX4_move 169 = .ok (.imul, 1) := by decide +kernel
theorem dX4_move_170 : decode cX4_move 170 = .ok (.iload 5, 2) := by decide +kernel
theorem dX4_move_172 : decode cX4_move 172 = .ok (.iadd, 1) := by decide +kernel
theorem dX4_move_173 : decode cX4_move 173 = .ok (.iastore, 1) := by decide +kernel
theorem dX4_move_174 : decode cX4_move 174 = .ok (.aload_n 0, 1) := by decide +kernel
theorem dX4_move_175 : decode cX4_move 175 = .ok (.getfield 28, 3) := by decide +kernel
theorem dX4_move_178 : decode cX4_move 178 = .ok (.aload_n 0, 1) := by decide +kernel
theorem dX4_move_179 : decode cX4_move 179 = .ok (.getfield 88, 3) := by decide +kernel
theorem dX4_move_182 : decode cX4_move 182 = .ok (.iload_n 3, 1) := by decide +kernel
theorem dX4_move_183 : decode cX4_move 183 = .ok (.iastore, 1) := by decide +kernel
theorem dX4_move_184 : decode cX4_move 184 = .ok (.aload_n 0, 1) := by decide +kernel
theorem dX4_move_185 : decode cX4_move 185 = .ok (.getfield 31, 3) := by decide +kernel
theorem dX4_move_188 : decode cX4_move 188 = .ok (.aload_n 0, 1) := by decide +kernel
theorem dX4_move_189 : decode cX4_move 189 = .ok (.getfield 88, 3) := by decide +kernel
theorem dX4_move_192 : decode cX4_move 192 = .ok (.iload 4, 2) := by decide +kernel
theorem dX4_move_194 : decode cX4_move 194 = .ok (.iastore, 1) := by decide +kernel
theorem dX4_move_195 : decode cX4_move 195 = .ok (.aload_n 0, 1) := by decide +kernel
theorem dX4_move_196 : decode cX4_move 196 = .ok (.dup, 1) := by decide +kernel
theorem dX4_move_197 : decode cX4_move 197 = .ok (.getfield 88, 3) := by decide +kernel
theorem dX4_move_200 : decode cX4_move 200 = .ok (.iconst 1, 1) := by decide +kernel
theorem dX4_move_201 : decode cX4_move 201 = .ok (.iadd, 1) := by decide +kernel
theorem dX4_move_202 : decode cX4_move 202 = .ok (.putfield 88, 3) := by decide +kernel
theorem dX4_move_205 : decode cX4_move 205 = .ok (.aload_n 0, 1) := by decide +kernel
theorem dX4_move_206 : decode cX4_move 206 = .ok (.getfield 88, 3) := by decide +kernel
theorem dX4_move_209 : decode cX4_move 209 = .ok (.ireturn, 1) := by decide +kernel
theorem dX4_look_0 : decode cX4_look 0 = .ok (.aload_n 0, 1) := by decide +kernel
theorem dX4_look_1 : decode cX4_look 1 = .ok (.iload_n 1, 1) := by decide +kernel
theorem dX4_look_2 : decode cX4_look 2 = .ok (.iload_n 2, 1) := by decide +kernel
theorem dX4_look_3 : decode cX4_look 3 = .ok (.invokestatic 61, 3) := by decide +kernel
theorem dX4_look_6 : decode cX4_look 6 = .ok (.ifCond .eq 7, 3) := by decide +kernel
theorem dX4_look_9 : decode cX4_look 9 = .ok (.iconst 0, 1) := by decide +kernel
theorem dX4_look_10 : decode cX4_look 10 = .ok (.goto 4, 3) := by decide +kernel
theorem dX4_look_13 : decode cX4_look 13 = .ok (.iconst 1, 1) := by decide +kernel
theorem dX4_look_14 : decode cX4_look 14 = .ok (.putfield 53, 3) := by decide +kernel
theorem dX4_look_17 : decode cX4_look 17 = .ok (.aload_n 0, 1) := by decide +kernel
theorem dX4_look_18 : decode cX4_look 18 = .ok (.getfield 91, 3) := by decide +kernel
theorem dX4_look_21 : decode cX4_look 21 = .ok (.istore_n 3, 1) := by decide +kernel
theorem dX4_look_22 : decode cX4_look 22 = .ok (.aload_n 0, 1) := by decide +kernel
theorem dX4_look_23 : decode cX4_look 23 = .ok (.aload_n 0, 1) := by decide +kernel
theorem dX4_look_24 : decode cX4_look 24 = .ok (.getfield 53, 3) := by decide +kernel
theorem dX4_look_27 : decode cX4_look 27 = .ok (.ifCond .le 10, 3) := by decide +kernel
theorem dX4_look_30 : decode cX4_look 30 = .ok (.aload_n 0, 1) := by decide +kernel
theorem dX4_look_31 : decode cX4_look 31 = .ok (.getfield 91, 3) := by decide +kernel
theorem dX4_look_34 : decode cX4_look 34 = .ok (.goto 9, 3) := by decide +kernel
theorem dX4_look_37 : decode cX4_look 37 = .ok (.bipush 8, 2) := by decide +kernel
theorem dX4_look_39 : decode cX4_look 39 = .ok (.iload_n 2, 1) := by decide +kernel
theorem dX4_look_40 : decode cX4_look 40 = .ok (.imul, 1) := by decide +kernel
theorem dX4_look_41 : decode cX4_look 41 = .ok (.iload_n 1, 1) := by decide +kernel
theorem dX4_look_42 : decode cX4_look 42 = .ok (.iadd, 1) := by decide +kernel
theorem dX4_look_43 : decode cX4_look 43 = .ok (.putfield 91, 3) := by decide +kernel
theorem dX4_look_46 : decode cX4_look 46 = .ok (.aload_n 0, 1) := by decide +kernel
theorem dX4_look_47 : decode cX4_look 47 = .ok (.getfield 53, 3) := by decide +kernel
theorem dX4_look_50 : decode cX4_look 50 = .ok (.ifCond .le 7, 3) := by decide +kernel
theorem dX4_look_53 : decode cX4_look 53 = .ok (.iconst 0, 1) := by decide +kernel
theorem dX4_look_54 : decode cX4_look 54 = .ok (.goto 4, 3) := by decide +kernel
theorem dX4_look_57 : decode cX4_look 57 = .ok (.iload_n 3, 1) := by decide +kernel
theorem dX4_look_58 : decode cX4_look 58 = .ok (.ireturn, 1) := by decide +kernel
theorem dX4_tellsMove_0 : decode cX4_tellsMove 0 = .ok (.aload_n 0, 1) := by decide +kernel
theorem dX4_tellsMove_1 : decode cX4_tellsMove 1 = .ok (.getfield 28, 3) := by decide +kernel
theorem dX4_tellsMove_4 : decode cX4_tellsMove 4 = .ok (.iconst 0, 1) := by decide +kernel
theorem dX4_tellsMove_5 : decode cX4_tellsMove 5 = .ok (.iaload, 1) := by decide +kernel
theorem dX4_tellsMove_6 : decode cX4_tellsMove 6 = .ok (.istore_n 1, 1) := by decide +kernel
theorem dX4_tellsMove_7 : decode cX4_tellsMove 7 = .ok (.aload_n 0, 1) := by decide +kernel
theorem dX4_tellsMove_8 : decode cX4_tellsMove 8 = .ok (.aload_n 0, 1) := by decide +kernel
theorem dX4_tellsMove_9 : decode cX4_tellsMove 9 = .ok (.getfield 13, 3) := by decide +kernel
theorem dX4_tellsMove_12 : decode cX4_tellsMove 12 = .ok (.aload_n 0, 1) := by decide +kernel
theorem dX4_tellsMove_13 : decode cX4_tellsMove 13 = .ok (.getfield 22, 3) := by decide +kernel
theorem dX4_tellsMove_16 : decode cX4_tellsMove 16 = .ok (.iconst 0, 1) := by decide +kernel
theorem dX4_tellsMove_17 : decode cX4_tellsMove 17 = .ok (.iaload, 1) := by decide +kernel
theorem dX4_tellsMove_18 : decode cX4_tellsMove 18 = .ok (.iload_n 1, 1) := by decide +kernel
theorem dX4_tellsMove_19 : decode cX4_tellsMove 19 = .ok (.aload_n 0, 1) := by decide +kernel
theorem dX4_tellsMove_20 : decode cX4_tellsMove 20 = .ok (.getfield 31, 3) := by decide +kernel
theorem dX4_tellsMove_23 : decode cX4_tellsMove 23 = .ok (.iconst 0, 1) := by decide +kernel
theorem dX4_tellsMove_24 : decode cX4_tellsMove 24 = .ok (.iaload, 1) := by decide +kernel
theorem dX4_tellsMove_25 : decode cX4_tellsMove 25 = .ok (.invokevirtual 84, 3) := by decide +kernel
theorem dX4_tellsMove_28 : decode cX4_tellsMove 28 = .ok (.iconst 0, 1) := by decide +kernel
theorem dX4_tellsMove_29 : decode cX4_tellsMove 29 = .ok (.istore_n 2, 1) := by decide +kernel
theorem dX4_tellsMove_30 : decode cX4_tellsMove 30 = .ok (.iload_n 2, 1) := by decide +kernel
theorem dX4_tellsMove_31 : decode cX4_tellsMove 31 = .ok (.iload_n 1, 1) := by decide +kernel
theorem dX4_tellsMove_32 : decode cX4_tellsMove 32 = .ok (.aload_n 0, 1) := by decide +kernel
theorem dX4_tellsMove_33 : decode cX4_tellsMove 33 = .ok (.getfield 31, 3) := by decide +kernel
theorem dX4_tellsMove_36 : decode cX4_tellsMove 36 = .ok (.iconst 0, 1) := by decide +kernel
theorem dX4_tellsMove_37 : decode cX4_tellsMove 37 = .ok (.iaload, 1) := by decide +kernel
theorem dX4_tellsMove_38 : decode cX4_tellsMove 38 = .ok (.imul, 1) := by decide +kernel
theorem dX4_tellsMove_39 : decode cX4_tellsMove 39 = .ok (.if_icmp .ge 44, 3) := by decide +kernel
theorem dX4_tellsMove_42 : decode cX4_tellsMove 42 = .ok (.aload_n 0, 1) := by decide +kernel
theorem dX4_tellsMove_43 : decode cX4_tellsMove 43 = .ok (.getfield 25, 3) := by decide +kernel
theorem dX4_tellsMove_46 : decode cX4_tellsMove 46 = .ok (.iconst 0, 1) := by decide +kernel
theorem dX4_tellsMove_47 : decode cX4_tellsMove 47 = .ok (.iaload, 1) := by decide +kernel
theorem dX4_tellsMove_48 : decode cX4_tellsMove 48 = .ok (.bipush 8, 2) := by decide +kernel
theorem dX4_tellsMove_50 : decode cX4_tellsMove 50 = .ok (.iload_n 2, 1) := by decide +kernel
theorem dX4_tellsMove_51 : decode cX4_tellsMove 51 = .ok (.iload_n 1, 1) := by decide +kernel
theorem dX4_tellsMove_52 : decode cX4_tellsMove 52 = .ok (.idiv, 1) := by decide +kernel
theorem dX4_tellsMove_53 : decode cX4_tellsMove 53 = .ok (.imul, 1) := by decide +kernel
theorem dX4_tellsMove_54 : decode cX4_tellsMove 54 = .ok (.iadd, 1) := by decide +kernel
theorem dX4_tellsMove_55 : decode cX4_tellsMove 55 = .ok (.iload_n 2, 1) := by decide +kernel
theorem dX4_tellsMove_56 : decode cX4_tellsMove 56 = .ok (.iload_n 1, 1) := by decide +kernel
theorem dX4_tellsMove_57 : decode cX4_tellsMove 57 = .ok (.irem, 1) := by decide +kernel
theorem dX4_tellsMove_58 : decode cX4_tellsMove 58 = .ok (.iadd, 1) := by decide +kernel
theorem dX4_tellsMove_59 : decode cX4_tellsMove 59 = .ok (.istore_n 3, 1) := by decide +kernel
theorem dX4_tellsMove_60 : decode cX4_tellsMove 60 = .ok (.aload_n 0, 1) := by decide +kernel
theorem dX4_tellsMove_61 : decode cX4_tellsMove 61 = .ok (.getfield 13, 3) := by decide +kernel
theorem dX4_tellsMove_64 : decode cX4_tellsMove 64 = .ok (.iload_n 3, 1) := by decide +kernel
theorem dX4_tellsMove_65 : decode cX4_tellsMove 65 = .ok (.aload_n 0, 1) := by decide +kernel
theorem dX4_tellsMove_66 : decode cX4_tellsMove 66 = .ok (.getfield 40, 3) := by decide +kernel
theorem dX4_tellsMove_69 : decode cX4_tellsMove 69 = .ok (.iload_n 2, 1) := by decide +kernel
theorem dX4_tellsMove_70 : decode cX4_tellsMove 70 = .ok (.iaload, 1) := by decide +kernel
theorem dX4_tellsMove_71 : decode cX4_tellsMove 71 = .ok (.iastore, 1) := by decide +kernel
theorem dX4_tellsMove_72 : decode cX4_tellsMove 72 = .ok (.aload_n 0, 1) := by decide +kernel
theorem dX4_tellsMove_73 : decode cX4_tellsMove 73 = .ok (.iload_n 3, 1) := by decide +kernel
theorem dX4_tellsMove_74 : decode cX4_tellsMove 74 = .ok (.invokevirtual 68, 3) := by decide +kernel
theorem dX4_tellsMove_77 : decode cX4_tellsMove 77 = .ok (.iinc 2 1, 3) := by decide +kernel
theorem dX4_tellsMove_80 : decode cX4_tellsMove 80 = .ok (.goto (-50), 3) := by decide +kernel
theorem dX4_tellsMove_83 : decode cX4_tellsMove 83 = .ok (.aload_n 0, 1) := by decide +kernel
theorem dX4_tellsMove_84 : decode cX4_tellsMove 84 = .ok (.dup, 1) := by decide +kernel
theorem dX4_tellsMove_85 : decode cX4_tellsMove 85 = .ok (.getfield 88, 3) := by decide +kernel
theorem dX4_tellsMove_88 : decode cX4_tellsMove 88 = .ok (.iconst 1, 1) := by decide +kernel
theorem dX4_tellsMove_89 : decode cX4_tellsMove 89 = .ok (.isub, 1) := by decide +kernel
theorem dX4_tellsMove_90 : decode cX4_tellsMove 90 = .ok (.putfield 88, 3) := by decide +kernel
theorem dX4_tellsMove_93 : decode cX4_tellsMove 93 = .ok (.iconst 0, 1) := by decide +kernel
theorem dX4_tellsMove_94 : decode cX4_tellsMove 94 = .ok (.istore_n 2, 1) := by decide +kernel
theorem dX4_tellsMove_95 : decode cX4_tellsMove 95 = .ok (.iload_n 2, 1) := by decide +kernel
theorem dX4_tellsMove_96 : decode cX4_tellsMove 96 = .ok (.aload_n 0, 1) := by decide +kernel
theorem dX4_tellsMove_97 : decode cX4_tellsMove 97 = .ok (.getfield 88, 3) := by decide +kernel
theorem dX4_tellsMove_100 : decode cX4_tellsMove 100 = .ok (.if_icmp .ge 65, 3) := by decide +kernel
theorem dX4_tellsMove_103 : decode cX4_tellsMove 103 = .ok (.aload_n 0, 1) := by decide +kernel
theorem dX4_tellsMove_104 : decode cX4_tellsMove 104 = .ok (.getfield 22, 3) := by decide +kernel
theorem dX4_tellsMove_107 : decode cX4_tellsMove 107 = .ok (.iload_n 2, 1) := by decide +kernel
theorem dX4_tellsMove_108 : decode cX4_tellsMove 108 = .ok (.aload_n 0, 1) := by decide +kernel
theorem dX4_tellsMove_109 : decode cX4_tellsMove 109 = .ok (.getfield 22, 3) := by decide +kernel
theorem dX4_tellsMove_112 : decode cX4_tellsMove 112 = .ok (.iload_n 2, 1) := by decide +kernel
theorem dX4_tellsMove_113 : decode cX4_tellsMove 113 = .ok (.iconst 1, 1) := by decide +kernel
theorem dX4_tellsMove_114 : decode cX4_tellsMove 114 = .ok (.iadd, 1) := by decide +kernel
theorem dX4_tellsMove_115 : decode cX4_tellsMove 115 = .ok (.iaload, 1) := by decide +kernel
theorem dX4_tellsMove_116 : decode cX4_tellsMove 116 = .ok (.iastore, 1) := by decide +kernel
theorem dX4_tellsMove_117 : decode cX4_tellsMove 117 = .ok (.aload_n 0, 1) := by decide +kernel
theorem dX4_tellsMove_118 : decode cX4_tellsMove 118 = .ok (.getfield 25, 3) := by decide +kernel
theorem dX4_tellsMove_121 : decode cX4_tellsMove 121 = .ok (.iload_n 2, 1) := by decide +kernel
theorem dX4_tellsMove_122 : decode cX4_tellsMove 122 = .ok (.aload_n 0, 1) := by decide +kernel
theorem dX4_tellsMove_123 : decode cX4_tellsMove 123 = .ok (.getfield 25, 3) := by decide +kernel
theorem dX4_tellsMove_126 : decode cX4_tellsMove 126 = .ok (.iload_n 2, 1) := by decide +kernel
theorem dX4_tellsMove_127 : decode cX4_tellsMove 127 = .ok (.iconst 1, 1) := by decide +kernel
theorem dX4_tellsMove_128 : decode cX4_tellsMove 128 = .ok (.iadd, 1) := by decide +kernel
theorem dX4_tellsMove_129 : decode cX4_tellsMove 129 = .ok (.iaload, 1) := by decide +kernel
theorem dX4_tellsMove_130 : decode cX4_tellsMove 130 = .ok (.iastore, 1) := by decide +kernel
theorem dX4_tellsMove_131 : decode cX4_tellsMove 131 = .ok (.aload_n 0, 1) := by decide +kernel
theorem dX4_tellsMove_132 : decode cX4_tellsMove 132 = .ok (.getfield 28, 3) := by decide +kernel
theorem dX4_tellsMove_135 : decode cX4_tellsMove 135 = .ok (.iload_n 2, 1) := by decide +kernel
theorem dX4_tellsMove_136 : decode cX4_tellsMove 136 = .ok (.aload_n 0, 1) := by decide +kernel
theorem dX4_tellsMove_137 : decode cX4_tellsMove 137 = .ok (.getfield 28, 3) := by decide +kernel
theorem dX4_tellsMove_140 : decode cX4_tellsMove 140 = .ok (.iload_n 2, 1) := by decide +kernel
theorem dX4_tellsMove_141 : decode cX4_tellsMove 141 = .ok (.iconst 1, 1) := by decide +kernel
theorem dX4_tellsMove_142 : decode cX4_tellsMove 142 = .ok (.iadd, 1) := by decide +kernel
theorem dX4_tellsMove_143 : decode cX4_tellsMove 143 = .ok (.iaload, 1) := by decide +kernel
theorem dX4_tellsMove_144 : decode cX4_tellsMove 144 = .ok (.iastore, 1) := by decide +kernel
theorem dX4_tellsMove_145 : decode cX4_tellsMove 145 = .ok (.aload_n 0, 1) := by decide +kernel
theorem dX4_tellsMove_146 : decode cX4_tellsMove 146 = .ok (.getfield 31, 3) := by decide +kernel
theorem dX4_tellsMove_149 : decode cX4_tellsMove 149 = .ok (.iload_n 2, 1) := by decide +kernel
theorem dX4_tellsMove_150 : decode cX4_tellsMove 150 = .ok (.aload_n 0, 1) := by decide +kernel
theorem dX4_tellsMove_151 : decode cX4_tellsMove 151 = .ok (.getfield 31, 3) := by decide +kernel
theorem dX4_tellsMove_154 : decode cX4_tellsMove 154 = .ok (.iload_n 2, 1) := by decide +kernel
theorem dX4_tellsMove_155 : decode cX4_tellsMove 155 = .ok (.iconst 1, 1) := by decide +kernel
theorem dX4_tellsMove_156 : decode cX4_tellsMove 156 = .ok (.iadd, 1) := by decide +kernel
theorem dX4_tellsMove_157 : decode cX4_tellsMove 157 = .ok (.iaload, 1) := by decide +kernel
theorem dX4_tellsMove_158 : decode cX4_tellsMove 158 = .ok (.iastore, 1) := by decide +kernel
theorem dX4_tellsMove_159 : decode cX4_tellsMove 159 = .ok (.iinc 2 1, 3) := by decide +kernel
theorem dX4_tellsMove_162 : decode cX4_tellsMove 162 = .ok (.goto (-67), 3) := by decide +kernel
theorem dX4_tellsMove_165 : decode cX4_tellsMove 165 = .ok (.aload_n 0, 1) := by decide +kernel
theorem dX4_tellsMove_166 : decode cX4_tellsMove 166 = .ok (.getfield 37, 3) := by decide +kernel
theorem dX4_tellsMove_169 : decode cX4_tellsMove 169 = .ok (.iconst 0, 1) := by decide +kernel
theorem dX4_tellsMove_170 : decode cX4_tellsMove 170 = .ok (.dup2, 1) := by decide +kernel
theorem dX4_tellsMove_171 : decode cX4_tellsMove 171 = .ok (.iaload, 1) := by decide +kernel
theorem dX4_tellsMove_172 : decode cX4_tellsMove 172 = .ok (.iconst 1, 1) := by decide +kernel
theorem dX4_tellsMove_173 : decode cX4_tellsMove 173 = .ok (.iadd, 1) := by decide +kernel
theorem dX4_tellsMove_174 : decode cX4_tellsMove 174 = .ok (.iastore, 1) := by decide +kernel
theorem dX4_tellsMove_175 : decode cX4_tellsMove 175 = .ok (.return_, 1) := by decide +kernel
theorem dX4_isKnown_0 : decode cX4_isKnown 0 = .ok (.iconst 0, 1) := by decide +kernel
theorem dX4_isKnown_1 : decode cX4_isKnown 1 = .ok (.istore_n 2, 1) := by decide +kernel
theorem dX4_isKnown_2 : decode cX4_isKnown 2 = .ok (.iconst 0, 1) := by decide +kernel
theorem dX4_isKnown_3 : decode cX4_isKnown 3 = .ok (.istore_n 3, 1) := by decide +kernel
theorem dX4_isKnown_4 : decode cX4_isKnown 4 = .ok (.iload_n 3, 1) := by decide +kernel
theorem dX4_isKnown_5 : decode cX4_isKnown 5 = .ok (.aload_n 0, 1) := by decide +kernel
theorem dX4_isKnown_6 : decode cX4_isKnown 6 = .ok (.getfield 94, 3) := by decide +kernel
theorem dX4_isKnown_9 : decode cX4_isKnown 9 = .ok (.if_icmp .ge 29, 3) := by decide +kernel
theorem dX4_isKnown_12 : decode cX4_isKnown 12 = .ok (.iload_n 2, 1) := by decide +kernel
theorem dX4_isKnown_13 : decode cX4_isKnown 13 = .ok (.ifCond .ne 13, 3) := by decide +kernel
theorem dX4_isKnown_16 : decode cX4_isKnown 16 = .ok (.aload_n 0, 1) := by decide +kernel
theorem dX4_isKnown_17 : decode cX4_isKnown 17 = .ok (.getfield 34, 3) := by decide +kernel
theorem dX4_isKnown_20 : decode cX4_isKnown 20 = .ok (.iload_n 3, 1) := by decide +kernel
theorem dX4_isKnown_21 : decode cX4_isKnown 21 = .ok (.iaload, 1) := by decide +kernel
theorem dX4_isKnown_22 : decode cX4_isKnown 22 = .ok (.iload_n 1, 1) := by decide +kernel
theorem dX4_isKnown_23 : decode cX4_isKnown 23 = .ok (.if_icmp .ne 7, 3) := by decide +kernel
theorem dX4_isKnown_26 : decode cX4_isKnown 26 = .ok (.iconst 1, 1) := by decide +kernel
theorem dX4_isKnown_27 : decode cX4_isKnown 27 = .ok (.goto 4, 3) := by decide +kernel
theorem dX4_isKnown_30 : decode cX4_isKnown 30 = .ok (.iconst 0, 1) := by decide +kernel
theorem dX4_isKnown_31 : decode cX4_isKnown 31 = .ok (.istore_n 2, 1) := by decide +kernel
theorem dX4_isKnown_32 : decode cX4_isKnown 32 = .ok (.iinc 3 1, 3) := by decide +kernel
theorem dX4_isKnown_35 : decode cX4_isKnown 35 = .ok (.goto (-31), 3) := by decide +kernel
theorem dX4_isKnown_38 : decode cX4_isKnown 38 = .ok (.iload_n 2, 1) := by decide +kernel
theorem dX4_isKnown_39 : decode cX4_isKnown 39 = .ok (.ireturn, 1) := by decide +kernel
theorem dX4_meets_0 : decode cX4_meets 0 = .ok (.iconst 0, 1) := by decide +kernel
theorem dX4_meets_1 : decode cX4_meets 1 = .ok (.istore_n 2, 1) := by decide +kernel
theorem dX4_meets_2 : decode cX4_meets 2 = .ok (.iload_n 2, 1) := by decide +kernel
theorem dX4_meets_3 : decode cX4_meets 3 = .ok (.aload_n 0, 1) := by decide +kernel
theorem dX4_meets_4 : decode cX4_meets 4 = .ok (.getfield 94, 3) := by decide +kernel
theorem dX4_meets_7 : decode cX4_meets 7 = .ok (.if_icmp .ge 19, 3) := by decide +kernel
theorem dX4_meets_10 : decode cX4_meets 10 = .ok (.aload_n 0, 1) := by decide +kernel
theorem dX4_meets_11 : decode cX4_meets 11 = .ok (.getfield 34, 3) := by decide +kernel
theorem dX4_meets_14 : decode cX4_meets 14 = .ok (.iload_n 2, 1) := by decide +kernel
theorem dX4_meets_15 : decode cX4_meets 15 = .ok (.iaload, 1) := by decide +kernel
theorem dX4_meets_16 : decode cX4_meets 16 = .ok (.iload_n 1, 1) := by decide +kernel
theorem dX4_meets_17 : decode cX4_meets 17 = .ok (.if_icmp .eq 9, 3) := by decide +kernel
theorem dX4_meets_20 : decode cX4_meets 20 = .ok (.iinc 2 1, 3) := by decide +kernel
theorem dX4_meets_23 : decode cX4_meets 23 = .ok (.goto (-21), 3) := by decide +kernel
theorem dX4_meets_26 : decode cX4_meets 26 = .ok (.aload_n 0, 1) := by decide +kernel
theorem dX4_meets_27 : decode cX4_meets 27 = .ok (.dup, 1) := by decide +kernel
theorem dX4_meets_28 : decode cX4_meets 28 = .ok (.getfield 94, 3) := by decide +kernel
theorem dX4_meets_31 : decode cX4_meets 31 = .ok (.iload_n 2, 1) := by decide +kernel
theorem dX4_meets_32 : decode cX4_meets 32 = .ok (.aload_n 0, 1) := by decide +kernel
theorem dX4_meets_33 : decode cX4_meets 33 = .ok (.getfield 94, 3) := by decide +kernel
theorem dX4_meets_36 : decode cX4_meets 36 = .ok (.if_icmp .ne 7, 3) := by decide +kernel
theorem dX4_meets_39 : decode cX4_meets 39 = .ok (.iconst 1, 1) := by decide +kernel
theorem dX4_meets_40 : decode cX4_meets 40 = .ok (.goto 4, 3) := by decide +kernel
theorem dX4_meets_43 : decode cX4_meets 43 = .ok (.iconst 0, 1) := by decide +kernel
theorem dX4_meets_44 : decode cX4_meets 44 = .ok (.iadd, 1) := by decide +kernel
theorem dX4_meets_45 : decode cX4_meets 45 = .ok (.putfield 94, 3) := by decide +kernel
theorem dX4_meets_48 : decode cX4_meets 48 = .ok (.iload_n 2, 1) := by decide +kernel
theorem dX4_meets_49 : decode cX4_meets 49 = .ok (.istore_n 3, 1) := by decide +kernel
theorem dX4_meets_50 : decode cX4_meets 50 = .ok (.iload_n 3, 1) := by decide +kernel
theorem dX4_meets_51 : decode cX4_meets 51 = .ok (.ifCond .le 23, 3) := by decide +kernel
theorem dX4_meets_54 : decode cX4_meets 54 = .ok (.aload_n 0, 1) := by decide +kernel
theorem dX4_meets_55 : decode cX4_meets 55 = .ok (.getfield 34, 3) := by decide +kernel
theorem dX4_meets_58 : decode cX4_meets 58 = .ok (.iload_n 3, 1) := by decide +kernel
theorem dX4_meets_59 : decode cX4_meets 59 = .ok (.aload_n 0, 1) := by decide +kernel
theorem dX4_meets_60 : decode cX4_meets 60 = .ok (.getfield 34, 3) := by decide +kernel
theorem dX4_meets_63 : decode cX4_meets 63 = .ok (.iload_n 3, 1) := by decide +kernel
theorem dX4_meets_64 : decode cX4_meets 64 = .ok (.iconst 1, 1) := by decide +kernel
theorem dX4_meets_65 : decode cX4_meets 65 = .ok (.isub, 1) := by decide +kernel
theorem dX4_meets_66 : decode cX4_meets 66 = .ok (.iaload, 1) := by decide +kernel
theorem dX4_meets_67 : decode cX4_meets 67 = .ok (.iastore, 1) := by decide +kernel
theorem dX4_meets_68 : decode cX4_meets 68 = .ok (.iinc 3 (-1), 3) := by decide +kernel
theorem dX4_meets_71 : decode cX4_meets 71 = .ok (.goto (-21), 3) := by decide +kernel
theorem dX4_meets_74 : decode cX4_meets 74 = .ok (.aload_n 0, 1) := by decide +kernel
theorem dX4_meets_75 : decode cX4_meets 75 = .ok (.getfield 34, 3) := by decide +kernel
theorem dX4_meets_78 : decode cX4_meets 78 = .ok (.iconst 0, 1) := by decide +kernel
theorem dX4_meets_79 : decode cX4_meets 79 = .ok (.iload_n 1, 1) := by decide +kernel
theorem dX4_meets_80 : decode cX4_meets 80 = .ok (.iastore, 1) := by decide +kernel
theorem dX4_meets_81 : decode cX4_meets 81 = .ok (.aload_n 0, 1) := by decide +kernel
theorem dX4_meets_82 : decode cX4_meets 82 = .ok (.aload_n 0, 1) := by decide +kernel
theorem dX4_meets_83 : decode cX4_meets 83 = .ok (.getfield 94, 3) := by decide +kernel
theorem dX4_meets_86 : decode cX4_meets 86 = .ok (.bipush 8, 2) := by decide +kernel
theorem dX4_meets_88 : decode cX4_meets 88 = .ok (.if_icmp .le 8, 3) := by decide +kernel
theorem dX4_meets_91 : decode cX4_meets 91 = .ok (.bipush 8, 2) := by decide +kernel
theorem dX4_meets_93 : decode cX4_meets 93 = .ok (.goto 7, 3) := by decide +kernel
theorem dX4_meets_96 : decode cX4_meets 96 = .ok (.aload_n 0, 1) := by decide +kernel
theorem dX4_meets_97 : decode cX4_meets 97 = .ok (.getfield 94, 3) := by decide +kernel
theorem dX4_meets_100 : decode cX4_meets 100 = .ok (.putfield 94, 3) := by decide +kernel
theorem dX4_meets_103 : decode cX4_meets 103 = .ok (.return_, 1) := by decide +kernel
theorem dX4_kindOf_0 : decode cX4_kindOf 0 = .ok (.iconst 0, 1) := by decide +kernel
theorem dX4_kindOf_1 : decode cX4_kindOf 1 = .ok (.istore_n 2, 1) := by decide +kernel
theorem dX4_kindOf_2 : decode cX4_kindOf 2 = .ok (.iconst 0, 1) := by decide +kernel
theorem dX4_kindOf_3 : decode cX4_kindOf 3 = .ok (.istore_n 3, 1) := by decide +kernel
theorem dX4_kindOf_4 : decode cX4_kindOf 4 = .ok (.iload_n 3, 1) := by decide +kernel
theorem dX4_kindOf_5 : decode cX4_kindOf 5 = .ok (.bipush 8, 2) := by decide +kernel
theorem dX4_kindOf_7 : decode cX4_kindOf 7 = .ok (.if_icmp .ge 22, 3) := by decide +kernel
theorem dX4_kindOf_10 : decode cX4_kindOf 10 = .ok (.iload_n 2, 1) := by decide +kernel
theorem dX4_kindOf_11 : decode cX4_kindOf 11 = .ok (.aload_n 0, 1) := by decide +kernel
theorem dX4_kindOf_12 : decode cX4_kindOf 12 = .ok (.getfield 19, 3) := by decide +kernel
theorem dX4_kindOf_15 : decode cX4_kindOf 15 = .ok (.iload_n 1, 1) := by decide +kernel
theorem dX4_kindOf_16 : decode cX4_kindOf 16 = .ok (.iaload, 1) := by decide +kernel
theorem dX4_kindOf_17 : decode cX4_kindOf 17 = .ok (.iload_n 3, 1) := by decide +kernel
theorem dX4_kindOf_18 : decode cX4_kindOf 18 = .ok (.ishr, 1) := by decide +kernel
theorem dX4_kindOf_19 : decode cX4_kindOf 19 = .ok (.iconst 1, 1) := by decide +kernel
theorem dX4_kindOf_20 : decode cX4_kindOf 20 = .ok (.iand, 1) := by decide +kernel
theorem dX4_kindOf_21 : decode cX4_kindOf 21 = .ok (.iadd, 1) := by decide +kernel
theorem dX4_kindOf_22 : decode cX4_kindOf 22 = .ok (.istore_n 2, 1) := by decide +kernel
theorem dX4_kindOf_23 : decode cX4_kindOf 23 = .ok (.iinc 3 1, 3) := by decide +kernel
theorem dX4_kindOf_26 : decode cX4_kindOf 26 = .ok (.goto (-22), 3) := by decide +kernel
theorem dX4_kindOf_29 : decode cX4_kindOf 29 = .ok (.iload_n 2, 1) := by decide +kernel
theorem dX4_kindOf_30 : decode cX4_kindOf 30 = .ok (.iconst 3, 1) := by decide +kernel
theorem dX4_kindOf_31 : decode cX4_kindOf 31 = .ok (.if_icmp .le 7, 3) := by decide +kernel
theorem dX4_kindOf_34 : decode cX4_kindOf 34 = .ok (.iconst 2, 1) := by decide +kernel
theorem dX4_kindOf_35 : decode cX4_kindOf 35 = .ok (.goto 19, 3) := by decide +kernel
theorem dX4_kindOf_38 : decode cX4_kindOf 38 = .ok (.aload_n 0, 1) := by decide +kernel
theorem dX4_kindOf_39 : decode cX4_kindOf 39 = .ok (.getfield 7, 3) := by decide +kernel
theorem dX4_kindOf_42 : decode cX4_kindOf 42 = .ok (.iload_n 1, 1) := by decide +kernel
theorem dX4_kindOf_43 : decode cX4_kindOf 43 = .ok (.iaload, 1) := by decide +kernel
theorem dX4_kindOf_44 : decode cX4_kindOf 44 = .ok (.bipush 64, 2) := by decide +kernel
theorem dX4_kindOf_46 : decode cX4_kindOf 46 = .ok (.if_icmp .ge 7, 3) := by decide +kernel
theorem dX4_kindOf_49 : decode cX4_kindOf 49 = .ok (.iconst 0, 1) := by decide +kernel
theorem dX4_kindOf_50 : decode cX4_kindOf 50 = .ok (.goto 4, 3) := by decide +kernel
theorem dX4_kindOf_53 : decode cX4_kindOf 53 = .ok (.iconst 1, 1) := by decide +kernel
theorem dX4_kindOf_54 : decode cX4_kindOf 54 = .ok (.ireturn, 1) := by decide +kernel
theorem dX4_sends_0 : decode cX4_sends 0 = .ok (.sipush 1000, 3) := by decide +kernel
theorem dX4_sends_3 : decode cX4_sends 3 = .ok (.aload_n 0, 1) := by decide +kernel
theorem dX4_sends_4 : decode cX4_sends 4 = .ok (.getfield 7, 3) := by decide +kernel
theorem dX4_sends_7 : decode cX4_sends 7 = .ok (.iload_n 1, 1) := by decide +kernel
theorem dX4_sends_8 : decode cX4_sends 8 = .ok (.iaload, 1) := by decide +kernel
theorem dX4_sends_9 : decode cX4_sends 9 = .ok (.bipush 16, 2) := by decide +kernel
theorem dX4_sends_11 : decode cX4_sends 11 = .ok (.idiv, 1) := by decide +kernel
theorem dX4_sends_12 : decode cX4_sends 12 = .ok (.iadd, 1) := by decide +kernel
theorem dX4_sends_13 : decode cX4_sends 13 = .ok (.istore_n 3, 1) := by decide +kernel
theorem dX4_sends_14 : decode cX4_sends 14 = .ok (.aload_n 0, 1) := by decide +kernel
theorem dX4_sends_15 : decode cX4_sends 15 = .ok (.aload_n 0, 1) := by decide +kernel
theorem dX4_sends_16 : decode cX4_sends 16 = .ok (.getfield 7, 3) := by decide +kernel
theorem dX4_sends_19 : decode cX4_sends 19 = .ok (.iload_n 1, 1) := by decide +kernel
theorem dX4_sends_20 : decode cX4_sends 20 = .ok (.iaload, 1) := by decide +kernel
theorem dX4_sends_21 : decode cX4_sends 21 = .ok (.invokevirtual 97, 3) := by decide +kernel
theorem dX4_sends_24 : decode cX4_sends 24 = .ok (.ifCond .ne 7, 3) := by decide +kernel
theorem dX4_sends_27 : decode cX4_sends 27 = .ok (.iconst 1, 1) := by decide +kernel
theorem dX4_sends_28 : decode cX4_sends 28 = .ok (.goto 4, 3) := by decide +kernel
theorem dX4_sends_31 : decode cX4_sends 31 = .ok (.iconst 0, 1) := by decide +kernel
theorem dX4_sends_32 : decode cX4_sends 32 = .ok (.istore 4, 2) := by decide +kernel
theorem dX4_sends_34 : decode cX4_sends 34 = .ok (.iload 4, 2) := by decide +kernel
theorem dX4_sends_36 : decode cX4_sends 36 = .ok (.ifCond .eq 16, 3) := by decide +kernel
theorem dX4_sends_39 : decode cX4_sends 39 = .ok (.aload_n 0, 1) := by decide +kernel
theorem dX4_sends_40 : decode cX4_sends 40 = .ok (.iload_n 1, 1) := by decide +kernel
theorem dX4_sends_41 : decode cX4_sends 41 = .ok (.invokevirtual 101, 3) := by decide +kernel
theorem dX4_sends_44 : decode cX4_sends 44 = .ok (.iconst 2, 1) := by decide +kernel
theorem dX4_sends_45 : decode cX4_sends 45 = .ok (.if_icmp .ne 7, 3) := by decide +kernel
theorem dX4_sends_48 : decode cX4_sends 48 = .ok (.iconst 1, 1) := by decide +kernel
theorem dX4_sends_49 : decode cX4_sends 49 = .ok (.goto 4, 3) := by decide +kernel
theorem dX4_sends_52 : decode cX4_sends 52 = .ok (.iconst 0, 1) := by decide +kernel
theorem dX4_sends_53 : decode cX4_sends 53 = .ok (.istore 5, 2) := by decide +kernel
theorem dX4_sends_55 : decode cX4_sends 55 = .ok (.iload 4, 2) := by decide +kernel
theorem dX4_sends_57 : decode cX4_sends 57 = .ok (.ifCond .ne 7, 3) := by decide +kernel
theorem dX4_sends_60 : decode cX4_sends 60 = .ok (.iconst 1, 1) := by decide +kernel
theorem dX4_sends_61 : decode cX4_sends 61 = .ok (.goto 26, 3) := by decide +kernel
theorem dX4_sends_64 : decode cX4_sends 64 = .ok (.iload 5, 2) := by decide +kernel
theorem dX4_sends_66 : decode cX4_sends 66 = .ok (.ifCond .eq 7, 3) := by decide +kernel
theorem dX4_sends_69 : decode cX4_sends 69 = .ok (.iconst 2, 1) := by decide +kernel
theorem dX4_sends_70 : decode cX4_sends 70 = .ok (.goto 17, 3) := by decide +kernel
theorem dX4_sends_73 : decode cX4_sends 73 = .ok (.aload_n 0, 1) := by decide +kernel
theorem dX4_sends_74 : decode cX4_sends 74 = .ok (.iload_n 1, 1) := by decide +kernel
theorem dX4_sends_75 : decode cX4_sends 75 = .ok (.invokevirtual 101, 3) := by decide +kernel
theorem dX4_sends_78 : decode cX4_sends 78 = .ok (.ifCond .ne 7, 3) := by decide +kernel
theorem dX4_sends_81 : decode cX4_sends 81 = .ok (.iconst 2, 1) := by decide +kernel
theorem dX4_sends_82 : decode cX4_sends 82 = .ok (.goto 5, 3) := by decide +kernel
theorem dX4_sends_85 : decode cX4_sends 85 = .ok (.bipush 6, 2) := by decide +kernel
theorem dX4_sends_87 : decode cX4_sends 87 = .ok (.istore 6, 2) := by decide +kernel
theorem dX4_sends_89 : decode cX4_sends 89 = .ok (.iload 6, 2) := by decide +kernel
theorem dX4_sends_91 : decode cX4_sends 91 = .ok (.iload_n 2, 1) := by decide +kernel
theorem dX4_sends_92 : decode cX4_sends 92 = .ok (.if_icmp .gt 18, 3) := by decide +kernel
theorem dX4_sends_95 : decode cX4_sends 95 = .ok (.iload 5, 2) := by decide +kernel
theorem dX4_sends_97 : decode cX4_sends 97 = .ok (.ifCond .eq 15, 3) := by decide +kernel
theorem dX4_sends_100 : decode cX4_sends 100 = .ok (.aload_n 0, 1) := by decide +kernel
theorem dX4_sends_101 : decode cX4_sends 101 = .ok (.getfield 13, 3) := by decide +kernel
theorem dX4_sends_104 : decode cX4_sends 104 = .ok (.iload_n 1, 1) := by decide +kernel
theorem dX4_sends_105 : decode cX4_sends 105 = .ok (.iaload, 1) := by decide +kernel
theorem dX4_sends_106 : decode cX4_sends 106 = .ok (.iload_n 3, 1) := by decide +kernel
theorem dX4_sends_107 : decode cX4_sends 107 = .ok (.if_icmp .ne 5, 3) := by decide +kernel
theorem dX4_sends_110 : decode cX4_sends 110 = .ok (.iconst 0, 1) := by decide +kernel
theorem dX4_sends_111 : decode cX4_sends 111 = .ok (.ireturn, 1) := by decide +kernel
theorem dX4_sends_112 : decode cX4_sends 112 = .ok (.aload_n 0, 1) := by decide +kernel
theorem dX4_sends_113 : decode cX4_sends 113 = .ok (.getfield 13, 3) := by decide +kernel
theorem dX4_sends_116 : decode cX4_sends 116 = .ok (.iload_n 1, 1) := by decide +kernel
theorem dX4_sends_117 : decode cX4_sends 117 = .ok (.iload 5, 2) := by decide +kernel
theorem dX4_sends_119 : decode cX4_sends 119 = .ok (.ifCond .eq 7, 3) := by decide +kernel
theorem dX4_sends_122 : decode cX4_sends 122 = .ok (.iload_n 3, 1) := by decide +kernel
theorem dX4_sends_123 : decode cX4_sends 123 = .ok (.goto 9, 3) := by decide +kernel
theorem dX4_sends_126 : decode cX4_sends 126 = .ok (.aload_n 0, 1) := by decide +kernel
theorem dX4_sends_127 : decode cX4_sends 127 = .ok (.getfield 7, 3) := by decide +kernel
theorem dX4_sends_130 : decode cX4_sends 130 = .ok (.iload_n 1, 1) := by decide +kernel
theorem dX4_sends_131 : decode cX4_sends 131 = .ok (.iaload, 1) := by decide +kernel
theorem dX4_sends_132 : decode cX4_sends 132 = .ok (.iastore, 1) := by decide +kernel
theorem dX4_sends_133 : decode cX4_sends 133 = .ok (.iload 5, 2) := by decide +kernel
theorem dX4_sends_135 : decode cX4_sends 135 = .ok (.ifCond .ne 20, 3) := by decide +kernel
theorem dX4_sends_138 : decode cX4_sends 138 = .ok (.aload_n 0, 1) := by decide +kernel
theorem dX4_sends_139 : decode cX4_sends 139 = .ok (.aload_n 0, 1) := by decide +kernel
theorem dX4_sends_140 : decode cX4_sends 140 = .ok (.getfield 7, 3) := by decide +kernel
theorem dX4_sends_143 : decode cX4_sends 143 = .ok (.iload_n 1, 1) := by decide +kernel
theorem dX4_sends_144 : decode cX4_sends 144 = .ok (.iaload, 1) := by decide +kernel
theorem dX4_sends_145 : decode cX4_sends 145 = .ok (.invokevirtual 105, 3) := by decide +kernel
theorem dX4_sends_148 : decode cX4_sends 148 = .ok (.aload_n 0, 1) := by decide +kernel
theorem dX4_sends_149 : decode cX4_sends 149 = .ok (.getfield 16, 3) := by decide +kernel
theorem dX4_sends_152 : decode cX4_sends 152 = .ok (.iload_n 1, 1) := by decide +kernel
theorem dX4_sends_153 : decode cX4_sends 153 = .ok (.iconst (-1), 1) := by decide +kernel
theorem dX4_sends_154 : decode cX4_sends 154 = .ok (.iastore, 1) := by decide +kernel
theorem dX4_sends_155 : decode cX4_sends 155 = .ok (.aload_n 0, 1) := by decide +kernel
theorem dX4_sends_156 : decode cX4_sends 156 = .ok (.getfield 37, 3) := by decide +kernel
theorem dX4_sends_159 : decode cX4_sends 159 = .ok (.iload 4, 2) := by decide +kernel
theorem dX4_sends_161 : decode cX4_sends 161 = .ok (.ifCond .ne 7, 3) := by decide +kernel
theorem dX4_sends_164 : decode cX4_sends 164 = .ok (.iconst 1, 1) := by decide +kernel
theorem dX4_sends_165 : decode cX4_sends 165 = .ok (.goto 13, 3) := by decide +kernel
theorem dX4_sends_168 : decode cX4_sends 168 = .ok (.iload 5, 2) := by decide +kernel
theorem dX4_sends_170 : decode cX4_sends 170 = .ok (.ifCond .eq 7, 3) := by decide +kernel
theorem dX4_sends_173 : decode cX4_sends 173 = .ok (.iconst 2, 1) := by decide +kernel
theorem dX4_sends_174 : decode cX4_sends 174 = .ok (.goto 4, 3) := by decide +kernel
theorem dX4_sends_177 : decode cX4_sends 177 = .ok (.iconst 3, 1) := by decide +kernel
theorem dX4_sends_178 : decode cX4_sends 178 = .ok (.dup2, 1) := by decide +kernel
theorem dX4_sends_179 : decode cX4_sends 179 = .ok (.iaload, 1) := by decide +kernel
theorem dX4_sends_180 : decode cX4_sends 180 = .ok (.iconst 1, 1) := by decide +kernel
theorem dX4_sends_181 : decode cX4_sends 181 = .ok (.iadd, 1) := by decide +kernel
theorem dX4_sends_182 : decode cX4_sends 182 = .ok (.iastore, 1) := by decide +kernel
theorem dX4_sends_183 : decode cX4_sends 183 = .ok (.iload 6, 2) := by decide +kernel
theorem dX4_sends_185 : decode cX4_sends 185 = .ok (.ireturn, 1) := by decide +kernel
theorem dX4_isLookedAt_0 : decode cX4_isLookedAt 0 = .ok (.iload_n 1, 1) := by decide +kernel
theorem dX4_isLookedAt_1 : decode cX4_isLookedAt 1 = .ok (.bipush 8, 2) := by decide +kernel
theorem dX4_isLookedAt_3 : decode cX4_isLookedAt 3 = .ok (.irem, 1) := by decide +kernel
theorem dX4_isLookedAt_4 : decode cX4_isLookedAt 4 = .ok (.aload_n 0, 1) := by decide +kernel
theorem dX4_isLookedAt_5 : decode cX4_isLookedAt 5 = .ok (.getfield 91, 3) := by decide +kernel
theorem dX4_isLookedAt_8 : decode cX4_isLookedAt 8 = .ok (.bipush 8, 2) := by decide +kernel
theorem dX4_isLookedAt_10 : decode cX4_isLookedAt 10 = .ok (.irem, 1) := by decide +kernel
theorem dX4_isLookedAt_11 : decode cX4_isLookedAt 11 = .ok (.isub, 1) := by decide +kernel
theorem dX4_isLookedAt_12 : decode cX4_isLookedAt 12 = .ok (.istore_n 2, 1) := by decide +kernel
theorem dX4_isLookedAt_13 : decode cX4_isLookedAt 13 = .ok (.iload_n 1, 1) := by decide +kernel
theorem dX4_isLookedAt_14 : decode cX4_isLookedAt 14 = .ok (.bipush 8, 2) := by decide +kernel
theorem dX4_isLookedAt_16 : decode cX4_isLookedAt 16 = .ok (.idiv, 1) := by decide +kernel
theorem dX4_isLookedAt_17 : decode cX4_isLookedAt 17 = .ok (.aload_n 0, 1) := by decide +kernel
theorem dX4_isLookedAt_18 : decode cX4_isLookedAt 18 = .ok (.getfield 91, 3) := by decide +kernel
theorem dX4_isLookedAt_21 : decode cX4_isLookedAt 21 = .ok (.bipush 8, 2) := by decide +kernel
theorem dX4_isLookedAt_23 : decode cX4_isLookedAt 23 = .ok (.idiv, 1) := by decide +kernel
theorem dX4_isLookedAt_24 : decode cX4_isLookedAt 24 = .ok (.isub, 1) := by decide +kernel
theorem dX4_isLookedAt_25 : decode cX4_isLookedAt 25 = .ok (.istore_n 3, 1) := by decide +kernel
theorem dX4_isLookedAt_26 : decode cX4_isLookedAt 26 = .ok (.iload_n 2, 1) := by decide +kernel
theorem dX4_isLookedAt_27 : decode cX4_isLookedAt 27 = .ok (.iconst (-1), 1) := by decide +kernel
theorem dX4_isLookedAt_28 : decode cX4_isLookedAt 28 = .ok (.iconst 1, 1) := by decide +kernel
theorem dX4_isLookedAt_29 : decode cX4_isLookedAt 29 = .ok (.invokestatic 57, 3) := by decide +kernel
theorem dX4_isLookedAt_32 : decode cX4_isLookedAt 32 = .ok (.ifCond .eq 16, 3) := by decide +kernel
theorem dX4_isLookedAt_35 : decode cX4_isLookedAt 35 = .ok (.iload_n 3, 1) := by decide +kernel
theorem dX4_isLookedAt_36 : decode cX4_isLookedAt 36 = .ok (.iconst (-1), 1) := by decide +kernel
theorem dX4_isLookedAt_37 : decode cX4_isLookedAt 37 = .ok (.iconst 1, 1) := by decide +kernel
theorem dX4_isLookedAt_38 : decode cX4_isLookedAt 38 = .ok (.invokestatic 57, 3) := by decide +kernel
theorem dX4_isLookedAt_41 : decode cX4_isLookedAt 41 = .ok (.ifCond .eq 7, 3) := by decide +kernel
theorem dX4_isLookedAt_44 : decode cX4_isLookedAt 44 = .ok (.iconst 1, 1) := by decide +kernel
theorem dX4_isLookedAt_45 : decode cX4_isLookedAt 45 = .ok (.goto 4, 3) := by decide +kernel
theorem dX4_isLookedAt_48 : decode cX4_isLookedAt 48 = .ok (.iconst 0, 1) := by decide +kernel
theorem dX4_isLookedAt_49 : decode cX4_isLookedAt 49 = .ok (.ireturn, 1) := by decide +kernel
theorem dX4_nextTile_0 : decode cX4_nextTile 0 = .ok (.iconst (-1), 1) := by decide +kernel
theorem dX4_nextTile_1 : decode cX4_nextTile 1 = .ok (.istore_n 1, 1) := by decide +kernel
theorem dX4_nextTile_2 : decode cX4_nextTile 2 = .ok (.iconst 0, 1) := by decide +kernel
theorem dX4_nextTile_3 : decode cX4_nextTile 3 = .ok (.istore_n 2, 1) := by decide +kernel
theorem dX4_nextTile_4 : decode cX4_nextTile 4 = .ok (.iload_n 2, 1) := by decide +kernel
theorem dX4_nextTile_5 : decode cX4_nextTile 5 = .ok (.bipush 48, 2) := by decide +kernel
theorem dX4_nextTile_7 : decode cX4_nextTile 7 = .ok (.if_icmp .ge 44, 3) := by decide +kernel
theorem dX4_nextTile_10 : decode cX4_nextTile 10 = .ok (.aload_n 0, 1) := by decide +kernel
theorem dX4_nextTile_11 : decode cX4_nextTile 11 = .ok (.getfield 43, 3) := by decide +kernel
theorem dX4_nextTile_14 : decode cX4_nextTile 14 = .ok (.iload_n 2, 1) := by decide +kernel
theorem dX4_nextTile_15 : decode cX4_nextTile 15 = .ok (.baload, 1) := by decide +kernel
theorem dX4_nextTile_16 : decode cX4_nextTile 16 = .ok (.ifCond .ne 27, 3) := by decide +kernel
theorem dX4_nextTile_19 : decode cX4_nextTile 19 = .ok (.iload_n 1, 1) := by decide +kernel
theorem dX4_nextTile_20 : decode cX4_nextTile 20 = .ok (.iconst (-1), 1) := by decide +kernel
theorem dX4_nextTile_21 : decode cX4_nextTile 21 = .ok (.if_icmp .eq 18, 3) := by decide +kernel
theorem dX4_nextTile_24 : decode cX4_nextTile 24 = .ok (.aload_n 0, 1) := by decide +kernel
theorem dX4_nextTile_25 : decode cX4_nextTile 25 = .ok (.getfield 47, 3) := by decide +kernel
theorem dX4_nextTile_28 : decode cX4_nextTile 28 = .ok (.iload_n 2, 1) := by decide +kernel
theorem dX4_nextTile_29 : decode cX4_nextTile 29 = .ok (.iaload, 1) := by decide +kernel
theorem dX4_nextTile_30 : decode cX4_nextTile 30 = .ok (.aload_n 0, 1) := by decide +kernel
theorem dX4_nextTile_31 : decode cX4_nextTile 31 = .ok (.getfield 47, 3) := by decide +kernel
theorem dX4_nextTile_34 : decode cX4_nextTile 34 = .ok (.iload_n 1, 1) := by decide +kernel
theorem dX4_nextTile_35 : decode cX4_nextTile 35 = .ok (.iaload, 1) := by decide +kernel
theorem dX4_nextTile_36 : decode cX4_nextTile 36 = .ok (.if_icmp .le 7, 3) := by decide +kernel
theorem dX4_nextTile_39 : decode cX4_nextTile 39 = .ok (.iload_n 2, 1) := by decide +kernel
theorem dX4_nextTile_40 : decode cX4_nextTile 40 = .ok (.goto 4, 3) := by decide +kernel
theorem dX4_nextTile_43 : decode cX4_nextTile 43 = .ok (.iload_n 1, 1) := by decide +kernel
theorem dX4_nextTile_44 : decode cX4_nextTile 44 = .ok (.istore_n 1, 1) := by decide +kernel
theorem dX4_nextTile_45 : decode cX4_nextTile 45 = .ok (.iinc 2 1, 3) := by decide +kernel
theorem dX4_nextTile_48 : decode cX4_nextTile 48 = .ok (.goto (-44), 3) := by decide +kernel
theorem dX4_nextTile_51 : decode cX4_nextTile 51 = .ok (.iload_n 1, 1) := by decide +kernel
theorem dX4_nextTile_52 : decode cX4_nextTile 52 = .ok (.ireturn, 1) := by decide +kernel
theorem dX4_passes_0 : decode cX4_passes 0 = .ok (.iload_n 1, 1) := by decide +kernel
theorem dX4_passes_1 : decode cX4_passes 1 = .ok (.istore_n 2, 1) := by decide +kernel
theorem dX4_passes_2 : decode cX4_passes 2 = .ok (.aload_n 0, 1) := by decide +kernel
theorem dX4_passes_3 : decode cX4_passes 3 = .ok (.getfield 88, 3) := by decide +kernel
theorem dX4_passes_6 : decode cX4_passes 6 = .ok (.ifCond .le 18, 3) := by decide +kernel
theorem dX4_passes_9 : decode cX4_passes 9 = .ok (.iload_n 2, 1) := by decide +kernel
theorem dX4_passes_10 : decode cX4_passes 10 = .ok (.iconst 2, 1) := by decide +kernel
theorem dX4_passes_11 : decode cX4_passes 11 = .ok (.if_icmp .lt 13, 3) := by decide +kernel
theorem dX4_passes_14 : decode cX4_passes 14 = .ok (.aload_n 0, 1) := by decide +kernel
theorem dX4_passes_15 : decode cX4_passes 15 = .ok (.invokevirtual 108, 3) := by decide +kernel
theorem dX4_passes_18 : decode cX4_passes 18 = .ok (.iinc 2 (-2), 3) := by decide +kernel
theorem dX4_passes_21 : decode cX4_passes 21 = .ok (.goto (-19), 3) := by decide +kernel
theorem dX4_passes_24 : decode cX4_passes 24 = .ok (.iconst 0, 1) := by decide +kernel
theorem dX4_passes_25 : decode cX4_passes 25 = .ok (.istore_n 3, 1) := by decide +kernel
theorem dX4_passes_26 : decode cX4_passes 26 = .ok (.iload_n 3, 1) := by decide +kernel
theorem dX4_passes_27 : decode cX4_passes 27 = .ok (.bipush 48, 2) := by decide +kernel
theorem dX4_passes_29 : decode cX4_passes 29 = .ok (.if_icmp .ge 68, 3) := by decide +kernel
theorem dX4_passes_32 : decode cX4_passes 32 = .ok (.aload_n 0, 1) := by decide +kernel
theorem dX4_passes_33 : decode cX4_passes 33 = .ok (.getfield 43, 3) := by decide +kernel
theorem dX4_passes_36 : decode cX4_passes 36 = .ok (.iload_n 3, 1) := by decide +kernel
theorem dX4_passes_37 : decode cX4_passes 37 = .ok (.aload_n 0, 1) := by decide +kernel
theorem dX4_passes_38 : decode cX4_passes 38 = .ok (.getfield 16, 3) := by decide +kernel
theorem dX4_passes_41 : decode cX4_passes 41 = .ok (.iload_n 3, 1) := by decide +kernel
theorem dX4_passes_42 : decode cX4_passes 42 = .ok (.iaload, 1) := by decide +kernel
theorem dX4_passes_43 : decode cX4_passes 43 = .ok (.iconst (-1), 1) := by decide +kernel
theorem dX4_passes_44 : decode cX4_passes 44 = .ok (.if_icmp .eq 10, 3) := by decide +kernel
theorem dX4_passes_47 : decode cX4_passes 47 = .ok (.aload_n 0, 1) := by decide +kernel
theorem dX4_passes_48 : decode cX4_passes 48 = .ok (.getfield 88, 3) := by decide +kernel
theorem dX4_passes_51 : decode cX4_passes 51 = .ok (.ifCond .le 7, 3) := by decide +kernel
theorem dX4_passes_54 : decode cX4_passes 54 = .ok (.iconst 1, 1) := by decide +kernel
theorem dX4_passes_55 : decode cX4_passes 55 = .ok (.goto 4, 3) := by decide +kernel
theorem dX4_passes_58 : decode cX4_passes 58 = .ok (.iconst 0, 1) := by decide +kernel
theorem dX4_passes_59 : decode cX4_passes 59 = .ok (.bastore, 1) := by decide +kernel
theorem dX4_passes_60 : decode cX4_passes 60 = .ok (.aload_n 0, 1) := by decide +kernel
theorem dX4_passes_61 : decode cX4_passes 61 = .ok (.getfield 47, 3) := by decide +kernel
theorem dX4_passes_64 : decode cX4_passes 64 = .ok (.iload_n 3, 1) := by decide +kernel
theorem dX4_passes_65 : decode cX4_passes 65 = .ok (.aload_n 0, 1) := by decide +kernel
theorem dX4_passes_66 : decode cX4_passes 66 = .ok (.getfield 65, 3) := by decide +kernel
theorem dX4_passes_69 : decode cX4_passes 69 = .ok (.aload_n 0, 1) := by decide +kernel
theorem dX4_passes_70 : decode cX4_passes 70 = .ok (.getfield 16, 3) := by decide +kernel
theorem dX4_passes_73 : decode cX4_passes 73 = .ok (.iload_n 3, 1) := by decide +kernel
theorem dX4_passes_74 : decode cX4_passes 74 = .ok (.iaload, 1) := by decide +kernel
theorem dX4_passes_75 : decode cX4_passes 75 = .ok (.isub, 1) := by decide +kernel
theorem dX4_passes_76 : decode cX4_passes 76 = .ok (.aload_n 0, 1) := by decide +kernel
theorem dX4_passes_77 : decode cX4_passes 77 = .ok (.iload_n 3, 1) := by decide +kernel
theorem dX4_passes_78 : decode cX4_passes 78 = .ok (.invokevirtual 111, 3) := by decide +kernel
theorem dX4_passes_81 : decode cX4_passes 81 = .ok (.ifCond .eq 7, 3) := by decide +kernel
theorem dX4_passes_84 : decode cX4_passes 84 = .ok (.iconst 5, 1) := by decide +kernel
theorem dX4_passes_85 : decode cX4_passes 85 = .ok (.goto 4, 3) := by decide +kernel
theorem dX4_passes_88 : decode cX4_passes 88 = .ok (.iconst 0, 1) := by decide +kernel
theorem dX4_passes_89 : decode cX4_passes 89 = .ok (.iadd, 1) := by decide +kernel
theorem dX4_passes_90 : decode cX4_passes 90 = .ok (.iastore, 1) := by decide +kernel
theorem dX4_passes_91 : decode cX4_passes 91 = .ok (.iinc 3 1, 3) := by decide +kernel
theorem dX4_passes_94 : decode cX4_passes 94 = .ok (.goto (-68), 3) := by decide +kernel
theorem dX4_passes_97 : decode cX4_passes 97 = .ok (.aload_n 0, 1) := by decide +kernel
theorem dX4_passes_98 : decode cX4_passes 98 = .ok (.invokevirtual 114, 3) := by decide +kernel
theorem dX4_passes_101 : decode cX4_passes 101 = .ok (.istore_n 3, 1) := by decide +kernel
theorem dX4_passes_102 : decode cX4_passes 102 = .ok (.iload_n 3, 1) := by decide +kernel
theorem dX4_passes_103 : decode cX4_passes 103 = .ok (.iconst (-1), 1) := by decide +kernel
theorem dX4_passes_104 : decode cX4_passes 104 = .ok (.if_icmp .eq 27, 3) := by decide +kernel
theorem dX4_passes_107 : decode cX4_passes 107 = .ok (.iload_n 2, 1) := by decide +kernel
theorem dX4_passes_108 : decode cX4_passes 108 = .ok (.aload_n 0, 1) := by decide +kernel
theorem dX4_passes_109 : decode cX4_passes 109 = .ok (.iload_n 3, 1) := by decide +kernel
theorem dX4_passes_110 : decode cX4_passes 110 = .ok (.iload_n 2, 1) := by decide +kernel
theorem dX4_passes_111 : decode cX4_passes 111 = .ok (.invokevirtual 117, 3) := by decide +kernel
theorem dX4_passes_114 : decode cX4_passes 114 = .ok (.isub, 1) := by decide +kernel
theorem dX4_passes_115 : decode cX4_passes 115 = .ok (.istore_n 2, 1) := by decide +kernel
theorem dX4_passes_116 : decode cX4_passes 116 = .ok (.aload_n 0, 1) := by decide +kernel
theorem dX4_passes_117 : decode cX4_passes 117 = .ok (.getfield 43, 3) := by decide +kernel
theorem dX4_passes_120 : decode cX4_passes 120 = .ok (.iload_n 3, 1) := by decide +kernel
theorem dX4_passes_121 : decode cX4_passes 121 = .ok (.iconst 1, 1) := by decide +kernel
theorem dX4_passes_122 : decode cX4_passes 122 = .ok (.bastore, 1) := by decide +kernel
theorem dX4_passes_123 : decode cX4_passes 123 = .ok (.aload_n 0, 1) := by decide +kernel
theorem dX4_passes_124 : decode cX4_passes 124 = .ok (.invokevirtual 114, 3) := by decide +kernel
theorem dX4_passes_127 : decode cX4_passes 127 = .ok (.istore_n 3, 1) := by decide +kernel
theorem dX4_passes_128 : decode cX4_passes 128 = .ok (.goto (-26), 3) := by decide +kernel
theorem dX4_passes_131 : decode cX4_passes 131 = .ok (.aload_n 0, 1) := by decide +kernel
theorem dX4_passes_132 : decode cX4_passes 132 = .ok (.dup, 1) := by decide +kernel
theorem dX4_passes_133 : decode cX4_passes 133 = .ok (.getfield 65, 3) := by decide +kernel
theorem dX4_passes_136 : decode cX4_passes 136 = .ok (.iconst 1, 1) := by decide +kernel
theorem dX4_passes_137 : decode cX4_passes 137 = .ok (.iadd, 1) := by decide +kernel
theorem dX4_passes_138 : decode cX4_passes 138 = .ok (.putfield 65, 3) := by decide +kernel
theorem dX4_passes_141 : decode cX4_passes 141 = .ok (.iconst 0, 1) := by decide +kernel
theorem dX4_passes_142 : decode cX4_passes 142 = .ok (.istore 4, 2) := by decide +kernel
theorem dX4_passes_144 : decode cX4_passes 144 = .ok (.iload 4, 2) := by decide +kernel
theorem dX4_passes_146 : decode cX4_passes 146 = .ok (.bipush 48, 2) := by decide +kernel
theorem dX4_passes_148 : decode cX4_passes 148 = .ok (.if_icmp .ge 29, 3) := by decide +kernel
theorem dX4_passes_151 : decode cX4_passes 151 = .ok (.aload_n 0, 1) := by decide +kernel
theorem dX4_passes_152 : decode cX4_passes 152 = .ok (.getfield 19, 3) := by decide +kernel
theorem dX4_passes_155 : decode cX4_passes 155 = .ok (.iload 4, 2) := by decide +kernel
theorem dX4_passes_157 : decode cX4_passes 157 = .ok (.aload_n 0, 1) := by decide +kernel
theorem dX4_passes_158 : decode cX4_passes 158 = .ok (.getfield 19, 3) := by decide +kernel
theorem dX4_passes_161 : decode cX4_passes 161 = .ok (.iload 4, 2) := by decide +kernel
theorem dX4_passes_163 : decode cX4_passes 163 = .ok (.iaload, 1) := by decide +kernel
theorem dX4_passes_164 : decode cX4_passes 164 = .ok (.iconst 1, 1) := by decide +kernel
theorem dX4_passes_165 : decode cX4_passes 165 = .ok (.ishl, 1) := by decide +kernel
theorem dX4_passes_166 : decode cX4_passes 166 = .ok (.sipush 255, 3) := by decide +kernel
theorem dX4_passes_169 : decode cX4_passes 169 = .ok (.iand, 1) := by decide +kernel
theorem dX4_passes_170 : decode cX4_passes 170 = .ok (.iastore, 1) := by decide +kernel
theorem dX4_passes_171 : decode cX4_passes 171 = .ok (.iinc 4 1, 3) := by decide +kernel
theorem dX4_passes_174 : decode cX4_passes 174 = .ok (.goto (-30), 3) := by decide +kernel
theorem dX4_passes_177 : decode cX4_passes 177 = .ok (.iload_n 1, 1) := by decide +kernel
theorem dX4_passes_178 : decode cX4_passes 178 = .ok (.iload_n 2, 1) := by decide +kernel
theorem dX4_passes_179 : decode cX4_passes 179 = .ok (.isub, 1) := by decide +kernel
theorem dX4_passes_180 : decode cX4_passes 180 = .ok (.ireturn, 1) := by decide +kernel
theorem dX4_step_0 : decode cX4_step 0 = .ok (.aload_n 0, 1) := by decide +kernel
theorem dX4_step_1 : decode cX4_step 1 = .ok (.iload_n 1, 1) := by decide +kernel
theorem dX4_step_2 : decode cX4_step 2 = .ok (.iconst 0, 1) := by decide +kernel
theorem dX4_step_3 : decode cX4_step 3 = .ok (.sipush 300, 3) := by decide +kernel
theorem dX4_step_6 : decode cX4_step 6 = .ok (.invokestatic 57, 3) := by decide +kernel
theorem dX4_step_9 : decode cX4_step 9 = .ok (.ifCond .eq 7, 3) := by decide +kernel
theorem dX4_step_12 : decode cX4_step 12 = .ok (.iconst 0, 1) := by decide +kernel
theorem dX4_step_13 : decode cX4_step 13 = .ok (.goto 4, 3) := by decide +kernel
theorem dX4_step_16 : decode cX4_step 16 = .ok (.iconst 1, 1) := by decide +kernel
theorem dX4_step_17 : decode cX4_step 17 = .ok (.putfield 53, 3) := by decide +kernel
theorem dX4_step_20 : decode cX4_step 20 = .ok (.aload_n 0, 1) := by decide +kernel
theorem dX4_step_21 : decode cX4_step 21 = .ok (.getfield 53, 3) := by decide +kernel
theorem dX4_step_24 : decode cX4_step 24 = .ok (.ifCond .le 5, 3) := by decide +kernel
theorem dX4_step_27 : decode cX4_step 27 = .ok (.iconst 0, 1) := by decide +kernel
theorem dX4_step_28 : decode cX4_step 28 = .ok (.ireturn, 1) := by decide +kernel
theorem dX4_step_29 : decode cX4_step 29 = .ok (.aload_n 0, 1) := by decide +kernel
theorem dX4_step_30 : decode cX4_step 30 = .ok (.iload_n 1, 1) := by decide +kernel
theorem dX4_step_31 : decode cX4_step 31 = .ok (.invokevirtual 121, 3) := by decide +kernel
theorem dX4_step_34 : decode cX4_step 34 = .ok (.istore_n 2, 1) := by decide +kernel
theorem dX4_step_35 : decode cX4_step 35 = .ok (.aload_n 0, 1) := by decide +kernel
theorem dX4_step_36 : decode cX4_step 36 = .ok (.dup, 1) := by decide +kernel
theorem dX4_step_37 : decode cX4_step 37 = .ok (.getfield 124, 3) := by decide +kernel
theorem dX4_step_40 : decode cX4_step 40 = .ok (.iload_n 2, 1) := by decide +kernel
theorem dX4_step_41 : decode cX4_step 41 = .ok (.iadd, 1) := by decide +kernel
theorem dX4_step_42 : decode cX4_step 42 = .ok (.putfield 124, 3) := by decide +kernel
theorem dX4_step_45 : decode cX4_step 45 = .ok (.iload_n 2, 1) := by decide +kernel
theorem dX4_step_46 : decode cX4_step 46 = .ok (.ireturn, 1) := by decide +kernel
theorem dX4_time_0 : decode cX4_time 0 = .ok (.aload_n 0, 1) := by decide +kernel
theorem dX4_time_1 : decode cX4_time 1 = .ok (.iconst 0, 1) := by decide +kernel
theorem dX4_time_2 : decode cX4_time 2 = .ok (.putfield 53, 3) := by decide +kernel
theorem dX4_time_5 : decode cX4_time 5 = .ok (.aload_n 0, 1) := by decide +kernel
theorem dX4_time_6 : decode cX4_time 6 = .ok (.getfield 65, 3) := by decide +kernel
theorem dX4_time_9 : decode cX4_time 9 = .ok (.ireturn, 1) := by decide +kernel
theorem dX4_asks_0 : decode cX4_asks 0 = .ok (.aload_n 0, 1) := by decide +kernel
theorem dX4_asks_1 : decode cX4_asks 1 = .ok (.iload_n 1, 1) := by decide +kernel
theorem dX4_asks_2 : decode cX4_asks 2 = .ok (.iload_n 2, 1) := by decide +kernel
theorem dX4_asks_3 : decode cX4_asks 3 = .ok (.invokestatic 61, 3) := by decide +kernel
theorem dX4_asks_6 : decode cX4_asks 6 = .ok (.ifCond .eq 7, 3) := by decide +kernel
theorem dX4_asks_9 : decode cX4_asks 9 = .ok (.iconst 0, 1) := by decide +kernel
theorem dX4_asks_10 : decode cX4_asks 10 = .ok (.goto 4, 3) := by decide +kernel
theorem dX4_asks_13 : decode cX4_asks 13 = .ok (.iconst 1, 1) := by decide +kernel
theorem dX4_asks_14 : decode cX4_asks 14 = .ok (.putfield 53, 3) := by decide +kernel
theorem dX4_asks_17 : decode cX4_asks 17 = .ok (.aload_n 0, 1) := by decide +kernel
theorem dX4_asks_18 : decode cX4_asks 18 = .ok (.getfield 53, 3) := by decide +kernel
theorem dX4_asks_21 : decode cX4_asks 21 = .ok (.ifCond .ne 7, 3) := by decide +kernel
theorem dX4_asks_24 : decode cX4_asks 24 = .ok (.iconst 1, 1) := by decide +kernel
theorem dX4_asks_25 : decode cX4_asks 25 = .ok (.goto 4, 3) := by decide +kernel
theorem dX4_asks_28 : decode cX4_asks 28 = .ok (.iconst 0, 1) := by decide +kernel
theorem dX4_asks_29 : decode cX4_asks 29 = .ok (.ireturn, 1) := by decide +kernel
theorem dX4_near_0 : decode cX4_near 0 = .ok (.aload_n 0, 1) := by decide +kernel
theorem dX4_near_1 : decode cX4_near 1 = .ok (.iload_n 1, 1) := by decide +kernel
theorem dX4_near_2 : decode cX4_near 2 = .ok (.iload_n 2, 1) := by decide +kernel
theorem dX4_near_3 : decode cX4_near 3 = .ok (.invokevirtual 127, 3) := by decide +kernel
theorem dX4_near_6 : decode cX4_near 6 = .ok (.ifCond .eq 17, 3) := by decide +kernel
theorem dX4_near_9 : decode cX4_near 9 = .ok (.aload_n 0, 1) := by decide +kernel
theorem dX4_near_10 : decode cX4_near 10 = .ok (.getfield 7, 3) := by decide +kernel
theorem dX4_near_13 : decode cX4_near 13 = .ok (.bipush 8, 2) := by decide +kernel
theorem dX4_near_15 : decode cX4_near 15 = .ok (.iload_n 2, 1) := by decide +kernel
theorem dX4_near_16 : decode cX4_near 16 = .ok (.imul, 1) := by decide +kernel
theorem dX4_near_17 : decode cX4_near 17 = .ok (.iload_n 1, 1) := by decide +kernel
theorem dX4_near_18 : decode cX4_near 18 = .ok (.iadd, 1) := by decide +kernel
theorem dX4_near_19 : decode cX4_near 19 = .ok (.iaload, 1) := by decide +kernel
theorem dX4_near_20 : decode cX4_near 20 = .ok (.goto 4, 3) := by decide +kernel
theorem dX4_near_23 : decode cX4_near 23 = .ok (.iconst 0, 1) := by decide +kernel
theorem dX4_near_24 : decode cX4_near 24 = .ok (.ireturn, 1) := by decide +kernel
theorem dX4_far_0 : decode cX4_far 0 = .ok (.aload_n 0, 1) := by decide +kernel
theorem dX4_far_1 : decode cX4_far 1 = .ok (.iload_n 1, 1) := by decide +kernel
theorem dX4_far_2 : decode cX4_far 2 = .ok (.iload_n 2, 1) := by decide +kernel
theorem dX4_far_3 : decode cX4_far 3 = .ok (.invokevirtual 127, 3) := by decide +kernel
theorem dX4_far_6 : decode cX4_far 6 = .ok (.ifCond .eq 17, 3) := by decide +kernel
theorem dX4_far_9 : decode cX4_far 9 = .ok (.aload_n 0, 1) := by decide +kernel
theorem dX4_far_10 : decode cX4_far 10 = .ok (.getfield 13, 3) := by decide +kernel
theorem dX4_far_13 : decode cX4_far 13 = .ok (.bipush 8, 2) := by decide +kernel
theorem dX4_far_15 : decode cX4_far 15 = .ok (.iload_n 2, 1) := by decide +kernel
theorem dX4_far_16 : decode cX4_far 16 = .ok (.imul, 1) := by decide +kernel
theorem dX4_far_17 : decode cX4_far 17 = .ok (.iload_n 1, 1) := by decide +kernel
theorem dX4_far_18 : decode cX4_far 18 = .ok (.iadd, 1) := by decide +kernel
theorem dX4_far_19 : decode cX4_far 19 = .ok (.iaload, 1) := by decide +kernel
theorem dX4_far_20 : decode cX4_far 20 = .ok (.goto 4, 3) := by decide +kernel
theorem dX4_far_23 : decode cX4_far 23 = .ok (.iconst 0, 1) := by decide +kernel
theorem dX4_far_24 : decode cX4_far 24 = .ok (.ireturn, 1) := by decide +kernel
theorem dX4_kind_0 : decode cX4_kind 0 = .ok (.aload_n 0, 1) := by decide +kernel
theorem dX4_kind_1 : decode cX4_kind 1 = .ok (.iload_n 1, 1) := by decide +kernel
theorem dX4_kind_2 : decode cX4_kind 2 = .ok (.iload_n 2, 1) := by decide +kernel
theorem dX4_kind_3 : decode cX4_kind 3 = .ok (.invokevirtual 127, 3) := by decide +kernel
theorem dX4_kind_6 : decode cX4_kind 6 = .ok (.ifCond .eq 16, 3) := by decide +kernel
theorem dX4_kind_9 : decode cX4_kind 9 = .ok (.aload_n 0, 1) := by decide +kernel
theorem dX4_kind_10 : decode cX4_kind 10 = .ok (.bipush 8, 2) := by decide +kernel
theorem dX4_kind_12 : decode cX4_kind 12 = .ok (.iload_n 2, 1) := by decide +kernel
theorem dX4_kind_13 : decode cX4_kind 13 = .ok (.imul, 1) := by decide +kernel
theorem dX4_kind_14 : decode cX4_kind 14 = .ok (.iload_n 1, 1) := by decide +kernel
theorem dX4_kind_15 : decode cX4_kind 15 = .ok (.iadd, 1) := by decide +kernel
theorem dX4_kind_16 : decode cX4_kind 16 = .ok (.invokevirtual 101, 3) := by decide +kernel
theorem dX4_kind_19 : decode cX4_kind 19 = .ok (.goto 4, 3) := by decide +kernel
theorem dX4_kind_22 : decode cX4_kind 22 = .ok (.iconst 0, 1) := by decide +kernel
theorem dX4_kind_23 : decode cX4_kind 23 = .ok (.ireturn, 1) := by decide +kernel
theorem dX4_since_0 : decode cX4_since 0 = .ok (.aload_n 0, 1) := by decide +kernel
theorem dX4_since_1 : decode cX4_since 1 = .ok (.iload_n 1, 1) := by decide +kernel
theorem dX4_since_2 : decode cX4_since 2 = .ok (.iload_n 2, 1) := by decide +kernel
theorem dX4_since_3 : decode cX4_since 3 = .ok (.invokevirtual 127, 3) := by decide +kernel
theorem dX4_since_6 : decode cX4_since 6 = .ok (.ifCond .eq 17, 3) := by decide +kernel
theorem dX4_since_9 : decode cX4_since 9 = .ok (.aload_n 0, 1) := by decide +kernel
theorem dX4_since_10 : decode cX4_since 10 = .ok (.getfield 16, 3) := by decide +kernel
theorem dX4_since_13 : decode cX4_since 13 = .ok (.bipush 8, 2) := by decide +kernel
theorem dX4_since_15 : decode cX4_since 15 = .ok (.iload_n 2, 1) := by decide +kernel
theorem dX4_since_16 : decode cX4_since 16 = .ok (.imul, 1) := by decide +kernel
theorem dX4_since_17 : decode cX4_since 17 = .ok (.iload_n 1, 1) := by decide +kernel
theorem dX4_since_18 : decode cX4_since 18 = .ok (.iadd, 1) := by decide +kernel
theorem dX4_since_19 : decode cX4_since 19 = .ok (.iaload, 1) := by decide +kernel
theorem dX4_since_20 : decode cX4_since 20 = .ok (.goto 4, 3) := by decide +kernel
theorem dX4_since_23 : decode cX4_since 23 = .ok (.iconst 0, 1) := by decide +kernel
theorem dX4_since_24 : decode cX4_since 24 = .ok (.ireturn, 1) := by decide +kernel
theorem dX4_unlike_0 : decode cX4_unlike 0 = .ok (.aload_n 0, 1) := by decide +kernel
theorem dX4_unlike_1 : decode cX4_unlike 1 = .ok (.iconst 0, 1) := by decide +kernel
theorem dX4_unlike_2 : decode cX4_unlike 2 = .ok (.putfield 53, 3) := by decide +kernel
theorem dX4_unlike_5 : decode cX4_unlike 5 = .ok (.lconst 0, 1) := by decide +kernel
theorem dX4_unlike_6 : decode cX4_unlike 6 = .ok (.lstore_n 1, 1) := by decide +kernel
theorem dX4_unlike_7 : decode cX4_unlike 7 = .ok (.iconst 0, 1) := by decide +kernel
theorem dX4_unlike_8 : decode cX4_unlike 8 = .ok (.istore_n 3, 1) := by decide +kernel
theorem dX4_unlike_9 : decode cX4_unlike 9 = .ok (.iload_n 3, 1) := by decide +kernel
theorem dX4_unlike_10 : decode cX4_unlike 10 = .ok (.bipush 48, 2) := by decide +kernel
theorem dX4_unlike_12 : decode cX4_unlike 12 = .ok (.if_icmp .ge 29, 3) := by decide +kernel
theorem dX4_unlike_15 : decode cX4_unlike 15 = .ok (.lload_n 1, 1) := by decide +kernel
theorem dX4_unlike_16 : decode cX4_unlike 16 = .ok (.aload_n 0, 1) := by decide +kernel
theorem dX4_unlike_17 : decode cX4_unlike 17 = .ok (.getfield 16, 3) := by decide +kernel
theorem dX4_unlike_20 : decode cX4_unlike 20 = .ok (.iload_n 3, 1) := by decide +kernel
theorem dX4_unlike_21 : decode cX4_unlike 21 = .ok (.iaload, 1) := by decide +kernel
theorem dX4_unlike_22 : decode cX4_unlike 22 = .ok (.iconst (-1), 1) := by decide +kernel
theorem dX4_unlike_23 : decode cX4_unlike 23 = .ok (.if_icmp .ne 7, 3) := by decide +kernel
theorem dX4_unlike_26 : decode cX4_unlike 26 = .ok (.lconst 0, 1) := by decide +kernel
theorem dX4_unlike_27 : decode cX4_unlike 27 = .ok (.goto 6, 3) := by decide +kernel
theorem dX4_unlike_30 : decode cX4_unlike 30 = .ok (.lconst 1, 1) := by decide +kernel
theorem dX4_unlike_31 : decode cX4_unlike 31 = .ok (.iload_n 3, 1) := by decide +kernel
theorem dX4_unlike_32 : decode cX4_unlike 32 = .ok (.lshl, 1) := by decide +kernel
theorem dX4_unlike_33 : decode cX4_unlike 33 = .ok (.lor, 1) := by decide +kernel
theorem dX4_unlike_34 : decode cX4_unlike 34 = .ok (.lstore_n 1, 1) := by decide +kernel
theorem dX4_unlike_35 : decode cX4_unlike 35 = .ok (.iinc 3 1, 3) := by decide +kernel
theorem dX4_unlike_38 : decode cX4_unlike 38 = .ok (.goto (-29), 3) := by decide +kernel
theorem dX4_unlike_41 : decode cX4_unlike 41 = .ok (.lload_n 1, 1) := by decide +kernel
theorem dX4_unlike_42 : decode cX4_unlike 42 = .ok (.lreturn, 1) := by decide +kernel
theorem dX4_rough_0 : decode cX4_rough 0 = .ok (.aload_n 0, 1) := by decide +kernel
theorem dX4_rough_1 : decode cX4_rough 1 = .ok (.iconst 0, 1) := by decide +kernel
theorem dX4_rough_2 : decode cX4_rough 2 = .ok (.putfield 53, 3) := by decide +kernel
theorem dX4_rough_5 : decode cX4_rough 5 = .ok (.iconst 0, 1) := by decide +kernel
theorem dX4_rough_6 : decode cX4_rough 6 = .ok (.istore_n 1, 1) := by decide +kernel
theorem dX4_rough_7 : decode cX4_rough 7 = .ok (.iconst 0, 1) := by decide +kernel
theorem dX4_rough_8 : decode cX4_rough 8 = .ok (.istore_n 2, 1) := by decide +kernel
theorem dX4_rough_9 : decode cX4_rough 9 = .ok (.iload_n 2, 1) := by decide +kernel
theorem dX4_rough_10 : decode cX4_rough 10 = .ok (.bipush 48, 2) := by decide +kernel
theorem dX4_rough_12 : decode cX4_rough 12 = .ok (.if_icmp .ge 29, 3) := by decide +kernel
theorem dX4_rough_15 : decode cX4_rough 15 = .ok (.iload_n 1, 1) := by decide +kernel
theorem dX4_rough_16 : decode cX4_rough 16 = .ok (.aload_n 0, 1) := by decide +kernel
theorem dX4_rough_17 : decode cX4_rough 17 = .ok (.getfield 13, 3) := by decide +kernel
theorem dX4_rough_20 : decode cX4_rough 20 = .ok (.iload_n 2, 1) := by decide +kernel
theorem dX4_rough_21 : decode cX4_rough 21 = .ok (.iaload, 1) := by decide +kernel
theorem dX4_rough_22 : decode cX4_rough 22 = .ok (.sipush 1000, 3) := by decide +kernel
theorem dX4_rough_25 : decode cX4_rough 25 = .ok (.if_icmp .lt 7, 3) := by decide +kernel
theorem dX4_rough_28 : decode cX4_rough 28 = .ok (.iconst 1, 1) := by decide +kernel
theorem dX4_rough_29 : decode cX4_rough 29 = .ok (.goto 4, 3) := by decide +kernel
theorem dX4_rough_32 : decode cX4_rough 32 = .ok (.iconst 0, 1) := by decide +kernel
theorem dX4_rough_33 : decode cX4_rough 33 = .ok (.iadd, 1) := by decide +kernel
theorem dX4_rough_34 : decode cX4_rough 34 = .ok (.istore_n 1, 1) := by decide +kernel
theorem dX4_rough_35 : decode cX4_rough 35 = .ok (.iinc 2 1, 3) := by decide +kernel
theorem dX4_rough_38 : decode cX4_rough 38 = .ok (.goto (-29), 3) := by decide +kernel
theorem dX4_rough_41 : decode cX4_rough 41 = .ok (.iload_n 1, 1) := by decide +kernel
theorem dX4_rough_42 : decode cX4_rough 42 = .ok (.ireturn, 1) := by decide +kernel
theorem dX4_waiting_0 : decode cX4_waiting 0 = .ok (.aload_n 0, 1) := by decide +kernel
theorem dX4_waiting_1 : decode cX4_waiting 1 = .ok (.iconst 0, 1) := by decide +kernel
theorem dX4_waiting_2 : decode cX4_waiting 2 = .ok (.putfield 53, 3) := by decide +kernel
theorem dX4_waiting_5 : decode cX4_waiting 5 = .ok (.aload_n 0, 1) := by decide +kernel
theorem dX4_waiting_6 : decode cX4_waiting 6 = .ok (.getfield 88, 3) := by decide +kernel
theorem dX4_waiting_9 : decode cX4_waiting 9 = .ok (.ireturn, 1) := by decide +kernel
theorem dX4_known_0 : decode cX4_known 0 = .ok (.aload_n 0, 1) := by decide +kernel
theorem dX4_known_1 : decode cX4_known 1 = .ok (.iload_n 1, 1) := by decide +kernel
theorem dX4_known_2 : decode cX4_known 2 = .ok (.iconst 0, 1) := by decide +kernel
theorem dX4_known_3 : decode cX4_known 3 = .ok (.aload_n 0, 1) := by decide +kernel
theorem dX4_known_4 : decode cX4_known 4 = .ok (.getfield 94, 3) := by decide +kernel
theorem dX4_known_7 : decode cX4_known 7 = .ok (.iconst 1, 1) := by decide +kernel
theorem dX4_known_8 : decode cX4_known 8 = .ok (.isub, 1) := by decide +kernel
theorem dX4_known_9 : decode cX4_known 9 = .ok (.invokestatic 57, 3) := by decide +kernel
theorem dX4_known_12 : decode cX4_known 12 = .ok (.ifCond .eq 7, 3) := by decide +kernel
theorem dX4_known_15 : decode cX4_known 15 = .ok (.iconst 0, 1) := by decide +kernel
theorem dX4_known_16 : decode cX4_known 16 = .ok (.goto 4, 3) := by decide +kernel
theorem dX4_known_19 : decode cX4_known 19 = .ok (.iconst 1, 1) := by decide +kernel
theorem dX4_known_20 : decode cX4_known 20 = .ok (.putfield 53, 3) := by decide +kernel
theorem dX4_known_23 : decode cX4_known 23 = .ok (.aload_n 0, 1) := by decide +kernel
theorem dX4_known_24 : decode cX4_known 24 = .ok (.getfield 53, 3) := by decide +kernel
theorem dX4_known_27 : decode cX4_known 27 = .ok (.ifCond .le 7, 3) := by decide +kernel
theorem dX4_known_30 : decode cX4_known 30 = .ok (.iconst 0, 1) := by decide +kernel
theorem dX4_known_31 : decode cX4_known 31 = .ok (.goto 9, 3) := by decide +kernel
theorem dX4_known_34 : decode cX4_known 34 = .ok (.aload_n 0, 1) := by decide +kernel
theorem dX4_known_35 : decode cX4_known 35 = .ok (.getfield 34, 3) := by decide +kernel
theorem dX4_known_38 : decode cX4_known 38 = .ok (.iload_n 1, 1) := by decide +kernel
theorem dX4_known_39 : decode cX4_known 39 = .ok (.iaload, 1) := by decide +kernel
theorem dX4_known_40 : decode cX4_known 40 = .ok (.ireturn, 1) := by decide +kernel
theorem dX4_knownPictures_0 : decode cX4_knownPictures 0 = .ok (.aload_n 0, 1) := by decide +kernel
theorem dX4_knownPictures_1 : decode cX4_knownPictures 1 = .ok (.iconst 0, 1) := by decide +kernel
theorem dX4_knownPictures_2 : decode cX4_knownPictures 2 = .ok (.putfield 53, 3) := by decide +kernel
theorem dX4_knownPictures_5 : decode cX4_knownPictures 5 = .ok (.aload_n 0, 1) := by decide +kernel
theorem dX4_knownPictures_6 : decode cX4_knownPictures 6 = .ok (.getfield 94, 3) := by decide +kernel
theorem dX4_knownPictures_9 : decode cX4_knownPictures 9 = .ok (.ireturn, 1) := by decide +kernel
theorem dX4_sent_0 : decode cX4_sent 0 = .ok (.aload_n 0, 1) := by decide +kernel
theorem dX4_sent_1 : decode cX4_sent 1 = .ok (.iload_n 1, 1) := by decide +kernel
theorem dX4_sent_2 : decode cX4_sent 2 = .ok (.iconst 0, 1) := by decide +kernel
theorem dX4_sent_3 : decode cX4_sent 3 = .ok (.iconst 3, 1) := by decide +kernel
theorem dX4_sent_4 : decode cX4_sent 4 = .ok (.invokestatic 57, 3) := by decide +kernel
theorem dX4_sent_7 : decode cX4_sent 7 = .ok (.ifCond .eq 7, 3) := by decide +kernel
theorem dX4_sent_10 : decode cX4_sent 10 = .ok (.iconst 0, 1) := by decide +kernel
theorem dX4_sent_11 : decode cX4_sent 11 = .ok (.goto 4, 3) := by decide +kernel
theorem dX4_sent_14 : decode cX4_sent 14 = .ok (.iconst 1, 1) := by decide +kernel
theorem dX4_sent_15 : decode cX4_sent 15 = .ok (.putfield 53, 3) := by decide +kernel
theorem dX4_sent_18 : decode cX4_sent 18 = .ok (.aload_n 0, 1) := by decide +kernel
theorem dX4_sent_19 : decode cX4_sent 19 = .ok (.getfield 53, 3) := by decide +kernel
theorem dX4_sent_22 : decode cX4_sent 22 = .ok (.ifCond .le 7, 3) := by decide +kernel
theorem dX4_sent_25 : decode cX4_sent 25 = .ok (.iconst 0, 1) := by decide +kernel
theorem dX4_sent_26 : decode cX4_sent 26 = .ok (.goto 9, 3) := by decide +kernel
theorem dX4_sent_29 : decode cX4_sent 29 = .ok (.aload_n 0, 1) := by decide +kernel
theorem dX4_sent_30 : decode cX4_sent 30 = .ok (.getfield 37, 3) := by decide +kernel
theorem dX4_sent_33 : decode cX4_sent 33 = .ok (.iload_n 1, 1) := by decide +kernel
theorem dX4_sent_34 : decode cX4_sent 34 = .ok (.iaload, 1) := by decide +kernel
theorem dX4_sent_35 : decode cX4_sent 35 = .ok (.ireturn, 1) := by decide +kernel
theorem dX4_used_0 : decode cX4_used 0 = .ok (.aload_n 0, 1) := by decide +kernel
theorem dX4_used_1 : decode cX4_used 1 = .ok (.iconst 0, 1) := by decide +kernel
theorem dX4_used_2 : decode cX4_used 2 = .ok (.putfield 53, 3) := by decide +kernel
theorem dX4_used_5 : decode cX4_used 5 = .ok (.aload_n 0, 1) := by decide +kernel
theorem dX4_used_6 : decode cX4_used 6 = .ok (.getfield 124, 3) := by decide +kernel
theorem dX4_used_9 : decode cX4_used 9 = .ok (.ireturn, 1) := by decide +kernel
theorem dX4_anew_0 : decode cX4_anew 0 = .ok (.aload_n 0, 1) := by decide +kernel
theorem dX4_anew_1 : decode cX4_anew 1 = .ok (.iconst 0, 1) := by decide +kernel
theorem dX4_anew_2 : decode cX4_anew 2 = .ok (.putfield 53, 3) := by decide +kernel
theorem dX4_anew_5 : decode cX4_anew 5 = .ok (.iconst 0, 1) := by decide +kernel
theorem dX4_anew_6 : decode cX4_anew 6 = .ok (.istore_n 1, 1) := by decide +kernel
theorem dX4_anew_7 : decode cX4_anew 7 = .ok (.iconst 0, 1) := by decide +kernel
theorem dX4_anew_8 : decode cX4_anew 8 = .ok (.istore_n 2, 1) := by decide +kernel
theorem dX4_anew_9 : decode cX4_anew 9 = .ok (.iload_n 2, 1) := by decide +kernel
theorem dX4_anew_10 : decode cX4_anew 10 = .ok (.bipush 48, 2) := by decide +kernel
theorem dX4_anew_12 : decode cX4_anew 12 = .ok (.if_icmp .ge 29, 3) := by decide +kernel
theorem dX4_anew_15 : decode cX4_anew 15 = .ok (.iload_n 1, 1) := by decide +kernel
theorem dX4_anew_16 : decode cX4_anew 16 = .ok (.aload_n 0, 1) := by decide +kernel
theorem dX4_anew_17 : decode cX4_anew 17 = .ok (.getfield 7, 3) := by decide +kernel
theorem dX4_anew_20 : decode cX4_anew 20 = .ok (.iload_n 2, 1) := by decide +kernel
theorem dX4_anew_21 : decode cX4_anew 21 = .ok (.iaload, 1) := by decide +kernel
theorem dX4_anew_22 : decode cX4_anew 22 = .ok (.bipush 64, 2) := by decide +kernel
theorem dX4_anew_24 : decode cX4_anew 24 = .ok (.if_icmp .ge 7, 3) := by decide +kernel
theorem dX4_anew_27 : decode cX4_anew 27 = .ok (.iconst 2, 1) := by decide +kernel
theorem dX4_anew_28 : decode cX4_anew 28 = .ok (.goto 5, 3) := by decide +kernel
theorem dX4_anew_31 : decode cX4_anew 31 = .ok (.bipush 6, 2) := by decide +kernel
theorem dX4_anew_33 : decode cX4_anew 33 = .ok (.iadd, 1) := by decide +kernel
theorem dX4_anew_34 : decode cX4_anew 34 = .ok (.istore_n 1, 1) := by decide +kernel
theorem dX4_anew_35 : decode cX4_anew 35 = .ok (.iinc 2 1, 3) := by decide +kernel
theorem dX4_anew_38 : decode cX4_anew 38 = .ok (.goto (-29), 3) := by decide +kernel
theorem dX4_anew_41 : decode cX4_anew 41 = .ok (.iload_n 1, 1) := by decide +kernel
theorem dX4_anew_42 : decode cX4_anew 42 = .ok (.ireturn, 1) := by decide +kernel
theorem dX4_keeps_0 : decode cX4_keeps 0 = .ok (.iconst 0, 1) := by decide +kernel
theorem dX4_keeps_1 : decode cX4_keeps 1 = .ok (.istore 4, 2) := by decide +kernel
theorem dX4_keeps_3 : decode cX4_keeps 3 = .ok (.iload 4, 2) := by decide +kernel
theorem dX4_keeps_5 : decode cX4_keeps 5 = .ok (.iload_n 2, 1) := by decide +kernel
theorem dX4_keeps_6 : decode cX4_keeps 6 = .ok (.if_icmp .ge 52, 3) := by decide +kernel
theorem dX4_keeps_9 : decode cX4_keeps 9 = .ok (.iload_n 3, 1) := by decide +kernel
theorem dX4_keeps_10 : decode cX4_keeps 10 = .ok (.ifCond .eq 19, 3) := by decide +kernel
theorem dX4_keeps_13 : decode cX4_keeps 13 = .ok (.aload_n 1, 1) := by decide +kernel
theorem dX4_keeps_14 : decode cX4_keeps 14 = .ok (.iload 4, 2) := by decide +kernel
theorem dX4_keeps_16 : decode cX4_keeps 16 = .ok (.aload_n 0, 1) := by decide +kernel
theorem dX4_keeps_17 : decode cX4_keeps 17 = .ok (.getfield 50, 3) := by decide +kernel
theorem dX4_keeps_20 : decode cX4_keeps 20 = .ok (.aload_n 0, 1) := by decide +kernel
theorem dX4_keeps_21 : decode cX4_keeps 21 = .ok (.getfield 130, 3) := by decide +kernel
theorem dX4_keeps_24 : decode cX4_keeps 24 = .ok (.iaload, 1) := by decide +kernel
theorem dX4_keeps_25 : decode cX4_keeps 25 = .ok (.iastore, 1) := by decide +kernel
theorem dX4_keeps_26 : decode cX4_keeps 26 = .ok (.goto 16, 3) := by decide +kernel
theorem dX4_keeps_29 : decode cX4_keeps 29 = .ok (.aload_n 0, 1) := by decide +kernel
theorem dX4_keeps_30 : decode cX4_keeps 30 = .ok (.getfield 50, 3) := by decide +kernel
theorem dX4_keeps_33 : decode cX4_keeps 33 = .ok (.aload_n 0, 1) := by decide +kernel
theorem dX4_keeps_34 : decode cX4_keeps 34 = .ok (.getfield 130, 3) := by decide +kernel
theorem dX4_keeps_37 : decode cX4_keeps 37 = .ok (.aload_n 1, 1) := by decide +kernel
theorem dX4_keeps_38 : decode cX4_keeps 38 = .ok (.iload 4, 2) := by decide +kernel
theorem dX4_keeps_40 : decode cX4_keeps 40 = .ok (.iaload, 1) := by decide +kernel
theorem dX4_keeps_41 : decode cX4_keeps 41 = .ok (.iastore, 1) := by decide +kernel
theorem dX4_keeps_42 : decode cX4_keeps 42 = .ok (.aload_n 0, 1) := by decide +kernel
theorem dX4_keeps_43 : decode cX4_keeps 43 = .ok (.dup, 1) := by decide +kernel
theorem dX4_keeps_44 : decode cX4_keeps 44 = .ok (.getfield 130, 3) := by decide +kernel
theorem dX4_keeps_47 : decode cX4_keeps 47 = .ok (.iconst 1, 1) := by decide +kernel
theorem dX4_keeps_48 : decode cX4_keeps 48 = .ok (.iadd, 1) := by decide +kernel
theorem dX4_keeps_49 : decode cX4_keeps 49 = .ok (.putfield 130, 3) := by decide +kernel
theorem dX4_keeps_52 : decode cX4_keeps 52 = .ok (.iinc 4 1, 3) := by decide +kernel
theorem dX4_keeps_55 : decode cX4_keeps 55 = .ok (.goto (-52), 3) := by decide +kernel
theorem dX4_keeps_58 : decode cX4_keeps 58 = .ok (.return_, 1) := by decide +kernel
theorem dX4_keepsAll_0 : decode cX4_keepsAll 0 = .ok (.aload_n 0, 1) := by decide +kernel
theorem dX4_keepsAll_1 : decode cX4_keepsAll 1 = .ok (.iconst 0, 1) := by decide +kernel
theorem dX4_keepsAll_2 : decode cX4_keepsAll 2 = .ok (.putfield 130, 3) := by decide +kernel
theorem dX4_keepsAll_5 : decode cX4_keepsAll 5 = .ok (.aload_n 0, 1) := by decide +kernel
theorem dX4_keepsAll_6 : decode cX4_keepsAll 6 = .ok (.aload_n 0, 1) := by decide +kernel
theorem dX4_keepsAll_7 : decode cX4_keepsAll 7 = .ok (.getfield 13, 3) := by decide +kernel
theorem dX4_keepsAll_10 : decode cX4_keepsAll 10 = .ok (.bipush 48, 2) := by decide +kernel
theorem dX4_keepsAll_12 : decode cX4_keepsAll 12 = .ok (.iload_n 1, 1) := by decide +kernel
theorem dX4_keepsAll_13 : decode cX4_keepsAll 13 = .ok (.invokevirtual 133, 3) := by decide +kernel
theorem dX4_keepsAll_16 : decode cX4_keepsAll 16 = .ok (.aload_n 0, 1) := by decide +kernel
theorem dX4_keepsAll_17 : decode cX4_keepsAll 17 = .ok (.aload_n 0, 1) := by decide +kernel
theorem dX4_keepsAll_18 : decode cX4_keepsAll 18 = .ok (.getfield 16, 3) := by decide +kernel
theorem dX4_keepsAll_21 : decode cX4_keepsAll 21 = .ok (.bipush 48, 2) := by decide +kernel
theorem dX4_keepsAll_23 : decode cX4_keepsAll 23 = .ok (.iload_n 1, 1) := by decide +kernel
theorem dX4_keepsAll_24 : decode cX4_keepsAll 24 = .ok (.invokevirtual 133, 3) := by decide +kernel
theorem dX4_keepsAll_27 : decode cX4_keepsAll 27 = .ok (.aload_n 0, 1) := by decide +kernel
theorem dX4_keepsAll_28 : decode cX4_keepsAll 28 = .ok (.aload_n 0, 1) := by decide +kernel
theorem dX4_keepsAll_29 : decode cX4_keepsAll 29 = .ok (.getfield 19, 3) := by decide +kernel
theorem dX4_keepsAll_32 : decode cX4_keepsAll 32 = .ok (.bipush 48, 2) := by decide +kernel
theorem dX4_keepsAll_34 : decode cX4_keepsAll 34 = .ok (.iload_n 1, 1) := by decide +kernel
theorem dX4_keepsAll_35 : decode cX4_keepsAll 35 = .ok (.invokevirtual 133, 3) := by decide +kernel
theorem dX4_keepsAll_38 : decode cX4_keepsAll 38 = .ok (.aload_n 0, 1) := by decide +kernel
theorem dX4_keepsAll_39 : decode cX4_keepsAll 39 = .ok (.aload_n 0, 1) := by decide +kernel
theorem dX4_keepsAll_40 : decode cX4_keepsAll 40 = .ok (.getfield 22, 3) := by decide +kernel
theorem dX4_keepsAll_43 : decode cX4_keepsAll 43 = .ok (.iconst 4, 1) := by decide +kernel
theorem dX4_keepsAll_44 : decode cX4_keepsAll 44 = .ok (.iload_n 1, 1) := by decide +kernel
theorem dX4_keepsAll_45 : decode cX4_keepsAll 45 = .ok (.invokevirtual 133, 3) := by decide +kernel
theorem dX4_keepsAll_48 : decode cX4_keepsAll 48 = .ok (.aload_n 0, 1) := by decide +kernel
theorem dX4_keepsAll_49 : decode cX4_keepsAll 49 = .ok (.aload_n 0, 1) := by decide +kernel
theorem dX4_keepsAll_50 : decode cX4_keepsAll 50 = .ok (.getfield 25, 3) := by decide +kernel
theorem dX4_keepsAll_53 : decode cX4_keepsAll 53 = .ok (.iconst 4, 1) := by decide +kernel
theorem dX4_keepsAll_54 : decode cX4_keepsAll 54 = .ok (.iload_n 1, 1) := by decide +kernel
theorem dX4_keepsAll_55 : decode cX4_keepsAll 55 = .ok (.invokevirtual 133, 3) := by decide +kernel
theorem dX4_keepsAll_58 : decode cX4_keepsAll 58 = .ok (.aload_n 0, 1) := by decide +kernel
theorem dX4_keepsAll_59 : decode cX4_keepsAll 59 = .ok (.aload_n 0, 1) := by decide +kernel
theorem dX4_keepsAll_60 : decode cX4_keepsAll 60 = .ok (.getfield 28, 3) := by decide +kernel
theorem dX4_keepsAll_63 : decode cX4_keepsAll 63 = .ok (.iconst 4, 1) := by decide +kernel
theorem dX4_keepsAll_64 : decode cX4_keepsAll 64 = .ok (.iload_n 1, 1) := by decide +kernel
theorem dX4_keepsAll_65 : decode cX4_keepsAll 65 = .ok (.invokevirtual 133, 3) := by decide +kernel
theorem dX4_keepsAll_68 : decode cX4_keepsAll 68 = .ok (.aload_n 0, 1) := by decide +kernel
theorem dX4_keepsAll_69 : decode cX4_keepsAll 69 = .ok (.aload_n 0, 1) := by decide +kernel
theorem dX4_keepsAll_70 : decode cX4_keepsAll 70 = .ok (.getfield 31, 3) := by decide +kernel
theorem dX4_keepsAll_73 : decode cX4_keepsAll 73 = .ok (.iconst 4, 1) := by decide +kernel
theorem dX4_keepsAll_74 : decode cX4_keepsAll 74 = .ok (.iload_n 1, 1) := by decide +kernel
theorem dX4_keepsAll_75 : decode cX4_keepsAll 75 = .ok (.invokevirtual 133, 3) := by decide +kernel
theorem dX4_keepsAll_78 : decode cX4_keepsAll 78 = .ok (.aload_n 0, 1) := by decide +kernel
theorem dX4_keepsAll_79 : decode cX4_keepsAll 79 = .ok (.aload_n 0, 1) := by decide +kernel
theorem dX4_keepsAll_80 : decode cX4_keepsAll 80 = .ok (.getfield 34, 3) := by decide +kernel
theorem dX4_keepsAll_83 : decode cX4_keepsAll 83 = .ok (.bipush 9, 2) := by decide +kernel
theorem dX4_keepsAll_85 : decode cX4_keepsAll 85 = .ok (.iload_n 1, 1) := by decide +kernel
theorem dX4_keepsAll_86 : decode cX4_keepsAll 86 = .ok (.invokevirtual 133, 3) := by decide +kernel
theorem dX4_keepsAll_89 : decode cX4_keepsAll 89 = .ok (.aload_n 0, 1) := by decide +kernel
theorem dX4_keepsAll_90 : decode cX4_keepsAll 90 = .ok (.aload_n 0, 1) := by decide +kernel
theorem dX4_keepsAll_91 : decode cX4_keepsAll 91 = .ok (.getfield 37, 3) := by decide +kernel
theorem dX4_keepsAll_94 : decode cX4_keepsAll 94 = .ok (.iconst 4, 1) := by decide +kernel
theorem dX4_keepsAll_95 : decode cX4_keepsAll 95 = .ok (.iload_n 1, 1) := by decide +kernel
theorem dX4_keepsAll_96 : decode cX4_keepsAll 96 = .ok (.invokevirtual 133, 3) := by decide +kernel
theorem dX4_keepsAll_99 : decode cX4_keepsAll 99 = .ok (.return_, 1) := by decide +kernel
theorem dX4_stepsToGo_0 : decode cX4_stepsToGo 0 = .ok (.aload_n 0, 1) := by decide +kernel
theorem dX4_stepsToGo_1 : decode cX4_stepsToGo 1 = .ok (.iload_n 1, 1) := by decide +kernel
theorem dX4_stepsToGo_2 : decode cX4_stepsToGo 2 = .ok (.iconst 0, 1) := by decide +kernel
theorem dX4_stepsToGo_3 : decode cX4_stepsToGo 3 = .ok (.sipush 300, 3) := by decide +kernel
theorem dX4_stepsToGo_6 : decode cX4_stepsToGo 6 = .ok (.invokestatic 57, 3) := by decide +kernel
theorem dX4_stepsToGo_9 : decode cX4_stepsToGo 9 = .ok (.ifCond .eq 7, 3) := by decide +kernel
theorem dX4_stepsToGo_12 : decode cX4_stepsToGo 12 = .ok (.iconst 0, 1) := by decide +kernel
theorem dX4_stepsToGo_13 : decode cX4_stepsToGo 13 = .ok (.goto 4, 3) := by decide +kernel
theorem dX4_stepsToGo_16 : decode cX4_stepsToGo 16 = .ok (.iconst 1, 1) := by decide +kernel
theorem dX4_stepsToGo_17 : decode cX4_stepsToGo 17 = .ok (.putfield 53, 3) := by decide +kernel
theorem dX4_stepsToGo_20 : decode cX4_stepsToGo 20 = .ok (.aload_n 0, 1) := by decide +kernel
theorem dX4_stepsToGo_21 : decode cX4_stepsToGo 21 = .ok (.getfield 53, 3) := by decide +kernel
theorem dX4_stepsToGo_24 : decode cX4_stepsToGo 24 = .ok (.ifCond .le 5, 3) := by decide +kernel
theorem dX4_stepsToGo_27 : decode cX4_stepsToGo 27 = .ok (.iconst 0, 1) := by decide +kernel
theorem dX4_stepsToGo_28 : decode cX4_stepsToGo 28 = .ok (.ireturn, 1) := by decide +kernel
theorem dX4_stepsToGo_29 : decode cX4_stepsToGo 29 = .ok (.aload_n 0, 1) := by decide +kernel
theorem dX4_stepsToGo_30 : decode cX4_stepsToGo 30 = .ok (.getfield 65, 3) := by decide +kernel
theorem dX4_stepsToGo_33 : decode cX4_stepsToGo 33 = .ok (.istore_n 2, 1) := by decide +kernel
theorem dX4_stepsToGo_34 : decode cX4_stepsToGo 34 = .ok (.aload_n 0, 1) := by decide +kernel
theorem dX4_stepsToGo_35 : decode cX4_stepsToGo 35 = .ok (.getfield 88, 3) := by decide +kernel
theorem dX4_stepsToGo_38 : decode cX4_stepsToGo 38 = .ok (.istore_n 3, 1) := by decide +kernel
theorem dX4_stepsToGo_39 : decode cX4_stepsToGo 39 = .ok (.aload_n 0, 1) := by decide +kernel
theorem dX4_stepsToGo_40 : decode cX4_stepsToGo 40 = .ok (.getfield 94, 3) := by decide +kernel
theorem dX4_stepsToGo_43 : decode cX4_stepsToGo 43 = .ok (.istore 4, 2) := by decide +kernel
theorem dX4_stepsToGo_45 : decode cX4_stepsToGo 45 = .ok (.aload_n 0, 1) := by decide +kernel
theorem dX4_stepsToGo_46 : decode cX4_stepsToGo 46 = .ok (.iconst 0, 1) := by decide +kernel
theorem dX4_stepsToGo_47 : decode cX4_stepsToGo 47 = .ok (.invokevirtual 137, 3) := by decide +kernel
theorem dX4_stepsToGo_50 : decode cX4_stepsToGo 50 = .ok (.iconst 0, 1) := by decide +kernel
theorem dX4_stepsToGo_51 : decode cX4_stepsToGo 51 = .ok (.istore 5, 2) := by decide +kernel
theorem dX4_stepsToGo_53 : decode cX4_stepsToGo 53 = .ok (.iload 5, 2) := by decide +kernel
theorem dX4_stepsToGo_55 : decode cX4_stepsToGo 55 = .ok (.bipush 100, 2) := by decide +kernel
theorem dX4_stepsToGo_57 : decode cX4_stepsToGo 57 = .ok (.if_icmp .gt 29, 3) := by decide +kernel
theorem dX4_stepsToGo_60 : decode cX4_stepsToGo 60 = .ok (.aload_n 0, 1) := by decide +kernel
theorem dX4_stepsToGo_61 : decode cX4_stepsToGo 61 = .ok (.getfield 88, 3) := by decide +kernel
theorem dX4_stepsToGo_64 : decode cX4_stepsToGo 64 = .ok (.ifCond .gt 10, 3) := by decide +kernel
theorem dX4_stepsToGo_67 : decode cX4_stepsToGo 67 = .ok (.aload_n 0, 1) := by decide +kernel
theorem dX4_stepsToGo_68 : decode cX4_stepsToGo 68 = .ok (.invokevirtual 80, 3) := by decide +kernel
theorem dX4_stepsToGo_71 : decode cX4_stepsToGo 71 = .ok (.ifCond .le 15, 3) := by decide +kernel
theorem dX4_stepsToGo_74 : decode cX4_stepsToGo 74 = .ok (.aload_n 0, 1) := by decide +kernel
theorem dX4_stepsToGo_75 : decode cX4_stepsToGo 75 = .ok (.iload_n 1, 1) := by decide +kernel
theorem dX4_stepsToGo_76 : decode cX4_stepsToGo 76 = .ok (.invokevirtual 121, 3) := by decide +kernel
theorem dX4_stepsToGo_79 : decode cX4_stepsToGo 79 = .ok (.pop, 1) := by decide +kernel
theorem dX4_stepsToGo_80 : decode cX4_stepsToGo 80 = .ok (.iinc 5 1, 3) := by decide +kernel
theorem dX4_stepsToGo_83 : decode cX4_stepsToGo 83 = .ok (.goto (-30), 3) := by decide +kernel
theorem dX4_stepsToGo_86 : decode cX4_stepsToGo 86 = .ok (.aload_n 0, 1) := by decide +kernel
theorem dX4_stepsToGo_87 : decode cX4_stepsToGo 87 = .ok (.iload_n 2, 1) := by decide +kernel
theorem dX4_stepsToGo_88 : decode cX4_stepsToGo 88 = .ok (.putfield 65, 3) := by decide +kernel
theorem dX4_stepsToGo_91 : decode cX4_stepsToGo 91 = .ok (.aload_n 0, 1) := by decide +kernel
theorem dX4_stepsToGo_92 : decode cX4_stepsToGo 92 = .ok (.iload_n 3, 1) := by decide +kernel
theorem dX4_stepsToGo_93 : decode cX4_stepsToGo 93 = .ok (.putfield 88, 3) := by decide +kernel
theorem dX4_stepsToGo_96 : decode cX4_stepsToGo 96 = .ok (.aload_n 0, 1) := by decide +kernel
theorem dX4_stepsToGo_97 : decode cX4_stepsToGo 97 = .ok (.iload 4, 2) := by decide +kernel
theorem dX4_stepsToGo_99 : decode cX4_stepsToGo 99 = .ok (.putfield 94, 3) := by decide +kernel
theorem dX4_stepsToGo_102 : decode cX4_stepsToGo 102 = .ok (.aload_n 0, 1) := by decide +kernel
theorem dX4_stepsToGo_103 : decode cX4_stepsToGo 103 = .ok (.iconst 1, 1) := by decide +kernel
theorem dX4_stepsToGo_104 : decode cX4_stepsToGo 104 = .ok (.invokevirtual 137, 3) := by decide +kernel
theorem dX4_stepsToGo_107 : decode cX4_stepsToGo 107 = .ok (.iload 5, 2) := by decide +kernel
theorem dX4_stepsToGo_109 : decode cX4_stepsToGo 109 = .ok (.bipush 100, 2) := by decide +kernel
theorem dX4_stepsToGo_111 : decode cX4_stepsToGo 111 = .ok (.if_icmp .le 7, 3) := by decide +kernel
theorem dX4_stepsToGo_114 : decode cX4_stepsToGo 114 = .ok (.iconst (-1), 1) := by decide +kernel
theorem dX4_stepsToGo_115 : decode cX4_stepsToGo 115 = .ok (.goto 5, 3) := by decide +kernel
theorem dX4_stepsToGo_118 : decode cX4_stepsToGo 118 = .ok (.iload 5, 2) := by decide +kernel
theorem dX4_stepsToGo_120 : decode cX4_stepsToGo 120 = .ok (.ireturn, 1) := by decide +kernel
theorem dJ6_bitCount_0f7a4_0 : decode cJ6_bitCount_0f7a4 0 = .ok (.iload_n 0, 1) := by decide +kernel
theorem dJ6_bitCount_0f7a4_1 : decode cJ6_bitCount_0f7a4 1 = .ok (.iload_n 0, 1) := by decide +kernel
theorem dJ6_bitCount_0f7a4_2 : decode cJ6_bitCount_0f7a4 2 = .ok (.iconst 1, 1) := by decide +kernel
theorem dJ6_bitCount_0f7a4_3 : decode cJ6_bitCount_0f7a4 3 = .ok (.iushr, 1) := by decide +kernel
theorem dJ6_bitCount_0f7a4_4 : decode cJ6_bitCount_0f7a4 4 = .ok (.ldc_w 265, 3) := by decide +kernel
theorem dJ6_bitCount_0f7a4_7 : decode cJ6_bitCount_0f7a4 7 = .ok (.iand, 1) := by decide +kernel
theorem dJ6_bitCount_0f7a4_8 : decode cJ6_bitCount_0f7a4 8 = .ok (.isub, 1) := by decide +kernel
theorem dJ6_bitCount_0f7a4_9 : decode cJ6_bitCount_0f7a4 9 = .ok (.istore_n 0, 1) := by decide +kernel
theorem dJ6_bitCount_0f7a4_10 : decode cJ6_bitCount_0f7a4 10 = .ok (.iload_n 0, 1) := by decide +kernel
theorem dJ6_bitCount_0f7a4_11 : decode cJ6_bitCount_0f7a4 11 = .ok (.ldc_w 266, 3) := by decide +kernel
theorem dJ6_bitCount_0f7a4_14 : decode cJ6_bitCount_0f7a4 14 = .ok (.iand, 1) := by decide +kernel
theorem dJ6_bitCount_0f7a4_15 : decode cJ6_bitCount_0f7a4 15 = .ok (.iload_n 0, 1) := by decide +kernel
theorem dJ6_bitCount_0f7a4_16 : decode cJ6_bitCount_0f7a4 16 = .ok (.iconst 2, 1) := by decide +kernel
theorem dJ6_bitCount_0f7a4_17 : decode cJ6_bitCount_0f7a4 17 = .ok (.iushr, 1) := by decide +kernel
theorem dJ6_bitCount_0f7a4_18 : decode cJ6_bitCount_0f7a4 18 = .ok (.ldc_w 266, 3) := by decide +kernel
theorem dJ6_bitCount_0f7a4_21 : decode cJ6_bitCount_0f7a4 21 = .ok (.iand, 1) := by decide +kernel
theorem dJ6_bitCount_0f7a4_22 : decode cJ6_bitCount_0f7a4 22 = .ok (.iadd, 1) := by decide +kernel
theorem dJ6_bitCount_0f7a4_23 : decode cJ6_bitCount_0f7a4 23 = .ok (.istore_n 0, 1) := by decide +kernel
theorem dJ6_bitCount_0f7a4_24 : decode cJ6_bitCount_0f7a4 24 = .ok (.iload_n 0, 1) := by decide +kernel
theorem dJ6_bitCount_0f7a4_25 : decode cJ6_bitCount_0f7a4 25 = .ok (.iload_n 0, 1) := by decide +kernel
theorem dJ6_bitCount_0f7a4_26 : decode cJ6_bitCount_0f7a4 26 = .ok (.iconst 4, 1) := by decide +kernel
theorem dJ6_bitCount_0f7a4_27 : decode cJ6_bitCount_0f7a4 27 = .ok (.iushr, 1) := by decide +kernel
theorem dJ6_bitCount_0f7a4_28 : decode cJ6_bitCount_0f7a4 28 = .ok (.iadd, 1) := by decide +kernel
theorem dJ6_bitCount_0f7a4_29 : decode cJ6_bitCount_0f7a4 29 = .ok (.ldc_w 267, 3) := by decide +kernel
theorem dJ6_bitCount_0f7a4_32 : decode cJ6_bitCount_0f7a4 32 = .ok (.iand, 1) := by decide +kernel
theorem dJ6_bitCount_0f7a4_33 : decode cJ6_bitCount_0f7a4 33 = .ok (.istore_n 0, 1) := by decide +kernel
theorem dJ6_bitCount_0f7a4_34 : decode cJ6_bitCount_0f7a4 34 = .ok (.iload_n 0, 1) := by decide +kernel
theorem dJ6_bitCount_0f7a4_35 : decode cJ6_bitCount_0f7a4 35 = .ok (.iload_n 0, 1) := by decide +kernel
theorem dJ6_bitCount_0f7a4_36 : decode cJ6_bitCount_0f7a4 36 = .ok (.bipush 8, 2) := by decide +kernel
theorem dJ6_bitCount_0f7a4_38 : decode cJ6_bitCount_0f7a4 38 = .ok (.iushr, 1) := by decide +kernel
theorem dJ6_bitCount_0f7a4_39 : decode cJ6_bitCount_0f7a4 39 = .ok (.iadd, 1) := by decide +kernel
theorem dJ6_bitCount_0f7a4_40 : decode cJ6_bitCount_0f7a4 40 = .ok (.istore_n 0, 1) := by decide +kernel
theorem dJ6_bitCount_0f7a4_41 : decode cJ6_bitCount_0f7a4 41 = .ok (.iload_n 0, 1) := by decide +kernel
theorem dJ6_bitCount_0f7a4_42 : decode cJ6_bitCount_0f7a4 42 = .ok (.iload_n 0, 1) := by decide +kernel
theorem dJ6_bitCount_0f7a4_43 : decode cJ6_bitCount_0f7a4 43 = .ok (.bipush 16, 2) := by decide +kernel
theorem dJ6_bitCount_0f7a4_45 : decode cJ6_bitCount_0f7a4 45 = .ok (.iushr, 1) := by decide +kernel
theorem dJ6_bitCount_0f7a4_46 : decode cJ6_bitCount_0f7a4 46 = .ok (.iadd, 1) := by decide +kernel
theorem dJ6_bitCount_0f7a4_47 : decode cJ6_bitCount_0f7a4 47 = .ok (.istore_n 0, 1) := by decide +kernel
theorem dJ6_bitCount_0f7a4_48 : decode cJ6_bitCount_0f7a4 48 = .ok (.iload_n 0, 1) := by decide +kernel
theorem dJ6_bitCount_0f7a4_49 : decode cJ6_bitCount_0f7a4 49 = .ok (.bipush 63, 2) := by decide +kernel
theorem dJ6_bitCount_0f7a4_51 : decode cJ6_bitCount_0f7a4 51 = .ok (.iand, 1) := by decide +kernel
theorem dJ6_bitCount_0f7a4_52 : decode cJ6_bitCount_0f7a4 52 = .ok (.ireturn, 1) := by decide +kernel
theorem dJ13_bitCount_95d88_0 : decode cJ13_bitCount_95d88 0 = .ok (.lload_n 0, 1) := by decide +kernel
theorem dJ13_bitCount_95d88_1 : decode cJ13_bitCount_95d88 1 = .ok (.lload_n 0, 1) := by decide +kernel
theorem dJ13_bitCount_95d88_2 : decode cJ13_bitCount_95d88 2 = .ok (.iconst 1, 1) := by decide +kernel
theorem dJ13_bitCount_95d88_3 : decode cJ13_bitCount_95d88 3 = .ok (.lushr, 1) := by decide +kernel
theorem dJ13_bitCount_95d88_4 : decode cJ13_bitCount_95d88 4 = .ok (.ldc2_w 314, 3) := by decide +kernel
theorem dJ13_bitCount_95d88_7 : decode cJ13_bitCount_95d88 7 = .ok (.land, 1) := by decide +kernel
theorem dJ13_bitCount_95d88_8 : decode cJ13_bitCount_95d88 8 = .ok (.lsub, 1) := by decide +kernel
theorem dJ13_bitCount_95d88_9 : decode cJ13_bitCount_95d88 9 = .ok (.lstore_n 0, 1) := by decide +kernel
theorem dJ13_bitCount_95d88_10 : decode cJ13_bitCount_95d88 10 = .ok (.lload_n 0, 1) := by decide +kernel
theorem dJ13_bitCount_95d88_11 : decode cJ13_bitCount_95d88 11 = .ok (.ldc2_w 316, 3) := by decide +kernel
theorem dJ13_bitCount_95d88_14 : decode cJ13_bitCount_95d88 14 = .ok (.land, 1) := by decide +kernel
theorem dJ13_bitCount_95d88_15 : decode cJ13_bitCount_95d88 15 = .ok (.lload_n 0, 1) := by decide +kernel
theorem dJ13_bitCount_95d88_16 : decode cJ13_bitCount_95d88 16 = .ok (.iconst 2, 1) := by decide +kernel
theorem dJ13_bitCount_95d88_17 : decode cJ13_bitCount_95d88 17 = .ok (.lushr, 1) := by decide +kernel
theorem dJ13_bitCount_95d88_18 : decode cJ13_bitCount_95d88 18 = .ok (.ldc2_w 316, 3) := by decide +kernel
theorem dJ13_bitCount_95d88_21 : decode cJ13_bitCount_95d88 21 = .ok (.land, 1) := by decide +kernel
theorem dJ13_bitCount_95d88_22 : decode cJ13_bitCount_95d88 22 = .ok (.ladd, 1) := by decide +kernel
theorem dJ13_bitCount_95d88_23 : decode cJ13_bitCount_95d88 23 = .ok (.lstore_n 0, 1) := by decide +kernel
theorem dJ13_bitCount_95d88_24 : decode cJ13_bitCount_95d88 24 = .ok (.lload_n 0, 1) := by decide +kernel
theorem dJ13_bitCount_95d88_25 : decode cJ13_bitCount_95d88 25 = .ok (.lload_n 0, 1) := by decide +kernel
theorem dJ13_bitCount_95d88_26 : decode cJ13_bitCount_95d88 26 = .ok (.iconst 4, 1) := by decide +kernel
theorem dJ13_bitCount_95d88_27 : decode cJ13_bitCount_95d88 27 = .ok (.lushr, 1) := by decide +kernel
theorem dJ13_bitCount_95d88_28 : decode cJ13_bitCount_95d88 28 = .ok (.ladd, 1) := by decide +kernel
theorem dJ13_bitCount_95d88_29 : decode cJ13_bitCount_95d88 29 = .ok (.ldc2_w 318, 3) := by decide +kernel
theorem dJ13_bitCount_95d88_32 : decode cJ13_bitCount_95d88 32 = .ok (.land, 1) := by decide +kernel
theorem dJ13_bitCount_95d88_33 : decode cJ13_bitCount_95d88 33 = .ok (.lstore_n 0, 1) := by decide +kernel
theorem dJ13_bitCount_95d88_34 : decode cJ13_bitCount_95d88 34 = .ok (.lload_n 0, 1) := by decide +kernel
theorem dJ13_bitCount_95d88_35 : decode cJ13_bitCount_95d88 35 = .ok (.lload_n 0, 1) := by decide +kernel
theorem dJ13_bitCount_95d88_36 : decode cJ13_bitCount_95d88 36 = .ok (.bipush 8, 2) := by decide +kernel
theorem dJ13_bitCount_95d88_38 : decode cJ13_bitCount_95d88 38 = .ok (.lushr, 1) := by decide +kernel
theorem dJ13_bitCount_95d88_39 : decode cJ13_bitCount_95d88 39 = .ok (.ladd, 1) := by decide +kernel
theorem dJ13_bitCount_95d88_40 : decode cJ13_bitCount_95d88 40 = .ok (.lstore_n 0, 1) := by decide +kernel
theorem dJ13_bitCount_95d88_41 : decode cJ13_bitCount_95d88 41 = .ok (.lload_n 0, 1) := by decide +kernel
theorem dJ13_bitCount_95d88_42 : decode cJ13_bitCount_95d88 42 = .ok (.lload_n 0, 1) := by decide +kernel
theorem dJ13_bitCount_95d88_43 : decode cJ13_bitCount_95d88 43 = .ok (.bipush 16, 2) := by decide +kernel
theorem dJ13_bitCount_95d88_45 : decode cJ13_bitCount_95d88 45 = .ok (.lushr, 1) := by decide +kernel
theorem dJ13_bitCount_95d88_46 : decode cJ13_bitCount_95d88 46 = .ok (.ladd, 1) := by decide +kernel
theorem dJ13_bitCount_95d88_47 : decode cJ13_bitCount_95d88 47 = .ok (.lstore_n 0, 1) := by decide +kernel
theorem dJ13_bitCount_95d88_48 : decode cJ13_bitCount_95d88 48 = .ok (.lload_n 0, 1) := by decide +kernel
theorem dJ13_bitCount_95d88_49 : decode cJ13_bitCount_95d88 49 = .ok (.lload_n 0, 1) := by decide +kernel
theorem dJ13_bitCount_95d88_50 : decode cJ13_bitCount_95d88 50 = .ok (.bipush 32, 2) := by decide +kernel
theorem dJ13_bitCount_95d88_52 : decode cJ13_bitCount_95d88 52 = .ok (.lushr, 1) := by decide +kernel
theorem dJ13_bitCount_95d88_53 : decode cJ13_bitCount_95d88 53 = .ok (.ladd, 1) := by decide +kernel
theorem dJ13_bitCount_95d88_54 : decode cJ13_bitCount_95d88 54 = .ok (.lstore_n 0, 1) := by decide +kernel
theorem dJ13_bitCount_95d88_55 : decode cJ13_bitCount_95d88 55 = .ok (.lload_n 0, 1) := by decide +kernel
theorem dJ13_bitCount_95d88_56 : decode cJ13_bitCount_95d88 56 = .ok (.l2i, 1) := by decide +kernel
theorem dJ13_bitCount_95d88_57 : decode cJ13_bitCount_95d88 57 = .ok (.bipush 127, 2) := by decide +kernel
theorem dJ13_bitCount_95d88_59 : decode cJ13_bitCount_95d88 59 = .ok (.iand, 1) := by decide +kernel
theorem dJ13_bitCount_95d88_60 : decode cJ13_bitCount_95d88 60 = .ok (.ireturn, 1) := by decide +kernel
theorem dJ9_abs_0f7a4_0 : decode cJ9_abs_0f7a4 0 = .ok (.iload_n 0, 1) := by decide +kernel
theorem dJ9_abs_0f7a4_1 : decode cJ9_abs_0f7a4 1 = .ok (.ifCond .ge 8, 3) := by decide +kernel
theorem dJ9_abs_0f7a4_4 : decode cJ9_abs_0f7a4 4 = .ok (.iload_n 0, 1) := by decide +kernel
theorem dJ9_abs_0f7a4_5 : decode cJ9_abs_0f7a4 5 = .ok (.ineg, 1) := by decide +kernel
theorem dJ9_abs_0f7a4_6 : decode cJ9_abs_0f7a4 6 = .ok (.goto 4, 3) := by decide +kernel
theorem dJ9_abs_0f7a4_9 : decode cJ9_abs_0f7a4 9 = .ok (.iload_n 0, 1) := by decide +kernel
theorem dJ9_abs_0f7a4_10 : decode cJ9_abs_0f7a4 10 = .ok (.ireturn, 1) := by decide +kernel
theorem dL_fill_0 : decode cL_fill 0 = .ok (.aload 6, 2) := by decide +kernel
theorem dL_fill_2 : decode cL_fill 2 = .ok (.iconst 0, 1) := by decide +kernel
theorem dL_fill_3 : decode cL_fill 3 = .ok (.aload_n 0, 1) := by decide +kernel
theorem dL_fill_4 : decode cL_fill 4 = .ok (.iload_n 1, 1) := by decide +kernel
theorem dL_fill_5 : decode cL_fill 5 = .ok (.iload_n 2, 1) := by decide +kernel
theorem dL_fill_6 : decode cL_fill 6 = .ok (.iload_n 3, 1) := by decide +kernel
theorem dL_fill_7 : decode cL_fill 7 = .ok (.iload 4, 2) := by decide +kernel
theorem dL_fill_9 : decode cL_fill 9 = .ok (.iload 5, 2) := by decide +kernel
theorem dL_fill_11 : decode cL_fill 11 = .ok (.invokevirtual 7, 3) := by decide +kernel
theorem dL_fill_14 : decode cL_fill 14 = .ok (.i2l, 1) := by decide +kernel
theorem dL_fill_15 : decode cL_fill 15 = .ok (.lastore, 1) := by decide +kernel
theorem dL_fill_16 : decode cL_fill 16 = .ok (.goto 11, 3) := by decide +kernel
theorem dL_fill_19 : decode cL_fill 19 = .ok (.astore 7, 2) := by decide +kernel
theorem dL_fill_21 : decode cL_fill 21 = .ok (.iconst 1, 1) := by decide +kernel
theorem dL_fill_22 : decode cL_fill 22 = .ok (.ireturn, 1) := by decide +kernel
theorem dL_fill_23 : decode cL_fill 23 = .ok (.astore 7, 2) := by decide +kernel
theorem dL_fill_25 : decode cL_fill 25 = .ok (.iconst 2, 1) := by decide +kernel
theorem dL_fill_26 : decode cL_fill 26 = .ok (.ireturn, 1) := by decide +kernel
theorem dL_fill_27 : decode cL_fill 27 = .ok (.iconst 0, 1) := by decide +kernel
theorem dL_fill_28 : decode cL_fill 28 = .ok (.ireturn, 1) := by decide +kernel
theorem dL_move_0 : decode cL_move 0 = .ok (.aload 7, 2) := by decide +kernel
theorem dL_move_2 : decode cL_move 2 = .ok (.iconst 0, 1) := by decide +kernel
theorem dL_move_3 : decode cL_move 3 = .ok (.aload_n 0, 1) := by decide +kernel
theorem dL_move_4 : decode cL_move 4 = .ok (.iload_n 1, 1) := by decide +kernel
theorem dL_move_5 : decode cL_move 5 = .ok (.iload_n 2, 1) := by decide +kernel
theorem dL_move_6 : decode cL_move 6 = .ok (.iload_n 3, 1) := by decide +kernel
theorem dL_move_7 : decode cL_move 7 = .ok (.iload 4, 2) := by decide +kernel
theorem dL_move_9 : decode cL_move 9 = .ok (.iload 5, 2) := by decide +kernel
theorem dL_move_11 : decode cL_move 11 = .ok (.iload 6, 2) := by decide +kernel
theorem dL_move_13 : decode cL_move 13 = .ok (.invokevirtual 17, 3) := by decide +kernel
theorem dL_move_16 : decode cL_move 16 = .ok (.i2l, 1) := by decide +kernel
theorem dL_move_17 : decode cL_move 17 = .ok (.lastore, 1) := by decide +kernel
theorem dL_move_18 : decode cL_move 18 = .ok (.goto 11, 3) := by decide +kernel
theorem dL_move_21 : decode cL_move 21 = .ok (.astore 8, 2) := by decide +kernel
theorem dL_move_23 : decode cL_move 23 = .ok (.iconst 1, 1) := by decide +kernel
theorem dL_move_24 : decode cL_move 24 = .ok (.ireturn, 1) := by decide +kernel
theorem dL_move_25 : decode cL_move 25 = .ok (.astore 8, 2) := by decide +kernel
theorem dL_move_27 : decode cL_move 27 = .ok (.iconst 2, 1) := by decide +kernel
theorem dL_move_28 : decode cL_move 28 = .ok (.ireturn, 1) := by decide +kernel
theorem dL_move_29 : decode cL_move 29 = .ok (.iconst 0, 1) := by decide +kernel
theorem dL_move_30 : decode cL_move 30 = .ok (.ireturn, 1) := by decide +kernel
theorem dL_look_0 : decode cL_look 0 = .ok (.aload_n 3, 1) := by decide +kernel
theorem dL_look_1 : decode cL_look 1 = .ok (.iconst 0, 1) := by decide +kernel
theorem dL_look_2 : decode cL_look 2 = .ok (.aload_n 0, 1) := by decide +kernel
theorem dL_look_3 : decode cL_look 3 = .ok (.iload_n 1, 1) := by decide +kernel
theorem dL_look_4 : decode cL_look 4 = .ok (.iload_n 2, 1) := by decide +kernel
theorem dL_look_5 : decode cL_look 5 = .ok (.invokevirtual 21, 3) := by decide +kernel
theorem dL_look_8 : decode cL_look 8 = .ok (.i2l, 1) := by decide +kernel
theorem dL_look_9 : decode cL_look 9 = .ok (.lastore, 1) := by decide +kernel
theorem dL_look_10 : decode cL_look 10 = .ok (.goto 7, 3) := by decide +kernel
theorem dL_look_13 : decode cL_look 13 = .ok (.astore 4, 2) := by decide +kernel
theorem dL_look_15 : decode cL_look 15 = .ok (.iconst 1, 1) := by decide +kernel
theorem dL_look_16 : decode cL_look 16 = .ok (.ireturn, 1) := by decide +kernel
theorem dL_look_17 : decode cL_look 17 = .ok (.iconst 0, 1) := by decide +kernel
theorem dL_look_18 : decode cL_look 18 = .ok (.ireturn, 1) := by decide +kernel
theorem dL_step_0 : decode cL_step 0 = .ok (.aload_n 2, 1) := by decide +kernel
theorem dL_step_1 : decode cL_step 1 = .ok (.iconst 0, 1) := by decide +kernel
theorem dL_step_2 : decode cL_step 2 = .ok (.aload_n 0, 1) := by decide +kernel
theorem dL_step_3 : decode cL_step 3 = .ok (.iload_n 1, 1) := by decide +kernel
theorem dL_step_4 : decode cL_step 4 = .ok (.invokevirtual 25, 3) := by decide +kernel
theorem dL_step_7 : decode cL_step 7 = .ok (.i2l, 1) := by decide +kernel
theorem dL_step_8 : decode cL_step 8 = .ok (.lastore, 1) := by decide +kernel
theorem dL_step_9 : decode cL_step 9 = .ok (.goto 6, 3) := by decide +kernel
theorem dL_step_12 : decode cL_step 12 = .ok (.astore_n 3, 1) := by decide +kernel
theorem dL_step_13 : decode cL_step 13 = .ok (.iconst 1, 1) := by decide +kernel
theorem dL_step_14 : decode cL_step 14 = .ok (.ireturn, 1) := by decide +kernel
theorem dL_step_15 : decode cL_step 15 = .ok (.iconst 0, 1) := by decide +kernel
theorem dL_step_16 : decode cL_step 16 = .ok (.ireturn, 1) := by decide +kernel
theorem dL_near_0 : decode cL_near 0 = .ok (.aload_n 3, 1) := by decide +kernel
theorem dL_near_1 : decode cL_near 1 = .ok (.iconst 0, 1) := by decide +kernel
theorem dL_near_2 : decode cL_near 2 = .ok (.aload_n 0, 1) := by decide +kernel
theorem dL_near_3 : decode cL_near 3 = .ok (.iload_n 1, 1) := by decide +kernel
theorem dL_near_4 : decode cL_near 4 = .ok (.iload_n 2, 1) := by decide +kernel
theorem dL_near_5 : decode cL_near 5 = .ok (.invokevirtual 29, 3) := by decide +kernel
theorem dL_near_8 : decode cL_near 8 = .ok (.i2l, 1) := by decide +kernel
theorem dL_near_9 : decode cL_near 9 = .ok (.lastore, 1) := by decide +kernel
theorem dL_near_10 : decode cL_near 10 = .ok (.goto 7, 3) := by decide +kernel
theorem dL_near_13 : decode cL_near 13 = .ok (.astore 4, 2) := by decide +kernel
theorem dL_near_15 : decode cL_near 15 = .ok (.iconst 1, 1) := by decide +kernel
theorem dL_near_16 : decode cL_near 16 = .ok (.ireturn, 1) := by decide +kernel
theorem dL_near_17 : decode cL_near 17 = .ok (.iconst 0, 1) := by decide +kernel
theorem dL_near_18 : decode cL_near 18 = .ok (.ireturn, 1) := by decide +kernel
theorem dL_far_0 : decode cL_far 0 = .ok (.aload_n 3, 1) := by decide +kernel
theorem dL_far_1 : decode cL_far 1 = .ok (.iconst 0, 1) := by decide +kernel
theorem dL_far_2 : decode cL_far 2 = .ok (.aload_n 0, 1) := by decide +kernel
theorem dL_far_3 : decode cL_far 3 = .ok (.iload_n 1, 1) := by decide +kernel
theorem dL_far_4 : decode cL_far 4 = .ok (.iload_n 2, 1) := by decide +kernel
theorem dL_far_5 : decode cL_far 5 = .ok (.invokevirtual 32, 3) := by decide +kernel
theorem dL_far_8 : decode cL_far 8 = .ok (.i2l, 1) := by decide +kernel
theorem dL_far_9 : decode cL_far 9 = .ok (.lastore, 1) := by decide +kernel
theorem dL_far_10 : decode cL_far 10 = .ok (.goto 7, 3) := by decide +kernel
theorem dL_far_13 : decode cL_far 13 = .ok (.astore 4, 2) := by decide +kernel
theorem dL_far_15 : decode cL_far 15 = .ok (.iconst 1, 1) := by decide +kernel
theorem dL_far_16 : decode cL_far 16 = .ok (.ireturn, 1) := by decide +kernel
theorem dL_far_17 : decode cL_far 17 = .ok (.iconst 0, 1) := by decide +kernel
theorem dL_far_18 : decode cL_far 18 = .ok (.ireturn, 1) := by decide +kernel
theorem dL_kind_0 : decode cL_kind 0 = .ok (.aload_n 3, 1) := by decide +kernel
theorem dL_kind_1 : decode cL_kind 1 = .ok (.iconst 0, 1) := by decide +kernel
theorem dL_kind_2 : decode cL_kind 2 = .ok (.aload_n 0, 1) := by decide +kernel
theorem dL_kind_3 : decode cL_kind 3 = .ok (.iload_n 1, 1) := by decide +kernel
theorem dL_kind_4 : decode cL_kind 4 = .ok (.iload_n 2, 1) := by decide +kernel
theorem dL_kind_5 : decode cL_kind 5 = .ok (.invokevirtual 35, 3) := by decide +kernel
theorem dL_kind_8 : decode cL_kind 8 = .ok (.i2l, 1) := by decide +kernel
theorem dL_kind_9 : decode cL_kind 9 = .ok (.lastore, 1) := by decide +kernel
theorem dL_kind_10 : decode cL_kind 10 = .ok (.goto 7, 3) := by decide +kernel
theorem dL_kind_13 : decode cL_kind 13 = .ok (.astore 4, 2) := by decide +kernel
theorem dL_kind_15 : decode cL_kind 15 = .ok (.iconst 1, 1) := by decide +kernel
theorem dL_kind_16 : decode cL_kind 16 = .ok (.ireturn, 1) := by decide +kernel
theorem dL_kind_17 : decode cL_kind 17 = .ok (.iconst 0, 1) := by decide +kernel
theorem dL_kind_18 : decode cL_kind 18 = .ok (.ireturn, 1) := by decide +kernel
theorem dL_since_0 : decode cL_since 0 = .ok (.aload_n 3, 1) := by decide +kernel
theorem dL_since_1 : decode cL_since 1 = .ok (.iconst 0, 1) := by decide +kernel
theorem dL_since_2 : decode cL_since 2 = .ok (.aload_n 0, 1) := by decide +kernel
theorem dL_since_3 : decode cL_since 3 = .ok (.iload_n 1, 1) := by decide +kernel
theorem dL_since_4 : decode cL_since 4 = .ok (.iload_n 2, 1) := by decide +kernel
theorem dL_since_5 : decode cL_since 5 = .ok (.invokevirtual 38, 3) := by decide +kernel
theorem dL_since_8 : decode cL_since 8 = .ok (.i2l, 1) := by decide +kernel
theorem dL_since_9 : decode cL_since 9 = .ok (.lastore, 1) := by decide +kernel
theorem dL_since_10 : decode cL_since 10 = .ok (.goto 7, 3) := by decide +kernel
theorem dL_since_13 : decode cL_since 13 = .ok (.astore 4, 2) := by decide +kernel
theorem dL_since_15 : decode cL_since 15 = .ok (.iconst 1, 1) := by decide +kernel
theorem dL_since_16 : decode cL_since 16 = .ok (.ireturn, 1) := by decide +kernel
theorem dL_since_17 : decode cL_since 17 = .ok (.iconst 0, 1) := by decide +kernel
theorem dL_since_18 : decode cL_since 18 = .ok (.ireturn, 1) := by decide +kernel
theorem dL_known_0 : decode cL_known 0 = .ok (.aload_n 2, 1) := by decide +kernel
theorem dL_known_1 : decode cL_known 1 = .ok (.iconst 0, 1) := by decide +kernel
theorem dL_known_2 : decode cL_known 2 = .ok (.aload_n 0, 1) := by decide +kernel
theorem dL_known_3 : decode cL_known 3 = .ok (.iload_n 1, 1) := by decide +kernel
theorem dL_known_4 : decode cL_known 4 = .ok (.invokevirtual 41, 3) := by decide +kernel
theorem dL_known_7 : decode cL_known 7 = .ok (.i2l, 1) := by decide +kernel
theorem dL_known_8 : decode cL_known 8 = .ok (.lastore, 1) := by decide +kernel
theorem dL_known_9 : decode cL_known 9 = .ok (.goto 6, 3) := by decide +kernel
theorem dL_known_12 : decode cL_known 12 = .ok (.astore_n 3, 1) := by decide +kernel
theorem dL_known_13 : decode cL_known 13 = .ok (.iconst 1, 1) := by decide +kernel
theorem dL_known_14 : decode cL_known 14 = .ok (.ireturn, 1) := by decide +kernel
theorem dL_known_15 : decode cL_known 15 = .ok (.iconst 0, 1) := by decide +kernel
theorem dL_known_16 : decode cL_known 16 = .ok (.ireturn, 1) := by decide +kernel
theorem dL_sent_0 : decode cL_sent 0 = .ok (.aload_n 2, 1) := by decide +kernel
theorem dL_sent_1 : decode cL_sent 1 = .ok (.iconst 0, 1) := by decide +kernel
theorem dL_sent_2 : decode cL_sent 2 = .ok (.aload_n 0, 1) := by decide +kernel
theorem dL_sent_3 : decode cL_sent 3 = .ok (.iload_n 1, 1) := by decide +kernel
theorem dL_sent_4 : decode cL_sent 4 = .ok (.invokevirtual 44, 3) := by decide +kernel
theorem dL_sent_7 : decode cL_sent 7 = .ok (.i2l, 1) := by decide +kernel
theorem dL_sent_8 : decode cL_sent 8 = .ok (.lastore, 1) := by decide +kernel
theorem dL_sent_9 : decode cL_sent 9 = .ok (.goto 6, 3) := by decide +kernel
theorem dL_sent_12 : decode cL_sent 12 = .ok (.astore_n 3, 1) := by decide +kernel
theorem dL_sent_13 : decode cL_sent 13 = .ok (.iconst 1, 1) := by decide +kernel
theorem dL_sent_14 : decode cL_sent 14 = .ok (.ireturn, 1) := by decide +kernel
theorem dL_sent_15 : decode cL_sent 15 = .ok (.iconst 0, 1) := by decide +kernel
theorem dL_sent_16 : decode cL_sent 16 = .ok (.ireturn, 1) := by decide +kernel
theorem dL_stepsToGo_0 : decode cL_stepsToGo 0 = .ok (.aload_n 2, 1) := by decide +kernel
theorem dL_stepsToGo_1 : decode cL_stepsToGo 1 = .ok (.iconst 0, 1) := by decide +kernel
theorem dL_stepsToGo_2 : decode cL_stepsToGo 2 = .ok (.aload_n 0, 1) := by decide +kernel
theorem dL_stepsToGo_3 : decode cL_stepsToGo 3 = .ok (.iload_n 1, 1) := by decide +kernel
theorem dL_stepsToGo_4 : decode cL_stepsToGo 4 = .ok (.invokevirtual 47, 3) := by decide +kernel
theorem dL_stepsToGo_7 : decode cL_stepsToGo 7 = .ok (.i2l, 1) := by decide +kernel
theorem dL_stepsToGo_8 : decode cL_stepsToGo 8 = .ok (.lastore, 1) := by decide +kernel
theorem dL_stepsToGo_9 : decode cL_stepsToGo 9 = .ok (.goto 6, 3) := by decide +kernel
theorem dL_stepsToGo_12 : decode cL_stepsToGo 12 = .ok (.astore_n 3, 1) := by decide +kernel
theorem dL_stepsToGo_13 : decode cL_stepsToGo 13 = .ok (.iconst 1, 1) := by decide +kernel
theorem dL_stepsToGo_14 : decode cL_stepsToGo 14 = .ok (.ireturn, 1) := by decide +kernel
theorem dL_stepsToGo_15 : decode cL_stepsToGo 15 = .ok (.iconst 0, 1) := by decide +kernel
theorem dL_stepsToGo_16 : decode cL_stepsToGo 16 = .ok (.ireturn, 1) := by decide +kernel
