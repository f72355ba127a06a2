theorem dX0_init_0 : decode cX0_init 0 = .ok (.aload_n 0, 1) := by decide +kernel
theorem dX0_init_1 : decode cX0_init 1 = .ok (.invokespecial 3, 3) := by decide +kernel
theorem dX0_init_4 : decode cX0_init 4 = .ok (.aload_n 0, 1) := by decide +kernel
theorem dX0_init_5 : decode cX0_init 5 = .ok (.bipush 9, 2) := by decide +kernel
theorem dX0_init_7 : decode cX0_init 7 = .ok (.anewarray 9, 3) := by decide +kernel
theorem dX0_init_10 : decode cX0_init 10 = .ok (.putfield 11, 3) := by decide +kernel
theorem dX0_init_13 : decode cX0_init 13 = .ok (.iconst 0, 1) := by decide +kernel
theorem dX0_init_14 : decode cX0_init 14 = .ok (.istore_n 1, 1) := by decide +kernel
theorem dX0_init_15 : decode cX0_init 15 = .ok (.iload_n 1, 1) := by decide +kernel
theorem dX0_init_16 : decode cX0_init 16 = .ok (.aload_n 0, 1) := by decide +kernel
theorem dX0_init_17 : decode cX0_init 17 = .ok (.getfield 11, 3) := by decide +kernel
theorem dX0_init_20 : decode cX0_init 20 = .ok (.arraylength, 1) := by decide +kernel
theorem dX0_init_21 : decode cX0_init 21 = .ok (.if_icmp .ge 22, 3) := by decide +kernel
theorem dX0_init_24 : decode cX0_init 24 = .ok (.aload_n 0, 1) := by decide +kernel
theorem dX0_init_25 : decode cX0_init 25 = .ok (.getfield 11, 3) := by decide +kernel
theorem dX0_init_28 : decode cX0_init 28 = .ok (.iload_n 1, 1) := by decide +kernel
theorem dX0_init_29 : decode cX0_init 29 = .ok (.new 9, 3) := by decide +kernel
theorem dX0_init_32 : decode cX0_init 32 = .ok (.dup, 1) := by decide +kernel
theorem dX0_init_33 : decode cX0_init 33 = .ok (.invokespecial 17, 3) := by decide +kernel
theorem dX0_init_36 : decode cX0_init 36 = .ok (.aastore, 1) := by decide +kernel
theorem dX0_init_37 : decode cX0_init 37 = .ok (.iinc 1 1, 3) := by decide +kernel
theorem dX0_init_40 : decode cX0_init 40 = .ok (.goto (-25), 3) := by decide +kernel
theorem dX0_init_43 : decode cX0_init 43 = .ok (.return_, 1) := by decide +kernel
theorem dX0_begin_0 : decode cX0_begin 0 = .ok (.aload_n 0, 1) := by decide +kernel
theorem dX0_begin_1 : decode cX0_begin 1 = .ok (.getfield 11, 3) := by decide +kernel
theorem dX0_begin_4 : decode cX0_begin 4 = .ok (.aload_n 0, 1) := by decide +kernel
theorem dX0_begin_5 : decode cX0_begin 5 = .ok (.getfield 18, 3) := by decide +kernel
theorem dX0_begin_8 : decode cX0_begin 8 = .ok (.aaload, 1) := by decide +kernel
theorem dX0_begin_9 : decode cX0_begin 9 = .ok (.aload_n 1, 1) := by decide +kernel
theorem dX0_begin_10 : decode cX0_begin 10 = .ok (.invokevirtual 22, 3) := by decide +kernel
theorem dX0_begin_13 : decode cX0_begin 13 = .ok (.return_, 1) := by decide +kernel
theorem dX0_keepBegun_0 : decode cX0_keepBegun 0 = .ok (.aload_n 0, 1) := by decide +kernel
theorem dX0_keepBegun_1 : decode cX0_keepBegun 1 = .ok (.aload_n 0, 1) := by decide +kernel
theorem dX0_keepBegun_2 : decode cX0_keepBegun 2 = .ok (.getfield 18, 3) := by decide +kernel
theorem dX0_keepBegun_5 : decode cX0_keepBegun 5 = .ok (.iconst 1, 1) := by decide +kernel
theorem dX0_keepBegun_6 : decode cX0_keepBegun 6 = .ok (.iadd, 1) := by decide +kernel
theorem dX0_keepBegun_7 : decode cX0_keepBegun 7 = .ok (.bipush 9, 2) := by decide +kernel
theorem dX0_keepBegun_9 : decode cX0_keepBegun 9 = .ok (.irem, 1) := by decide +kernel
theorem dX0_keepBegun_10 : decode cX0_keepBegun 10 = .ok (.putfield 18, 3) := by decide +kernel
theorem dX0_keepBegun_13 : decode cX0_keepBegun 13 = .ok (.aload_n 0, 1) := by decide +kernel
theorem dX0_keepBegun_14 : decode cX0_keepBegun 14 = .ok (.bipush 8, 2) := by decide +kernel
theorem dX0_keepBegun_16 : decode cX0_keepBegun 16 = .ok (.aload_n 0, 1) := by decide +kernel
theorem dX0_keepBegun_17 : decode cX0_keepBegun 17 = .ok (.getfield 26, 3) := by decide +kernel
theorem dX0_keepBegun_20 : decode cX0_keepBegun 20 = .ok (.iconst 1, 1) := by decide +kernel
theorem dX0_keepBegun_21 : decode cX0_keepBegun 21 = .ok (.iadd, 1) := by decide +kernel
theorem dX0_keepBegun_22 : decode cX0_keepBegun 22 = .ok (.invokestatic 29, 3) := by decide +kernel
theorem dX0_keepBegun_25 : decode cX0_keepBegun 25 = .ok (.putfield 26, 3) := by decide +kernel
theorem dX0_keepBegun_28 : decode cX0_keepBegun 28 = .ok (.return_, 1) := by decide +kernel
theorem dX1_init_0 : decode cX1_init 0 = .ok (.aload_n 0, 1) := by decide +kernel
theorem dX1_init_1 : decode cX1_init 1 = .ok (.invokespecial 3, 3) := by decide +kernel
theorem dX1_init_4 : decode cX1_init 4 = .ok (.aload_n 0, 1) := by decide +kernel
theorem dX1_init_5 : decode cX1_init 5 = .ok (.bipush 60, 2) := by decide +kernel
theorem dX1_init_7 : decode cX1_init 7 = .ok (.newarray .char, 2) := by decide +kernel
theorem dX1_init_9 : decode cX1_init 9 = .ok (.putfield 9, 3) := by decide +kernel
theorem dX1_init_12 : decode cX1_init 12 = .ok (.aload_n 0, 1) := by decide +kernel
theorem dX1_init_13 : decode cX1_init 13 = .ok (.bipush 11, 2) := by decide +kernel
theorem dX1_init_15 : decode cX1_init 15 = .ok (.newarray .int, 2) := by decide +kernel
theorem dX1_init_17 : decode cX1_init 17 = .ok (.putfield 15, 3) := by decide +kernel
theorem dX1_init_20 : decode cX1_init 20 = .ok (.aload_n 0, 1) := by decide +kernel
theorem dX1_init_21 : decode cX1_init 21 = .ok (.bipush 33, 2) := by decide +kernel
theorem dX1_init_23 : decode cX1_init 23 = .ok (.newarray .int, 2) := by decide +kernel
theorem dX1_init_25 : decode cX1_init 25 = .ok (.putfield 19, 3) := by decide +kernel
theorem dX1_init_28 : decode cX1_init 28 = .ok (.return_, 1) := by decide +kernel
theorem dX2_init_0 : decode cX2_init 0 = .ok (.aload_n 0, 1) := by decide +kernel
theorem dX2_init_1 : decode cX2_init 1 = .ok (.invokespecial 3, 3) := by decide +kernel
theorem dX2_init_4 : decode cX2_init 4 = .ok (.aload_n 0, 1) := by decide +kernel
theorem dX2_init_5 : decode cX2_init 5 = .ok (.iconst 3, 1) := by decide +kernel
theorem dX2_init_6 : decode cX2_init 6 = .ok (.newarray .int, 2) := by decide +kernel
theorem dX2_init_8 : decode cX2_init 8 = .ok (.putfield 9, 3) := by decide +kernel
theorem dX2_init_11 : decode cX2_init 11 = .ok (.aload_n 0, 1) := by decide +kernel
theorem dX2_init_12 : decode cX2_init 12 = .ok (.iconst 3, 1) := by decide +kernel
theorem dX2_init_13 : decode cX2_init 13 = .ok (.newarray .int, 2) := by decide +kernel
theorem dX2_init_15 : decode cX2_init 15 = .ok (.putfield 15, 3) := by decide +kernel
theorem dX2_init_18 : decode cX2_init 18 = .ok (.return_, 1) := by decide +kernel
theorem dX2_putAhead_0 : decode cX2_putAhead 0 = .ok (.iconst 2, 1) := by decide +kernel
theorem dX2_putAhead_1 : decode cX2_putAhead 1 = .ok (.istore_n 3, 1) := by decide +kernel
theorem dX2_putAhead_2 : decode cX2_putAhead 2 = .ok (.iload_n 3, 1) := by decide +kernel
theorem dX2_putAhead_3 : decode cX2_putAhead 3 = .ok (.ifCond .le 37, 3) := by decide +kernel
theorem dX2_putAhead_6 : decode cX2_putAhead 6 = .ok (.aload_n 0, 1) := by decide +kernel
theorem dX2_putAhead_7 : decode cX2_putAhead 7 = .ok (.getfield 9, 3) := by decide +kernel
theorem dX2_putAhead_10 : decode cX2_putAhead 10 = .ok (.iload_n 3, 1) := by decide +kernel
theorem dX2_putAhead_11 : decode cX2_putAhead 11 = .ok (.aload_n 0, 1) := by decide +kernel
theorem dX2_putAhead_12 : decode cX2_putAhead 12 = .ok (.getfield 9, 3) := by decide +kernel
theorem dX2_putAhead_15 : decode cX2_putAhead 15 = .ok (.iload_n 3, 1) := by decide +kernel
theorem dX2_putAhead_16 : decode cX2_putAhead 16 = .ok (.iconst 1, 1) := by decide +kernel
theorem dX2_putAhead_17 : decode cX2_putAhead 17 = .ok (.isub, 1) := by decide +kernel
theorem dX2_putAhead_18 : decode cX2_putAhead 18 = .ok (.iaload, 1) := by decide +kernel
theorem dX2_putAhead_19 : decode cX2_putAhead 19 = .ok (.iastore, 1) := by decide +kernel
theorem dX2_putAhead_20 : decode cX2_putAhead 20 = .ok (.aload_n 0, 1) := by decide +kernel
theorem dX2_putAhead_21 : decode cX2_putAhead 21 = .ok (.getfield 15, 3) := by decide +kernel
theorem dX2_putAhead_24 : decode cX2_putAhead 24 = .ok (.iload_n 3, 1) := by decide +kernel
theorem dX2_putAhead_25 : decode cX2_putAhead 25 = .ok (.aload_n 0, 1) := by decide +kernel
theorem dX2_putAhead_26 : decode cX2_putAhead 26 = .ok (.getfield 15, 3) := by decide +kernel
theorem dX2_putAhead_29 : decode cX2_putAhead 29 = .ok (.iload_n 3, 1) := by decide +kernel
theorem dX2_putAhead_30 : decode cX2_putAhead 30 = .ok (.iconst 1, 1) := by decide +kernel
theorem dX2_putAhead_31 : decode cX2_putAhead 31 = .ok (.isub, 1) := by decide +kernel
theorem dX2_putAhead_32 : decode cX2_putAhead 32 = .ok (.iaload, 1) := by decide +kernel
theorem dX2_putAhead_33 : decode cX2_putAhead 33 = .ok (.iastore, 1) := by decide +kernel
theorem dX2_putAhead_34 : decode cX2_putAhead 34 = .ok (.iinc 3 (-1), 3) := by decide +kernel
theorem dX2_putAhead_37 : decode cX2_putAhead 37 = .ok (.goto (-35), 3) := by decide +kernel
theorem dX2_putAhead_40 : decode cX2_putAhead 40 = .ok (.aload_n 0, 1) := by decide +kernel
theorem dX2_putAhead_41 : decode cX2_putAhead 41 = .ok (.getfield 9, 3) := by decide +kernel
theorem dX2_putAhead_44 : decode cX2_putAhead 44 = .ok (.iconst 0, 1) := by decide +kernel
theorem dX2_putAhead_45 : decode cX2_putAhead 45 = .ok (.iload_n 1, 1) := by decide +kernel
theorem dX2_putAhead_46 : decode cX2_putAhead 46 = .ok (.iastore, 1) := by decide +kernel
theorem dX2_putAhead_47 : decode cX2_putAhead 47 = .ok (.aload_n 0, 1) := by decide +kernel
theorem dX2_putAhead_48 : decode cX2_putAhead 48 = .ok (.getfield 15, 3) := by decide +kernel
theorem dX2_putAhead_51 : decode cX2_putAhead 51 = .ok (.iconst 0, 1) := by decide +kernel
theorem dX2_putAhead_52 : decode cX2_putAhead 52 = .ok (.iload_n 2, 1) := by decide +kernel
theorem dX2_putAhead_53 : decode cX2_putAhead 53 = .ok (.iastore, 1) := by decide +kernel
theorem dX2_putAhead_54 : decode cX2_putAhead 54 = .ok (.aload_n 0, 1) := by decide +kernel
theorem dX2_putAhead_55 : decode cX2_putAhead 55 = .ok (.iconst 3, 1) := by decide +kernel
theorem dX2_putAhead_56 : decode cX2_putAhead 56 = .ok (.aload_n 0, 1) := by decide +kernel
theorem dX2_putAhead_57 : decode cX2_putAhead 57 = .ok (.getfield 18, 3) := by decide +kernel
theorem dX2_putAhead_60 : decode cX2_putAhead 60 = .ok (.iconst 1, 1) := by decide +kernel
theorem dX2_putAhead_61 : decode cX2_putAhead 61 = .ok (.iadd, 1) := by decide +kernel
theorem dX2_putAhead_62 : decode cX2_putAhead 62 = .ok (.invokestatic 22, 3) := by decide +kernel
theorem dX2_putAhead_65 : decode cX2_putAhead 65 = .ok (.putfield 18, 3) := by decide +kernel
theorem dX2_putAhead_68 : decode cX2_putAhead 68 = .ok (.return_, 1) := by decide +kernel
theorem dX3_init_0 : decode cX3_init 0 = .ok (.aload_n 0, 1) := by decide +kernel
theorem dX3_init_1 : decode cX3_init 1 = .ok (.invokespecial 3, 3) := by decide +kernel
theorem dX3_init_4 : decode cX3_init 4 = .ok (.aload_n 0, 1) := by decide +kernel
theorem dX3_init_5 : decode cX3_init 5 = .ok (.bipush 13, 2) := by decide +kernel
theorem dX3_init_7 : decode cX3_init 7 = .ok (.newarray .int, 2) := by decide +kernel
theorem dX3_init_9 : decode cX3_init 9 = .ok (.putfield 9, 3) := by decide +kernel
theorem dX3_init_12 : decode cX3_init 12 = .ok (.aload_n 0, 1) := by decide +kernel
theorem dX3_init_13 : decode cX3_init 13 = .ok (.iconst 4, 1) := by decide +kernel
theorem dX3_init_14 : decode cX3_init 14 = .ok (.newarray .int, 2) := by decide +kernel
theorem dX3_init_16 : decode cX3_init 16 = .ok (.putfield 15, 3) := by decide +kernel
theorem dX3_init_19 : decode cX3_init 19 = .ok (.aload_n 0, 1) := by decide +kernel
theorem dX3_init_20 : decode cX3_init 20 = .ok (.iconst 4, 1) := by decide +kernel
theorem dX3_init_21 : decode cX3_init 21 = .ok (.newarray .int, 2) := by decide +kernel
theorem dX3_init_23 : decode cX3_init 23 = .ok (.putfield 18, 3) := by decide +kernel
theorem dX3_init_26 : decode cX3_init 26 = .ok (.aload_n 0, 1) := by decide +kernel
theorem dX3_init_27 : decode cX3_init 27 = .ok (.iconst 4, 1) := by decide +kernel
theorem dX3_init_28 : decode cX3_init 28 = .ok (.newarray .int, 2) := by decide +kernel
theorem dX3_init_30 : decode cX3_init 30 = .ok (.putfield 21, 3) := by decide +kernel
theorem dX3_init_33 : decode cX3_init 33 = .ok (.aload_n 0, 1) := by decide +kernel
theorem dX3_init_34 : decode cX3_init 34 = .ok (.bipush 6, 2) := by decide +kernel
theorem dX3_init_36 : decode cX3_init 36 = .ok (.newarray .int, 2) := by decide +kernel
theorem dX3_init_38 : decode cX3_init 38 = .ok (.putfield 24, 3) := by decide +kernel
theorem dX3_init_41 : decode cX3_init 41 = .ok (.aload_n 0, 1) := by decide +kernel
theorem dX3_init_42 : decode cX3_init 42 = .ok (.bipush 10, 2) := by decide +kernel
theorem dX3_init_44 : decode cX3_init 44 = .ok (.newarray .int, 2) := by decide +kernel
theorem dX3_init_46 : decode cX3_init 46 = .ok (.putfield 27, 3) := by decide +kernel
theorem dX3_init_49 : decode cX3_init 49 = .ok (.aload_n 0, 1) := by decide +kernel
theorem dX3_init_50 : decode cX3_init 50 = .ok (.bipush 10, 2) := by decide +kernel
theorem dX3_init_52 : decode cX3_init 52 = .ok (.newarray .int, 2) := by decide +kernel
theorem dX3_init_54 : decode cX3_init 54 = .ok (.putfield 30, 3) := by decide +kernel
theorem dX3_init_57 : decode cX3_init 57 = .ok (.aload_n 0, 1) := by decide +kernel
theorem dX3_init_58 : decode cX3_init 58 = .ok (.bipush 10, 2) := by decide +kernel
theorem dX3_init_60 : decode cX3_init 60 = .ok (.newarray .int, 2) := by decide +kernel
theorem dX3_init_62 : decode cX3_init 62 = .ok (.putfield 33, 3) := by decide +kernel
theorem dX3_init_65 : decode cX3_init 65 = .ok (.aload_n 0, 1) := by decide +kernel
theorem dX3_init_66 : decode cX3_init 66 = .ok (.bipush 10, 2) := by decide +kernel
theorem dX3_init_68 : decode cX3_init 68 = .ok (.newarray .int, 2) := by decide +kernel
theorem dX3_init_70 : decode cX3_init 70 = .ok (.putfield 36, 3) := by decide +kernel
theorem dX3_init_73 : decode cX3_init 73 = .ok (.aload_n 0, 1) := by decide +kernel
theorem dX3_init_74 : decode cX3_init 74 = .ok (.bipush 10, 2) := by decide +kernel
theorem dX3_init_76 : decode cX3_init 76 = .ok (.newarray .int, 2) := by decide +kernel
theorem dX3_init_78 : decode cX3_init 78 = .ok (.putfield 39, 3) := by decide +kernel
theorem dX3_init_81 : decode cX3_init 81 = .ok (.aload_n 0, 1) := by decide +kernel
theorem dX3_init_82 : decode cX3_init 82 = .ok (.bipush 10, 2) := by decide +kernel
theorem dX3_init_84 : decode cX3_init 84 = .ok (.newarray .int, 2) := by decide +kernel
theorem dX3_init_86 : decode cX3_init 86 = .ok (.putfield 42, 3) := by decide +kernel
theorem dX3_init_89 : decode cX3_init 89 = .ok (.aload_n 0, 1) := by decide +kernel
theorem dX3_init_90 : decode cX3_init 90 = .ok (.bipush 10, 2) := by decide +kernel
theorem dX3_init_92 : decode cX3_init 92 = .ok (.newarray .int, 2) := by decide +kernel
theorem dX3_init_94 : decode cX3_init 94 = .ok (.putfield 45, 3) := by decide +kernel
theorem dX3_init_97 : decode cX3_init 97 = .ok (.aload_n 0, 1) := by decide +kernel
theorem dX3_init_98 : decode cX3_init 98 = .ok (.bipush 10, 2) := by decide +kernel
theorem dX3_init_100 : decode cX3_init 100 = .ok (.newarray .int, 2) := by decide +kernel
theorem dX3_init_102 : decode cX3_init 102 = .ok (.putfield 48, 3) := by decide +kernel
theorem dX3_init_105 : decode cX3_init 105 = .ok (.aload_n 0, 1) := by decide +kernel
theorem dX3_init_106 : decode cX3_init 106 = .ok (.bipush 10, 2) := by decide +kernel
theorem dX3_init_108 : decode cX3_init 108 = .ok (.newarray .int, 2) := by decide +kernel
theorem dX3_init_110 : decode cX3_init 110 = .ok (.putfield 51, 3) := by decide +kernel
theorem dX3_init_113 : decode cX3_init 113 = .ok (.aload_n 0, 1) := by decide +kernel
theorem dX3_init_114 : decode cX3_init 114 = .ok (.getfield 9, 3) := by decide +kernel
theorem dX3_init_117 : decode cX3_init 117 = .ok (.iconst (-1), 1) := by decide +kernel
theorem dX3_init_118 : decode cX3_init 118 = .ok (.invokestatic 54, 3) := by decide +kernel
theorem dX3_init_121 : decode cX3_init 121 = .ok (.return_, 1) := by decide +kernel
theorem dX3_copyFrom_0 : decode cX3_copyFrom 0 = .ok (.aload_n 1, 1) := by decide +kernel
theorem dX3_copyFrom_1 : decode cX3_copyFrom 1 = .ok (.getfield 9, 3) := by decide +kernel
theorem dX3_copyFrom_4 : decode cX3_copyFrom 4 = .ok (.aload_n 0, 1) := by decide +kernel
theorem dX3_copyFrom_5 : decode cX3_copyFrom 5 = .ok (.getfield 9, 3) := by decide +kernel
theorem dX3_copyFrom_8 : decode cX3_copyFrom 8 = .ok (.invokestatic 60, 3) := by decide +kernel
theorem dX3_copyFrom_11 : decode cX3_copyFrom 11 = .ok (.aload_n 1, 1) := by decide +kernel
theorem dX3_copyFrom_12 : decode cX3_copyFrom 12 = .ok (.getfield 15, 3) := by decide +kernel
theorem dX3_copyFrom_15 : decode cX3_copyFrom 15 = .ok (.aload_n 0, 1) := by decide +kernel
theorem dX3_copyFrom_16 : decode cX3_copyFrom 16 = .ok (.getfield 15, 3) := by decide +kernel
theorem dX3_copyFrom_19 : decode cX3_copyFrom 19 = .ok (.invokestatic 60, 3) := by decide +kernel
theorem dX3_copyFrom_22 : decode cX3_copyFrom 22 = .ok (.aload_n 1, 1) := by decide +kernel
theorem dX3_copyFrom_23 : decode cX3_copyFrom 23 = .ok (.getfield 18, 3) := by decide +kernel
theorem dX3_copyFrom_26 : decode cX3_copyFrom 26 = .ok (.aload_n 0, 1) := by decide +kernel
theorem dX3_copyFrom_27 : decode cX3_copyFrom 27 = .ok (.getfield 18, 3) := by decide +kernel
theorem dX3_copyFrom_30 : decode cX3_copyFrom 30 = .ok (.invokestatic 60, 3) := by decide +kernel
theorem dX3_copyFrom_33 : decode cX3_copyFrom 33 = .ok (.aload_n 1, 1) := by decide +kernel
theorem dX3_copyFrom_34 : decode cX3_copyFrom 34 = .ok (.getfield 21, 3) := by decide +kernel
theorem dX3_copyFrom_37 : decode cX3_copyFrom 37 = .ok (.aload_n 0, 1) := by decide +kernel
theorem dX3_copyFrom_38 : decode cX3_copyFrom 38 = .ok (.getfield 21, 3) := by decide +kernel
theorem dX3_copyFrom_41 : decode cX3_copyFrom 41 = .ok (.invokestatic 60, 3) := by decide +kernel
theorem dX3_copyFrom_44 : decode cX3_copyFrom 44 = .ok (.aload_n 1, 1) := by decide +kernel
theorem dX3_copyFrom_45 : decode cX3_copyFrom 45 = .ok (.getfield 24, 3) := by decide +kernel
theorem dX3_copyFrom_48 : decode cX3_copyFrom 48 = .ok (.aload_n 0, 1) := by decide +kernel
theorem dX3_copyFrom_49 : decode cX3_copyFrom 49 = .ok (.getfield 24, 3) := by decide +kernel
theorem dX3_copyFrom_52 : decode cX3_copyFrom 52 = .ok (.invokestatic 60, 3) := by decide +kernel
theorem dX3_copyFrom_55 : decode cX3_copyFrom 55 = .ok (.aload_n 1, 1) := by decide +kernel
theorem dX3_copyFrom_56 : decode cX3_copyFrom 56 = .ok (.getfield 27, 3) := by decide +kernel
theorem dX3_copyFrom_59 : decode cX3_copyFrom 59 = .ok (.aload_n 0, 1) := by decide +kernel
theorem dX3_copyFrom_60 : decode cX3_copyFrom 60 = .ok (.getfield 27, 3) := by decide +kernel
theorem dX3_copyFrom_63 : decode cX3_copyFrom 63 = .ok (.invokestatic 60, 3) := by decide +kernel
theorem dX3_copyFrom_66 : decode cX3_copyFrom 66 = .ok (.aload_n 1, 1) := by decide +kernel
theorem dX3_copyFrom_67 : decode cX3_copyFrom 67 = .ok (.getfield 30, 3) := by decide +kernel
theorem dX3_copyFrom_70 : decode cX3_copyFrom 70 = .ok (.aload_n 0, 1) := by decide +kernel
theorem dX3_copyFrom_71 : decode cX3_copyFrom 71 = .ok (.getfield 30, 3) := by decide +kernel
theorem dX3_copyFrom_74 : decode cX3_copyFrom 74 = .ok (.invokestatic 60, 3) := by decide +kernel
theorem dX3_copyFrom_77 : decode cX3_copyFrom 77 = .ok (.aload_n 1, 1) := by decide +kernel
theorem dX3_copyFrom_78 : decode cX3_copyFrom 78 = .ok (.getfield 33, 3) := by decide +kernel
theorem dX3_copyFrom_81 : decode cX3_copyFrom 81 = .ok (.aload_n 0, 1) := by decide +kernel
theorem dX3_copyFrom_82 : decode cX3_copyFrom 82 = .ok (.getfield 33, 3) := by decide +kernel
theorem dX3_copyFrom_85 : decode cX3_copyFrom 85 = .ok (.invokestatic 60, 3) := by decide +kernel
theorem dX3_copyFrom_88 : decode cX3_copyFrom 88 = .ok (.aload_n 1, 1) := by decide +kernel
theorem dX3_copyFrom_89 : decode cX3_copyFrom 89 = .ok (.getfield 36, 3) := by decide +kernel
theorem dX3_copyFrom_92 : decode cX3_copyFrom 92 = .ok (.aload_n 0, 1) := by decide +kernel
theorem dX3_copyFrom_93 : decode cX3_copyFrom 93 = .ok (.getfield 36, 3) := by decide +kernel
theorem dX3_copyFrom_96 : decode cX3_copyFrom 96 = .ok (.invokestatic 60, 3) := by decide +kernel
theorem dX3_copyFrom_99 : decode cX3_copyFrom 99 = .ok (.aload_n 1, 1) := by decide +kernel
theorem dX3_copyFrom_100 : decode cX3_copyFrom 100 = .ok (.getfield 39, 3) := by decide +kernel
theorem dX3_copyFrom_103 : decode cX3_copyFrom 103 = .ok (.aload_n 0, 1) := by decide +kernel
theorem dX3_copyFrom_104 : decode cX3_copyFrom 104 = .ok (.getfield 39, 3) := by decide +kernel
theorem dX3_copyFrom_107 : decode cX3_copyFrom 107 = .ok (.invokestatic 60, 3) := by decide +kernel
theorem dX3_copyFrom_110 : decode cX3_copyFrom 110 = .ok (.aload_n 1, 1) := by decide +kernel
theorem dX3_copyFrom_111 : decode cX3_copyFrom 111 = .ok (.getfield 42, 3) := by decide +kernel
theorem dX3_copyFrom_114 : decode cX3_copyFrom 114 = .ok (.aload_n 0, 1) := by decide +kernel
theorem dX3_copyFrom_115 : decode cX3_copyFrom 115 = .ok (.getfield 42, 3) := by decide +kernel
theorem dX3_copyFrom_118 : decode cX3_copyFrom 118 = .ok (.invokestatic 60, 3) := by decide +kernel
theorem dX3_copyFrom_121 : decode cX3_copyFrom 121 = .ok (.aload_n 1, 1) := by decide +kernel
theorem dX3_copyFrom_122 : decode cX3_copyFrom 122 = .ok (.getfield 45, 3) := by decide +kernel
theorem dX3_copyFrom_125 : decode cX3_copyFrom 125 = .ok (.aload_n 0, 1) := by decide +kernel
theorem dX3_copyFrom_126 : decode cX3_copyFrom 126 = .ok (.getfield 45, 3) := by decide +kernel
theorem dX3_copyFrom_129 : decode cX3_copyFrom 129 = .ok (.invokestatic 60, 3) := by decide +kernel
theorem dX3_copyFrom_132 : decode cX3_copyFrom 132 = .ok (.aload_n 1, 1) := by decide +kernel
theorem dX3_copyFrom_133 : decode cX3_copyFrom 133 = .ok (.getfield 48, 3) := by decide +kernel
theorem dX3_copyFrom_136 : decode cX3_copyFrom 136 = .ok (.aload_n 0, 1) := by decide +kernel
theorem dX3_copyFrom_137 : decode cX3_copyFrom 137 = .ok (.getfield 48, 3) := by decide +kernel
theorem dX3_copyFrom_140 : decode cX3_copyFrom 140 = .ok (.invokestatic 60, 3) := by decide +kernel
theorem dX3_copyFrom_143 : decode cX3_copyFrom 143 = .ok (.aload_n 1, 1) := by decide +kernel
theorem dX3_copyFrom_144 : decode cX3_copyFrom 144 = .ok (.getfield 51, 3) := by decide +kernel
theorem dX3_copyFrom_147 : decode cX3_copyFrom 147 = .ok (.aload_n 0, 1) := by decide +kernel
theorem dX3_copyFrom_148 : decode cX3_copyFrom 148 = .ok (.getfield 51, 3) := by decide +kernel
theorem dX3_copyFrom_151 : decode cX3_copyFrom 151 = .ok (.invokestatic 60, 3) := by decide +kernel
theorem dX3_copyFrom_154 : decode cX3_copyFrom 154 = .ok (.aload_n 0, 1) := by decide +kernel
theorem dX3_copyFrom_155 : decode cX3_copyFrom 155 = .ok (.aload_n 1, 1) := by decide +kernel
theorem dX3_copyFrom_156 : decode cX3_copyFrom 156 = .ok (.getfield 64, 3) := by decide +kernel
theorem dX3_copyFrom_159 : decode cX3_copyFrom 159 = .ok (.putfield 64, 3) := by decide +kernel
theorem dX3_copyFrom_162 : decode cX3_copyFrom 162 = .ok (.aload_n 0, 1) := by decide +kernel
theorem dX3_copyFrom_163 : decode cX3_copyFrom 163 = .ok (.aload_n 1, 1) := by decide +kernel
theorem dX3_copyFrom_164 : decode cX3_copyFrom 164 = .ok (.getfield 68, 3) := by decide +kernel
theorem dX3_copyFrom_167 : decode cX3_copyFrom 167 = .ok (.putfield 68, 3) := by decide +kernel
theorem dX3_copyFrom_170 : decode cX3_copyFrom 170 = .ok (.aload_n 0, 1) := by decide +kernel
theorem dX3_copyFrom_171 : decode cX3_copyFrom 171 = .ok (.aload_n 1, 1) := by decide +kernel
theorem dX3_copyFrom_172 : decode cX3_copyFrom 172 = .ok (.getfield 71, 3) := by decide +kernel
theorem dX3_copyFrom_175 : decode cX3_copyFrom 175 = .ok (.putfield 71, 3) := by decide +kernel
theorem dX3_copyFrom_178 : decode cX3_copyFrom 178 = .ok (.aload_n 0, 1) := by decide +kernel
theorem dX3_copyFrom_179 : decode cX3_copyFrom 179 = .ok (.aload_n 1, 1) := by decide +kernel
theorem dX3_copyFrom_180 : decode cX3_copyFrom 180 = .ok (.getfield 74, 3) := by decide +kernel
theorem dX3_copyFrom_183 : decode cX3_copyFrom 183 = .ok (.putfield 74, 3) := by decide +kernel
theorem dX3_copyFrom_186 : decode cX3_copyFrom 186 = .ok (.return_, 1) := by decide +kernel
theorem dX3_copyRow_0 : decode cX3_copyRow 0 = .ok (.aload_n 0, 1) := by decide +kernel
theorem dX3_copyRow_1 : decode cX3_copyRow 1 = .ok (.iconst 0, 1) := by decide +kernel
theorem dX3_copyRow_2 : decode cX3_copyRow 2 = .ok (.aload_n 1, 1) := by decide +kernel
theorem dX3_copyRow_3 : decode cX3_copyRow 3 = .ok (.iconst 0, 1) := by decide +kernel
theorem dX3_copyRow_4 : decode cX3_copyRow 4 = .ok (.aload_n 0, 1) := by decide +kernel
theorem dX3_copyRow_5 : decode cX3_copyRow 5 = .ok (.arraylength, 1) := by decide +kernel
theorem dX3_copyRow_6 : decode cX3_copyRow 6 = .ok (.aload_n 1, 1) := by decide +kernel
theorem dX3_copyRow_7 : decode cX3_copyRow 7 = .ok (.arraylength, 1) := by decide +kernel
theorem dX3_copyRow_8 : decode cX3_copyRow 8 = .ok (.invokestatic 77, 3) := by decide +kernel
theorem dX3_copyRow_11 : decode cX3_copyRow 11 = .ok (.invokestatic 83, 3) := by decide +kernel
theorem dX3_copyRow_14 : decode cX3_copyRow 14 = .ok (.return_, 1) := by decide +kernel
theorem dX3_addKettle_0 : decode cX3_addKettle 0 = .ok (.aload_n 0, 1) := by decide +kernel
theorem dX3_addKettle_1 : decode cX3_addKettle 1 = .ok (.getfield 64, 3) := by decide +kernel
theorem dX3_addKettle_4 : decode cX3_addKettle 4 = .ok (.istore 4, 2) := by decide +kernel
theorem dX3_addKettle_6 : decode cX3_addKettle 6 = .ok (.aload_n 0, 1) := by decide +kernel
theorem dX3_addKettle_7 : decode cX3_addKettle 7 = .ok (.getfield 27, 3) := by decide +kernel
theorem dX3_addKettle_10 : decode cX3_addKettle 10 = .ok (.iload 4, 2) := by decide +kernel
theorem dX3_addKettle_12 : decode cX3_addKettle 12 = .ok (.iload_n 1, 1) := by decide +kernel
theorem dX3_addKettle_13 : decode cX3_addKettle 13 = .ok (.iastore, 1) := by decide +kernel
theorem dX3_addKettle_14 : decode cX3_addKettle 14 = .ok (.aload_n 0, 1) := by decide +kernel
theorem dX3_addKettle_15 : decode cX3_addKettle 15 = .ok (.getfield 30, 3) := by decide +kernel
theorem dX3_addKettle_18 : decode cX3_addKettle 18 = .ok (.iload 4, 2) := by decide +kernel
theorem dX3_addKettle_20 : decode cX3_addKettle 20 = .ok (.iload_n 2, 1) := by decide +kernel
theorem dX3_addKettle_21 : decode cX3_addKettle 21 = .ok (.iastore, 1) := by decide +kernel
theorem dX3_addKettle_22 : decode cX3_addKettle 22 = .ok (.aload_n 0, 1) := by decide +kernel
theorem dX3_addKettle_23 : decode cX3_addKettle 23 = .ok (.getfield 33, 3) := by decide +kernel
theorem dX3_addKettle_26 : decode cX3_addKettle 26 = .ok (.iload 4, 2) := by decide +kernel
theorem dX3_addKettle_28 : decode cX3_addKettle 28 = .ok (.iload_n 3, 1) := by decide +kernel
theorem dX3_addKettle_29 : decode cX3_addKettle 29 = .ok (.iastore, 1) := by decide +kernel
theorem dX3_addKettle_30 : decode cX3_addKettle 30 = .ok (.aload_n 0, 1) := by decide +kernel
theorem dX3_addKettle_31 : decode cX3_addKettle 31 = .ok (.getfield 36, 3) := by decide +kernel
theorem dX3_addKettle_34 : decode cX3_addKettle 34 = .ok (.iload 4, 2) := by decide +kernel
theorem dX3_addKettle_36 : decode cX3_addKettle 36 = .ok (.bipush 20, 2) := by decide +kernel
theorem dX3_addKettle_38 : decode cX3_addKettle 38 = .ok (.iastore, 1) := by decide +kernel
theorem dX3_addKettle_39 : decode cX3_addKettle 39 = .ok (.aload_n 0, 1) := by decide +kernel
theorem dX3_addKettle_40 : decode cX3_addKettle 40 = .ok (.getfield 39, 3) := by decide +kernel
theorem dX3_addKettle_43 : decode cX3_addKettle 43 = .ok (.iload 4, 2) := by decide +kernel
theorem dX3_addKettle_45 : decode cX3_addKettle 45 = .ok (.iconst (-1), 1) := by decide +kernel
theorem dX3_addKettle_46 : decode cX3_addKettle 46 = .ok (.iastore, 1) := by decide +kernel
theorem dX3_addKettle_47 : decode cX3_addKettle 47 = .ok (.aload_n 0, 1) := by decide +kernel
theorem dX3_addKettle_48 : decode cX3_addKettle 48 = .ok (.getfield 42, 3) := by decide +kernel
theorem dX3_addKettle_51 : decode cX3_addKettle 51 = .ok (.iload 4, 2) := by decide +kernel
theorem dX3_addKettle_53 : decode cX3_addKettle 53 = .ok (.iconst 0, 1) := by decide +kernel
theorem dX3_addKettle_54 : decode cX3_addKettle 54 = .ok (.iastore, 1) := by decide +kernel
theorem dX3_addKettle_55 : decode cX3_addKettle 55 = .ok (.aload_n 0, 1) := by decide +kernel
theorem dX3_addKettle_56 : decode cX3_addKettle 56 = .ok (.getfield 45, 3) := by decide +kernel
theorem dX3_addKettle_59 : decode cX3_addKettle 59 = .ok (.iload 4, 2) := by decide +kernel
theorem dX3_addKettle_61 : decode cX3_addKettle 61 = .ok (.iconst 1, 1) := by decide +kernel
theorem dX3_addKettle_62 : decode cX3_addKettle 62 = .ok (.iastore, 1) := by decide +kernel
theorem dX3_addKettle_63 : decode cX3_addKettle 63 = .ok (.aload_n 0, 1) := by decide +kernel
theorem dX3_addKettle_64 : decode cX3_addKettle 64 = .ok (.getfield 48, 3) := by decide +kernel
theorem dX3_addKettle_67 : decode cX3_addKettle 67 = .ok (.iload 4, 2) := by decide +kernel
theorem dX3_addKettle_69 : decode cX3_addKettle 69 = .ok (.iconst 0, 1) := by decide +kernel
theorem dX3_addKettle_70 : decode cX3_addKettle 70 = .ok (.iastore, 1) := by decide +kernel
theorem dX3_addKettle_71 : decode cX3_addKettle 71 = .ok (.aload_n 0, 1) := by decide +kernel
theorem dX3_addKettle_72 : decode cX3_addKettle 72 = .ok (.getfield 51, 3) := by decide +kernel
theorem dX3_addKettle_75 : decode cX3_addKettle 75 = .ok (.iload 4, 2) := by decide +kernel
theorem dX3_addKettle_77 : decode cX3_addKettle 77 = .ok (.iconst 0, 1) := by decide +kernel
theorem dX3_addKettle_78 : decode cX3_addKettle 78 = .ok (.iastore, 1) := by decide +kernel
theorem dX3_addKettle_79 : decode cX3_addKettle 79 = .ok (.aload_n 0, 1) := by decide +kernel
theorem dX3_addKettle_80 : decode cX3_addKettle 80 = .ok (.dup, 1) := by decide +kernel
theorem dX3_addKettle_81 : decode cX3_addKettle 81 = .ok (.getfield 64, 3) := by decide +kernel
theorem dX3_addKettle_84 : decode cX3_addKettle 84 = .ok (.iconst 1, 1) := by decide +kernel
theorem dX3_addKettle_85 : decode cX3_addKettle 85 = .ok (.iadd, 1) := by decide +kernel
theorem dX3_addKettle_86 : decode cX3_addKettle 86 = .ok (.putfield 64, 3) := by decide +kernel
theorem dX3_addKettle_89 : decode cX3_addKettle 89 = .ok (.aload_n 0, 1) := by decide +kernel
theorem dX3_addKettle_90 : decode cX3_addKettle 90 = .ok (.dup, 1) := by decide +kernel
theorem dX3_addKettle_91 : decode cX3_addKettle 91 = .ok (.getfield 71, 3) := by decide +kernel
theorem dX3_addKettle_94 : decode cX3_addKettle 94 = .ok (.iload_n 3, 1) := by decide +kernel
theorem dX3_addKettle_95 : decode cX3_addKettle 95 = .ok (.iadd, 1) := by decide +kernel
theorem dX3_addKettle_96 : decode cX3_addKettle 96 = .ok (.putfield 71, 3) := by decide +kernel
theorem dX3_addKettle_99 : decode cX3_addKettle 99 = .ok (.iload 4, 2) := by decide +kernel
theorem dX3_addKettle_101 : decode cX3_addKettle 101 = .ok (.ireturn, 1) := by decide +kernel
theorem dX3_barLid_0 : decode cX3_barLid 0 = .ok (.aload_n 0, 1) := by decide +kernel
theorem dX3_barLid_1 : decode cX3_barLid 1 = .ok (.getfield 45, 3) := by decide +kernel
theorem dX3_barLid_4 : decode cX3_barLid 4 = .ok (.iload_n 1, 1) := by decide +kernel
theorem dX3_barLid_5 : decode cX3_barLid 5 = .ok (.iconst 0, 1) := by decide +kernel
theorem dX3_barLid_6 : decode cX3_barLid 6 = .ok (.iastore, 1) := by decide +kernel
theorem dX3_barLid_7 : decode cX3_barLid 7 = .ok (.aload_n 0, 1) := by decide +kernel
theorem dX3_barLid_8 : decode cX3_barLid 8 = .ok (.getfield 48, 3) := by decide +kernel
theorem dX3_barLid_11 : decode cX3_barLid 11 = .ok (.iload_n 1, 1) := by decide +kernel
theorem dX3_barLid_12 : decode cX3_barLid 12 = .ok (.iconst 1, 1) := by decide +kernel
theorem dX3_barLid_13 : decode cX3_barLid 13 = .ok (.iastore, 1) := by decide +kernel
theorem dX3_barLid_14 : decode cX3_barLid 14 = .ok (.aload_n 0, 1) := by decide +kernel
theorem dX3_barLid_15 : decode cX3_barLid 15 = .ok (.getfield 51, 3) := by decide +kernel
theorem dX3_barLid_18 : decode cX3_barLid 18 = .ok (.iload_n 1, 1) := by decide +kernel
theorem dX3_barLid_19 : decode cX3_barLid 19 = .ok (.iconst 0, 1) := by decide +kernel
theorem dX3_barLid_20 : decode cX3_barLid 20 = .ok (.iastore, 1) := by decide +kernel
theorem dX3_barLid_21 : decode cX3_barLid 21 = .ok (.return_, 1) := by decide +kernel
theorem dX3_passMinute_0 : decode cX3_passMinute 0 = .ok (.iconst 0, 1) := by decide +kernel
theorem dX3_passMinute_1 : decode cX3_passMinute 1 = .ok (.istore_n 1, 1) := by decide +kernel
theorem dX3_passMinute_2 : decode cX3_passMinute 2 = .ok (.iconst 0, 1) := by decide +kernel
theorem dX3_passMinute_3 : decode cX3_passMinute 3 = .ok (.istore_n 2, 1) := by decide +kernel
theorem dX3_passMinute_4 : decode cX3_passMinute 4 = .ok (.iload_n 2, 1) := by decide +kernel
theorem dX3_passMinute_5 : decode cX3_passMinute 5 = .ok (.aload_n 0, 1) := by decide +kernel
theorem dX3_passMinute_6 : decode cX3_passMinute 6 = .ok (.getfield 64, 3) := by decide +kernel
theorem dX3_passMinute_9 : decode cX3_passMinute 9 = .ok (.if_icmp .ge 20, 3) := by decide +kernel
theorem dX3_passMinute_12 : decode cX3_passMinute 12 = .ok (.aload_n 0, 1) := by decide +kernel
theorem dX3_passMinute_13 : decode cX3_passMinute 13 = .ok (.iload_n 2, 1) := by decide +kernel
theorem dX3_passMinute_14 : decode cX3_passMinute 14 = .ok (.invokevirtual 89, 3) := by decide +kernel
theorem dX3_passMinute_17 : decode cX3_passMinute 17 = .ok (.ifCond .eq 6, 3) := by decide +kernel
theorem dX3_passMinute_20 : decode cX3_passMinute 20 = .ok (.iinc 1 1, 3) := by decide +kernel
theorem dX3_passMinute_23 : decode cX3_passMinute 23 = .ok (.iinc 2 1, 3) := by decide +kernel
theorem dX3_passMinute_26 : decode cX3_passMinute 26 = .ok (.goto (-22), 3) := by decide +kernel
theorem dX3_passMinute_29 : decode cX3_passMinute 29 = .ok (.aload_n 0, 1) := by decide +kernel
theorem dX3_passMinute_30 : decode cX3_passMinute 30 = .ok (.dup, 1) := by decide +kernel
theorem dX3_passMinute_31 : decode cX3_passMinute 31 = .ok (.getfield 68, 3) := by decide +kernel
theorem dX3_passMinute_34 : decode cX3_passMinute 34 = .ok (.iconst 1, 1) := by decide +kernel
theorem dX3_passMinute_35 : decode cX3_passMinute 35 = .ok (.iadd, 1) := by decide +kernel
theorem dX3_passMinute_36 : decode cX3_passMinute 36 = .ok (.putfield 68, 3) := by decide +kernel
theorem dX3_passMinute_39 : decode cX3_passMinute 39 = .ok (.iload_n 1, 1) := by decide +kernel
theorem dX3_passMinute_40 : decode cX3_passMinute 40 = .ok (.ireturn, 1) := by decide +kernel
theorem dX3_passMinuteOver_0 : decode cX3_passMinuteOver 0 = .ok (.aload_n 0, 1) := by decide +kernel
theorem dX3_passMinuteOver_1 : decode cX3_passMinuteOver 1 = .ok (.iload_n 1, 1) := by decide +kernel
theorem dX3_passMinuteOver_2 : decode cX3_passMinuteOver 2 = .ok (.invokevirtual 93, 3) := by decide +kernel
theorem dX3_passMinuteOver_5 : decode cX3_passMinuteOver 5 = .ok (.istore_n 2, 1) := by decide +kernel
theorem dX3_passMinuteOver_6 : decode cX3_passMinuteOver 6 = .ok (.iload_n 2, 1) := by decide +kernel
theorem dX3_passMinuteOver_7 : decode cX3_passMinuteOver 7 = .ok (.ifCond .eq 32, 3) := by decide +kernel
theorem dX3_passMinuteOver_10 : decode cX3_passMinuteOver 10 = .ok (.aload_n 0, 1) := by decide +kernel
theorem dX3_passMinuteOver_11 : decode cX3_passMinuteOver 11 = .ok (.getfield 33, 3) := by decide +kernel
theorem dX3_passMinuteOver_14 : decode cX3_passMinuteOver 14 = .ok (.iload_n 1, 1) := by decide +kernel
theorem dX3_passMinuteOver_15 : decode cX3_passMinuteOver 15 = .ok (.iaload, 1) := by decide +kernel
theorem dX3_passMinuteOver_16 : decode cX3_passMinuteOver 16 = .ok (.ifCond .le 23, 3) := by decide +kernel
theorem dX3_passMinuteOver_19 : decode cX3_passMinuteOver 19 = .ok (.aload_n 0, 1) := by decide +kernel
theorem dX3_passMinuteOver_20 : decode cX3_passMinuteOver 20 = .ok (.getfield 33, 3) := by decide +kernel
theorem dX3_passMinuteOver_23 : decode cX3_passMinuteOver 23 = .ok (.iload_n 1, 1) := by decide +kernel
theorem dX3_passMinuteOver_24 : decode cX3_passMinuteOver 24 = .ok (.dup2, 1) := by decide +kernel
theorem dX3_passMinuteOver_25 : decode cX3_passMinuteOver 25 = .ok (.iaload, 1) := by decide +kernel
theorem dX3_passMinuteOver_26 : decode cX3_passMinuteOver 26 = .ok (.iconst 1, 1) := by decide +kernel
theorem dX3_passMinuteOver_27 : decode cX3_passMinuteOver 27 = .ok (.isub, 1) := by decide +kernel
theorem dX3_passMinuteOver_28 : decode cX3_passMinuteOver 28 = .ok (.iastore, 1) := by decide +kernel
theorem dX3_passMinuteOver_29 : decode cX3_passMinuteOver 29 = .ok (.aload_n 0, 1) := by decide +kernel
theorem dX3_passMinuteOver_30 : decode cX3_passMinuteOver 30 = .ok (.dup, 1) := by decide +kernel
theorem dX3_passMinuteOver_31 : decode cX3_passMinuteOver 31 = .ok (.getfield 74, 3) := by decide +kernel
theorem dX3_passMinuteOver_34 : decode cX3_passMinuteOver 34 = .ok (.iconst 1, 1) := by decide +kernel
theorem dX3_passMinuteOver_35 : decode cX3_passMinuteOver 35 = .ok (.iadd, 1) := by decide +kernel
theorem dX3_passMinuteOver_36 : decode cX3_passMinuteOver 36 = .ok (.putfield 74, 3) := by decide +kernel
theorem dX3_passMinuteOver_39 : decode cX3_passMinuteOver 39 = .ok (.iload_n 2, 1) := by decide +kernel
theorem dX3_passMinuteOver_40 : decode cX3_passMinuteOver 40 = .ok (.ifCond .eq 16, 3) := by decide +kernel
theorem dX3_passMinuteOver_43 : decode cX3_passMinuteOver 43 = .ok (.aload_n 0, 1) := by decide +kernel
theorem dX3_passMinuteOver_44 : decode cX3_passMinuteOver 44 = .ok (.getfield 33, 3) := by decide +kernel
theorem dX3_passMinuteOver_47 : decode cX3_passMinuteOver 47 = .ok (.iload_n 1, 1) := by decide +kernel
theorem dX3_passMinuteOver_48 : decode cX3_passMinuteOver 48 = .ok (.iaload, 1) := by decide +kernel
theorem dX3_passMinuteOver_49 : decode cX3_passMinuteOver 49 = .ok (.ifCond .ne 7, 3) := by decide +kernel
theorem dX3_passMinuteOver_52 : decode cX3_passMinuteOver 52 = .ok (.iconst 1, 1) := by decide +kernel
theorem dX3_passMinuteOver_53 : decode cX3_passMinuteOver 53 = .ok (.goto 4, 3) := by decide +kernel
theorem dX3_passMinuteOver_56 : decode cX3_passMinuteOver 56 = .ok (.iconst 0, 1) := by decide +kernel
theorem dX3_passMinuteOver_57 : decode cX3_passMinuteOver 57 = .ok (.istore_n 3, 1) := by decide +kernel
theorem dX3_passMinuteOver_58 : decode cX3_passMinuteOver 58 = .ok (.iload_n 3, 1) := by decide +kernel
theorem dX3_passMinuteOver_59 : decode cX3_passMinuteOver 59 = .ok (.ifCond .eq 11, 3) := by decide +kernel
theorem dX3_passMinuteOver_62 : decode cX3_passMinuteOver 62 = .ok (.aload_n 0, 1) := by decide +kernel
theorem dX3_passMinuteOver_63 : decode cX3_passMinuteOver 63 = .ok (.iload_n 1, 1) := by decide +kernel
theorem dX3_passMinuteOver_64 : decode cX3_passMinuteOver 64 = .ok (.invokevirtual 96, 3) := by decide +kernel
theorem dX3_passMinuteOver_67 : decode cX3_passMinuteOver 67 = .ok (.goto 22, 3) := by decide +kernel
theorem dX3_passMinuteOver_70 : decode cX3_passMinuteOver 70 = .ok (.aload_n 0, 1) := by decide +kernel
theorem dX3_passMinuteOver_71 : decode cX3_passMinuteOver 71 = .ok (.getfield 42, 3) := by decide +kernel
theorem dX3_passMinuteOver_74 : decode cX3_passMinuteOver 74 = .ok (.iload_n 1, 1) := by decide +kernel
theorem dX3_passMinuteOver_75 : decode cX3_passMinuteOver 75 = .ok (.iaload, 1) := by decide +kernel
theorem dX3_passMinuteOver_76 : decode cX3_passMinuteOver 76 = .ok (.ifCond .le 13, 3) := by decide +kernel
theorem dX3_passMinuteOver_79 : decode cX3_passMinuteOver 79 = .ok (.aload_n 0, 1) := by decide +kernel
theorem dX3_passMinuteOver_80 : decode cX3_passMinuteOver 80 = .ok (.getfield 42, 3) := by decide +kernel
theorem dX3_passMinuteOver_83 : decode cX3_passMinuteOver 83 = .ok (.iload_n 1, 1) := by decide +kernel
theorem dX3_passMinuteOver_84 : decode cX3_passMinuteOver 84 = .ok (.dup2, 1) := by decide +kernel
theorem dX3_passMinuteOver_85 : decode cX3_passMinuteOver 85 = .ok (.iaload, 1) := by decide +kernel
theorem dX3_passMinuteOver_86 : decode cX3_passMinuteOver 86 = .ok (.iconst 1, 1) := by decide +kernel
theorem dX3_passMinuteOver_87 : decode cX3_passMinuteOver 87 = .ok (.isub, 1) := by decide +kernel
theorem dX3_passMinuteOver_88 : decode cX3_passMinuteOver 88 = .ok (.iastore, 1) := by decide +kernel
theorem dX3_passMinuteOver_89 : decode cX3_passMinuteOver 89 = .ok (.aload_n 0, 1) := by decide +kernel
theorem dX3_passMinuteOver_90 : decode cX3_passMinuteOver 90 = .ok (.iload_n 1, 1) := by decide +kernel
theorem dX3_passMinuteOver_91 : decode cX3_passMinuteOver 91 = .ok (.invokevirtual 100, 3) := by decide +kernel
theorem dX3_passMinuteOver_94 : decode cX3_passMinuteOver 94 = .ok (.iload_n 3, 1) := by decide +kernel
theorem dX3_passMinuteOver_95 : decode cX3_passMinuteOver 95 = .ok (.ireturn, 1) := by decide +kernel
theorem dX3_boilDry_0 : decode cX3_boilDry 0 = .ok (.aload_n 0, 1) := by decide +kernel
theorem dX3_boilDry_1 : decode cX3_boilDry 1 = .ok (.getfield 27, 3) := by decide +kernel
theorem dX3_boilDry_4 : decode cX3_boilDry 4 = .ok (.iload_n 1, 1) := by decide +kernel
theorem dX3_boilDry_5 : decode cX3_boilDry 5 = .ok (.iaload, 1) := by decide +kernel
theorem dX3_boilDry_6 : decode cX3_boilDry 6 = .ok (.istore_n 2, 1) := by decide +kernel
theorem dX3_boilDry_7 : decode cX3_boilDry 7 = .ok (.aload_n 0, 1) := by decide +kernel
theorem dX3_boilDry_8 : decode cX3_boilDry 8 = .ok (.getfield 39, 3) := by decide +kernel
theorem dX3_boilDry_11 : decode cX3_boilDry 11 = .ok (.iload_n 1, 1) := by decide +kernel
theorem dX3_boilDry_12 : decode cX3_boilDry 12 = .ok (.iconst (-1), 1) := by decide +kernel
theorem dX3_boilDry_13 : decode cX3_boilDry 13 = .ok (.iastore, 1) := by decide +kernel
theorem dX3_boilDry_14 : decode cX3_boilDry 14 = .ok (.aload_n 0, 1) := by decide +kernel
theorem dX3_boilDry_15 : decode cX3_boilDry 15 = .ok (.getfield 42, 3) := by decide +kernel
theorem dX3_boilDry_18 : decode cX3_boilDry 18 = .ok (.iload_n 1, 1) := by decide +kernel
theorem dX3_boilDry_19 : decode cX3_boilDry 19 = .ok (.bipush 6, 2) := by decide +kernel
theorem dX3_boilDry_21 : decode cX3_boilDry 21 = .ok (.iastore, 1) := by decide +kernel
theorem dX3_boilDry_22 : decode cX3_boilDry 22 = .ok (.aload_n 0, 1) := by decide +kernel
theorem dX3_boilDry_23 : decode cX3_boilDry 23 = .ok (.getfield 15, 3) := by decide +kernel
theorem dX3_boilDry_26 : decode cX3_boilDry 26 = .ok (.iload_n 2, 1) := by decide +kernel
theorem dX3_boilDry_27 : decode cX3_boilDry 27 = .ok (.dup2, 1) := by decide +kernel
theorem dX3_boilDry_28 : decode cX3_boilDry 28 = .ok (.iaload, 1) := by decide +kernel
theorem dX3_boilDry_29 : decode cX3_boilDry 29 = .ok (.iconst 2, 1) := by decide +kernel
theorem dX3_boilDry_30 : decode cX3_boilDry 30 = .ok (.isub, 1) := by decide +kernel
theorem dX3_boilDry_31 : decode cX3_boilDry 31 = .ok (.iastore, 1) := by decide +kernel
theorem dX3_boilDry_32 : decode cX3_boilDry 32 = .ok (.aload_n 0, 1) := by decide +kernel
theorem dX3_boilDry_33 : decode cX3_boilDry 33 = .ok (.getfield 18, 3) := by decide +kernel
theorem dX3_boilDry_36 : decode cX3_boilDry 36 = .ok (.iload_n 2, 1) := by decide +kernel
theorem dX3_boilDry_37 : decode cX3_boilDry 37 = .ok (.dup2, 1) := by decide +kernel
theorem dX3_boilDry_38 : decode cX3_boilDry 38 = .ok (.iaload, 1) := by decide +kernel
theorem dX3_boilDry_39 : decode cX3_boilDry 39 = .ok (.iconst 1, 1) := by decide +kernel
theorem dX3_boilDry_40 : decode cX3_boilDry 40 = .ok (.iadd, 1) := by decide +kernel
theorem dX3_boilDry_41 : decode cX3_boilDry 41 = .ok (.iastore, 1) := by decide +kernel
theorem dX3_boilDry_42 : decode cX3_boilDry 42 = .ok (.return_, 1) := by decide +kernel
theorem dX3_changeTemperature_0 : decode cX3_changeTemperature 0 = .ok (.aload_n 0, 1) := by decide +kernel
theorem dX3_changeTemperature_1 : decode cX3_changeTemperature 1 = .ok (.getfield 39, 3) := by decide +kernel
theorem dX3_changeTemperature_4 : decode cX3_changeTemperature 4 = .ok (.iload_n 1, 1) := by decide +kernel
theorem dX3_changeTemperature_5 : decode cX3_changeTemperature 5 = .ok (.iaload, 1) := by decide +kernel
theorem dX3_changeTemperature_6 : decode cX3_changeTemperature 6 = .ok (.iconst (-1), 1) := by decide +kernel
theorem dX3_changeTemperature_7 : decode cX3_changeTemperature 7 = .ok (.if_icmp .ne 25, 3) := by decide +kernel
theorem dX3_changeTemperature_10 : decode cX3_changeTemperature 10 = .ok (.aload_n 0, 1) := by decide +kernel
theorem dX3_changeTemperature_11 : decode cX3_changeTemperature 11 = .ok (.getfield 36, 3) := by decide +kernel
theorem dX3_changeTemperature_14 : decode cX3_changeTemperature 14 = .ok (.iload_n 1, 1) := by decide +kernel
theorem dX3_changeTemperature_15 : decode cX3_changeTemperature 15 = .ok (.bipush 20, 2) := by decide +kernel
theorem dX3_changeTemperature_17 : decode cX3_changeTemperature 17 = .ok (.aload_n 0, 1) := by decide +kernel
theorem dX3_changeTemperature_18 : decode cX3_changeTemperature 18 = .ok (.getfield 36, 3) := by decide +kernel
theorem dX3_changeTemperature_21 : decode cX3_changeTemperature 21 = .ok (.iload_n 1, 1) := by decide +kernel
theorem dX3_changeTemperature_22 : decode cX3_changeTemperature 22 = .ok (.iaload, 1) := by decide +kernel
theorem dX3_changeTemperature_23 : decode cX3_changeTemperature 23 = .ok (.iconst 5, 1) := by decide +kernel
theorem dX3_changeTemperature_24 : decode cX3_changeTemperature 24 = .ok (.isub, 1) := by decide +kernel
theorem dX3_changeTemperature_25 : decode cX3_changeTemperature 25 = .ok (.invokestatic 103, 3) := by decide +kernel
theorem dX3_changeTemperature_28 : decode cX3_changeTemperature 28 = .ok (.iastore, 1) := by decide +kernel
theorem dX3_changeTemperature_29 : decode cX3_changeTemperature 29 = .ok (.goto 28, 3) := by decide +kernel
theorem dX3_changeTemperature_32 : decode cX3_changeTemperature 32 = .ok (.aload_n 0, 1) := by decide +kernel
theorem dX3_changeTemperature_33 : decode cX3_changeTemperature 33 = .ok (.getfield 36, 3) := by decide +kernel
theorem dX3_changeTemperature_36 : decode cX3_changeTemperature 36 = .ok (.iload_n 1, 1) := by decide +kernel
theorem dX3_changeTemperature_37 : decode cX3_changeTemperature 37 = .ok (.bipush 100, 2) := by decide +kernel
theorem dX3_changeTemperature_39 : decode cX3_changeTemperature 39 = .ok (.aload_n 0, 1) := by decide +kernel
theorem dX3_changeTemperature_40 : decode cX3_changeTemperature 40 = .ok (.getfield 36, 3) := by decide +kernel
theorem dX3_changeTemperature_43 : decode cX3_changeTemperature 43 = .ok (.iload_n 1, 1) := by decide +kernel
theorem dX3_changeTemperature_44 : decode cX3_changeTemperature 44 = .ok (.iaload, 1) := by decide +kernel
theorem dX3_changeTemperature_45 : decode cX3_changeTemperature 45 = .ok (.iconst 5, 1) := by decide +kernel
theorem dX3_changeTemperature_46 : decode cX3_changeTemperature 46 = .ok (.aload_n 0, 1) := by decide +kernel
theorem dX3_changeTemperature_47 : decode cX3_changeTemperature 47 = .ok (.iload_n 1, 1) := by decide +kernel
theorem dX3_changeTemperature_48 : decode cX3_changeTemperature 48 = .ok (.invokevirtual 106, 3) := by decide +kernel
theorem dX3_changeTemperature_51 : decode cX3_changeTemperature 51 = .ok (.imul, 1) := by decide +kernel
theorem dX3_changeTemperature_52 : decode cX3_changeTemperature 52 = .ok (.iadd, 1) := by decide +kernel
theorem dX3_changeTemperature_53 : decode cX3_changeTemperature 53 = .ok (.invokestatic 77, 3) := by decide +kernel
theorem dX3_changeTemperature_56 : decode cX3_changeTemperature 56 = .ok (.iastore, 1) := by decide +kernel
theorem dX3_changeTemperature_57 : decode cX3_changeTemperature 57 = .ok (.return_, 1) := by decide +kernel
theorem dX3_holdHarmony_0 : decode cX3_holdHarmony 0 = .ok (.aload_n 0, 1) := by decide +kernel
theorem dX3_holdHarmony_1 : decode cX3_holdHarmony 1 = .ok (.invokevirtual 110, 3) := by decide +kernel
theorem dX3_holdHarmony_4 : decode cX3_holdHarmony 4 = .ok (.istore_n 1, 1) := by decide +kernel
theorem dX3_holdHarmony_5 : decode cX3_holdHarmony 5 = .ok (.iconst 0, 1) := by decide +kernel
theorem dX3_holdHarmony_6 : decode cX3_holdHarmony 6 = .ok (.istore_n 2, 1) := by decide +kernel
theorem dX3_holdHarmony_7 : decode cX3_holdHarmony 7 = .ok (.iload_n 2, 1) := by decide +kernel
theorem dX3_holdHarmony_8 : decode cX3_holdHarmony 8 = .ok (.aload_n 0, 1) := by decide +kernel
theorem dX3_holdHarmony_9 : decode cX3_holdHarmony 9 = .ok (.getfield 64, 3) := by decide +kernel
theorem dX3_holdHarmony_12 : decode cX3_holdHarmony 12 = .ok (.if_icmp .ge 92, 3) := by decide +kernel
theorem dX3_holdHarmony_15 : decode cX3_holdHarmony 15 = .ok (.iload_n 2, 1) := by decide +kernel
theorem dX3_holdHarmony_16 : decode cX3_holdHarmony 16 = .ok (.iconst 1, 1) := by decide +kernel
theorem dX3_holdHarmony_17 : decode cX3_holdHarmony 17 = .ok (.iadd, 1) := by decide +kernel
theorem dX3_holdHarmony_18 : decode cX3_holdHarmony 18 = .ok (.istore_n 3, 1) := by decide +kernel
theorem dX3_holdHarmony_19 : decode cX3_holdHarmony 19 = .ok (.iload_n 3, 1) := by decide +kernel
theorem dX3_holdHarmony_20 : decode cX3_holdHarmony 20 = .ok (.aload_n 0, 1) := by decide +kernel
theorem dX3_holdHarmony_21 : decode cX3_holdHarmony 21 = .ok (.getfield 64, 3) := by decide +kernel
theorem dX3_holdHarmony_24 : decode cX3_holdHarmony 24 = .ok (.if_icmp .ge 74, 3) := by decide +kernel
theorem dX3_holdHarmony_27 : decode cX3_holdHarmony 27 = .ok (.iload_n 1, 1) := by decide +kernel
theorem dX3_holdHarmony_28 : decode cX3_holdHarmony 28 = .ok (.iload_n 2, 1) := by decide +kernel
theorem dX3_holdHarmony_29 : decode cX3_holdHarmony 29 = .ok (.invokestatic 114, 3) := by decide +kernel
theorem dX3_holdHarmony_32 : decode cX3_holdHarmony 32 = .ok (.ifCond .eq 60, 3) := by decide +kernel
theorem dX3_holdHarmony_35 : decode cX3_holdHarmony 35 = .ok (.iload_n 1, 1) := by decide +kernel
theorem dX3_holdHarmony_36 : decode cX3_holdHarmony 36 = .ok (.iload_n 3, 1) := by decide +kernel
theorem dX3_holdHarmony_37 : decode cX3_holdHarmony 37 = .ok (.invokestatic 114, 3) := by decide +kernel
theorem dX3_holdHarmony_40 : decode cX3_holdHarmony 40 = .ok (.ifCond .eq 52, 3) := by decide +kernel
theorem dX3_holdHarmony_43 : decode cX3_holdHarmony 43 = .ok (.aload_n 0, 1) := by decide +kernel
theorem dX3_holdHarmony_44 : decode cX3_holdHarmony 44 = .ok (.getfield 30, 3) := by decide +kernel
theorem dX3_holdHarmony_47 : decode cX3_holdHarmony 47 = .ok (.iload_n 2, 1) := by decide +kernel
theorem dX3_holdHarmony_48 : decode cX3_holdHarmony 48 = .ok (.iaload, 1) := by decide +kernel
theorem dX3_holdHarmony_49 : decode cX3_holdHarmony 49 = .ok (.aload_n 0, 1) := by decide +kernel
theorem dX3_holdHarmony_50 : decode cX3_holdHarmony 50 = .ok (.getfield 30, 3) := by decide +kernel
theorem dX3_holdHarmony_53 : decode cX3_holdHarmony 53 = .ok (.iload_n 3, 1) := by decide +kernel
theorem dX3_holdHarmony_54 : decode cX3_holdHarmony 54 = .ok (.iaload, 1) := by decide +kernel
theorem dX3_holdHarmony_55 : decode cX3_holdHarmony 55 = .ok (.invokestatic 118, 3) := by decide +kernel
theorem dX3_holdHarmony_58 : decode cX3_holdHarmony 58 = .ok (.istore 4, 2) := by decide +kernel
theorem dX3_holdHarmony_60 : decode cX3_holdHarmony 60 = .ok (.aload_n 0, 1) := by decide +kernel
theorem dX3_holdHarmony_61 : decode cX3_holdHarmony 61 = .ok (.getfield 15, 3) := by decide +kernel
theorem dX3_holdHarmony_64 : decode cX3_holdHarmony 64 = .ok (.aload_n 0, 1) := by decide +kernel
theorem dX3_holdHarmony_65 : decode cX3_holdHarmony 65 = .ok (.getfield 27, 3) := by decide +kernel
theorem dX3_holdHarmony_68 : decode cX3_holdHarmony 68 = .ok (.iload_n 2, 1) := by decide +kernel
theorem dX3_holdHarmony_69 : decode cX3_holdHarmony 69 = .ok (.iaload, 1) := by decide +kernel
theorem dX3_holdHarmony_70 : decode cX3_holdHarmony 70 = .ok (.dup2, 1) := by decide +kernel
theorem dX3_holdHarmony_71 : decode cX3_holdHarmony 71 = .ok (.iaload, 1) := by decide +kernel
theorem dX3_holdHarmony_72 : decode cX3_holdHarmony 72 = .ok (.iload 4, 2) := by decide +kernel
theorem dX3_holdHarmony_74 : decode cX3_holdHarmony 74 = .ok (.iadd, 1) := by decide +kernel
theorem dX3_holdHarmony_75 : decode cX3_holdHarmony 75 = .ok (.iastore, 1) := by decide +kernel
theorem dX3_holdHarmony_76 : decode cX3_holdHarmony 76 = .ok (.aload_n 0, 1) := by decide +kernel
theorem dX3_holdHarmony_77 : decode cX3_holdHarmony 77 = .ok (.getfield 15, 3) := by decide +kernel
theorem dX3_holdHarmony_80 : decode cX3_holdHarmony 80 = .ok (.aload_n 0, 1) := by decide +kernel
theorem dX3_holdHarmony_81 : decode cX3_holdHarmony 81 = .ok (.getfield 27, 3) := by decide +kernel
theorem dX3_holdHarmony_84 : decode cX3_holdHarmony 84 = .ok (.iload_n 3, 1) := by decide +kernel
theorem dX3_holdHarmony_85 : decode cX3_holdHarmony 85 = .ok (.iaload, 1) := by decide +kernel
theorem dX3_holdHarmony_86 : decode cX3_holdHarmony 86 = .ok (.dup2, 1) := by decide +kernel
theorem dX3_holdHarmony_87 : decode cX3_holdHarmony 87 = .ok (.iaload, 1) := by decide +kernel
theorem dX3_holdHarmony_88 : decode cX3_holdHarmony 88 = .ok (.iload 4, 2) := by decide +kernel
theorem dX3_holdHarmony_90 : decode cX3_holdHarmony 90 = .ok (.iadd, 1) := by decide +kernel
theorem dX3_holdHarmony_91 : decode cX3_holdHarmony 91 = .ok (.iastore, 1) := by decide +kernel
theorem dX3_holdHarmony_92 : decode cX3_holdHarmony 92 = .ok (.iinc 3 1, 3) := by decide +kernel
theorem dX3_holdHarmony_95 : decode cX3_holdHarmony 95 = .ok (.goto (-76), 3) := by decide +kernel
theorem dX3_holdHarmony_98 : decode cX3_holdHarmony 98 = .ok (.iinc 2 1, 3) := by decide +kernel
theorem dX3_holdHarmony_101 : decode cX3_holdHarmony 101 = .ok (.goto (-94), 3) := by decide +kernel
theorem dX3_holdHarmony_104 : decode cX3_holdHarmony 104 = .ok (.aload_n 0, 1) := by decide +kernel
theorem dX3_holdHarmony_105 : decode cX3_holdHarmony 105 = .ok (.getfield 48, 3) := by decide +kernel
theorem dX3_holdHarmony_108 : decode cX3_holdHarmony 108 = .ok (.iconst 0, 1) := by decide +kernel
theorem dX3_holdHarmony_109 : decode cX3_holdHarmony 109 = .ok (.invokestatic 54, 3) := by decide +kernel
theorem dX3_holdHarmony_112 : decode cX3_holdHarmony 112 = .ok (.return_, 1) := by decide +kernel
theorem dX3_heatUnder_0 : decode cX3_heatUnder 0 = .ok (.aload_n 0, 1) := by decide +kernel
theorem dX3_heatUnder_1 : decode cX3_heatUnder 1 = .ok (.getfield 39, 3) := by decide +kernel
theorem dX3_heatUnder_4 : decode cX3_heatUnder 4 = .ok (.iload_n 1, 1) := by decide +kernel
theorem dX3_heatUnder_5 : decode cX3_heatUnder 5 = .ok (.iaload, 1) := by decide +kernel
theorem dX3_heatUnder_6 : decode cX3_heatUnder 6 = .ok (.istore_n 2, 1) := by decide +kernel
theorem dX3_heatUnder_7 : decode cX3_heatUnder 7 = .ok (.iload_n 2, 1) := by decide +kernel
theorem dX3_heatUnder_8 : decode cX3_heatUnder 8 = .ok (.ifCond .lt 18, 3) := by decide +kernel
theorem dX3_heatUnder_11 : decode cX3_heatUnder 11 = .ok (.iload_n 2, 1) := by decide +kernel
theorem dX3_heatUnder_12 : decode cX3_heatUnder 12 = .ok (.bipush 6, 2) := by decide +kernel
theorem dX3_heatUnder_14 : decode cX3_heatUnder 14 = .ok (.if_icmp .ge 12, 3) := by decide +kernel
theorem dX3_heatUnder_17 : decode cX3_heatUnder 17 = .ok (.aload_n 0, 1) := by decide +kernel
theorem dX3_heatUnder_18 : decode cX3_heatUnder 18 = .ok (.getfield 24, 3) := by decide +kernel
theorem dX3_heatUnder_21 : decode cX3_heatUnder 21 = .ok (.iload_n 2, 1) := by decide +kernel
theorem dX3_heatUnder_22 : decode cX3_heatUnder 22 = .ok (.iaload, 1) := by decide +kernel
theorem dX3_heatUnder_23 : decode cX3_heatUnder 23 = .ok (.goto 4, 3) := by decide +kernel
theorem dX3_heatUnder_26 : decode cX3_heatUnder 26 = .ok (.iconst 0, 1) := by decide +kernel
theorem dX3_heatUnder_27 : decode cX3_heatUnder 27 = .ok (.ireturn, 1) := by decide +kernel
theorem dX3_boils_0 : decode cX3_boils 0 = .ok (.aload_n 0, 1) := by decide +kernel
theorem dX3_boils_1 : decode cX3_boils 1 = .ok (.iload_n 1, 1) := by decide +kernel
theorem dX3_boils_2 : decode cX3_boils 2 = .ok (.invokevirtual 106, 3) := by decide +kernel
theorem dX3_boils_5 : decode cX3_boils 5 = .ok (.ifCond .le 18, 3) := by decide +kernel
theorem dX3_boils_8 : decode cX3_boils 8 = .ok (.aload_n 0, 1) := by decide +kernel
theorem dX3_boils_9 : decode cX3_boils 9 = .ok (.getfield 36, 3) := by decide +kernel
theorem dX3_boils_12 : decode cX3_boils 12 = .ok (.iload_n 1, 1) := by decide +kernel
theorem dX3_boils_13 : decode cX3_boils 13 = .ok (.iaload, 1) := by decide +kernel
theorem dX3_boils_14 : decode cX3_boils 14 = .ok (.bipush 100, 2) := by decide +kernel
theorem dX3_boils_16 : decode cX3_boils 16 = .ok (.if_icmp .ne 7, 3) := by decide +kernel
theorem dX3_boils_19 : decode cX3_boils 19 = .ok (.iconst 1, 1) := by decide +kernel
theorem dX3_boils_20 : decode cX3_boils 20 = .ok (.goto 4, 3) := by decide +kernel
theorem dX3_boils_23 : decode cX3_boils 23 = .ok (.iconst 0, 1) := by decide +kernel
theorem dX3_boils_24 : decode cX3_boils 24 = .ok (.ireturn, 1) := by decide +kernel
theorem dX3_whistles_0 : decode cX3_whistles 0 = .ok (.aload_n 0, 1) := by decide +kernel
theorem dX3_whistles_1 : decode cX3_whistles 1 = .ok (.invokevirtual 110, 3) := by decide +kernel
theorem dX3_whistles_4 : decode cX3_whistles 4 = .ok (.iload_n 1, 1) := by decide +kernel
theorem dX3_whistles_5 : decode cX3_whistles 5 = .ok (.invokestatic 114, 3) := by decide +kernel
theorem dX3_whistles_8 : decode cX3_whistles 8 = .ok (.ireturn, 1) := by decide +kernel
theorem dX3_whistlers_0 : decode cX3_whistlers 0 = .ok (.iconst 0, 1) := by decide +kernel
theorem dX3_whistlers_1 : decode cX3_whistlers 1 = .ok (.istore_n 1, 1) := by decide +kernel
theorem dX3_whistlers_2 : decode cX3_whistlers 2 = .ok (.iconst 0, 1) := by decide +kernel
theorem dX3_whistlers_3 : decode cX3_whistlers 3 = .ok (.istore_n 2, 1) := by decide +kernel
theorem dX3_whistlers_4 : decode cX3_whistlers 4 = .ok (.iload_n 2, 1) := by decide +kernel
theorem dX3_whistlers_5 : decode cX3_whistlers 5 = .ok (.aload_n 0, 1) := by decide +kernel
theorem dX3_whistlers_6 : decode cX3_whistlers 6 = .ok (.getfield 64, 3) := by decide +kernel
theorem dX3_whistlers_9 : decode cX3_whistlers 9 = .ok (.if_icmp .ge 42, 3) := by decide +kernel
theorem dX3_whistlers_12 : decode cX3_whistlers 12 = .ok (.aload_n 0, 1) := by decide +kernel
theorem dX3_whistlers_13 : decode cX3_whistlers 13 = .ok (.iload_n 2, 1) := by decide +kernel
theorem dX3_whistlers_14 : decode cX3_whistlers 14 = .ok (.invokevirtual 93, 3) := by decide +kernel
theorem dX3_whistlers_17 : decode cX3_whistlers 17 = .ok (.ifCond .eq 28, 3) := by decide +kernel
theorem dX3_whistlers_20 : decode cX3_whistlers 20 = .ok (.aload_n 0, 1) := by decide +kernel
theorem dX3_whistlers_21 : decode cX3_whistlers 21 = .ok (.getfield 33, 3) := by decide +kernel
theorem dX3_whistlers_24 : decode cX3_whistlers 24 = .ok (.iload_n 2, 1) := by decide +kernel
theorem dX3_whistlers_25 : decode cX3_whistlers 25 = .ok (.iaload, 1) := by decide +kernel
theorem dX3_whistlers_26 : decode cX3_whistlers 26 = .ok (.ifCond .le 19, 3) := by decide +kernel
theorem dX3_whistlers_29 : decode cX3_whistlers 29 = .ok (.aload_n 0, 1) := by decide +kernel
theorem dX3_whistlers_30 : decode cX3_whistlers 30 = .ok (.getfield 45, 3) := by decide +kernel
theorem dX3_whistlers_33 : decode cX3_whistlers 33 = .ok (.iload_n 2, 1) := by decide +kernel
theorem dX3_whistlers_34 : decode cX3_whistlers 34 = .ok (.iaload, 1) := by decide +kernel
theorem dX3_whistlers_35 : decode cX3_whistlers 35 = .ok (.iconst 1, 1) := by decide +kernel
theorem dX3_whistlers_36 : decode cX3_whistlers 36 = .ok (.if_icmp .ne 9, 3) := by decide +kernel
theorem dX3_whistlers_39 : decode cX3_whistlers 39 = .ok (.iload_n 1, 1) := by decide +kernel
theorem dX3_whistlers_40 : decode cX3_whistlers 40 = .ok (.iconst 1, 1) := by decide +kernel
theorem dX3_whistlers_41 : decode cX3_whistlers 41 = .ok (.iload_n 2, 1) := by decide +kernel
theorem dX3_whistlers_42 : decode cX3_whistlers 42 = .ok (.ishl, 1) := by decide +kernel
theorem dX3_whistlers_43 : decode cX3_whistlers 43 = .ok (.ior, 1) := by decide +kernel
theorem dX3_whistlers_44 : decode cX3_whistlers 44 = .ok (.istore_n 1, 1) := by decide +kernel
theorem dX3_whistlers_45 : decode cX3_whistlers 45 = .ok (.iinc 2 1, 3) := by decide +kernel
theorem dX3_whistlers_48 : decode cX3_whistlers 48 = .ok (.goto (-44), 3) := by decide +kernel
theorem dX3_whistlers_51 : decode cX3_whistlers 51 = .ok (.iload_n 1, 1) := by decide +kernel
theorem dX3_whistlers_52 : decode cX3_whistlers 52 = .ok (.ireturn, 1) := by decide +kernel
theorem dX3_whistledPitches_0 : decode cX3_whistledPitches 0 = .ok (.aload_n 0, 1) := by decide +kernel
theorem dX3_whistledPitches_1 : decode cX3_whistledPitches 1 = .ok (.invokevirtual 110, 3) := by decide +kernel
theorem dX3_whistledPitches_4 : decode cX3_whistledPitches 4 = .ok (.istore_n 1, 1) := by decide +kernel
theorem dX3_whistledPitches_5 : decode cX3_whistledPitches 5 = .ok (.iconst 0, 1) := by decide +kernel
theorem dX3_whistledPitches_6 : decode cX3_whistledPitches 6 = .ok (.istore_n 2, 1) := by decide +kernel
theorem dX3_whistledPitches_7 : decode cX3_whistledPitches 7 = .ok (.iconst 0, 1) := by decide +kernel
theorem dX3_whistledPitches_8 : decode cX3_whistledPitches 8 = .ok (.istore_n 3, 1) := by decide +kernel
theorem dX3_whistledPitches_9 : decode cX3_whistledPitches 9 = .ok (.iload_n 3, 1) := by decide +kernel
theorem dX3_whistledPitches_10 : decode cX3_whistledPitches 10 = .ok (.aload_n 0, 1) := by decide +kernel
theorem dX3_whistledPitches_11 : decode cX3_whistledPitches 11 = .ok (.getfield 64, 3) := by decide +kernel
theorem dX3_whistledPitches_14 : decode cX3_whistledPitches 14 = .ok (.if_icmp .ge 28, 3) := by decide +kernel
theorem dX3_whistledPitches_17 : decode cX3_whistledPitches 17 = .ok (.iload_n 1, 1) := by decide +kernel
theorem dX3_whistledPitches_18 : decode cX3_whistledPitches 18 = .ok (.iload_n 3, 1) := by decide +kernel
theorem dX3_whistledPitches_19 : decode cX3_whistledPitches 19 = .ok (.invokestatic 114, 3) := by decide +kernel
theorem dX3_whistledPitches_22 : decode cX3_whistledPitches 22 = .ok (.ifCond .eq 14, 3) := by decide +kernel
theorem dX3_whistledPitches_25 : decode cX3_whistledPitches 25 = .ok (.iload_n 2, 1) := by decide +kernel
theorem dX3_whistledPitches_26 : decode cX3_whistledPitches 26 = .ok (.iconst 1, 1) := by decide +kernel
theorem dX3_whistledPitches_27 : decode cX3_whistledPitches 27 = .ok (.aload_n 0, 1) := by decide +kernel
theorem dX3_whistledPitches_28 : decode cX3_whistledPitches 28 = .ok (.getfield 30, 3) := by decide +kernel
theorem dX3_whistledPitches_31 : decode cX3_whistledPitches 31 = .ok (.iload_n 3, 1) := by decide +kernel
theorem dX3_whistledPitches_32 : decode cX3_whistledPitches 32 = .ok (.iaload, 1) := by decide +kernel
theorem dX3_whistledPitches_33 : decode cX3_whistledPitches 33 = .ok (.ishl, 1) := by decide +kernel
theorem dX3_whistledPitches_34 : decode cX3_whistledPitches 34 = .ok (.ior, 1) := by decide +kernel
theorem dX3_whistledPitches_35 : decode cX3_whistledPitches 35 = .ok (.istore_n 2, 1) := by decide +kernel
theorem dX3_whistledPitches_36 : decode cX3_whistledPitches 36 = .ok (.iinc 3 1, 3) := by decide +kernel
theorem dX3_whistledPitches_39 : decode cX3_whistledPitches 39 = .ok (.goto (-30), 3) := by decide +kernel
theorem dX3_whistledPitches_42 : decode cX3_whistledPitches 42 = .ok (.iload_n 2, 1) := by decide +kernel
theorem dX3_whistledPitches_43 : decode cX3_whistledPitches 43 = .ok (.ireturn, 1) := by decide +kernel
theorem dX3_kettleOn_0 : decode cX3_kettleOn 0 = .ok (.iconst 0, 1) := by decide +kernel
theorem dX3_kettleOn_1 : decode cX3_kettleOn 1 = .ok (.istore_n 2, 1) := by decide +kernel
theorem dX3_kettleOn_2 : decode cX3_kettleOn 2 = .ok (.iload_n 2, 1) := by decide +kernel
theorem dX3_kettleOn_3 : decode cX3_kettleOn 3 = .ok (.aload_n 0, 1) := by decide +kernel
theorem dX3_kettleOn_4 : decode cX3_kettleOn 4 = .ok (.getfield 64, 3) := by decide +kernel
theorem dX3_kettleOn_7 : decode cX3_kettleOn 7 = .ok (.if_icmp .ge 21, 3) := by decide +kernel
theorem dX3_kettleOn_10 : decode cX3_kettleOn 10 = .ok (.aload_n 0, 1) := by decide +kernel
theorem dX3_kettleOn_11 : decode cX3_kettleOn 11 = .ok (.getfield 39, 3) := by decide +kernel
theorem dX3_kettleOn_14 : decode cX3_kettleOn 14 = .ok (.iload_n 2, 1) := by decide +kernel
theorem dX3_kettleOn_15 : decode cX3_kettleOn 15 = .ok (.iaload, 1) := by decide +kernel
theorem dX3_kettleOn_16 : decode cX3_kettleOn 16 = .ok (.iload_n 1, 1) := by decide +kernel
theorem dX3_kettleOn_17 : decode cX3_kettleOn 17 = .ok (.if_icmp .ne 5, 3) := by decide +kernel
theorem dX3_kettleOn_20 : decode cX3_kettleOn 20 = .ok (.iload_n 2, 1) := by decide +kernel
theorem dX3_kettleOn_21 : decode cX3_kettleOn 21 = .ok (.ireturn, 1) := by decide +kernel
theorem dX3_kettleOn_22 : decode cX3_kettleOn 22 = .ok (.iinc 2 1, 3) := by decide +kernel
theorem dX3_kettleOn_25 : decode cX3_kettleOn 25 = .ok (.goto (-23), 3) := by decide +kernel
theorem dX3_kettleOn_28 : decode cX3_kettleOn 28 = .ok (.iconst (-1), 1) := by decide +kernel
theorem dX3_kettleOn_29 : decode cX3_kettleOn 29 = .ok (.ireturn, 1) := by decide +kernel
theorem dX3_stoveWithPitch_0 : decode cX3_stoveWithPitch 0 = .ok (.iconst 0, 1) := by decide +kernel
theorem dX3_stoveWithPitch_1 : decode cX3_stoveWithPitch 1 = .ok (.istore_n 2, 1) := by decide +kernel
theorem dX3_stoveWithPitch_2 : decode cX3_stoveWithPitch 2 = .ok (.iload_n 2, 1) := by decide +kernel
theorem dX3_stoveWithPitch_3 : decode cX3_stoveWithPitch 3 = .ok (.aload_n 0, 1) := by decide +kernel
theorem dX3_stoveWithPitch_4 : decode cX3_stoveWithPitch 4 = .ok (.getfield 64, 3) := by decide +kernel
theorem dX3_stoveWithPitch_7 : decode cX3_stoveWithPitch 7 = .ok (.if_icmp .ge 36, 3) := by decide +kernel
theorem dX3_stoveWithPitch_10 : decode cX3_stoveWithPitch 10 = .ok (.aload_n 0, 1) := by decide +kernel
theorem dX3_stoveWithPitch_11 : decode cX3_stoveWithPitch 11 = .ok (.getfield 30, 3) := by decide +kernel
theorem dX3_stoveWithPitch_14 : decode cX3_stoveWithPitch 14 = .ok (.iload_n 2, 1) := by decide +kernel
theorem dX3_stoveWithPitch_15 : decode cX3_stoveWithPitch 15 = .ok (.iaload, 1) := by decide +kernel
theorem dX3_stoveWithPitch_16 : decode cX3_stoveWithPitch 16 = .ok (.iload_n 1, 1) := by decide +kernel
theorem dX3_stoveWithPitch_17 : decode cX3_stoveWithPitch 17 = .ok (.if_icmp .ne 20, 3) := by decide +kernel
theorem dX3_stoveWithPitch_20 : decode cX3_stoveWithPitch 20 = .ok (.aload_n 0, 1) := by decide +kernel
theorem dX3_stoveWithPitch_21 : decode cX3_stoveWithPitch 21 = .ok (.getfield 39, 3) := by decide +kernel
theorem dX3_stoveWithPitch_24 : decode cX3_stoveWithPitch 24 = .ok (.iload_n 2, 1) := by decide +kernel
theorem dX3_stoveWithPitch_25 : decode cX3_stoveWithPitch 25 = .ok (.iaload, 1) := by decide +kernel
theorem dX3_stoveWithPitch_26 : decode cX3_stoveWithPitch 26 = .ok (.iconst (-1), 1) := by decide +kernel
theorem dX3_stoveWithPitch_27 : decode cX3_stoveWithPitch 27 = .ok (.if_icmp .eq 10, 3) := by decide +kernel
theorem dX3_stoveWithPitch_30 : decode cX3_stoveWithPitch 30 = .ok (.aload_n 0, 1) := by decide +kernel
theorem dX3_stoveWithPitch_31 : decode cX3_stoveWithPitch 31 = .ok (.getfield 39, 3) := by decide +kernel
theorem dX3_stoveWithPitch_34 : decode cX3_stoveWithPitch 34 = .ok (.iload_n 2, 1) := by decide +kernel
theorem dX3_stoveWithPitch_35 : decode cX3_stoveWithPitch 35 = .ok (.iaload, 1) := by decide +kernel
theorem dX3_stoveWithPitch_36 : decode cX3_stoveWithPitch 36 = .ok (.ireturn, 1) := by decide +kernel
theorem dX3_stoveWithPitch_37 : decode cX3_stoveWithPitch 37 = .ok (.iinc 2 1, 3) := by decide +kernel
theorem dX3_stoveWithPitch_40 : decode cX3_stoveWithPitch 40 = .ok (.goto (-38), 3) := by decide +kernel
theorem dX3_stoveWithPitch_43 : decode cX3_stoveWithPitch 43 = .ok (.iconst (-1), 1) := by decide +kernel
theorem dX3_stoveWithPitch_44 : decode cX3_stoveWithPitch 44 = .ok (.ireturn, 1) := by decide +kernel
theorem dX3_hasPitchOnTwoStoves_0 : decode cX3_hasPitchOnTwoStoves 0 = .ok (.iconst 0, 1) := by decide +kernel
theorem dX3_hasPitchOnTwoStoves_1 : decode cX3_hasPitchOnTwoStoves 1 = .ok (.istore_n 1, 1) := by decide +kernel
theorem dX3_hasPitchOnTwoStoves_2 : decode cX3_hasPitchOnTwoStoves 2 = .ok (.iconst 0, 1) := by decide +kernel
theorem dX3_hasPitchOnTwoStoves_3 : decode cX3_hasPitchOnTwoStoves 3 = .ok (.istore_n 2, 1) := by decide +kernel
theorem dX3_hasPitchOnTwoStoves_4 : decode cX3_hasPitchOnTwoStoves 4 = .ok (.iload_n 2, 1) := by decide +kernel
theorem dX3_hasPitchOnTwoStoves_5 : decode cX3_hasPitchOnTwoStoves 5 = .ok (.aload_n 0, 1) := by decide +kernel
theorem dX3_hasPitchOnTwoStoves_6 : decode cX3_hasPitchOnTwoStoves 6 = .ok (.getfield 64, 3) := by decide +kernel
theorem dX3_hasPitchOnTwoStoves_9 : decode cX3_hasPitchOnTwoStoves 9 = .ok (.if_icmp .ge 45, 3) := by decide +kernel
theorem dX3_hasPitchOnTwoStoves_12 : decode cX3_hasPitchOnTwoStoves 12 = .ok (.aload_n 0, 1) := by decide +kernel
theorem dX3_hasPitchOnTwoStoves_13 : decode cX3_hasPitchOnTwoStoves 13 = .ok (.getfield 39, 3) := by decide +kernel
theorem dX3_hasPitchOnTwoStoves_16 : decode cX3_hasPitchOnTwoStoves 16 = .ok (.iload_n 2, 1) := by decide +kernel
theorem dX3_hasPitchOnTwoStoves_17 : decode cX3_hasPitchOnTwoStoves 17 = .ok (.iaload, 1) := by decide +kernel
theorem dX3_hasPitchOnTwoStoves_18 : decode cX3_hasPitchOnTwoStoves 18 = .ok (.iconst (-1), 1) := by decide +kernel
theorem dX3_hasPitchOnTwoStoves_19 : decode cX3_hasPitchOnTwoStoves 19 = .ok (.if_icmp .eq 29, 3) := by decide +kernel
theorem dX3_hasPitchOnTwoStoves_22 : decode cX3_hasPitchOnTwoStoves 22 = .ok (.iload_n 1, 1) := by decide +kernel
theorem dX3_hasPitchOnTwoStoves_23 : decode cX3_hasPitchOnTwoStoves 23 = .ok (.aload_n 0, 1) := by decide +kernel
theorem dX3_hasPitchOnTwoStoves_24 : decode cX3_hasPitchOnTwoStoves 24 = .ok (.getfield 30, 3) := by decide +kernel
theorem dX3_hasPitchOnTwoStoves_27 : decode cX3_hasPitchOnTwoStoves 27 = .ok (.iload_n 2, 1) := by decide +kernel
theorem dX3_hasPitchOnTwoStoves_28 : decode cX3_hasPitchOnTwoStoves 28 = .ok (.iaload, 1) := by decide +kernel
theorem dX3_hasPitchOnTwoStoves_29 : decode cX3_hasPitchOnTwoStoves 29 = .ok (.invokestatic 114, 3) := by decide +kernel
theorem dX3_hasPitchOnTwoStoves_32 : decode cX3_hasPitchOnTwoStoves 32 = .ok (.ifCond .eq 5, 3) := by decide +kernel
theorem dX3_hasPitchOnTwoStoves_35 : decode cX3_hasPitchOnTwoStoves 35 = .ok (.iconst 1, 1) := by decide +kernel
theorem dX3_hasPitchOnTwoStoves_36 : decode cX3_hasPitchOnTwoStoves 36 = .ok (.ireturn, 1) := by decide +kernel
theorem dX3_hasPitchOnTwoStoves_37 : decode cX3_hasPitchOnTwoStoves 37 = .ok (.iload_n 1, 1) := by decide +kernel
theorem dX3_hasPitchOnTwoStoves_38 : decode cX3_hasPitchOnTwoStoves 38 = .ok (.iconst 1, 1) := by decide +kernel
theorem dX3_hasPitchOnTwoStoves_39 : decode cX3_hasPitchOnTwoStoves 39 = .ok (.aload_n 0, 1) := by decide +kernel
theorem dX3_hasPitchOnTwoStoves_40 : decode cX3_hasPitchOnTwoStoves 40 = .ok (.getfield 30, 3) := by decide +kernel
theorem dX3_hasPitchOnTwoStoves_43 : decode cX3_hasPitchOnTwoStoves 43 = .ok (.iload_n 2, 1) := by decide +kernel
theorem dX3_hasPitchOnTwoStoves_44 : decode cX3_hasPitchOnTwoStoves 44 = .ok (.iaload, 1) := by decide +kernel
theorem dX3_hasPitchOnTwoStoves_45 : decode cX3_hasPitchOnTwoStoves 45 = .ok (.ishl, 1) := by decide +kernel
theorem dX3_hasPitchOnTwoStoves_46 : decode cX3_hasPitchOnTwoStoves 46 = .ok (.ior, 1) := by decide +kernel
theorem dX3_hasPitchOnTwoStoves_47 : decode cX3_hasPitchOnTwoStoves 47 = .ok (.istore_n 1, 1) := by decide +kernel
theorem dX3_hasPitchOnTwoStoves_48 : decode cX3_hasPitchOnTwoStoves 48 = .ok (.iinc 2 1, 3) := by decide +kernel
theorem dX3_hasPitchOnTwoStoves_51 : decode cX3_hasPitchOnTwoStoves 51 = .ok (.goto (-47), 3) := by decide +kernel
theorem dX3_hasPitchOnTwoStoves_54 : decode cX3_hasPitchOnTwoStoves 54 = .ok (.iconst 0, 1) := by decide +kernel
theorem dX3_hasPitchOnTwoStoves_55 : decode cX3_hasPitchOnTwoStoves 55 = .ok (.ireturn, 1) := by decide +kernel
theorem dX3_countPitchesOf_0 : decode cX3_countPitchesOf 0 = .ok (.iconst 0, 1) := by decide +kernel
theorem dX3_countPitchesOf_1 : decode cX3_countPitchesOf 1 = .ok (.istore_n 2, 1) := by decide +kernel
theorem dX3_countPitchesOf_2 : decode cX3_countPitchesOf 2 = .ok (.iconst 1, 1) := by decide +kernel
theorem dX3_countPitchesOf_3 : decode cX3_countPitchesOf 3 = .ok (.istore_n 3, 1) := by decide +kernel
theorem dX3_countPitchesOf_4 : decode cX3_countPitchesOf 4 = .ok (.iload_n 3, 1) := by decide +kernel
theorem dX3_countPitchesOf_5 : decode cX3_countPitchesOf 5 = .ok (.bipush 12, 2) := by decide +kernel
theorem dX3_countPitchesOf_7 : decode cX3_countPitchesOf 7 = .ok (.if_icmp .gt 22, 3) := by decide +kernel
theorem dX3_countPitchesOf_10 : decode cX3_countPitchesOf 10 = .ok (.aload_n 0, 1) := by decide +kernel
theorem dX3_countPitchesOf_11 : decode cX3_countPitchesOf 11 = .ok (.getfield 9, 3) := by decide +kernel
theorem dX3_countPitchesOf_14 : decode cX3_countPitchesOf 14 = .ok (.iload_n 3, 1) := by decide +kernel
theorem dX3_countPitchesOf_15 : decode cX3_countPitchesOf 15 = .ok (.iaload, 1) := by decide +kernel
theorem dX3_countPitchesOf_16 : decode cX3_countPitchesOf 16 = .ok (.iload_n 1, 1) := by decide +kernel
theorem dX3_countPitchesOf_17 : decode cX3_countPitchesOf 17 = .ok (.if_icmp .ne 6, 3) := by decide +kernel
theorem dX3_countPitchesOf_20 : decode cX3_countPitchesOf 20 = .ok (.iinc 2 1, 3) := by decide +kernel
theorem dX3_countPitchesOf_23 : decode cX3_countPitchesOf 23 = .ok (.iinc 3 1, 3) := by decide +kernel
theorem dX3_countPitchesOf_26 : decode cX3_countPitchesOf 26 = .ok (.goto (-22), 3) := by decide +kernel
theorem dX3_countPitchesOf_29 : decode cX3_countPitchesOf 29 = .ok (.iload_n 2, 1) := by decide +kernel
theorem dX3_countPitchesOf_30 : decode cX3_countPitchesOf 30 = .ok (.ireturn, 1) := by decide +kernel
theorem dX3_countKettlesOf_0 : decode cX3_countKettlesOf 0 = .ok (.iconst 0, 1) := by decide +kernel
theorem dX3_countKettlesOf_1 : decode cX3_countKettlesOf 1 = .ok (.istore_n 2, 1) := by decide +kernel
theorem dX3_countKettlesOf_2 : decode cX3_countKettlesOf 2 = .ok (.iconst 0, 1) := by decide +kernel
theorem dX3_countKettlesOf_3 : decode cX3_countKettlesOf 3 = .ok (.istore_n 3, 1) := by decide +kernel
theorem dX3_countKettlesOf_4 : decode cX3_countKettlesOf 4 = .ok (.iload_n 3, 1) := by decide +kernel
theorem dX3_countKettlesOf_5 : decode cX3_countKettlesOf 5 = .ok (.aload_n 0, 1) := by decide +kernel
theorem dX3_countKettlesOf_6 : decode cX3_countKettlesOf 6 = .ok (.getfield 64, 3) := by decide +kernel
theorem dX3_countKettlesOf_9 : decode cX3_countKettlesOf 9 = .ok (.if_icmp .ge 22, 3) := by decide +kernel
theorem dX3_countKettlesOf_12 : decode cX3_countKettlesOf 12 = .ok (.aload_n 0, 1) := by decide +kernel
theorem dX3_countKettlesOf_13 : decode cX3_countKettlesOf 13 = .ok (.getfield 27, 3) := by decide +kernel
theorem dX3_countKettlesOf_16 : decode cX3_countKettlesOf 16 = .ok (.iload_n 3, 1) := by decide +kernel
theorem dX3_countKettlesOf_17 : decode cX3_countKettlesOf 17 = .ok (.iaload, 1) := by decide +kernel
theorem dX3_countKettlesOf_18 : decode cX3_countKettlesOf 18 = .ok (.iload_n 1, 1) := by decide +kernel
theorem dX3_countKettlesOf_19 : decode cX3_countKettlesOf 19 = .ok (.if_icmp .ne 6, 3) := by decide +kernel
theorem dX3_countKettlesOf_22 : decode cX3_countKettlesOf 22 = .ok (.iinc 2 1, 3) := by decide +kernel
theorem dX3_countKettlesOf_25 : decode cX3_countKettlesOf 25 = .ok (.iinc 3 1, 3) := by decide +kernel
theorem dX3_countKettlesOf_28 : decode cX3_countKettlesOf 28 = .ok (.goto (-24), 3) := by decide +kernel
theorem dX3_countKettlesOf_31 : decode cX3_countKettlesOf 31 = .ok (.iload_n 2, 1) := by decide +kernel
theorem dX3_countKettlesOf_32 : decode cX3_countKettlesOf 32 = .ok (.ireturn, 1) := by decide +kernel
theorem dX3_countWhistlersOf_0 : decode cX3_countWhistlersOf 0 = .ok (.aload_n 0, 1) := by decide +kernel
theorem dX3_countWhistlersOf_1 : decode cX3_countWhistlersOf 1 = .ok (.invokevirtual 110, 3) := by decide +kernel
theorem dX3_countWhistlersOf_4 : decode cX3_countWhistlersOf 4 = .ok (.istore_n 2, 1) := by decide +kernel
theorem dX3_countWhistlersOf_5 : decode cX3_countWhistlersOf 5 = .ok (.iconst 0, 1) := by decide +kernel
theorem dX3_countWhistlersOf_6 : decode cX3_countWhistlersOf 6 = .ok (.istore_n 3, 1) := by decide +kernel
theorem dX3_countWhistlersOf_7 : decode cX3_countWhistlersOf 7 = .ok (.iconst 0, 1) := by decide +kernel
theorem dX3_countWhistlersOf_8 : decode cX3_countWhistlersOf 8 = .ok (.istore 4, 2) := by decide +kernel
theorem dX3_countWhistlersOf_10 : decode cX3_countWhistlersOf 10 = .ok (.iload 4, 2) := by decide +kernel
theorem dX3_countWhistlersOf_12 : decode cX3_countWhistlersOf 12 = .ok (.aload_n 0, 1) := by decide +kernel
theorem dX3_countWhistlersOf_13 : decode cX3_countWhistlersOf 13 = .ok (.getfield 64, 3) := by decide +kernel
theorem dX3_countWhistlersOf_16 : decode cX3_countWhistlersOf 16 = .ok (.if_icmp .ge 32, 3) := by decide +kernel
theorem dX3_countWhistlersOf_19 : decode cX3_countWhistlersOf 19 = .ok (.aload_n 0, 1) := by decide +kernel
theorem dX3_countWhistlersOf_20 : decode cX3_countWhistlersOf 20 = .ok (.getfield 27, 3) := by decide +kernel
theorem dX3_countWhistlersOf_23 : decode cX3_countWhistlersOf 23 = .ok (.iload 4, 2) := by decide +kernel
theorem dX3_countWhistlersOf_25 : decode cX3_countWhistlersOf 25 = .ok (.iaload, 1) := by decide +kernel
theorem dX3_countWhistlersOf_26 : decode cX3_countWhistlersOf 26 = .ok (.iload_n 1, 1) := by decide +kernel
theorem dX3_countWhistlersOf_27 : decode cX3_countWhistlersOf 27 = .ok (.if_icmp .ne 15, 3) := by decide +kernel
theorem dX3_countWhistlersOf_30 : decode cX3_countWhistlersOf 30 = .ok (.iload_n 2, 1) := by decide +kernel
theorem dX3_countWhistlersOf_31 : decode cX3_countWhistlersOf 31 = .ok (.iload 4, 2) := by decide +kernel
theorem dX3_countWhistlersOf_33 : decode cX3_countWhistlersOf 33 = .ok (.invokestatic 114, 3) := by decide +kernel
theorem dX3_countWhistlersOf_36 : decode cX3_countWhistlersOf 36 = .ok (.ifCond .eq 6, 3) := by decide +kernel
theorem dX3_countWhistlersOf_39 : decode cX3_countWhistlersOf 39 = .ok (.iinc 3 1, 3) := by decide +kernel
theorem dX3_countWhistlersOf_42 : decode cX3_countWhistlersOf 42 = .ok (.iinc 4 1, 3) := by decide +kernel
theorem dX3_countWhistlersOf_45 : decode cX3_countWhistlersOf 45 = .ok (.goto (-35), 3) := by decide +kernel
theorem dX3_countWhistlersOf_48 : decode cX3_countWhistlersOf 48 = .ok (.iload_n 3, 1) := by decide +kernel
theorem dX3_countWhistlersOf_49 : decode cX3_countWhistlersOf 49 = .ok (.ireturn, 1) := by decide +kernel
theorem dX3_countOnStoves_0 : decode cX3_countOnStoves 0 = .ok (.iconst 0, 1) := by decide +kernel
theorem dX3_countOnStoves_1 : decode cX3_countOnStoves 1 = .ok (.istore_n 1, 1) := by decide +kernel
theorem dX3_countOnStoves_2 : decode cX3_countOnStoves 2 = .ok (.iconst 0, 1) := by decide +kernel
theorem dX3_countOnStoves_3 : decode cX3_countOnStoves 3 = .ok (.istore_n 2, 1) := by decide +kernel
theorem dX3_countOnStoves_4 : decode cX3_countOnStoves 4 = .ok (.iload_n 2, 1) := by decide +kernel
theorem dX3_countOnStoves_5 : decode cX3_countOnStoves 5 = .ok (.aload_n 0, 1) := by decide +kernel
theorem dX3_countOnStoves_6 : decode cX3_countOnStoves 6 = .ok (.getfield 64, 3) := by decide +kernel
theorem dX3_countOnStoves_9 : decode cX3_countOnStoves 9 = .ok (.if_icmp .ge 22, 3) := by decide +kernel
theorem dX3_countOnStoves_12 : decode cX3_countOnStoves 12 = .ok (.aload_n 0, 1) := by decide +kernel
theorem dX3_countOnStoves_13 : decode cX3_countOnStoves 13 = .ok (.getfield 39, 3) := by decide +kernel
theorem dX3_countOnStoves_16 : decode cX3_countOnStoves 16 = .ok (.iload_n 2, 1) := by decide +kernel
theorem dX3_countOnStoves_17 : decode cX3_countOnStoves 17 = .ok (.iaload, 1) := by decide +kernel
theorem dX3_countOnStoves_18 : decode cX3_countOnStoves 18 = .ok (.iconst (-1), 1) := by decide +kernel
theorem dX3_countOnStoves_19 : decode cX3_countOnStoves 19 = .ok (.if_icmp .eq 6, 3) := by decide +kernel
theorem dX3_countOnStoves_22 : decode cX3_countOnStoves 22 = .ok (.iinc 1 1, 3) := by decide +kernel
theorem dX3_countOnStoves_25 : decode cX3_countOnStoves 25 = .ok (.iinc 2 1, 3) := by decide +kernel
theorem dX3_countOnStoves_28 : decode cX3_countOnStoves 28 = .ok (.goto (-24), 3) := by decide +kernel
theorem dX3_countOnStoves_31 : decode cX3_countOnStoves 31 = .ok (.iload_n 1, 1) := by decide +kernel
theorem dX3_countOnStoves_32 : decode cX3_countOnStoves 32 = .ok (.ireturn, 1) := by decide +kernel
theorem dX3_countBoiling_0 : decode cX3_countBoiling 0 = .ok (.iconst 0, 1) := by decide +kernel
theorem dX3_countBoiling_1 : decode cX3_countBoiling 1 = .ok (.istore_n 1, 1) := by decide +kernel
theorem dX3_countBoiling_2 : decode cX3_countBoiling 2 = .ok (.iconst 0, 1) := by decide +kernel
theorem dX3_countBoiling_3 : decode cX3_countBoiling 3 = .ok (.istore_n 2, 1) := by decide +kernel
theorem dX3_countBoiling_4 : decode cX3_countBoiling 4 = .ok (.iload_n 2, 1) := by decide +kernel
theorem dX3_countBoiling_5 : decode cX3_countBoiling 5 = .ok (.aload_n 0, 1) := by decide +kernel
theorem dX3_countBoiling_6 : decode cX3_countBoiling 6 = .ok (.getfield 64, 3) := by decide +kernel
theorem dX3_countBoiling_9 : decode cX3_countBoiling 9 = .ok (.if_icmp .ge 20, 3) := by decide +kernel
theorem dX3_countBoiling_12 : decode cX3_countBoiling 12 = .ok (.aload_n 0, 1) := by decide +kernel
theorem dX3_countBoiling_13 : decode cX3_countBoiling 13 = .ok (.iload_n 2, 1) := by decide +kernel
theorem dX3_countBoiling_14 : decode cX3_countBoiling 14 = .ok (.invokevirtual 93, 3) := by decide +kernel
theorem dX3_countBoiling_17 : decode cX3_countBoiling 17 = .ok (.ifCond .eq 6, 3) := by decide +kernel
theorem dX3_countBoiling_20 : decode cX3_countBoiling 20 = .ok (.iinc 1 1, 3) := by decide +kernel
theorem dX3_countBoiling_23 : decode cX3_countBoiling 23 = .ok (.iinc 2 1, 3) := by decide +kernel
theorem dX3_countBoiling_26 : decode cX3_countBoiling 26 = .ok (.goto (-22), 3) := by decide +kernel
theorem dX3_countBoiling_29 : decode cX3_countBoiling 29 = .ok (.iload_n 1, 1) := by decide +kernel
theorem dX3_countBoiling_30 : decode cX3_countBoiling 30 = .ok (.ireturn, 1) := by decide +kernel
theorem dX3_countLidsOn_0 : decode cX3_countLidsOn 0 = .ok (.iconst 0, 1) := by decide +kernel
theorem dX3_countLidsOn_1 : decode cX3_countLidsOn 1 = .ok (.istore_n 1, 1) := by decide +kernel
theorem dX3_countLidsOn_2 : decode cX3_countLidsOn 2 = .ok (.iconst 0, 1) := by decide +kernel
theorem dX3_countLidsOn_3 : decode cX3_countLidsOn 3 = .ok (.istore_n 2, 1) := by decide +kernel
theorem dX3_countLidsOn_4 : decode cX3_countLidsOn 4 = .ok (.iload_n 2, 1) := by decide +kernel
theorem dX3_countLidsOn_5 : decode cX3_countLidsOn 5 = .ok (.aload_n 0, 1) := by decide +kernel
theorem dX3_countLidsOn_6 : decode cX3_countLidsOn 6 = .ok (.getfield 64, 3) := by decide +kernel
theorem dX3_countLidsOn_9 : decode cX3_countLidsOn 9 = .ok (.if_icmp .ge 18, 3) := by decide +kernel
theorem dX3_countLidsOn_12 : decode cX3_countLidsOn 12 = .ok (.iload_n 1, 1) := by decide +kernel
theorem dX3_countLidsOn_13 : decode cX3_countLidsOn 13 = .ok (.aload_n 0, 1) := by decide +kernel
theorem dX3_countLidsOn_14 : decode cX3_countLidsOn 14 = .ok (.getfield 45, 3) := by decide +kernel
theorem dX3_countLidsOn_17 : decode cX3_countLidsOn 17 = .ok (.iload_n 2, 1) := by decide +kernel
theorem dX3_countLidsOn_18 : decode cX3_countLidsOn 18 = .ok (.iaload, 1) := by decide +kernel
theorem dX3_countLidsOn_19 : decode cX3_countLidsOn 19 = .ok (.iadd, 1) := by decide +kernel
theorem dX3_countLidsOn_20 : decode cX3_countLidsOn 20 = .ok (.istore_n 1, 1) := by decide +kernel
theorem dX3_countLidsOn_21 : decode cX3_countLidsOn 21 = .ok (.iinc 2 1, 3) := by decide +kernel
theorem dX3_countLidsOn_24 : decode cX3_countLidsOn 24 = .ok (.goto (-20), 3) := by decide +kernel
theorem dX3_countLidsOn_27 : decode cX3_countLidsOn 27 = .ok (.iload_n 1, 1) := by decide +kernel
theorem dX3_countLidsOn_28 : decode cX3_countLidsOn 28 = .ok (.ireturn, 1) := by decide +kernel
theorem dX3_countLidsBarred_0 : decode cX3_countLidsBarred 0 = .ok (.iconst 0, 1) := by decide +kernel
theorem dX3_countLidsBarred_1 : decode cX3_countLidsBarred 1 = .ok (.istore_n 1, 1) := by decide +kernel
theorem dX3_countLidsBarred_2 : decode cX3_countLidsBarred 2 = .ok (.iconst 0, 1) := by decide +kernel
theorem dX3_countLidsBarred_3 : decode cX3_countLidsBarred 3 = .ok (.istore_n 2, 1) := by decide +kernel
theorem dX3_countLidsBarred_4 : decode cX3_countLidsBarred 4 = .ok (.iload_n 2, 1) := by decide +kernel
theorem dX3_countLidsBarred_5 : decode cX3_countLidsBarred 5 = .ok (.aload_n 0, 1) := by decide +kernel
theorem dX3_countLidsBarred_6 : decode cX3_countLidsBarred 6 = .ok (.getfield 64, 3) := by decide +kernel
theorem dX3_countLidsBarred_9 : decode cX3_countLidsBarred 9 = .ok (.if_icmp .ge 18, 3) := by decide +kernel
theorem dX3_countLidsBarred_12 : decode cX3_countLidsBarred 12 = .ok (.iload_n 1, 1) := by decide +kernel
theorem dX3_countLidsBarred_13 : decode cX3_countLidsBarred 13 = .ok (.aload_n 0, 1) := by decide +kernel
theorem dX3_countLidsBarred_14 : decode cX3_countLidsBarred 14 = .ok (.getfield 48, 3) := by decide +kernel
theorem dX3_countLidsBarred_17 : decode cX3_countLidsBarred 17 = .ok (.iload_n 2, 1) := by decide +kernel
theorem dX3_countLidsBarred_18 : decode cX3_countLidsBarred 18 = .ok (.iaload, 1) := by decide +kernel
theorem dX3_countLidsBarred_19 : decode cX3_countLidsBarred 19 = .ok (.iadd, 1) := by decide +kernel
theorem dX3_countLidsBarred_20 : decode cX3_countLidsBarred 20 = .ok (.istore_n 1, 1) := by decide +kernel
theorem dX3_countLidsBarred_21 : decode cX3_countLidsBarred 21 = .ok (.iinc 2 1, 3) := by decide +kernel
theorem dX3_countLidsBarred_24 : decode cX3_countLidsBarred 24 = .ok (.goto (-20), 3) := by decide +kernel
theorem dX3_countLidsBarred_27 : decode cX3_countLidsBarred 27 = .ok (.iload_n 1, 1) := by decide +kernel
theorem dX3_countLidsBarred_28 : decode cX3_countLidsBarred 28 = .ok (.ireturn, 1) := by decide +kernel
theorem dX3_sumWater_0 : decode cX3_sumWater 0 = .ok (.iconst 0, 1) := by decide +kernel
theorem dX3_sumWater_1 : decode cX3_sumWater 1 = .ok (.istore_n 1, 1) := by decide +kernel
theorem dX3_sumWater_2 : decode cX3_sumWater 2 = .ok (.iconst 0, 1) := by decide +kernel
theorem dX3_sumWater_3 : decode cX3_sumWater 3 = .ok (.istore_n 2, 1) := by decide +kernel
theorem dX3_sumWater_4 : decode cX3_sumWater 4 = .ok (.iload_n 2, 1) := by decide +kernel
theorem dX3_sumWater_5 : decode cX3_sumWater 5 = .ok (.aload_n 0, 1) := by decide +kernel
theorem dX3_sumWater_6 : decode cX3_sumWater 6 = .ok (.getfield 64, 3) := by decide +kernel
theorem dX3_sumWater_9 : decode cX3_sumWater 9 = .ok (.if_icmp .ge 18, 3) := by decide +kernel
theorem dX3_sumWater_12 : decode cX3_sumWater 12 = .ok (.iload_n 1, 1) := by decide +kernel
theorem dX3_sumWater_13 : decode cX3_sumWater 13 = .ok (.aload_n 0, 1) := by decide +kernel
theorem dX3_sumWater_14 : decode cX3_sumWater 14 = .ok (.getfield 33, 3) := by decide +kernel
theorem dX3_sumWater_17 : decode cX3_sumWater 17 = .ok (.iload_n 2, 1) := by decide +kernel
theorem dX3_sumWater_18 : decode cX3_sumWater 18 = .ok (.iaload, 1) := by decide +kernel
theorem dX3_sumWater_19 : decode cX3_sumWater 19 = .ok (.iadd, 1) := by decide +kernel
theorem dX3_sumWater_20 : decode cX3_sumWater 20 = .ok (.istore_n 1, 1) := by decide +kernel
theorem dX3_sumWater_21 : decode cX3_sumWater 21 = .ok (.iinc 2 1, 3) := by decide +kernel
theorem dX3_sumWater_24 : decode cX3_sumWater 24 = .ok (.goto (-20), 3) := by decide +kernel
theorem dX3_sumWater_27 : decode cX3_sumWater 27 = .ok (.iload_n 1, 1) := by decide +kernel
theorem dX3_sumWater_28 : decode cX3_sumWater 28 = .ok (.ireturn, 1) := by decide +kernel
