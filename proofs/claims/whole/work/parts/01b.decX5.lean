theorem dX5_init_0 : decode cX5_init 0 = .ok (.aload_n 0, 1) := by decide +kernel
theorem dX5_init_1 : decode cX5_init 1 = .ok (.invokespecial 1, 3) := by decide +kernel
theorem dX5_init_4 : decode cX5_init 4 = .ok (.aload_n 0, 1) := by decide +kernel
theorem dX5_init_5 : decode cX5_init 5 = .ok (.sipush 1375, 3) := by decide +kernel
theorem dX5_init_8 : decode cX5_init 8 = .ok (.newarray .int, 2) := by decide +kernel
theorem dX5_init_10 : decode cX5_init 10 = .ok (.putfield 9, 3) := by decide +kernel
theorem dX5_init_13 : decode cX5_init 13 = .ok (.aload_n 0, 1) := by decide +kernel
theorem dX5_init_14 : decode cX5_init 14 = .ok (.iconst 3, 1) := by decide +kernel
theorem dX5_init_15 : decode cX5_init 15 = .ok (.newarray .int, 2) := by decide +kernel
theorem dX5_init_17 : decode cX5_init 17 = .ok (.putfield 13, 3) := by decide +kernel
theorem dX5_init_20 : decode cX5_init 20 = .ok (.aload_n 0, 1) := by decide +kernel
theorem dX5_init_21 : decode cX5_init 21 = .ok (.iconst 3, 1) := by decide +kernel
theorem dX5_init_22 : decode cX5_init 22 = .ok (.newarray .int, 2) := by decide +kernel
theorem dX5_init_24 : decode cX5_init 24 = .ok (.putfield 16, 3) := by decide +kernel
theorem dX5_init_27 : decode cX5_init 27 = .ok (.aload_n 0, 1) := by decide +kernel
theorem dX5_init_28 : decode cX5_init 28 = .ok (.bipush 60, 2) := by decide +kernel
theorem dX5_init_30 : decode cX5_init 30 = .ok (.newarray .char, 2) := by decide +kernel
theorem dX5_init_32 : decode cX5_init 32 = .ok (.putfield 19, 3) := by decide +kernel
theorem dX5_init_35 : decode cX5_init 35 = .ok (.aload_n 0, 1) := by decide +kernel
theorem dX5_init_36 : decode cX5_init 36 = .ok (.sipush 244, 3) := by decide +kernel
theorem dX5_init_39 : decode cX5_init 39 = .ok (.newarray .int, 2) := by decide +kernel
theorem dX5_init_41 : decode cX5_init 41 = .ok (.putfield 23, 3) := by decide +kernel
theorem dX5_init_44 : decode cX5_init 44 = .ok (.aload_n 0, 1) := by decide +kernel
theorem dX5_init_45 : decode cX5_init 45 = .ok (.bipush 40, 2) := by decide +kernel
theorem dX5_init_47 : decode cX5_init 47 = .ok (.newarray .char, 2) := by decide +kernel
theorem dX5_init_49 : decode cX5_init 49 = .ok (.putfield 26, 3) := by decide +kernel
theorem dX5_init_52 : decode cX5_init 52 = .ok (.return_, 1) := by decide +kernel
theorem dX5_in_0 : decode cX5_in 0 = .ok (.iload_n 0, 1) := by decide +kernel
theorem dX5_in_1 : decode cX5_in 1 = .ok (.iload_n 1, 1) := by decide +kernel
theorem dX5_in_2 : decode cX5_in 2 = .ok (.if_icmp .lt 12, 3) := by decide +kernel
theorem dX5_in_5 : decode cX5_in 5 = .ok (.iload_n 0, 1) := by decide +kernel
theorem dX5_in_6 : decode cX5_in 6 = .ok (.iload_n 2, 1) := by decide +kernel
theorem dX5_in_7 : decode cX5_in 7 = .ok (.if_icmp .gt 7, 3) := by decide +kernel
theorem dX5_in_10 : decode cX5_in 10 = .ok (.iconst 1, 1) := by decide +kernel
theorem dX5_in_11 : decode cX5_in 11 = .ok (.goto 4, 3) := by decide +kernel
theorem dX5_in_14 : decode cX5_in 14 = .ok (.iconst 0, 1) := by decide +kernel
theorem dX5_in_15 : decode cX5_in 15 = .ok (.ireturn, 1) := by decide +kernel
theorem dX5_copies_0 : decode cX5_copies 0 = .ok (.iconst 0, 1) := by decide +kernel
theorem dX5_copies_1 : decode cX5_copies 1 = .ok (.istore_n 3, 1) := by decide +kernel
theorem dX5_copies_2 : decode cX5_copies 2 = .ok (.iload_n 3, 1) := by decide +kernel
theorem dX5_copies_3 : decode cX5_copies 3 = .ok (.bipush 125, 2) := by decide +kernel
theorem dX5_copies_5 : decode cX5_copies 5 = .ok (.if_icmp .ge 31, 3) := by decide +kernel
theorem dX5_copies_8 : decode cX5_copies 8 = .ok (.aload_n 0, 1) := by decide +kernel
theorem dX5_copies_9 : decode cX5_copies 9 = .ok (.getfield 9, 3) := by decide +kernel
theorem dX5_copies_12 : decode cX5_copies 12 = .ok (.bipush 125, 2) := by decide +kernel
theorem dX5_copies_14 : decode cX5_copies 14 = .ok (.iload_n 2, 1) := by decide +kernel
theorem dX5_copies_15 : decode cX5_copies 15 = .ok (.imul, 1) := by decide +kernel
theorem dX5_copies_16 : decode cX5_copies 16 = .ok (.iload_n 3, 1) := by decide +kernel
theorem dX5_copies_17 : decode cX5_copies 17 = .ok (.iadd, 1) := by decide +kernel
theorem dX5_copies_18 : decode cX5_copies 18 = .ok (.aload_n 0, 1) := by decide +kernel
theorem dX5_copies_19 : decode cX5_copies 19 = .ok (.getfield 9, 3) := by decide +kernel
theorem dX5_copies_22 : decode cX5_copies 22 = .ok (.bipush 125, 2) := by decide +kernel
theorem dX5_copies_24 : decode cX5_copies 24 = .ok (.iload_n 1, 1) := by decide +kernel
theorem dX5_copies_25 : decode cX5_copies 25 = .ok (.imul, 1) := by decide +kernel
theorem dX5_copies_26 : decode cX5_copies 26 = .ok (.iload_n 3, 1) := by decide +kernel
theorem dX5_copies_27 : decode cX5_copies 27 = .ok (.iadd, 1) := by decide +kernel
theorem dX5_copies_28 : decode cX5_copies 28 = .ok (.iaload, 1) := by decide +kernel
theorem dX5_copies_29 : decode cX5_copies 29 = .ok (.iastore, 1) := by decide +kernel
theorem dX5_copies_30 : decode cX5_copies 30 = .ok (.iinc 3 1, 3) := by decide +kernel
theorem dX5_copies_33 : decode cX5_copies 33 = .ok (.goto (-31), 3) := by decide +kernel
theorem dX5_copies_36 : decode cX5_copies 36 = .ok (.return_, 1) := by decide +kernel
theorem dX5_begins_0 : decode cX5_begins 0 = .ok (.aload_n 0, 1) := by decide +kernel
theorem dX5_begins_1 : decode cX5_begins 1 = .ok (.iconst 0, 1) := by decide +kernel
theorem dX5_begins_2 : decode cX5_begins 2 = .ok (.bipush 10, 2) := by decide +kernel
theorem dX5_begins_4 : decode cX5_begins 4 = .ok (.invokevirtual 29, 3) := by decide +kernel
theorem dX5_begins_7 : decode cX5_begins 7 = .ok (.return_, 1) := by decide +kernel
theorem dX5_ends_0 : decode cX5_ends 0 = .ok (.iload_n 1, 1) := by decide +kernel
theorem dX5_ends_1 : decode cX5_ends 1 = .ok (.sipush (-1011), 3) := by decide +kernel
theorem dX5_ends_4 : decode cX5_ends 4 = .ok (.if_icmp .gt 12, 3) := by decide +kernel
theorem dX5_ends_7 : decode cX5_ends 7 = .ok (.aload_n 0, 1) := by decide +kernel
theorem dX5_ends_8 : decode cX5_ends 8 = .ok (.bipush 10, 2) := by decide +kernel
theorem dX5_ends_10 : decode cX5_ends 10 = .ok (.iconst 0, 1) := by decide +kernel
theorem dX5_ends_11 : decode cX5_ends 11 = .ok (.invokevirtual 29, 3) := by decide +kernel
theorem dX5_ends_14 : decode cX5_ends 14 = .ok (.iload_n 1, 1) := by decide +kernel
theorem dX5_ends_15 : decode cX5_ends 15 = .ok (.ireturn, 1) := by decide +kernel
theorem dX5_ends_16 : decode cX5_ends 16 = .ok (.aload_n 0, 1) := by decide +kernel
theorem dX5_ends_17 : decode cX5_ends 17 = .ok (.getfield 33, 3) := by decide +kernel
theorem dX5_ends_20 : decode cX5_ends 20 = .ok (.bipush 8, 2) := by decide +kernel
theorem dX5_ends_22 : decode cX5_ends 22 = .ok (.if_icmp .ne 35, 3) := by decide +kernel
theorem dX5_ends_25 : decode cX5_ends 25 = .ok (.iconst 1, 1) := by decide +kernel
theorem dX5_ends_26 : decode cX5_ends 26 = .ok (.istore_n 2, 1) := by decide +kernel
theorem dX5_ends_27 : decode cX5_ends 27 = .ok (.iload_n 2, 1) := by decide +kernel
theorem dX5_ends_28 : decode cX5_ends 28 = .ok (.bipush 8, 2) := by decide +kernel
theorem dX5_ends_30 : decode cX5_ends 30 = .ok (.if_icmp .ge 17, 3) := by decide +kernel
theorem dX5_ends_33 : decode cX5_ends 33 = .ok (.aload_n 0, 1) := by decide +kernel
theorem dX5_ends_34 : decode cX5_ends 34 = .ok (.iload_n 2, 1) := by decide +kernel
theorem dX5_ends_35 : decode cX5_ends 35 = .ok (.iconst 1, 1) := by decide +kernel
theorem dX5_ends_36 : decode cX5_ends 36 = .ok (.iadd, 1) := by decide +kernel
theorem dX5_ends_37 : decode cX5_ends 37 = .ok (.iload_n 2, 1) := by decide +kernel
theorem dX5_ends_38 : decode cX5_ends 38 = .ok (.invokevirtual 29, 3) := by decide +kernel
theorem dX5_ends_41 : decode cX5_ends 41 = .ok (.iinc 2 1, 3) := by decide +kernel
theorem dX5_ends_44 : decode cX5_ends 44 = .ok (.goto (-17), 3) := by decide +kernel
theorem dX5_ends_47 : decode cX5_ends 47 = .ok (.aload_n 0, 1) := by decide +kernel
theorem dX5_ends_48 : decode cX5_ends 48 = .ok (.dup, 1) := by decide +kernel
theorem dX5_ends_49 : decode cX5_ends 49 = .ok (.getfield 33, 3) := by decide +kernel
theorem dX5_ends_52 : decode cX5_ends 52 = .ok (.iconst 1, 1) := by decide +kernel
theorem dX5_ends_53 : decode cX5_ends 53 = .ok (.isub, 1) := by decide +kernel
theorem dX5_ends_54 : decode cX5_ends 54 = .ok (.putfield 33, 3) := by decide +kernel
theorem dX5_ends_57 : decode cX5_ends 57 = .ok (.aload_n 0, 1) := by decide +kernel
theorem dX5_ends_58 : decode cX5_ends 58 = .ok (.dup, 1) := by decide +kernel
theorem dX5_ends_59 : decode cX5_ends 59 = .ok (.getfield 33, 3) := by decide +kernel
theorem dX5_ends_62 : decode cX5_ends 62 = .ok (.iconst 1, 1) := by decide +kernel
theorem dX5_ends_63 : decode cX5_ends 63 = .ok (.iadd, 1) := by decide +kernel
theorem dX5_ends_64 : decode cX5_ends 64 = .ok (.putfield 33, 3) := by decide +kernel
theorem dX5_ends_67 : decode cX5_ends 67 = .ok (.aload_n 0, 1) := by decide +kernel
theorem dX5_ends_68 : decode cX5_ends 68 = .ok (.bipush 10, 2) := by decide +kernel
theorem dX5_ends_70 : decode cX5_ends 70 = .ok (.aload_n 0, 1) := by decide +kernel
theorem dX5_ends_71 : decode cX5_ends 71 = .ok (.getfield 33, 3) := by decide +kernel
theorem dX5_ends_74 : decode cX5_ends 74 = .ok (.invokevirtual 29, 3) := by decide +kernel
theorem dX5_ends_77 : decode cX5_ends 77 = .ok (.iload_n 1, 1) := by decide +kernel
theorem dX5_ends_78 : decode cX5_ends 78 = .ok (.ireturn, 1) := by decide +kernel
theorem dX5_refuses_0 : decode cX5_refuses 0 = .ok (.iload_n 1, 1) := by decide +kernel
theorem dX5_refuses_1 : decode cX5_refuses 1 = .ok (.ifCond .eq 22, 3) := by decide +kernel
theorem dX5_refuses_4 : decode cX5_refuses 4 = .ok (.aload_n 0, 1) := by decide +kernel
theorem dX5_refuses_5 : decode cX5_refuses 5 = .ok (.getfield 13, 3) := by decide +kernel
theorem dX5_refuses_8 : decode cX5_refuses 8 = .ok (.iconst 0, 1) := by decide +kernel
theorem dX5_refuses_9 : decode cX5_refuses 9 = .ok (.iload_n 2, 1) := by decide +kernel
theorem dX5_refuses_10 : decode cX5_refuses 10 = .ok (.iastore, 1) := by decide +kernel
theorem dX5_refuses_11 : decode cX5_refuses 11 = .ok (.aload_n 0, 1) := by decide +kernel
theorem dX5_refuses_12 : decode cX5_refuses 12 = .ok (.getfield 16, 3) := by decide +kernel
theorem dX5_refuses_15 : decode cX5_refuses 15 = .ok (.iconst 0, 1) := by decide +kernel
theorem dX5_refuses_16 : decode cX5_refuses 16 = .ok (.iload_n 3, 1) := by decide +kernel
theorem dX5_refuses_17 : decode cX5_refuses 17 = .ok (.iastore, 1) := by decide +kernel
theorem dX5_refuses_18 : decode cX5_refuses 18 = .ok (.aload_n 0, 1) := by decide +kernel
theorem dX5_refuses_19 : decode cX5_refuses 19 = .ok (.iconst 1, 1) := by decide +kernel
theorem dX5_refuses_20 : decode cX5_refuses 20 = .ok (.putfield 37, 3) := by decide +kernel
theorem dX5_refuses_23 : decode cX5_refuses 23 = .ok (.iload_n 1, 1) := by decide +kernel
theorem dX5_refuses_24 : decode cX5_refuses 24 = .ok (.ireturn, 1) := by decide +kernel
theorem dX5_causes_0 : decode cX5_causes 0 = .ok (.aload_n 0, 1) := by decide +kernel
theorem dX5_causes_1 : decode cX5_causes 1 = .ok (.getfield 37, 3) := by decide +kernel
theorem dX5_causes_4 : decode cX5_causes 4 = .ok (.istore_n 3, 1) := by decide +kernel
theorem dX5_causes_5 : decode cX5_causes 5 = .ok (.iload_n 3, 1) := by decide +kernel
theorem dX5_causes_6 : decode cX5_causes 6 = .ok (.ifCond .le 37, 3) := by decide +kernel
theorem dX5_causes_9 : decode cX5_causes 9 = .ok (.aload_n 0, 1) := by decide +kernel
theorem dX5_causes_10 : decode cX5_causes 10 = .ok (.getfield 13, 3) := by decide +kernel
theorem dX5_causes_13 : decode cX5_causes 13 = .ok (.iload_n 3, 1) := by decide +kernel
theorem dX5_causes_14 : decode cX5_causes 14 = .ok (.aload_n 0, 1) := by decide +kernel
theorem dX5_causes_15 : decode cX5_causes 15 = .ok (.getfield 13, 3) := by decide +kernel
theorem dX5_causes_18 : decode cX5_causes 18 = .ok (.iload_n 3, 1) := by decide +kernel
theorem dX5_causes_19 : decode cX5_causes 19 = .ok (.iconst 1, 1) := by decide +kernel
theorem dX5_causes_20 : decode cX5_causes 20 = .ok (.isub, 1) := by decide +kernel
theorem dX5_causes_21 : decode cX5_causes 21 = .ok (.iaload, 1) := by decide +kernel
theorem dX5_causes_22 : decode cX5_causes 22 = .ok (.iastore, 1) := by decide +kernel
theorem dX5_causes_23 : decode cX5_causes 23 = .ok (.aload_n 0, 1) := by decide +kernel
theorem dX5_causes_24 : decode cX5_causes 24 = .ok (.getfield 16, 3) := by decide +kernel
theorem dX5_causes_27 : decode cX5_causes 27 = .ok (.iload_n 3, 1) := by decide +kernel
theorem dX5_causes_28 : decode cX5_causes 28 = .ok (.aload_n 0, 1) := by decide +kernel
theorem dX5_causes_29 : decode cX5_causes 29 = .ok (.getfield 16, 3) := by decide +kernel
theorem dX5_causes_32 : decode cX5_causes 32 = .ok (.iload_n 3, 1) := by decide +kernel
theorem dX5_causes_33 : decode cX5_causes 33 = .ok (.iconst 1, 1) := by decide +kernel
theorem dX5_causes_34 : decode cX5_causes 34 = .ok (.isub, 1) := by decide +kernel
theorem dX5_causes_35 : decode cX5_causes 35 = .ok (.iaload, 1) := by decide +kernel
theorem dX5_causes_36 : decode cX5_causes 36 = .ok (.iastore, 1) := by decide +kernel
theorem dX5_causes_37 : decode cX5_causes 37 = .ok (.iinc 3 (-1), 3) := by decide +kernel
theorem dX5_causes_40 : decode cX5_causes 40 = .ok (.goto (-35), 3) := by decide +kernel
theorem dX5_causes_43 : decode cX5_causes 43 = .ok (.aload_n 0, 1) := by decide +kernel
theorem dX5_causes_44 : decode cX5_causes 44 = .ok (.getfield 13, 3) := by decide +kernel
theorem dX5_causes_47 : decode cX5_causes 47 = .ok (.iconst 0, 1) := by decide +kernel
theorem dX5_causes_48 : decode cX5_causes 48 = .ok (.iload_n 1, 1) := by decide +kernel
theorem dX5_causes_49 : decode cX5_causes 49 = .ok (.iastore, 1) := by decide +kernel
theorem dX5_causes_50 : decode cX5_causes 50 = .ok (.aload_n 0, 1) := by decide +kernel
theorem dX5_causes_51 : decode cX5_causes 51 = .ok (.getfield 16, 3) := by decide +kernel
theorem dX5_causes_54 : decode cX5_causes 54 = .ok (.iconst 0, 1) := by decide +kernel
theorem dX5_causes_55 : decode cX5_causes 55 = .ok (.iload_n 2, 1) := by decide +kernel
theorem dX5_causes_56 : decode cX5_causes 56 = .ok (.iastore, 1) := by decide +kernel
theorem dX5_causes_57 : decode cX5_causes 57 = .ok (.aload_n 0, 1) := by decide +kernel
theorem dX5_causes_58 : decode cX5_causes 58 = .ok (.dup, 1) := by decide +kernel
theorem dX5_causes_59 : decode cX5_causes 59 = .ok (.getfield 37, 3) := by decide +kernel
theorem dX5_causes_62 : decode cX5_causes 62 = .ok (.iconst 1, 1) := by decide +kernel
theorem dX5_causes_63 : decode cX5_causes 63 = .ok (.iadd, 1) := by decide +kernel
theorem dX5_causes_64 : decode cX5_causes 64 = .ok (.putfield 37, 3) := by decide +kernel
theorem dX5_causes_67 : decode cX5_causes 67 = .ok (.return_, 1) := by decide +kernel
theorem dX5_reason_0 : decode cX5_reason 0 = .ok (.iload_n 1, 1) := by decide +kernel
theorem dX5_reason_1 : decode cX5_reason 1 = .ok (.iconst 0, 1) := by decide +kernel
theorem dX5_reason_2 : decode cX5_reason 2 = .ok (.iconst 2, 1) := by decide +kernel
theorem dX5_reason_3 : decode cX5_reason 3 = .ok (.invokestatic 40, 3) := by decide +kernel
theorem dX5_reason_6 : decode cX5_reason 6 = .ok (.ifCond .ne 7, 3) := by decide +kernel
theorem dX5_reason_9 : decode cX5_reason 9 = .ok (.sipush (-1012), 3) := by decide +kernel
theorem dX5_reason_12 : decode cX5_reason 12 = .ok (.ireturn, 1) := by decide +kernel
theorem dX5_reason_13 : decode cX5_reason 13 = .ok (.iload_n 1, 1) := by decide +kernel
theorem dX5_reason_14 : decode cX5_reason 14 = .ok (.aload_n 0, 1) := by decide +kernel
theorem dX5_reason_15 : decode cX5_reason 15 = .ok (.getfield 37, 3) := by decide +kernel
theorem dX5_reason_18 : decode cX5_reason 18 = .ok (.if_icmp .lt 9, 3) := by decide +kernel
theorem dX5_reason_21 : decode cX5_reason 21 = .ok (.sipush (-1015), 3) := by decide +kernel
theorem dX5_reason_24 : decode cX5_reason 24 = .ok (.goto 22, 3) := by decide +kernel
theorem dX5_reason_27 : decode cX5_reason 27 = .ok (.iload_n 2, 1) := by decide +kernel
theorem dX5_reason_28 : decode cX5_reason 28 = .ok (.ifCond .eq 12, 3) := by decide +kernel
theorem dX5_reason_31 : decode cX5_reason 31 = .ok (.aload_n 0, 1) := by decide +kernel
theorem dX5_reason_32 : decode cX5_reason 32 = .ok (.getfield 16, 3) := by decide +kernel
theorem dX5_reason_35 : decode cX5_reason 35 = .ok (.iload_n 1, 1) := by decide +kernel
theorem dX5_reason_36 : decode cX5_reason 36 = .ok (.iaload, 1) := by decide +kernel
theorem dX5_reason_37 : decode cX5_reason 37 = .ok (.goto 9, 3) := by decide +kernel
theorem dX5_reason_40 : decode cX5_reason 40 = .ok (.aload_n 0, 1) := by decide +kernel
theorem dX5_reason_41 : decode cX5_reason 41 = .ok (.getfield 13, 3) := by decide +kernel
theorem dX5_reason_44 : decode cX5_reason 44 = .ok (.iload_n 1, 1) := by decide +kernel
theorem dX5_reason_45 : decode cX5_reason 45 = .ok (.iaload, 1) := by decide +kernel
theorem dX5_reason_46 : decode cX5_reason 46 = .ok (.ireturn, 1) := by decide +kernel
theorem dX5_m_0 : decode cX5_m 0 = .ok (.aload_n 0, 1) := by decide +kernel
theorem dX5_m_1 : decode cX5_m 1 = .ok (.getfield 9, 3) := by decide +kernel
theorem dX5_m_4 : decode cX5_m 4 = .ok (.iconst 5, 1) := by decide +kernel
theorem dX5_m_5 : decode cX5_m 5 = .ok (.iconst 3, 1) := by decide +kernel
theorem dX5_m_6 : decode cX5_m 6 = .ok (.iload_n 1, 1) := by decide +kernel
theorem dX5_m_7 : decode cX5_m 7 = .ok (.imul, 1) := by decide +kernel
theorem dX5_m_8 : decode cX5_m 8 = .ok (.iadd, 1) := by decide +kernel
theorem dX5_m_9 : decode cX5_m 9 = .ok (.iload_n 2, 1) := by decide +kernel
theorem dX5_m_10 : decode cX5_m 10 = .ok (.iadd, 1) := by decide +kernel
theorem dX5_m_11 : decode cX5_m 11 = .ok (.iaload, 1) := by decide +kernel
theorem dX5_m_12 : decode cX5_m 12 = .ok (.ireturn, 1) := by decide +kernel
theorem dX5_kt_0 : decode cX5_kt 0 = .ok (.aload_n 0, 1) := by decide +kernel
theorem dX5_kt_1 : decode cX5_kt 1 = .ok (.getfield 9, 3) := by decide +kernel
theorem dX5_kt_4 : decode cX5_kt 4 = .ok (.bipush 35, 2) := by decide +kernel
theorem dX5_kt_6 : decode cX5_kt 6 = .ok (.bipush 9, 2) := by decide +kernel
theorem dX5_kt_8 : decode cX5_kt 8 = .ok (.iload_n 1, 1) := by decide +kernel
theorem dX5_kt_9 : decode cX5_kt 9 = .ok (.imul, 1) := by decide +kernel
theorem dX5_kt_10 : decode cX5_kt 10 = .ok (.iadd, 1) := by decide +kernel
theorem dX5_kt_11 : decode cX5_kt 11 = .ok (.iload_n 2, 1) := by decide +kernel
theorem dX5_kt_12 : decode cX5_kt 12 = .ok (.iadd, 1) := by decide +kernel
theorem dX5_kt_13 : decode cX5_kt 13 = .ok (.iaload, 1) := by decide +kernel
theorem dX5_kt_14 : decode cX5_kt 14 = .ok (.ireturn, 1) := by decide +kernel
theorem dX5_puts_0 : decode cX5_puts 0 = .ok (.aload_n 0, 1) := by decide +kernel
theorem dX5_puts_1 : decode cX5_puts 1 = .ok (.getfield 9, 3) := by decide +kernel
theorem dX5_puts_4 : decode cX5_puts 4 = .ok (.bipush 35, 2) := by decide +kernel
theorem dX5_puts_6 : decode cX5_puts 6 = .ok (.bipush 9, 2) := by decide +kernel
theorem dX5_puts_8 : decode cX5_puts 8 = .ok (.iload_n 1, 1) := by decide +kernel
theorem dX5_puts_9 : decode cX5_puts 9 = .ok (.imul, 1) := by decide +kernel
theorem dX5_puts_10 : decode cX5_puts 10 = .ok (.iadd, 1) := by decide +kernel
theorem dX5_puts_11 : decode cX5_puts 11 = .ok (.iload_n 2, 1) := by decide +kernel
theorem dX5_puts_12 : decode cX5_puts 12 = .ok (.iadd, 1) := by decide +kernel
theorem dX5_puts_13 : decode cX5_puts 13 = .ok (.iload_n 3, 1) := by decide +kernel
theorem dX5_puts_14 : decode cX5_puts 14 = .ok (.iastore, 1) := by decide +kernel
theorem dX5_puts_15 : decode cX5_puts 15 = .ok (.return_, 1) := by decide +kernel
theorem dX5_isKettle_0 : decode cX5_isKettle 0 = .ok (.iload_n 1, 1) := by decide +kernel
theorem dX5_isKettle_1 : decode cX5_isKettle 1 = .ok (.iconst 0, 1) := by decide +kernel
theorem dX5_isKettle_2 : decode cX5_isKettle 2 = .ok (.aload_n 0, 1) := by decide +kernel
theorem dX5_isKettle_3 : decode cX5_isKettle 3 = .ok (.getfield 9, 3) := by decide +kernel
theorem dX5_isKettle_6 : decode cX5_isKettle 6 = .ok (.iconst 1, 1) := by decide +kernel
theorem dX5_isKettle_7 : decode cX5_isKettle 7 = .ok (.iaload, 1) := by decide +kernel
theorem dX5_isKettle_8 : decode cX5_isKettle 8 = .ok (.iconst 1, 1) := by decide +kernel
theorem dX5_isKettle_9 : decode cX5_isKettle 9 = .ok (.isub, 1) := by decide +kernel
theorem dX5_isKettle_10 : decode cX5_isKettle 10 = .ok (.invokestatic 40, 3) := by decide +kernel
theorem dX5_isKettle_13 : decode cX5_isKettle 13 = .ok (.ireturn, 1) := by decide +kernel
theorem dX5_isMember_0 : decode cX5_isMember 0 = .ok (.iload_n 0, 1) := by decide +kernel
theorem dX5_isMember_1 : decode cX5_isMember 1 = .ok (.iconst 0, 1) := by decide +kernel
theorem dX5_isMember_2 : decode cX5_isMember 2 = .ok (.iconst 3, 1) := by decide +kernel
theorem dX5_isMember_3 : decode cX5_isMember 3 = .ok (.invokestatic 40, 3) := by decide +kernel
theorem dX5_isMember_6 : decode cX5_isMember 6 = .ok (.ireturn, 1) := by decide +kernel
theorem dX5_isStove_0 : decode cX5_isStove 0 = .ok (.iload_n 0, 1) := by decide +kernel
theorem dX5_isStove_1 : decode cX5_isStove 1 = .ok (.iconst 0, 1) := by decide +kernel
theorem dX5_isStove_2 : decode cX5_isStove 2 = .ok (.iconst 5, 1) := by decide +kernel
theorem dX5_isStove_3 : decode cX5_isStove 3 = .ok (.invokestatic 40, 3) := by decide +kernel
theorem dX5_isStove_6 : decode cX5_isStove 6 = .ok (.ireturn, 1) := by decide +kernel
theorem dX5_isPitch_0 : decode cX5_isPitch 0 = .ok (.iload_n 0, 1) := by decide +kernel
theorem dX5_isPitch_1 : decode cX5_isPitch 1 = .ok (.iconst 1, 1) := by decide +kernel
theorem dX5_isPitch_2 : decode cX5_isPitch 2 = .ok (.bipush 12, 2) := by decide +kernel
theorem dX5_isPitch_4 : decode cX5_isPitch 4 = .ok (.invokestatic 40, 3) := by decide +kernel
theorem dX5_isPitch_7 : decode cX5_isPitch 7 = .ok (.ireturn, 1) := by decide +kernel
theorem dX5_ownerOf_0 : decode cX5_ownerOf 0 = .ok (.aload_n 0, 1) := by decide +kernel
theorem dX5_ownerOf_1 : decode cX5_ownerOf 1 = .ok (.getfield 9, 3) := by decide +kernel
theorem dX5_ownerOf_4 : decode cX5_ownerOf 4 = .ok (.bipush 17, 2) := by decide +kernel
theorem dX5_ownerOf_6 : decode cX5_ownerOf 6 = .ok (.iload_n 1, 1) := by decide +kernel
theorem dX5_ownerOf_7 : decode cX5_ownerOf 7 = .ok (.iadd, 1) := by decide +kernel
theorem dX5_ownerOf_8 : decode cX5_ownerOf 8 = .ok (.iconst 1, 1) := by decide +kernel
theorem dX5_ownerOf_9 : decode cX5_ownerOf 9 = .ok (.isub, 1) := by decide +kernel
theorem dX5_ownerOf_10 : decode cX5_ownerOf 10 = .ok (.iaload, 1) := by decide +kernel
theorem dX5_ownerOf_11 : decode cX5_ownerOf 11 = .ok (.iconst 1, 1) := by decide +kernel
theorem dX5_ownerOf_12 : decode cX5_ownerOf 12 = .ok (.isub, 1) := by decide +kernel
theorem dX5_ownerOf_13 : decode cX5_ownerOf 13 = .ok (.ireturn, 1) := by decide +kernel
theorem dX5_pitchesOf_0 : decode cX5_pitchesOf 0 = .ok (.iconst 0, 1) := by decide +kernel
theorem dX5_pitchesOf_1 : decode cX5_pitchesOf 1 = .ok (.istore_n 2, 1) := by decide +kernel
theorem dX5_pitchesOf_2 : decode cX5_pitchesOf 2 = .ok (.iconst 1, 1) := by decide +kernel
theorem dX5_pitchesOf_3 : decode cX5_pitchesOf 3 = .ok (.istore_n 3, 1) := by decide +kernel
theorem dX5_pitchesOf_4 : decode cX5_pitchesOf 4 = .ok (.iload_n 3, 1) := by decide +kernel
theorem dX5_pitchesOf_5 : decode cX5_pitchesOf 5 = .ok (.bipush 13, 2) := by decide +kernel
theorem dX5_pitchesOf_7 : decode cX5_pitchesOf 7 = .ok (.if_icmp .ge 26, 3) := by decide +kernel
theorem dX5_pitchesOf_10 : decode cX5_pitchesOf 10 = .ok (.iload_n 2, 1) := by decide +kernel
theorem dX5_pitchesOf_11 : decode cX5_pitchesOf 11 = .ok (.aload_n 0, 1) := by decide +kernel
theorem dX5_pitchesOf_12 : decode cX5_pitchesOf 12 = .ok (.iload_n 3, 1) := by decide +kernel
theorem dX5_pitchesOf_13 : decode cX5_pitchesOf 13 = .ok (.invokevirtual 44, 3) := by decide +kernel
theorem dX5_pitchesOf_16 : decode cX5_pitchesOf 16 = .ok (.iload_n 1, 1) := by decide +kernel
theorem dX5_pitchesOf_17 : decode cX5_pitchesOf 17 = .ok (.if_icmp .ne 7, 3) := by decide +kernel
theorem dX5_pitchesOf_20 : decode cX5_pitchesOf 20 = .ok (.iconst 1, 1) := by decide +kernel
theorem dX5_pitchesOf_21 : decode cX5_pitchesOf 21 = .ok (.goto 4, 3) := by decide +kernel
theorem dX5_pitchesOf_24 : decode cX5_pitchesOf 24 = .ok (.iconst 0, 1) := by decide +kernel
theorem dX5_pitchesOf_25 : decode cX5_pitchesOf 25 = .ok (.iadd, 1) := by decide +kernel
theorem dX5_pitchesOf_26 : decode cX5_pitchesOf 26 = .ok (.istore_n 2, 1) := by decide +kernel
theorem dX5_pitchesOf_27 : decode cX5_pitchesOf 27 = .ok (.iinc 3 1, 3) := by decide +kernel
theorem dX5_pitchesOf_30 : decode cX5_pitchesOf 30 = .ok (.goto (-26), 3) := by decide +kernel
theorem dX5_pitchesOf_33 : decode cX5_pitchesOf 33 = .ok (.iload_n 2, 1) := by decide +kernel
theorem dX5_pitchesOf_34 : decode cX5_pitchesOf 34 = .ok (.ireturn, 1) := by decide +kernel
theorem dX5_isOnStove_0 : decode cX5_isOnStove 0 = .ok (.aload_n 0, 1) := by decide +kernel
theorem dX5_isOnStove_1 : decode cX5_isOnStove 1 = .ok (.iload_n 1, 1) := by decide +kernel
theorem dX5_isOnStove_2 : decode cX5_isOnStove 2 = .ok (.iconst 5, 1) := by decide +kernel
theorem dX5_isOnStove_3 : decode cX5_isOnStove 3 = .ok (.invokevirtual 48, 3) := by decide +kernel
theorem dX5_isOnStove_6 : decode cX5_isOnStove 6 = .ok (.ifCond .le 7, 3) := by decide +kernel
theorem dX5_isOnStove_9 : decode cX5_isOnStove 9 = .ok (.iconst 1, 1) := by decide +kernel
theorem dX5_isOnStove_10 : decode cX5_isOnStove 10 = .ok (.goto 4, 3) := by decide +kernel
theorem dX5_isOnStove_13 : decode cX5_isOnStove 13 = .ok (.iconst 0, 1) := by decide +kernel
theorem dX5_isOnStove_14 : decode cX5_isOnStove 14 = .ok (.ireturn, 1) := by decide +kernel
theorem dX5_heatUnder_0 : decode cX5_heatUnder 0 = .ok (.aload_n 0, 1) := by decide +kernel
theorem dX5_heatUnder_1 : decode cX5_heatUnder 1 = .ok (.iload_n 1, 1) := by decide +kernel
theorem dX5_heatUnder_2 : decode cX5_heatUnder 2 = .ok (.invokevirtual 52, 3) := by decide +kernel
theorem dX5_heatUnder_5 : decode cX5_heatUnder 5 = .ok (.ifCond .eq 22, 3) := by decide +kernel
theorem dX5_heatUnder_8 : decode cX5_heatUnder 8 = .ok (.aload_n 0, 1) := by decide +kernel
theorem dX5_heatUnder_9 : decode cX5_heatUnder 9 = .ok (.getfield 9, 3) := by decide +kernel
theorem dX5_heatUnder_12 : decode cX5_heatUnder 12 = .ok (.bipush 29, 2) := by decide +kernel
theorem dX5_heatUnder_14 : decode cX5_heatUnder 14 = .ok (.aload_n 0, 1) := by decide +kernel
theorem dX5_heatUnder_15 : decode cX5_heatUnder 15 = .ok (.iload_n 1, 1) := by decide +kernel
theorem dX5_heatUnder_16 : decode cX5_heatUnder 16 = .ok (.iconst 5, 1) := by decide +kernel
theorem dX5_heatUnder_17 : decode cX5_heatUnder 17 = .ok (.invokevirtual 48, 3) := by decide +kernel
theorem dX5_heatUnder_20 : decode cX5_heatUnder 20 = .ok (.iadd, 1) := by decide +kernel
theorem dX5_heatUnder_21 : decode cX5_heatUnder 21 = .ok (.iconst 1, 1) := by decide +kernel
theorem dX5_heatUnder_22 : decode cX5_heatUnder 22 = .ok (.isub, 1) := by decide +kernel
theorem dX5_heatUnder_23 : decode cX5_heatUnder 23 = .ok (.iaload, 1) := by decide +kernel
theorem dX5_heatUnder_24 : decode cX5_heatUnder 24 = .ok (.goto 4, 3) := by decide +kernel
theorem dX5_heatUnder_27 : decode cX5_heatUnder 27 = .ok (.iconst 0, 1) := by decide +kernel
theorem dX5_heatUnder_28 : decode cX5_heatUnder 28 = .ok (.ireturn, 1) := by decide +kernel
theorem dX5_boils_0 : decode cX5_boils 0 = .ok (.aload_n 0, 1) := by decide +kernel
theorem dX5_boils_1 : decode cX5_boils 1 = .ok (.iload_n 1, 1) := by decide +kernel
theorem dX5_boils_2 : decode cX5_boils 2 = .ok (.invokevirtual 56, 3) := by decide +kernel
theorem dX5_boils_5 : decode cX5_boils 5 = .ok (.ifCond .le 18, 3) := by decide +kernel
theorem dX5_boils_8 : decode cX5_boils 8 = .ok (.aload_n 0, 1) := by decide +kernel
theorem dX5_boils_9 : decode cX5_boils 9 = .ok (.iload_n 1, 1) := by decide +kernel
theorem dX5_boils_10 : decode cX5_boils 10 = .ok (.iconst 3, 1) := by decide +kernel
theorem dX5_boils_11 : decode cX5_boils 11 = .ok (.invokevirtual 48, 3) := by decide +kernel
theorem dX5_boils_14 : decode cX5_boils 14 = .ok (.bipush 100, 2) := by decide +kernel
theorem dX5_boils_16 : decode cX5_boils 16 = .ok (.if_icmp .ne 7, 3) := by decide +kernel
theorem dX5_boils_19 : decode cX5_boils 19 = .ok (.iconst 1, 1) := by decide +kernel
theorem dX5_boils_20 : decode cX5_boils 20 = .ok (.goto 4, 3) := by decide +kernel
theorem dX5_boils_23 : decode cX5_boils 23 = .ok (.iconst 0, 1) := by decide +kernel
theorem dX5_boils_24 : decode cX5_boils 24 = .ok (.ireturn, 1) := by decide +kernel
theorem dX5_whistles_0 : decode cX5_whistles 0 = .ok (.aload_n 0, 1) := by decide +kernel
theorem dX5_whistles_1 : decode cX5_whistles 1 = .ok (.iload_n 1, 1) := by decide +kernel
theorem dX5_whistles_2 : decode cX5_whistles 2 = .ok (.invokevirtual 59, 3) := by decide +kernel
theorem dX5_whistles_5 : decode cX5_whistles 5 = .ok (.ifCond .eq 26, 3) := by decide +kernel
theorem dX5_whistles_8 : decode cX5_whistles 8 = .ok (.aload_n 0, 1) := by decide +kernel
theorem dX5_whistles_9 : decode cX5_whistles 9 = .ok (.iload_n 1, 1) := by decide +kernel
theorem dX5_whistles_10 : decode cX5_whistles 10 = .ok (.iconst 2, 1) := by decide +kernel
theorem dX5_whistles_11 : decode cX5_whistles 11 = .ok (.invokevirtual 48, 3) := by decide +kernel
theorem dX5_whistles_14 : decode cX5_whistles 14 = .ok (.ifCond .le 17, 3) := by decide +kernel
theorem dX5_whistles_17 : decode cX5_whistles 17 = .ok (.aload_n 0, 1) := by decide +kernel
theorem dX5_whistles_18 : decode cX5_whistles 18 = .ok (.iload_n 1, 1) := by decide +kernel
theorem dX5_whistles_19 : decode cX5_whistles 19 = .ok (.iconst 4, 1) := by decide +kernel
theorem dX5_whistles_20 : decode cX5_whistles 20 = .ok (.invokevirtual 48, 3) := by decide +kernel
theorem dX5_whistles_23 : decode cX5_whistles 23 = .ok (.iconst 1, 1) := by decide +kernel
theorem dX5_whistles_24 : decode cX5_whistles 24 = .ok (.if_icmp .ne 7, 3) := by decide +kernel
theorem dX5_whistles_27 : decode cX5_whistles 27 = .ok (.iconst 1, 1) := by decide +kernel
theorem dX5_whistles_28 : decode cX5_whistles 28 = .ok (.goto 4, 3) := by decide +kernel
theorem dX5_whistles_31 : decode cX5_whistles 31 = .ok (.iconst 0, 1) := by decide +kernel
theorem dX5_whistles_32 : decode cX5_whistles 32 = .ok (.ireturn, 1) := by decide +kernel
theorem dX5_onStoves_0 : decode cX5_onStoves 0 = .ok (.iconst 0, 1) := by decide +kernel
theorem dX5_onStoves_1 : decode cX5_onStoves 1 = .ok (.istore_n 1, 1) := by decide +kernel
theorem dX5_onStoves_2 : decode cX5_onStoves 2 = .ok (.iconst 0, 1) := by decide +kernel
theorem dX5_onStoves_3 : decode cX5_onStoves 3 = .ok (.istore_n 2, 1) := by decide +kernel
theorem dX5_onStoves_4 : decode cX5_onStoves 4 = .ok (.iload_n 2, 1) := by decide +kernel
theorem dX5_onStoves_5 : decode cX5_onStoves 5 = .ok (.aload_n 0, 1) := by decide +kernel
theorem dX5_onStoves_6 : decode cX5_onStoves 6 = .ok (.getfield 9, 3) := by decide +kernel
theorem dX5_onStoves_9 : decode cX5_onStoves 9 = .ok (.iconst 1, 1) := by decide +kernel
theorem dX5_onStoves_10 : decode cX5_onStoves 10 = .ok (.iaload, 1) := by decide +kernel
theorem dX5_onStoves_11 : decode cX5_onStoves 11 = .ok (.if_icmp .ge 25, 3) := by decide +kernel
theorem dX5_onStoves_14 : decode cX5_onStoves 14 = .ok (.iload_n 1, 1) := by decide +kernel
theorem dX5_onStoves_15 : decode cX5_onStoves 15 = .ok (.aload_n 0, 1) := by decide +kernel
theorem dX5_onStoves_16 : decode cX5_onStoves 16 = .ok (.iload_n 2, 1) := by decide +kernel
theorem dX5_onStoves_17 : decode cX5_onStoves 17 = .ok (.invokevirtual 52, 3) := by decide +kernel
theorem dX5_onStoves_20 : decode cX5_onStoves 20 = .ok (.ifCond .eq 7, 3) := by decide +kernel
theorem dX5_onStoves_23 : decode cX5_onStoves 23 = .ok (.iconst 1, 1) := by decide +kernel
theorem dX5_onStoves_24 : decode cX5_onStoves 24 = .ok (.goto 4, 3) := by decide +kernel
theorem dX5_onStoves_27 : decode cX5_onStoves 27 = .ok (.iconst 0, 1) := by decide +kernel
theorem dX5_onStoves_28 : decode cX5_onStoves 28 = .ok (.iadd, 1) := by decide +kernel
theorem dX5_onStoves_29 : decode cX5_onStoves 29 = .ok (.istore_n 1, 1) := by decide +kernel
theorem dX5_onStoves_30 : decode cX5_onStoves 30 = .ok (.iinc 2 1, 3) := by decide +kernel
theorem dX5_onStoves_33 : decode cX5_onStoves 33 = .ok (.goto (-29), 3) := by decide +kernel
theorem dX5_onStoves_36 : decode cX5_onStoves 36 = .ok (.iload_n 1, 1) := by decide +kernel
theorem dX5_onStoves_37 : decode cX5_onStoves 37 = .ok (.ireturn, 1) := by decide +kernel
theorem dX5_lidsOn_0 : decode cX5_lidsOn 0 = .ok (.iconst 0, 1) := by decide +kernel
theorem dX5_lidsOn_1 : decode cX5_lidsOn 1 = .ok (.istore_n 1, 1) := by decide +kernel
theorem dX5_lidsOn_2 : decode cX5_lidsOn 2 = .ok (.iconst 0, 1) := by decide +kernel
theorem dX5_lidsOn_3 : decode cX5_lidsOn 3 = .ok (.istore_n 2, 1) := by decide +kernel
theorem dX5_lidsOn_4 : decode cX5_lidsOn 4 = .ok (.iload_n 2, 1) := by decide +kernel
theorem dX5_lidsOn_5 : decode cX5_lidsOn 5 = .ok (.aload_n 0, 1) := by decide +kernel
theorem dX5_lidsOn_6 : decode cX5_lidsOn 6 = .ok (.getfield 9, 3) := by decide +kernel
theorem dX5_lidsOn_9 : decode cX5_lidsOn 9 = .ok (.iconst 1, 1) := by decide +kernel
theorem dX5_lidsOn_10 : decode cX5_lidsOn 10 = .ok (.iaload, 1) := by decide +kernel
theorem dX5_lidsOn_11 : decode cX5_lidsOn 11 = .ok (.if_icmp .ge 18, 3) := by decide +kernel
theorem dX5_lidsOn_14 : decode cX5_lidsOn 14 = .ok (.iload_n 1, 1) := by decide +kernel
theorem dX5_lidsOn_15 : decode cX5_lidsOn 15 = .ok (.aload_n 0, 1) := by decide +kernel
theorem dX5_lidsOn_16 : decode cX5_lidsOn 16 = .ok (.iload_n 2, 1) := by decide +kernel
theorem dX5_lidsOn_17 : decode cX5_lidsOn 17 = .ok (.iconst 4, 1) := by decide +kernel
theorem dX5_lidsOn_18 : decode cX5_lidsOn 18 = .ok (.invokevirtual 48, 3) := by decide +kernel
theorem dX5_lidsOn_21 : decode cX5_lidsOn 21 = .ok (.iadd, 1) := by decide +kernel
theorem dX5_lidsOn_22 : decode cX5_lidsOn 22 = .ok (.istore_n 1, 1) := by decide +kernel
theorem dX5_lidsOn_23 : decode cX5_lidsOn 23 = .ok (.iinc 2 1, 3) := by decide +kernel
theorem dX5_lidsOn_26 : decode cX5_lidsOn 26 = .ok (.goto (-22), 3) := by decide +kernel
theorem dX5_lidsOn_29 : decode cX5_lidsOn 29 = .ok (.iload_n 1, 1) := by decide +kernel
theorem dX5_lidsOn_30 : decode cX5_lidsOn 30 = .ok (.ireturn, 1) := by decide +kernel
theorem dX5_kettleOn_0 : decode cX5_kettleOn 0 = .ok (.iconst 0, 1) := by decide +kernel
theorem dX5_kettleOn_1 : decode cX5_kettleOn 1 = .ok (.istore_n 2, 1) := by decide +kernel
theorem dX5_kettleOn_2 : decode cX5_kettleOn 2 = .ok (.iload_n 2, 1) := by decide +kernel
theorem dX5_kettleOn_3 : decode cX5_kettleOn 3 = .ok (.aload_n 0, 1) := by decide +kernel
theorem dX5_kettleOn_4 : decode cX5_kettleOn 4 = .ok (.getfield 9, 3) := by decide +kernel
theorem dX5_kettleOn_7 : decode cX5_kettleOn 7 = .ok (.iconst 1, 1) := by decide +kernel
theorem dX5_kettleOn_8 : decode cX5_kettleOn 8 = .ok (.iaload, 1) := by decide +kernel
theorem dX5_kettleOn_9 : decode cX5_kettleOn 9 = .ok (.if_icmp .ge 23, 3) := by decide +kernel
theorem dX5_kettleOn_12 : decode cX5_kettleOn 12 = .ok (.aload_n 0, 1) := by decide +kernel
theorem dX5_kettleOn_13 : decode cX5_kettleOn 13 = .ok (.iload_n 2, 1) := by decide +kernel
theorem dX5_kettleOn_14 : decode cX5_kettleOn 14 = .ok (.iconst 5, 1) := by decide +kernel
theorem dX5_kettleOn_15 : decode cX5_kettleOn 15 = .ok (.invokevirtual 48, 3) := by decide +kernel
theorem dX5_kettleOn_18 : decode cX5_kettleOn 18 = .ok (.iload_n 1, 1) := by decide +kernel
theorem dX5_kettleOn_19 : decode cX5_kettleOn 19 = .ok (.iconst 1, 1) := by decide +kernel
theorem dX5_kettleOn_20 : decode cX5_kettleOn 20 = .ok (.iadd, 1) := by decide +kernel
theorem dX5_kettleOn_21 : decode cX5_kettleOn 21 = .ok (.if_icmp .ne 5, 3) := by decide +kernel
theorem dX5_kettleOn_24 : decode cX5_kettleOn 24 = .ok (.iload_n 2, 1) := by decide +kernel
theorem dX5_kettleOn_25 : decode cX5_kettleOn 25 = .ok (.ireturn, 1) := by decide +kernel
theorem dX5_kettleOn_26 : decode cX5_kettleOn 26 = .ok (.iinc 2 1, 3) := by decide +kernel
theorem dX5_kettleOn_29 : decode cX5_kettleOn 29 = .ok (.goto (-27), 3) := by decide +kernel
theorem dX5_kettleOn_32 : decode cX5_kettleOn 32 = .ok (.iconst (-1), 1) := by decide +kernel
theorem dX5_kettleOn_33 : decode cX5_kettleOn 33 = .ok (.ireturn, 1) := by decide +kernel
theorem dX5_stoveWith_0 : decode cX5_stoveWith 0 = .ok (.iconst 0, 1) := by decide +kernel
theorem dX5_stoveWith_1 : decode cX5_stoveWith 1 = .ok (.istore_n 2, 1) := by decide +kernel
theorem dX5_stoveWith_2 : decode cX5_stoveWith 2 = .ok (.iload_n 2, 1) := by decide +kernel
theorem dX5_stoveWith_3 : decode cX5_stoveWith 3 = .ok (.aload_n 0, 1) := by decide +kernel
theorem dX5_stoveWith_4 : decode cX5_stoveWith 4 = .ok (.getfield 9, 3) := by decide +kernel
theorem dX5_stoveWith_7 : decode cX5_stoveWith 7 = .ok (.iconst 1, 1) := by decide +kernel
theorem dX5_stoveWith_8 : decode cX5_stoveWith 8 = .ok (.iaload, 1) := by decide +kernel
theorem dX5_stoveWith_9 : decode cX5_stoveWith 9 = .ok (.if_icmp .ge 36, 3) := by decide +kernel
theorem dX5_stoveWith_12 : decode cX5_stoveWith 12 = .ok (.aload_n 0, 1) := by decide +kernel
theorem dX5_stoveWith_13 : decode cX5_stoveWith 13 = .ok (.iload_n 2, 1) := by decide +kernel
theorem dX5_stoveWith_14 : decode cX5_stoveWith 14 = .ok (.invokevirtual 52, 3) := by decide +kernel
theorem dX5_stoveWith_17 : decode cX5_stoveWith 17 = .ok (.ifCond .eq 22, 3) := by decide +kernel
theorem dX5_stoveWith_20 : decode cX5_stoveWith 20 = .ok (.aload_n 0, 1) := by decide +kernel
theorem dX5_stoveWith_21 : decode cX5_stoveWith 21 = .ok (.iload_n 2, 1) := by decide +kernel
theorem dX5_stoveWith_22 : decode cX5_stoveWith 22 = .ok (.iconst 1, 1) := by decide +kernel
theorem dX5_stoveWith_23 : decode cX5_stoveWith 23 = .ok (.invokevirtual 48, 3) := by decide +kernel
theorem dX5_stoveWith_26 : decode cX5_stoveWith 26 = .ok (.iload_n 1, 1) := by decide +kernel
theorem dX5_stoveWith_27 : decode cX5_stoveWith 27 = .ok (.if_icmp .ne 12, 3) := by decide +kernel
theorem dX5_stoveWith_30 : decode cX5_stoveWith 30 = .ok (.aload_n 0, 1) := by decide +kernel
theorem dX5_stoveWith_31 : decode cX5_stoveWith 31 = .ok (.iload_n 2, 1) := by decide +kernel
theorem dX5_stoveWith_32 : decode cX5_stoveWith 32 = .ok (.iconst 5, 1) := by decide +kernel
theorem dX5_stoveWith_33 : decode cX5_stoveWith 33 = .ok (.invokevirtual 48, 3) := by decide +kernel
theorem dX5_stoveWith_36 : decode cX5_stoveWith 36 = .ok (.iconst 1, 1) := by decide +kernel
theorem dX5_stoveWith_37 : decode cX5_stoveWith 37 = .ok (.isub, 1) := by decide +kernel
theorem dX5_stoveWith_38 : decode cX5_stoveWith 38 = .ok (.ireturn, 1) := by decide +kernel
theorem dX5_stoveWith_39 : decode cX5_stoveWith 39 = .ok (.iinc 2 1, 3) := by decide +kernel
theorem dX5_stoveWith_42 : decode cX5_stoveWith 42 = .ok (.goto (-40), 3) := by decide +kernel
theorem dX5_stoveWith_45 : decode cX5_stoveWith 45 = .ok (.iconst (-1), 1) := by decide +kernel
theorem dX5_stoveWith_46 : decode cX5_stoveWith 46 = .ok (.ireturn, 1) := by decide +kernel
theorem dX5_owns_0 : decode cX5_owns 0 = .ok (.iload_n 1, 1) := by decide +kernel
theorem dX5_owns_1 : decode cX5_owns 1 = .ok (.invokestatic 62, 3) := by decide +kernel
theorem dX5_owns_4 : decode cX5_owns 4 = .ok (.ifCond .ne 7, 3) := by decide +kernel
theorem dX5_owns_7 : decode cX5_owns 7 = .ok (.sipush (-1011), 3) := by decide +kernel
theorem dX5_owns_10 : decode cX5_owns 10 = .ok (.ireturn, 1) := by decide +kernel
theorem dX5_owns_11 : decode cX5_owns 11 = .ok (.iload_n 2, 1) := by decide +kernel
theorem dX5_owns_12 : decode cX5_owns 12 = .ok (.invokestatic 65, 3) := by decide +kernel
theorem dX5_owns_15 : decode cX5_owns 15 = .ok (.ifCond .ne 7, 3) := by decide +kernel
theorem dX5_owns_18 : decode cX5_owns 18 = .ok (.sipush (-1012), 3) := by decide +kernel
theorem dX5_owns_21 : decode cX5_owns 21 = .ok (.ireturn, 1) := by decide +kernel
theorem dX5_owns_22 : decode cX5_owns 22 = .ok (.aload_n 0, 1) := by decide +kernel
theorem dX5_owns_23 : decode cX5_owns 23 = .ok (.aload_n 0, 1) := by decide +kernel
theorem dX5_owns_24 : decode cX5_owns 24 = .ok (.iload_n 2, 1) := by decide +kernel
theorem dX5_owns_25 : decode cX5_owns 25 = .ok (.invokevirtual 44, 3) := by decide +kernel
theorem dX5_owns_28 : decode cX5_owns 28 = .ok (.ifCond .lt 7, 3) := by decide +kernel
theorem dX5_owns_31 : decode cX5_owns 31 = .ok (.iconst 1, 1) := by decide +kernel
theorem dX5_owns_32 : decode cX5_owns 32 = .ok (.goto 4, 3) := by decide +kernel
theorem dX5_owns_35 : decode cX5_owns 35 = .ok (.iconst 0, 1) := by decide +kernel
theorem dX5_owns_36 : decode cX5_owns 36 = .ok (.iconst 2, 1) := by decide +kernel
theorem dX5_owns_37 : decode cX5_owns 37 = .ok (.aload_n 0, 1) := by decide +kernel
theorem dX5_owns_38 : decode cX5_owns 38 = .ok (.iload_n 2, 1) := by decide +kernel
theorem dX5_owns_39 : decode cX5_owns 39 = .ok (.invokevirtual 44, 3) := by decide +kernel
theorem dX5_owns_42 : decode cX5_owns 42 = .ok (.invokevirtual 68, 3) := by decide +kernel
theorem dX5_owns_45 : decode cX5_owns 45 = .ok (.ifCond .ne 26, 3) := by decide +kernel
theorem dX5_owns_48 : decode cX5_owns 48 = .ok (.aload_n 0, 1) := by decide +kernel
theorem dX5_owns_49 : decode cX5_owns 49 = .ok (.aload_n 0, 1) := by decide +kernel
theorem dX5_owns_50 : decode cX5_owns 50 = .ok (.iload_n 1, 1) := by decide +kernel
theorem dX5_owns_51 : decode cX5_owns 51 = .ok (.invokevirtual 72, 3) := by decide +kernel
theorem dX5_owns_54 : decode cX5_owns 54 = .ok (.iconst 4, 1) := by decide +kernel
theorem dX5_owns_55 : decode cX5_owns 55 = .ok (.if_icmp .ne 7, 3) := by decide +kernel
theorem dX5_owns_58 : decode cX5_owns 58 = .ok (.iconst 1, 1) := by decide +kernel
theorem dX5_owns_59 : decode cX5_owns 59 = .ok (.goto 4, 3) := by decide +kernel
theorem dX5_owns_62 : decode cX5_owns 62 = .ok (.iconst 0, 1) := by decide +kernel
theorem dX5_owns_63 : decode cX5_owns 63 = .ok (.iconst 1, 1) := by decide +kernel
theorem dX5_owns_64 : decode cX5_owns 64 = .ok (.iconst 4, 1) := by decide +kernel
theorem dX5_owns_65 : decode cX5_owns 65 = .ok (.invokevirtual 68, 3) := by decide +kernel
theorem dX5_owns_68 : decode cX5_owns 68 = .ok (.ifCond .eq 7, 3) := by decide +kernel
theorem dX5_owns_71 : decode cX5_owns 71 = .ok (.sipush (-1014), 3) := by decide +kernel
theorem dX5_owns_74 : decode cX5_owns 74 = .ok (.ireturn, 1) := by decide +kernel
theorem dX5_owns_75 : decode cX5_owns 75 = .ok (.aload_n 0, 1) := by decide +kernel
theorem dX5_owns_76 : decode cX5_owns 76 = .ok (.getfield 9, 3) := by decide +kernel
theorem dX5_owns_79 : decode cX5_owns 79 = .ok (.bipush 17, 2) := by decide +kernel
theorem dX5_owns_81 : decode cX5_owns 81 = .ok (.iload_n 2, 1) := by decide +kernel
theorem dX5_owns_82 : decode cX5_owns 82 = .ok (.iadd, 1) := by decide +kernel
theorem dX5_owns_83 : decode cX5_owns 83 = .ok (.iconst 1, 1) := by decide +kernel
theorem dX5_owns_84 : decode cX5_owns 84 = .ok (.isub, 1) := by decide +kernel
theorem dX5_owns_85 : decode cX5_owns 85 = .ok (.iload_n 1, 1) := by decide +kernel
theorem dX5_owns_86 : decode cX5_owns 86 = .ok (.iconst 1, 1) := by decide +kernel
theorem dX5_owns_87 : decode cX5_owns 87 = .ok (.iadd, 1) := by decide +kernel
theorem dX5_owns_88 : decode cX5_owns 88 = .ok (.iastore, 1) := by decide +kernel
theorem dX5_owns_89 : decode cX5_owns 89 = .ok (.aload_n 0, 1) := by decide +kernel
theorem dX5_owns_90 : decode cX5_owns 90 = .ok (.iload_n 1, 1) := by decide +kernel
theorem dX5_owns_91 : decode cX5_owns 91 = .ok (.invokevirtual 72, 3) := by decide +kernel
theorem dX5_owns_94 : decode cX5_owns 94 = .ok (.ireturn, 1) := by decide +kernel
theorem dX5_own_0 : decode cX5_own 0 = .ok (.aload_n 0, 1) := by decide +kernel
theorem dX5_own_1 : decode cX5_own 1 = .ok (.invokevirtual 75, 3) := by decide +kernel
theorem dX5_own_4 : decode cX5_own 4 = .ok (.aload_n 0, 1) := by decide +kernel
theorem dX5_own_5 : decode cX5_own 5 = .ok (.aload_n 0, 1) := by decide +kernel
theorem dX5_own_6 : decode cX5_own 6 = .ok (.iload_n 1, 1) := by decide +kernel
theorem dX5_own_7 : decode cX5_own 7 = .ok (.iload_n 2, 1) := by decide +kernel
theorem dX5_own_8 : decode cX5_own 8 = .ok (.invokevirtual 78, 3) := by decide +kernel
theorem dX5_own_11 : decode cX5_own 11 = .ok (.invokevirtual 81, 3) := by decide +kernel
theorem dX5_own_14 : decode cX5_own 14 = .ok (.ireturn, 1) := by decide +kernel
theorem dX5_brings_0 : decode cX5_brings 0 = .ok (.iload_n 1, 1) := by decide +kernel
theorem dX5_brings_1 : decode cX5_brings 1 = .ok (.invokestatic 62, 3) := by decide +kernel
theorem dX5_brings_4 : decode cX5_brings 4 = .ok (.ifCond .ne 7, 3) := by decide +kernel
theorem dX5_brings_7 : decode cX5_brings 7 = .ok (.sipush (-1011), 3) := by decide +kernel
theorem dX5_brings_10 : decode cX5_brings 10 = .ok (.ireturn, 1) := by decide +kernel
theorem dX5_brings_11 : decode cX5_brings 11 = .ok (.iload_n 2, 1) := by decide +kernel
theorem dX5_brings_12 : decode cX5_brings 12 = .ok (.invokestatic 65, 3) := by decide +kernel
theorem dX5_brings_15 : decode cX5_brings 15 = .ok (.ifCond .eq 13, 3) := by decide +kernel
theorem dX5_brings_18 : decode cX5_brings 18 = .ok (.iload_n 3, 1) := by decide +kernel
theorem dX5_brings_19 : decode cX5_brings 19 = .ok (.iconst 0, 1) := by decide +kernel
theorem dX5_brings_20 : decode cX5_brings 20 = .ok (.bipush 20, 2) := by decide +kernel
theorem dX5_brings_22 : decode cX5_brings 22 = .ok (.invokestatic 40, 3) := by decide +kernel
theorem dX5_brings_25 : decode cX5_brings 25 = .ok (.ifCond .ne 7, 3) := by decide +kernel
theorem dX5_brings_28 : decode cX5_brings 28 = .ok (.sipush (-1012), 3) := by decide +kernel
theorem dX5_brings_31 : decode cX5_brings 31 = .ok (.ireturn, 1) := by decide +kernel
theorem dX5_brings_32 : decode cX5_brings 32 = .ok (.aload_n 0, 1) := by decide +kernel
theorem dX5_brings_33 : decode cX5_brings 33 = .ok (.getfield 9, 3) := by decide +kernel
theorem dX5_brings_36 : decode cX5_brings 36 = .ok (.iconst 1, 1) := by decide +kernel
theorem dX5_brings_37 : decode cX5_brings 37 = .ok (.iaload, 1) := by decide +kernel
theorem dX5_brings_38 : decode cX5_brings 38 = .ok (.istore 4, 2) := by decide +kernel
theorem dX5_brings_40 : decode cX5_brings 40 = .ok (.aload_n 0, 1) := by decide +kernel
theorem dX5_brings_41 : decode cX5_brings 41 = .ok (.aload_n 0, 1) := by decide +kernel
theorem dX5_brings_42 : decode cX5_brings 42 = .ok (.iload_n 2, 1) := by decide +kernel
theorem dX5_brings_43 : decode cX5_brings 43 = .ok (.invokevirtual 44, 3) := by decide +kernel
theorem dX5_brings_46 : decode cX5_brings 46 = .ok (.iload_n 1, 1) := by decide +kernel
theorem dX5_brings_47 : decode cX5_brings 47 = .ok (.if_icmp .eq 7, 3) := by decide +kernel
theorem dX5_brings_50 : decode cX5_brings 50 = .ok (.iconst 1, 1) := by decide +kernel
theorem dX5_brings_51 : decode cX5_brings 51 = .ok (.goto 4, 3) := by decide +kernel
theorem dX5_brings_54 : decode cX5_brings 54 = .ok (.iconst 0, 1) := by decide +kernel
theorem dX5_brings_55 : decode cX5_brings 55 = .ok (.iconst 3, 1) := by decide +kernel
theorem dX5_brings_56 : decode cX5_brings 56 = .ok (.aload_n 0, 1) := by decide +kernel
theorem dX5_brings_57 : decode cX5_brings 57 = .ok (.iload_n 2, 1) := by decide +kernel
theorem dX5_brings_58 : decode cX5_brings 58 = .ok (.invokevirtual 44, 3) := by decide +kernel
theorem dX5_brings_61 : decode cX5_brings 61 = .ok (.invokevirtual 68, 3) := by decide +kernel
theorem dX5_brings_64 : decode cX5_brings 64 = .ok (.ifCond .ne 25, 3) := by decide +kernel
theorem dX5_brings_67 : decode cX5_brings 67 = .ok (.aload_n 0, 1) := by decide +kernel
theorem dX5_brings_68 : decode cX5_brings 68 = .ok (.iload 4, 2) := by decide +kernel
theorem dX5_brings_70 : decode cX5_brings 70 = .ok (.bipush 10, 2) := by decide +kernel
theorem dX5_brings_72 : decode cX5_brings 72 = .ok (.if_icmp .ne 7, 3) := by decide +kernel
theorem dX5_brings_75 : decode cX5_brings 75 = .ok (.iconst 1, 1) := by decide +kernel
theorem dX5_brings_76 : decode cX5_brings 76 = .ok (.goto 4, 3) := by decide +kernel
theorem dX5_brings_79 : decode cX5_brings 79 = .ok (.iconst 0, 1) := by decide +kernel
theorem dX5_brings_80 : decode cX5_brings 80 = .ok (.iconst 1, 1) := by decide +kernel
theorem dX5_brings_81 : decode cX5_brings 81 = .ok (.bipush 10, 2) := by decide +kernel
theorem dX5_brings_83 : decode cX5_brings 83 = .ok (.invokevirtual 68, 3) := by decide +kernel
theorem dX5_brings_86 : decode cX5_brings 86 = .ok (.ifCond .eq 7, 3) := by decide +kernel
theorem dX5_brings_89 : decode cX5_brings 89 = .ok (.sipush (-1014), 3) := by decide +kernel
theorem dX5_brings_92 : decode cX5_brings 92 = .ok (.ireturn, 1) := by decide +kernel
theorem dX5_brings_93 : decode cX5_brings 93 = .ok (.aload_n 0, 1) := by decide +kernel
theorem dX5_brings_94 : decode cX5_brings 94 = .ok (.getfield 9, 3) := by decide +kernel
theorem dX5_brings_97 : decode cX5_brings 97 = .ok (.iconst 1, 1) := by decide +kernel
theorem dX5_brings_98 : decode cX5_brings 98 = .ok (.dup2, 1) := by decide +kernel
theorem dX5_brings_99 : decode cX5_brings 99 = .ok (.iaload, 1) := by decide +kernel
theorem dX5_brings_100 : decode cX5_brings 100 = .ok (.iconst 1, 1) := by decide +kernel
theorem dX5_brings_101 : decode cX5_brings 101 = .ok (.iadd, 1) := by decide +kernel
theorem dX5_brings_102 : decode cX5_brings 102 = .ok (.iastore, 1) := by decide +kernel
theorem dX5_brings_103 : decode cX5_brings 103 = .ok (.iconst 0, 1) := by decide +kernel
theorem dX5_brings_104 : decode cX5_brings 104 = .ok (.istore 5, 2) := by decide +kernel
theorem dX5_brings_106 : decode cX5_brings 106 = .ok (.iload 5, 2) := by decide +kernel
theorem dX5_brings_108 : decode cX5_brings 108 = .ok (.bipush 9, 2) := by decide +kernel
theorem dX5_brings_110 : decode cX5_brings 110 = .ok (.if_icmp .ge 18, 3) := by decide +kernel
theorem dX5_brings_113 : decode cX5_brings 113 = .ok (.aload_n 0, 1) := by decide +kernel
theorem dX5_brings_114 : decode cX5_brings 114 = .ok (.iload 4, 2) := by decide +kernel
theorem dX5_brings_116 : decode cX5_brings 116 = .ok (.iload 5, 2) := by decide +kernel
theorem dX5_brings_118 : decode cX5_brings 118 = .ok (.iconst 0, 1) := by decide +kernel
theorem dX5_brings_119 : decode cX5_brings 119 = .ok (.invokevirtual 84, 3) := by decide +kernel
theorem dX5_brings_122 : decode cX5_brings 122 = .ok (.iinc 5 1, 3) := by decide +kernel
theorem dX5_brings_125 : decode cX5_brings 125 = .ok (.goto (-19), 3) := by decide +kernel
theorem dX5_brings_128 : decode cX5_brings 128 = .ok (.aload_n 0, 1) := by decide +kernel
theorem dX5_brings_129 : decode cX5_brings 129 = .ok (.iload 4, 2) := by decide +kernel
theorem dX5_brings_131 : decode cX5_brings 131 = .ok (.iconst 0, 1) := by decide +kernel
theorem dX5_brings_132 : decode cX5_brings 132 = .ok (.iload_n 1, 1) := by decide +kernel
theorem dX5_brings_133 : decode cX5_brings 133 = .ok (.invokevirtual 84, 3) := by decide +kernel
theorem dX5_brings_136 : decode cX5_brings 136 = .ok (.aload_n 0, 1) := by decide +kernel
theorem dX5_brings_137 : decode cX5_brings 137 = .ok (.iload 4, 2) := by decide +kernel
theorem dX5_brings_139 : decode cX5_brings 139 = .ok (.iconst 1, 1) := by decide +kernel
theorem dX5_brings_140 : decode cX5_brings 140 = .ok (.iload_n 2, 1) := by decide +kernel
theorem dX5_brings_141 : decode cX5_brings 141 = .ok (.invokevirtual 84, 3) := by decide +kernel
theorem dX5_brings_144 : decode cX5_brings 144 = .ok (.aload_n 0, 1) := by decide +kernel
theorem dX5_brings_145 : decode cX5_brings 145 = .ok (.iload 4, 2) := by decide +kernel
theorem dX5_brings_147 : decode cX5_brings 147 = .ok (.iconst 2, 1) := by decide +kernel
theorem dX5_brings_148 : decode cX5_brings 148 = .ok (.iload_n 3, 1) := by decide +kernel
theorem dX5_brings_149 : decode cX5_brings 149 = .ok (.invokevirtual 84, 3) := by decide +kernel
theorem dX5_brings_152 : decode cX5_brings 152 = .ok (.aload_n 0, 1) := by decide +kernel
theorem dX5_brings_153 : decode cX5_brings 153 = .ok (.iload 4, 2) := by decide +kernel
theorem dX5_brings_155 : decode cX5_brings 155 = .ok (.iconst 3, 1) := by decide +kernel
theorem dX5_brings_156 : decode cX5_brings 156 = .ok (.bipush 20, 2) := by decide +kernel
theorem dX5_brings_158 : decode cX5_brings 158 = .ok (.invokevirtual 84, 3) := by decide +kernel
theorem dX5_brings_161 : decode cX5_brings 161 = .ok (.aload_n 0, 1) := by decide +kernel
theorem dX5_brings_162 : decode cX5_brings 162 = .ok (.iload 4, 2) := by decide +kernel
theorem dX5_brings_164 : decode cX5_brings 164 = .ok (.iconst 4, 1) := by decide +kernel
theorem dX5_brings_165 : decode cX5_brings 165 = .ok (.iconst 1, 1) := by decide +kernel
theorem dX5_brings_166 : decode cX5_brings 166 = .ok (.invokevirtual 84, 3) := by decide +kernel
theorem dX5_brings_169 : decode cX5_brings 169 = .ok (.aload_n 0, 1) := by decide +kernel
theorem dX5_brings_170 : decode cX5_brings 170 = .ok (.getfield 9, 3) := by decide +kernel
theorem dX5_brings_173 : decode cX5_brings 173 = .ok (.iconst 2, 1) := by decide +kernel
theorem dX5_brings_174 : decode cX5_brings 174 = .ok (.dup2, 1) := by decide +kernel
theorem dX5_brings_175 : decode cX5_brings 175 = .ok (.iaload, 1) := by decide +kernel
theorem dX5_brings_176 : decode cX5_brings 176 = .ok (.iload_n 3, 1) := by decide +kernel
theorem dX5_brings_177 : decode cX5_brings 177 = .ok (.iadd, 1) := by decide +kernel
theorem dX5_brings_178 : decode cX5_brings 178 = .ok (.iastore, 1) := by decide +kernel
theorem dX5_brings_179 : decode cX5_brings 179 = .ok (.iload 4, 2) := by decide +kernel
theorem dX5_brings_181 : decode cX5_brings 181 = .ok (.ireturn, 1) := by decide +kernel
theorem dX5_kettle_0 : decode cX5_kettle 0 = .ok (.aload_n 0, 1) := by decide +kernel
theorem dX5_kettle_1 : decode cX5_kettle 1 = .ok (.invokevirtual 75, 3) := by decide +kernel
theorem dX5_kettle_4 : decode cX5_kettle 4 = .ok (.aload_n 0, 1) := by decide +kernel
theorem dX5_kettle_5 : decode cX5_kettle 5 = .ok (.aload_n 0, 1) := by decide +kernel
theorem dX5_kettle_6 : decode cX5_kettle 6 = .ok (.iload_n 1, 1) := by decide +kernel
theorem dX5_kettle_7 : decode cX5_kettle 7 = .ok (.iload_n 2, 1) := by decide +kernel
theorem dX5_kettle_8 : decode cX5_kettle 8 = .ok (.iload_n 3, 1) := by decide +kernel
theorem dX5_kettle_9 : decode cX5_kettle 9 = .ok (.invokevirtual 88, 3) := by decide +kernel
theorem dX5_kettle_12 : decode cX5_kettle 12 = .ok (.invokevirtual 81, 3) := by decide +kernel
theorem dX5_kettle_15 : decode cX5_kettle 15 = .ok (.ireturn, 1) := by decide +kernel
theorem dX5_fills_0 : decode cX5_fills 0 = .ok (.aload_n 0, 1) := by decide +kernel
theorem dX5_fills_1 : decode cX5_fills 1 = .ok (.iload_n 1, 1) := by decide +kernel
theorem dX5_fills_2 : decode cX5_fills 2 = .ok (.invokevirtual 92, 3) := by decide +kernel
theorem dX5_fills_5 : decode cX5_fills 5 = .ok (.ifCond .ne 7, 3) := by decide +kernel
theorem dX5_fills_8 : decode cX5_fills 8 = .ok (.sipush (-1011), 3) := by decide +kernel
theorem dX5_fills_11 : decode cX5_fills 11 = .ok (.ireturn, 1) := by decide +kernel
theorem dX5_fills_12 : decode cX5_fills 12 = .ok (.iload_n 2, 1) := by decide +kernel
theorem dX5_fills_13 : decode cX5_fills 13 = .ok (.iconst 1, 1) := by decide +kernel
theorem dX5_fills_14 : decode cX5_fills 14 = .ok (.bipush 20, 2) := by decide +kernel
theorem dX5_fills_16 : decode cX5_fills 16 = .ok (.invokestatic 40, 3) := by decide +kernel
theorem dX5_fills_19 : decode cX5_fills 19 = .ok (.ifCond .ne 7, 3) := by decide +kernel
theorem dX5_fills_22 : decode cX5_fills 22 = .ok (.sipush (-1012), 3) := by decide +kernel
theorem dX5_fills_25 : decode cX5_fills 25 = .ok (.ireturn, 1) := by decide +kernel
theorem dX5_fills_26 : decode cX5_fills 26 = .ok (.aload_n 0, 1) := by decide +kernel
theorem dX5_fills_27 : decode cX5_fills 27 = .ok (.iload_n 1, 1) := by decide +kernel
theorem dX5_fills_28 : decode cX5_fills 28 = .ok (.iconst 2, 1) := by decide +kernel
theorem dX5_fills_29 : decode cX5_fills 29 = .ok (.invokevirtual 48, 3) := by decide +kernel
theorem dX5_fills_32 : decode cX5_fills 32 = .ok (.iload_n 2, 1) := by decide +kernel
theorem dX5_fills_33 : decode cX5_fills 33 = .ok (.iadd, 1) := by decide +kernel
theorem dX5_fills_34 : decode cX5_fills 34 = .ok (.istore_n 3, 1) := by decide +kernel
theorem dX5_fills_35 : decode cX5_fills 35 = .ok (.aload_n 0, 1) := by decide +kernel
theorem dX5_fills_36 : decode cX5_fills 36 = .ok (.iload_n 3, 1) := by decide +kernel
theorem dX5_fills_37 : decode cX5_fills 37 = .ok (.bipush 20, 2) := by decide +kernel
theorem dX5_fills_39 : decode cX5_fills 39 = .ok (.if_icmp .le 7, 3) := by decide +kernel
theorem dX5_fills_42 : decode cX5_fills 42 = .ok (.iconst 1, 1) := by decide +kernel
theorem dX5_fills_43 : decode cX5_fills 43 = .ok (.goto 4, 3) := by decide +kernel
theorem dX5_fills_46 : decode cX5_fills 46 = .ok (.iconst 0, 1) := by decide +kernel
theorem dX5_fills_47 : decode cX5_fills 47 = .ok (.bipush 11, 2) := by decide +kernel
theorem dX5_fills_49 : decode cX5_fills 49 = .ok (.iload_n 3, 1) := by decide +kernel
theorem dX5_fills_50 : decode cX5_fills 50 = .ok (.invokevirtual 68, 3) := by decide +kernel
theorem dX5_fills_53 : decode cX5_fills 53 = .ok (.ifCond .eq 7, 3) := by decide +kernel
theorem dX5_fills_56 : decode cX5_fills 56 = .ok (.sipush (-1014), 3) := by decide +kernel
theorem dX5_fills_59 : decode cX5_fills 59 = .ok (.ireturn, 1) := by decide +kernel
theorem dX5_fills_60 : decode cX5_fills 60 = .ok (.aload_n 0, 1) := by decide +kernel
theorem dX5_fills_61 : decode cX5_fills 61 = .ok (.iload_n 1, 1) := by decide +kernel
theorem dX5_fills_62 : decode cX5_fills 62 = .ok (.iconst 2, 1) := by decide +kernel
theorem dX5_fills_63 : decode cX5_fills 63 = .ok (.iload_n 3, 1) := by decide +kernel
theorem dX5_fills_64 : decode cX5_fills 64 = .ok (.invokevirtual 84, 3) := by decide +kernel
theorem dX5_fills_67 : decode cX5_fills 67 = .ok (.aload_n 0, 1) := by decide +kernel
theorem dX5_fills_68 : decode cX5_fills 68 = .ok (.getfield 9, 3) := by decide +kernel
theorem dX5_fills_71 : decode cX5_fills 71 = .ok (.iconst 2, 1) := by decide +kernel
theorem dX5_fills_72 : decode cX5_fills 72 = .ok (.dup2, 1) := by decide +kernel
theorem dX5_fills_73 : decode cX5_fills 73 = .ok (.iaload, 1) := by decide +kernel
theorem dX5_fills_74 : decode cX5_fills 74 = .ok (.iload_n 2, 1) := by decide +kernel
theorem dX5_fills_75 : decode cX5_fills 75 = .ok (.iadd, 1) := by decide +kernel
theorem dX5_fills_76 : decode cX5_fills 76 = .ok (.iastore, 1) := by decide +kernel
theorem dX5_fills_77 : decode cX5_fills 77 = .ok (.iload_n 3, 1) := by decide +kernel
theorem dX5_fills_78 : decode cX5_fills 78 = .ok (.ireturn, 1) := by decide +kernel
theorem dX5_fill_0 : decode cX5_fill 0 = .ok (.aload_n 0, 1) := by decide +kernel
theorem dX5_fill_1 : decode cX5_fill 1 = .ok (.invokevirtual 75, 3) := by decide +kernel
theorem dX5_fill_4 : decode cX5_fill 4 = .ok (.aload_n 0, 1) := by decide +kernel
theorem dX5_fill_5 : decode cX5_fill 5 = .ok (.aload_n 0, 1) := by decide +kernel
theorem dX5_fill_6 : decode cX5_fill 6 = .ok (.iload_n 1, 1) := by decide +kernel
theorem dX5_fill_7 : decode cX5_fill 7 = .ok (.iload_n 2, 1) := by decide +kernel
theorem dX5_fill_8 : decode cX5_fill 8 = .ok (.invokevirtual 95, 3) := by decide +kernel
theorem dX5_fill_11 : decode cX5_fill 11 = .ok (.invokevirtual 81, 3) := by decide +kernel
theorem dX5_fill_14 : decode cX5_fill 14 = .ok (.ireturn, 1) := by decide +kernel
theorem dX5_sets_0 : decode cX5_sets 0 = .ok (.aload_n 0, 1) := by decide +kernel
theorem dX5_sets_1 : decode cX5_sets 1 = .ok (.iload_n 1, 1) := by decide +kernel
theorem dX5_sets_2 : decode cX5_sets 2 = .ok (.invokevirtual 92, 3) := by decide +kernel
theorem dX5_sets_5 : decode cX5_sets 5 = .ok (.ifCond .eq 10, 3) := by decide +kernel
theorem dX5_sets_8 : decode cX5_sets 8 = .ok (.iload_n 2, 1) := by decide +kernel
theorem dX5_sets_9 : decode cX5_sets 9 = .ok (.invokestatic 98, 3) := by decide +kernel
theorem dX5_sets_12 : decode cX5_sets 12 = .ok (.ifCond .ne 7, 3) := by decide +kernel
theorem dX5_sets_15 : decode cX5_sets 15 = .ok (.sipush (-1011), 3) := by decide +kernel
theorem dX5_sets_18 : decode cX5_sets 18 = .ok (.ireturn, 1) := by decide +kernel
theorem dX5_sets_19 : decode cX5_sets 19 = .ok (.aload_n 0, 1) := by decide +kernel
theorem dX5_sets_20 : decode cX5_sets 20 = .ok (.iload_n 2, 1) := by decide +kernel
theorem dX5_sets_21 : decode cX5_sets 21 = .ok (.invokevirtual 101, 3) := by decide +kernel
theorem dX5_sets_24 : decode cX5_sets 24 = .ok (.istore_n 3, 1) := by decide +kernel
theorem dX5_sets_25 : decode cX5_sets 25 = .ok (.aload_n 0, 1) := by decide +kernel
theorem dX5_sets_26 : decode cX5_sets 26 = .ok (.aload_n 0, 1) := by decide +kernel
theorem dX5_sets_27 : decode cX5_sets 27 = .ok (.iload_n 1, 1) := by decide +kernel
theorem dX5_sets_28 : decode cX5_sets 28 = .ok (.iconst 1, 1) := by decide +kernel
theorem dX5_sets_29 : decode cX5_sets 29 = .ok (.invokevirtual 48, 3) := by decide +kernel
theorem dX5_sets_32 : decode cX5_sets 32 = .ok (.invokevirtual 104, 3) := by decide +kernel
theorem dX5_sets_35 : decode cX5_sets 35 = .ok (.istore 4, 2) := by decide +kernel
theorem dX5_sets_37 : decode cX5_sets 37 = .ok (.aload_n 0, 1) := by decide +kernel
theorem dX5_sets_38 : decode cX5_sets 38 = .ok (.aload_n 0, 1) := by decide +kernel
theorem dX5_sets_39 : decode cX5_sets 39 = .ok (.iload_n 1, 1) := by decide +kernel
theorem dX5_sets_40 : decode cX5_sets 40 = .ok (.invokevirtual 52, 3) := by decide +kernel
theorem dX5_sets_43 : decode cX5_sets 43 = .ok (.iconst 5, 1) := by decide +kernel
theorem dX5_sets_44 : decode cX5_sets 44 = .ok (.aload_n 0, 1) := by decide +kernel
theorem dX5_sets_45 : decode cX5_sets 45 = .ok (.iload_n 1, 1) := by decide +kernel
theorem dX5_sets_46 : decode cX5_sets 46 = .ok (.iconst 5, 1) := by decide +kernel
theorem dX5_sets_47 : decode cX5_sets 47 = .ok (.invokevirtual 48, 3) := by decide +kernel
theorem dX5_sets_50 : decode cX5_sets 50 = .ok (.iconst 1, 1) := by decide +kernel
theorem dX5_sets_51 : decode cX5_sets 51 = .ok (.isub, 1) := by decide +kernel
theorem dX5_sets_52 : decode cX5_sets 52 = .ok (.invokevirtual 68, 3) := by decide +kernel
theorem dX5_sets_55 : decode cX5_sets 55 = .ok (.ifCond .ne 74, 3) := by decide +kernel
theorem dX5_sets_58 : decode cX5_sets 58 = .ok (.aload_n 0, 1) := by decide +kernel
theorem dX5_sets_59 : decode cX5_sets 59 = .ok (.iload_n 3, 1) := by decide +kernel
theorem dX5_sets_60 : decode cX5_sets 60 = .ok (.ifCond .lt 7, 3) := by decide +kernel
theorem dX5_sets_63 : decode cX5_sets 63 = .ok (.iconst 1, 1) := by decide +kernel
theorem dX5_sets_64 : decode cX5_sets 64 = .ok (.goto 4, 3) := by decide +kernel
theorem dX5_sets_67 : decode cX5_sets 67 = .ok (.iconst 0, 1) := by decide +kernel
theorem dX5_sets_68 : decode cX5_sets 68 = .ok (.bipush 6, 2) := by decide +kernel
theorem dX5_sets_70 : decode cX5_sets 70 = .ok (.iload_n 3, 1) := by decide +kernel
theorem dX5_sets_71 : decode cX5_sets 71 = .ok (.invokevirtual 68, 3) := by decide +kernel
theorem dX5_sets_74 : decode cX5_sets 74 = .ok (.ifCond .ne 55, 3) := by decide +kernel
theorem dX5_sets_77 : decode cX5_sets 77 = .ok (.aload_n 0, 1) := by decide +kernel
theorem dX5_sets_78 : decode cX5_sets 78 = .ok (.iload 4, 2) := by decide +kernel
theorem dX5_sets_80 : decode cX5_sets 80 = .ok (.ifCond .lt 7, 3) := by decide +kernel
theorem dX5_sets_83 : decode cX5_sets 83 = .ok (.iconst 1, 1) := by decide +kernel
theorem dX5_sets_84 : decode cX5_sets 84 = .ok (.goto 4, 3) := by decide +kernel
theorem dX5_sets_87 : decode cX5_sets 87 = .ok (.iconst 0, 1) := by decide +kernel
theorem dX5_sets_88 : decode cX5_sets 88 = .ok (.bipush 7, 2) := by decide +kernel
theorem dX5_sets_90 : decode cX5_sets 90 = .ok (.iload 4, 2) := by decide +kernel
theorem dX5_sets_92 : decode cX5_sets 92 = .ok (.invokevirtual 68, 3) := by decide +kernel
theorem dX5_sets_95 : decode cX5_sets 95 = .ok (.ifCond .ne 34, 3) := by decide +kernel
theorem dX5_sets_98 : decode cX5_sets 98 = .ok (.aload_n 0, 1) := by decide +kernel
theorem dX5_sets_99 : decode cX5_sets 99 = .ok (.aload_n 0, 1) := by decide +kernel
theorem dX5_sets_100 : decode cX5_sets 100 = .ok (.iload_n 1, 1) := by decide +kernel
theorem dX5_sets_101 : decode cX5_sets 101 = .ok (.bipush 6, 2) := by decide +kernel
theorem dX5_sets_103 : decode cX5_sets 103 = .ok (.invokevirtual 48, 3) := by decide +kernel
theorem dX5_sets_106 : decode cX5_sets 106 = .ok (.ifCond .le 7, 3) := by decide +kernel
theorem dX5_sets_109 : decode cX5_sets 109 = .ok (.iconst 1, 1) := by decide +kernel
theorem dX5_sets_110 : decode cX5_sets 110 = .ok (.goto 4, 3) := by decide +kernel
theorem dX5_sets_113 : decode cX5_sets 113 = .ok (.iconst 0, 1) := by decide +kernel
theorem dX5_sets_114 : decode cX5_sets 114 = .ok (.bipush 8, 2) := by decide +kernel
theorem dX5_sets_116 : decode cX5_sets 116 = .ok (.aload_n 0, 1) := by decide +kernel
theorem dX5_sets_117 : decode cX5_sets 117 = .ok (.iload_n 1, 1) := by decide +kernel
theorem dX5_sets_118 : decode cX5_sets 118 = .ok (.bipush 6, 2) := by decide +kernel
theorem dX5_sets_120 : decode cX5_sets 120 = .ok (.invokevirtual 48, 3) := by decide +kernel
theorem dX5_sets_123 : decode cX5_sets 123 = .ok (.invokevirtual 68, 3) := by decide +kernel
theorem dX5_sets_126 : decode cX5_sets 126 = .ok (.ifCond .eq 13, 3) := by decide +kernel
theorem dX5_sets_129 : decode cX5_sets 129 = .ok (.aload_n 0, 1) := by decide +kernel
theorem dX5_sets_130 : decode cX5_sets 130 = .ok (.iconst 4, 1) := by decide +kernel
theorem dX5_sets_131 : decode cX5_sets 131 = .ok (.iload_n 1, 1) := by decide +kernel
theorem dX5_sets_132 : decode cX5_sets 132 = .ok (.invokevirtual 107, 3) := by decide +kernel
theorem dX5_sets_135 : decode cX5_sets 135 = .ok (.sipush (-1014), 3) := by decide +kernel
theorem dX5_sets_138 : decode cX5_sets 138 = .ok (.ireturn, 1) := by decide +kernel
theorem dX5_sets_139 : decode cX5_sets 139 = .ok (.aload_n 0, 1) := by decide +kernel
theorem dX5_sets_140 : decode cX5_sets 140 = .ok (.iload_n 1, 1) := by decide +kernel
theorem dX5_sets_141 : decode cX5_sets 141 = .ok (.iconst 5, 1) := by decide +kernel
theorem dX5_sets_142 : decode cX5_sets 142 = .ok (.iload_n 2, 1) := by decide +kernel
theorem dX5_sets_143 : decode cX5_sets 143 = .ok (.iconst 1, 1) := by decide +kernel
theorem dX5_sets_144 : decode cX5_sets 144 = .ok (.iadd, 1) := by decide +kernel
theorem dX5_sets_145 : decode cX5_sets 145 = .ok (.invokevirtual 84, 3) := by decide +kernel
theorem dX5_sets_148 : decode cX5_sets 148 = .ok (.aload_n 0, 1) := by decide +kernel
theorem dX5_sets_149 : decode cX5_sets 149 = .ok (.invokevirtual 110, 3) := by decide +kernel
theorem dX5_sets_152 : decode cX5_sets 152 = .ok (.ireturn, 1) := by decide +kernel
theorem dX5_set_0 : decode cX5_set 0 = .ok (.aload_n 0, 1) := by decide +kernel
theorem dX5_set_1 : decode cX5_set 1 = .ok (.invokevirtual 75, 3) := by decide +kernel
theorem dX5_set_4 : decode cX5_set 4 = .ok (.aload_n 0, 1) := by decide +kernel
theorem dX5_set_5 : decode cX5_set 5 = .ok (.aload_n 0, 1) := by decide +kernel
theorem dX5_set_6 : decode cX5_set 6 = .ok (.iload_n 1, 1) := by decide +kernel
theorem dX5_set_7 : decode cX5_set 7 = .ok (.iload_n 2, 1) := by decide +kernel
theorem dX5_set_8 : decode cX5_set 8 = .ok (.invokevirtual 114, 3) := by decide +kernel
theorem dX5_set_11 : decode cX5_set 11 = .ok (.invokevirtual 81, 3) := by decide +kernel
theorem dX5_set_14 : decode cX5_set 14 = .ok (.ireturn, 1) := by decide +kernel
theorem dX5_takesOff_0 : decode cX5_takesOff 0 = .ok (.aload_n 0, 1) := by decide +kernel
theorem dX5_takesOff_1 : decode cX5_takesOff 1 = .ok (.iload_n 1, 1) := by decide +kernel
theorem dX5_takesOff_2 : decode cX5_takesOff 2 = .ok (.invokevirtual 92, 3) := by decide +kernel
theorem dX5_takesOff_5 : decode cX5_takesOff 5 = .ok (.ifCond .ne 7, 3) := by decide +kernel
theorem dX5_takesOff_8 : decode cX5_takesOff 8 = .ok (.sipush (-1011), 3) := by decide +kernel
theorem dX5_takesOff_11 : decode cX5_takesOff 11 = .ok (.ireturn, 1) := by decide +kernel
theorem dX5_takesOff_12 : decode cX5_takesOff 12 = .ok (.aload_n 0, 1) := by decide +kernel
theorem dX5_takesOff_13 : decode cX5_takesOff 13 = .ok (.aload_n 0, 1) := by decide +kernel
theorem dX5_takesOff_14 : decode cX5_takesOff 14 = .ok (.iload_n 1, 1) := by decide +kernel
theorem dX5_takesOff_15 : decode cX5_takesOff 15 = .ok (.invokevirtual 52, 3) := by decide +kernel
theorem dX5_takesOff_18 : decode cX5_takesOff 18 = .ok (.ifCond .ne 7, 3) := by decide +kernel
theorem dX5_takesOff_21 : decode cX5_takesOff 21 = .ok (.iconst 1, 1) := by decide +kernel
theorem dX5_takesOff_22 : decode cX5_takesOff 22 = .ok (.goto 4, 3) := by decide +kernel
theorem dX5_takesOff_25 : decode cX5_takesOff 25 = .ok (.iconst 0, 1) := by decide +kernel
theorem dX5_takesOff_26 : decode cX5_takesOff 26 = .ok (.bipush 10, 2) := by decide +kernel
theorem dX5_takesOff_28 : decode cX5_takesOff 28 = .ok (.aload_n 0, 1) := by decide +kernel
theorem dX5_takesOff_29 : decode cX5_takesOff 29 = .ok (.invokevirtual 110, 3) := by decide +kernel
theorem dX5_takesOff_32 : decode cX5_takesOff 32 = .ok (.invokevirtual 68, 3) := by decide +kernel
theorem dX5_takesOff_35 : decode cX5_takesOff 35 = .ok (.ifCond .eq 7, 3) := by decide +kernel
theorem dX5_takesOff_38 : decode cX5_takesOff 38 = .ok (.sipush (-1014), 3) := by decide +kernel
theorem dX5_takesOff_41 : decode cX5_takesOff 41 = .ok (.ireturn, 1) := by decide +kernel
theorem dX5_takesOff_42 : decode cX5_takesOff 42 = .ok (.aload_n 0, 1) := by decide +kernel
theorem dX5_takesOff_43 : decode cX5_takesOff 43 = .ok (.iload_n 1, 1) := by decide +kernel
theorem dX5_takesOff_44 : decode cX5_takesOff 44 = .ok (.iconst 5, 1) := by decide +kernel
theorem dX5_takesOff_45 : decode cX5_takesOff 45 = .ok (.invokevirtual 48, 3) := by decide +kernel
theorem dX5_takesOff_48 : decode cX5_takesOff 48 = .ok (.iconst 1, 1) := by decide +kernel
theorem dX5_takesOff_49 : decode cX5_takesOff 49 = .ok (.isub, 1) := by decide +kernel
theorem dX5_takesOff_50 : decode cX5_takesOff 50 = .ok (.istore_n 2, 1) := by decide +kernel
theorem dX5_takesOff_51 : decode cX5_takesOff 51 = .ok (.aload_n 0, 1) := by decide +kernel
theorem dX5_takesOff_52 : decode cX5_takesOff 52 = .ok (.iload_n 1, 1) := by decide +kernel
theorem dX5_takesOff_53 : decode cX5_takesOff 53 = .ok (.iconst 5, 1) := by decide +kernel
theorem dX5_takesOff_54 : decode cX5_takesOff 54 = .ok (.iconst 0, 1) := by decide +kernel
theorem dX5_takesOff_55 : decode cX5_takesOff 55 = .ok (.invokevirtual 84, 3) := by decide +kernel
theorem dX5_takesOff_58 : decode cX5_takesOff 58 = .ok (.iload_n 2, 1) := by decide +kernel
theorem dX5_takesOff_59 : decode cX5_takesOff 59 = .ok (.ireturn, 1) := by decide +kernel
theorem dX5_off_0 : decode cX5_off 0 = .ok (.aload_n 0, 1) := by decide +kernel
theorem dX5_off_1 : decode cX5_off 1 = .ok (.invokevirtual 75, 3) := by decide +kernel
theorem dX5_off_4 : decode cX5_off 4 = .ok (.aload_n 0, 1) := by decide +kernel
theorem dX5_off_5 : decode cX5_off 5 = .ok (.aload_n 0, 1) := by decide +kernel
theorem dX5_off_6 : decode cX5_off 6 = .ok (.iload_n 1, 1) := by decide +kernel
theorem dX5_off_7 : decode cX5_off 7 = .ok (.invokevirtual 117, 3) := by decide +kernel
theorem dX5_off_10 : decode cX5_off 10 = .ok (.invokevirtual 81, 3) := by decide +kernel
theorem dX5_off_13 : decode cX5_off 13 = .ok (.ireturn, 1) := by decide +kernel
theorem dX5_heats_0 : decode cX5_heats 0 = .ok (.iload_n 1, 1) := by decide +kernel
theorem dX5_heats_1 : decode cX5_heats 1 = .ok (.invokestatic 98, 3) := by decide +kernel
theorem dX5_heats_4 : decode cX5_heats 4 = .ok (.ifCond .ne 7, 3) := by decide +kernel
theorem dX5_heats_7 : decode cX5_heats 7 = .ok (.sipush (-1011), 3) := by decide +kernel
theorem dX5_heats_10 : decode cX5_heats 10 = .ok (.ireturn, 1) := by decide +kernel
theorem dX5_heats_11 : decode cX5_heats 11 = .ok (.iload_n 2, 1) := by decide +kernel
theorem dX5_heats_12 : decode cX5_heats 12 = .ok (.iconst 0, 1) := by decide +kernel
theorem dX5_heats_13 : decode cX5_heats 13 = .ok (.iconst 5, 1) := by decide +kernel
theorem dX5_heats_14 : decode cX5_heats 14 = .ok (.invokestatic 40, 3) := by decide +kernel
theorem dX5_heats_17 : decode cX5_heats 17 = .ok (.ifCond .ne 7, 3) := by decide +kernel
theorem dX5_heats_20 : decode cX5_heats 20 = .ok (.sipush (-1012), 3) := by decide +kernel
theorem dX5_heats_23 : decode cX5_heats 23 = .ok (.ireturn, 1) := by decide +kernel
theorem dX5_heats_24 : decode cX5_heats 24 = .ok (.aload_n 0, 1) := by decide +kernel
theorem dX5_heats_25 : decode cX5_heats 25 = .ok (.getfield 9, 3) := by decide +kernel
theorem dX5_heats_28 : decode cX5_heats 28 = .ok (.bipush 29, 2) := by decide +kernel
theorem dX5_heats_30 : decode cX5_heats 30 = .ok (.iload_n 1, 1) := by decide +kernel
theorem dX5_heats_31 : decode cX5_heats 31 = .ok (.iadd, 1) := by decide +kernel
theorem dX5_heats_32 : decode cX5_heats 32 = .ok (.iaload, 1) := by decide +kernel
theorem dX5_heats_33 : decode cX5_heats 33 = .ok (.istore_n 3, 1) := by decide +kernel
theorem dX5_heats_34 : decode cX5_heats 34 = .ok (.aload_n 0, 1) := by decide +kernel
theorem dX5_heats_35 : decode cX5_heats 35 = .ok (.iload_n 3, 1) := by decide +kernel
theorem dX5_heats_36 : decode cX5_heats 36 = .ok (.iload_n 2, 1) := by decide +kernel
theorem dX5_heats_37 : decode cX5_heats 37 = .ok (.if_icmp .ne 7, 3) := by decide +kernel
theorem dX5_heats_40 : decode cX5_heats 40 = .ok (.iconst 1, 1) := by decide +kernel
theorem dX5_heats_41 : decode cX5_heats 41 = .ok (.goto 4, 3) := by decide +kernel
theorem dX5_heats_44 : decode cX5_heats 44 = .ok (.iconst 0, 1) := by decide +kernel
theorem dX5_heats_45 : decode cX5_heats 45 = .ok (.bipush 9, 2) := by decide +kernel
theorem dX5_heats_47 : decode cX5_heats 47 = .ok (.iload_n 2, 1) := by decide +kernel
theorem dX5_heats_48 : decode cX5_heats 48 = .ok (.invokevirtual 68, 3) := by decide +kernel
theorem dX5_heats_51 : decode cX5_heats 51 = .ok (.ifCond .eq 7, 3) := by decide +kernel
theorem dX5_heats_54 : decode cX5_heats 54 = .ok (.sipush (-1014), 3) := by decide +kernel
theorem dX5_heats_57 : decode cX5_heats 57 = .ok (.ireturn, 1) := by decide +kernel
theorem dX5_heats_58 : decode cX5_heats 58 = .ok (.aload_n 0, 1) := by decide +kernel
theorem dX5_heats_59 : decode cX5_heats 59 = .ok (.getfield 9, 3) := by decide +kernel
theorem dX5_heats_62 : decode cX5_heats 62 = .ok (.bipush 29, 2) := by decide +kernel
theorem dX5_heats_64 : decode cX5_heats 64 = .ok (.iload_n 1, 1) := by decide +kernel
theorem dX5_heats_65 : decode cX5_heats 65 = .ok (.iadd, 1) := by decide +kernel
theorem dX5_heats_66 : decode cX5_heats 66 = .ok (.iload_n 2, 1) := by decide +kernel
theorem dX5_heats_67 : decode cX5_heats 67 = .ok (.iastore, 1) := by decide +kernel
theorem dX5_heats_68 : decode cX5_heats 68 = .ok (.iload_n 3, 1) := by decide +kernel
theorem dX5_heats_69 : decode cX5_heats 69 = .ok (.ireturn, 1) := by decide +kernel
theorem dX5_heat_0 : decode cX5_heat 0 = .ok (.aload_n 0, 1) := by decide +kernel
theorem dX5_heat_1 : decode cX5_heat 1 = .ok (.invokevirtual 75, 3) := by decide +kernel
theorem dX5_heat_4 : decode cX5_heat 4 = .ok (.aload_n 0, 1) := by decide +kernel
theorem dX5_heat_5 : decode cX5_heat 5 = .ok (.aload_n 0, 1) := by decide +kernel
theorem dX5_heat_6 : decode cX5_heat 6 = .ok (.iload_n 1, 1) := by decide +kernel
theorem dX5_heat_7 : decode cX5_heat 7 = .ok (.iload_n 2, 1) := by decide +kernel
theorem dX5_heat_8 : decode cX5_heat 8 = .ok (.invokevirtual 120, 3) := by decide +kernel
theorem dX5_heat_11 : decode cX5_heat 11 = .ok (.invokevirtual 81, 3) := by decide +kernel
theorem dX5_heat_14 : decode cX5_heat 14 = .ok (.ireturn, 1) := by decide +kernel
theorem dX5_putsLid_0 : decode cX5_putsLid 0 = .ok (.aload_n 0, 1) := by decide +kernel
theorem dX5_putsLid_1 : decode cX5_putsLid 1 = .ok (.iload_n 1, 1) := by decide +kernel
theorem dX5_putsLid_2 : decode cX5_putsLid 2 = .ok (.invokevirtual 92, 3) := by decide +kernel
theorem dX5_putsLid_5 : decode cX5_putsLid 5 = .ok (.ifCond .ne 7, 3) := by decide +kernel
theorem dX5_putsLid_8 : decode cX5_putsLid 8 = .ok (.sipush (-1011), 3) := by decide +kernel
theorem dX5_putsLid_11 : decode cX5_putsLid 11 = .ok (.ireturn, 1) := by decide +kernel
theorem dX5_putsLid_12 : decode cX5_putsLid 12 = .ok (.iload_n 2, 1) := by decide +kernel
theorem dX5_putsLid_13 : decode cX5_putsLid 13 = .ok (.iconst 0, 1) := by decide +kernel
theorem dX5_putsLid_14 : decode cX5_putsLid 14 = .ok (.iconst 1, 1) := by decide +kernel
theorem dX5_putsLid_15 : decode cX5_putsLid 15 = .ok (.invokestatic 40, 3) := by decide +kernel
theorem dX5_putsLid_18 : decode cX5_putsLid 18 = .ok (.ifCond .ne 7, 3) := by decide +kernel
theorem dX5_putsLid_21 : decode cX5_putsLid 21 = .ok (.sipush (-1012), 3) := by decide +kernel
theorem dX5_putsLid_24 : decode cX5_putsLid 24 = .ok (.ireturn, 1) := by decide +kernel
theorem dX5_putsLid_25 : decode cX5_putsLid 25 = .ok (.aload_n 0, 1) := by decide +kernel
theorem dX5_putsLid_26 : decode cX5_putsLid 26 = .ok (.aload_n 0, 1) := by decide +kernel
theorem dX5_putsLid_27 : decode cX5_putsLid 27 = .ok (.iload_n 1, 1) := by decide +kernel
theorem dX5_putsLid_28 : decode cX5_putsLid 28 = .ok (.iconst 4, 1) := by decide +kernel
theorem dX5_putsLid_29 : decode cX5_putsLid 29 = .ok (.invokevirtual 48, 3) := by decide +kernel
theorem dX5_putsLid_32 : decode cX5_putsLid 32 = .ok (.iload_n 2, 1) := by decide +kernel
theorem dX5_putsLid_33 : decode cX5_putsLid 33 = .ok (.if_icmp .ne 7, 3) := by decide +kernel
theorem dX5_putsLid_36 : decode cX5_putsLid 36 = .ok (.iconst 1, 1) := by decide +kernel
theorem dX5_putsLid_37 : decode cX5_putsLid 37 = .ok (.goto 4, 3) := by decide +kernel
theorem dX5_putsLid_40 : decode cX5_putsLid 40 = .ok (.iconst 0, 1) := by decide +kernel
theorem dX5_putsLid_41 : decode cX5_putsLid 41 = .ok (.bipush 9, 2) := by decide +kernel
theorem dX5_putsLid_43 : decode cX5_putsLid 43 = .ok (.iload_n 2, 1) := by decide +kernel
theorem dX5_putsLid_44 : decode cX5_putsLid 44 = .ok (.invokevirtual 68, 3) := by decide +kernel
theorem dX5_putsLid_47 : decode cX5_putsLid 47 = .ok (.ifCond .ne 45, 3) := by decide +kernel
theorem dX5_putsLid_50 : decode cX5_putsLid 50 = .ok (.aload_n 0, 1) := by decide +kernel
theorem dX5_putsLid_51 : decode cX5_putsLid 51 = .ok (.iload_n 2, 1) := by decide +kernel
theorem dX5_putsLid_52 : decode cX5_putsLid 52 = .ok (.iconst 1, 1) := by decide +kernel
theorem dX5_putsLid_53 : decode cX5_putsLid 53 = .ok (.if_icmp .ne 18, 3) := by decide +kernel
theorem dX5_putsLid_56 : decode cX5_putsLid 56 = .ok (.aload_n 0, 1) := by decide +kernel
theorem dX5_putsLid_57 : decode cX5_putsLid 57 = .ok (.iload_n 1, 1) := by decide +kernel
theorem dX5_putsLid_58 : decode cX5_putsLid 58 = .ok (.bipush 7, 2) := by decide +kernel
theorem dX5_putsLid_60 : decode cX5_putsLid 60 = .ok (.invokevirtual 48, 3) := by decide +kernel
theorem dX5_putsLid_63 : decode cX5_putsLid 63 = .ok (.iconst 1, 1) := by decide +kernel
theorem dX5_putsLid_64 : decode cX5_putsLid 64 = .ok (.if_icmp .ne 7, 3) := by decide +kernel
theorem dX5_putsLid_67 : decode cX5_putsLid 67 = .ok (.iconst 1, 1) := by decide +kernel
theorem dX5_putsLid_68 : decode cX5_putsLid 68 = .ok (.goto 4, 3) := by decide +kernel
theorem dX5_putsLid_71 : decode cX5_putsLid 71 = .ok (.iconst 0, 1) := by decide +kernel
theorem dX5_putsLid_72 : decode cX5_putsLid 72 = .ok (.bipush 12, 2) := by decide +kernel
theorem dX5_putsLid_74 : decode cX5_putsLid 74 = .ok (.bipush 6, 2) := by decide +kernel
theorem dX5_putsLid_76 : decode cX5_putsLid 76 = .ok (.aload_n 0, 1) := by decide +kernel
theorem dX5_putsLid_77 : decode cX5_putsLid 77 = .ok (.getfield 9, 3) := by decide +kernel
theorem dX5_putsLid_80 : decode cX5_putsLid 80 = .ok (.iconst 0, 1) := by decide +kernel
theorem dX5_putsLid_81 : decode cX5_putsLid 81 = .ok (.iaload, 1) := by decide +kernel
theorem dX5_putsLid_82 : decode cX5_putsLid 82 = .ok (.bipush 6, 2) := by decide +kernel
theorem dX5_putsLid_84 : decode cX5_putsLid 84 = .ok (.irem, 1) := by decide +kernel
theorem dX5_putsLid_85 : decode cX5_putsLid 85 = .ok (.isub, 1) := by decide +kernel
theorem dX5_putsLid_86 : decode cX5_putsLid 86 = .ok (.invokevirtual 68, 3) := by decide +kernel
theorem dX5_putsLid_89 : decode cX5_putsLid 89 = .ok (.ifCond .eq 7, 3) := by decide +kernel
theorem dX5_putsLid_92 : decode cX5_putsLid 92 = .ok (.sipush (-1014), 3) := by decide +kernel
theorem dX5_putsLid_95 : decode cX5_putsLid 95 = .ok (.ireturn, 1) := by decide +kernel
theorem dX5_putsLid_96 : decode cX5_putsLid 96 = .ok (.aload_n 0, 1) := by decide +kernel
theorem dX5_putsLid_97 : decode cX5_putsLid 97 = .ok (.iload_n 1, 1) := by decide +kernel
theorem dX5_putsLid_98 : decode cX5_putsLid 98 = .ok (.iconst 4, 1) := by decide +kernel
theorem dX5_putsLid_99 : decode cX5_putsLid 99 = .ok (.iload_n 2, 1) := by decide +kernel
theorem dX5_putsLid_100 : decode cX5_putsLid 100 = .ok (.invokevirtual 84, 3) := by decide +kernel
theorem dX5_putsLid_103 : decode cX5_putsLid 103 = .ok (.aload_n 0, 1) := by decide +kernel
theorem dX5_putsLid_104 : decode cX5_putsLid 104 = .ok (.invokevirtual 123, 3) := by decide +kernel
theorem dX5_putsLid_107 : decode cX5_putsLid 107 = .ok (.ireturn, 1) := by decide +kernel
theorem dX5_lid_0 : decode cX5_lid 0 = .ok (.aload_n 0, 1) := by decide +kernel
theorem dX5_lid_1 : decode cX5_lid 1 = .ok (.invokevirtual 75, 3) := by decide +kernel
theorem dX5_lid_4 : decode cX5_lid 4 = .ok (.aload_n 0, 1) := by decide +kernel
theorem dX5_lid_5 : decode cX5_lid 5 = .ok (.aload_n 0, 1) := by decide +kernel
theorem dX5_lid_6 : decode cX5_lid 6 = .ok (.iload_n 1, 1) := by decide +kernel
theorem dX5_lid_7 : decode cX5_lid 7 = .ok (.iload_n 2, 1) := by decide +kernel
theorem dX5_lid_8 : decode cX5_lid 8 = .ok (.invokevirtual 126, 3) := by decide +kernel
theorem dX5_lid_11 : decode cX5_lid 11 = .ok (.invokevirtual 81, 3) := by decide +kernel
theorem dX5_lid_14 : decode cX5_lid 14 = .ok (.ireturn, 1) := by decide +kernel
theorem dX5_bits_0 : decode cX5_bits 0 = .ok (.iconst 0, 1) := by decide +kernel
theorem dX5_bits_1 : decode cX5_bits 1 = .ok (.istore_n 1, 1) := by decide +kernel
theorem dX5_bits_2 : decode cX5_bits 2 = .ok (.iload_n 0, 1) := by decide +kernel
theorem dX5_bits_3 : decode cX5_bits 3 = .ok (.istore_n 2, 1) := by decide +kernel
theorem dX5_bits_4 : decode cX5_bits 4 = .ok (.iload_n 2, 1) := by decide +kernel
theorem dX5_bits_5 : decode cX5_bits 5 = .ok (.ifCond .eq 15, 3) := by decide +kernel
theorem dX5_bits_8 : decode cX5_bits 8 = .ok (.iinc 1 1, 3) := by decide +kernel
theorem dX5_bits_11 : decode cX5_bits 11 = .ok (.iload_n 2, 1) := by decide +kernel
theorem dX5_bits_12 : decode cX5_bits 12 = .ok (.iload_n 2, 1) := by decide +kernel
theorem dX5_bits_13 : decode cX5_bits 13 = .ok (.iconst 1, 1) := by decide +kernel
theorem dX5_bits_14 : decode cX5_bits 14 = .ok (.isub, 1) := by decide +kernel
theorem dX5_bits_15 : decode cX5_bits 15 = .ok (.iand, 1) := by decide +kernel
theorem dX5_bits_16 : decode cX5_bits 16 = .ok (.istore_n 2, 1) := by decide +kernel
theorem dX5_bits_17 : decode cX5_bits 17 = .ok (.goto (-13), 3) := by decide +kernel
theorem dX5_bits_20 : decode cX5_bits 20 = .ok (.iload_n 1, 1) := by decide +kernel
theorem dX5_bits_21 : decode cX5_bits 21 = .ok (.ireturn, 1) := by decide +kernel
theorem dX5_appeals_0 : decode cX5_appeals 0 = .ok (.iload_n 1, 1) := by decide +kernel
theorem dX5_appeals_1 : decode cX5_appeals 1 = .ok (.invokestatic 62, 3) := by decide +kernel
theorem dX5_appeals_4 : decode cX5_appeals 4 = .ok (.ifCond .eq 11, 3) := by decide +kernel
theorem dX5_appeals_7 : decode cX5_appeals 7 = .ok (.aload_n 0, 1) := by decide +kernel
theorem dX5_appeals_8 : decode cX5_appeals 8 = .ok (.iload_n 2, 1) := by decide +kernel
theorem dX5_appeals_9 : decode cX5_appeals 9 = .ok (.invokevirtual 92, 3) := by decide +kernel
theorem dX5_appeals_12 : decode cX5_appeals 12 = .ok (.ifCond .ne 7, 3) := by decide +kernel
theorem dX5_appeals_15 : decode cX5_appeals 15 = .ok (.sipush (-1011), 3) := by decide +kernel
theorem dX5_appeals_18 : decode cX5_appeals 18 = .ok (.ireturn, 1) := by decide +kernel
theorem dX5_appeals_19 : decode cX5_appeals 19 = .ok (.aload_n 0, 1) := by decide +kernel
theorem dX5_appeals_20 : decode cX5_appeals 20 = .ok (.iload_n 2, 1) := by decide +kernel
theorem dX5_appeals_21 : decode cX5_appeals 21 = .ok (.bipush 8, 2) := by decide +kernel
theorem dX5_appeals_23 : decode cX5_appeals 23 = .ok (.invokevirtual 48, 3) := by decide +kernel
theorem dX5_appeals_26 : decode cX5_appeals 26 = .ok (.istore_n 3, 1) := by decide +kernel
theorem dX5_appeals_27 : decode cX5_appeals 27 = .ok (.aload_n 0, 1) := by decide +kernel
theorem dX5_appeals_28 : decode cX5_appeals 28 = .ok (.aload_n 0, 1) := by decide +kernel
theorem dX5_appeals_29 : decode cX5_appeals 29 = .ok (.iload_n 2, 1) := by decide +kernel
theorem dX5_appeals_30 : decode cX5_appeals 30 = .ok (.iconst 0, 1) := by decide +kernel
theorem dX5_appeals_31 : decode cX5_appeals 31 = .ok (.invokevirtual 48, 3) := by decide +kernel
theorem dX5_appeals_34 : decode cX5_appeals 34 = .ok (.iload_n 1, 1) := by decide +kernel
theorem dX5_appeals_35 : decode cX5_appeals 35 = .ok (.if_icmp .ne 7, 3) := by decide +kernel
theorem dX5_appeals_38 : decode cX5_appeals 38 = .ok (.iconst 1, 1) := by decide +kernel
theorem dX5_appeals_39 : decode cX5_appeals 39 = .ok (.goto 4, 3) := by decide +kernel
theorem dX5_appeals_42 : decode cX5_appeals 42 = .ok (.iconst 0, 1) := by decide +kernel
theorem dX5_appeals_43 : decode cX5_appeals 43 = .ok (.bipush 13, 2) := by decide +kernel
theorem dX5_appeals_45 : decode cX5_appeals 45 = .ok (.iload_n 1, 1) := by decide +kernel
theorem dX5_appeals_46 : decode cX5_appeals 46 = .ok (.invokevirtual 68, 3) := by decide +kernel
theorem dX5_appeals_49 : decode cX5_appeals 49 = .ok (.ifCond .ne 57, 3) := by decide +kernel
theorem dX5_appeals_52 : decode cX5_appeals 52 = .ok (.aload_n 0, 1) := by decide +kernel
theorem dX5_appeals_53 : decode cX5_appeals 53 = .ok (.aload_n 0, 1) := by decide +kernel
theorem dX5_appeals_54 : decode cX5_appeals 54 = .ok (.iload_n 2, 1) := by decide +kernel
theorem dX5_appeals_55 : decode cX5_appeals 55 = .ok (.iconst 4, 1) := by decide +kernel
theorem dX5_appeals_56 : decode cX5_appeals 56 = .ok (.invokevirtual 48, 3) := by decide +kernel
theorem dX5_appeals_59 : decode cX5_appeals 59 = .ok (.ifCond .ne 7, 3) := by decide +kernel
theorem dX5_appeals_62 : decode cX5_appeals 62 = .ok (.iconst 1, 1) := by decide +kernel
theorem dX5_appeals_63 : decode cX5_appeals 63 = .ok (.goto 4, 3) := by decide +kernel
theorem dX5_appeals_66 : decode cX5_appeals 66 = .ok (.iconst 0, 1) := by decide +kernel
theorem dX5_appeals_67 : decode cX5_appeals 67 = .ok (.bipush 15, 2) := by decide +kernel
theorem dX5_appeals_69 : decode cX5_appeals 69 = .ok (.aload_n 0, 1) := by decide +kernel
theorem dX5_appeals_70 : decode cX5_appeals 70 = .ok (.invokevirtual 123, 3) := by decide +kernel
theorem dX5_appeals_73 : decode cX5_appeals 73 = .ok (.invokevirtual 68, 3) := by decide +kernel
theorem dX5_appeals_76 : decode cX5_appeals 76 = .ok (.ifCond .ne 30, 3) := by decide +kernel
theorem dX5_appeals_79 : decode cX5_appeals 79 = .ok (.aload_n 0, 1) := by decide +kernel
theorem dX5_appeals_80 : decode cX5_appeals 80 = .ok (.iload_n 3, 1) := by decide +kernel
theorem dX5_appeals_81 : decode cX5_appeals 81 = .ok (.iload_n 1, 1) := by decide +kernel
theorem dX5_appeals_82 : decode cX5_appeals 82 = .ok (.ishr, 1) := by decide +kernel
theorem dX5_appeals_83 : decode cX5_appeals 83 = .ok (.iconst 1, 1) := by decide +kernel
theorem dX5_appeals_84 : decode cX5_appeals 84 = .ok (.iand, 1) := by decide +kernel
theorem dX5_appeals_85 : decode cX5_appeals 85 = .ok (.iconst 1, 1) := by decide +kernel
theorem dX5_appeals_86 : decode cX5_appeals 86 = .ok (.if_icmp .ne 7, 3) := by decide +kernel
theorem dX5_appeals_89 : decode cX5_appeals 89 = .ok (.iconst 1, 1) := by decide +kernel
theorem dX5_appeals_90 : decode cX5_appeals 90 = .ok (.goto 4, 3) := by decide +kernel
theorem dX5_appeals_93 : decode cX5_appeals 93 = .ok (.iconst 0, 1) := by decide +kernel
theorem dX5_appeals_94 : decode cX5_appeals 94 = .ok (.bipush 14, 2) := by decide +kernel
theorem dX5_appeals_96 : decode cX5_appeals 96 = .ok (.iload_n 3, 1) := by decide +kernel
theorem dX5_appeals_97 : decode cX5_appeals 97 = .ok (.invokestatic 129, 3) := by decide +kernel
theorem dX5_appeals_100 : decode cX5_appeals 100 = .ok (.invokevirtual 68, 3) := by decide +kernel
theorem dX5_appeals_103 : decode cX5_appeals 103 = .ok (.ifCond .eq 7, 3) := by decide +kernel
theorem dX5_appeals_106 : decode cX5_appeals 106 = .ok (.sipush (-1014), 3) := by decide +kernel
theorem dX5_appeals_109 : decode cX5_appeals 109 = .ok (.ireturn, 1) := by decide +kernel
theorem dX5_appeals_110 : decode cX5_appeals 110 = .ok (.aload_n 0, 1) := by decide +kernel
theorem dX5_appeals_111 : decode cX5_appeals 111 = .ok (.getfield 9, 3) := by decide +kernel
theorem dX5_appeals_114 : decode cX5_appeals 114 = .ok (.iconst 5, 1) := by decide +kernel
theorem dX5_appeals_115 : decode cX5_appeals 115 = .ok (.iconst 3, 1) := by decide +kernel
theorem dX5_appeals_116 : decode cX5_appeals 116 = .ok (.iload_n 1, 1) := by decide +kernel
theorem dX5_appeals_117 : decode cX5_appeals 117 = .ok (.imul, 1) := by decide +kernel
theorem dX5_appeals_118 : decode cX5_appeals 118 = .ok (.iadd, 1) := by decide +kernel
theorem dX5_appeals_119 : decode cX5_appeals 119 = .ok (.iconst 2, 1) := by decide +kernel
theorem dX5_appeals_120 : decode cX5_appeals 120 = .ok (.iadd, 1) := by decide +kernel
theorem dX5_appeals_121 : decode cX5_appeals 121 = .ok (.dup2, 1) := by decide +kernel
theorem dX5_appeals_122 : decode cX5_appeals 122 = .ok (.iaload, 1) := by decide +kernel
theorem dX5_appeals_123 : decode cX5_appeals 123 = .ok (.iconst 1, 1) := by decide +kernel
theorem dX5_appeals_124 : decode cX5_appeals 124 = .ok (.iadd, 1) := by decide +kernel
theorem dX5_appeals_125 : decode cX5_appeals 125 = .ok (.iastore, 1) := by decide +kernel
theorem dX5_appeals_126 : decode cX5_appeals 126 = .ok (.aload_n 0, 1) := by decide +kernel
theorem dX5_appeals_127 : decode cX5_appeals 127 = .ok (.iload_n 2, 1) := by decide +kernel
theorem dX5_appeals_128 : decode cX5_appeals 128 = .ok (.bipush 8, 2) := by decide +kernel
theorem dX5_appeals_130 : decode cX5_appeals 130 = .ok (.iload_n 3, 1) := by decide +kernel
theorem dX5_appeals_131 : decode cX5_appeals 131 = .ok (.iconst 1, 1) := by decide +kernel
theorem dX5_appeals_132 : decode cX5_appeals 132 = .ok (.iload_n 1, 1) := by decide +kernel
theorem dX5_appeals_133 : decode cX5_appeals 133 = .ok (.ishl, 1) := by decide +kernel
theorem dX5_appeals_134 : decode cX5_appeals 134 = .ok (.ior, 1) := by decide +kernel
theorem dX5_appeals_135 : decode cX5_appeals 135 = .ok (.invokevirtual 84, 3) := by decide +kernel
theorem dX5_appeals_138 : decode cX5_appeals 138 = .ok (.iload_n 3, 1) := by decide +kernel
theorem dX5_appeals_139 : decode cX5_appeals 139 = .ok (.iconst 1, 1) := by decide +kernel
theorem dX5_appeals_140 : decode cX5_appeals 140 = .ok (.iload_n 1, 1) := by decide +kernel
theorem dX5_appeals_141 : decode cX5_appeals 141 = .ok (.ishl, 1) := by decide +kernel
theorem dX5_appeals_142 : decode cX5_appeals 142 = .ok (.ior, 1) := by decide +kernel
theorem dX5_appeals_143 : decode cX5_appeals 143 = .ok (.invokestatic 129, 3) := by decide +kernel
theorem dX5_appeals_146 : decode cX5_appeals 146 = .ok (.iconst 2, 1) := by decide +kernel
theorem dX5_appeals_147 : decode cX5_appeals 147 = .ok (.if_icmp .ge 5, 3) := by decide +kernel
theorem dX5_appeals_150 : decode cX5_appeals 150 = .ok (.iconst 0, 1) := by decide +kernel
theorem dX5_appeals_151 : decode cX5_appeals 151 = .ok (.ireturn, 1) := by decide +kernel
theorem dX5_appeals_152 : decode cX5_appeals 152 = .ok (.aload_n 0, 1) := by decide +kernel
theorem dX5_appeals_153 : decode cX5_appeals 153 = .ok (.iload_n 2, 1) := by decide +kernel
theorem dX5_appeals_154 : decode cX5_appeals 154 = .ok (.bipush 8, 2) := by decide +kernel
theorem dX5_appeals_156 : decode cX5_appeals 156 = .ok (.iconst 0, 1) := by decide +kernel
theorem dX5_appeals_157 : decode cX5_appeals 157 = .ok (.invokevirtual 84, 3) := by decide +kernel
theorem dX5_appeals_160 : decode cX5_appeals 160 = .ok (.aload_n 0, 1) := by decide +kernel
theorem dX5_appeals_161 : decode cX5_appeals 161 = .ok (.iload_n 2, 1) := by decide +kernel
theorem dX5_appeals_162 : decode cX5_appeals 162 = .ok (.iconst 4, 1) := by decide +kernel
theorem dX5_appeals_163 : decode cX5_appeals 163 = .ok (.iconst 0, 1) := by decide +kernel
theorem dX5_appeals_164 : decode cX5_appeals 164 = .ok (.invokevirtual 84, 3) := by decide +kernel
theorem dX5_appeals_167 : decode cX5_appeals 167 = .ok (.aload_n 0, 1) := by decide +kernel
theorem dX5_appeals_168 : decode cX5_appeals 168 = .ok (.iload_n 2, 1) := by decide +kernel
theorem dX5_appeals_169 : decode cX5_appeals 169 = .ok (.bipush 7, 2) := by decide +kernel
theorem dX5_appeals_171 : decode cX5_appeals 171 = .ok (.iconst 1, 1) := by decide +kernel
theorem dX5_appeals_172 : decode cX5_appeals 172 = .ok (.invokevirtual 84, 3) := by decide +kernel
theorem dX5_appeals_175 : decode cX5_appeals 175 = .ok (.iconst 1, 1) := by decide +kernel
theorem dX5_appeals_176 : decode cX5_appeals 176 = .ok (.ireturn, 1) := by decide +kernel
theorem dX5_appeal_0 : decode cX5_appeal 0 = .ok (.aload_n 0, 1) := by decide +kernel
theorem dX5_appeal_1 : decode cX5_appeal 1 = .ok (.invokevirtual 75, 3) := by decide +kernel
theorem dX5_appeal_4 : decode cX5_appeal 4 = .ok (.aload_n 0, 1) := by decide +kernel
theorem dX5_appeal_5 : decode cX5_appeal 5 = .ok (.aload_n 0, 1) := by decide +kernel
theorem dX5_appeal_6 : decode cX5_appeal 6 = .ok (.iload_n 1, 1) := by decide +kernel
theorem dX5_appeal_7 : decode cX5_appeal 7 = .ok (.iload_n 2, 1) := by decide +kernel
theorem dX5_appeal_8 : decode cX5_appeal 8 = .ok (.invokevirtual 132, 3) := by decide +kernel
theorem dX5_appeal_11 : decode cX5_appeal 11 = .ok (.invokevirtual 81, 3) := by decide +kernel
theorem dX5_appeal_14 : decode cX5_appeal 14 = .ok (.ireturn, 1) := by decide +kernel
theorem dX5_sound_0 : decode cX5_sound 0 = .ok (.iload_n 0, 1) := by decide +kernel
theorem dX5_sound_1 : decode cX5_sound 1 = .ok (.iload_n 1, 1) := by decide +kernel
theorem dX5_sound_2 : decode cX5_sound 2 = .ok (.if_icmp .ge 9, 3) := by decide +kernel
theorem dX5_sound_5 : decode cX5_sound 5 = .ok (.iload_n 1, 1) := by decide +kernel
theorem dX5_sound_6 : decode cX5_sound 6 = .ok (.iload_n 0, 1) := by decide +kernel
theorem dX5_sound_7 : decode cX5_sound 7 = .ok (.isub, 1) := by decide +kernel
theorem dX5_sound_8 : decode cX5_sound 8 = .ok (.goto 6, 3) := by decide +kernel
theorem dX5_sound_11 : decode cX5_sound 11 = .ok (.iload_n 0, 1) := by decide +kernel
theorem dX5_sound_12 : decode cX5_sound 12 = .ok (.iload_n 1, 1) := by decide +kernel
theorem dX5_sound_13 : decode cX5_sound 13 = .ok (.isub, 1) := by decide +kernel
theorem dX5_sound_14 : decode cX5_sound 14 = .ok (.istore_n 2, 1) := by decide +kernel
theorem dX5_sound_15 : decode cX5_sound 15 = .ok (.iload_n 2, 1) := by decide +kernel
theorem dX5_sound_16 : decode cX5_sound 16 = .ok (.iconst 3, 1) := by decide +kernel
theorem dX5_sound_17 : decode cX5_sound 17 = .ok (.iconst 5, 1) := by decide +kernel
theorem dX5_sound_18 : decode cX5_sound 18 = .ok (.invokestatic 40, 3) := by decide +kernel
theorem dX5_sound_21 : decode cX5_sound 21 = .ok (.ifCond .ne 14, 3) := by decide +kernel
theorem dX5_sound_24 : decode cX5_sound 24 = .ok (.iload_n 2, 1) := by decide +kernel
theorem dX5_sound_25 : decode cX5_sound 25 = .ok (.bipush 7, 2) := by decide +kernel
theorem dX5_sound_27 : decode cX5_sound 27 = .ok (.bipush 9, 2) := by decide +kernel
theorem dX5_sound_29 : decode cX5_sound 29 = .ok (.invokestatic 40, 3) := by decide +kernel
theorem dX5_sound_32 : decode cX5_sound 32 = .ok (.ifCond .eq 7, 3) := by decide +kernel
theorem dX5_sound_35 : decode cX5_sound 35 = .ok (.iconst 1, 1) := by decide +kernel
theorem dX5_sound_36 : decode cX5_sound 36 = .ok (.goto 12, 3) := by decide +kernel
theorem dX5_sound_39 : decode cX5_sound 39 = .ok (.iload_n 2, 1) := by decide +kernel
theorem dX5_sound_40 : decode cX5_sound 40 = .ok (.ifCond .ne 7, 3) := by decide +kernel
theorem dX5_sound_43 : decode cX5_sound 43 = .ok (.iconst 0, 1) := by decide +kernel
theorem dX5_sound_44 : decode cX5_sound 44 = .ok (.goto 4, 3) := by decide +kernel
theorem dX5_sound_47 : decode cX5_sound 47 = .ok (.iconst (-1), 1) := by decide +kernel
theorem dX5_sound_48 : decode cX5_sound 48 = .ok (.ireturn, 1) := by decide +kernel
theorem dX5_sounds_0 : decode cX5_sounds 0 = .ok (.iconst 0, 1) := by decide +kernel
theorem dX5_sounds_1 : decode cX5_sounds 1 = .ok (.istore_n 1, 1) := by decide +kernel
theorem dX5_sounds_2 : decode cX5_sounds 2 = .ok (.iload_n 1, 1) := by decide +kernel
theorem dX5_sounds_3 : decode cX5_sounds 3 = .ok (.aload_n 0, 1) := by decide +kernel
theorem dX5_sounds_4 : decode cX5_sounds 4 = .ok (.getfield 9, 3) := by decide +kernel
theorem dX5_sounds_7 : decode cX5_sounds 7 = .ok (.iconst 1, 1) := by decide +kernel
theorem dX5_sounds_8 : decode cX5_sounds 8 = .ok (.iaload, 1) := by decide +kernel
theorem dX5_sounds_9 : decode cX5_sounds 9 = .ok (.if_icmp .ge 100, 3) := by decide +kernel
theorem dX5_sounds_12 : decode cX5_sounds 12 = .ok (.iconst 0, 1) := by decide +kernel
theorem dX5_sounds_13 : decode cX5_sounds 13 = .ok (.istore_n 2, 1) := by decide +kernel
theorem dX5_sounds_14 : decode cX5_sounds 14 = .ok (.iload_n 2, 1) := by decide +kernel
theorem dX5_sounds_15 : decode cX5_sounds 15 = .ok (.iload_n 1, 1) := by decide +kernel
theorem dX5_sounds_16 : decode cX5_sounds 16 = .ok (.if_icmp .ge 87, 3) := by decide +kernel
theorem dX5_sounds_19 : decode cX5_sounds 19 = .ok (.aload_n 0, 1) := by decide +kernel
theorem dX5_sounds_20 : decode cX5_sounds 20 = .ok (.iload_n 1, 1) := by decide +kernel
theorem dX5_sounds_21 : decode cX5_sounds 21 = .ok (.invokevirtual 135, 3) := by decide +kernel
theorem dX5_sounds_24 : decode cX5_sounds 24 = .ok (.ifCond .eq 29, 3) := by decide +kernel
theorem dX5_sounds_27 : decode cX5_sounds 27 = .ok (.aload_n 0, 1) := by decide +kernel
theorem dX5_sounds_28 : decode cX5_sounds 28 = .ok (.iload_n 2, 1) := by decide +kernel
theorem dX5_sounds_29 : decode cX5_sounds 29 = .ok (.invokevirtual 135, 3) := by decide +kernel
theorem dX5_sounds_32 : decode cX5_sounds 32 = .ok (.ifCond .eq 21, 3) := by decide +kernel
theorem dX5_sounds_35 : decode cX5_sounds 35 = .ok (.aload_n 0, 1) := by decide +kernel
theorem dX5_sounds_36 : decode cX5_sounds 36 = .ok (.iload_n 1, 1) := by decide +kernel
theorem dX5_sounds_37 : decode cX5_sounds 37 = .ok (.iconst 1, 1) := by decide +kernel
theorem dX5_sounds_38 : decode cX5_sounds 38 = .ok (.invokevirtual 48, 3) := by decide +kernel
theorem dX5_sounds_41 : decode cX5_sounds 41 = .ok (.aload_n 0, 1) := by decide +kernel
theorem dX5_sounds_42 : decode cX5_sounds 42 = .ok (.iload_n 2, 1) := by decide +kernel
theorem dX5_sounds_43 : decode cX5_sounds 43 = .ok (.iconst 1, 1) := by decide +kernel
theorem dX5_sounds_44 : decode cX5_sounds 44 = .ok (.invokevirtual 48, 3) := by decide +kernel
theorem dX5_sounds_47 : decode cX5_sounds 47 = .ok (.invokestatic 138, 3) := by decide +kernel
theorem dX5_sounds_50 : decode cX5_sounds 50 = .ok (.goto 4, 3) := by decide +kernel
theorem dX5_sounds_53 : decode cX5_sounds 53 = .ok (.iconst 0, 1) := by decide +kernel
theorem dX5_sounds_54 : decode cX5_sounds 54 = .ok (.istore_n 3, 1) := by decide +kernel
theorem dX5_sounds_55 : decode cX5_sounds 55 = .ok (.aload_n 0, 1) := by decide +kernel
theorem dX5_sounds_56 : decode cX5_sounds 56 = .ok (.getfield 9, 3) := by decide +kernel
theorem dX5_sounds_59 : decode cX5_sounds 59 = .ok (.iconst 5, 1) := by decide +kernel
theorem dX5_sounds_60 : decode cX5_sounds 60 = .ok (.iconst 3, 1) := by decide +kernel
theorem dX5_sounds_61 : decode cX5_sounds 61 = .ok (.aload_n 0, 1) := by decide +kernel
theorem dX5_sounds_62 : decode cX5_sounds 62 = .ok (.iload_n 1, 1) := by decide +kernel
theorem dX5_sounds_63 : decode cX5_sounds 63 = .ok (.iconst 0, 1) := by decide +kernel
theorem dX5_sounds_64 : decode cX5_sounds 64 = .ok (.invokevirtual 48, 3) := by decide +kernel
theorem dX5_sounds_67 : decode cX5_sounds 67 = .ok (.imul, 1) := by decide +kernel
theorem dX5_sounds_68 : decode cX5_sounds 68 = .ok (.iadd, 1) := by decide +kernel
theorem dX5_sounds_69 : decode cX5_sounds 69 = .ok (.iconst 0, 1) := by decide +kernel
theorem dX5_sounds_70 : decode cX5_sounds 70 = .ok (.iadd, 1) := by decide +kernel
theorem dX5_sounds_71 : decode cX5_sounds 71 = .ok (.dup2, 1) := by decide +kernel
theorem dX5_sounds_72 : decode cX5_sounds 72 = .ok (.iaload, 1) := by decide +kernel
theorem dX5_sounds_73 : decode cX5_sounds 73 = .ok (.iload_n 3, 1) := by decide +kernel
theorem dX5_sounds_74 : decode cX5_sounds 74 = .ok (.iadd, 1) := by decide +kernel
theorem dX5_sounds_75 : decode cX5_sounds 75 = .ok (.iastore, 1) := by decide +kernel
theorem dX5_sounds_76 : decode cX5_sounds 76 = .ok (.aload_n 0, 1) := by decide +kernel
theorem dX5_sounds_77 : decode cX5_sounds 77 = .ok (.getfield 9, 3) := by decide +kernel
theorem dX5_sounds_80 : decode cX5_sounds 80 = .ok (.iconst 5, 1) := by decide +kernel
theorem dX5_sounds_81 : decode cX5_sounds 81 = .ok (.iconst 3, 1) := by decide +kernel
theorem dX5_sounds_82 : decode cX5_sounds 82 = .ok (.aload_n 0, 1) := by decide +kernel
theorem dX5_sounds_83 : decode cX5_sounds 83 = .ok (.iload_n 2, 1) := by decide +kernel
theorem dX5_sounds_84 : decode cX5_sounds 84 = .ok (.iconst 0, 1) := by decide +kernel
theorem dX5_sounds_85 : decode cX5_sounds 85 = .ok (.invokevirtual 48, 3) := by decide +kernel
theorem dX5_sounds_88 : decode cX5_sounds 88 = .ok (.imul, 1) := by decide +kernel
theorem dX5_sounds_89 : decode cX5_sounds 89 = .ok (.iadd, 1) := by decide +kernel
theorem dX5_sounds_90 : decode cX5_sounds 90 = .ok (.iconst 0, 1) := by decide +kernel
theorem dX5_sounds_91 : decode cX5_sounds 91 = .ok (.iadd, 1) := by decide +kernel
theorem dX5_sounds_92 : decode cX5_sounds 92 = .ok (.dup2, 1) := by decide +kernel
theorem dX5_sounds_93 : decode cX5_sounds 93 = .ok (.iaload, 1) := by decide +kernel
theorem dX5_sounds_94 : decode cX5_sounds 94 = .ok (.iload_n 3, 1) := by decide +kernel
theorem dX5_sounds_95 : decode cX5_sounds 95 = .ok (.iadd, 1) := by decide +kernel
theorem dX5_sounds_96 : decode cX5_sounds 96 = .ok (.iastore, 1) := by decide +kernel
theorem dX5_sounds_97 : decode cX5_sounds 97 = .ok (.iinc 2 1, 3) := by decide +kernel
theorem dX5_sounds_100 : decode cX5_sounds 100 = .ok (.goto (-86), 3) := by decide +kernel
theorem dX5_sounds_103 : decode cX5_sounds 103 = .ok (.iinc 1 1, 3) := by decide +kernel
theorem dX5_sounds_106 : decode cX5_sounds 106 = .ok (.goto (-104), 3) := by decide +kernel
theorem dX5_sounds_109 : decode cX5_sounds 109 = .ok (.iconst 0, 1) := by decide +kernel
theorem dX5_sounds_110 : decode cX5_sounds 110 = .ok (.istore_n 1, 1) := by decide +kernel
theorem dX5_sounds_111 : decode cX5_sounds 111 = .ok (.iload_n 1, 1) := by decide +kernel
theorem dX5_sounds_112 : decode cX5_sounds 112 = .ok (.aload_n 0, 1) := by decide +kernel
theorem dX5_sounds_113 : decode cX5_sounds 113 = .ok (.getfield 9, 3) := by decide +kernel
theorem dX5_sounds_116 : decode cX5_sounds 116 = .ok (.iconst 1, 1) := by decide +kernel
theorem dX5_sounds_117 : decode cX5_sounds 117 = .ok (.iaload, 1) := by decide +kernel
theorem dX5_sounds_118 : decode cX5_sounds 118 = .ok (.if_icmp .ge 17, 3) := by decide +kernel
theorem dX5_sounds_121 : decode cX5_sounds 121 = .ok (.aload_n 0, 1) := by decide +kernel
theorem dX5_sounds_122 : decode cX5_sounds 122 = .ok (.iload_n 1, 1) := by decide +kernel
theorem dX5_sounds_123 : decode cX5_sounds 123 = .ok (.bipush 7, 2) := by decide +kernel
theorem dX5_sounds_125 : decode cX5_sounds 125 = .ok (.iconst 0, 1) := by decide +kernel
theorem dX5_sounds_126 : decode cX5_sounds 126 = .ok (.invokevirtual 84, 3) := by decide +kernel
theorem dX5_sounds_129 : decode cX5_sounds 129 = .ok (.iinc 1 1, 3) := by decide +kernel
theorem dX5_sounds_132 : decode cX5_sounds 132 = .ok (.goto (-21), 3) := by decide +kernel
theorem dX5_sounds_135 : decode cX5_sounds 135 = .ok (.return_, 1) := by decide +kernel
theorem dX5_boilsOn_0 : decode cX5_boilsOn 0 = .ok (.aload_n 0, 1) := by decide +kernel
theorem dX5_boilsOn_1 : decode cX5_boilsOn 1 = .ok (.iload_n 1, 1) := by decide +kernel
theorem dX5_boilsOn_2 : decode cX5_boilsOn 2 = .ok (.iconst 2, 1) := by decide +kernel
theorem dX5_boilsOn_3 : decode cX5_boilsOn 3 = .ok (.invokevirtual 48, 3) := by decide +kernel
theorem dX5_boilsOn_6 : decode cX5_boilsOn 6 = .ok (.ifCond .le 27, 3) := by decide +kernel
theorem dX5_boilsOn_9 : decode cX5_boilsOn 9 = .ok (.aload_n 0, 1) := by decide +kernel
theorem dX5_boilsOn_10 : decode cX5_boilsOn 10 = .ok (.iload_n 1, 1) := by decide +kernel
theorem dX5_boilsOn_11 : decode cX5_boilsOn 11 = .ok (.iconst 2, 1) := by decide +kernel
theorem dX5_boilsOn_12 : decode cX5_boilsOn 12 = .ok (.aload_n 0, 1) := by decide +kernel
theorem dX5_boilsOn_13 : decode cX5_boilsOn 13 = .ok (.iload_n 1, 1) := by decide +kernel
theorem dX5_boilsOn_14 : decode cX5_boilsOn 14 = .ok (.iconst 2, 1) := by decide +kernel
theorem dX5_boilsOn_15 : decode cX5_boilsOn 15 = .ok (.invokevirtual 48, 3) := by decide +kernel
theorem dX5_boilsOn_18 : decode cX5_boilsOn 18 = .ok (.iconst 1, 1) := by decide +kernel
theorem dX5_boilsOn_19 : decode cX5_boilsOn 19 = .ok (.isub, 1) := by decide +kernel
theorem dX5_boilsOn_20 : decode cX5_boilsOn 20 = .ok (.invokevirtual 84, 3) := by decide +kernel
theorem dX5_boilsOn_23 : decode cX5_boilsOn 23 = .ok (.aload_n 0, 1) := by decide +kernel
theorem dX5_boilsOn_24 : decode cX5_boilsOn 24 = .ok (.getfield 9, 3) := by decide +kernel
theorem dX5_boilsOn_27 : decode cX5_boilsOn 27 = .ok (.iconst 3, 1) := by decide +kernel
theorem dX5_boilsOn_28 : decode cX5_boilsOn 28 = .ok (.dup2, 1) := by decide +kernel
theorem dX5_boilsOn_29 : decode cX5_boilsOn 29 = .ok (.iaload, 1) := by decide +kernel
theorem dX5_boilsOn_30 : decode cX5_boilsOn 30 = .ok (.iconst 1, 1) := by decide +kernel
theorem dX5_boilsOn_31 : decode cX5_boilsOn 31 = .ok (.iadd, 1) := by decide +kernel
theorem dX5_boilsOn_32 : decode cX5_boilsOn 32 = .ok (.iastore, 1) := by decide +kernel
theorem dX5_boilsOn_33 : decode cX5_boilsOn 33 = .ok (.aload_n 0, 1) := by decide +kernel
theorem dX5_boilsOn_34 : decode cX5_boilsOn 34 = .ok (.iload_n 1, 1) := by decide +kernel
theorem dX5_boilsOn_35 : decode cX5_boilsOn 35 = .ok (.iconst 2, 1) := by decide +kernel
theorem dX5_boilsOn_36 : decode cX5_boilsOn 36 = .ok (.invokevirtual 48, 3) := by decide +kernel
theorem dX5_boilsOn_39 : decode cX5_boilsOn 39 = .ok (.ifCond .le 5, 3) := by decide +kernel
theorem dX5_boilsOn_42 : decode cX5_boilsOn 42 = .ok (.iconst 0, 1) := by decide +kernel
theorem dX5_boilsOn_43 : decode cX5_boilsOn 43 = .ok (.ireturn, 1) := by decide +kernel
theorem dX5_boilsOn_44 : decode cX5_boilsOn 44 = .ok (.aload_n 0, 1) := by decide +kernel
theorem dX5_boilsOn_45 : decode cX5_boilsOn 45 = .ok (.iload_n 1, 1) := by decide +kernel
theorem dX5_boilsOn_46 : decode cX5_boilsOn 46 = .ok (.iconst 5, 1) := by decide +kernel
theorem dX5_boilsOn_47 : decode cX5_boilsOn 47 = .ok (.iconst 0, 1) := by decide +kernel
theorem dX5_boilsOn_48 : decode cX5_boilsOn 48 = .ok (.invokevirtual 84, 3) := by decide +kernel
theorem dX5_boilsOn_51 : decode cX5_boilsOn 51 = .ok (.aload_n 0, 1) := by decide +kernel
theorem dX5_boilsOn_52 : decode cX5_boilsOn 52 = .ok (.iload_n 1, 1) := by decide +kernel
theorem dX5_boilsOn_53 : decode cX5_boilsOn 53 = .ok (.bipush 6, 2) := by decide +kernel
theorem dX5_boilsOn_55 : decode cX5_boilsOn 55 = .ok (.bipush 7, 2) := by decide +kernel
theorem dX5_boilsOn_57 : decode cX5_boilsOn 57 = .ok (.invokevirtual 84, 3) := by decide +kernel
theorem dX5_boilsOn_60 : decode cX5_boilsOn 60 = .ok (.aload_n 0, 1) := by decide +kernel
theorem dX5_boilsOn_61 : decode cX5_boilsOn 61 = .ok (.getfield 9, 3) := by decide +kernel
theorem dX5_boilsOn_64 : decode cX5_boilsOn 64 = .ok (.iconst 5, 1) := by decide +kernel
theorem dX5_boilsOn_65 : decode cX5_boilsOn 65 = .ok (.iconst 3, 1) := by decide +kernel
theorem dX5_boilsOn_66 : decode cX5_boilsOn 66 = .ok (.aload_n 0, 1) := by decide +kernel
theorem dX5_boilsOn_67 : decode cX5_boilsOn 67 = .ok (.iload_n 1, 1) := by decide +kernel
theorem dX5_boilsOn_68 : decode cX5_boilsOn 68 = .ok (.iconst 0, 1) := by decide +kernel
theorem dX5_boilsOn_69 : decode cX5_boilsOn 69 = .ok (.invokevirtual 48, 3) := by decide +kernel
theorem dX5_boilsOn_72 : decode cX5_boilsOn 72 = .ok (.imul, 1) := by decide +kernel
theorem dX5_boilsOn_73 : decode cX5_boilsOn 73 = .ok (.iadd, 1) := by decide +kernel
theorem dX5_boilsOn_74 : decode cX5_boilsOn 74 = .ok (.iconst 0, 1) := by decide +kernel
theorem dX5_boilsOn_75 : decode cX5_boilsOn 75 = .ok (.iadd, 1) := by decide +kernel
theorem dX5_boilsOn_76 : decode cX5_boilsOn 76 = .ok (.dup2, 1) := by decide +kernel
theorem dX5_boilsOn_77 : decode cX5_boilsOn 77 = .ok (.iaload, 1) := by decide +kernel
theorem dX5_boilsOn_78 : decode cX5_boilsOn 78 = .ok (.iconst 2, 1) := by decide +kernel
theorem dX5_boilsOn_79 : decode cX5_boilsOn 79 = .ok (.isub, 1) := by decide +kernel
theorem dX5_boilsOn_80 : decode cX5_boilsOn 80 = .ok (.iastore, 1) := by decide +kernel
theorem dX5_boilsOn_81 : decode cX5_boilsOn 81 = .ok (.aload_n 0, 1) := by decide +kernel
theorem dX5_boilsOn_82 : decode cX5_boilsOn 82 = .ok (.getfield 9, 3) := by decide +kernel
theorem dX5_boilsOn_85 : decode cX5_boilsOn 85 = .ok (.iconst 5, 1) := by decide +kernel
theorem dX5_boilsOn_86 : decode cX5_boilsOn 86 = .ok (.iconst 3, 1) := by decide +kernel
theorem dX5_boilsOn_87 : decode cX5_boilsOn 87 = .ok (.aload_n 0, 1) := by decide +kernel
theorem dX5_boilsOn_88 : decode cX5_boilsOn 88 = .ok (.iload_n 1, 1) := by decide +kernel
theorem dX5_boilsOn_89 : decode cX5_boilsOn 89 = .ok (.iconst 0, 1) := by decide +kernel
theorem dX5_boilsOn_90 : decode cX5_boilsOn 90 = .ok (.invokevirtual 48, 3) := by decide +kernel
theorem dX5_boilsOn_93 : decode cX5_boilsOn 93 = .ok (.imul, 1) := by decide +kernel
theorem dX5_boilsOn_94 : decode cX5_boilsOn 94 = .ok (.iadd, 1) := by decide +kernel
theorem dX5_boilsOn_95 : decode cX5_boilsOn 95 = .ok (.iconst 1, 1) := by decide +kernel
theorem dX5_boilsOn_96 : decode cX5_boilsOn 96 = .ok (.iadd, 1) := by decide +kernel
theorem dX5_boilsOn_97 : decode cX5_boilsOn 97 = .ok (.dup2, 1) := by decide +kernel
theorem dX5_boilsOn_98 : decode cX5_boilsOn 98 = .ok (.iaload, 1) := by decide +kernel
theorem dX5_boilsOn_99 : decode cX5_boilsOn 99 = .ok (.iconst 1, 1) := by decide +kernel
theorem dX5_boilsOn_100 : decode cX5_boilsOn 100 = .ok (.iadd, 1) := by decide +kernel
theorem dX5_boilsOn_101 : decode cX5_boilsOn 101 = .ok (.iastore, 1) := by decide +kernel
theorem dX5_boilsOn_102 : decode cX5_boilsOn 102 = .ok (.aload_n 0, 1) := by decide +kernel
theorem dX5_boilsOn_103 : decode cX5_boilsOn 103 = .ok (.getfield 9, 3) := by decide +kernel
theorem dX5_boilsOn_106 : decode cX5_boilsOn 106 = .ok (.iconst 4, 1) := by decide +kernel
theorem dX5_boilsOn_107 : decode cX5_boilsOn 107 = .ok (.dup2, 1) := by decide +kernel
theorem dX5_boilsOn_108 : decode cX5_boilsOn 108 = .ok (.iaload, 1) := by decide +kernel
theorem dX5_boilsOn_109 : decode cX5_boilsOn 109 = .ok (.iconst 1, 1) := by decide +kernel
theorem dX5_boilsOn_110 : decode cX5_boilsOn 110 = .ok (.iadd, 1) := by decide +kernel
theorem dX5_boilsOn_111 : decode cX5_boilsOn 111 = .ok (.iastore, 1) := by decide +kernel
theorem dX5_boilsOn_112 : decode cX5_boilsOn 112 = .ok (.iconst 1, 1) := by decide +kernel
theorem dX5_boilsOn_113 : decode cX5_boilsOn 113 = .ok (.ireturn, 1) := by decide +kernel
theorem dX5_goesBy_0 : decode cX5_goesBy 0 = .ok (.iconst 0, 1) := by decide +kernel
theorem dX5_goesBy_1 : decode cX5_goesBy 1 = .ok (.istore_n 1, 1) := by decide +kernel
theorem dX5_goesBy_2 : decode cX5_goesBy 2 = .ok (.iconst 0, 1) := by decide +kernel
theorem dX5_goesBy_3 : decode cX5_goesBy 3 = .ok (.istore_n 2, 1) := by decide +kernel
theorem dX5_goesBy_4 : decode cX5_goesBy 4 = .ok (.iload_n 2, 1) := by decide +kernel
theorem dX5_goesBy_5 : decode cX5_goesBy 5 = .ok (.aload_n 0, 1) := by decide +kernel
theorem dX5_goesBy_6 : decode cX5_goesBy 6 = .ok (.getfield 9, 3) := by decide +kernel
theorem dX5_goesBy_9 : decode cX5_goesBy 9 = .ok (.iconst 1, 1) := by decide +kernel
theorem dX5_goesBy_10 : decode cX5_goesBy 10 = .ok (.iaload, 1) := by decide +kernel
theorem dX5_goesBy_11 : decode cX5_goesBy 11 = .ok (.if_icmp .ge 33, 3) := by decide +kernel
theorem dX5_goesBy_14 : decode cX5_goesBy 14 = .ok (.iload_n 1, 1) := by decide +kernel
theorem dX5_goesBy_15 : decode cX5_goesBy 15 = .ok (.aload_n 0, 1) := by decide +kernel
theorem dX5_goesBy_16 : decode cX5_goesBy 16 = .ok (.iload_n 2, 1) := by decide +kernel
theorem dX5_goesBy_17 : decode cX5_goesBy 17 = .ok (.invokevirtual 59, 3) := by decide +kernel
theorem dX5_goesBy_20 : decode cX5_goesBy 20 = .ok (.ifCond .eq 15, 3) := by decide +kernel
theorem dX5_goesBy_23 : decode cX5_goesBy 23 = .ok (.aload_n 0, 1) := by decide +kernel
theorem dX5_goesBy_24 : decode cX5_goesBy 24 = .ok (.iload_n 2, 1) := by decide +kernel
theorem dX5_goesBy_25 : decode cX5_goesBy 25 = .ok (.invokevirtual 141, 3) := by decide +kernel
theorem dX5_goesBy_28 : decode cX5_goesBy 28 = .ok (.ifCond .eq 7, 3) := by decide +kernel
theorem dX5_goesBy_31 : decode cX5_goesBy 31 = .ok (.iconst 1, 1) := by decide +kernel
theorem dX5_goesBy_32 : decode cX5_goesBy 32 = .ok (.goto 4, 3) := by decide +kernel
theorem dX5_goesBy_35 : decode cX5_goesBy 35 = .ok (.iconst 0, 1) := by decide +kernel
theorem dX5_goesBy_36 : decode cX5_goesBy 36 = .ok (.iadd, 1) := by decide +kernel
theorem dX5_goesBy_37 : decode cX5_goesBy 37 = .ok (.istore_n 1, 1) := by decide +kernel
theorem dX5_goesBy_38 : decode cX5_goesBy 38 = .ok (.iinc 2 1, 3) := by decide +kernel
theorem dX5_goesBy_41 : decode cX5_goesBy 41 = .ok (.goto (-37), 3) := by decide +kernel
theorem dX5_goesBy_44 : decode cX5_goesBy 44 = .ok (.iconst 0, 1) := by decide +kernel
theorem dX5_goesBy_45 : decode cX5_goesBy 45 = .ok (.istore_n 2, 1) := by decide +kernel
theorem dX5_goesBy_46 : decode cX5_goesBy 46 = .ok (.iload_n 2, 1) := by decide +kernel
theorem dX5_goesBy_47 : decode cX5_goesBy 47 = .ok (.aload_n 0, 1) := by decide +kernel
theorem dX5_goesBy_48 : decode cX5_goesBy 48 = .ok (.getfield 9, 3) := by decide +kernel
theorem dX5_goesBy_51 : decode cX5_goesBy 51 = .ok (.iconst 1, 1) := by decide +kernel
theorem dX5_goesBy_52 : decode cX5_goesBy 52 = .ok (.iaload, 1) := by decide +kernel
theorem dX5_goesBy_53 : decode cX5_goesBy 53 = .ok (.if_icmp .ge 96, 3) := by decide +kernel
theorem dX5_goesBy_56 : decode cX5_goesBy 56 = .ok (.aload_n 0, 1) := by decide +kernel
theorem dX5_goesBy_57 : decode cX5_goesBy 57 = .ok (.iload_n 2, 1) := by decide +kernel
theorem dX5_goesBy_58 : decode cX5_goesBy 58 = .ok (.iconst 3, 1) := by decide +kernel
theorem dX5_goesBy_59 : decode cX5_goesBy 59 = .ok (.invokevirtual 48, 3) := by decide +kernel
theorem dX5_goesBy_62 : decode cX5_goesBy 62 = .ok (.aload_n 0, 1) := by decide +kernel
theorem dX5_goesBy_63 : decode cX5_goesBy 63 = .ok (.iload_n 2, 1) := by decide +kernel
theorem dX5_goesBy_64 : decode cX5_goesBy 64 = .ok (.invokevirtual 52, 3) := by decide +kernel
theorem dX5_goesBy_67 : decode cX5_goesBy 67 = .ok (.ifCond .eq 13, 3) := by decide +kernel
theorem dX5_goesBy_70 : decode cX5_goesBy 70 = .ok (.iconst 5, 1) := by decide +kernel
theorem dX5_goesBy_71 : decode cX5_goesBy 71 = .ok (.aload_n 0, 1) := by decide +kernel
theorem dX5_goesBy_72 : decode cX5_goesBy 72 = .ok (.iload_n 2, 1) := by decide +kernel
theorem dX5_goesBy_73 : decode cX5_goesBy 73 = .ok (.invokevirtual 56, 3) := by decide +kernel
theorem dX5_goesBy_76 : decode cX5_goesBy 76 = .ok (.imul, 1) := by decide +kernel
theorem dX5_goesBy_77 : decode cX5_goesBy 77 = .ok (.goto 5, 3) := by decide +kernel
theorem dX5_goesBy_80 : decode cX5_goesBy 80 = .ok (.bipush (-5), 2) := by decide +kernel
theorem dX5_goesBy_82 : decode cX5_goesBy 82 = .ok (.iadd, 1) := by decide +kernel
theorem dX5_goesBy_83 : decode cX5_goesBy 83 = .ok (.istore_n 3, 1) := by decide +kernel
theorem dX5_goesBy_84 : decode cX5_goesBy 84 = .ok (.aload_n 0, 1) := by decide +kernel
theorem dX5_goesBy_85 : decode cX5_goesBy 85 = .ok (.iload_n 2, 1) := by decide +kernel
theorem dX5_goesBy_86 : decode cX5_goesBy 86 = .ok (.iconst 3, 1) := by decide +kernel
theorem dX5_goesBy_87 : decode cX5_goesBy 87 = .ok (.iload_n 3, 1) := by decide +kernel
theorem dX5_goesBy_88 : decode cX5_goesBy 88 = .ok (.bipush 100, 2) := by decide +kernel
theorem dX5_goesBy_90 : decode cX5_goesBy 90 = .ok (.if_icmp .le 8, 3) := by decide +kernel
theorem dX5_goesBy_93 : decode cX5_goesBy 93 = .ok (.bipush 100, 2) := by decide +kernel
theorem dX5_goesBy_95 : decode cX5_goesBy 95 = .ok (.goto 15, 3) := by decide +kernel
theorem dX5_goesBy_98 : decode cX5_goesBy 98 = .ok (.iload_n 3, 1) := by decide +kernel
theorem dX5_goesBy_99 : decode cX5_goesBy 99 = .ok (.bipush 20, 2) := by decide +kernel
theorem dX5_goesBy_101 : decode cX5_goesBy 101 = .ok (.if_icmp .ge 8, 3) := by decide +kernel
theorem dX5_goesBy_104 : decode cX5_goesBy 104 = .ok (.bipush 20, 2) := by decide +kernel
theorem dX5_goesBy_106 : decode cX5_goesBy 106 = .ok (.goto 4, 3) := by decide +kernel
theorem dX5_goesBy_109 : decode cX5_goesBy 109 = .ok (.iload_n 3, 1) := by decide +kernel
theorem dX5_goesBy_110 : decode cX5_goesBy 110 = .ok (.invokevirtual 84, 3) := by decide +kernel
theorem dX5_goesBy_113 : decode cX5_goesBy 113 = .ok (.aload_n 0, 1) := by decide +kernel
theorem dX5_goesBy_114 : decode cX5_goesBy 114 = .ok (.iload_n 2, 1) := by decide +kernel
theorem dX5_goesBy_115 : decode cX5_goesBy 115 = .ok (.bipush 6, 2) := by decide +kernel
theorem dX5_goesBy_117 : decode cX5_goesBy 117 = .ok (.aload_n 0, 1) := by decide +kernel
theorem dX5_goesBy_118 : decode cX5_goesBy 118 = .ok (.iload_n 2, 1) := by decide +kernel
theorem dX5_goesBy_119 : decode cX5_goesBy 119 = .ok (.bipush 6, 2) := by decide +kernel
theorem dX5_goesBy_121 : decode cX5_goesBy 121 = .ok (.invokevirtual 48, 3) := by decide +kernel
theorem dX5_goesBy_124 : decode cX5_goesBy 124 = .ok (.ifCond .le 15, 3) := by decide +kernel
theorem dX5_goesBy_127 : decode cX5_goesBy 127 = .ok (.aload_n 0, 1) := by decide +kernel
theorem dX5_goesBy_128 : decode cX5_goesBy 128 = .ok (.iload_n 2, 1) := by decide +kernel
theorem dX5_goesBy_129 : decode cX5_goesBy 129 = .ok (.bipush 6, 2) := by decide +kernel
theorem dX5_goesBy_131 : decode cX5_goesBy 131 = .ok (.invokevirtual 48, 3) := by decide +kernel
theorem dX5_goesBy_134 : decode cX5_goesBy 134 = .ok (.iconst 1, 1) := by decide +kernel
theorem dX5_goesBy_135 : decode cX5_goesBy 135 = .ok (.isub, 1) := by decide +kernel
theorem dX5_goesBy_136 : decode cX5_goesBy 136 = .ok (.goto 4, 3) := by decide +kernel
theorem dX5_goesBy_139 : decode cX5_goesBy 139 = .ok (.iconst 0, 1) := by decide +kernel
theorem dX5_goesBy_140 : decode cX5_goesBy 140 = .ok (.invokevirtual 84, 3) := by decide +kernel
theorem dX5_goesBy_143 : decode cX5_goesBy 143 = .ok (.iinc 2 1, 3) := by decide +kernel
theorem dX5_goesBy_146 : decode cX5_goesBy 146 = .ok (.goto (-100), 3) := by decide +kernel
theorem dX5_goesBy_149 : decode cX5_goesBy 149 = .ok (.aload_n 0, 1) := by decide +kernel
theorem dX5_goesBy_150 : decode cX5_goesBy 150 = .ok (.getfield 9, 3) := by decide +kernel
theorem dX5_goesBy_153 : decode cX5_goesBy 153 = .ok (.iconst 0, 1) := by decide +kernel
theorem dX5_goesBy_154 : decode cX5_goesBy 154 = .ok (.dup2, 1) := by decide +kernel
theorem dX5_goesBy_155 : decode cX5_goesBy 155 = .ok (.iaload, 1) := by decide +kernel
theorem dX5_goesBy_156 : decode cX5_goesBy 156 = .ok (.iconst 1, 1) := by decide +kernel
theorem dX5_goesBy_157 : decode cX5_goesBy 157 = .ok (.iadd, 1) := by decide +kernel
theorem dX5_goesBy_158 : decode cX5_goesBy 158 = .ok (.iastore, 1) := by decide +kernel
theorem dX5_goesBy_159 : decode cX5_goesBy 159 = .ok (.aload_n 0, 1) := by decide +kernel
theorem dX5_goesBy_160 : decode cX5_goesBy 160 = .ok (.getfield 9, 3) := by decide +kernel
theorem dX5_goesBy_163 : decode cX5_goesBy 163 = .ok (.iconst 0, 1) := by decide +kernel
theorem dX5_goesBy_164 : decode cX5_goesBy 164 = .ok (.iaload, 1) := by decide +kernel
theorem dX5_goesBy_165 : decode cX5_goesBy 165 = .ok (.bipush 6, 2) := by decide +kernel
theorem dX5_goesBy_167 : decode cX5_goesBy 167 = .ok (.irem, 1) := by decide +kernel
theorem dX5_goesBy_168 : decode cX5_goesBy 168 = .ok (.ifCond .ne 7, 3) := by decide +kernel
theorem dX5_goesBy_171 : decode cX5_goesBy 171 = .ok (.aload_n 0, 1) := by decide +kernel
theorem dX5_goesBy_172 : decode cX5_goesBy 172 = .ok (.invokevirtual 144, 3) := by decide +kernel
theorem dX5_goesBy_175 : decode cX5_goesBy 175 = .ok (.iload_n 1, 1) := by decide +kernel
theorem dX5_goesBy_176 : decode cX5_goesBy 176 = .ok (.ireturn, 1) := by decide +kernel
theorem dX5_passes_0 : decode cX5_passes 0 = .ok (.iload_n 1, 1) := by decide +kernel
theorem dX5_passes_1 : decode cX5_passes 1 = .ok (.iconst 1, 1) := by decide +kernel
theorem dX5_passes_2 : decode cX5_passes 2 = .ok (.bipush 9, 2) := by decide +kernel
theorem dX5_passes_4 : decode cX5_passes 4 = .ok (.invokestatic 40, 3) := by decide +kernel
theorem dX5_passes_7 : decode cX5_passes 7 = .ok (.ifCond .ne 7, 3) := by decide +kernel
theorem dX5_passes_10 : decode cX5_passes 10 = .ok (.sipush (-1012), 3) := by decide +kernel
theorem dX5_passes_13 : decode cX5_passes 13 = .ok (.ireturn, 1) := by decide +kernel
theorem dX5_passes_14 : decode cX5_passes 14 = .ok (.iconst 0, 1) := by decide +kernel
theorem dX5_passes_15 : decode cX5_passes 15 = .ok (.istore_n 2, 1) := by decide +kernel
theorem dX5_passes_16 : decode cX5_passes 16 = .ok (.iconst 0, 1) := by decide +kernel
theorem dX5_passes_17 : decode cX5_passes 17 = .ok (.istore_n 3, 1) := by decide +kernel
theorem dX5_passes_18 : decode cX5_passes 18 = .ok (.iload_n 3, 1) := by decide +kernel
theorem dX5_passes_19 : decode cX5_passes 19 = .ok (.iload_n 1, 1) := by decide +kernel
theorem dX5_passes_20 : decode cX5_passes 20 = .ok (.if_icmp .ge 16, 3) := by decide +kernel
theorem dX5_passes_23 : decode cX5_passes 23 = .ok (.iload_n 2, 1) := by decide +kernel
theorem dX5_passes_24 : decode cX5_passes 24 = .ok (.aload_n 0, 1) := by decide +kernel
theorem dX5_passes_25 : decode cX5_passes 25 = .ok (.invokevirtual 147, 3) := by decide +kernel
theorem dX5_passes_28 : decode cX5_passes 28 = .ok (.iadd, 1) := by decide +kernel
theorem dX5_passes_29 : decode cX5_passes 29 = .ok (.istore_n 2, 1) := by decide +kernel
theorem dX5_passes_30 : decode cX5_passes 30 = .ok (.iinc 3 1, 3) := by decide +kernel
theorem dX5_passes_33 : decode cX5_passes 33 = .ok (.goto (-15), 3) := by decide +kernel
theorem dX5_passes_36 : decode cX5_passes 36 = .ok (.iload_n 2, 1) := by decide +kernel
theorem dX5_passes_37 : decode cX5_passes 37 = .ok (.ireturn, 1) := by decide +kernel
theorem dX5_minute_0 : decode cX5_minute 0 = .ok (.aload_n 0, 1) := by decide +kernel
theorem dX5_minute_1 : decode cX5_minute 1 = .ok (.invokevirtual 75, 3) := by decide +kernel
theorem dX5_minute_4 : decode cX5_minute 4 = .ok (.aload_n 0, 1) := by decide +kernel
theorem dX5_minute_5 : decode cX5_minute 5 = .ok (.aload_n 0, 1) := by decide +kernel
theorem dX5_minute_6 : decode cX5_minute 6 = .ok (.iload_n 1, 1) := by decide +kernel
theorem dX5_minute_7 : decode cX5_minute 7 = .ok (.invokevirtual 150, 3) := by decide +kernel
theorem dX5_minute_10 : decode cX5_minute 10 = .ok (.invokevirtual 81, 3) := by decide +kernel
theorem dX5_minute_13 : decode cX5_minute 13 = .ok (.ireturn, 1) := by decide +kernel
theorem dX5_owner_0 : decode cX5_owner 0 = .ok (.iload_n 1, 1) := by decide +kernel
theorem dX5_owner_1 : decode cX5_owner 1 = .ok (.invokestatic 65, 3) := by decide +kernel
theorem dX5_owner_4 : decode cX5_owner 4 = .ok (.ifCond .ne 9, 3) := by decide +kernel
theorem dX5_owner_7 : decode cX5_owner 7 = .ok (.sipush (-1012), 3) := by decide +kernel
theorem dX5_owner_10 : decode cX5_owner 10 = .ok (.goto 22, 3) := by decide +kernel
theorem dX5_owner_13 : decode cX5_owner 13 = .ok (.aload_n 0, 1) := by decide +kernel
theorem dX5_owner_14 : decode cX5_owner 14 = .ok (.iload_n 1, 1) := by decide +kernel
theorem dX5_owner_15 : decode cX5_owner 15 = .ok (.invokevirtual 44, 3) := by decide +kernel
theorem dX5_owner_18 : decode cX5_owner 18 = .ok (.ifCond .ge 9, 3) := by decide +kernel
theorem dX5_owner_21 : decode cX5_owner 21 = .ok (.sipush (-1015), 3) := by decide +kernel
theorem dX5_owner_24 : decode cX5_owner 24 = .ok (.goto 8, 3) := by decide +kernel
theorem dX5_owner_27 : decode cX5_owner 27 = .ok (.aload_n 0, 1) := by decide +kernel
theorem dX5_owner_28 : decode cX5_owner 28 = .ok (.iload_n 1, 1) := by decide +kernel
theorem dX5_owner_29 : decode cX5_owner 29 = .ok (.invokevirtual 44, 3) := by decide +kernel
theorem dX5_owner_32 : decode cX5_owner 32 = .ok (.ireturn, 1) := by decide +kernel
theorem dX5_kettleOf_0 : decode cX5_kettleOf 0 = .ok (.aload_n 0, 1) := by decide +kernel
theorem dX5_kettleOf_1 : decode cX5_kettleOf 1 = .ok (.iload_n 1, 1) := by decide +kernel
theorem dX5_kettleOf_2 : decode cX5_kettleOf 2 = .ok (.invokevirtual 92, 3) := by decide +kernel
theorem dX5_kettleOf_5 : decode cX5_kettleOf 5 = .ok (.ifCond .ne 7, 3) := by decide +kernel
theorem dX5_kettleOf_8 : decode cX5_kettleOf 8 = .ok (.sipush (-1011), 3) := by decide +kernel
theorem dX5_kettleOf_11 : decode cX5_kettleOf 11 = .ok (.ireturn, 1) := by decide +kernel
theorem dX5_kettleOf_12 : decode cX5_kettleOf 12 = .ok (.iload_n 2, 1) := by decide +kernel
theorem dX5_kettleOf_13 : decode cX5_kettleOf 13 = .ok (.tableswitch 132 0 9 #[55, 55, 55, 55, 55, 62, 85, 99, 113, 121], 55) := by decide +kernel
theorem dX5_kettleOf_68 : decode cX5_kettleOf 68 = .ok (.aload_n 0, 1) := by decide +kernel
theorem dX5_kettleOf_69 : decode cX5_kettleOf 69 = .ok (.iload_n 1, 1) := by decide +kernel
theorem dX5_kettleOf_70 : decode cX5_kettleOf 70 = .ok (.iload_n 2, 1) := by decide +kernel
theorem dX5_kettleOf_71 : decode cX5_kettleOf 71 = .ok (.invokevirtual 48, 3) := by decide +kernel
theorem dX5_kettleOf_74 : decode cX5_kettleOf 74 = .ok (.ireturn, 1) := by decide +kernel
theorem dX5_kettleOf_75 : decode cX5_kettleOf 75 = .ok (.aload_n 0, 1) := by decide +kernel
theorem dX5_kettleOf_76 : decode cX5_kettleOf 76 = .ok (.iload_n 1, 1) := by decide +kernel
theorem dX5_kettleOf_77 : decode cX5_kettleOf 77 = .ok (.invokevirtual 52, 3) := by decide +kernel
theorem dX5_kettleOf_80 : decode cX5_kettleOf 80 = .ok (.ifCond .eq 14, 3) := by decide +kernel
theorem dX5_kettleOf_83 : decode cX5_kettleOf 83 = .ok (.aload_n 0, 1) := by decide +kernel
theorem dX5_kettleOf_84 : decode cX5_kettleOf 84 = .ok (.iload_n 1, 1) := by decide +kernel
theorem dX5_kettleOf_85 : decode cX5_kettleOf 85 = .ok (.iconst 5, 1) := by decide +kernel
theorem dX5_kettleOf_86 : decode cX5_kettleOf 86 = .ok (.invokevirtual 48, 3) := by decide +kernel
theorem dX5_kettleOf_89 : decode cX5_kettleOf 89 = .ok (.iconst 1, 1) := by decide +kernel
theorem dX5_kettleOf_90 : decode cX5_kettleOf 90 = .ok (.isub, 1) := by decide +kernel
theorem dX5_kettleOf_91 : decode cX5_kettleOf 91 = .ok (.goto 6, 3) := by decide +kernel
theorem dX5_kettleOf_94 : decode cX5_kettleOf 94 = .ok (.sipush (-1015), 3) := by decide +kernel
theorem dX5_kettleOf_97 : decode cX5_kettleOf 97 = .ok (.ireturn, 1) := by decide +kernel
theorem dX5_kettleOf_98 : decode cX5_kettleOf 98 = .ok (.aload_n 0, 1) := by decide +kernel
theorem dX5_kettleOf_99 : decode cX5_kettleOf 99 = .ok (.iload_n 1, 1) := by decide +kernel
theorem dX5_kettleOf_100 : decode cX5_kettleOf 100 = .ok (.invokevirtual 59, 3) := by decide +kernel
theorem dX5_kettleOf_103 : decode cX5_kettleOf 103 = .ok (.ifCond .eq 7, 3) := by decide +kernel
theorem dX5_kettleOf_106 : decode cX5_kettleOf 106 = .ok (.iconst 1, 1) := by decide +kernel
theorem dX5_kettleOf_107 : decode cX5_kettleOf 107 = .ok (.goto 4, 3) := by decide +kernel
theorem dX5_kettleOf_110 : decode cX5_kettleOf 110 = .ok (.iconst 0, 1) := by decide +kernel
theorem dX5_kettleOf_111 : decode cX5_kettleOf 111 = .ok (.ireturn, 1) := by decide +kernel
theorem dX5_kettleOf_112 : decode cX5_kettleOf 112 = .ok (.aload_n 0, 1) := by decide +kernel
theorem dX5_kettleOf_113 : decode cX5_kettleOf 113 = .ok (.iload_n 1, 1) := by decide +kernel
theorem dX5_kettleOf_114 : decode cX5_kettleOf 114 = .ok (.invokevirtual 135, 3) := by decide +kernel
theorem dX5_kettleOf_117 : decode cX5_kettleOf 117 = .ok (.ifCond .eq 7, 3) := by decide +kernel
theorem dX5_kettleOf_120 : decode cX5_kettleOf 120 = .ok (.iconst 1, 1) := by decide +kernel
theorem dX5_kettleOf_121 : decode cX5_kettleOf 121 = .ok (.goto 4, 3) := by decide +kernel
theorem dX5_kettleOf_124 : decode cX5_kettleOf 124 = .ok (.iconst 0, 1) := by decide +kernel
theorem dX5_kettleOf_125 : decode cX5_kettleOf 125 = .ok (.ireturn, 1) := by decide +kernel
theorem dX5_kettleOf_126 : decode cX5_kettleOf 126 = .ok (.aload_n 0, 1) := by decide +kernel
theorem dX5_kettleOf_127 : decode cX5_kettleOf 127 = .ok (.iload_n 1, 1) := by decide +kernel
theorem dX5_kettleOf_128 : decode cX5_kettleOf 128 = .ok (.bipush 6, 2) := by decide +kernel
theorem dX5_kettleOf_130 : decode cX5_kettleOf 130 = .ok (.invokevirtual 48, 3) := by decide +kernel
theorem dX5_kettleOf_133 : decode cX5_kettleOf 133 = .ok (.ireturn, 1) := by decide +kernel
theorem dX5_kettleOf_134 : decode cX5_kettleOf 134 = .ok (.aload_n 0, 1) := by decide +kernel
theorem dX5_kettleOf_135 : decode cX5_kettleOf 135 = .ok (.iload_n 1, 1) := by decide +kernel
theorem dX5_kettleOf_136 : decode cX5_kettleOf 136 = .ok (.bipush 8, 2) := by decide +kernel
theorem dX5_kettleOf_138 : decode cX5_kettleOf 138 = .ok (.invokevirtual 48, 3) := by decide +kernel
theorem dX5_kettleOf_141 : decode cX5_kettleOf 141 = .ok (.invokestatic 129, 3) := by decide +kernel
theorem dX5_kettleOf_144 : decode cX5_kettleOf 144 = .ok (.ireturn, 1) := by decide +kernel
theorem dX5_kettleOf_145 : decode cX5_kettleOf 145 = .ok (.sipush (-1012), 3) := by decide +kernel
theorem dX5_kettleOf_148 : decode cX5_kettleOf 148 = .ok (.ireturn, 1) := by decide +kernel
theorem dX5_stoveOf_0 : decode cX5_stoveOf 0 = .ok (.iload_n 1, 1) := by decide +kernel
theorem dX5_stoveOf_1 : decode cX5_stoveOf 1 = .ok (.invokestatic 98, 3) := by decide +kernel
theorem dX5_stoveOf_4 : decode cX5_stoveOf 4 = .ok (.ifCond .ne 7, 3) := by decide +kernel
theorem dX5_stoveOf_7 : decode cX5_stoveOf 7 = .ok (.sipush (-1011), 3) := by decide +kernel
theorem dX5_stoveOf_10 : decode cX5_stoveOf 10 = .ok (.ireturn, 1) := by decide +kernel
theorem dX5_stoveOf_11 : decode cX5_stoveOf 11 = .ok (.iload_n 2, 1) := by decide +kernel
theorem dX5_stoveOf_12 : decode cX5_stoveOf 12 = .ok (.ifCond .eq 15, 3) := by decide +kernel
theorem dX5_stoveOf_15 : decode cX5_stoveOf 15 = .ok (.aload_n 0, 1) := by decide +kernel
theorem dX5_stoveOf_16 : decode cX5_stoveOf 16 = .ok (.getfield 9, 3) := by decide +kernel
theorem dX5_stoveOf_19 : decode cX5_stoveOf 19 = .ok (.bipush 29, 2) := by decide +kernel
theorem dX5_stoveOf_21 : decode cX5_stoveOf 21 = .ok (.iload_n 1, 1) := by decide +kernel
theorem dX5_stoveOf_22 : decode cX5_stoveOf 22 = .ok (.iadd, 1) := by decide +kernel
theorem dX5_stoveOf_23 : decode cX5_stoveOf 23 = .ok (.iaload, 1) := by decide +kernel
theorem dX5_stoveOf_24 : decode cX5_stoveOf 24 = .ok (.goto 22, 3) := by decide +kernel
theorem dX5_stoveOf_27 : decode cX5_stoveOf 27 = .ok (.aload_n 0, 1) := by decide +kernel
theorem dX5_stoveOf_28 : decode cX5_stoveOf 28 = .ok (.iload_n 1, 1) := by decide +kernel
theorem dX5_stoveOf_29 : decode cX5_stoveOf 29 = .ok (.invokevirtual 101, 3) := by decide +kernel
theorem dX5_stoveOf_32 : decode cX5_stoveOf 32 = .ok (.ifCond .ge 9, 3) := by decide +kernel
theorem dX5_stoveOf_35 : decode cX5_stoveOf 35 = .ok (.sipush (-1015), 3) := by decide +kernel
theorem dX5_stoveOf_38 : decode cX5_stoveOf 38 = .ok (.goto 8, 3) := by decide +kernel
theorem dX5_stoveOf_41 : decode cX5_stoveOf 41 = .ok (.aload_n 0, 1) := by decide +kernel
theorem dX5_stoveOf_42 : decode cX5_stoveOf 42 = .ok (.iload_n 1, 1) := by decide +kernel
theorem dX5_stoveOf_43 : decode cX5_stoveOf 43 = .ok (.invokevirtual 101, 3) := by decide +kernel
theorem dX5_stoveOf_46 : decode cX5_stoveOf 46 = .ok (.ireturn, 1) := by decide +kernel
theorem dX5_whistling_0 : decode cX5_whistling 0 = .ok (.iconst 0, 1) := by decide +kernel
theorem dX5_whistling_1 : decode cX5_whistling 1 = .ok (.istore_n 1, 1) := by decide +kernel
theorem dX5_whistling_2 : decode cX5_whistling 2 = .ok (.iconst 0, 1) := by decide +kernel
theorem dX5_whistling_3 : decode cX5_whistling 3 = .ok (.istore_n 2, 1) := by decide +kernel
theorem dX5_whistling_4 : decode cX5_whistling 4 = .ok (.iload_n 2, 1) := by decide +kernel
theorem dX5_whistling_5 : decode cX5_whistling 5 = .ok (.aload_n 0, 1) := by decide +kernel
theorem dX5_whistling_6 : decode cX5_whistling 6 = .ok (.getfield 9, 3) := by decide +kernel
theorem dX5_whistling_9 : decode cX5_whistling 9 = .ok (.iconst 1, 1) := by decide +kernel
theorem dX5_whistling_10 : decode cX5_whistling 10 = .ok (.iaload, 1) := by decide +kernel
theorem dX5_whistling_11 : decode cX5_whistling 11 = .ok (.if_icmp .ge 27, 3) := by decide +kernel
theorem dX5_whistling_14 : decode cX5_whistling 14 = .ok (.iload_n 1, 1) := by decide +kernel
theorem dX5_whistling_15 : decode cX5_whistling 15 = .ok (.aload_n 0, 1) := by decide +kernel
theorem dX5_whistling_16 : decode cX5_whistling 16 = .ok (.iload_n 2, 1) := by decide +kernel
theorem dX5_whistling_17 : decode cX5_whistling 17 = .ok (.invokevirtual 135, 3) := by decide +kernel
theorem dX5_whistling_20 : decode cX5_whistling 20 = .ok (.ifCond .eq 9, 3) := by decide +kernel
theorem dX5_whistling_23 : decode cX5_whistling 23 = .ok (.iconst 1, 1) := by decide +kernel
theorem dX5_whistling_24 : decode cX5_whistling 24 = .ok (.iload_n 2, 1) := by decide +kernel
theorem dX5_whistling_25 : decode cX5_whistling 25 = .ok (.ishl, 1) := by decide +kernel
theorem dX5_whistling_26 : decode cX5_whistling 26 = .ok (.goto 4, 3) := by decide +kernel
theorem dX5_whistling_29 : decode cX5_whistling 29 = .ok (.iconst 0, 1) := by decide +kernel
theorem dX5_whistling_30 : decode cX5_whistling 30 = .ok (.ior, 1) := by decide +kernel
theorem dX5_whistling_31 : decode cX5_whistling 31 = .ok (.istore_n 1, 1) := by decide +kernel
theorem dX5_whistling_32 : decode cX5_whistling 32 = .ok (.iinc 2 1, 3) := by decide +kernel
theorem dX5_whistling_35 : decode cX5_whistling 35 = .ok (.goto (-31), 3) := by decide +kernel
theorem dX5_whistling_38 : decode cX5_whistling 38 = .ok (.iload_n 1, 1) := by decide +kernel
theorem dX5_whistling_39 : decode cX5_whistling 39 = .ok (.ireturn, 1) := by decide +kernel
theorem dX5_harmony_0 : decode cX5_harmony 0 = .ok (.iconst 0, 1) := by decide +kernel
theorem dX5_harmony_1 : decode cX5_harmony 1 = .ok (.istore_n 1, 1) := by decide +kernel
theorem dX5_harmony_2 : decode cX5_harmony 2 = .ok (.iconst 0, 1) := by decide +kernel
theorem dX5_harmony_3 : decode cX5_harmony 3 = .ok (.istore_n 2, 1) := by decide +kernel
theorem dX5_harmony_4 : decode cX5_harmony 4 = .ok (.iload_n 2, 1) := by decide +kernel
theorem dX5_harmony_5 : decode cX5_harmony 5 = .ok (.aload_n 0, 1) := by decide +kernel
theorem dX5_harmony_6 : decode cX5_harmony 6 = .ok (.getfield 9, 3) := by decide +kernel
theorem dX5_harmony_9 : decode cX5_harmony 9 = .ok (.iconst 1, 1) := by decide +kernel
theorem dX5_harmony_10 : decode cX5_harmony 10 = .ok (.iaload, 1) := by decide +kernel
theorem dX5_harmony_11 : decode cX5_harmony 11 = .ok (.if_icmp .ge 60, 3) := by decide +kernel
theorem dX5_harmony_14 : decode cX5_harmony 14 = .ok (.iconst 0, 1) := by decide +kernel
theorem dX5_harmony_15 : decode cX5_harmony 15 = .ok (.istore_n 3, 1) := by decide +kernel
theorem dX5_harmony_16 : decode cX5_harmony 16 = .ok (.iload_n 3, 1) := by decide +kernel
theorem dX5_harmony_17 : decode cX5_harmony 17 = .ok (.iload_n 2, 1) := by decide +kernel
theorem dX5_harmony_18 : decode cX5_harmony 18 = .ok (.if_icmp .ge 47, 3) := by decide +kernel
theorem dX5_harmony_21 : decode cX5_harmony 21 = .ok (.iload_n 1, 1) := by decide +kernel
theorem dX5_harmony_22 : decode cX5_harmony 22 = .ok (.aload_n 0, 1) := by decide +kernel
theorem dX5_harmony_23 : decode cX5_harmony 23 = .ok (.iload_n 2, 1) := by decide +kernel
theorem dX5_harmony_24 : decode cX5_harmony 24 = .ok (.invokevirtual 135, 3) := by decide +kernel
theorem dX5_harmony_27 : decode cX5_harmony 27 = .ok (.ifCond .eq 29, 3) := by decide +kernel
theorem dX5_harmony_30 : decode cX5_harmony 30 = .ok (.aload_n 0, 1) := by decide +kernel
theorem dX5_harmony_31 : decode cX5_harmony 31 = .ok (.iload_n 3, 1) := by decide +kernel
theorem dX5_harmony_32 : decode cX5_harmony 32 = .ok (.invokevirtual 135, 3) := by decide +kernel
theorem dX5_harmony_35 : decode cX5_harmony 35 = .ok (.ifCond .eq 21, 3) := by decide +kernel
theorem dX5_harmony_38 : decode cX5_harmony 38 = .ok (.aload_n 0, 1) := by decide +kernel
theorem dX5_harmony_39 : decode cX5_harmony 39 = .ok (.iload_n 2, 1) := by decide +kernel
theorem dX5_harmony_40 : decode cX5_harmony 40 = .ok (.iconst 1, 1) := by decide +kernel
theorem dX5_harmony_41 : decode cX5_harmony 41 = .ok (.invokevirtual 48, 3) := by decide +kernel
theorem dX5_harmony_44 : decode cX5_harmony 44 = .ok (.aload_n 0, 1) := by decide +kernel
theorem dX5_harmony_45 : decode cX5_harmony 45 = .ok (.iload_n 3, 1) := by decide +kernel
theorem dX5_harmony_46 : decode cX5_harmony 46 = .ok (.iconst 1, 1) := by decide +kernel
theorem dX5_harmony_47 : decode cX5_harmony 47 = .ok (.invokevirtual 48, 3) := by decide +kernel
theorem dX5_harmony_50 : decode cX5_harmony 50 = .ok (.invokestatic 138, 3) := by decide +kernel
theorem dX5_harmony_53 : decode cX5_harmony 53 = .ok (.goto 4, 3) := by decide +kernel
theorem dX5_harmony_56 : decode cX5_harmony 56 = .ok (.iconst 0, 1) := by decide +kernel
theorem dX5_harmony_57 : decode cX5_harmony 57 = .ok (.iadd, 1) := by decide +kernel
theorem dX5_harmony_58 : decode cX5_harmony 58 = .ok (.istore_n 1, 1) := by decide +kernel
theorem dX5_harmony_59 : decode cX5_harmony 59 = .ok (.iinc 3 1, 3) := by decide +kernel
theorem dX5_harmony_62 : decode cX5_harmony 62 = .ok (.goto (-46), 3) := by decide +kernel
theorem dX5_harmony_65 : decode cX5_harmony 65 = .ok (.iinc 2 1, 3) := by decide +kernel
theorem dX5_harmony_68 : decode cX5_harmony 68 = .ok (.goto (-64), 3) := by decide +kernel
theorem dX5_harmony_71 : decode cX5_harmony 71 = .ok (.iload_n 1, 1) := by decide +kernel
theorem dX5_harmony_72 : decode cX5_harmony 72 = .ok (.ireturn, 1) := by decide +kernel
theorem dX5_harmonyAgain_0 : decode cX5_harmonyAgain 0 = .ok (.aload_n 0, 1) := by decide +kernel
theorem dX5_harmonyAgain_1 : decode cX5_harmonyAgain 1 = .ok (.invokevirtual 153, 3) := by decide +kernel
theorem dX5_harmonyAgain_4 : decode cX5_harmonyAgain 4 = .ok (.ireturn, 1) := by decide +kernel
theorem dX5_minutesTo_0 : decode cX5_minutesTo 0 = .ok (.iconst 5, 1) := by decide +kernel
theorem dX5_minutesTo_1 : decode cX5_minutesTo 1 = .ok (.aload_n 0, 1) := by decide +kernel
theorem dX5_minutesTo_2 : decode cX5_minutesTo 2 = .ok (.iload_n 1, 1) := by decide +kernel
theorem dX5_minutesTo_3 : decode cX5_minutesTo 3 = .ok (.invokevirtual 56, 3) := by decide +kernel
theorem dX5_minutesTo_6 : decode cX5_minutesTo 6 = .ok (.imul, 1) := by decide +kernel
theorem dX5_minutesTo_7 : decode cX5_minutesTo 7 = .ok (.istore_n 2, 1) := by decide +kernel
theorem dX5_minutesTo_8 : decode cX5_minutesTo 8 = .ok (.iload_n 2, 1) := by decide +kernel
theorem dX5_minutesTo_9 : decode cX5_minutesTo 9 = .ok (.ifCond .ne 9, 3) := by decide +kernel
theorem dX5_minutesTo_12 : decode cX5_minutesTo 12 = .ok (.sipush (-1015), 3) := by decide +kernel
theorem dX5_minutesTo_15 : decode cX5_minutesTo 15 = .ok (.goto 18, 3) := by decide +kernel
theorem dX5_minutesTo_18 : decode cX5_minutesTo 18 = .ok (.bipush 100, 2) := by decide +kernel
theorem dX5_minutesTo_20 : decode cX5_minutesTo 20 = .ok (.aload_n 0, 1) := by decide +kernel
theorem dX5_minutesTo_21 : decode cX5_minutesTo 21 = .ok (.iload_n 1, 1) := by decide +kernel
theorem dX5_minutesTo_22 : decode cX5_minutesTo 22 = .ok (.iconst 3, 1) := by decide +kernel
theorem dX5_minutesTo_23 : decode cX5_minutesTo 23 = .ok (.invokevirtual 48, 3) := by decide +kernel
theorem dX5_minutesTo_26 : decode cX5_minutesTo 26 = .ok (.isub, 1) := by decide +kernel
theorem dX5_minutesTo_27 : decode cX5_minutesTo 27 = .ok (.iload_n 2, 1) := by decide +kernel
theorem dX5_minutesTo_28 : decode cX5_minutesTo 28 = .ok (.iadd, 1) := by decide +kernel
theorem dX5_minutesTo_29 : decode cX5_minutesTo 29 = .ok (.iconst 1, 1) := by decide +kernel
theorem dX5_minutesTo_30 : decode cX5_minutesTo 30 = .ok (.isub, 1) := by decide +kernel
theorem dX5_minutesTo_31 : decode cX5_minutesTo 31 = .ok (.iload_n 2, 1) := by decide +kernel
theorem dX5_minutesTo_32 : decode cX5_minutesTo 32 = .ok (.idiv, 1) := by decide +kernel
theorem dX5_minutesTo_33 : decode cX5_minutesTo 33 = .ok (.ireturn, 1) := by decide +kernel
theorem dX5_boilsIn_0 : decode cX5_boilsIn 0 = .ok (.aload_n 0, 1) := by decide +kernel
theorem dX5_boilsIn_1 : decode cX5_boilsIn 1 = .ok (.iload_n 1, 1) := by decide +kernel
theorem dX5_boilsIn_2 : decode cX5_boilsIn 2 = .ok (.invokevirtual 92, 3) := by decide +kernel
theorem dX5_boilsIn_5 : decode cX5_boilsIn 5 = .ok (.ifCond .eq 11, 3) := by decide +kernel
theorem dX5_boilsIn_8 : decode cX5_boilsIn 8 = .ok (.aload_n 0, 1) := by decide +kernel
theorem dX5_boilsIn_9 : decode cX5_boilsIn 9 = .ok (.iload_n 1, 1) := by decide +kernel
theorem dX5_boilsIn_10 : decode cX5_boilsIn 10 = .ok (.invokevirtual 156, 3) := by decide +kernel
theorem dX5_boilsIn_13 : decode cX5_boilsIn 13 = .ok (.goto 6, 3) := by decide +kernel
theorem dX5_boilsIn_16 : decode cX5_boilsIn 16 = .ok (.sipush (-1011), 3) := by decide +kernel
theorem dX5_boilsIn_19 : decode cX5_boilsIn 19 = .ok (.ireturn, 1) := by decide +kernel
theorem dX5_boilsInAgain_0 : decode cX5_boilsInAgain 0 = .ok (.aload_n 0, 1) := by decide +kernel
theorem dX5_boilsInAgain_1 : decode cX5_boilsInAgain 1 = .ok (.iload_n 1, 1) := by decide +kernel
theorem dX5_boilsInAgain_2 : decode cX5_boilsInAgain 2 = .ok (.invokevirtual 159, 3) := by decide +kernel
theorem dX5_boilsInAgain_5 : decode cX5_boilsInAgain 5 = .ok (.ireturn, 1) := by decide +kernel
theorem dX5_dryIn_0 : decode cX5_dryIn 0 = .ok (.aload_n 0, 1) := by decide +kernel
theorem dX5_dryIn_1 : decode cX5_dryIn 1 = .ok (.iload_n 1, 1) := by decide +kernel
theorem dX5_dryIn_2 : decode cX5_dryIn 2 = .ok (.invokevirtual 92, 3) := by decide +kernel
theorem dX5_dryIn_5 : decode cX5_dryIn 5 = .ok (.ifCond .ne 7, 3) := by decide +kernel
theorem dX5_dryIn_8 : decode cX5_dryIn 8 = .ok (.sipush (-1011), 3) := by decide +kernel
theorem dX5_dryIn_11 : decode cX5_dryIn 11 = .ok (.ireturn, 1) := by decide +kernel
theorem dX5_dryIn_12 : decode cX5_dryIn 12 = .ok (.aload_n 0, 1) := by decide +kernel
theorem dX5_dryIn_13 : decode cX5_dryIn 13 = .ok (.iload_n 1, 1) := by decide +kernel
theorem dX5_dryIn_14 : decode cX5_dryIn 14 = .ok (.iconst 2, 1) := by decide +kernel
theorem dX5_dryIn_15 : decode cX5_dryIn 15 = .ok (.invokevirtual 48, 3) := by decide +kernel
theorem dX5_dryIn_18 : decode cX5_dryIn 18 = .ok (.istore_n 2, 1) := by decide +kernel
theorem dX5_dryIn_19 : decode cX5_dryIn 19 = .ok (.aload_n 0, 1) := by decide +kernel
theorem dX5_dryIn_20 : decode cX5_dryIn 20 = .ok (.iload_n 1, 1) := by decide +kernel
theorem dX5_dryIn_21 : decode cX5_dryIn 21 = .ok (.invokevirtual 156, 3) := by decide +kernel
theorem dX5_dryIn_24 : decode cX5_dryIn 24 = .ok (.sipush (-1015), 3) := by decide +kernel
theorem dX5_dryIn_27 : decode cX5_dryIn 27 = .ok (.if_icmp .ne 9, 3) := by decide +kernel
theorem dX5_dryIn_30 : decode cX5_dryIn 30 = .ok (.sipush (-1015), 3) := by decide +kernel
theorem dX5_dryIn_33 : decode cX5_dryIn 33 = .ok (.goto 18, 3) := by decide +kernel
theorem dX5_dryIn_36 : decode cX5_dryIn 36 = .ok (.aload_n 0, 1) := by decide +kernel
theorem dX5_dryIn_37 : decode cX5_dryIn 37 = .ok (.iload_n 1, 1) := by decide +kernel
theorem dX5_dryIn_38 : decode cX5_dryIn 38 = .ok (.invokevirtual 156, 3) := by decide +kernel
theorem dX5_dryIn_41 : decode cX5_dryIn 41 = .ok (.iload_n 2, 1) := by decide +kernel
theorem dX5_dryIn_42 : decode cX5_dryIn 42 = .ok (.ifCond .ne 7, 3) := by decide +kernel
theorem dX5_dryIn_45 : decode cX5_dryIn 45 = .ok (.iconst 1, 1) := by decide +kernel
theorem dX5_dryIn_46 : decode cX5_dryIn 46 = .ok (.goto 4, 3) := by decide +kernel
theorem dX5_dryIn_49 : decode cX5_dryIn 49 = .ok (.iload_n 2, 1) := by decide +kernel
theorem dX5_dryIn_50 : decode cX5_dryIn 50 = .ok (.iadd, 1) := by decide +kernel
theorem dX5_dryIn_51 : decode cX5_dryIn 51 = .ok (.ireturn, 1) := by decide +kernel
theorem dX5_fits_0 : decode cX5_fits 0 = .ok (.iconst 0, 1) := by decide +kernel
theorem dX5_fits_1 : decode cX5_fits 1 = .ok (.istore_n 2, 1) := by decide +kernel
theorem dX5_fits_2 : decode cX5_fits 2 = .ok (.iconst 0, 1) := by decide +kernel
theorem dX5_fits_3 : decode cX5_fits 3 = .ok (.istore_n 3, 1) := by decide +kernel
theorem dX5_fits_4 : decode cX5_fits 4 = .ok (.iload_n 3, 1) := by decide +kernel
theorem dX5_fits_5 : decode cX5_fits 5 = .ok (.aload_n 0, 1) := by decide +kernel
theorem dX5_fits_6 : decode cX5_fits 6 = .ok (.getfield 9, 3) := by decide +kernel
theorem dX5_fits_9 : decode cX5_fits 9 = .ok (.iconst 1, 1) := by decide +kernel
theorem dX5_fits_10 : decode cX5_fits 10 = .ok (.iaload, 1) := by decide +kernel
theorem dX5_fits_11 : decode cX5_fits 11 = .ok (.if_icmp .ge 49, 3) := by decide +kernel
theorem dX5_fits_14 : decode cX5_fits 14 = .ok (.iload_n 2, 1) := by decide +kernel
theorem dX5_fits_15 : decode cX5_fits 15 = .ok (.aload_n 0, 1) := by decide +kernel
theorem dX5_fits_16 : decode cX5_fits 16 = .ok (.iload_n 3, 1) := by decide +kernel
theorem dX5_fits_17 : decode cX5_fits 17 = .ok (.invokevirtual 135, 3) := by decide +kernel
theorem dX5_fits_20 : decode cX5_fits 20 = .ok (.ifCond .ne 7, 3) := by decide +kernel
theorem dX5_fits_23 : decode cX5_fits 23 = .ok (.iconst 0, 1) := by decide +kernel
theorem dX5_fits_24 : decode cX5_fits 24 = .ok (.goto 28, 3) := by decide +kernel
theorem dX5_fits_27 : decode cX5_fits 27 = .ok (.aload_n 0, 1) := by decide +kernel
theorem dX5_fits_28 : decode cX5_fits 28 = .ok (.iload_n 3, 1) := by decide +kernel
theorem dX5_fits_29 : decode cX5_fits 29 = .ok (.iconst 1, 1) := by decide +kernel
theorem dX5_fits_30 : decode cX5_fits 30 = .ok (.invokevirtual 48, 3) := by decide +kernel
theorem dX5_fits_33 : decode cX5_fits 33 = .ok (.iload_n 1, 1) := by decide +kernel
theorem dX5_fits_34 : decode cX5_fits 34 = .ok (.if_icmp .ne 8, 3) := by decide +kernel
theorem dX5_fits_37 : decode cX5_fits 37 = .ok (.bipush (-100), 2) := by decide +kernel
theorem dX5_fits_39 : decode cX5_fits 39 = .ok (.goto 13, 3) := by decide +kernel
theorem dX5_fits_42 : decode cX5_fits 42 = .ok (.iload_n 1, 1) := by decide +kernel
theorem dX5_fits_43 : decode cX5_fits 43 = .ok (.aload_n 0, 1) := by decide +kernel
theorem dX5_fits_44 : decode cX5_fits 44 = .ok (.iload_n 3, 1) := by decide +kernel
theorem dX5_fits_45 : decode cX5_fits 45 = .ok (.iconst 1, 1) := by decide +kernel
theorem dX5_fits_46 : decode cX5_fits 46 = .ok (.invokevirtual 48, 3) := by decide +kernel
theorem dX5_fits_49 : decode cX5_fits 49 = .ok (.invokestatic 138, 3) := by decide +kernel
theorem dX5_fits_52 : decode cX5_fits 52 = .ok (.iadd, 1) := by decide +kernel
theorem dX5_fits_53 : decode cX5_fits 53 = .ok (.istore_n 2, 1) := by decide +kernel
theorem dX5_fits_54 : decode cX5_fits 54 = .ok (.iinc 3 1, 3) := by decide +kernel
theorem dX5_fits_57 : decode cX5_fits 57 = .ok (.goto (-53), 3) := by decide +kernel
theorem dX5_fits_60 : decode cX5_fits 60 = .ok (.iload_n 2, 1) := by decide +kernel
theorem dX5_fits_61 : decode cX5_fits 61 = .ok (.ireturn, 1) := by decide +kernel
theorem dX5_bestPitch_0 : decode cX5_bestPitch 0 = .ok (.iconst 1, 1) := by decide +kernel
theorem dX5_bestPitch_1 : decode cX5_bestPitch 1 = .ok (.istore_n 1, 1) := by decide +kernel
theorem dX5_bestPitch_2 : decode cX5_bestPitch 2 = .ok (.iconst 2, 1) := by decide +kernel
theorem dX5_bestPitch_3 : decode cX5_bestPitch 3 = .ok (.istore_n 2, 1) := by decide +kernel
theorem dX5_bestPitch_4 : decode cX5_bestPitch 4 = .ok (.iload_n 2, 1) := by decide +kernel
theorem dX5_bestPitch_5 : decode cX5_bestPitch 5 = .ok (.bipush 13, 2) := by decide +kernel
theorem dX5_bestPitch_7 : decode cX5_bestPitch 7 = .ok (.if_icmp .ge 28, 3) := by decide +kernel
theorem dX5_bestPitch_10 : decode cX5_bestPitch 10 = .ok (.aload_n 0, 1) := by decide +kernel
theorem dX5_bestPitch_11 : decode cX5_bestPitch 11 = .ok (.iload_n 2, 1) := by decide +kernel
theorem dX5_bestPitch_12 : decode cX5_bestPitch 12 = .ok (.invokevirtual 162, 3) := by decide +kernel
theorem dX5_bestPitch_15 : decode cX5_bestPitch 15 = .ok (.aload_n 0, 1) := by decide +kernel
theorem dX5_bestPitch_16 : decode cX5_bestPitch 16 = .ok (.iload_n 1, 1) := by decide +kernel
theorem dX5_bestPitch_17 : decode cX5_bestPitch 17 = .ok (.invokevirtual 162, 3) := by decide +kernel
theorem dX5_bestPitch_20 : decode cX5_bestPitch 20 = .ok (.if_icmp .le 7, 3) := by decide +kernel
theorem dX5_bestPitch_23 : decode cX5_bestPitch 23 = .ok (.iload_n 2, 1) := by decide +kernel
theorem dX5_bestPitch_24 : decode cX5_bestPitch 24 = .ok (.goto 4, 3) := by decide +kernel
theorem dX5_bestPitch_27 : decode cX5_bestPitch 27 = .ok (.iload_n 1, 1) := by decide +kernel
theorem dX5_bestPitch_28 : decode cX5_bestPitch 28 = .ok (.istore_n 1, 1) := by decide +kernel
theorem dX5_bestPitch_29 : decode cX5_bestPitch 29 = .ok (.iinc 2 1, 3) := by decide +kernel
theorem dX5_bestPitch_32 : decode cX5_bestPitch 32 = .ok (.goto (-28), 3) := by decide +kernel
theorem dX5_bestPitch_35 : decode cX5_bestPitch 35 = .ok (.iload_n 1, 1) := by decide +kernel
theorem dX5_bestPitch_36 : decode cX5_bestPitch 36 = .ok (.ireturn, 1) := by decide +kernel
theorem dX5_kettlesOf_0 : decode cX5_kettlesOf 0 = .ok (.iconst 0, 1) := by decide +kernel
theorem dX5_kettlesOf_1 : decode cX5_kettlesOf 1 = .ok (.istore_n 3, 1) := by decide +kernel
theorem dX5_kettlesOf_2 : decode cX5_kettlesOf 2 = .ok (.iconst 0, 1) := by decide +kernel
theorem dX5_kettlesOf_3 : decode cX5_kettlesOf 3 = .ok (.istore 4, 2) := by decide +kernel
theorem dX5_kettlesOf_5 : decode cX5_kettlesOf 5 = .ok (.iload 4, 2) := by decide +kernel
theorem dX5_kettlesOf_7 : decode cX5_kettlesOf 7 = .ok (.aload_n 0, 1) := by decide +kernel
theorem dX5_kettlesOf_8 : decode cX5_kettlesOf 8 = .ok (.getfield 9, 3) := by decide +kernel
theorem dX5_kettlesOf_11 : decode cX5_kettlesOf 11 = .ok (.iconst 1, 1) := by decide +kernel
theorem dX5_kettlesOf_12 : decode cX5_kettlesOf 12 = .ok (.iaload, 1) := by decide +kernel
theorem dX5_kettlesOf_13 : decode cX5_kettlesOf 13 = .ok (.if_icmp .ge 41, 3) := by decide +kernel
theorem dX5_kettlesOf_16 : decode cX5_kettlesOf 16 = .ok (.iload_n 3, 1) := by decide +kernel
theorem dX5_kettlesOf_17 : decode cX5_kettlesOf 17 = .ok (.aload_n 0, 1) := by decide +kernel
theorem dX5_kettlesOf_18 : decode cX5_kettlesOf 18 = .ok (.iload 4, 2) := by decide +kernel
theorem dX5_kettlesOf_20 : decode cX5_kettlesOf 20 = .ok (.iconst 0, 1) := by decide +kernel
theorem dX5_kettlesOf_21 : decode cX5_kettlesOf 21 = .ok (.invokevirtual 48, 3) := by decide +kernel
theorem dX5_kettlesOf_24 : decode cX5_kettlesOf 24 = .ok (.iload_n 1, 1) := by decide +kernel
theorem dX5_kettlesOf_25 : decode cX5_kettlesOf 25 = .ok (.if_icmp .ne 20, 3) := by decide +kernel
theorem dX5_kettlesOf_28 : decode cX5_kettlesOf 28 = .ok (.iload_n 2, 1) := by decide +kernel
theorem dX5_kettlesOf_29 : decode cX5_kettlesOf 29 = .ok (.ifCond .eq 12, 3) := by decide +kernel
theorem dX5_kettlesOf_32 : decode cX5_kettlesOf 32 = .ok (.aload_n 0, 1) := by decide +kernel
theorem dX5_kettlesOf_33 : decode cX5_kettlesOf 33 = .ok (.iload 4, 2) := by decide +kernel
theorem dX5_kettlesOf_35 : decode cX5_kettlesOf 35 = .ok (.invokevirtual 135, 3) := by decide +kernel
theorem dX5_kettlesOf_38 : decode cX5_kettlesOf 38 = .ok (.ifCond .eq 7, 3) := by decide +kernel
theorem dX5_kettlesOf_41 : decode cX5_kettlesOf 41 = .ok (.iconst 1, 1) := by decide +kernel
theorem dX5_kettlesOf_42 : decode cX5_kettlesOf 42 = .ok (.goto 4, 3) := by decide +kernel
theorem dX5_kettlesOf_45 : decode cX5_kettlesOf 45 = .ok (.iconst 0, 1) := by decide +kernel
theorem dX5_kettlesOf_46 : decode cX5_kettlesOf 46 = .ok (.iadd, 1) := by decide +kernel
theorem dX5_kettlesOf_47 : decode cX5_kettlesOf 47 = .ok (.istore_n 3, 1) := by decide +kernel
theorem dX5_kettlesOf_48 : decode cX5_kettlesOf 48 = .ok (.iinc 4 1, 3) := by decide +kernel
theorem dX5_kettlesOf_51 : decode cX5_kettlesOf 51 = .ok (.goto (-46), 3) := by decide +kernel
theorem dX5_kettlesOf_54 : decode cX5_kettlesOf 54 = .ok (.iload_n 3, 1) := by decide +kernel
theorem dX5_kettlesOf_55 : decode cX5_kettlesOf 55 = .ok (.ireturn, 1) := by decide +kernel
theorem dX5_memberOf_0 : decode cX5_memberOf 0 = .ok (.iload_n 1, 1) := by decide +kernel
theorem dX5_memberOf_1 : decode cX5_memberOf 1 = .ok (.invokestatic 62, 3) := by decide +kernel
theorem dX5_memberOf_4 : decode cX5_memberOf 4 = .ok (.ifCond .ne 7, 3) := by decide +kernel
theorem dX5_memberOf_7 : decode cX5_memberOf 7 = .ok (.sipush (-1011), 3) := by decide +kernel
theorem dX5_memberOf_10 : decode cX5_memberOf 10 = .ok (.ireturn, 1) := by decide +kernel
theorem dX5_memberOf_11 : decode cX5_memberOf 11 = .ok (.iload_n 2, 1) := by decide +kernel
theorem dX5_memberOf_12 : decode cX5_memberOf 12 = .ok (.tableswitch 81 0 5 #[40, 47, 53, 60, 67, 74], 40) := by decide +kernel
theorem dX5_memberOf_52 : decode cX5_memberOf 52 = .ok (.aload_n 0, 1) := by decide +kernel
theorem dX5_memberOf_53 : decode cX5_memberOf 53 = .ok (.iload_n 1, 1) := by decide +kernel
theorem dX5_memberOf_54 : decode cX5_memberOf 54 = .ok (.iconst 0, 1) := by decide +kernel
theorem dX5_memberOf_55 : decode cX5_memberOf 55 = .ok (.invokevirtual 165, 3) := by decide +kernel
theorem dX5_memberOf_58 : decode cX5_memberOf 58 = .ok (.ireturn, 1) := by decide +kernel
theorem dX5_memberOf_59 : decode cX5_memberOf 59 = .ok (.aload_n 0, 1) := by decide +kernel
theorem dX5_memberOf_60 : decode cX5_memberOf 60 = .ok (.iload_n 1, 1) := by decide +kernel
theorem dX5_memberOf_61 : decode cX5_memberOf 61 = .ok (.invokevirtual 72, 3) := by decide +kernel
theorem dX5_memberOf_64 : decode cX5_memberOf 64 = .ok (.ireturn, 1) := by decide +kernel
theorem dX5_memberOf_65 : decode cX5_memberOf 65 = .ok (.aload_n 0, 1) := by decide +kernel
theorem dX5_memberOf_66 : decode cX5_memberOf 66 = .ok (.iload_n 1, 1) := by decide +kernel
theorem dX5_memberOf_67 : decode cX5_memberOf 67 = .ok (.iconst 0, 1) := by decide +kernel
theorem dX5_memberOf_68 : decode cX5_memberOf 68 = .ok (.invokevirtual 168, 3) := by decide +kernel
theorem dX5_memberOf_71 : decode cX5_memberOf 71 = .ok (.ireturn, 1) := by decide +kernel
theorem dX5_memberOf_72 : decode cX5_memberOf 72 = .ok (.aload_n 0, 1) := by decide +kernel
theorem dX5_memberOf_73 : decode cX5_memberOf 73 = .ok (.iload_n 1, 1) := by decide +kernel
theorem dX5_memberOf_74 : decode cX5_memberOf 74 = .ok (.iconst 1, 1) := by decide +kernel
theorem dX5_memberOf_75 : decode cX5_memberOf 75 = .ok (.invokevirtual 168, 3) := by decide +kernel
theorem dX5_memberOf_78 : decode cX5_memberOf 78 = .ok (.ireturn, 1) := by decide +kernel
theorem dX5_memberOf_79 : decode cX5_memberOf 79 = .ok (.aload_n 0, 1) := by decide +kernel
theorem dX5_memberOf_80 : decode cX5_memberOf 80 = .ok (.iload_n 1, 1) := by decide +kernel
theorem dX5_memberOf_81 : decode cX5_memberOf 81 = .ok (.iconst 1, 1) := by decide +kernel
theorem dX5_memberOf_82 : decode cX5_memberOf 82 = .ok (.invokevirtual 165, 3) := by decide +kernel
theorem dX5_memberOf_85 : decode cX5_memberOf 85 = .ok (.ireturn, 1) := by decide +kernel
theorem dX5_memberOf_86 : decode cX5_memberOf 86 = .ok (.aload_n 0, 1) := by decide +kernel
theorem dX5_memberOf_87 : decode cX5_memberOf 87 = .ok (.iload_n 1, 1) := by decide +kernel
theorem dX5_memberOf_88 : decode cX5_memberOf 88 = .ok (.iconst 2, 1) := by decide +kernel
theorem dX5_memberOf_89 : decode cX5_memberOf 89 = .ok (.invokevirtual 165, 3) := by decide +kernel
theorem dX5_memberOf_92 : decode cX5_memberOf 92 = .ok (.ireturn, 1) := by decide +kernel
theorem dX5_memberOf_93 : decode cX5_memberOf 93 = .ok (.sipush (-1012), 3) := by decide +kernel
theorem dX5_memberOf_96 : decode cX5_memberOf 96 = .ok (.ireturn, 1) := by decide +kernel
theorem dX5_ranked_0 : decode cX5_ranked 0 = .ok (.iconst 0, 1) := by decide +kernel
theorem dX5_ranked_1 : decode cX5_ranked 1 = .ok (.istore_n 2, 1) := by decide +kernel
theorem dX5_ranked_2 : decode cX5_ranked 2 = .ok (.iload_n 2, 1) := by decide +kernel
theorem dX5_ranked_3 : decode cX5_ranked 3 = .ok (.iconst 4, 1) := by decide +kernel
theorem dX5_ranked_4 : decode cX5_ranked 4 = .ok (.if_icmp .ge 97, 3) := by decide +kernel
theorem dX5_ranked_7 : decode cX5_ranked 7 = .ok (.iconst 0, 1) := by decide +kernel
theorem dX5_ranked_8 : decode cX5_ranked 8 = .ok (.istore_n 3, 1) := by decide +kernel
theorem dX5_ranked_9 : decode cX5_ranked 9 = .ok (.iconst 0, 1) := by decide +kernel
theorem dX5_ranked_10 : decode cX5_ranked 10 = .ok (.istore 4, 2) := by decide +kernel
theorem dX5_ranked_12 : decode cX5_ranked 12 = .ok (.iload 4, 2) := by decide +kernel
theorem dX5_ranked_14 : decode cX5_ranked 14 = .ok (.iconst 4, 1) := by decide +kernel
theorem dX5_ranked_15 : decode cX5_ranked 15 = .ok (.if_icmp .ge 73, 3) := by decide +kernel
theorem dX5_ranked_18 : decode cX5_ranked 18 = .ok (.aload_n 0, 1) := by decide +kernel
theorem dX5_ranked_19 : decode cX5_ranked 19 = .ok (.iload 4, 2) := by decide +kernel
theorem dX5_ranked_21 : decode cX5_ranked 21 = .ok (.iconst 0, 1) := by decide +kernel
theorem dX5_ranked_22 : decode cX5_ranked 22 = .ok (.invokevirtual 165, 3) := by decide +kernel
theorem dX5_ranked_25 : decode cX5_ranked 25 = .ok (.aload_n 0, 1) := by decide +kernel
theorem dX5_ranked_26 : decode cX5_ranked 26 = .ok (.iload_n 2, 1) := by decide +kernel
theorem dX5_ranked_27 : decode cX5_ranked 27 = .ok (.iconst 0, 1) := by decide +kernel
theorem dX5_ranked_28 : decode cX5_ranked 28 = .ok (.invokevirtual 165, 3) := by decide +kernel
theorem dX5_ranked_31 : decode cX5_ranked 31 = .ok (.isub, 1) := by decide +kernel
theorem dX5_ranked_32 : decode cX5_ranked 32 = .ok (.istore 5, 2) := by decide +kernel
theorem dX5_ranked_34 : decode cX5_ranked 34 = .ok (.aload_n 0, 1) := by decide +kernel
theorem dX5_ranked_35 : decode cX5_ranked 35 = .ok (.iload 4, 2) := by decide +kernel
theorem dX5_ranked_37 : decode cX5_ranked 37 = .ok (.invokevirtual 72, 3) := by decide +kernel
theorem dX5_ranked_40 : decode cX5_ranked 40 = .ok (.aload_n 0, 1) := by decide +kernel
theorem dX5_ranked_41 : decode cX5_ranked 41 = .ok (.iload_n 2, 1) := by decide +kernel
theorem dX5_ranked_42 : decode cX5_ranked 42 = .ok (.invokevirtual 72, 3) := by decide +kernel
theorem dX5_ranked_45 : decode cX5_ranked 45 = .ok (.isub, 1) := by decide +kernel
theorem dX5_ranked_46 : decode cX5_ranked 46 = .ok (.istore 6, 2) := by decide +kernel
theorem dX5_ranked_48 : decode cX5_ranked 48 = .ok (.iload_n 3, 1) := by decide +kernel
theorem dX5_ranked_49 : decode cX5_ranked 49 = .ok (.iload 5, 2) := by decide +kernel
theorem dX5_ranked_51 : decode cX5_ranked 51 = .ok (.ifCond .gt 24, 3) := by decide +kernel
theorem dX5_ranked_54 : decode cX5_ranked 54 = .ok (.iload 5, 2) := by decide +kernel
theorem dX5_ranked_56 : decode cX5_ranked 56 = .ok (.ifCond .ne 23, 3) := by decide +kernel
theorem dX5_ranked_59 : decode cX5_ranked 59 = .ok (.iload 6, 2) := by decide +kernel
theorem dX5_ranked_61 : decode cX5_ranked 61 = .ok (.ifCond .gt 14, 3) := by decide +kernel
theorem dX5_ranked_64 : decode cX5_ranked 64 = .ok (.iload 6, 2) := by decide +kernel
theorem dX5_ranked_66 : decode cX5_ranked 66 = .ok (.ifCond .ne 13, 3) := by decide +kernel
theorem dX5_ranked_69 : decode cX5_ranked 69 = .ok (.iload 4, 2) := by decide +kernel
theorem dX5_ranked_71 : decode cX5_ranked 71 = .ok (.iload_n 2, 1) := by decide +kernel
theorem dX5_ranked_72 : decode cX5_ranked 72 = .ok (.if_icmp .ge 7, 3) := by decide +kernel
theorem dX5_ranked_75 : decode cX5_ranked 75 = .ok (.iconst 1, 1) := by decide +kernel
theorem dX5_ranked_76 : decode cX5_ranked 76 = .ok (.goto 4, 3) := by decide +kernel
theorem dX5_ranked_79 : decode cX5_ranked 79 = .ok (.iconst 0, 1) := by decide +kernel
theorem dX5_ranked_80 : decode cX5_ranked 80 = .ok (.iadd, 1) := by decide +kernel
theorem dX5_ranked_81 : decode cX5_ranked 81 = .ok (.istore_n 3, 1) := by decide +kernel
theorem dX5_ranked_82 : decode cX5_ranked 82 = .ok (.iinc 4 1, 3) := by decide +kernel
theorem dX5_ranked_85 : decode cX5_ranked 85 = .ok (.goto (-73), 3) := by decide +kernel
theorem dX5_ranked_88 : decode cX5_ranked 88 = .ok (.iload_n 3, 1) := by decide +kernel
theorem dX5_ranked_89 : decode cX5_ranked 89 = .ok (.iload_n 1, 1) := by decide +kernel
theorem dX5_ranked_90 : decode cX5_ranked 90 = .ok (.if_icmp .ne 5, 3) := by decide +kernel
theorem dX5_ranked_93 : decode cX5_ranked 93 = .ok (.iload_n 2, 1) := by decide +kernel
theorem dX5_ranked_94 : decode cX5_ranked 94 = .ok (.ireturn, 1) := by decide +kernel
theorem dX5_ranked_95 : decode cX5_ranked 95 = .ok (.iinc 2 1, 3) := by decide +kernel
theorem dX5_ranked_98 : decode cX5_ranked 98 = .ok (.goto (-96), 3) := by decide +kernel
theorem dX5_ranked_101 : decode cX5_ranked 101 = .ok (.sipush (-1011), 3) := by decide +kernel
theorem dX5_ranked_104 : decode cX5_ranked 104 = .ok (.ireturn, 1) := by decide +kernel
theorem dX5_hottest_0 : decode cX5_hottest 0 = .ok (.iconst 0, 1) := by decide +kernel
theorem dX5_hottest_1 : decode cX5_hottest 1 = .ok (.istore_n 2, 1) := by decide +kernel
theorem dX5_hottest_2 : decode cX5_hottest 2 = .ok (.iload_n 2, 1) := by decide +kernel
theorem dX5_hottest_3 : decode cX5_hottest 3 = .ok (.aload_n 0, 1) := by decide +kernel
theorem dX5_hottest_4 : decode cX5_hottest 4 = .ok (.getfield 9, 3) := by decide +kernel
theorem dX5_hottest_7 : decode cX5_hottest 7 = .ok (.iconst 1, 1) := by decide +kernel
theorem dX5_hottest_8 : decode cX5_hottest 8 = .ok (.iaload, 1) := by decide +kernel
theorem dX5_hottest_9 : decode cX5_hottest 9 = .ok (.if_icmp .ge 104, 3) := by decide +kernel
theorem dX5_hottest_12 : decode cX5_hottest 12 = .ok (.iconst 0, 1) := by decide +kernel
theorem dX5_hottest_13 : decode cX5_hottest 13 = .ok (.istore_n 3, 1) := by decide +kernel
theorem dX5_hottest_14 : decode cX5_hottest 14 = .ok (.iconst 0, 1) := by decide +kernel
theorem dX5_hottest_15 : decode cX5_hottest 15 = .ok (.istore 4, 2) := by decide +kernel
theorem dX5_hottest_17 : decode cX5_hottest 17 = .ok (.iload 4, 2) := by decide +kernel
theorem dX5_hottest_19 : decode cX5_hottest 19 = .ok (.aload_n 0, 1) := by decide +kernel
theorem dX5_hottest_20 : decode cX5_hottest 20 = .ok (.getfield 9, 3) := by decide +kernel
theorem dX5_hottest_23 : decode cX5_hottest 23 = .ok (.iconst 1, 1) := by decide +kernel
theorem dX5_hottest_24 : decode cX5_hottest 24 = .ok (.iaload, 1) := by decide +kernel
theorem dX5_hottest_25 : decode cX5_hottest 25 = .ok (.if_icmp .ge 75, 3) := by decide +kernel
theorem dX5_hottest_28 : decode cX5_hottest 28 = .ok (.aload_n 0, 1) := by decide +kernel
theorem dX5_hottest_29 : decode cX5_hottest 29 = .ok (.iload 4, 2) := by decide +kernel
theorem dX5_hottest_31 : decode cX5_hottest 31 = .ok (.iconst 3, 1) := by decide +kernel
theorem dX5_hottest_32 : decode cX5_hottest 32 = .ok (.invokevirtual 48, 3) := by decide +kernel
theorem dX5_hottest_35 : decode cX5_hottest 35 = .ok (.aload_n 0, 1) := by decide +kernel
theorem dX5_hottest_36 : decode cX5_hottest 36 = .ok (.iload_n 2, 1) := by decide +kernel
theorem dX5_hottest_37 : decode cX5_hottest 37 = .ok (.iconst 3, 1) := by decide +kernel
theorem dX5_hottest_38 : decode cX5_hottest 38 = .ok (.invokevirtual 48, 3) := by decide +kernel
theorem dX5_hottest_41 : decode cX5_hottest 41 = .ok (.isub, 1) := by decide +kernel
theorem dX5_hottest_42 : decode cX5_hottest 42 = .ok (.istore 5, 2) := by decide +kernel
theorem dX5_hottest_44 : decode cX5_hottest 44 = .ok (.aload_n 0, 1) := by decide +kernel
theorem dX5_hottest_45 : decode cX5_hottest 45 = .ok (.iload_n 2, 1) := by decide +kernel
theorem dX5_hottest_46 : decode cX5_hottest 46 = .ok (.iconst 2, 1) := by decide +kernel
theorem dX5_hottest_47 : decode cX5_hottest 47 = .ok (.invokevirtual 48, 3) := by decide +kernel
theorem dX5_hottest_50 : decode cX5_hottest 50 = .ok (.aload_n 0, 1) := by decide +kernel
theorem dX5_hottest_51 : decode cX5_hottest 51 = .ok (.iload 4, 2) := by decide +kernel
theorem dX5_hottest_53 : decode cX5_hottest 53 = .ok (.iconst 2, 1) := by decide +kernel
theorem dX5_hottest_54 : decode cX5_hottest 54 = .ok (.invokevirtual 48, 3) := by decide +kernel
theorem dX5_hottest_57 : decode cX5_hottest 57 = .ok (.isub, 1) := by decide +kernel
theorem dX5_hottest_58 : decode cX5_hottest 58 = .ok (.istore 6, 2) := by decide +kernel
theorem dX5_hottest_60 : decode cX5_hottest 60 = .ok (.iload_n 3, 1) := by decide +kernel
theorem dX5_hottest_61 : decode cX5_hottest 61 = .ok (.iload 5, 2) := by decide +kernel
theorem dX5_hottest_63 : decode cX5_hottest 63 = .ok (.ifCond .gt 24, 3) := by decide +kernel
theorem dX5_hottest_66 : decode cX5_hottest 66 = .ok (.iload 5, 2) := by decide +kernel
theorem dX5_hottest_68 : decode cX5_hottest 68 = .ok (.ifCond .ne 23, 3) := by decide +kernel
theorem dX5_hottest_71 : decode cX5_hottest 71 = .ok (.iload 6, 2) := by decide +kernel
theorem dX5_hottest_73 : decode cX5_hottest 73 = .ok (.ifCond .gt 14, 3) := by decide +kernel
theorem dX5_hottest_76 : decode cX5_hottest 76 = .ok (.iload 6, 2) := by decide +kernel
theorem dX5_hottest_78 : decode cX5_hottest 78 = .ok (.ifCond .ne 13, 3) := by decide +kernel
theorem dX5_hottest_81 : decode cX5_hottest 81 = .ok (.iload 4, 2) := by decide +kernel
theorem dX5_hottest_83 : decode cX5_hottest 83 = .ok (.iload_n 2, 1) := by decide +kernel
theorem dX5_hottest_84 : decode cX5_hottest 84 = .ok (.if_icmp .ge 7, 3) := by decide +kernel
theorem dX5_hottest_87 : decode cX5_hottest 87 = .ok (.iconst 1, 1) := by decide +kernel
theorem dX5_hottest_88 : decode cX5_hottest 88 = .ok (.goto 4, 3) := by decide +kernel
theorem dX5_hottest_91 : decode cX5_hottest 91 = .ok (.iconst 0, 1) := by decide +kernel
theorem dX5_hottest_92 : decode cX5_hottest 92 = .ok (.iadd, 1) := by decide +kernel
theorem dX5_hottest_93 : decode cX5_hottest 93 = .ok (.istore_n 3, 1) := by decide +kernel
theorem dX5_hottest_94 : decode cX5_hottest 94 = .ok (.iinc 4 1, 3) := by decide +kernel
theorem dX5_hottest_97 : decode cX5_hottest 97 = .ok (.goto (-80), 3) := by decide +kernel
theorem dX5_hottest_100 : decode cX5_hottest 100 = .ok (.iload_n 3, 1) := by decide +kernel
theorem dX5_hottest_101 : decode cX5_hottest 101 = .ok (.iload_n 1, 1) := by decide +kernel
theorem dX5_hottest_102 : decode cX5_hottest 102 = .ok (.if_icmp .ne 5, 3) := by decide +kernel
theorem dX5_hottest_105 : decode cX5_hottest 105 = .ok (.iload_n 2, 1) := by decide +kernel
theorem dX5_hottest_106 : decode cX5_hottest 106 = .ok (.ireturn, 1) := by decide +kernel
theorem dX5_hottest_107 : decode cX5_hottest 107 = .ok (.iinc 2 1, 3) := by decide +kernel
theorem dX5_hottest_110 : decode cX5_hottest 110 = .ok (.goto (-108), 3) := by decide +kernel
theorem dX5_hottest_113 : decode cX5_hottest 113 = .ok (.sipush (-1011), 3) := by decide +kernel
theorem dX5_hottest_116 : decode cX5_hottest 116 = .ok (.ireturn, 1) := by decide +kernel
theorem dX5_append_0 : decode cX5_append 0 = .ok (.iload_n 1, 1) := by decide +kernel
theorem dX5_append_1 : decode cX5_append 1 = .ok (.bipush 32, 2) := by decide +kernel
theorem dX5_append_3 : decode cX5_append 3 = .ok (.bipush 126, 2) := by decide +kernel
theorem dX5_append_5 : decode cX5_append 5 = .ok (.invokestatic 40, 3) := by decide +kernel
theorem dX5_append_8 : decode cX5_append 8 = .ok (.ifCond .ne 7, 3) := by decide +kernel
theorem dX5_append_11 : decode cX5_append 11 = .ok (.sipush (-1012), 3) := by decide +kernel
theorem dX5_append_14 : decode cX5_append 14 = .ok (.ireturn, 1) := by decide +kernel
theorem dX5_append_15 : decode cX5_append 15 = .ok (.aload_n 0, 1) := by decide +kernel
theorem dX5_append_16 : decode cX5_append 16 = .ok (.getfield 172, 3) := by decide +kernel
theorem dX5_append_19 : decode cX5_append 19 = .ok (.bipush 60, 2) := by decide +kernel
theorem dX5_append_21 : decode cX5_append 21 = .ok (.if_icmp .ne 7, 3) := by decide +kernel
theorem dX5_append_24 : decode cX5_append 24 = .ok (.sipush (-1013), 3) := by decide +kernel
theorem dX5_append_27 : decode cX5_append 27 = .ok (.ireturn, 1) := by decide +kernel
theorem dX5_append_28 : decode cX5_append 28 = .ok (.aload_n 0, 1) := by decide +kernel
theorem dX5_append_29 : decode cX5_append 29 = .ok (.getfield 19, 3) := by decide +kernel
theorem dX5_append_32 : decode cX5_append 32 = .ok (.aload_n 0, 1) := by decide +kernel
theorem dX5_append_33 : decode cX5_append 33 = .ok (.getfield 172, 3) := by decide +kernel
theorem dX5_append_36 : decode cX5_append 36 = .ok (.iload_n 1, 1) := by decide +kernel
theorem dX5_append_37 : decode cX5_append 37 = .ok (.i2c, 1) := by decide +kernel
theorem dX5_append_38 : decode cX5_append 38 = .ok (.castore, 1) := by decide +kernel
theorem dX5_append_39 : decode cX5_append 39 = .ok (.aload_n 0, 1) := by decide +kernel
theorem dX5_append_40 : decode cX5_append 40 = .ok (.dup, 1) := by decide +kernel
theorem dX5_append_41 : decode cX5_append 41 = .ok (.getfield 172, 3) := by decide +kernel
theorem dX5_append_44 : decode cX5_append 44 = .ok (.iconst 1, 1) := by decide +kernel
theorem dX5_append_45 : decode cX5_append 45 = .ok (.iadd, 1) := by decide +kernel
theorem dX5_append_46 : decode cX5_append 46 = .ok (.putfield 172, 3) := by decide +kernel
theorem dX5_append_49 : decode cX5_append 49 = .ok (.aload_n 0, 1) := by decide +kernel
theorem dX5_append_50 : decode cX5_append 50 = .ok (.getfield 172, 3) := by decide +kernel
theorem dX5_append_53 : decode cX5_append 53 = .ok (.ireturn, 1) := by decide +kernel
theorem dX5_sign_0 : decode cX5_sign 0 = .ok (.aload_n 0, 1) := by decide +kernel
theorem dX5_sign_1 : decode cX5_sign 1 = .ok (.getfield 175, 3) := by decide +kernel
theorem dX5_sign_4 : decode cX5_sign 4 = .ok (.aload_n 0, 1) := by decide +kernel
theorem dX5_sign_5 : decode cX5_sign 5 = .ok (.getfield 172, 3) := by decide +kernel
theorem dX5_sign_8 : decode cX5_sign 8 = .ok (.if_icmp .ge 15, 3) := by decide +kernel
theorem dX5_sign_11 : decode cX5_sign 11 = .ok (.aload_n 0, 1) := by decide +kernel
theorem dX5_sign_12 : decode cX5_sign 12 = .ok (.getfield 19, 3) := by decide +kernel
theorem dX5_sign_15 : decode cX5_sign 15 = .ok (.aload_n 0, 1) := by decide +kernel
theorem dX5_sign_16 : decode cX5_sign 16 = .ok (.getfield 175, 3) := by decide +kernel
theorem dX5_sign_19 : decode cX5_sign 19 = .ok (.caload, 1) := by decide +kernel
theorem dX5_sign_20 : decode cX5_sign 20 = .ok (.goto 4, 3) := by decide +kernel
theorem dX5_sign_23 : decode cX5_sign 23 = .ok (.iconst (-1), 1) := by decide +kernel
theorem dX5_sign_24 : decode cX5_sign 24 = .ok (.ireturn, 1) := by decide +kernel
theorem dX5_needs_0 : decode cX5_needs 0 = .ok (.aload_n 0, 1) := by decide +kernel
theorem dX5_needs_1 : decode cX5_needs 1 = .ok (.getfield 178, 3) := by decide +kernel
theorem dX5_needs_4 : decode cX5_needs 4 = .ok (.ifCond .lt 4, 3) := by decide +kernel
theorem dX5_needs_7 : decode cX5_needs 7 = .ok (.return_, 1) := by decide +kernel
theorem dX5_needs_8 : decode cX5_needs 8 = .ok (.aload_n 0, 1) := by decide +kernel
theorem dX5_needs_9 : decode cX5_needs 9 = .ok (.invokevirtual 181, 3) := by decide +kernel
theorem dX5_needs_12 : decode cX5_needs 12 = .ok (.iload_n 1, 1) := by decide +kernel
theorem dX5_needs_13 : decode cX5_needs 13 = .ok (.if_icmp .eq 12, 3) := by decide +kernel
theorem dX5_needs_16 : decode cX5_needs 16 = .ok (.aload_n 0, 1) := by decide +kernel
theorem dX5_needs_17 : decode cX5_needs 17 = .ok (.aload_n 0, 1) := by decide +kernel
theorem dX5_needs_18 : decode cX5_needs 18 = .ok (.getfield 175, 3) := by decide +kernel
theorem dX5_needs_21 : decode cX5_needs 21 = .ok (.putfield 178, 3) := by decide +kernel
theorem dX5_needs_24 : decode cX5_needs 24 = .ok (.return_, 1) := by decide +kernel
theorem dX5_needs_25 : decode cX5_needs 25 = .ok (.aload_n 0, 1) := by decide +kernel
theorem dX5_needs_26 : decode cX5_needs 26 = .ok (.dup, 1) := by decide +kernel
theorem dX5_needs_27 : decode cX5_needs 27 = .ok (.getfield 175, 3) := by decide +kernel
theorem dX5_needs_30 : decode cX5_needs 30 = .ok (.iconst 1, 1) := by decide +kernel
theorem dX5_needs_31 : decode cX5_needs 31 = .ok (.iadd, 1) := by decide +kernel
theorem dX5_needs_32 : decode cX5_needs 32 = .ok (.putfield 175, 3) := by decide +kernel
theorem dX5_needs_35 : decode cX5_needs 35 = .ok (.return_, 1) := by decide +kernel
theorem dX5_signs_0 : decode cX5_signs 0 = .ok (.aload_n 0, 1) := by decide +kernel
theorem dX5_signs_1 : decode cX5_signs 1 = .ok (.iload_n 1, 1) := by decide +kernel
theorem dX5_signs_2 : decode cX5_signs 2 = .ok (.invokevirtual 184, 3) := by decide +kernel
theorem dX5_signs_5 : decode cX5_signs 5 = .ok (.aload_n 0, 1) := by decide +kernel
theorem dX5_signs_6 : decode cX5_signs 6 = .ok (.iload_n 2, 1) := by decide +kernel
theorem dX5_signs_7 : decode cX5_signs 7 = .ok (.invokevirtual 184, 3) := by decide +kernel
theorem dX5_signs_10 : decode cX5_signs 10 = .ok (.iload_n 3, 1) := by decide +kernel
theorem dX5_signs_11 : decode cX5_signs 11 = .ok (.ifCond .eq 8, 3) := by decide +kernel
theorem dX5_signs_14 : decode cX5_signs 14 = .ok (.aload_n 0, 1) := by decide +kernel
theorem dX5_signs_15 : decode cX5_signs 15 = .ok (.iload_n 3, 1) := by decide +kernel
theorem dX5_signs_16 : decode cX5_signs 16 = .ok (.invokevirtual 184, 3) := by decide +kernel
theorem dX5_signs_19 : decode cX5_signs 19 = .ok (.return_, 1) := by decide +kernel
theorem dX5_number_0 : decode cX5_number 0 = .ok (.aload_n 0, 1) := by decide +kernel
theorem dX5_number_1 : decode cX5_number 1 = .ok (.bipush 32, 2) := by decide +kernel
theorem dX5_number_3 : decode cX5_number 3 = .ok (.invokevirtual 184, 3) := by decide +kernel
theorem dX5_number_6 : decode cX5_number 6 = .ok (.aload_n 0, 1) := by decide +kernel
theorem dX5_number_7 : decode cX5_number 7 = .ok (.getfield 178, 3) := by decide +kernel
theorem dX5_number_10 : decode cX5_number 10 = .ok (.ifCond .lt 5, 3) := by decide +kernel
theorem dX5_number_13 : decode cX5_number 13 = .ok (.iconst 0, 1) := by decide +kernel
theorem dX5_number_14 : decode cX5_number 14 = .ok (.ireturn, 1) := by decide +kernel
theorem dX5_number_15 : decode cX5_number 15 = .ok (.aload_n 0, 1) := by decide +kernel
theorem dX5_number_16 : decode cX5_number 16 = .ok (.invokevirtual 181, 3) := by decide +kernel
theorem dX5_number_19 : decode cX5_number 19 = .ok (.bipush 48, 2) := by decide +kernel
theorem dX5_number_21 : decode cX5_number 21 = .ok (.bipush 57, 2) := by decide +kernel
theorem dX5_number_23 : decode cX5_number 23 = .ok (.invokestatic 40, 3) := by decide +kernel
theorem dX5_number_26 : decode cX5_number 26 = .ok (.ifCond .ne 13, 3) := by decide +kernel
theorem dX5_number_29 : decode cX5_number 29 = .ok (.aload_n 0, 1) := by decide +kernel
theorem dX5_number_30 : decode cX5_number 30 = .ok (.aload_n 0, 1) := by decide +kernel
theorem dX5_number_31 : decode cX5_number 31 = .ok (.getfield 175, 3) := by decide +kernel
theorem dX5_number_34 : decode cX5_number 34 = .ok (.putfield 178, 3) := by decide +kernel
theorem dX5_number_37 : decode cX5_number 37 = .ok (.iconst 0, 1) := by decide +kernel
theorem dX5_number_38 : decode cX5_number 38 = .ok (.ireturn, 1) := by decide +kernel
theorem dX5_number_39 : decode cX5_number 39 = .ok (.iconst 0, 1) := by decide +kernel
theorem dX5_number_40 : decode cX5_number 40 = .ok (.istore_n 2, 1) := by decide +kernel
theorem dX5_number_41 : decode cX5_number 41 = .ok (.iconst 0, 1) := by decide +kernel
theorem dX5_number_42 : decode cX5_number 42 = .ok (.istore_n 3, 1) := by decide +kernel
theorem dX5_number_43 : decode cX5_number 43 = .ok (.iload_n 3, 1) := by decide +kernel
theorem dX5_number_44 : decode cX5_number 44 = .ok (.iload_n 1, 1) := by decide +kernel
theorem dX5_number_45 : decode cX5_number 45 = .ok (.if_icmp .ge 46, 3) := by decide +kernel
theorem dX5_number_48 : decode cX5_number 48 = .ok (.aload_n 0, 1) := by decide +kernel
theorem dX5_number_49 : decode cX5_number 49 = .ok (.invokevirtual 181, 3) := by decide +kernel
theorem dX5_number_52 : decode cX5_number 52 = .ok (.bipush 48, 2) := by decide +kernel
theorem dX5_number_54 : decode cX5_number 54 = .ok (.bipush 57, 2) := by decide +kernel
theorem dX5_number_56 : decode cX5_number 56 = .ok (.invokestatic 40, 3) := by decide +kernel
theorem dX5_number_59 : decode cX5_number 59 = .ok (.ifCond .eq 32, 3) := by decide +kernel
theorem dX5_number_62 : decode cX5_number 62 = .ok (.bipush 10, 2) := by decide +kernel
theorem dX5_number_64 : decode cX5_number 64 = .ok (.iload_n 2, 1) := by decide +kernel
theorem dX5_number_65 : decode cX5_number 65 = .ok (.imul, 1) := by decide +kernel
theorem dX5_number_66 : decode cX5_number 66 = .ok (.aload_n 0, 1) := by decide +kernel
theorem dX5_number_67 : decode cX5_number 67 = .ok (.invokevirtual 181, 3) := by decide +kernel
theorem dX5_number_70 : decode cX5_number 70 = .ok (.iadd, 1) := by decide +kernel
theorem dX5_number_71 : decode cX5_number 71 = .ok (.bipush 48, 2) := by decide +kernel
theorem dX5_number_73 : decode cX5_number 73 = .ok (.isub, 1) := by decide +kernel
theorem dX5_number_74 : decode cX5_number 74 = .ok (.istore_n 2, 1) := by decide +kernel
theorem dX5_number_75 : decode cX5_number 75 = .ok (.aload_n 0, 1) := by decide +kernel
theorem dX5_number_76 : decode cX5_number 76 = .ok (.dup, 1) := by decide +kernel
theorem dX5_number_77 : decode cX5_number 77 = .ok (.getfield 175, 3) := by decide +kernel
theorem dX5_number_80 : decode cX5_number 80 = .ok (.iconst 1, 1) := by decide +kernel
theorem dX5_number_81 : decode cX5_number 81 = .ok (.iadd, 1) := by decide +kernel
theorem dX5_number_82 : decode cX5_number 82 = .ok (.putfield 175, 3) := by decide +kernel
theorem dX5_number_85 : decode cX5_number 85 = .ok (.iinc 3 1, 3) := by decide +kernel
theorem dX5_number_88 : decode cX5_number 88 = .ok (.goto (-45), 3) := by decide +kernel
theorem dX5_number_91 : decode cX5_number 91 = .ok (.iload_n 2, 1) := by decide +kernel
theorem dX5_number_92 : decode cX5_number 92 = .ok (.ireturn, 1) := by decide +kernel
theorem dX5_plusOrMinus_0 : decode cX5_plusOrMinus 0 = .ok (.aload_n 0, 1) := by decide +kernel
theorem dX5_plusOrMinus_1 : decode cX5_plusOrMinus 1 = .ok (.getfield 178, 3) := by decide +kernel
theorem dX5_plusOrMinus_4 : decode cX5_plusOrMinus 4 = .ok (.ifCond .lt 5, 3) := by decide +kernel
theorem dX5_plusOrMinus_7 : decode cX5_plusOrMinus 7 = .ok (.iconst 0, 1) := by decide +kernel
theorem dX5_plusOrMinus_8 : decode cX5_plusOrMinus 8 = .ok (.ireturn, 1) := by decide +kernel
theorem dX5_plusOrMinus_9 : decode cX5_plusOrMinus 9 = .ok (.aload_n 0, 1) := by decide +kernel
theorem dX5_plusOrMinus_10 : decode cX5_plusOrMinus 10 = .ok (.invokevirtual 181, 3) := by decide +kernel
theorem dX5_plusOrMinus_13 : decode cX5_plusOrMinus 13 = .ok (.istore_n 1, 1) := by decide +kernel
theorem dX5_plusOrMinus_14 : decode cX5_plusOrMinus 14 = .ok (.iload_n 1, 1) := by decide +kernel
theorem dX5_plusOrMinus_15 : decode cX5_plusOrMinus 15 = .ok (.bipush 43, 2) := by decide +kernel
theorem dX5_plusOrMinus_17 : decode cX5_plusOrMinus 17 = .ok (.if_icmp .eq 19, 3) := by decide +kernel
theorem dX5_plusOrMinus_20 : decode cX5_plusOrMinus 20 = .ok (.iload_n 1, 1) := by decide +kernel
theorem dX5_plusOrMinus_21 : decode cX5_plusOrMinus 21 = .ok (.bipush 45, 2) := by decide +kernel
theorem dX5_plusOrMinus_23 : decode cX5_plusOrMinus 23 = .ok (.if_icmp .eq 13, 3) := by decide +kernel
theorem dX5_plusOrMinus_26 : decode cX5_plusOrMinus 26 = .ok (.aload_n 0, 1) := by decide +kernel
theorem dX5_plusOrMinus_27 : decode cX5_plusOrMinus 27 = .ok (.aload_n 0, 1) := by decide +kernel
theorem dX5_plusOrMinus_28 : decode cX5_plusOrMinus 28 = .ok (.getfield 175, 3) := by decide +kernel
theorem dX5_plusOrMinus_31 : decode cX5_plusOrMinus 31 = .ok (.putfield 178, 3) := by decide +kernel
theorem dX5_plusOrMinus_34 : decode cX5_plusOrMinus 34 = .ok (.iconst 0, 1) := by decide +kernel
theorem dX5_plusOrMinus_35 : decode cX5_plusOrMinus 35 = .ok (.ireturn, 1) := by decide +kernel
theorem dX5_plusOrMinus_36 : decode cX5_plusOrMinus 36 = .ok (.aload_n 0, 1) := by decide +kernel
theorem dX5_plusOrMinus_37 : decode cX5_plusOrMinus 37 = .ok (.dup, 1) := by decide +kernel
theorem dX5_plusOrMinus_38 : decode cX5_plusOrMinus 38 = .ok (.getfield 175, 3) := by decide +kernel
theorem dX5_plusOrMinus_41 : decode cX5_plusOrMinus 41 = .ok (.iconst 1, 1) := by decide +kernel
theorem dX5_plusOrMinus_42 : decode cX5_plusOrMinus 42 = .ok (.iadd, 1) := by decide +kernel
theorem dX5_plusOrMinus_43 : decode cX5_plusOrMinus 43 = .ok (.putfield 175, 3) := by decide +kernel
theorem dX5_plusOrMinus_46 : decode cX5_plusOrMinus 46 = .ok (.iload_n 1, 1) := by decide +kernel
theorem dX5_plusOrMinus_47 : decode cX5_plusOrMinus 47 = .ok (.bipush 43, 2) := by decide +kernel
theorem dX5_plusOrMinus_49 : decode cX5_plusOrMinus 49 = .ok (.if_icmp .ne 7, 3) := by decide +kernel
theorem dX5_plusOrMinus_52 : decode cX5_plusOrMinus 52 = .ok (.iconst 1, 1) := by decide +kernel
theorem dX5_plusOrMinus_53 : decode cX5_plusOrMinus 53 = .ok (.goto 4, 3) := by decide +kernel
theorem dX5_plusOrMinus_56 : decode cX5_plusOrMinus 56 = .ok (.iconst 0, 1) := by decide +kernel
theorem dX5_plusOrMinus_57 : decode cX5_plusOrMinus 57 = .ok (.ireturn, 1) := by decide +kernel
theorem dX5_word_0 : decode cX5_word 0 = .ok (.aload_n 0, 1) := by decide +kernel
theorem dX5_word_1 : decode cX5_word 1 = .ok (.invokevirtual 181, 3) := by decide +kernel
theorem dX5_word_4 : decode cX5_word 4 = .ok (.istore_n 2, 1) := by decide +kernel
theorem dX5_word_5 : decode cX5_word 5 = .ok (.iload_n 1, 1) := by decide +kernel
theorem dX5_word_6 : decode cX5_word 6 = .ok (.tableswitch 206 97 115 #[162, 206, 206, 206, 206, 137, 206, 124, 206, 206, 90, 150, 184, 206, 206, 206, 206, 206, 112], 90) := by decide +kernel
theorem dX5_word_96 : decode cX5_word 96 = .ok (.aload_n 0, 1) := by decide +kernel
theorem dX5_word_97 : decode cX5_word 97 = .ok (.bipush 101, 2) := by decide +kernel
theorem dX5_word_99 : decode cX5_word 99 = .ok (.bipush 116, 2) := by decide +kernel
theorem dX5_word_101 : decode cX5_word 101 = .ok (.bipush 116, 2) := by decide +kernel
theorem dX5_word_103 : decode cX5_word 103 = .ok (.invokevirtual 188, 3) := by decide +kernel
theorem dX5_word_106 : decode cX5_word 106 = .ok (.aload_n 0, 1) := by decide +kernel
theorem dX5_word_107 : decode cX5_word 107 = .ok (.bipush 108, 2) := by decide +kernel
theorem dX5_word_109 : decode cX5_word 109 = .ok (.bipush 101, 2) := by decide +kernel
theorem dX5_word_111 : decode cX5_word 111 = .ok (.iconst 0, 1) := by decide +kernel
theorem dX5_word_112 : decode cX5_word 112 = .ok (.invokevirtual 188, 3) := by decide +kernel
theorem dX5_word_115 : decode cX5_word 115 = .ok (.bipush 107, 2) := by decide +kernel
theorem dX5_word_117 : decode cX5_word 117 = .ok (.ireturn, 1) := by decide +kernel
theorem dX5_word_118 : decode cX5_word 118 = .ok (.aload_n 0, 1) := by decide +kernel
theorem dX5_word_119 : decode cX5_word 119 = .ok (.bipush 101, 2) := by decide +kernel
theorem dX5_word_121 : decode cX5_word 121 = .ok (.bipush 116, 2) := by decide +kernel
theorem dX5_word_123 : decode cX5_word 123 = .ok (.iconst 0, 1) := by decide +kernel
theorem dX5_word_124 : decode cX5_word 124 = .ok (.invokevirtual 188, 3) := by decide +kernel
theorem dX5_word_127 : decode cX5_word 127 = .ok (.bipush 115, 2) := by decide +kernel
theorem dX5_word_129 : decode cX5_word 129 = .ok (.ireturn, 1) := by decide +kernel
theorem dX5_word_130 : decode cX5_word 130 = .ok (.aload_n 0, 1) := by decide +kernel
theorem dX5_word_131 : decode cX5_word 131 = .ok (.bipush 101, 2) := by decide +kernel
theorem dX5_word_133 : decode cX5_word 133 = .ok (.bipush 97, 2) := by decide +kernel
theorem dX5_word_135 : decode cX5_word 135 = .ok (.bipush 116, 2) := by decide +kernel
theorem dX5_word_137 : decode cX5_word 137 = .ok (.invokevirtual 188, 3) := by decide +kernel
theorem dX5_word_140 : decode cX5_word 140 = .ok (.bipush 104, 2) := by decide +kernel
theorem dX5_word_142 : decode cX5_word 142 = .ok (.ireturn, 1) := by decide +kernel
theorem dX5_word_143 : decode cX5_word 143 = .ok (.aload_n 0, 1) := by decide +kernel
theorem dX5_word_144 : decode cX5_word 144 = .ok (.bipush 105, 2) := by decide +kernel
theorem dX5_word_146 : decode cX5_word 146 = .ok (.bipush 108, 2) := by decide +kernel
theorem dX5_word_148 : decode cX5_word 148 = .ok (.bipush 108, 2) := by decide +kernel
theorem dX5_word_150 : decode cX5_word 150 = .ok (.invokevirtual 188, 3) := by decide +kernel
theorem dX5_word_153 : decode cX5_word 153 = .ok (.bipush 102, 2) := by decide +kernel
theorem dX5_word_155 : decode cX5_word 155 = .ok (.ireturn, 1) := by decide +kernel
theorem dX5_word_156 : decode cX5_word 156 = .ok (.aload_n 0, 1) := by decide +kernel
theorem dX5_word_157 : decode cX5_word 157 = .ok (.bipush 105, 2) := by decide +kernel
theorem dX5_word_159 : decode cX5_word 159 = .ok (.bipush 100, 2) := by decide +kernel
theorem dX5_word_161 : decode cX5_word 161 = .ok (.iconst 0, 1) := by decide +kernel
theorem dX5_word_162 : decode cX5_word 162 = .ok (.invokevirtual 188, 3) := by decide +kernel
theorem dX5_word_165 : decode cX5_word 165 = .ok (.bipush 108, 2) := by decide +kernel
theorem dX5_word_167 : decode cX5_word 167 = .ok (.ireturn, 1) := by decide +kernel
theorem dX5_word_168 : decode cX5_word 168 = .ok (.aload_n 0, 1) := by decide +kernel
theorem dX5_word_169 : decode cX5_word 169 = .ok (.bipush 112, 2) := by decide +kernel
theorem dX5_word_171 : decode cX5_word 171 = .ok (.bipush 112, 2) := by decide +kernel
theorem dX5_word_173 : decode cX5_word 173 = .ok (.bipush 101, 2) := by decide +kernel
theorem dX5_word_175 : decode cX5_word 175 = .ok (.invokevirtual 188, 3) := by decide +kernel
theorem dX5_word_178 : decode cX5_word 178 = .ok (.aload_n 0, 1) := by decide +kernel
theorem dX5_word_179 : decode cX5_word 179 = .ok (.bipush 97, 2) := by decide +kernel
theorem dX5_word_181 : decode cX5_word 181 = .ok (.bipush 108, 2) := by decide +kernel
theorem dX5_word_183 : decode cX5_word 183 = .ok (.iconst 0, 1) := by decide +kernel
theorem dX5_word_184 : decode cX5_word 184 = .ok (.invokevirtual 188, 3) := by decide +kernel
theorem dX5_word_187 : decode cX5_word 187 = .ok (.bipush 97, 2) := by decide +kernel
theorem dX5_word_189 : decode cX5_word 189 = .ok (.ireturn, 1) := by decide +kernel
theorem dX5_word_190 : decode cX5_word 190 = .ok (.aload_n 0, 1) := by decide +kernel
theorem dX5_word_191 : decode cX5_word 191 = .ok (.bipush 105, 2) := by decide +kernel
theorem dX5_word_193 : decode cX5_word 193 = .ok (.bipush 110, 2) := by decide +kernel
theorem dX5_word_195 : decode cX5_word 195 = .ok (.bipush 117, 2) := by decide +kernel
theorem dX5_word_197 : decode cX5_word 197 = .ok (.invokevirtual 188, 3) := by decide +kernel
theorem dX5_word_200 : decode cX5_word 200 = .ok (.aload_n 0, 1) := by decide +kernel
theorem dX5_word_201 : decode cX5_word 201 = .ok (.bipush 116, 2) := by decide +kernel
theorem dX5_word_203 : decode cX5_word 203 = .ok (.bipush 101, 2) := by decide +kernel
theorem dX5_word_205 : decode cX5_word 205 = .ok (.iconst 0, 1) := by decide +kernel
theorem dX5_word_206 : decode cX5_word 206 = .ok (.invokevirtual 188, 3) := by decide +kernel
theorem dX5_word_209 : decode cX5_word 209 = .ok (.bipush 109, 2) := by decide +kernel
theorem dX5_word_211 : decode cX5_word 211 = .ok (.ireturn, 1) := by decide +kernel
theorem dX5_word_212 : decode cX5_word 212 = .ok (.iload_n 2, 1) := by decide +kernel
theorem dX5_word_213 : decode cX5_word 213 = .ok (.bipush 102, 2) := by decide +kernel
theorem dX5_word_215 : decode cX5_word 215 = .ok (.if_icmp .ne 15, 3) := by decide +kernel
theorem dX5_word_218 : decode cX5_word 218 = .ok (.aload_n 0, 1) := by decide +kernel
theorem dX5_word_219 : decode cX5_word 219 = .ok (.bipush 102, 2) := by decide +kernel
theorem dX5_word_221 : decode cX5_word 221 = .ok (.bipush 102, 2) := by decide +kernel
theorem dX5_word_223 : decode cX5_word 223 = .ok (.iconst 0, 1) := by decide +kernel
theorem dX5_word_224 : decode cX5_word 224 = .ok (.invokevirtual 188, 3) := by decide +kernel
theorem dX5_word_227 : decode cX5_word 227 = .ok (.bipush 116, 2) := by decide +kernel
theorem dX5_word_229 : decode cX5_word 229 = .ok (.ireturn, 1) := by decide +kernel
theorem dX5_word_230 : decode cX5_word 230 = .ok (.aload_n 0, 1) := by decide +kernel
theorem dX5_word_231 : decode cX5_word 231 = .ok (.bipush 119, 2) := by decide +kernel
theorem dX5_word_233 : decode cX5_word 233 = .ok (.bipush 110, 2) := by decide +kernel
theorem dX5_word_235 : decode cX5_word 235 = .ok (.iconst 0, 1) := by decide +kernel
theorem dX5_word_236 : decode cX5_word 236 = .ok (.invokevirtual 188, 3) := by decide +kernel
theorem dX5_word_239 : decode cX5_word 239 = .ok (.bipush 110, 2) := by decide +kernel
theorem dX5_word_241 : decode cX5_word 241 = .ok (.ireturn, 1) := by decide +kernel
theorem dX5_order_0 : decode cX5_order 0 = .ok (.iconst 4, 1) := by decide +kernel
theorem dX5_order_1 : decode cX5_order 1 = .ok (.aload_n 0, 1) := by decide +kernel
theorem dX5_order_2 : decode cX5_order 2 = .ok (.getfield 191, 3) := by decide +kernel
theorem dX5_order_5 : decode cX5_order 5 = .ok (.imul, 1) := by decide +kernel
theorem dX5_order_6 : decode cX5_order 6 = .ok (.istore_n 1, 1) := by decide +kernel
theorem dX5_order_7 : decode cX5_order 7 = .ok (.aload_n 0, 1) := by decide +kernel
theorem dX5_order_8 : decode cX5_order 8 = .ok (.dup, 1) := by decide +kernel
theorem dX5_order_9 : decode cX5_order 9 = .ok (.getfield 191, 3) := by decide +kernel
theorem dX5_order_12 : decode cX5_order 12 = .ok (.iconst 1, 1) := by decide +kernel
theorem dX5_order_13 : decode cX5_order 13 = .ok (.iadd, 1) := by decide +kernel
theorem dX5_order_14 : decode cX5_order 14 = .ok (.putfield 191, 3) := by decide +kernel
theorem dX5_order_17 : decode cX5_order 17 = .ok (.aload_n 0, 1) := by decide +kernel
theorem dX5_order_18 : decode cX5_order 18 = .ok (.invokevirtual 181, 3) := by decide +kernel
theorem dX5_order_21 : decode cX5_order 21 = .ok (.istore_n 2, 1) := by decide +kernel
theorem dX5_order_22 : decode cX5_order 22 = .ok (.iconst 0, 1) := by decide +kernel
theorem dX5_order_23 : decode cX5_order 23 = .ok (.istore_n 3, 1) := by decide +kernel
theorem dX5_order_24 : decode cX5_order 24 = .ok (.iload_n 3, 1) := by decide +kernel
theorem dX5_order_25 : decode cX5_order 25 = .ok (.iconst 4, 1) := by decide +kernel
theorem dX5_order_26 : decode cX5_order 26 = .ok (.if_icmp .ge 18, 3) := by decide +kernel
theorem dX5_order_29 : decode cX5_order 29 = .ok (.aload_n 0, 1) := by decide +kernel
theorem dX5_order_30 : decode cX5_order 30 = .ok (.getfield 23, 3) := by decide +kernel
theorem dX5_order_33 : decode cX5_order 33 = .ok (.iload_n 1, 1) := by decide +kernel
theorem dX5_order_34 : decode cX5_order 34 = .ok (.iload_n 3, 1) := by decide +kernel
theorem dX5_order_35 : decode cX5_order 35 = .ok (.iadd, 1) := by decide +kernel
theorem dX5_order_36 : decode cX5_order 36 = .ok (.iconst 0, 1) := by decide +kernel
theorem dX5_order_37 : decode cX5_order 37 = .ok (.iastore, 1) := by decide +kernel
theorem dX5_order_38 : decode cX5_order 38 = .ok (.iinc 3 1, 3) := by decide +kernel
theorem dX5_order_41 : decode cX5_order 41 = .ok (.goto (-17), 3) := by decide +kernel
theorem dX5_order_44 : decode cX5_order 44 = .ok (.iload_n 2, 1) := by decide +kernel
theorem dX5_order_45 : decode cX5_order 45 = .ok (.bipush 111, 2) := by decide +kernel
theorem dX5_order_47 : decode cX5_order 47 = .ok (.if_icmp .eq 54, 3) := by decide +kernel
theorem dX5_order_50 : decode cX5_order 50 = .ok (.iload_n 2, 1) := by decide +kernel
theorem dX5_order_51 : decode cX5_order 51 = .ok (.bipush 107, 2) := by decide +kernel
theorem dX5_order_53 : decode cX5_order 53 = .ok (.if_icmp .eq 48, 3) := by decide +kernel
theorem dX5_order_56 : decode cX5_order 56 = .ok (.iload_n 2, 1) := by decide +kernel
theorem dX5_order_57 : decode cX5_order 57 = .ok (.bipush 115, 2) := by decide +kernel
theorem dX5_order_59 : decode cX5_order 59 = .ok (.if_icmp .eq 42, 3) := by decide +kernel
theorem dX5_order_62 : decode cX5_order 62 = .ok (.iload_n 2, 1) := by decide +kernel
theorem dX5_order_63 : decode cX5_order 63 = .ok (.bipush 104, 2) := by decide +kernel
theorem dX5_order_65 : decode cX5_order 65 = .ok (.if_icmp .eq 36, 3) := by decide +kernel
theorem dX5_order_68 : decode cX5_order 68 = .ok (.iload_n 2, 1) := by decide +kernel
theorem dX5_order_69 : decode cX5_order 69 = .ok (.bipush 102, 2) := by decide +kernel
theorem dX5_order_71 : decode cX5_order 71 = .ok (.if_icmp .eq 30, 3) := by decide +kernel
theorem dX5_order_74 : decode cX5_order 74 = .ok (.iload_n 2, 1) := by decide +kernel
theorem dX5_order_75 : decode cX5_order 75 = .ok (.bipush 108, 2) := by decide +kernel
theorem dX5_order_77 : decode cX5_order 77 = .ok (.if_icmp .eq 24, 3) := by decide +kernel
theorem dX5_order_80 : decode cX5_order 80 = .ok (.iload_n 2, 1) := by decide +kernel
theorem dX5_order_81 : decode cX5_order 81 = .ok (.bipush 97, 2) := by decide +kernel
theorem dX5_order_83 : decode cX5_order 83 = .ok (.if_icmp .eq 18, 3) := by decide +kernel
theorem dX5_order_86 : decode cX5_order 86 = .ok (.iload_n 2, 1) := by decide +kernel
theorem dX5_order_87 : decode cX5_order 87 = .ok (.bipush 109, 2) := by decide +kernel
theorem dX5_order_89 : decode cX5_order 89 = .ok (.if_icmp .eq 12, 3) := by decide +kernel
theorem dX5_order_92 : decode cX5_order 92 = .ok (.aload_n 0, 1) := by decide +kernel
theorem dX5_order_93 : decode cX5_order 93 = .ok (.aload_n 0, 1) := by decide +kernel
theorem dX5_order_94 : decode cX5_order 94 = .ok (.getfield 175, 3) := by decide +kernel
theorem dX5_order_97 : decode cX5_order 97 = .ok (.putfield 178, 3) := by decide +kernel
theorem dX5_order_100 : decode cX5_order 100 = .ok (.return_, 1) := by decide +kernel
theorem dX5_order_101 : decode cX5_order 101 = .ok (.aload_n 0, 1) := by decide +kernel
theorem dX5_order_102 : decode cX5_order 102 = .ok (.dup, 1) := by decide +kernel
theorem dX5_order_103 : decode cX5_order 103 = .ok (.getfield 175, 3) := by decide +kernel
theorem dX5_order_106 : decode cX5_order 106 = .ok (.iconst 1, 1) := by decide +kernel
theorem dX5_order_107 : decode cX5_order 107 = .ok (.iadd, 1) := by decide +kernel
theorem dX5_order_108 : decode cX5_order 108 = .ok (.putfield 175, 3) := by decide +kernel
theorem dX5_order_111 : decode cX5_order 111 = .ok (.aload_n 0, 1) := by decide +kernel
theorem dX5_order_112 : decode cX5_order 112 = .ok (.iload_n 2, 1) := by decide +kernel
theorem dX5_order_113 : decode cX5_order 113 = .ok (.invokevirtual 194, 3) := by decide +kernel
theorem dX5_order_116 : decode cX5_order 116 = .ok (.istore_n 3, 1) := by decide +kernel
theorem dX5_order_117 : decode cX5_order 117 = .ok (.aload_n 0, 1) := by decide +kernel
theorem dX5_order_118 : decode cX5_order 118 = .ok (.getfield 23, 3) := by decide +kernel
theorem dX5_order_121 : decode cX5_order 121 = .ok (.iload_n 1, 1) := by decide +kernel
theorem dX5_order_122 : decode cX5_order 122 = .ok (.iload_n 3, 1) := by decide +kernel
theorem dX5_order_123 : decode cX5_order 123 = .ok (.iastore, 1) := by decide +kernel
theorem dX5_order_124 : decode cX5_order 124 = .ok (.aload_n 0, 1) := by decide +kernel
theorem dX5_order_125 : decode cX5_order 125 = .ok (.getfield 23, 3) := by decide +kernel
theorem dX5_order_128 : decode cX5_order 128 = .ok (.iload_n 1, 1) := by decide +kernel
theorem dX5_order_129 : decode cX5_order 129 = .ok (.iconst 1, 1) := by decide +kernel
theorem dX5_order_130 : decode cX5_order 130 = .ok (.iadd, 1) := by decide +kernel
theorem dX5_order_131 : decode cX5_order 131 = .ok (.aload_n 0, 1) := by decide +kernel
theorem dX5_order_132 : decode cX5_order 132 = .ok (.iconst 1, 1) := by decide +kernel
theorem dX5_order_133 : decode cX5_order 133 = .ok (.invokevirtual 197, 3) := by decide +kernel
theorem dX5_order_136 : decode cX5_order 136 = .ok (.iastore, 1) := by decide +kernel
theorem dX5_order_137 : decode cX5_order 137 = .ok (.iload_n 3, 1) := by decide +kernel
theorem dX5_order_138 : decode cX5_order 138 = .ok (.bipush 116, 2) := by decide +kernel
theorem dX5_order_140 : decode cX5_order 140 = .ok (.if_icmp .eq 9, 3) := by decide +kernel
theorem dX5_order_143 : decode cX5_order 143 = .ok (.iload_n 3, 1) := by decide +kernel
theorem dX5_order_144 : decode cX5_order 144 = .ok (.bipush 109, 2) := by decide +kernel
theorem dX5_order_146 : decode cX5_order 146 = .ok (.if_icmp .ne 4, 3) := by decide +kernel
theorem dX5_order_149 : decode cX5_order 149 = .ok (.return_, 1) := by decide +kernel
theorem dX5_order_150 : decode cX5_order 150 = .ok (.aload_n 0, 1) := by decide +kernel
theorem dX5_order_151 : decode cX5_order 151 = .ok (.getfield 23, 3) := by decide +kernel
theorem dX5_order_154 : decode cX5_order 154 = .ok (.iload_n 1, 1) := by decide +kernel
theorem dX5_order_155 : decode cX5_order 155 = .ok (.iconst 2, 1) := by decide +kernel
theorem dX5_order_156 : decode cX5_order 156 = .ok (.iadd, 1) := by decide +kernel
theorem dX5_order_157 : decode cX5_order 157 = .ok (.iload_n 3, 1) := by decide +kernel
theorem dX5_order_158 : decode cX5_order 158 = .ok (.bipush 108, 2) := by decide +kernel
theorem dX5_order_160 : decode cX5_order 160 = .ok (.if_icmp .ne 10, 3) := by decide +kernel
theorem dX5_order_163 : decode cX5_order 163 = .ok (.aload_n 0, 1) := by decide +kernel
theorem dX5_order_164 : decode cX5_order 164 = .ok (.invokevirtual 200, 3) := by decide +kernel
theorem dX5_order_167 : decode cX5_order 167 = .ok (.goto 30, 3) := by decide +kernel
theorem dX5_order_170 : decode cX5_order 170 = .ok (.aload_n 0, 1) := by decide +kernel
theorem dX5_order_171 : decode cX5_order 171 = .ok (.iload_n 3, 1) := by decide +kernel
theorem dX5_order_172 : decode cX5_order 172 = .ok (.bipush 110, 2) := by decide +kernel
theorem dX5_order_174 : decode cX5_order 174 = .ok (.if_icmp .eq 15, 3) := by decide +kernel
theorem dX5_order_177 : decode cX5_order 177 = .ok (.iload_n 3, 1) := by decide +kernel
theorem dX5_order_178 : decode cX5_order 178 = .ok (.bipush 107, 2) := by decide +kernel
theorem dX5_order_180 : decode cX5_order 180 = .ok (.if_icmp .eq 9, 3) := by decide +kernel
theorem dX5_order_183 : decode cX5_order 183 = .ok (.iload_n 3, 1) := by decide +kernel
theorem dX5_order_184 : decode cX5_order 184 = .ok (.bipush 102, 2) := by decide +kernel
theorem dX5_order_186 : decode cX5_order 186 = .ok (.if_icmp .ne 7, 3) := by decide +kernel
theorem dX5_order_189 : decode cX5_order 189 = .ok (.iconst 2, 1) := by decide +kernel
theorem dX5_order_190 : decode cX5_order 190 = .ok (.goto 4, 3) := by decide +kernel
theorem dX5_order_193 : decode cX5_order 193 = .ok (.iconst 1, 1) := by decide +kernel
theorem dX5_order_194 : decode cX5_order 194 = .ok (.invokevirtual 197, 3) := by decide +kernel
theorem dX5_order_197 : decode cX5_order 197 = .ok (.iastore, 1) := by decide +kernel
theorem dX5_order_198 : decode cX5_order 198 = .ok (.iload_n 3, 1) := by decide +kernel
theorem dX5_order_199 : decode cX5_order 199 = .ok (.bipush 107, 2) := by decide +kernel
theorem dX5_order_201 : decode cX5_order 201 = .ok (.if_icmp .ne 16, 3) := by decide +kernel
theorem dX5_order_204 : decode cX5_order 204 = .ok (.aload_n 0, 1) := by decide +kernel
theorem dX5_order_205 : decode cX5_order 205 = .ok (.getfield 23, 3) := by decide +kernel
theorem dX5_order_208 : decode cX5_order 208 = .ok (.iload_n 1, 1) := by decide +kernel
theorem dX5_order_209 : decode cX5_order 209 = .ok (.iconst 3, 1) := by decide +kernel
theorem dX5_order_210 : decode cX5_order 210 = .ok (.iadd, 1) := by decide +kernel
theorem dX5_order_211 : decode cX5_order 211 = .ok (.aload_n 0, 1) := by decide +kernel
theorem dX5_order_212 : decode cX5_order 212 = .ok (.iconst 2, 1) := by decide +kernel
theorem dX5_order_213 : decode cX5_order 213 = .ok (.invokevirtual 197, 3) := by decide +kernel
theorem dX5_order_216 : decode cX5_order 216 = .ok (.iastore, 1) := by decide +kernel
theorem dX5_order_217 : decode cX5_order 217 = .ok (.return_, 1) := by decide +kernel
theorem dX5_parse_0 : decode cX5_parse 0 = .ok (.aload_n 0, 1) := by decide +kernel
theorem dX5_parse_1 : decode cX5_parse 1 = .ok (.iconst 0, 1) := by decide +kernel
theorem dX5_parse_2 : decode cX5_parse 2 = .ok (.putfield 175, 3) := by decide +kernel
theorem dX5_parse_5 : decode cX5_parse 5 = .ok (.aload_n 0, 1) := by decide +kernel
theorem dX5_parse_6 : decode cX5_parse 6 = .ok (.iconst (-1), 1) := by decide +kernel
theorem dX5_parse_7 : decode cX5_parse 7 = .ok (.putfield 178, 3) := by decide +kernel
theorem dX5_parse_10 : decode cX5_parse 10 = .ok (.aload_n 0, 1) := by decide +kernel
theorem dX5_parse_11 : decode cX5_parse 11 = .ok (.iconst 0, 1) := by decide +kernel
theorem dX5_parse_12 : decode cX5_parse 12 = .ok (.putfield 191, 3) := by decide +kernel
theorem dX5_parse_15 : decode cX5_parse 15 = .ok (.aload_n 0, 1) := by decide +kernel
theorem dX5_parse_16 : decode cX5_parse 16 = .ok (.invokevirtual 203, 3) := by decide +kernel
theorem dX5_parse_19 : decode cX5_parse 19 = .ok (.aload_n 0, 1) := by decide +kernel
theorem dX5_parse_20 : decode cX5_parse 20 = .ok (.getfield 178, 3) := by decide +kernel
theorem dX5_parse_23 : decode cX5_parse 23 = .ok (.ifCond .ge 29, 3) := by decide +kernel
theorem dX5_parse_26 : decode cX5_parse 26 = .ok (.aload_n 0, 1) := by decide +kernel
theorem dX5_parse_27 : decode cX5_parse 27 = .ok (.invokevirtual 181, 3) := by decide +kernel
theorem dX5_parse_30 : decode cX5_parse 30 = .ok (.bipush 59, 2) := by decide +kernel
theorem dX5_parse_32 : decode cX5_parse 32 = .ok (.if_icmp .ne 20, 3) := by decide +kernel
theorem dX5_parse_35 : decode cX5_parse 35 = .ok (.aload_n 0, 1) := by decide +kernel
theorem dX5_parse_36 : decode cX5_parse 36 = .ok (.dup, 1) := by decide +kernel
theorem dX5_parse_37 : decode cX5_parse 37 = .ok (.getfield 175, 3) := by decide +kernel
theorem dX5_parse_40 : decode cX5_parse 40 = .ok (.iconst 1, 1) := by decide +kernel
theorem dX5_parse_41 : decode cX5_parse 41 = .ok (.iadd, 1) := by decide +kernel
theorem dX5_parse_42 : decode cX5_parse 42 = .ok (.putfield 175, 3) := by decide +kernel
theorem dX5_parse_45 : decode cX5_parse 45 = .ok (.aload_n 0, 1) := by decide +kernel
theorem dX5_parse_46 : decode cX5_parse 46 = .ok (.invokevirtual 203, 3) := by decide +kernel
theorem dX5_parse_49 : decode cX5_parse 49 = .ok (.goto (-30), 3) := by decide +kernel
theorem dX5_parse_52 : decode cX5_parse 52 = .ok (.aload_n 0, 1) := by decide +kernel
theorem dX5_parse_53 : decode cX5_parse 53 = .ok (.getfield 178, 3) := by decide +kernel
theorem dX5_parse_56 : decode cX5_parse 56 = .ok (.ifCond .ge 22, 3) := by decide +kernel
theorem dX5_parse_59 : decode cX5_parse 59 = .ok (.aload_n 0, 1) := by decide +kernel
theorem dX5_parse_60 : decode cX5_parse 60 = .ok (.getfield 175, 3) := by decide +kernel
theorem dX5_parse_63 : decode cX5_parse 63 = .ok (.aload_n 0, 1) := by decide +kernel
theorem dX5_parse_64 : decode cX5_parse 64 = .ok (.getfield 172, 3) := by decide +kernel
theorem dX5_parse_67 : decode cX5_parse 67 = .ok (.if_icmp .ge 11, 3) := by decide +kernel
theorem dX5_parse_70 : decode cX5_parse 70 = .ok (.aload_n 0, 1) := by decide +kernel
theorem dX5_parse_71 : decode cX5_parse 71 = .ok (.aload_n 0, 1) := by decide +kernel
theorem dX5_parse_72 : decode cX5_parse 72 = .ok (.getfield 175, 3) := by decide +kernel
theorem dX5_parse_75 : decode cX5_parse 75 = .ok (.putfield 178, 3) := by decide +kernel
theorem dX5_parse_78 : decode cX5_parse 78 = .ok (.return_, 1) := by decide +kernel
theorem dX5_does_0 : decode cX5_does 0 = .ok (.aload_n 0, 1) := by decide +kernel
theorem dX5_does_1 : decode cX5_does 1 = .ok (.getfield 23, 3) := by decide +kernel
theorem dX5_does_4 : decode cX5_does 4 = .ok (.iload_n 1, 1) := by decide +kernel
theorem dX5_does_5 : decode cX5_does 5 = .ok (.iconst 1, 1) := by decide +kernel
theorem dX5_does_6 : decode cX5_does 6 = .ok (.iadd, 1) := by decide +kernel
theorem dX5_does_7 : decode cX5_does 7 = .ok (.iaload, 1) := by decide +kernel
theorem dX5_does_8 : decode cX5_does 8 = .ok (.istore_n 2, 1) := by decide +kernel
theorem dX5_does_9 : decode cX5_does 9 = .ok (.aload_n 0, 1) := by decide +kernel
theorem dX5_does_10 : decode cX5_does 10 = .ok (.getfield 23, 3) := by decide +kernel
theorem dX5_does_13 : decode cX5_does 13 = .ok (.iload_n 1, 1) := by decide +kernel
theorem dX5_does_14 : decode cX5_does 14 = .ok (.iconst 2, 1) := by decide +kernel
theorem dX5_does_15 : decode cX5_does 15 = .ok (.iadd, 1) := by decide +kernel
theorem dX5_does_16 : decode cX5_does 16 = .ok (.iaload, 1) := by decide +kernel
theorem dX5_does_17 : decode cX5_does 17 = .ok (.istore_n 3, 1) := by decide +kernel
theorem dX5_does_18 : decode cX5_does 18 = .ok (.aload_n 0, 1) := by decide +kernel
theorem dX5_does_19 : decode cX5_does 19 = .ok (.getfield 23, 3) := by decide +kernel
theorem dX5_does_22 : decode cX5_does 22 = .ok (.iload_n 1, 1) := by decide +kernel
theorem dX5_does_23 : decode cX5_does 23 = .ok (.iaload, 1) := by decide +kernel
theorem dX5_does_24 : decode cX5_does 24 = .ok (.tableswitch 159 97 116 #[152, 159, 159, 159, 159, 138, 159, 131, 159, 159, 103, 145, 159, 96, 159, 159, 159, 159, 118, 125], 96) := by decide +kernel
theorem dX5_does_120 : decode cX5_does 120 = .ok (.aload_n 0, 1) := by decide +kernel
theorem dX5_does_121 : decode cX5_does 121 = .ok (.iload_n 2, 1) := by decide +kernel
theorem dX5_does_122 : decode cX5_does 122 = .ok (.iload_n 3, 1) := by decide +kernel
theorem dX5_does_123 : decode cX5_does 123 = .ok (.invokevirtual 78, 3) := by decide +kernel
theorem dX5_does_126 : decode cX5_does 126 = .ok (.ireturn, 1) := by decide +kernel
theorem dX5_does_127 : decode cX5_does 127 = .ok (.aload_n 0, 1) := by decide +kernel
theorem dX5_does_128 : decode cX5_does 128 = .ok (.iload_n 2, 1) := by decide +kernel
theorem dX5_does_129 : decode cX5_does 129 = .ok (.iload_n 3, 1) := by decide +kernel
theorem dX5_does_130 : decode cX5_does 130 = .ok (.aload_n 0, 1) := by decide +kernel
theorem dX5_does_131 : decode cX5_does 131 = .ok (.getfield 23, 3) := by decide +kernel
theorem dX5_does_134 : decode cX5_does 134 = .ok (.iload_n 1, 1) := by decide +kernel
theorem dX5_does_135 : decode cX5_does 135 = .ok (.iconst 3, 1) := by decide +kernel
theorem dX5_does_136 : decode cX5_does 136 = .ok (.iadd, 1) := by decide +kernel
theorem dX5_does_137 : decode cX5_does 137 = .ok (.iaload, 1) := by decide +kernel
theorem dX5_does_138 : decode cX5_does 138 = .ok (.invokevirtual 88, 3) := by decide +kernel
theorem dX5_does_141 : decode cX5_does 141 = .ok (.ireturn, 1) := by decide +kernel
theorem dX5_does_142 : decode cX5_does 142 = .ok (.aload_n 0, 1) := by decide +kernel
theorem dX5_does_143 : decode cX5_does 143 = .ok (.iload_n 2, 1) := by decide +kernel
theorem dX5_does_144 : decode cX5_does 144 = .ok (.iload_n 3, 1) := by decide +kernel
theorem dX5_does_145 : decode cX5_does 145 = .ok (.invokevirtual 114, 3) := by decide +kernel
theorem dX5_does_148 : decode cX5_does 148 = .ok (.ireturn, 1) := by decide +kernel
theorem dX5_does_149 : decode cX5_does 149 = .ok (.aload_n 0, 1) := by decide +kernel
theorem dX5_does_150 : decode cX5_does 150 = .ok (.iload_n 2, 1) := by decide +kernel
theorem dX5_does_151 : decode cX5_does 151 = .ok (.invokevirtual 117, 3) := by decide +kernel
theorem dX5_does_154 : decode cX5_does 154 = .ok (.ireturn, 1) := by decide +kernel
theorem dX5_does_155 : decode cX5_does 155 = .ok (.aload_n 0, 1) := by decide +kernel
theorem dX5_does_156 : decode cX5_does 156 = .ok (.iload_n 2, 1) := by decide +kernel
theorem dX5_does_157 : decode cX5_does 157 = .ok (.iload_n 3, 1) := by decide +kernel
theorem dX5_does_158 : decode cX5_does 158 = .ok (.invokevirtual 120, 3) := by decide +kernel
theorem dX5_does_161 : decode cX5_does 161 = .ok (.ireturn, 1) := by decide +kernel
theorem dX5_does_162 : decode cX5_does 162 = .ok (.aload_n 0, 1) := by decide +kernel
theorem dX5_does_163 : decode cX5_does 163 = .ok (.iload_n 2, 1) := by decide +kernel
theorem dX5_does_164 : decode cX5_does 164 = .ok (.iload_n 3, 1) := by decide +kernel
theorem dX5_does_165 : decode cX5_does 165 = .ok (.invokevirtual 95, 3) := by decide +kernel
theorem dX5_does_168 : decode cX5_does 168 = .ok (.ireturn, 1) := by decide +kernel
theorem dX5_does_169 : decode cX5_does 169 = .ok (.aload_n 0, 1) := by decide +kernel
theorem dX5_does_170 : decode cX5_does 170 = .ok (.iload_n 2, 1) := by decide +kernel
theorem dX5_does_171 : decode cX5_does 171 = .ok (.iload_n 3, 1) := by decide +kernel
theorem dX5_does_172 : decode cX5_does 172 = .ok (.invokevirtual 126, 3) := by decide +kernel
theorem dX5_does_175 : decode cX5_does 175 = .ok (.ireturn, 1) := by decide +kernel
theorem dX5_does_176 : decode cX5_does 176 = .ok (.aload_n 0, 1) := by decide +kernel
theorem dX5_does_177 : decode cX5_does 177 = .ok (.iload_n 2, 1) := by decide +kernel
theorem dX5_does_178 : decode cX5_does 178 = .ok (.iload_n 3, 1) := by decide +kernel
theorem dX5_does_179 : decode cX5_does 179 = .ok (.invokevirtual 132, 3) := by decide +kernel
theorem dX5_does_182 : decode cX5_does 182 = .ok (.ireturn, 1) := by decide +kernel
theorem dX5_does_183 : decode cX5_does 183 = .ok (.aload_n 0, 1) := by decide +kernel
theorem dX5_does_184 : decode cX5_does 184 = .ok (.iload_n 2, 1) := by decide +kernel
theorem dX5_does_185 : decode cX5_does 185 = .ok (.invokevirtual 150, 3) := by decide +kernel
theorem dX5_does_188 : decode cX5_does 188 = .ok (.ireturn, 1) := by decide +kernel
theorem dX5_run_0 : decode cX5_run 0 = .ok (.aload_n 0, 1) := by decide +kernel
theorem dX5_run_1 : decode cX5_run 1 = .ok (.invokevirtual 206, 3) := by decide +kernel
theorem dX5_run_4 : decode cX5_run 4 = .ok (.aload_n 0, 1) := by decide +kernel
theorem dX5_run_5 : decode cX5_run 5 = .ok (.iconst 0, 1) := by decide +kernel
theorem dX5_run_6 : decode cX5_run 6 = .ok (.putfield 172, 3) := by decide +kernel
theorem dX5_run_9 : decode cX5_run 9 = .ok (.aload_n 0, 1) := by decide +kernel
theorem dX5_run_10 : decode cX5_run 10 = .ok (.getfield 178, 3) := by decide +kernel
theorem dX5_run_13 : decode cX5_run 13 = .ok (.ifCond .lt 12, 3) := by decide +kernel
theorem dX5_run_16 : decode cX5_run 16 = .ok (.sipush (-2000), 3) := by decide +kernel
theorem dX5_run_19 : decode cX5_run 19 = .ok (.aload_n 0, 1) := by decide +kernel
theorem dX5_run_20 : decode cX5_run 20 = .ok (.getfield 178, 3) := by decide +kernel
theorem dX5_run_23 : decode cX5_run 23 = .ok (.isub, 1) := by decide +kernel
theorem dX5_run_24 : decode cX5_run 24 = .ok (.ireturn, 1) := by decide +kernel
theorem dX5_run_25 : decode cX5_run 25 = .ok (.aload_n 0, 1) := by decide +kernel
theorem dX5_run_26 : decode cX5_run 26 = .ok (.invokevirtual 75, 3) := by decide +kernel
theorem dX5_run_29 : decode cX5_run 29 = .ok (.iconst 0, 1) := by decide +kernel
theorem dX5_run_30 : decode cX5_run 30 = .ok (.istore_n 1, 1) := by decide +kernel
theorem dX5_run_31 : decode cX5_run 31 = .ok (.iconst 0, 1) := by decide +kernel
theorem dX5_run_32 : decode cX5_run 32 = .ok (.istore_n 2, 1) := by decide +kernel
theorem dX5_run_33 : decode cX5_run 33 = .ok (.iload_n 2, 1) := by decide +kernel
theorem dX5_run_34 : decode cX5_run 34 = .ok (.aload_n 0, 1) := by decide +kernel
theorem dX5_run_35 : decode cX5_run 35 = .ok (.getfield 191, 3) := by decide +kernel
theorem dX5_run_38 : decode cX5_run 38 = .ok (.if_icmp .ge 24, 3) := by decide +kernel
theorem dX5_run_41 : decode cX5_run 41 = .ok (.iload_n 1, 1) := by decide +kernel
theorem dX5_run_42 : decode cX5_run 42 = .ok (.sipush (-1011), 3) := by decide +kernel
theorem dX5_run_45 : decode cX5_run 45 = .ok (.if_icmp .le 17, 3) := by decide +kernel
theorem dX5_run_48 : decode cX5_run 48 = .ok (.aload_n 0, 1) := by decide +kernel
theorem dX5_run_49 : decode cX5_run 49 = .ok (.iconst 4, 1) := by decide +kernel
theorem dX5_run_50 : decode cX5_run 50 = .ok (.iload_n 2, 1) := by decide +kernel
theorem dX5_run_51 : decode cX5_run 51 = .ok (.imul, 1) := by decide +kernel
theorem dX5_run_52 : decode cX5_run 52 = .ok (.invokevirtual 209, 3) := by decide +kernel
theorem dX5_run_55 : decode cX5_run 55 = .ok (.istore_n 1, 1) := by decide +kernel
theorem dX5_run_56 : decode cX5_run 56 = .ok (.iinc 2 1, 3) := by decide +kernel
theorem dX5_run_59 : decode cX5_run 59 = .ok (.goto (-26), 3) := by decide +kernel
theorem dX5_run_62 : decode cX5_run 62 = .ok (.iload_n 1, 1) := by decide +kernel
theorem dX5_run_63 : decode cX5_run 63 = .ok (.sipush (-1011), 3) := by decide +kernel
theorem dX5_run_66 : decode cX5_run 66 = .ok (.if_icmp .gt 39, 3) := by decide +kernel
theorem dX5_run_69 : decode cX5_run 69 = .ok (.aload_n 0, 1) := by decide +kernel
theorem dX5_run_70 : decode cX5_run 70 = .ok (.iload_n 1, 1) := by decide +kernel
theorem dX5_run_71 : decode cX5_run 71 = .ok (.sipush (-1014), 3) := by decide +kernel
theorem dX5_run_74 : decode cX5_run 74 = .ok (.if_icmp .ne 10, 3) := by decide +kernel
theorem dX5_run_77 : decode cX5_run 77 = .ok (.aload_n 0, 1) := by decide +kernel
theorem dX5_run_78 : decode cX5_run 78 = .ok (.getfield 37, 3) := by decide +kernel
theorem dX5_run_81 : decode cX5_run 81 = .ok (.goto 4, 3) := by decide +kernel
theorem dX5_run_84 : decode cX5_run 84 = .ok (.iconst 0, 1) := by decide +kernel
theorem dX5_run_85 : decode cX5_run 85 = .ok (.putfield 37, 3) := by decide +kernel
theorem dX5_run_88 : decode cX5_run 88 = .ok (.aload_n 0, 1) := by decide +kernel
theorem dX5_run_89 : decode cX5_run 89 = .ok (.bipush 16, 2) := by decide +kernel
theorem dX5_run_91 : decode cX5_run 91 = .ok (.iload_n 2, 1) := by decide +kernel
theorem dX5_run_92 : decode cX5_run 92 = .ok (.iconst 1, 1) := by decide +kernel
theorem dX5_run_93 : decode cX5_run 93 = .ok (.isub, 1) := by decide +kernel
theorem dX5_run_94 : decode cX5_run 94 = .ok (.invokevirtual 107, 3) := by decide +kernel
theorem dX5_run_97 : decode cX5_run 97 = .ok (.aload_n 0, 1) := by decide +kernel
theorem dX5_run_98 : decode cX5_run 98 = .ok (.sipush (-1014), 3) := by decide +kernel
theorem dX5_run_101 : decode cX5_run 101 = .ok (.invokevirtual 81, 3) := by decide +kernel
theorem dX5_run_104 : decode cX5_run 104 = .ok (.ireturn, 1) := by decide +kernel
theorem dX5_run_105 : decode cX5_run 105 = .ok (.aload_n 0, 1) := by decide +kernel
theorem dX5_run_106 : decode cX5_run 106 = .ok (.aload_n 0, 1) := by decide +kernel
theorem dX5_run_107 : decode cX5_run 107 = .ok (.getfield 191, 3) := by decide +kernel
theorem dX5_run_110 : decode cX5_run 110 = .ok (.invokevirtual 81, 3) := by decide +kernel
theorem dX5_run_113 : decode cX5_run 113 = .ok (.ireturn, 1) := by decide +kernel
theorem dX5_writes_0 : decode cX5_writes 0 = .ok (.aload_n 0, 1) := by decide +kernel
theorem dX5_writes_1 : decode cX5_writes 1 = .ok (.getfield 26, 3) := by decide +kernel
theorem dX5_writes_4 : decode cX5_writes 4 = .ok (.aload_n 0, 1) := by decide +kernel
theorem dX5_writes_5 : decode cX5_writes 5 = .ok (.getfield 212, 3) := by decide +kernel
theorem dX5_writes_8 : decode cX5_writes 8 = .ok (.iload_n 1, 1) := by decide +kernel
theorem dX5_writes_9 : decode cX5_writes 9 = .ok (.i2c, 1) := by decide +kernel
theorem dX5_writes_10 : decode cX5_writes 10 = .ok (.castore, 1) := by decide +kernel
theorem dX5_writes_11 : decode cX5_writes 11 = .ok (.aload_n 0, 1) := by decide +kernel
theorem dX5_writes_12 : decode cX5_writes 12 = .ok (.dup, 1) := by decide +kernel
theorem dX5_writes_13 : decode cX5_writes 13 = .ok (.getfield 212, 3) := by decide +kernel
theorem dX5_writes_16 : decode cX5_writes 16 = .ok (.iconst 1, 1) := by decide +kernel
theorem dX5_writes_17 : decode cX5_writes 17 = .ok (.iadd, 1) := by decide +kernel
theorem dX5_writes_18 : decode cX5_writes 18 = .ok (.putfield 212, 3) := by decide +kernel
theorem dX5_writes_21 : decode cX5_writes 21 = .ok (.return_, 1) := by decide +kernel
theorem dX5_writesNumber_0 : decode cX5_writesNumber 0 = .ok (.iload_n 1, 1) := by decide +kernel
theorem dX5_writesNumber_1 : decode cX5_writesNumber 1 = .ok (.bipush 9, 2) := by decide +kernel
theorem dX5_writesNumber_3 : decode cX5_writesNumber 3 = .ok (.if_icmp .le 11, 3) := by decide +kernel
theorem dX5_writesNumber_6 : decode cX5_writesNumber 6 = .ok (.aload_n 0, 1) := by decide +kernel
theorem dX5_writesNumber_7 : decode cX5_writesNumber 7 = .ok (.iload_n 1, 1) := by decide +kernel
theorem dX5_writesNumber_8 : decode cX5_writesNumber 8 = .ok (.bipush 10, 2) := by decide +kernel
theorem dX5_writesNumber_10 : decode cX5_writesNumber 10 = .ok (.idiv, 1) := by decide +kernel
theorem dX5_writesNumber_11 : decode cX5_writesNumber 11 = .ok (.invokevirtual 215, 3) := by decide +kernel
theorem dX5_writesNumber_14 : decode cX5_writesNumber 14 = .ok (.aload_n 0, 1) := by decide +kernel
theorem dX5_writesNumber_15 : decode cX5_writesNumber 15 = .ok (.bipush 48, 2) := by decide +kernel
theorem dX5_writesNumber_17 : decode cX5_writesNumber 17 = .ok (.iload_n 1, 1) := by decide +kernel
theorem dX5_writesNumber_18 : decode cX5_writesNumber 18 = .ok (.bipush 10, 2) := by decide +kernel
theorem dX5_writesNumber_20 : decode cX5_writesNumber 20 = .ok (.irem, 1) := by decide +kernel
theorem dX5_writesNumber_21 : decode cX5_writesNumber 21 = .ok (.iadd, 1) := by decide +kernel
theorem dX5_writesNumber_22 : decode cX5_writesNumber 22 = .ok (.invokevirtual 218, 3) := by decide +kernel
theorem dX5_writesNumber_25 : decode cX5_writesNumber 25 = .ok (.return_, 1) := by decide +kernel
theorem dX5_tell_0 : decode cX5_tell 0 = .ok (.aload_n 0, 1) := by decide +kernel
theorem dX5_tell_1 : decode cX5_tell 1 = .ok (.iload_n 1, 1) := by decide +kernel
theorem dX5_tell_2 : decode cX5_tell 2 = .ok (.invokevirtual 92, 3) := by decide +kernel
theorem dX5_tell_5 : decode cX5_tell 5 = .ok (.ifCond .ne 7, 3) := by decide +kernel
theorem dX5_tell_8 : decode cX5_tell 8 = .ok (.sipush (-1011), 3) := by decide +kernel
theorem dX5_tell_11 : decode cX5_tell 11 = .ok (.ireturn, 1) := by decide +kernel
theorem dX5_tell_12 : decode cX5_tell 12 = .ok (.aload_n 0, 1) := by decide +kernel
theorem dX5_tell_13 : decode cX5_tell 13 = .ok (.iconst 0, 1) := by decide +kernel
theorem dX5_tell_14 : decode cX5_tell 14 = .ok (.putfield 212, 3) := by decide +kernel
theorem dX5_tell_17 : decode cX5_tell 17 = .ok (.aload_n 0, 1) := by decide +kernel
theorem dX5_tell_18 : decode cX5_tell 18 = .ok (.iload_n 1, 1) := by decide +kernel
theorem dX5_tell_19 : decode cX5_tell 19 = .ok (.invokevirtual 215, 3) := by decide +kernel
theorem dX5_tell_22 : decode cX5_tell 22 = .ok (.aload_n 0, 1) := by decide +kernel
theorem dX5_tell_23 : decode cX5_tell 23 = .ok (.bipush 58, 2) := by decide +kernel
theorem dX5_tell_25 : decode cX5_tell 25 = .ok (.invokevirtual 218, 3) := by decide +kernel
theorem dX5_tell_28 : decode cX5_tell 28 = .ok (.aload_n 0, 1) := by decide +kernel
theorem dX5_tell_29 : decode cX5_tell 29 = .ok (.aload_n 0, 1) := by decide +kernel
theorem dX5_tell_30 : decode cX5_tell 30 = .ok (.iload_n 1, 1) := by decide +kernel
theorem dX5_tell_31 : decode cX5_tell 31 = .ok (.iconst 0, 1) := by decide +kernel
theorem dX5_tell_32 : decode cX5_tell 32 = .ok (.invokevirtual 48, 3) := by decide +kernel
theorem dX5_tell_35 : decode cX5_tell 35 = .ok (.invokevirtual 215, 3) := by decide +kernel
theorem dX5_tell_38 : decode cX5_tell 38 = .ok (.aload_n 0, 1) := by decide +kernel
theorem dX5_tell_39 : decode cX5_tell 39 = .ok (.bipush 112, 2) := by decide +kernel
theorem dX5_tell_41 : decode cX5_tell 41 = .ok (.invokevirtual 218, 3) := by decide +kernel
theorem dX5_tell_44 : decode cX5_tell 44 = .ok (.aload_n 0, 1) := by decide +kernel
theorem dX5_tell_45 : decode cX5_tell 45 = .ok (.aload_n 0, 1) := by decide +kernel
theorem dX5_tell_46 : decode cX5_tell 46 = .ok (.iload_n 1, 1) := by decide +kernel
theorem dX5_tell_47 : decode cX5_tell 47 = .ok (.iconst 1, 1) := by decide +kernel
theorem dX5_tell_48 : decode cX5_tell 48 = .ok (.invokevirtual 48, 3) := by decide +kernel
theorem dX5_tell_51 : decode cX5_tell 51 = .ok (.invokevirtual 215, 3) := by decide +kernel
theorem dX5_tell_54 : decode cX5_tell 54 = .ok (.aload_n 0, 1) := by decide +kernel
theorem dX5_tell_55 : decode cX5_tell 55 = .ok (.bipush 119, 2) := by decide +kernel
theorem dX5_tell_57 : decode cX5_tell 57 = .ok (.invokevirtual 218, 3) := by decide +kernel
theorem dX5_tell_60 : decode cX5_tell 60 = .ok (.aload_n 0, 1) := by decide +kernel
theorem dX5_tell_61 : decode cX5_tell 61 = .ok (.aload_n 0, 1) := by decide +kernel
theorem dX5_tell_62 : decode cX5_tell 62 = .ok (.iload_n 1, 1) := by decide +kernel
theorem dX5_tell_63 : decode cX5_tell 63 = .ok (.iconst 2, 1) := by decide +kernel
theorem dX5_tell_64 : decode cX5_tell 64 = .ok (.invokevirtual 48, 3) := by decide +kernel
theorem dX5_tell_67 : decode cX5_tell 67 = .ok (.invokevirtual 215, 3) := by decide +kernel
theorem dX5_tell_70 : decode cX5_tell 70 = .ok (.aload_n 0, 1) := by decide +kernel
theorem dX5_tell_71 : decode cX5_tell 71 = .ok (.bipush 116, 2) := by decide +kernel
theorem dX5_tell_73 : decode cX5_tell 73 = .ok (.invokevirtual 218, 3) := by decide +kernel
theorem dX5_tell_76 : decode cX5_tell 76 = .ok (.aload_n 0, 1) := by decide +kernel
theorem dX5_tell_77 : decode cX5_tell 77 = .ok (.aload_n 0, 1) := by decide +kernel
theorem dX5_tell_78 : decode cX5_tell 78 = .ok (.iload_n 1, 1) := by decide +kernel
theorem dX5_tell_79 : decode cX5_tell 79 = .ok (.iconst 3, 1) := by decide +kernel
theorem dX5_tell_80 : decode cX5_tell 80 = .ok (.invokevirtual 48, 3) := by decide +kernel
theorem dX5_tell_83 : decode cX5_tell 83 = .ok (.invokevirtual 215, 3) := by decide +kernel
theorem dX5_tell_86 : decode cX5_tell 86 = .ok (.aload_n 0, 1) := by decide +kernel
theorem dX5_tell_87 : decode cX5_tell 87 = .ok (.iload_n 1, 1) := by decide +kernel
theorem dX5_tell_88 : decode cX5_tell 88 = .ok (.iconst 4, 1) := by decide +kernel
theorem dX5_tell_89 : decode cX5_tell 89 = .ok (.invokevirtual 48, 3) := by decide +kernel
theorem dX5_tell_92 : decode cX5_tell 92 = .ok (.ifCond .ne 9, 3) := by decide +kernel
theorem dX5_tell_95 : decode cX5_tell 95 = .ok (.aload_n 0, 1) := by decide +kernel
theorem dX5_tell_96 : decode cX5_tell 96 = .ok (.bipush 95, 2) := by decide +kernel
theorem dX5_tell_98 : decode cX5_tell 98 = .ok (.invokevirtual 218, 3) := by decide +kernel
theorem dX5_tell_101 : decode cX5_tell 101 = .ok (.aload_n 0, 1) := by decide +kernel
theorem dX5_tell_102 : decode cX5_tell 102 = .ok (.iload_n 1, 1) := by decide +kernel
theorem dX5_tell_103 : decode cX5_tell 103 = .ok (.bipush 7, 2) := by decide +kernel
theorem dX5_tell_105 : decode cX5_tell 105 = .ok (.invokevirtual 48, 3) := by decide +kernel
theorem dX5_tell_108 : decode cX5_tell 108 = .ok (.iconst 1, 1) := by decide +kernel
theorem dX5_tell_109 : decode cX5_tell 109 = .ok (.if_icmp .ne 9, 3) := by decide +kernel
theorem dX5_tell_112 : decode cX5_tell 112 = .ok (.aload_n 0, 1) := by decide +kernel
theorem dX5_tell_113 : decode cX5_tell 113 = .ok (.bipush 35, 2) := by decide +kernel
theorem dX5_tell_115 : decode cX5_tell 115 = .ok (.invokevirtual 218, 3) := by decide +kernel
theorem dX5_tell_118 : decode cX5_tell 118 = .ok (.aload_n 0, 1) := by decide +kernel
theorem dX5_tell_119 : decode cX5_tell 119 = .ok (.iload_n 1, 1) := by decide +kernel
theorem dX5_tell_120 : decode cX5_tell 120 = .ok (.invokevirtual 52, 3) := by decide +kernel
theorem dX5_tell_123 : decode cX5_tell 123 = .ok (.ifCond .eq 21, 3) := by decide +kernel
theorem dX5_tell_126 : decode cX5_tell 126 = .ok (.aload_n 0, 1) := by decide +kernel
theorem dX5_tell_127 : decode cX5_tell 127 = .ok (.bipush 64, 2) := by decide +kernel
theorem dX5_tell_129 : decode cX5_tell 129 = .ok (.invokevirtual 218, 3) := by decide +kernel
theorem dX5_tell_132 : decode cX5_tell 132 = .ok (.aload_n 0, 1) := by decide +kernel
theorem dX5_tell_133 : decode cX5_tell 133 = .ok (.aload_n 0, 1) := by decide +kernel
theorem dX5_tell_134 : decode cX5_tell 134 = .ok (.iload_n 1, 1) := by decide +kernel
theorem dX5_tell_135 : decode cX5_tell 135 = .ok (.iconst 5, 1) := by decide +kernel
theorem dX5_tell_136 : decode cX5_tell 136 = .ok (.invokevirtual 48, 3) := by decide +kernel
theorem dX5_tell_139 : decode cX5_tell 139 = .ok (.iconst 1, 1) := by decide +kernel
theorem dX5_tell_140 : decode cX5_tell 140 = .ok (.isub, 1) := by decide +kernel
theorem dX5_tell_141 : decode cX5_tell 141 = .ok (.invokevirtual 215, 3) := by decide +kernel
theorem dX5_tell_144 : decode cX5_tell 144 = .ok (.aload_n 0, 1) := by decide +kernel
theorem dX5_tell_145 : decode cX5_tell 145 = .ok (.iload_n 1, 1) := by decide +kernel
theorem dX5_tell_146 : decode cX5_tell 146 = .ok (.invokevirtual 135, 3) := by decide +kernel
theorem dX5_tell_149 : decode cX5_tell 149 = .ok (.ifCond .eq 9, 3) := by decide +kernel
theorem dX5_tell_152 : decode cX5_tell 152 = .ok (.aload_n 0, 1) := by decide +kernel
theorem dX5_tell_153 : decode cX5_tell 153 = .ok (.bipush 33, 2) := by decide +kernel
theorem dX5_tell_155 : decode cX5_tell 155 = .ok (.invokevirtual 218, 3) := by decide +kernel
theorem dX5_tell_158 : decode cX5_tell 158 = .ok (.aload_n 0, 1) := by decide +kernel
theorem dX5_tell_159 : decode cX5_tell 159 = .ok (.iload_n 1, 1) := by decide +kernel
theorem dX5_tell_160 : decode cX5_tell 160 = .ok (.bipush 6, 2) := by decide +kernel
theorem dX5_tell_162 : decode cX5_tell 162 = .ok (.invokevirtual 48, 3) := by decide +kernel
theorem dX5_tell_165 : decode cX5_tell 165 = .ok (.ifCond .le 20, 3) := by decide +kernel
theorem dX5_tell_168 : decode cX5_tell 168 = .ok (.aload_n 0, 1) := by decide +kernel
theorem dX5_tell_169 : decode cX5_tell 169 = .ok (.bipush 120, 2) := by decide +kernel
theorem dX5_tell_171 : decode cX5_tell 171 = .ok (.invokevirtual 218, 3) := by decide +kernel
theorem dX5_tell_174 : decode cX5_tell 174 = .ok (.aload_n 0, 1) := by decide +kernel
theorem dX5_tell_175 : decode cX5_tell 175 = .ok (.aload_n 0, 1) := by decide +kernel
theorem dX5_tell_176 : decode cX5_tell 176 = .ok (.iload_n 1, 1) := by decide +kernel
theorem dX5_tell_177 : decode cX5_tell 177 = .ok (.bipush 6, 2) := by decide +kernel
theorem dX5_tell_179 : decode cX5_tell 179 = .ok (.invokevirtual 48, 3) := by decide +kernel
theorem dX5_tell_182 : decode cX5_tell 182 = .ok (.invokevirtual 215, 3) := by decide +kernel
theorem dX5_tell_185 : decode cX5_tell 185 = .ok (.aload_n 0, 1) := by decide +kernel
theorem dX5_tell_186 : decode cX5_tell 186 = .ok (.getfield 212, 3) := by decide +kernel
theorem dX5_tell_189 : decode cX5_tell 189 = .ok (.ireturn, 1) := by decide +kernel
theorem dX5_tellStoves_0 : decode cX5_tellStoves 0 = .ok (.aload_n 0, 1) := by decide +kernel
theorem dX5_tellStoves_1 : decode cX5_tellStoves 1 = .ok (.iconst 0, 1) := by decide +kernel
theorem dX5_tellStoves_2 : decode cX5_tellStoves 2 = .ok (.putfield 212, 3) := by decide +kernel
theorem dX5_tellStoves_5 : decode cX5_tellStoves 5 = .ok (.iconst 0, 1) := by decide +kernel
theorem dX5_tellStoves_6 : decode cX5_tellStoves 6 = .ok (.istore_n 1, 1) := by decide +kernel
theorem dX5_tellStoves_7 : decode cX5_tellStoves 7 = .ok (.iload_n 1, 1) := by decide +kernel
theorem dX5_tellStoves_8 : decode cX5_tellStoves 8 = .ok (.bipush 6, 2) := by decide +kernel
theorem dX5_tellStoves_10 : decode cX5_tellStoves 10 = .ok (.if_icmp .ge 54, 3) := by decide +kernel
theorem dX5_tellStoves_13 : decode cX5_tellStoves 13 = .ok (.aload_n 0, 1) := by decide +kernel
theorem dX5_tellStoves_14 : decode cX5_tellStoves 14 = .ok (.aload_n 0, 1) := by decide +kernel
theorem dX5_tellStoves_15 : decode cX5_tellStoves 15 = .ok (.getfield 9, 3) := by decide +kernel
theorem dX5_tellStoves_18 : decode cX5_tellStoves 18 = .ok (.bipush 29, 2) := by decide +kernel
theorem dX5_tellStoves_20 : decode cX5_tellStoves 20 = .ok (.iload_n 1, 1) := by decide +kernel
theorem dX5_tellStoves_21 : decode cX5_tellStoves 21 = .ok (.iadd, 1) := by decide +kernel
theorem dX5_tellStoves_22 : decode cX5_tellStoves 22 = .ok (.iaload, 1) := by decide +kernel
theorem dX5_tellStoves_23 : decode cX5_tellStoves 23 = .ok (.invokevirtual 215, 3) := by decide +kernel
theorem dX5_tellStoves_26 : decode cX5_tellStoves 26 = .ok (.aload_n 0, 1) := by decide +kernel
theorem dX5_tellStoves_27 : decode cX5_tellStoves 27 = .ok (.iload_n 1, 1) := by decide +kernel
theorem dX5_tellStoves_28 : decode cX5_tellStoves 28 = .ok (.invokevirtual 101, 3) := by decide +kernel
theorem dX5_tellStoves_31 : decode cX5_tellStoves 31 = .ok (.ifCond .ge 6, 3) := by decide +kernel
theorem dX5_tellStoves_34 : decode cX5_tellStoves 34 = .ok (.goto 24, 3) := by decide +kernel
theorem dX5_tellStoves_37 : decode cX5_tellStoves 37 = .ok (.aload_n 0, 1) := by decide +kernel
theorem dX5_tellStoves_38 : decode cX5_tellStoves 38 = .ok (.bipush 40, 2) := by decide +kernel
theorem dX5_tellStoves_40 : decode cX5_tellStoves 40 = .ok (.invokevirtual 218, 3) := by decide +kernel
theorem dX5_tellStoves_43 : decode cX5_tellStoves 43 = .ok (.aload_n 0, 1) := by decide +kernel
theorem dX5_tellStoves_44 : decode cX5_tellStoves 44 = .ok (.aload_n 0, 1) := by decide +kernel
theorem dX5_tellStoves_45 : decode cX5_tellStoves 45 = .ok (.iload_n 1, 1) := by decide +kernel
theorem dX5_tellStoves_46 : decode cX5_tellStoves 46 = .ok (.invokevirtual 101, 3) := by decide +kernel
theorem dX5_tellStoves_49 : decode cX5_tellStoves 49 = .ok (.invokevirtual 215, 3) := by decide +kernel
theorem dX5_tellStoves_52 : decode cX5_tellStoves 52 = .ok (.aload_n 0, 1) := by decide +kernel
theorem dX5_tellStoves_53 : decode cX5_tellStoves 53 = .ok (.bipush 41, 2) := by decide +kernel
theorem dX5_tellStoves_55 : decode cX5_tellStoves 55 = .ok (.invokevirtual 218, 3) := by decide +kernel
theorem dX5_tellStoves_58 : decode cX5_tellStoves 58 = .ok (.iinc 1 1, 3) := by decide +kernel
theorem dX5_tellStoves_61 : decode cX5_tellStoves 61 = .ok (.goto (-54), 3) := by decide +kernel
theorem dX5_tellStoves_64 : decode cX5_tellStoves 64 = .ok (.aload_n 0, 1) := by decide +kernel
theorem dX5_tellStoves_65 : decode cX5_tellStoves 65 = .ok (.getfield 212, 3) := by decide +kernel
theorem dX5_tellStoves_68 : decode cX5_tellStoves 68 = .ok (.ireturn, 1) := by decide +kernel
theorem dX5_character_0 : decode cX5_character 0 = .ok (.iload_n 1, 1) := by decide +kernel
theorem dX5_character_1 : decode cX5_character 1 = .ok (.iconst 0, 1) := by decide +kernel
theorem dX5_character_2 : decode cX5_character 2 = .ok (.aload_n 0, 1) := by decide +kernel
theorem dX5_character_3 : decode cX5_character 3 = .ok (.getfield 212, 3) := by decide +kernel
theorem dX5_character_6 : decode cX5_character 6 = .ok (.iconst 1, 1) := by decide +kernel
theorem dX5_character_7 : decode cX5_character 7 = .ok (.isub, 1) := by decide +kernel
theorem dX5_character_8 : decode cX5_character 8 = .ok (.invokestatic 40, 3) := by decide +kernel
theorem dX5_character_11 : decode cX5_character 11 = .ok (.ifCond .eq 12, 3) := by decide +kernel
theorem dX5_character_14 : decode cX5_character 14 = .ok (.aload_n 0, 1) := by decide +kernel
theorem dX5_character_15 : decode cX5_character 15 = .ok (.getfield 26, 3) := by decide +kernel
theorem dX5_character_18 : decode cX5_character 18 = .ok (.iload_n 1, 1) := by decide +kernel
theorem dX5_character_19 : decode cX5_character 19 = .ok (.caload, 1) := by decide +kernel
theorem dX5_character_20 : decode cX5_character 20 = .ok (.goto 6, 3) := by decide +kernel
theorem dX5_character_23 : decode cX5_character 23 = .ok (.sipush (-1011), 3) := by decide +kernel
theorem dX5_character_26 : decode cX5_character 26 = .ok (.ireturn, 1) := by decide +kernel
theorem dX5_ofKettles_0 : decode cX5_ofKettles 0 = .ok (.iconst 0, 1) := by decide +kernel
theorem dX5_ofKettles_1 : decode cX5_ofKettles 1 = .ok (.istore_n 2, 1) := by decide +kernel
theorem dX5_ofKettles_2 : decode cX5_ofKettles 2 = .ok (.iconst 0, 1) := by decide +kernel
theorem dX5_ofKettles_3 : decode cX5_ofKettles 3 = .ok (.istore_n 3, 1) := by decide +kernel
theorem dX5_ofKettles_4 : decode cX5_ofKettles 4 = .ok (.iload_n 3, 1) := by decide +kernel
theorem dX5_ofKettles_5 : decode cX5_ofKettles 5 = .ok (.aload_n 0, 1) := by decide +kernel
theorem dX5_ofKettles_6 : decode cX5_ofKettles 6 = .ok (.getfield 9, 3) := by decide +kernel
theorem dX5_ofKettles_9 : decode cX5_ofKettles 9 = .ok (.iconst 1, 1) := by decide +kernel
theorem dX5_ofKettles_10 : decode cX5_ofKettles 10 = .ok (.iaload, 1) := by decide +kernel
theorem dX5_ofKettles_11 : decode cX5_ofKettles 11 = .ok (.if_icmp .ge 48, 3) := by decide +kernel
theorem dX5_ofKettles_14 : decode cX5_ofKettles 14 = .ok (.iload_n 2, 1) := by decide +kernel
theorem dX5_ofKettles_15 : decode cX5_ofKettles 15 = .ok (.iload_n 1, 1) := by decide +kernel
theorem dX5_ofKettles_16 : decode cX5_ofKettles 16 = .ok (.ifCond .ne 19, 3) := by decide +kernel
theorem dX5_ofKettles_19 : decode cX5_ofKettles 19 = .ok (.aload_n 0, 1) := by decide +kernel
theorem dX5_ofKettles_20 : decode cX5_ofKettles 20 = .ok (.iload_n 3, 1) := by decide +kernel
theorem dX5_ofKettles_21 : decode cX5_ofKettles 21 = .ok (.invokevirtual 59, 3) := by decide +kernel
theorem dX5_ofKettles_24 : decode cX5_ofKettles 24 = .ok (.ifCond .eq 7, 3) := by decide +kernel
theorem dX5_ofKettles_27 : decode cX5_ofKettles 27 = .ok (.iconst 1, 1) := by decide +kernel
theorem dX5_ofKettles_28 : decode cX5_ofKettles 28 = .ok (.goto 23, 3) := by decide +kernel
theorem dX5_ofKettles_31 : decode cX5_ofKettles 31 = .ok (.iconst 0, 1) := by decide +kernel
theorem dX5_ofKettles_32 : decode cX5_ofKettles 32 = .ok (.goto 19, 3) := by decide +kernel
theorem dX5_ofKettles_35 : decode cX5_ofKettles 35 = .ok (.aload_n 0, 1) := by decide +kernel
theorem dX5_ofKettles_36 : decode cX5_ofKettles 36 = .ok (.iload_n 3, 1) := by decide +kernel
theorem dX5_ofKettles_37 : decode cX5_ofKettles 37 = .ok (.iload_n 1, 1) := by decide +kernel
theorem dX5_ofKettles_38 : decode cX5_ofKettles 38 = .ok (.iconst 1, 1) := by decide +kernel
theorem dX5_ofKettles_39 : decode cX5_ofKettles 39 = .ok (.if_icmp .ne 8, 3) := by decide +kernel
theorem dX5_ofKettles_42 : decode cX5_ofKettles 42 = .ok (.bipush 7, 2) := by decide +kernel
theorem dX5_ofKettles_44 : decode cX5_ofKettles 44 = .ok (.goto 4, 3) := by decide +kernel
theorem dX5_ofKettles_47 : decode cX5_ofKettles 47 = .ok (.iconst 2, 1) := by decide +kernel
theorem dX5_ofKettles_48 : decode cX5_ofKettles 48 = .ok (.invokevirtual 48, 3) := by decide +kernel
theorem dX5_ofKettles_51 : decode cX5_ofKettles 51 = .ok (.iadd, 1) := by decide +kernel
theorem dX5_ofKettles_52 : decode cX5_ofKettles 52 = .ok (.istore_n 2, 1) := by decide +kernel
theorem dX5_ofKettles_53 : decode cX5_ofKettles 53 = .ok (.iinc 3 1, 3) := by decide +kernel
theorem dX5_ofKettles_56 : decode cX5_ofKettles 56 = .ok (.goto (-52), 3) := by decide +kernel
theorem dX5_ofKettles_59 : decode cX5_ofKettles 59 = .ok (.iload_n 2, 1) := by decide +kernel
theorem dX5_ofKettles_60 : decode cX5_ofKettles 60 = .ok (.ireturn, 1) := by decide +kernel
theorem dX5_allPoints_0 : decode cX5_allPoints 0 = .ok (.iconst 0, 1) := by decide +kernel
theorem dX5_allPoints_1 : decode cX5_allPoints 1 = .ok (.istore_n 1, 1) := by decide +kernel
theorem dX5_allPoints_2 : decode cX5_allPoints 2 = .ok (.iconst 0, 1) := by decide +kernel
theorem dX5_allPoints_3 : decode cX5_allPoints 3 = .ok (.istore_n 2, 1) := by decide +kernel
theorem dX5_allPoints_4 : decode cX5_allPoints 4 = .ok (.iload_n 2, 1) := by decide +kernel
theorem dX5_allPoints_5 : decode cX5_allPoints 5 = .ok (.iconst 4, 1) := by decide +kernel
theorem dX5_allPoints_6 : decode cX5_allPoints 6 = .ok (.if_icmp .ge 18, 3) := by decide +kernel
theorem dX5_allPoints_9 : decode cX5_allPoints 9 = .ok (.iload_n 1, 1) := by decide +kernel
theorem dX5_allPoints_10 : decode cX5_allPoints 10 = .ok (.aload_n 0, 1) := by decide +kernel
theorem dX5_allPoints_11 : decode cX5_allPoints 11 = .ok (.iload_n 2, 1) := by decide +kernel
theorem dX5_allPoints_12 : decode cX5_allPoints 12 = .ok (.iconst 0, 1) := by decide +kernel
theorem dX5_allPoints_13 : decode cX5_allPoints 13 = .ok (.invokevirtual 165, 3) := by decide +kernel
theorem dX5_allPoints_16 : decode cX5_allPoints 16 = .ok (.iadd, 1) := by decide +kernel
theorem dX5_allPoints_17 : decode cX5_allPoints 17 = .ok (.istore_n 1, 1) := by decide +kernel
theorem dX5_allPoints_18 : decode cX5_allPoints 18 = .ok (.iinc 2 1, 3) := by decide +kernel
theorem dX5_allPoints_21 : decode cX5_allPoints 21 = .ok (.goto (-17), 3) := by decide +kernel
theorem dX5_allPoints_24 : decode cX5_allPoints 24 = .ok (.iload_n 1, 1) := by decide +kernel
theorem dX5_allPoints_25 : decode cX5_allPoints 25 = .ok (.ireturn, 1) := by decide +kernel
theorem dX5_account_0 : decode cX5_account 0 = .ok (.iload_n 1, 1) := by decide +kernel
theorem dX5_account_1 : decode cX5_account 1 = .ok (.tableswitch 133 0 12 #[67, 74, 79, 85, 90, 96, 103, 109, 109, 109, 118, 123, 128], 67) := by decide +kernel
theorem dX5_account_68 : decode cX5_account 68 = .ok (.aload_n 0, 1) := by decide +kernel
theorem dX5_account_69 : decode cX5_account 69 = .ok (.getfield 9, 3) := by decide +kernel
theorem dX5_account_72 : decode cX5_account 72 = .ok (.iconst 1, 1) := by decide +kernel
theorem dX5_account_73 : decode cX5_account 73 = .ok (.iaload, 1) := by decide +kernel
theorem dX5_account_74 : decode cX5_account 74 = .ok (.ireturn, 1) := by decide +kernel
theorem dX5_account_75 : decode cX5_account 75 = .ok (.aload_n 0, 1) := by decide +kernel
theorem dX5_account_76 : decode cX5_account 76 = .ok (.invokevirtual 110, 3) := by decide +kernel
theorem dX5_account_79 : decode cX5_account 79 = .ok (.ireturn, 1) := by decide +kernel
theorem dX5_account_80 : decode cX5_account 80 = .ok (.aload_n 0, 1) := by decide +kernel
theorem dX5_account_81 : decode cX5_account 81 = .ok (.iconst 0, 1) := by decide +kernel
theorem dX5_account_82 : decode cX5_account 82 = .ok (.invokevirtual 221, 3) := by decide +kernel
theorem dX5_account_85 : decode cX5_account 85 = .ok (.ireturn, 1) := by decide +kernel
theorem dX5_account_86 : decode cX5_account 86 = .ok (.aload_n 0, 1) := by decide +kernel
theorem dX5_account_87 : decode cX5_account 87 = .ok (.invokevirtual 123, 3) := by decide +kernel
theorem dX5_account_90 : decode cX5_account 90 = .ok (.ireturn, 1) := by decide +kernel
theorem dX5_account_91 : decode cX5_account 91 = .ok (.aload_n 0, 1) := by decide +kernel
theorem dX5_account_92 : decode cX5_account 92 = .ok (.iconst 1, 1) := by decide +kernel
theorem dX5_account_93 : decode cX5_account 93 = .ok (.invokevirtual 221, 3) := by decide +kernel
theorem dX5_account_96 : decode cX5_account 96 = .ok (.ireturn, 1) := by decide +kernel
theorem dX5_account_97 : decode cX5_account 97 = .ok (.aload_n 0, 1) := by decide +kernel
theorem dX5_account_98 : decode cX5_account 98 = .ok (.getfield 9, 3) := by decide +kernel
theorem dX5_account_101 : decode cX5_account 101 = .ok (.iconst 0, 1) := by decide +kernel
theorem dX5_account_102 : decode cX5_account 102 = .ok (.iaload, 1) := by decide +kernel
theorem dX5_account_103 : decode cX5_account 103 = .ok (.ireturn, 1) := by decide +kernel
theorem dX5_account_104 : decode cX5_account 104 = .ok (.aload_n 0, 1) := by decide +kernel
theorem dX5_account_105 : decode cX5_account 105 = .ok (.iconst 2, 1) := by decide +kernel
theorem dX5_account_106 : decode cX5_account 106 = .ok (.invokevirtual 221, 3) := by decide +kernel
theorem dX5_account_109 : decode cX5_account 109 = .ok (.ireturn, 1) := by decide +kernel
theorem dX5_account_110 : decode cX5_account 110 = .ok (.aload_n 0, 1) := by decide +kernel
theorem dX5_account_111 : decode cX5_account 111 = .ok (.getfield 9, 3) := by decide +kernel
theorem dX5_account_114 : decode cX5_account 114 = .ok (.iload_n 1, 1) := by decide +kernel
theorem dX5_account_115 : decode cX5_account 115 = .ok (.iconst 5, 1) := by decide +kernel
theorem dX5_account_116 : decode cX5_account 116 = .ok (.isub, 1) := by decide +kernel
theorem dX5_account_117 : decode cX5_account 117 = .ok (.iaload, 1) := by decide +kernel
theorem dX5_account_118 : decode cX5_account 118 = .ok (.ireturn, 1) := by decide +kernel
theorem dX5_account_119 : decode cX5_account 119 = .ok (.aload_n 0, 1) := by decide +kernel
theorem dX5_account_120 : decode cX5_account 120 = .ok (.invokevirtual 224, 3) := by decide +kernel
theorem dX5_account_123 : decode cX5_account 123 = .ok (.ireturn, 1) := by decide +kernel
theorem dX5_account_124 : decode cX5_account 124 = .ok (.aload_n 0, 1) := by decide +kernel
theorem dX5_account_125 : decode cX5_account 125 = .ok (.getfield 172, 3) := by decide +kernel
theorem dX5_account_128 : decode cX5_account 128 = .ok (.ireturn, 1) := by decide +kernel
theorem dX5_account_129 : decode cX5_account 129 = .ok (.aload_n 0, 1) := by decide +kernel
theorem dX5_account_130 : decode cX5_account 130 = .ok (.getfield 33, 3) := by decide +kernel
theorem dX5_account_133 : decode cX5_account 133 = .ok (.ireturn, 1) := by decide +kernel
theorem dX5_account_134 : decode cX5_account 134 = .ok (.sipush (-1012), 3) := by decide +kernel
theorem dX5_account_137 : decode cX5_account 137 = .ok (.ireturn, 1) := by decide +kernel
theorem dX5_isBalanced_0 : decode cX5_isBalanced 0 = .ok (.iconst 1, 1) := by decide +kernel
theorem dX5_isBalanced_1 : decode cX5_isBalanced 1 = .ok (.ireturn, 1) := by decide +kernel
theorem dX5_meanWater_0 : decode cX5_meanWater 0 = .ok (.aload_n 0, 1) := by decide +kernel
theorem dX5_meanWater_1 : decode cX5_meanWater 1 = .ok (.getfield 9, 3) := by decide +kernel
theorem dX5_meanWater_4 : decode cX5_meanWater 4 = .ok (.iconst 1, 1) := by decide +kernel
theorem dX5_meanWater_5 : decode cX5_meanWater 5 = .ok (.iaload, 1) := by decide +kernel
theorem dX5_meanWater_6 : decode cX5_meanWater 6 = .ok (.ifCond .ne 7, 3) := by decide +kernel
theorem dX5_meanWater_9 : decode cX5_meanWater 9 = .ok (.dconst 0, 1) := by decide +kernel
theorem dX5_meanWater_10 : decode cX5_meanWater 10 = .ok (.goto 17, 3) := by decide +kernel
theorem dX5_meanWater_13 : decode cX5_meanWater 13 = .ok (.aload_n 0, 1) := by decide +kernel
theorem dX5_meanWater_14 : decode cX5_meanWater 14 = .ok (.iconst 2, 1) := by decide +kernel
theorem dX5_meanWater_15 : decode cX5_meanWater 15 = .ok (.invokevirtual 221, 3) := by decide +kernel
theorem dX5_meanWater_18 : decode cX5_meanWater 18 = .ok (.i2d, 1) := by decide +kernel
theorem dX5_meanWater_19 : decode cX5_meanWater 19 = .ok (.aload_n 0, 1) := by decide +kernel
theorem dX5_meanWater_20 : decode cX5_meanWater 20 = .ok (.getfield 9, 3) := by decide +kernel
theorem dX5_meanWater_23 : decode cX5_meanWater 23 = .ok (.iconst 1, 1) := by decide +kernel
theorem dX5_meanWater_24 : decode cX5_meanWater 24 = .ok (.iaload, 1) := by decide +kernel
theorem dX5_meanWater_25 : decode cX5_meanWater 25 = .ok (.i2d, 1) := by decide +kernel
theorem dX5_meanWater_26 : decode cX5_meanWater 26 = .ok (.ddiv, 1) := by decide +kernel
theorem dX5_meanWater_27 : decode cX5_meanWater 27 = .ok (.dreturn, 1) := by decide +kernel
theorem dX5_whistleShare_0 : decode cX5_whistleShare 0 = .ok (.aload_n 0, 1) := by decide +kernel
theorem dX5_whistleShare_1 : decode cX5_whistleShare 1 = .ok (.invokevirtual 110, 3) := by decide +kernel
theorem dX5_whistleShare_4 : decode cX5_whistleShare 4 = .ok (.ifCond .ne 7, 3) := by decide +kernel
theorem dX5_whistleShare_7 : decode cX5_whistleShare 7 = .ok (.fconst 0, 1) := by decide +kernel
theorem dX5_whistleShare_8 : decode cX5_whistleShare 8 = .ok (.goto 17, 3) := by decide +kernel
theorem dX5_whistleShare_11 : decode cX5_whistleShare 11 = .ok (.aload_n 0, 1) := by decide +kernel
theorem dX5_whistleShare_12 : decode cX5_whistleShare 12 = .ok (.invokevirtual 227, 3) := by decide +kernel
theorem dX5_whistleShare_15 : decode cX5_whistleShare 15 = .ok (.invokestatic 129, 3) := by decide +kernel
theorem dX5_whistleShare_18 : decode cX5_whistleShare 18 = .ok (.i2f, 1) := by decide +kernel
theorem dX5_whistleShare_19 : decode cX5_whistleShare 19 = .ok (.aload_n 0, 1) := by decide +kernel
theorem dX5_whistleShare_20 : decode cX5_whistleShare 20 = .ok (.invokevirtual 110, 3) := by decide +kernel
theorem dX5_whistleShare_23 : decode cX5_whistleShare 23 = .ok (.i2f, 1) := by decide +kernel
theorem dX5_whistleShare_24 : decode cX5_whistleShare 24 = .ok (.fdiv, 1) := by decide +kernel
theorem dX5_whistleShare_25 : decode cX5_whistleShare 25 = .ok (.freturn, 1) := by decide +kernel
theorem dX5_undo_0 : decode cX5_undo 0 = .ok (.aload_n 0, 1) := by decide +kernel
theorem dX5_undo_1 : decode cX5_undo 1 = .ok (.getfield 33, 3) := by decide +kernel
theorem dX5_undo_4 : decode cX5_undo 4 = .ok (.ifCond .ne 7, 3) := by decide +kernel
theorem dX5_undo_7 : decode cX5_undo 7 = .ok (.sipush (-1015), 3) := by decide +kernel
theorem dX5_undo_10 : decode cX5_undo 10 = .ok (.ireturn, 1) := by decide +kernel
theorem dX5_undo_11 : decode cX5_undo 11 = .ok (.aload_n 0, 1) := by decide +kernel
theorem dX5_undo_12 : decode cX5_undo 12 = .ok (.aload_n 0, 1) := by decide +kernel
theorem dX5_undo_13 : decode cX5_undo 13 = .ok (.getfield 33, 3) := by decide +kernel
theorem dX5_undo_16 : decode cX5_undo 16 = .ok (.iconst 0, 1) := by decide +kernel
theorem dX5_undo_17 : decode cX5_undo 17 = .ok (.invokevirtual 29, 3) := by decide +kernel
theorem dX5_undo_20 : decode cX5_undo 20 = .ok (.aload_n 0, 1) := by decide +kernel
theorem dX5_undo_21 : decode cX5_undo 21 = .ok (.dup, 1) := by decide +kernel
theorem dX5_undo_22 : decode cX5_undo 22 = .ok (.getfield 33, 3) := by decide +kernel
theorem dX5_undo_25 : decode cX5_undo 25 = .ok (.iconst 1, 1) := by decide +kernel
theorem dX5_undo_26 : decode cX5_undo 26 = .ok (.isub, 1) := by decide +kernel
theorem dX5_undo_27 : decode cX5_undo 27 = .ok (.putfield 33, 3) := by decide +kernel
theorem dX5_undo_30 : decode cX5_undo 30 = .ok (.aload_n 0, 1) := by decide +kernel
theorem dX5_undo_31 : decode cX5_undo 31 = .ok (.getfield 33, 3) := by decide +kernel
theorem dX5_undo_34 : decode cX5_undo 34 = .ok (.ireturn, 1) := by decide +kernel
theorem dX5_save_0 : decode cX5_save 0 = .ok (.aload_n 0, 1) := by decide +kernel
theorem dX5_save_1 : decode cX5_save 1 = .ok (.iconst 1, 1) := by decide +kernel
theorem dX5_save_2 : decode cX5_save 2 = .ok (.putfield 230, 3) := by decide +kernel
theorem dX5_save_5 : decode cX5_save 5 = .ok (.aload_n 0, 1) := by decide +kernel
theorem dX5_save_6 : decode cX5_save 6 = .ok (.iconst 0, 1) := by decide +kernel
theorem dX5_save_7 : decode cX5_save 7 = .ok (.bipush 9, 2) := by decide +kernel
theorem dX5_save_9 : decode cX5_save 9 = .ok (.invokevirtual 29, 3) := by decide +kernel
theorem dX5_save_12 : decode cX5_save 12 = .ok (.aload_n 0, 1) := by decide +kernel
theorem dX5_save_13 : decode cX5_save 13 = .ok (.getfield 9, 3) := by decide +kernel
theorem dX5_save_16 : decode cX5_save 16 = .ok (.iconst 1, 1) := by decide +kernel
theorem dX5_save_17 : decode cX5_save 17 = .ok (.iaload, 1) := by decide +kernel
theorem dX5_save_18 : decode cX5_save 18 = .ok (.ireturn, 1) := by decide +kernel
theorem dX5_restore_0 : decode cX5_restore 0 = .ok (.aload_n 0, 1) := by decide +kernel
theorem dX5_restore_1 : decode cX5_restore 1 = .ok (.getfield 230, 3) := by decide +kernel
theorem dX5_restore_4 : decode cX5_restore 4 = .ok (.ifCond .ne 7, 3) := by decide +kernel
theorem dX5_restore_7 : decode cX5_restore 7 = .ok (.sipush (-1015), 3) := by decide +kernel
theorem dX5_restore_10 : decode cX5_restore 10 = .ok (.ireturn, 1) := by decide +kernel
theorem dX5_restore_11 : decode cX5_restore 11 = .ok (.aload_n 0, 1) := by decide +kernel
theorem dX5_restore_12 : decode cX5_restore 12 = .ok (.bipush 9, 2) := by decide +kernel
theorem dX5_restore_14 : decode cX5_restore 14 = .ok (.iconst 0, 1) := by decide +kernel
theorem dX5_restore_15 : decode cX5_restore 15 = .ok (.invokevirtual 29, 3) := by decide +kernel
theorem dX5_restore_18 : decode cX5_restore 18 = .ok (.aload_n 0, 1) := by decide +kernel
theorem dX5_restore_19 : decode cX5_restore 19 = .ok (.iconst 0, 1) := by decide +kernel
theorem dX5_restore_20 : decode cX5_restore 20 = .ok (.putfield 33, 3) := by decide +kernel
theorem dX5_restore_23 : decode cX5_restore 23 = .ok (.aload_n 0, 1) := by decide +kernel
theorem dX5_restore_24 : decode cX5_restore 24 = .ok (.getfield 9, 3) := by decide +kernel
theorem dX5_restore_27 : decode cX5_restore 27 = .ok (.iconst 1, 1) := by decide +kernel
theorem dX5_restore_28 : decode cX5_restore 28 = .ok (.iaload, 1) := by decide +kernel
theorem dX5_restore_29 : decode cX5_restore 29 = .ok (.ireturn, 1) := by decide +kernel
