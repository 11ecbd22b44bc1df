theorem dX0_init_0 : decode cX0_init 0 = .ok (.aload_n 0, 1) := by decide +kernel
theorem dX0_init_1 : decode cX0_init 1 = .ok (.invokespecial 1, 3) := by decide +kernel
theorem dX0_init_4 : decode cX0_init 4 = .ok (.aload_n 0, 1) := by decide +kernel
theorem dX0_init_5 : decode cX0_init 5 = .ok (.iload_n 1, 1) := by decide +kernel
theorem dX0_init_6 : decode cX0_init 6 = .ok (.putfield 7, 3) := by decide +kernel
theorem dX0_init_9 : decode cX0_init 9 = .ok (.aload_n 0, 1) := by decide +kernel
theorem dX0_init_10 : decode cX0_init 10 = .ok (.iload_n 2, 1) := by decide +kernel
theorem dX0_init_11 : decode cX0_init 11 = .ok (.putfield 13, 3) := by decide +kernel
theorem dX0_init_14 : decode cX0_init 14 = .ok (.aload_n 0, 1) := by decide +kernel
theorem dX0_init_15 : decode cX0_init 15 = .ok (.aload_n 3, 1) := by decide +kernel
theorem dX0_init_16 : decode cX0_init 16 = .ok (.putfield 17, 3) := by decide +kernel
theorem dX0_init_19 : decode cX0_init 19 = .ok (.return_, 1) := by decide +kernel
theorem dX1_init_0 : decode cX1_init 0 = .ok (.aload_n 0, 1) := by decide +kernel
theorem dX1_init_1 : decode cX1_init 1 = .ok (.invokespecial 3, 3) := by decide +kernel
theorem dX1_init_4 : decode cX1_init 4 = .ok (.aload_n 0, 1) := by decide +kernel
theorem dX1_init_5 : decode cX1_init 5 = .ok (.iload_n 1, 1) := by decide +kernel
theorem dX1_init_6 : decode cX1_init 6 = .ok (.putfield 9, 3) := by decide +kernel
theorem dX1_init_9 : decode cX1_init 9 = .ok (.aload_n 0, 1) := by decide +kernel
theorem dX1_init_10 : decode cX1_init 10 = .ok (.aload_n 2, 1) := by decide +kernel
theorem dX1_init_11 : decode cX1_init 11 = .ok (.putfield 15, 3) := by decide +kernel
theorem dX1_init_14 : decode cX1_init 14 = .ok (.aload_n 0, 1) := by decide +kernel
theorem dX1_init_15 : decode cX1_init 15 = .ok (.aload_n 3, 1) := by decide +kernel
theorem dX1_init_16 : decode cX1_init 16 = .ok (.putfield 19, 3) := by decide +kernel
theorem dX1_init_19 : decode cX1_init 19 = .ok (.aload_n 0, 1) := by decide +kernel
theorem dX1_init_20 : decode cX1_init 20 = .ok (.iload 4, 2) := by decide +kernel
theorem dX1_init_22 : decode cX1_init 22 = .ok (.putfield 22, 3) := by decide +kernel
theorem dX1_init_25 : decode cX1_init 25 = .ok (.aload_n 0, 1) := by decide +kernel
theorem dX1_init_26 : decode cX1_init 26 = .ok (.iload 5, 2) := by decide +kernel
theorem dX1_init_28 : decode cX1_init 28 = .ok (.putfield 25, 3) := by decide +kernel
theorem dX1_init_31 : decode cX1_init 31 = .ok (.aload_n 0, 1) := by decide +kernel
theorem dX1_init_32 : decode cX1_init 32 = .ok (.iload 6, 2) := by decide +kernel
theorem dX1_init_34 : decode cX1_init 34 = .ok (.putfield 28, 3) := by decide +kernel
theorem dX1_init_37 : decode cX1_init 37 = .ok (.aload_n 0, 1) := by decide +kernel
theorem dX1_init_38 : decode cX1_init 38 = .ok (.iload 7, 2) := by decide +kernel
theorem dX1_init_40 : decode cX1_init 40 = .ok (.putfield 31, 3) := by decide +kernel
theorem dX1_init_43 : decode cX1_init 43 = .ok (.return_, 1) := by decide +kernel
theorem dX1_minute_0 : decode cX1_minute 0 = .ok (.iconst 0, 1) := by decide +kernel
theorem dX1_minute_1 : decode cX1_minute 1 = .ok (.aload_n 0, 1) := by decide +kernel
theorem dX1_minute_2 : decode cX1_minute 2 = .ok (.getfield 28, 3) := by decide +kernel
theorem dX1_minute_5 : decode cX1_minute 5 = .ok (.aload_n 0, 1) := by decide +kernel
theorem dX1_minute_6 : decode cX1_minute 6 = .ok (.getfield 15, 3) := by decide +kernel
theorem dX1_minute_9 : decode cX1_minute 9 = .ok (.getfield 34, 3) := by decide +kernel
theorem dX1_minute_12 : decode cX1_minute 12 = .ok (.isub, 1) := by decide +kernel
theorem dX1_minute_13 : decode cX1_minute 13 = .ok (.invokestatic 39, 3) := by decide +kernel
theorem dX1_minute_16 : decode cX1_minute 16 = .ok (.ireturn, 1) := by decide +kernel
theorem dX1_isBefore_0 : decode cX1_isBefore 0 = .ok (.aload_n 0, 1) := by decide +kernel
theorem dX1_isBefore_1 : decode cX1_isBefore 1 = .ok (.invokevirtual 45, 3) := by decide +kernel
theorem dX1_isBefore_4 : decode cX1_isBefore 4 = .ok (.istore_n 2, 1) := by decide +kernel
theorem dX1_isBefore_5 : decode cX1_isBefore 5 = .ok (.aload_n 1, 1) := by decide +kernel
theorem dX1_isBefore_6 : decode cX1_isBefore 6 = .ok (.invokevirtual 45, 3) := by decide +kernel
theorem dX1_isBefore_9 : decode cX1_isBefore 9 = .ok (.istore_n 3, 1) := by decide +kernel
theorem dX1_isBefore_10 : decode cX1_isBefore 10 = .ok (.iload_n 2, 1) := by decide +kernel
theorem dX1_isBefore_11 : decode cX1_isBefore 11 = .ok (.iload_n 3, 1) := by decide +kernel
theorem dX1_isBefore_12 : decode cX1_isBefore 12 = .ok (.if_icmp .lt 19, 3) := by decide +kernel
theorem dX1_isBefore_15 : decode cX1_isBefore 15 = .ok (.iload_n 2, 1) := by decide +kernel
theorem dX1_isBefore_16 : decode cX1_isBefore 16 = .ok (.iload_n 3, 1) := by decide +kernel
theorem dX1_isBefore_17 : decode cX1_isBefore 17 = .ok (.if_icmp .ne 18, 3) := by decide +kernel
theorem dX1_isBefore_20 : decode cX1_isBefore 20 = .ok (.aload_n 0, 1) := by decide +kernel
theorem dX1_isBefore_21 : decode cX1_isBefore 21 = .ok (.getfield 31, 3) := by decide +kernel
theorem dX1_isBefore_24 : decode cX1_isBefore 24 = .ok (.aload_n 1, 1) := by decide +kernel
theorem dX1_isBefore_25 : decode cX1_isBefore 25 = .ok (.getfield 31, 3) := by decide +kernel
theorem dX1_isBefore_28 : decode cX1_isBefore 28 = .ok (.if_icmp .ge 7, 3) := by decide +kernel
theorem dX1_isBefore_31 : decode cX1_isBefore 31 = .ok (.iconst 1, 1) := by decide +kernel
theorem dX1_isBefore_32 : decode cX1_isBefore 32 = .ok (.goto 4, 3) := by decide +kernel
theorem dX1_isBefore_35 : decode cX1_isBefore 35 = .ok (.iconst 0, 1) := by decide +kernel
theorem dX1_isBefore_36 : decode cX1_isBefore 36 = .ok (.ireturn, 1) := by decide +kernel
theorem dX1_linkedAccount_0 : decode cX1_linkedAccount 0 = .ok (.aload_n 0, 1) := by decide +kernel
theorem dX1_linkedAccount_1 : decode cX1_linkedAccount 1 = .ok (.getfield 19, 3) := by decide +kernel
theorem dX1_linkedAccount_4 : decode cX1_linkedAccount 4 = .ok (.ifnull 34, 3) := by decide +kernel
theorem dX1_linkedAccount_7 : decode cX1_linkedAccount 7 = .ok (.aload_n 0, 1) := by decide +kernel
theorem dX1_linkedAccount_8 : decode cX1_linkedAccount 8 = .ok (.getfield 15, 3) := by decide +kernel
theorem dX1_linkedAccount_11 : decode cX1_linkedAccount 11 = .ok (.getfield 49, 3) := by decide +kernel
theorem dX1_linkedAccount_14 : decode cX1_linkedAccount 14 = .ok (.ifCond .ne 24, 3) := by decide +kernel
theorem dX1_linkedAccount_17 : decode cX1_linkedAccount 17 = .ok (.aload_n 0, 1) := by decide +kernel
theorem dX1_linkedAccount_18 : decode cX1_linkedAccount 18 = .ok (.getfield 15, 3) := by decide +kernel
theorem dX1_linkedAccount_21 : decode cX1_linkedAccount 21 = .ok (.aload_n 0, 1) := by decide +kernel
theorem dX1_linkedAccount_22 : decode cX1_linkedAccount 22 = .ok (.getfield 19, 3) := by decide +kernel
theorem dX1_linkedAccount_25 : decode cX1_linkedAccount 25 = .ok (.invokevirtual 53, 3) := by decide +kernel
theorem dX1_linkedAccount_28 : decode cX1_linkedAccount 28 = .ok (.ifCond .eq 10, 3) := by decide +kernel
theorem dX1_linkedAccount_31 : decode cX1_linkedAccount 31 = .ok (.aload_n 0, 1) := by decide +kernel
theorem dX1_linkedAccount_32 : decode cX1_linkedAccount 32 = .ok (.getfield 19, 3) := by decide +kernel
theorem dX1_linkedAccount_35 : decode cX1_linkedAccount 35 = .ok (.goto 4, 3) := by decide +kernel
theorem dX1_linkedAccount_38 : decode cX1_linkedAccount 38 = .ok (.aconst_null, 1) := by decide +kernel
theorem dX1_linkedAccount_39 : decode cX1_linkedAccount 39 = .ok (.areturn, 1) := by decide +kernel
theorem dX1_owner_0 : decode cX1_owner 0 = .ok (.aload_n 0, 1) := by decide +kernel
theorem dX1_owner_1 : decode cX1_owner 1 = .ok (.getfield 15, 3) := by decide +kernel
theorem dX1_owner_4 : decode cX1_owner 4 = .ok (.getfield 49, 3) := by decide +kernel
theorem dX1_owner_7 : decode cX1_owner 7 = .ok (.ifCond .eq 17, 3) := by decide +kernel
theorem dX1_owner_10 : decode cX1_owner 10 = .ok (.aload_n 0, 1) := by decide +kernel
theorem dX1_owner_11 : decode cX1_owner 11 = .ok (.getfield 19, 3) := by decide +kernel
theorem dX1_owner_14 : decode cX1_owner 14 = .ok (.ifnull 10, 3) := by decide +kernel
theorem dX1_owner_17 : decode cX1_owner 17 = .ok (.aload_n 0, 1) := by decide +kernel
theorem dX1_owner_18 : decode cX1_owner 18 = .ok (.getfield 19, 3) := by decide +kernel
theorem dX1_owner_21 : decode cX1_owner 21 = .ok (.goto 7, 3) := by decide +kernel
theorem dX1_owner_24 : decode cX1_owner 24 = .ok (.aload_n 0, 1) := by decide +kernel
theorem dX1_owner_25 : decode cX1_owner 25 = .ok (.getfield 15, 3) := by decide +kernel
theorem dX1_owner_28 : decode cX1_owner 28 = .ok (.areturn, 1) := by decide +kernel
theorem dX1_isOf_0 : decode cX1_isOf 0 = .ok (.aload_n 0, 1) := by decide +kernel
theorem dX1_isOf_1 : decode cX1_isOf 1 = .ok (.invokevirtual 57, 3) := by decide +kernel
theorem dX1_isOf_4 : decode cX1_isOf 4 = .ok (.invokevirtual 61, 3) := by decide +kernel
theorem dX1_isOf_7 : decode cX1_isOf 7 = .ok (.aload_n 1, 1) := by decide +kernel
theorem dX1_isOf_8 : decode cX1_isOf 8 = .ok (.if_acmp .ne 7, 3) := by decide +kernel
theorem dX1_isOf_11 : decode cX1_isOf 11 = .ok (.iconst 1, 1) := by decide +kernel
theorem dX1_isOf_12 : decode cX1_isOf 12 = .ok (.goto 4, 3) := by decide +kernel
theorem dX1_isOf_15 : decode cX1_isOf 15 = .ok (.iconst 0, 1) := by decide +kernel
theorem dX1_isOf_16 : decode cX1_isOf 16 = .ok (.ireturn, 1) := by decide +kernel
theorem dX1_countsFor_0 : decode cX1_countsFor 0 = .ok (.aload_n 0, 1) := by decide +kernel
theorem dX1_countsFor_1 : decode cX1_countsFor 1 = .ok (.invokevirtual 45, 3) := by decide +kernel
theorem dX1_countsFor_4 : decode cX1_countsFor 4 = .ok (.istore 5, 2) := by decide +kernel
theorem dX1_countsFor_6 : decode cX1_countsFor 6 = .ok (.aload_n 0, 1) := by decide +kernel
theorem dX1_countsFor_7 : decode cX1_countsFor 7 = .ok (.getfield 22, 3) := by decide +kernel
theorem dX1_countsFor_10 : decode cX1_countsFor 10 = .ok (.iload_n 2, 1) := by decide +kernel
theorem dX1_countsFor_11 : decode cX1_countsFor 11 = .ok (.if_icmp .ne 53, 3) := by decide +kernel
theorem dX1_countsFor_14 : decode cX1_countsFor 14 = .ok (.iload 5, 2) := by decide +kernel
theorem dX1_countsFor_16 : decode cX1_countsFor 16 = .ok (.iload_n 3, 1) := by decide +kernel
theorem dX1_countsFor_17 : decode cX1_countsFor 17 = .ok (.if_icmp .gt 47, 3) := by decide +kernel
theorem dX1_countsFor_20 : decode cX1_countsFor 20 = .ok (.iload 5, 2) := by decide +kernel
theorem dX1_countsFor_22 : decode cX1_countsFor 22 = .ok (.iload_n 3, 1) := by decide +kernel
theorem dX1_countsFor_23 : decode cX1_countsFor 23 = .ok (.iload 4, 2) := by decide +kernel
theorem dX1_countsFor_25 : decode cX1_countsFor 25 = .ok (.sipush 1440, 3) := by decide +kernel
theorem dX1_countsFor_28 : decode cX1_countsFor 28 = .ok (.imul, 1) := by decide +kernel
theorem dX1_countsFor_29 : decode cX1_countsFor 29 = .ok (.isub, 1) := by decide +kernel
theorem dX1_countsFor_30 : decode cX1_countsFor 30 = .ok (.if_icmp .le 34, 3) := by decide +kernel
theorem dX1_countsFor_33 : decode cX1_countsFor 33 = .ok (.aload_n 0, 1) := by decide +kernel
theorem dX1_countsFor_34 : decode cX1_countsFor 34 = .ok (.getfield 19, 3) := by decide +kernel
theorem dX1_countsFor_37 : decode cX1_countsFor 37 = .ok (.ifnonnull 10, 3) := by decide +kernel
theorem dX1_countsFor_40 : decode cX1_countsFor 40 = .ok (.aload_n 0, 1) := by decide +kernel
theorem dX1_countsFor_41 : decode cX1_countsFor 41 = .ok (.getfield 15, 3) := by decide +kernel
theorem dX1_countsFor_44 : decode cX1_countsFor 44 = .ok (.goto 7, 3) := by decide +kernel
theorem dX1_countsFor_47 : decode cX1_countsFor 47 = .ok (.aload_n 0, 1) := by decide +kernel
theorem dX1_countsFor_48 : decode cX1_countsFor 48 = .ok (.getfield 19, 3) := by decide +kernel
theorem dX1_countsFor_51 : decode cX1_countsFor 51 = .ok (.iload_n 1, 1) := by decide +kernel
theorem dX1_countsFor_52 : decode cX1_countsFor 52 = .ok (.iload 5, 2) := by decide +kernel
theorem dX1_countsFor_54 : decode cX1_countsFor 54 = .ok (.invokevirtual 64, 3) := by decide +kernel
theorem dX1_countsFor_57 : decode cX1_countsFor 57 = .ok (.ifCond .eq 7, 3) := by decide +kernel
theorem dX1_countsFor_60 : decode cX1_countsFor 60 = .ok (.iconst 1, 1) := by decide +kernel
theorem dX1_countsFor_61 : decode cX1_countsFor 61 = .ok (.goto 4, 3) := by decide +kernel
theorem dX1_countsFor_64 : decode cX1_countsFor 64 = .ok (.iconst 0, 1) := by decide +kernel
theorem dX1_countsFor_65 : decode cX1_countsFor 65 = .ok (.ireturn, 1) := by decide +kernel
theorem dX2_init_0 : decode cX2_init 0 = .ok (.aload_n 0, 1) := by decide +kernel
theorem dX2_init_1 : decode cX2_init 1 = .ok (.invokespecial 1, 3) := by decide +kernel
theorem dX2_init_4 : decode cX2_init 4 = .ok (.return_, 1) := by decide +kernel
theorem dX2_put_0 : decode cX2_put 0 = .ok (.aload_n 0, 1) := by decide +kernel
theorem dX2_put_1 : decode cX2_put 1 = .ok (.getfield 7, 3) := by decide +kernel
theorem dX2_put_4 : decode cX2_put 4 = .ok (.ifnull 21, 3) := by decide +kernel
theorem dX2_put_7 : decode cX2_put 7 = .ok (.aload_n 0, 1) := by decide +kernel
theorem dX2_put_8 : decode cX2_put 8 = .ok (.getfield 7, 3) := by decide +kernel
theorem dX2_put_11 : decode cX2_put 11 = .ok (.aload_n 1, 1) := by decide +kernel
theorem dX2_put_12 : decode cX2_put 12 = .ok (.invokevirtual 13, 3) := by decide +kernel
theorem dX2_put_15 : decode cX2_put 15 = .ok (.ifCond .eq 10, 3) := by decide +kernel
theorem dX2_put_18 : decode cX2_put 18 = .ok (.aload_n 0, 1) := by decide +kernel
theorem dX2_put_19 : decode cX2_put 19 = .ok (.getfield 7, 3) := by decide +kernel
theorem dX2_put_22 : decode cX2_put 22 = .ok (.goto 4, 3) := by decide +kernel
theorem dX2_put_25 : decode cX2_put 25 = .ok (.aconst_null, 1) := by decide +kernel
theorem dX2_put_26 : decode cX2_put 26 = .ok (.astore_n 2, 1) := by decide +kernel
theorem dX2_put_27 : decode cX2_put 27 = .ok (.aload_n 2, 1) := by decide +kernel
theorem dX2_put_28 : decode cX2_put 28 = .ok (.ifnonnull 10, 3) := by decide +kernel
theorem dX2_put_31 : decode cX2_put 31 = .ok (.aload_n 0, 1) := by decide +kernel
theorem dX2_put_32 : decode cX2_put 32 = .ok (.getfield 19, 3) := by decide +kernel
theorem dX2_put_35 : decode cX2_put 35 = .ok (.goto 4, 3) := by decide +kernel
theorem dX2_put_38 : decode cX2_put 38 = .ok (.aconst_null, 1) := by decide +kernel
theorem dX2_put_39 : decode cX2_put 39 = .ok (.astore_n 3, 1) := by decide +kernel
theorem dX2_put_40 : decode cX2_put 40 = .ok (.aload_n 3, 1) := by decide +kernel
theorem dX2_put_41 : decode cX2_put 41 = .ok (.ifnull 21, 3) := by decide +kernel
theorem dX2_put_44 : decode cX2_put 44 = .ok (.aload_n 3, 1) := by decide +kernel
theorem dX2_put_45 : decode cX2_put 45 = .ok (.aload_n 1, 1) := by decide +kernel
theorem dX2_put_46 : decode cX2_put 46 = .ok (.invokevirtual 13, 3) := by decide +kernel
theorem dX2_put_49 : decode cX2_put 49 = .ok (.ifCond .eq 13, 3) := by decide +kernel
theorem dX2_put_52 : decode cX2_put 52 = .ok (.aload_n 3, 1) := by decide +kernel
theorem dX2_put_53 : decode cX2_put 53 = .ok (.astore_n 2, 1) := by decide +kernel
theorem dX2_put_54 : decode cX2_put 54 = .ok (.aload_n 3, 1) := by decide +kernel
theorem dX2_put_55 : decode cX2_put 55 = .ok (.getfield 22, 3) := by decide +kernel
theorem dX2_put_58 : decode cX2_put 58 = .ok (.astore_n 3, 1) := by decide +kernel
theorem dX2_put_59 : decode cX2_put 59 = .ok (.goto (-19), 3) := by decide +kernel
theorem dX2_put_62 : decode cX2_put 62 = .ok (.aload_n 1, 1) := by decide +kernel
theorem dX2_put_63 : decode cX2_put 63 = .ok (.aload_n 3, 1) := by decide +kernel
theorem dX2_put_64 : decode cX2_put 64 = .ok (.putfield 22, 3) := by decide +kernel
theorem dX2_put_67 : decode cX2_put 67 = .ok (.aload_n 2, 1) := by decide +kernel
theorem dX2_put_68 : decode cX2_put 68 = .ok (.ifnonnull 11, 3) := by decide +kernel
theorem dX2_put_71 : decode cX2_put 71 = .ok (.aload_n 0, 1) := by decide +kernel
theorem dX2_put_72 : decode cX2_put 72 = .ok (.aload_n 1, 1) := by decide +kernel
theorem dX2_put_73 : decode cX2_put 73 = .ok (.putfield 19, 3) := by decide +kernel
theorem dX2_put_76 : decode cX2_put 76 = .ok (.goto 8, 3) := by decide +kernel
theorem dX2_put_79 : decode cX2_put 79 = .ok (.aload_n 2, 1) := by decide +kernel
theorem dX2_put_80 : decode cX2_put 80 = .ok (.aload_n 1, 1) := by decide +kernel
theorem dX2_put_81 : decode cX2_put 81 = .ok (.putfield 22, 3) := by decide +kernel
theorem dX2_put_84 : decode cX2_put 84 = .ok (.aload_n 3, 1) := by decide +kernel
theorem dX2_put_85 : decode cX2_put 85 = .ok (.ifnonnull 8, 3) := by decide +kernel
theorem dX2_put_88 : decode cX2_put 88 = .ok (.aload_n 0, 1) := by decide +kernel
theorem dX2_put_89 : decode cX2_put 89 = .ok (.aload_n 1, 1) := by decide +kernel
theorem dX2_put_90 : decode cX2_put 90 = .ok (.putfield 7, 3) := by decide +kernel
theorem dX2_put_93 : decode cX2_put 93 = .ok (.return_, 1) := by decide +kernel
theorem dX2_putEach_0 : decode cX2_putEach 0 = .ok (.aload_n 1, 1) := by decide +kernel
theorem dX2_putEach_1 : decode cX2_putEach 1 = .ok (.astore_n 2, 1) := by decide +kernel
theorem dX2_putEach_2 : decode cX2_putEach 2 = .ok (.aload_n 2, 1) := by decide +kernel
theorem dX2_putEach_3 : decode cX2_putEach 3 = .ok (.ifnull 18, 3) := by decide +kernel
theorem dX2_putEach_6 : decode cX2_putEach 6 = .ok (.aload_n 2, 1) := by decide +kernel
theorem dX2_putEach_7 : decode cX2_putEach 7 = .ok (.getfield 22, 3) := by decide +kernel
theorem dX2_putEach_10 : decode cX2_putEach 10 = .ok (.astore_n 3, 1) := by decide +kernel
theorem dX2_putEach_11 : decode cX2_putEach 11 = .ok (.aload_n 0, 1) := by decide +kernel
theorem dX2_putEach_12 : decode cX2_putEach 12 = .ok (.aload_n 2, 1) := by decide +kernel
theorem dX2_putEach_13 : decode cX2_putEach 13 = .ok (.invokevirtual 25, 3) := by decide +kernel
theorem dX2_putEach_16 : decode cX2_putEach 16 = .ok (.aload_n 3, 1) := by decide +kernel
theorem dX2_putEach_17 : decode cX2_putEach 17 = .ok (.astore_n 2, 1) := by decide +kernel
theorem dX2_putEach_18 : decode cX2_putEach 18 = .ok (.goto (-16), 3) := by decide +kernel
theorem dX2_putEach_21 : decode cX2_putEach 21 = .ok (.return_, 1) := by decide +kernel
theorem dX2_takeMarked_0 : decode cX2_takeMarked 0 = .ok (.aload_n 0, 1) := by decide +kernel
theorem dX2_takeMarked_1 : decode cX2_takeMarked 1 = .ok (.getfield 19, 3) := by decide +kernel
theorem dX2_takeMarked_4 : decode cX2_takeMarked 4 = .ok (.astore_n 1, 1) := by decide +kernel
theorem dX2_takeMarked_5 : decode cX2_takeMarked 5 = .ok (.aconst_null, 1) := by decide +kernel
theorem dX2_takeMarked_6 : decode cX2_takeMarked 6 = .ok (.astore_n 2, 1) := by decide +kernel
theorem dX2_takeMarked_7 : decode cX2_takeMarked 7 = .ok (.aconst_null, 1) := by decide +kernel
theorem dX2_takeMarked_8 : decode cX2_takeMarked 8 = .ok (.astore_n 3, 1) := by decide +kernel
theorem dX2_takeMarked_9 : decode cX2_takeMarked 9 = .ok (.aload_n 0, 1) := by decide +kernel
theorem dX2_takeMarked_10 : decode cX2_takeMarked 10 = .ok (.aconst_null, 1) := by decide +kernel
theorem dX2_takeMarked_11 : decode cX2_takeMarked 11 = .ok (.putfield 19, 3) := by decide +kernel
theorem dX2_takeMarked_14 : decode cX2_takeMarked 14 = .ok (.aload_n 0, 1) := by decide +kernel
theorem dX2_takeMarked_15 : decode cX2_takeMarked 15 = .ok (.aconst_null, 1) := by decide +kernel
theorem dX2_takeMarked_16 : decode cX2_takeMarked 16 = .ok (.putfield 7, 3) := by decide +kernel
theorem dX2_takeMarked_19 : decode cX2_takeMarked 19 = .ok (.aload_n 1, 1) := by decide +kernel
theorem dX2_takeMarked_20 : decode cX2_takeMarked 20 = .ok (.ifnull 74, 3) := by decide +kernel
theorem dX2_takeMarked_23 : decode cX2_takeMarked 23 = .ok (.aload_n 1, 1) := by decide +kernel
theorem dX2_takeMarked_24 : decode cX2_takeMarked 24 = .ok (.getfield 22, 3) := by decide +kernel
theorem dX2_takeMarked_27 : decode cX2_takeMarked 27 = .ok (.astore 4, 2) := by decide +kernel
theorem dX2_takeMarked_29 : decode cX2_takeMarked 29 = .ok (.aload_n 1, 1) := by decide +kernel
theorem dX2_takeMarked_30 : decode cX2_takeMarked 30 = .ok (.aconst_null, 1) := by decide +kernel
theorem dX2_takeMarked_31 : decode cX2_takeMarked 31 = .ok (.putfield 22, 3) := by decide +kernel
theorem dX2_takeMarked_34 : decode cX2_takeMarked 34 = .ok (.aload_n 1, 1) := by decide +kernel
theorem dX2_takeMarked_35 : decode cX2_takeMarked 35 = .ok (.getfield 29, 3) := by decide +kernel
theorem dX2_takeMarked_38 : decode cX2_takeMarked 38 = .ok (.ifCond .ne 34, 3) := by decide +kernel
theorem dX2_takeMarked_41 : decode cX2_takeMarked 41 = .ok (.aload_n 0, 1) := by decide +kernel
theorem dX2_takeMarked_42 : decode cX2_takeMarked 42 = .ok (.getfield 7, 3) := by decide +kernel
theorem dX2_takeMarked_45 : decode cX2_takeMarked 45 = .ok (.ifnonnull 11, 3) := by decide +kernel
theorem dX2_takeMarked_48 : decode cX2_takeMarked 48 = .ok (.aload_n 0, 1) := by decide +kernel
theorem dX2_takeMarked_49 : decode cX2_takeMarked 49 = .ok (.aload_n 1, 1) := by decide +kernel
theorem dX2_takeMarked_50 : decode cX2_takeMarked 50 = .ok (.putfield 19, 3) := by decide +kernel
theorem dX2_takeMarked_53 : decode cX2_takeMarked 53 = .ok (.goto 11, 3) := by decide +kernel
theorem dX2_takeMarked_56 : decode cX2_takeMarked 56 = .ok (.aload_n 0, 1) := by decide +kernel
theorem dX2_takeMarked_57 : decode cX2_takeMarked 57 = .ok (.getfield 7, 3) := by decide +kernel
theorem dX2_takeMarked_60 : decode cX2_takeMarked 60 = .ok (.aload_n 1, 1) := by decide +kernel
theorem dX2_takeMarked_61 : decode cX2_takeMarked 61 = .ok (.putfield 22, 3) := by decide +kernel
theorem dX2_takeMarked_64 : decode cX2_takeMarked 64 = .ok (.aload_n 0, 1) := by decide +kernel
theorem dX2_takeMarked_65 : decode cX2_takeMarked 65 = .ok (.aload_n 1, 1) := by decide +kernel
theorem dX2_takeMarked_66 : decode cX2_takeMarked 66 = .ok (.putfield 7, 3) := by decide +kernel
theorem dX2_takeMarked_69 : decode cX2_takeMarked 69 = .ok (.goto 19, 3) := by decide +kernel
theorem dX2_takeMarked_72 : decode cX2_takeMarked 72 = .ok (.aload_n 3, 1) := by decide +kernel
theorem dX2_takeMarked_73 : decode cX2_takeMarked 73 = .ok (.ifnonnull 8, 3) := by decide +kernel
theorem dX2_takeMarked_76 : decode cX2_takeMarked 76 = .ok (.aload_n 1, 1) := by decide +kernel
theorem dX2_takeMarked_77 : decode cX2_takeMarked 77 = .ok (.astore_n 2, 1) := by decide +kernel
theorem dX2_takeMarked_78 : decode cX2_takeMarked 78 = .ok (.goto 8, 3) := by decide +kernel
theorem dX2_takeMarked_81 : decode cX2_takeMarked 81 = .ok (.aload_n 3, 1) := by decide +kernel
theorem dX2_takeMarked_82 : decode cX2_takeMarked 82 = .ok (.aload_n 1, 1) := by decide +kernel
theorem dX2_takeMarked_83 : decode cX2_takeMarked 83 = .ok (.putfield 22, 3) := by decide +kernel
theorem dX2_takeMarked_86 : decode cX2_takeMarked 86 = .ok (.aload_n 1, 1) := by decide +kernel
theorem dX2_takeMarked_87 : decode cX2_takeMarked 87 = .ok (.astore_n 3, 1) := by decide +kernel
theorem dX2_takeMarked_88 : decode cX2_takeMarked 88 = .ok (.aload 4, 2) := by decide +kernel
theorem dX2_takeMarked_90 : decode cX2_takeMarked 90 = .ok (.astore_n 1, 1) := by decide +kernel
theorem dX2_takeMarked_91 : decode cX2_takeMarked 91 = .ok (.goto (-72), 3) := by decide +kernel
theorem dX2_takeMarked_94 : decode cX2_takeMarked 94 = .ok (.aload_n 2, 1) := by decide +kernel
theorem dX2_takeMarked_95 : decode cX2_takeMarked 95 = .ok (.areturn, 1) := by decide +kernel
theorem dX3_init_0 : decode cX3_init 0 = .ok (.aload_n 0, 1) := by decide +kernel
theorem dX3_init_1 : decode cX3_init 1 = .ok (.invokespecial 1, 3) := by decide +kernel
theorem dX3_init_4 : decode cX3_init 4 = .ok (.aload_n 0, 1) := by decide +kernel
theorem dX3_init_5 : decode cX3_init 5 = .ok (.iload_n 1, 1) := by decide +kernel
theorem dX3_init_6 : decode cX3_init 6 = .ok (.putfield 7, 3) := by decide +kernel
theorem dX3_init_9 : decode cX3_init 9 = .ok (.aload_n 0, 1) := by decide +kernel
theorem dX3_init_10 : decode cX3_init 10 = .ok (.iload_n 2, 1) := by decide +kernel
theorem dX3_init_11 : decode cX3_init 11 = .ok (.putfield 13, 3) := by decide +kernel
theorem dX3_init_14 : decode cX3_init 14 = .ok (.aload_n 0, 1) := by decide +kernel
theorem dX3_init_15 : decode cX3_init 15 = .ok (.iload_n 3, 1) := by decide +kernel
theorem dX3_init_16 : decode cX3_init 16 = .ok (.putfield 16, 3) := by decide +kernel
theorem dX3_init_19 : decode cX3_init 19 = .ok (.aload_n 0, 1) := by decide +kernel
theorem dX3_init_20 : decode cX3_init 20 = .ok (.iload 4, 2) := by decide +kernel
theorem dX3_init_22 : decode cX3_init 22 = .ok (.putfield 19, 3) := by decide +kernel
theorem dX3_init_25 : decode cX3_init 25 = .ok (.aload_n 0, 1) := by decide +kernel
theorem dX3_init_26 : decode cX3_init 26 = .ok (.iload 5, 2) := by decide +kernel
theorem dX3_init_28 : decode cX3_init 28 = .ok (.putfield 22, 3) := by decide +kernel
theorem dX3_init_31 : decode cX3_init 31 = .ok (.return_, 1) := by decide +kernel
theorem dX4_init_0 : decode cX4_init 0 = .ok (.aload_n 0, 1) := by decide +kernel
theorem dX4_init_1 : decode cX4_init 1 = .ok (.invokespecial 3, 3) := by decide +kernel
theorem dX4_init_4 : decode cX4_init 4 = .ok (.aload_n 0, 1) := by decide +kernel
theorem dX4_init_5 : decode cX4_init 5 = .ok (.iload_n 1, 1) := by decide +kernel
theorem dX4_init_6 : decode cX4_init 6 = .ok (.putfield 9, 3) := by decide +kernel
theorem dX4_init_9 : decode cX4_init 9 = .ok (.aload_n 0, 1) := by decide +kernel
theorem dX4_init_10 : decode cX4_init 10 = .ok (.iconst 4, 1) := by decide +kernel
theorem dX4_init_11 : decode cX4_init 11 = .ok (.anewarray 15, 3) := by decide +kernel
theorem dX4_init_14 : decode cX4_init 14 = .ok (.putfield 17, 3) := by decide +kernel
theorem dX4_init_17 : decode cX4_init 17 = .ok (.return_, 1) := by decide +kernel
theorem dX4_lowest_0 : decode cX4_lowest 0 = .ok (.aload_n 0, 1) := by decide +kernel
theorem dX4_lowest_1 : decode cX4_lowest 1 = .ok (.getfield 21, 3) := by decide +kernel
theorem dX4_lowest_4 : decode cX4_lowest 4 = .ok (.ifnonnull 7, 3) := by decide +kernel
theorem dX4_lowest_7 : decode cX4_lowest 7 = .ok (.aload_n 0, 1) := by decide +kernel
theorem dX4_lowest_8 : decode cX4_lowest 8 = .ok (.goto 7, 3) := by decide +kernel
theorem dX4_lowest_11 : decode cX4_lowest 11 = .ok (.aload_n 0, 1) := by decide +kernel
theorem dX4_lowest_12 : decode cX4_lowest 12 = .ok (.getfield 21, 3) := by decide +kernel
theorem dX4_lowest_15 : decode cX4_lowest 15 = .ok (.areturn, 1) := by decide +kernel
theorem dX4_standAlone_0 : decode cX4_standAlone 0 = .ok (.aload_n 0, 1) := by decide +kernel
theorem dX4_standAlone_1 : decode cX4_standAlone 1 = .ok (.aconst_null, 1) := by decide +kernel
theorem dX4_standAlone_2 : decode cX4_standAlone 2 = .ok (.putfield 21, 3) := by decide +kernel
theorem dX4_standAlone_5 : decode cX4_standAlone 5 = .ok (.return_, 1) := by decide +kernel
theorem dX4_joinTo_0 : decode cX4_joinTo 0 = .ok (.aload_n 0, 1) := by decide +kernel
theorem dX4_joinTo_1 : decode cX4_joinTo 1 = .ok (.aload_n 1, 1) := by decide +kernel
theorem dX4_joinTo_2 : decode cX4_joinTo 2 = .ok (.aload_n 0, 1) := by decide +kernel
theorem dX4_joinTo_3 : decode cX4_joinTo 3 = .ok (.if_acmp .ne 7, 3) := by decide +kernel
theorem dX4_joinTo_6 : decode cX4_joinTo 6 = .ok (.aconst_null, 1) := by decide +kernel
theorem dX4_joinTo_7 : decode cX4_joinTo 7 = .ok (.goto 4, 3) := by decide +kernel
theorem dX4_joinTo_10 : decode cX4_joinTo 10 = .ok (.aload_n 1, 1) := by decide +kernel
theorem dX4_joinTo_11 : decode cX4_joinTo 11 = .ok (.putfield 21, 3) := by decide +kernel
theorem dX4_joinTo_14 : decode cX4_joinTo 14 = .ok (.return_, 1) := by decide +kernel
theorem dX4_mayLink_0 : decode cX4_mayLink 0 = .ok (.aload_n 0, 1) := by decide +kernel
theorem dX4_mayLink_1 : decode cX4_mayLink 1 = .ok (.getfield 25, 3) := by decide +kernel
theorem dX4_mayLink_4 : decode cX4_mayLink 4 = .ok (.aload_n 1, 1) := by decide +kernel
theorem dX4_mayLink_5 : decode cX4_mayLink 5 = .ok (.invokevirtual 28, 3) := by decide +kernel
theorem dX4_mayLink_8 : decode cX4_mayLink 8 = .ok (.iand, 1) := by decide +kernel
theorem dX4_mayLink_9 : decode cX4_mayLink 9 = .ok (.ifCond .ne 7, 3) := by decide +kernel
theorem dX4_mayLink_12 : decode cX4_mayLink 12 = .ok (.iconst 1, 1) := by decide +kernel
theorem dX4_mayLink_13 : decode cX4_mayLink 13 = .ok (.goto 4, 3) := by decide +kernel
theorem dX4_mayLink_16 : decode cX4_mayLink 16 = .ok (.iconst 0, 1) := by decide +kernel
theorem dX4_mayLink_17 : decode cX4_mayLink 17 = .ok (.ireturn, 1) := by decide +kernel
theorem dX4_setMayLink_0 : decode cX4_setMayLink 0 = .ok (.iload_n 2, 1) := by decide +kernel
theorem dX4_setMayLink_1 : decode cX4_setMayLink 1 = .ok (.ifCond .eq 21, 3) := by decide +kernel
theorem dX4_setMayLink_4 : decode cX4_setMayLink 4 = .ok (.aload_n 0, 1) := by decide +kernel
theorem dX4_setMayLink_5 : decode cX4_setMayLink 5 = .ok (.dup, 1) := by decide +kernel
theorem dX4_setMayLink_6 : decode cX4_setMayLink 6 = .ok (.getfield 25, 3) := by decide +kernel
theorem dX4_setMayLink_9 : decode cX4_setMayLink 9 = .ok (.aload_n 1, 1) := by decide +kernel
theorem dX4_setMayLink_10 : decode cX4_setMayLink 10 = .ok (.invokevirtual 28, 3) := by decide +kernel
theorem dX4_setMayLink_13 : decode cX4_setMayLink 13 = .ok (.iconst (-1), 1) := by decide +kernel
theorem dX4_setMayLink_14 : decode cX4_setMayLink 14 = .ok (.ixor, 1) := by decide +kernel
theorem dX4_setMayLink_15 : decode cX4_setMayLink 15 = .ok (.iand, 1) := by decide +kernel
theorem dX4_setMayLink_16 : decode cX4_setMayLink 16 = .ok (.putfield 25, 3) := by decide +kernel
theorem dX4_setMayLink_19 : decode cX4_setMayLink 19 = .ok (.goto 16, 3) := by decide +kernel
theorem dX4_setMayLink_22 : decode cX4_setMayLink 22 = .ok (.aload_n 0, 1) := by decide +kernel
theorem dX4_setMayLink_23 : decode cX4_setMayLink 23 = .ok (.dup, 1) := by decide +kernel
theorem dX4_setMayLink_24 : decode cX4_setMayLink 24 = .ok (.getfield 25, 3) := by decide +kernel
theorem dX4_setMayLink_27 : decode cX4_setMayLink 27 = .ok (.aload_n 1, 1) := by decide +kernel
theorem dX4_setMayLink_28 : decode cX4_setMayLink 28 = .ok (.invokevirtual 28, 3) := by decide +kernel
theorem dX4_setMayLink_31 : decode cX4_setMayLink 31 = .ok (.ior, 1) := by decide +kernel
theorem dX4_setMayLink_32 : decode cX4_setMayLink 32 = .ok (.putfield 25, 3) := by decide +kernel
theorem dX4_setMayLink_35 : decode cX4_setMayLink 35 = .ok (.return_, 1) := by decide +kernel
theorem dX4_bit_0 : decode cX4_bit 0 = .ok (.iconst 1, 1) := by decide +kernel
theorem dX4_bit_1 : decode cX4_bit 1 = .ok (.aload_n 0, 1) := by decide +kernel
theorem dX4_bit_2 : decode cX4_bit 2 = .ok (.getfield 9, 3) := by decide +kernel
theorem dX4_bit_5 : decode cX4_bit 5 = .ok (.ishl, 1) := by decide +kernel
theorem dX4_bit_6 : decode cX4_bit 6 = .ok (.ireturn, 1) := by decide +kernel
theorem dX4_changesFor_0 : decode cX4_changesFor 0 = .ok (.iconst 0, 1) := by decide +kernel
theorem dX4_changesFor_1 : decode cX4_changesFor 1 = .ok (.istore_n 2, 1) := by decide +kernel
theorem dX4_changesFor_2 : decode cX4_changesFor 2 = .ok (.aload_n 0, 1) := by decide +kernel
theorem dX4_changesFor_3 : decode cX4_changesFor 3 = .ok (.iload_n 1, 1) := by decide +kernel
theorem dX4_changesFor_4 : decode cX4_changesFor 4 = .ok (.invokevirtual 32, 3) := by decide +kernel
theorem dX4_changesFor_7 : decode cX4_changesFor 7 = .ok (.astore_n 3, 1) := by decide +kernel
theorem dX4_changesFor_8 : decode cX4_changesFor 8 = .ok (.aload_n 3, 1) := by decide +kernel
theorem dX4_changesFor_9 : decode cX4_changesFor 9 = .ok (.ifnull 14, 3) := by decide +kernel
theorem dX4_changesFor_12 : decode cX4_changesFor 12 = .ok (.iinc 2 1, 3) := by decide +kernel
theorem dX4_changesFor_15 : decode cX4_changesFor 15 = .ok (.aload_n 3, 1) := by decide +kernel
theorem dX4_changesFor_16 : decode cX4_changesFor 16 = .ok (.getfield 36, 3) := by decide +kernel
theorem dX4_changesFor_19 : decode cX4_changesFor 19 = .ok (.astore_n 3, 1) := by decide +kernel
theorem dX4_changesFor_20 : decode cX4_changesFor 20 = .ok (.goto (-12), 3) := by decide +kernel
theorem dX4_changesFor_23 : decode cX4_changesFor 23 = .ok (.iload_n 2, 1) := by decide +kernel
theorem dX4_changesFor_24 : decode cX4_changesFor 24 = .ok (.ireturn, 1) := by decide +kernel
theorem dX4_addChange_0 : decode cX4_addChange 0 = .ok (.iload_n 1, 1) := by decide +kernel
theorem dX4_addChange_1 : decode cX4_addChange 1 = .ok (.invokestatic 40, 3) := by decide +kernel
theorem dX4_addChange_4 : decode cX4_addChange 4 = .ok (.ifCond .ne 4, 3) := by decide +kernel
theorem dX4_addChange_7 : decode cX4_addChange 7 = .ok (.return_, 1) := by decide +kernel
theorem dX4_addChange_8 : decode cX4_addChange 8 = .ok (.aconst_null, 1) := by decide +kernel
theorem dX4_addChange_9 : decode cX4_addChange 9 = .ok (.astore 4, 2) := by decide +kernel
theorem dX4_addChange_11 : decode cX4_addChange 11 = .ok (.aload_n 0, 1) := by decide +kernel
theorem dX4_addChange_12 : decode cX4_addChange 12 = .ok (.iload_n 1, 1) := by decide +kernel
theorem dX4_addChange_13 : decode cX4_addChange 13 = .ok (.invokevirtual 32, 3) := by decide +kernel
theorem dX4_addChange_16 : decode cX4_addChange 16 = .ok (.astore 5, 2) := by decide +kernel
theorem dX4_addChange_18 : decode cX4_addChange 18 = .ok (.aload 5, 2) := by decide +kernel
theorem dX4_addChange_20 : decode cX4_addChange 20 = .ok (.ifnull 26, 3) := by decide +kernel
theorem dX4_addChange_23 : decode cX4_addChange 23 = .ok (.aload 5, 2) := by decide +kernel
theorem dX4_addChange_25 : decode cX4_addChange 25 = .ok (.getfield 44, 3) := by decide +kernel
theorem dX4_addChange_28 : decode cX4_addChange 28 = .ok (.iload_n 2, 1) := by decide +kernel
theorem dX4_addChange_29 : decode cX4_addChange 29 = .ok (.if_icmp .le 17, 3) := by decide +kernel
theorem dX4_addChange_32 : decode cX4_addChange 32 = .ok (.aload 5, 2) := by decide +kernel
theorem dX4_addChange_34 : decode cX4_addChange 34 = .ok (.astore 4, 2) := by decide +kernel
theorem dX4_addChange_36 : decode cX4_addChange 36 = .ok (.aload 5, 2) := by decide +kernel
theorem dX4_addChange_38 : decode cX4_addChange 38 = .ok (.getfield 36, 3) := by decide +kernel
theorem dX4_addChange_41 : decode cX4_addChange 41 = .ok (.astore 5, 2) := by decide +kernel
theorem dX4_addChange_43 : decode cX4_addChange 43 = .ok (.goto (-25), 3) := by decide +kernel
theorem dX4_addChange_46 : decode cX4_addChange 46 = .ok (.new 15, 3) := by decide +kernel
theorem dX4_addChange_49 : decode cX4_addChange 49 = .ok (.dup, 1) := by decide +kernel
theorem dX4_addChange_50 : decode cX4_addChange 50 = .ok (.iload_n 2, 1) := by decide +kernel
theorem dX4_addChange_51 : decode cX4_addChange 51 = .ok (.iload_n 3, 1) := by decide +kernel
theorem dX4_addChange_52 : decode cX4_addChange 52 = .ok (.aload 5, 2) := by decide +kernel
theorem dX4_addChange_54 : decode cX4_addChange 54 = .ok (.invokespecial 47, 3) := by decide +kernel
theorem dX4_addChange_57 : decode cX4_addChange 57 = .ok (.astore 6, 2) := by decide +kernel
theorem dX4_addChange_59 : decode cX4_addChange 59 = .ok (.aload 4, 2) := by decide +kernel
theorem dX4_addChange_61 : decode cX4_addChange 61 = .ok (.ifnonnull 14, 3) := by decide +kernel
theorem dX4_addChange_64 : decode cX4_addChange 64 = .ok (.aload_n 0, 1) := by decide +kernel
theorem dX4_addChange_65 : decode cX4_addChange 65 = .ok (.getfield 17, 3) := by decide +kernel
theorem dX4_addChange_68 : decode cX4_addChange 68 = .ok (.iload_n 1, 1) := by decide +kernel
theorem dX4_addChange_69 : decode cX4_addChange 69 = .ok (.aload 6, 2) := by decide +kernel
theorem dX4_addChange_71 : decode cX4_addChange 71 = .ok (.aastore, 1) := by decide +kernel
theorem dX4_addChange_72 : decode cX4_addChange 72 = .ok (.goto 10, 3) := by decide +kernel
theorem dX4_addChange_75 : decode cX4_addChange 75 = .ok (.aload 4, 2) := by decide +kernel
theorem dX4_addChange_77 : decode cX4_addChange 77 = .ok (.aload 6, 2) := by decide +kernel
theorem dX4_addChange_79 : decode cX4_addChange 79 = .ok (.putfield 36, 3) := by decide +kernel
theorem dX4_addChange_82 : decode cX4_addChange 82 = .ok (.return_, 1) := by decide +kernel
theorem dX4_hasConsent_0 : decode cX4_hasConsent 0 = .ok (.aload_n 0, 1) := by decide +kernel
theorem dX4_hasConsent_1 : decode cX4_hasConsent 1 = .ok (.iload_n 1, 1) := by decide +kernel
theorem dX4_hasConsent_2 : decode cX4_hasConsent 2 = .ok (.invokevirtual 32, 3) := by decide +kernel
theorem dX4_hasConsent_5 : decode cX4_hasConsent 5 = .ok (.astore_n 3, 1) := by decide +kernel
theorem dX4_hasConsent_6 : decode cX4_hasConsent 6 = .ok (.aload_n 3, 1) := by decide +kernel
theorem dX4_hasConsent_7 : decode cX4_hasConsent 7 = .ok (.ifnull 19, 3) := by decide +kernel
theorem dX4_hasConsent_10 : decode cX4_hasConsent 10 = .ok (.aload_n 3, 1) := by decide +kernel
theorem dX4_hasConsent_11 : decode cX4_hasConsent 11 = .ok (.getfield 44, 3) := by decide +kernel
theorem dX4_hasConsent_14 : decode cX4_hasConsent 14 = .ok (.iload_n 2, 1) := by decide +kernel
theorem dX4_hasConsent_15 : decode cX4_hasConsent 15 = .ok (.if_icmp .le 11, 3) := by decide +kernel
theorem dX4_hasConsent_18 : decode cX4_hasConsent 18 = .ok (.aload_n 3, 1) := by decide +kernel
theorem dX4_hasConsent_19 : decode cX4_hasConsent 19 = .ok (.getfield 36, 3) := by decide +kernel
theorem dX4_hasConsent_22 : decode cX4_hasConsent 22 = .ok (.astore_n 3, 1) := by decide +kernel
theorem dX4_hasConsent_23 : decode cX4_hasConsent 23 = .ok (.goto (-17), 3) := by decide +kernel
theorem dX4_hasConsent_26 : decode cX4_hasConsent 26 = .ok (.aload_n 3, 1) := by decide +kernel
theorem dX4_hasConsent_27 : decode cX4_hasConsent 27 = .ok (.ifnull 14, 3) := by decide +kernel
theorem dX4_hasConsent_30 : decode cX4_hasConsent 30 = .ok (.aload_n 3, 1) := by decide +kernel
theorem dX4_hasConsent_31 : decode cX4_hasConsent 31 = .ok (.getfield 50, 3) := by decide +kernel
theorem dX4_hasConsent_34 : decode cX4_hasConsent 34 = .ok (.ifCond .eq 7, 3) := by decide +kernel
theorem dX4_hasConsent_37 : decode cX4_hasConsent 37 = .ok (.iconst 1, 1) := by decide +kernel
theorem dX4_hasConsent_38 : decode cX4_hasConsent 38 = .ok (.goto 4, 3) := by decide +kernel
theorem dX4_hasConsent_41 : decode cX4_hasConsent 41 = .ok (.iconst 0, 1) := by decide +kernel
theorem dX4_hasConsent_42 : decode cX4_hasConsent 42 = .ok (.ireturn, 1) := by decide +kernel
theorem dX4_clearChanges_0 : decode cX4_clearChanges 0 = .ok (.iconst 0, 1) := by decide +kernel
theorem dX4_clearChanges_1 : decode cX4_clearChanges 1 = .ok (.istore_n 1, 1) := by decide +kernel
theorem dX4_clearChanges_2 : decode cX4_clearChanges 2 = .ok (.iload_n 1, 1) := by decide +kernel
theorem dX4_clearChanges_3 : decode cX4_clearChanges 3 = .ok (.aload_n 0, 1) := by decide +kernel
theorem dX4_clearChanges_4 : decode cX4_clearChanges 4 = .ok (.getfield 17, 3) := by decide +kernel
theorem dX4_clearChanges_7 : decode cX4_clearChanges 7 = .ok (.arraylength, 1) := by decide +kernel
theorem dX4_clearChanges_8 : decode cX4_clearChanges 8 = .ok (.if_icmp .ge 16, 3) := by decide +kernel
theorem dX4_clearChanges_11 : decode cX4_clearChanges 11 = .ok (.aload_n 0, 1) := by decide +kernel
theorem dX4_clearChanges_12 : decode cX4_clearChanges 12 = .ok (.getfield 17, 3) := by decide +kernel
theorem dX4_clearChanges_15 : decode cX4_clearChanges 15 = .ok (.iload_n 1, 1) := by decide +kernel
theorem dX4_clearChanges_16 : decode cX4_clearChanges 16 = .ok (.aconst_null, 1) := by decide +kernel
theorem dX4_clearChanges_17 : decode cX4_clearChanges 17 = .ok (.aastore, 1) := by decide +kernel
theorem dX4_clearChanges_18 : decode cX4_clearChanges 18 = .ok (.iinc 1 1, 3) := by decide +kernel
theorem dX4_clearChanges_21 : decode cX4_clearChanges 21 = .ok (.goto (-19), 3) := by decide +kernel
theorem dX4_clearChanges_24 : decode cX4_clearChanges 24 = .ok (.return_, 1) := by decide +kernel
theorem dX4_latestChange_0 : decode cX4_latestChange 0 = .ok (.iload_n 1, 1) := by decide +kernel
theorem dX4_latestChange_1 : decode cX4_latestChange 1 = .ok (.ifCond .lt 12, 3) := by decide +kernel
theorem dX4_latestChange_4 : decode cX4_latestChange 4 = .ok (.iload_n 1, 1) := by decide +kernel
theorem dX4_latestChange_5 : decode cX4_latestChange 5 = .ok (.aload_n 0, 1) := by decide +kernel
theorem dX4_latestChange_6 : decode cX4_latestChange 6 = .ok (.getfield 17, 3) := by decide +kernel
theorem dX4_latestChange_9 : decode cX4_latestChange 9 = .ok (.arraylength, 1) := by decide +kernel
theorem dX4_latestChange_10 : decode cX4_latestChange 10 = .ok (.if_icmp .lt 7, 3) := by decide +kernel
theorem dX4_latestChange_13 : decode cX4_latestChange 13 = .ok (.aconst_null, 1) := by decide +kernel
theorem dX4_latestChange_14 : decode cX4_latestChange 14 = .ok (.goto 9, 3) := by decide +kernel
theorem dX4_latestChange_17 : decode cX4_latestChange 17 = .ok (.aload_n 0, 1) := by decide +kernel
theorem dX4_latestChange_18 : decode cX4_latestChange 18 = .ok (.getfield 17, 3) := by decide +kernel
theorem dX4_latestChange_21 : decode cX4_latestChange 21 = .ok (.iload_n 1, 1) := by decide +kernel
theorem dX4_latestChange_22 : decode cX4_latestChange 22 = .ok (.aaload, 1) := by decide +kernel
theorem dX4_latestChange_23 : decode cX4_latestChange 23 = .ok (.areturn, 1) := by decide +kernel
theorem dX5_init_0 : decode cX5_init 0 = .ok (.aload_n 0, 1) := by decide +kernel
theorem dX5_init_1 : decode cX5_init 1 = .ok (.invokespecial 3, 3) := by decide +kernel
theorem dX5_init_4 : decode cX5_init 4 = .ok (.return_, 1) := by decide +kernel
theorem dX5_restart_0 : decode cX5_restart 0 = .ok (.aload_n 0, 1) := by decide +kernel
theorem dX5_restart_1 : decode cX5_restart 1 = .ok (.iconst 0, 1) := by decide +kernel
theorem dX5_restart_2 : decode cX5_restart 2 = .ok (.putfield 9, 3) := by decide +kernel
theorem dX5_restart_5 : decode cX5_restart 5 = .ok (.return_, 1) := by decide +kernel
theorem dX5_isCutBy_0 : decode cX5_isCutBy 0 = .ok (.aload_n 1, 1) := by decide +kernel
theorem dX5_isCutBy_1 : decode cX5_isCutBy 1 = .ok (.invokevirtual 15, 3) := by decide +kernel
theorem dX5_isCutBy_4 : decode cX5_isCutBy 4 = .ok (.istore_n 2, 1) := by decide +kernel
theorem dX5_isCutBy_5 : decode cX5_isCutBy 5 = .ok (.aload_n 0, 1) := by decide +kernel
theorem dX5_isCutBy_6 : decode cX5_isCutBy 6 = .ok (.getfield 9, 3) := by decide +kernel
theorem dX5_isCutBy_9 : decode cX5_isCutBy 9 = .ok (.ifCond .eq 57, 3) := by decide +kernel
theorem dX5_isCutBy_12 : decode cX5_isCutBy 12 = .ok (.iload_n 2, 1) := by decide +kernel
theorem dX5_isCutBy_13 : decode cX5_isCutBy 13 = .ok (.aload_n 0, 1) := by decide +kernel
theorem dX5_isCutBy_14 : decode cX5_isCutBy 14 = .ok (.getfield 21, 3) := by decide +kernel
theorem dX5_isCutBy_17 : decode cX5_isCutBy 17 = .ok (.isub, 1) := by decide +kernel
theorem dX5_isCutBy_18 : decode cX5_isCutBy 18 = .ok (.bipush 30, 2) := by decide +kernel
theorem dX5_isCutBy_20 : decode cX5_isCutBy 20 = .ok (.if_icmp .gt 46, 3) := by decide +kernel
theorem dX5_isCutBy_23 : decode cX5_isCutBy 23 = .ok (.iload_n 2, 1) := by decide +kernel
theorem dX5_isCutBy_24 : decode cX5_isCutBy 24 = .ok (.sipush 1440, 3) := by decide +kernel
theorem dX5_isCutBy_27 : decode cX5_isCutBy 27 = .ok (.idiv, 1) := by decide +kernel
theorem dX5_isCutBy_28 : decode cX5_isCutBy 28 = .ok (.aload_n 0, 1) := by decide +kernel
theorem dX5_isCutBy_29 : decode cX5_isCutBy 29 = .ok (.getfield 21, 3) := by decide +kernel
theorem dX5_isCutBy_32 : decode cX5_isCutBy 32 = .ok (.sipush 1440, 3) := by decide +kernel
theorem dX5_isCutBy_35 : decode cX5_isCutBy 35 = .ok (.idiv, 1) := by decide +kernel
theorem dX5_isCutBy_36 : decode cX5_isCutBy 36 = .ok (.if_icmp .ne 30, 3) := by decide +kernel
theorem dX5_isCutBy_39 : decode cX5_isCutBy 39 = .ok (.aload_n 0, 1) := by decide +kernel
theorem dX5_isCutBy_40 : decode cX5_isCutBy 40 = .ok (.getfield 24, 3) := by decide +kernel
theorem dX5_isCutBy_43 : decode cX5_isCutBy 43 = .ok (.iconst (-1), 1) := by decide +kernel
theorem dX5_isCutBy_44 : decode cX5_isCutBy 44 = .ok (.if_icmp .eq 26, 3) := by decide +kernel
theorem dX5_isCutBy_47 : decode cX5_isCutBy 47 = .ok (.aload_n 1, 1) := by decide +kernel
theorem dX5_isCutBy_48 : decode cX5_isCutBy 48 = .ok (.getfield 27, 3) := by decide +kernel
theorem dX5_isCutBy_51 : decode cX5_isCutBy 51 = .ok (.iconst (-1), 1) := by decide +kernel
theorem dX5_isCutBy_52 : decode cX5_isCutBy 52 = .ok (.if_icmp .eq 18, 3) := by decide +kernel
theorem dX5_isCutBy_55 : decode cX5_isCutBy 55 = .ok (.aload_n 1, 1) := by decide +kernel
theorem dX5_isCutBy_56 : decode cX5_isCutBy 56 = .ok (.getfield 27, 3) := by decide +kernel
theorem dX5_isCutBy_59 : decode cX5_isCutBy 59 = .ok (.aload_n 0, 1) := by decide +kernel
theorem dX5_isCutBy_60 : decode cX5_isCutBy 60 = .ok (.getfield 24, 3) := by decide +kernel
theorem dX5_isCutBy_63 : decode cX5_isCutBy 63 = .ok (.if_icmp .eq 7, 3) := by decide +kernel
theorem dX5_isCutBy_66 : decode cX5_isCutBy 66 = .ok (.iconst 1, 1) := by decide +kernel
theorem dX5_isCutBy_67 : decode cX5_isCutBy 67 = .ok (.goto 4, 3) := by decide +kernel
theorem dX5_isCutBy_70 : decode cX5_isCutBy 70 = .ok (.iconst 0, 1) := by decide +kernel
theorem dX5_isCutBy_71 : decode cX5_isCutBy 71 = .ok (.ireturn, 1) := by decide +kernel
theorem dX5_begin_0 : decode cX5_begin 0 = .ok (.aload_n 0, 1) := by decide +kernel
theorem dX5_begin_1 : decode cX5_begin 1 = .ok (.dup, 1) := by decide +kernel
theorem dX5_begin_2 : decode cX5_begin 2 = .ok (.getfield 9, 3) := by decide +kernel
theorem dX5_begin_5 : decode cX5_begin 5 = .ok (.iconst 1, 1) := by decide +kernel
theorem dX5_begin_6 : decode cX5_begin 6 = .ok (.iadd, 1) := by decide +kernel
theorem dX5_begin_7 : decode cX5_begin 7 = .ok (.putfield 9, 3) := by decide +kernel
theorem dX5_begin_10 : decode cX5_begin 10 = .ok (.aload_n 0, 1) := by decide +kernel
theorem dX5_begin_11 : decode cX5_begin 11 = .ok (.aload_n 1, 1) := by decide +kernel
theorem dX5_begin_12 : decode cX5_begin 12 = .ok (.invokevirtual 15, 3) := by decide +kernel
theorem dX5_begin_15 : decode cX5_begin 15 = .ok (.putfield 28, 3) := by decide +kernel
theorem dX5_begin_18 : decode cX5_begin 18 = .ok (.aload_n 0, 1) := by decide +kernel
theorem dX5_begin_19 : decode cX5_begin 19 = .ok (.iconst 0, 1) := by decide +kernel
theorem dX5_begin_20 : decode cX5_begin 20 = .ok (.putfield 31, 3) := by decide +kernel
theorem dX5_begin_23 : decode cX5_begin 23 = .ok (.aload_n 0, 1) := by decide +kernel
theorem dX5_begin_24 : decode cX5_begin 24 = .ok (.iconst (-1), 1) := by decide +kernel
theorem dX5_begin_25 : decode cX5_begin 25 = .ok (.putfield 24, 3) := by decide +kernel
theorem dX5_begin_28 : decode cX5_begin 28 = .ok (.return_, 1) := by decide +kernel
theorem dX5_add_0 : decode cX5_add 0 = .ok (.aload_n 0, 1) := by decide +kernel
theorem dX5_add_1 : decode cX5_add 1 = .ok (.aload_n 1, 1) := by decide +kernel
theorem dX5_add_2 : decode cX5_add 2 = .ok (.invokevirtual 15, 3) := by decide +kernel
theorem dX5_add_5 : decode cX5_add 5 = .ok (.putfield 21, 3) := by decide +kernel
theorem dX5_add_8 : decode cX5_add 8 = .ok (.aload_n 0, 1) := by decide +kernel
theorem dX5_add_9 : decode cX5_add 9 = .ok (.dup, 1) := by decide +kernel
theorem dX5_add_10 : decode cX5_add 10 = .ok (.getfield 31, 3) := by decide +kernel
theorem dX5_add_13 : decode cX5_add 13 = .ok (.iconst 1, 1) := by decide +kernel
theorem dX5_add_14 : decode cX5_add 14 = .ok (.iadd, 1) := by decide +kernel
theorem dX5_add_15 : decode cX5_add 15 = .ok (.putfield 31, 3) := by decide +kernel
theorem dX5_add_18 : decode cX5_add 18 = .ok (.aload_n 0, 1) := by decide +kernel
theorem dX5_add_19 : decode cX5_add 19 = .ok (.getfield 24, 3) := by decide +kernel
theorem dX5_add_22 : decode cX5_add 22 = .ok (.iconst (-1), 1) := by decide +kernel
theorem dX5_add_23 : decode cX5_add 23 = .ok (.if_icmp .ne 11, 3) := by decide +kernel
theorem dX5_add_26 : decode cX5_add 26 = .ok (.aload_n 0, 1) := by decide +kernel
theorem dX5_add_27 : decode cX5_add 27 = .ok (.aload_n 1, 1) := by decide +kernel
theorem dX5_add_28 : decode cX5_add 28 = .ok (.getfield 27, 3) := by decide +kernel
theorem dX5_add_31 : decode cX5_add 31 = .ok (.putfield 24, 3) := by decide +kernel
theorem dX5_add_34 : decode cX5_add 34 = .ok (.return_, 1) := by decide +kernel
theorem dX6_init_0 : decode cX6_init 0 = .ok (.aload_n 0, 1) := by decide +kernel
theorem dX6_init_1 : decode cX6_init 1 = .ok (.invokespecial 3, 3) := by decide +kernel
theorem dX6_init_4 : decode cX6_init 4 = .ok (.aload_n 0, 1) := by decide +kernel
theorem dX6_init_5 : decode cX6_init 5 = .ok (.bipush 20, 2) := by decide +kernel
theorem dX6_init_7 : decode cX6_init 7 = .ok (.anewarray 9, 3) := by decide +kernel
theorem dX6_init_10 : decode cX6_init 10 = .ok (.putfield 11, 3) := by decide +kernel
theorem dX6_init_13 : decode cX6_init 13 = .ok (.iconst 0, 1) := by decide +kernel
theorem dX6_init_14 : decode cX6_init 14 = .ok (.istore_n 1, 1) := by decide +kernel
theorem dX6_init_15 : decode cX6_init 15 = .ok (.iload_n 1, 1) := by decide +kernel
theorem dX6_init_16 : decode cX6_init 16 = .ok (.aload_n 0, 1) := by decide +kernel
theorem dX6_init_17 : decode cX6_init 17 = .ok (.getfield 11, 3) := by decide +kernel
theorem dX6_init_20 : decode cX6_init 20 = .ok (.arraylength, 1) := by decide +kernel
theorem dX6_init_21 : decode cX6_init 21 = .ok (.if_icmp .ge 23, 3) := by decide +kernel
theorem dX6_init_24 : decode cX6_init 24 = .ok (.aload_n 0, 1) := by decide +kernel
theorem dX6_init_25 : decode cX6_init 25 = .ok (.getfield 11, 3) := by decide +kernel
theorem dX6_init_28 : decode cX6_init 28 = .ok (.iload_n 1, 1) := by decide +kernel
theorem dX6_init_29 : decode cX6_init 29 = .ok (.new 9, 3) := by decide +kernel
theorem dX6_init_32 : decode cX6_init 32 = .ok (.dup, 1) := by decide +kernel
theorem dX6_init_33 : decode cX6_init 33 = .ok (.iload_n 1, 1) := by decide +kernel
theorem dX6_init_34 : decode cX6_init 34 = .ok (.invokespecial 15, 3) := by decide +kernel
theorem dX6_init_37 : decode cX6_init 37 = .ok (.aastore, 1) := by decide +kernel
theorem dX6_init_38 : decode cX6_init 38 = .ok (.iinc 1 1, 3) := by decide +kernel
theorem dX6_init_41 : decode cX6_init 41 = .ok (.goto (-26), 3) := by decide +kernel
theorem dX6_init_44 : decode cX6_init 44 = .ok (.aload_n 0, 1) := by decide +kernel
theorem dX6_init_45 : decode cX6_init 45 = .ok (.sipush 1000, 3) := by decide +kernel
theorem dX6_init_48 : decode cX6_init 48 = .ok (.newarray .boolean, 2) := by decide +kernel
theorem dX6_init_50 : decode cX6_init 50 = .ok (.putfield 18, 3) := by decide +kernel
theorem dX6_init_53 : decode cX6_init 53 = .ok (.aload_n 0, 1) := by decide +kernel
theorem dX6_init_54 : decode cX6_init 54 = .ok (.new 22, 3) := by decide +kernel
theorem dX6_init_57 : decode cX6_init 57 = .ok (.dup, 1) := by decide +kernel
theorem dX6_init_58 : decode cX6_init 58 = .ok (.invokespecial 24, 3) := by decide +kernel
theorem dX6_init_61 : decode cX6_init 61 = .ok (.putfield 25, 3) := by decide +kernel
theorem dX6_init_64 : decode cX6_init 64 = .ok (.aload_n 0, 1) := by decide +kernel
theorem dX6_init_65 : decode cX6_init 65 = .ok (.new 29, 3) := by decide +kernel
theorem dX6_init_68 : decode cX6_init 68 = .ok (.dup, 1) := by decide +kernel
theorem dX6_init_69 : decode cX6_init 69 = .ok (.invokespecial 31, 3) := by decide +kernel
theorem dX6_init_72 : decode cX6_init 72 = .ok (.putfield 32, 3) := by decide +kernel
theorem dX6_init_75 : decode cX6_init 75 = .ok (.aload_n 0, 1) := by decide +kernel
theorem dX6_init_76 : decode cX6_init 76 = .ok (.sipush 160, 3) := by decide +kernel
theorem dX6_init_79 : decode cX6_init 79 = .ok (.newarray .int, 2) := by decide +kernel
theorem dX6_init_81 : decode cX6_init 81 = .ok (.putfield 36, 3) := by decide +kernel
theorem dX6_init_84 : decode cX6_init 84 = .ok (.aload_n 0, 1) := by decide +kernel
theorem dX6_init_85 : decode cX6_init 85 = .ok (.sipush 1440, 3) := by decide +kernel
theorem dX6_init_88 : decode cX6_init 88 = .ok (.putfield 40, 3) := by decide +kernel
theorem dX6_init_91 : decode cX6_init 91 = .ok (.return_, 1) := by decide +kernel
theorem dX6_event_0 : decode cX6_event 0 = .ok (.aload_n 0, 1) := by decide +kernel
theorem dX6_event_1 : decode cX6_event 1 = .ok (.iload_n 2, 1) := by decide +kernel
theorem dX6_event_2 : decode cX6_event 2 = .ok (.invokevirtual 44, 3) := by decide +kernel
theorem dX6_event_5 : decode cX6_event 5 = .ok (.astore 7, 2) := by decide +kernel
theorem dX6_event_7 : decode cX6_event 7 = .ok (.aload_n 0, 1) := by decide +kernel
theorem dX6_event_8 : decode cX6_event 8 = .ok (.iload_n 3, 1) := by decide +kernel
theorem dX6_event_9 : decode cX6_event 9 = .ok (.invokevirtual 48, 3) := by decide +kernel
theorem dX6_event_12 : decode cX6_event 12 = .ok (.astore 8, 2) := by decide +kernel
theorem dX6_event_14 : decode cX6_event 14 = .ok (.iload_n 1, 1) := by decide +kernel
theorem dX6_event_15 : decode cX6_event 15 = .ok (.ifCond .lt 56, 3) := by decide +kernel
theorem dX6_event_18 : decode cX6_event 18 = .ok (.iload_n 1, 1) := by decide +kernel
theorem dX6_event_19 : decode cX6_event 19 = .ok (.aload_n 0, 1) := by decide +kernel
theorem dX6_event_20 : decode cX6_event 20 = .ok (.getfield 18, 3) := by decide +kernel
theorem dX6_event_23 : decode cX6_event 23 = .ok (.arraylength, 1) := by decide +kernel
theorem dX6_event_24 : decode cX6_event 24 = .ok (.if_icmp .ge 47, 3) := by decide +kernel
theorem dX6_event_27 : decode cX6_event 27 = .ok (.aload 7, 2) := by decide +kernel
theorem dX6_event_29 : decode cX6_event 29 = .ok (.ifnull 42, 3) := by decide +kernel
theorem dX6_event_32 : decode cX6_event 32 = .ok (.aload 8, 2) := by decide +kernel
theorem dX6_event_34 : decode cX6_event 34 = .ok (.ifnonnull 8, 3) := by decide +kernel
theorem dX6_event_37 : decode cX6_event 37 = .ok (.iload_n 3, 1) := by decide +kernel
theorem dX6_event_38 : decode cX6_event 38 = .ok (.iconst (-1), 1) := by decide +kernel
theorem dX6_event_39 : decode cX6_event 39 = .ok (.if_icmp .ne 32, 3) := by decide +kernel
theorem dX6_event_42 : decode cX6_event 42 = .ok (.iload 4, 2) := by decide +kernel
theorem dX6_event_44 : decode cX6_event 44 = .ok (.invokestatic 51, 3) := by decide +kernel
theorem dX6_event_47 : decode cX6_event 47 = .ok (.ifCond .eq 24, 3) := by decide +kernel
theorem dX6_event_50 : decode cX6_event 50 = .ok (.iload 5, 2) := by decide +kernel
theorem dX6_event_52 : decode cX6_event 52 = .ok (.iconst (-1), 1) := by decide +kernel
theorem dX6_event_53 : decode cX6_event 53 = .ok (.if_icmp .lt 18, 3) := by decide +kernel
theorem dX6_event_56 : decode cX6_event 56 = .ok (.iload 5, 2) := by decide +kernel
theorem dX6_event_58 : decode cX6_event 58 = .ok (.bipush 10, 2) := by decide +kernel
theorem dX6_event_60 : decode cX6_event 60 = .ok (.if_icmp .ge 11, 3) := by decide +kernel
theorem dX6_event_63 : decode cX6_event 63 = .ok (.iload 6, 2) := by decide +kernel
theorem dX6_event_65 : decode cX6_event 65 = .ok (.invokestatic 55, 3) := by decide +kernel
theorem dX6_event_68 : decode cX6_event 68 = .ok (.ifCond .ne 13, 3) := by decide +kernel
theorem dX6_event_71 : decode cX6_event 71 = .ok (.new 58, 3) := by decide +kernel
theorem dX6_event_74 : decode cX6_event 74 = .ok (.dup, 1) := by decide +kernel
theorem dX6_event_75 : decode cX6_event 75 = .ok (.ldc 60, 2) := by decide +kernel
theorem dX6_event_77 : decode cX6_event 77 = .ok (.invokespecial 62, 3) := by decide +kernel
theorem dX6_event_80 : decode cX6_event 80 = .ok (.athrow, 1) := by decide +kernel
theorem dX6_event_81 : decode cX6_event 81 = .ok (.aload_n 0, 1) := by decide +kernel
theorem dX6_event_82 : decode cX6_event 82 = .ok (.getfield 18, 3) := by decide +kernel
theorem dX6_event_85 : decode cX6_event 85 = .ok (.iload_n 1, 1) := by decide +kernel
theorem dX6_event_86 : decode cX6_event 86 = .ok (.baload, 1) := by decide +kernel
theorem dX6_event_87 : decode cX6_event 87 = .ok (.ifCond .eq 5, 3) := by decide +kernel
theorem dX6_event_90 : decode cX6_event 90 = .ok (.iconst 0, 1) := by decide +kernel
theorem dX6_event_91 : decode cX6_event 91 = .ok (.ireturn, 1) := by decide +kernel
theorem dX6_event_92 : decode cX6_event 92 = .ok (.aload_n 0, 1) := by decide +kernel
theorem dX6_event_93 : decode cX6_event 93 = .ok (.getfield 65, 3) := by decide +kernel
theorem dX6_event_96 : decode cX6_event 96 = .ok (.sipush 200, 3) := by decide +kernel
theorem dX6_event_99 : decode cX6_event 99 = .ok (.if_icmp .lt 13, 3) := by decide +kernel
theorem dX6_event_102 : decode cX6_event 102 = .ok (.new 68, 3) := by decide +kernel
theorem dX6_event_105 : decode cX6_event 105 = .ok (.dup, 1) := by decide +kernel
theorem dX6_event_106 : decode cX6_event 106 = .ok (.ldc 70, 2) := by decide +kernel
theorem dX6_event_108 : decode cX6_event 108 = .ok (.invokespecial 72, 3) := by decide +kernel
theorem dX6_event_111 : decode cX6_event 111 = .ok (.athrow, 1) := by decide +kernel
theorem dX6_event_112 : decode cX6_event 112 = .ok (.new 73, 3) := by decide +kernel
theorem dX6_event_115 : decode cX6_event 115 = .ok (.dup, 1) := by decide +kernel
theorem dX6_event_116 : decode cX6_event 116 = .ok (.iload_n 1, 1) := by decide +kernel
theorem dX6_event_117 : decode cX6_event 117 = .ok (.aload 7, 2) := by decide +kernel
theorem dX6_event_119 : decode cX6_event 119 = .ok (.aload 8, 2) := by decide +kernel
theorem dX6_event_121 : decode cX6_event 121 = .ok (.iload 4, 2) := by decide +kernel
theorem dX6_event_123 : decode cX6_event 123 = .ok (.iload 5, 2) := by decide +kernel
theorem dX6_event_125 : decode cX6_event 125 = .ok (.iload 6, 2) := by decide +kernel
theorem dX6_event_127 : decode cX6_event 127 = .ok (.aload_n 0, 1) := by decide +kernel
theorem dX6_event_128 : decode cX6_event 128 = .ok (.getfield 65, 3) := by decide +kernel
theorem dX6_event_131 : decode cX6_event 131 = .ok (.invokespecial 75, 3) := by decide +kernel
theorem dX6_event_134 : decode cX6_event 134 = .ok (.astore 9, 2) := by decide +kernel
theorem dX6_event_136 : decode cX6_event 136 = .ok (.aload_n 0, 1) := by decide +kernel
theorem dX6_event_137 : decode cX6_event 137 = .ok (.getfield 18, 3) := by decide +kernel
theorem dX6_event_140 : decode cX6_event 140 = .ok (.iload_n 1, 1) := by decide +kernel
theorem dX6_event_141 : decode cX6_event 141 = .ok (.iconst 1, 1) := by decide +kernel
theorem dX6_event_142 : decode cX6_event 142 = .ok (.bastore, 1) := by decide +kernel
theorem dX6_event_143 : decode cX6_event 143 = .ok (.aload_n 0, 1) := by decide +kernel
theorem dX6_event_144 : decode cX6_event 144 = .ok (.dup, 1) := by decide +kernel
theorem dX6_event_145 : decode cX6_event 145 = .ok (.getfield 65, 3) := by decide +kernel
theorem dX6_event_148 : decode cX6_event 148 = .ok (.iconst 1, 1) := by decide +kernel
theorem dX6_event_149 : decode cX6_event 149 = .ok (.iadd, 1) := by decide +kernel
theorem dX6_event_150 : decode cX6_event 150 = .ok (.putfield 65, 3) := by decide +kernel
theorem dX6_event_153 : decode cX6_event 153 = .ok (.aload_n 0, 1) := by decide +kernel
theorem dX6_event_154 : decode cX6_event 154 = .ok (.getfield 25, 3) := by decide +kernel
theorem dX6_event_157 : decode cX6_event 157 = .ok (.aload 9, 2) := by decide +kernel
theorem dX6_event_159 : decode cX6_event 159 = .ok (.invokevirtual 78, 3) := by decide +kernel
theorem dX6_event_162 : decode cX6_event 162 = .ok (.aload_n 0, 1) := by decide +kernel
theorem dX6_event_163 : decode cX6_event 163 = .ok (.aload 9, 2) := by decide +kernel
theorem dX6_event_165 : decode cX6_event 165 = .ok (.invokevirtual 82, 3) := by decide +kernel
theorem dX6_event_168 : decode cX6_event 168 = .ok (.iconst 1, 1) := by decide +kernel
theorem dX6_event_169 : decode cX6_event 169 = .ok (.ireturn, 1) := by decide +kernel
theorem dX6_skew_0 : decode cX6_skew 0 = .ok (.aload_n 0, 1) := by decide +kernel
theorem dX6_skew_1 : decode cX6_skew 1 = .ok (.iload_n 1, 1) := by decide +kernel
theorem dX6_skew_2 : decode cX6_skew 2 = .ok (.invokevirtual 44, 3) := by decide +kernel
theorem dX6_skew_5 : decode cX6_skew 5 = .ok (.astore_n 3, 1) := by decide +kernel
theorem dX6_skew_6 : decode cX6_skew 6 = .ok (.aload_n 3, 1) := by decide +kernel
theorem dX6_skew_7 : decode cX6_skew 7 = .ok (.ifnull 17, 3) := by decide +kernel
theorem dX6_skew_10 : decode cX6_skew 10 = .ok (.iload_n 2, 1) := by decide +kernel
theorem dX6_skew_11 : decode cX6_skew 11 = .ok (.sipush (-600), 3) := by decide +kernel
theorem dX6_skew_14 : decode cX6_skew 14 = .ok (.if_icmp .lt 10, 3) := by decide +kernel
theorem dX6_skew_17 : decode cX6_skew 17 = .ok (.iload_n 2, 1) := by decide +kernel
theorem dX6_skew_18 : decode cX6_skew 18 = .ok (.sipush 600, 3) := by decide +kernel
theorem dX6_skew_21 : decode cX6_skew 21 = .ok (.if_icmp .le 13, 3) := by decide +kernel
theorem dX6_skew_24 : decode cX6_skew 24 = .ok (.new 58, 3) := by decide +kernel
theorem dX6_skew_27 : decode cX6_skew 27 = .ok (.dup, 1) := by decide +kernel
theorem dX6_skew_28 : decode cX6_skew 28 = .ok (.ldc 85, 2) := by decide +kernel
theorem dX6_skew_30 : decode cX6_skew 30 = .ok (.invokespecial 62, 3) := by decide +kernel
theorem dX6_skew_33 : decode cX6_skew 33 = .ok (.athrow, 1) := by decide +kernel
theorem dX6_skew_34 : decode cX6_skew 34 = .ok (.aload_n 3, 1) := by decide +kernel
theorem dX6_skew_35 : decode cX6_skew 35 = .ok (.getfield 87, 3) := by decide +kernel
theorem dX6_skew_38 : decode cX6_skew 38 = .ok (.istore 4, 2) := by decide +kernel
theorem dX6_skew_40 : decode cX6_skew 40 = .ok (.aload_n 0, 1) := by decide +kernel
theorem dX6_skew_41 : decode cX6_skew 41 = .ok (.getfield 25, 3) := by decide +kernel
theorem dX6_skew_44 : decode cX6_skew 44 = .ok (.getfield 90, 3) := by decide +kernel
theorem dX6_skew_47 : decode cX6_skew 47 = .ok (.astore 5, 2) := by decide +kernel
theorem dX6_skew_49 : decode cX6_skew 49 = .ok (.aload 5, 2) := by decide +kernel
theorem dX6_skew_51 : decode cX6_skew 51 = .ok (.ifnull 32, 3) := by decide +kernel
theorem dX6_skew_54 : decode cX6_skew 54 = .ok (.aload 5, 2) := by decide +kernel
theorem dX6_skew_56 : decode cX6_skew 56 = .ok (.aload 5, 2) := by decide +kernel
theorem dX6_skew_58 : decode cX6_skew 58 = .ok (.getfield 94, 3) := by decide +kernel
theorem dX6_skew_61 : decode cX6_skew 61 = .ok (.aload_n 3, 1) := by decide +kernel
theorem dX6_skew_62 : decode cX6_skew 62 = .ok (.if_acmp .ne 7, 3) := by decide +kernel
theorem dX6_skew_65 : decode cX6_skew 65 = .ok (.iconst 1, 1) := by decide +kernel
theorem dX6_skew_66 : decode cX6_skew 66 = .ok (.goto 4, 3) := by decide +kernel
theorem dX6_skew_69 : decode cX6_skew 69 = .ok (.iconst 0, 1) := by decide +kernel
theorem dX6_skew_70 : decode cX6_skew 70 = .ok (.putfield 98, 3) := by decide +kernel
theorem dX6_skew_73 : decode cX6_skew 73 = .ok (.aload 5, 2) := by decide +kernel
theorem dX6_skew_75 : decode cX6_skew 75 = .ok (.getfield 102, 3) := by decide +kernel
theorem dX6_skew_78 : decode cX6_skew 78 = .ok (.astore 5, 2) := by decide +kernel
theorem dX6_skew_80 : decode cX6_skew 80 = .ok (.goto (-31), 3) := by decide +kernel
theorem dX6_skew_83 : decode cX6_skew 83 = .ok (.aload_n 0, 1) := by decide +kernel
theorem dX6_skew_84 : decode cX6_skew 84 = .ok (.getfield 25, 3) := by decide +kernel
theorem dX6_skew_87 : decode cX6_skew 87 = .ok (.invokevirtual 105, 3) := by decide +kernel
theorem dX6_skew_90 : decode cX6_skew 90 = .ok (.astore 5, 2) := by decide +kernel
theorem dX6_skew_92 : decode cX6_skew 92 = .ok (.aload_n 3, 1) := by decide +kernel
theorem dX6_skew_93 : decode cX6_skew 93 = .ok (.iload_n 2, 1) := by decide +kernel
theorem dX6_skew_94 : decode cX6_skew 94 = .ok (.putfield 87, 3) := by decide +kernel
theorem dX6_skew_97 : decode cX6_skew 97 = .ok (.aload_n 0, 1) := by decide +kernel
theorem dX6_skew_98 : decode cX6_skew 98 = .ok (.getfield 25, 3) := by decide +kernel
theorem dX6_skew_101 : decode cX6_skew 101 = .ok (.aload 5, 2) := by decide +kernel
theorem dX6_skew_103 : decode cX6_skew 103 = .ok (.invokevirtual 109, 3) := by decide +kernel
theorem dX6_skew_106 : decode cX6_skew 106 = .ok (.iload 4, 2) := by decide +kernel
theorem dX6_skew_108 : decode cX6_skew 108 = .ok (.ireturn, 1) := by decide +kernel
theorem dX6_share_0 : decode cX6_share 0 = .ok (.aload_n 0, 1) := by decide +kernel
theorem dX6_share_1 : decode cX6_share 1 = .ok (.iload_n 1, 1) := by decide +kernel
theorem dX6_share_2 : decode cX6_share 2 = .ok (.invokevirtual 44, 3) := by decide +kernel
theorem dX6_share_5 : decode cX6_share 5 = .ok (.astore_n 3, 1) := by decide +kernel
theorem dX6_share_6 : decode cX6_share 6 = .ok (.aload_n 3, 1) := by decide +kernel
theorem dX6_share_7 : decode cX6_share 7 = .ok (.ifnonnull 13, 3) := by decide +kernel
theorem dX6_share_10 : decode cX6_share 10 = .ok (.new 58, 3) := by decide +kernel
theorem dX6_share_13 : decode cX6_share 13 = .ok (.dup, 1) := by decide +kernel
theorem dX6_share_14 : decode cX6_share 14 = .ok (.ldc 112, 2) := by decide +kernel
theorem dX6_share_16 : decode cX6_share 16 = .ok (.invokespecial 62, 3) := by decide +kernel
theorem dX6_share_19 : decode cX6_share 19 = .ok (.athrow, 1) := by decide +kernel
theorem dX6_share_20 : decode cX6_share 20 = .ok (.aload_n 3, 1) := by decide +kernel
theorem dX6_share_21 : decode cX6_share 21 = .ok (.getfield 114, 3) := by decide +kernel
theorem dX6_share_24 : decode cX6_share 24 = .ok (.istore 4, 2) := by decide +kernel
theorem dX6_share_26 : decode cX6_share 26 = .ok (.aload_n 3, 1) := by decide +kernel
theorem dX6_share_27 : decode cX6_share 27 = .ok (.iload_n 2, 1) := by decide +kernel
theorem dX6_share_28 : decode cX6_share 28 = .ok (.putfield 114, 3) := by decide +kernel
theorem dX6_share_31 : decode cX6_share 31 = .ok (.aload_n 0, 1) := by decide +kernel
theorem dX6_share_32 : decode cX6_share 32 = .ok (.invokevirtual 117, 3) := by decide +kernel
theorem dX6_share_35 : decode cX6_share 35 = .ok (.iload 4, 2) := by decide +kernel
theorem dX6_share_37 : decode cX6_share 37 = .ok (.ireturn, 1) := by decide +kernel
theorem dX6_link_0 : decode cX6_link 0 = .ok (.aload_n 0, 1) := by decide +kernel
theorem dX6_link_1 : decode cX6_link 1 = .ok (.iload_n 1, 1) := by decide +kernel
theorem dX6_link_2 : decode cX6_link 2 = .ok (.invokevirtual 44, 3) := by decide +kernel
theorem dX6_link_5 : decode cX6_link 5 = .ok (.astore 4, 2) := by decide +kernel
theorem dX6_link_7 : decode cX6_link 7 = .ok (.aload_n 0, 1) := by decide +kernel
theorem dX6_link_8 : decode cX6_link 8 = .ok (.iload_n 2, 1) := by decide +kernel
theorem dX6_link_9 : decode cX6_link 9 = .ok (.invokevirtual 48, 3) := by decide +kernel
theorem dX6_link_12 : decode cX6_link 12 = .ok (.astore 5, 2) := by decide +kernel
theorem dX6_link_14 : decode cX6_link 14 = .ok (.aload 4, 2) := by decide +kernel
theorem dX6_link_16 : decode cX6_link 16 = .ok (.ifnull 8, 3) := by decide +kernel
theorem dX6_link_19 : decode cX6_link 19 = .ok (.aload 5, 2) := by decide +kernel
theorem dX6_link_21 : decode cX6_link 21 = .ok (.ifnonnull 13, 3) := by decide +kernel
theorem dX6_link_24 : decode cX6_link 24 = .ok (.new 58, 3) := by decide +kernel
theorem dX6_link_27 : decode cX6_link 27 = .ok (.dup, 1) := by decide +kernel
theorem dX6_link_28 : decode cX6_link 28 = .ok (.ldc 120, 2) := by decide +kernel
theorem dX6_link_30 : decode cX6_link 30 = .ok (.invokespecial 62, 3) := by decide +kernel
theorem dX6_link_33 : decode cX6_link 33 = .ok (.athrow, 1) := by decide +kernel
theorem dX6_link_34 : decode cX6_link 34 = .ok (.aload 4, 2) := by decide +kernel
theorem dX6_link_36 : decode cX6_link 36 = .ok (.aload 5, 2) := by decide +kernel
theorem dX6_link_38 : decode cX6_link 38 = .ok (.invokevirtual 122, 3) := by decide +kernel
theorem dX6_link_41 : decode cX6_link 41 = .ok (.istore 6, 2) := by decide +kernel
theorem dX6_link_43 : decode cX6_link 43 = .ok (.aload 4, 2) := by decide +kernel
theorem dX6_link_45 : decode cX6_link 45 = .ok (.aload 5, 2) := by decide +kernel
theorem dX6_link_47 : decode cX6_link 47 = .ok (.iload_n 3, 1) := by decide +kernel
theorem dX6_link_48 : decode cX6_link 48 = .ok (.invokevirtual 126, 3) := by decide +kernel
theorem dX6_link_51 : decode cX6_link 51 = .ok (.aload_n 0, 1) := by decide +kernel
theorem dX6_link_52 : decode cX6_link 52 = .ok (.invokevirtual 117, 3) := by decide +kernel
theorem dX6_link_55 : decode cX6_link 55 = .ok (.iload 6, 2) := by decide +kernel
theorem dX6_link_57 : decode cX6_link 57 = .ok (.ireturn, 1) := by decide +kernel
theorem dX6_consent_0 : decode cX6_consent 0 = .ok (.aload_n 0, 1) := by decide +kernel
theorem dX6_consent_1 : decode cX6_consent 1 = .ok (.iload_n 1, 1) := by decide +kernel
theorem dX6_consent_2 : decode cX6_consent 2 = .ok (.invokevirtual 130, 3) := by decide +kernel
theorem dX6_consent_5 : decode cX6_consent 5 = .ok (.astore 5, 2) := by decide +kernel
theorem dX6_consent_7 : decode cX6_consent 7 = .ok (.aload 5, 2) := by decide +kernel
theorem dX6_consent_9 : decode cX6_consent 9 = .ok (.ifnull 22, 3) := by decide +kernel
theorem dX6_consent_12 : decode cX6_consent 12 = .ok (.iload_n 2, 1) := by decide +kernel
theorem dX6_consent_13 : decode cX6_consent 13 = .ok (.invokestatic 133, 3) := by decide +kernel
theorem dX6_consent_16 : decode cX6_consent 16 = .ok (.ifCond .eq 15, 3) := by decide +kernel
theorem dX6_consent_19 : decode cX6_consent 19 = .ok (.iload_n 3, 1) := by decide +kernel
theorem dX6_consent_20 : decode cX6_consent 20 = .ok (.ifCond .lt 11, 3) := by decide +kernel
theorem dX6_consent_23 : decode cX6_consent 23 = .ok (.iload_n 3, 1) := by decide +kernel
theorem dX6_consent_24 : decode cX6_consent 24 = .ok (.aload_n 0, 1) := by decide +kernel
theorem dX6_consent_25 : decode cX6_consent 25 = .ok (.getfield 40, 3) := by decide +kernel
theorem dX6_consent_28 : decode cX6_consent 28 = .ok (.if_icmp .le 13, 3) := by decide +kernel
theorem dX6_consent_31 : decode cX6_consent 31 = .ok (.new 58, 3) := by decide +kernel
theorem dX6_consent_34 : decode cX6_consent 34 = .ok (.dup, 1) := by decide +kernel
theorem dX6_consent_35 : decode cX6_consent 35 = .ok (.ldc 136, 2) := by decide +kernel
theorem dX6_consent_37 : decode cX6_consent 37 = .ok (.invokespecial 62, 3) := by decide +kernel
theorem dX6_consent_40 : decode cX6_consent 40 = .ok (.athrow, 1) := by decide +kernel
theorem dX6_consent_41 : decode cX6_consent 41 = .ok (.aload 5, 2) := by decide +kernel
theorem dX6_consent_43 : decode cX6_consent 43 = .ok (.iload_n 2, 1) := by decide +kernel
theorem dX6_consent_44 : decode cX6_consent 44 = .ok (.invokevirtual 138, 3) := by decide +kernel
theorem dX6_consent_47 : decode cX6_consent 47 = .ok (.istore 6, 2) := by decide +kernel
theorem dX6_consent_49 : decode cX6_consent 49 = .ok (.iload 6, 2) := by decide +kernel
theorem dX6_consent_51 : decode cX6_consent 51 = .ok (.bipush 20, 2) := by decide +kernel
theorem dX6_consent_53 : decode cX6_consent 53 = .ok (.if_icmp .lt 13, 3) := by decide +kernel
theorem dX6_consent_56 : decode cX6_consent 56 = .ok (.new 68, 3) := by decide +kernel
theorem dX6_consent_59 : decode cX6_consent 59 = .ok (.dup, 1) := by decide +kernel
theorem dX6_consent_60 : decode cX6_consent 60 = .ok (.ldc 142, 2) := by decide +kernel
theorem dX6_consent_62 : decode cX6_consent 62 = .ok (.invokespecial 72, 3) := by decide +kernel
theorem dX6_consent_65 : decode cX6_consent 65 = .ok (.athrow, 1) := by decide +kernel
theorem dX6_consent_66 : decode cX6_consent 66 = .ok (.aload 5, 2) := by decide +kernel
theorem dX6_consent_68 : decode cX6_consent 68 = .ok (.iload_n 2, 1) := by decide +kernel
theorem dX6_consent_69 : decode cX6_consent 69 = .ok (.iload_n 3, 1) := by decide +kernel
theorem dX6_consent_70 : decode cX6_consent 70 = .ok (.iload 4, 2) := by decide +kernel
theorem dX6_consent_72 : decode cX6_consent 72 = .ok (.invokevirtual 144, 3) := by decide +kernel
theorem dX6_consent_75 : decode cX6_consent 75 = .ok (.iload 6, 2) := by decide +kernel
theorem dX6_consent_77 : decode cX6_consent 77 = .ok (.iconst 1, 1) := by decide +kernel
theorem dX6_consent_78 : decode cX6_consent 78 = .ok (.iadd, 1) := by decide +kernel
theorem dX6_consent_79 : decode cX6_consent 79 = .ok (.ireturn, 1) := by decide +kernel
theorem dX6_group_0 : decode cX6_group 0 = .ok (.iload_n 1, 1) := by decide +kernel
theorem dX6_group_1 : decode cX6_group 1 = .ok (.invokestatic 133, 3) := by decide +kernel
theorem dX6_group_4 : decode cX6_group 4 = .ok (.ifCond .eq 29, 3) := by decide +kernel
theorem dX6_group_7 : decode cX6_group 7 = .ok (.iload_n 2, 1) := by decide +kernel
theorem dX6_group_8 : decode cX6_group 8 = .ok (.invokestatic 51, 3) := by decide +kernel
theorem dX6_group_11 : decode cX6_group 11 = .ok (.ifCond .eq 22, 3) := by decide +kernel
theorem dX6_group_14 : decode cX6_group 14 = .ok (.iload_n 3, 1) := by decide +kernel
theorem dX6_group_15 : decode cX6_group 15 = .ok (.iconst 1, 1) := by decide +kernel
theorem dX6_group_16 : decode cX6_group 16 = .ok (.if_icmp .lt 17, 3) := by decide +kernel
theorem dX6_group_19 : decode cX6_group 19 = .ok (.iload_n 3, 1) := by decide +kernel
theorem dX6_group_20 : decode cX6_group 20 = .ok (.bipush 20, 2) := by decide +kernel
theorem dX6_group_22 : decode cX6_group 22 = .ok (.if_icmp .gt 11, 3) := by decide +kernel
theorem dX6_group_25 : decode cX6_group 25 = .ok (.iload 4, 2) := by decide +kernel
theorem dX6_group_27 : decode cX6_group 27 = .ok (.invokestatic 148, 3) := by decide +kernel
theorem dX6_group_30 : decode cX6_group 30 = .ok (.ifCond .ne 13, 3) := by decide +kernel
theorem dX6_group_33 : decode cX6_group 33 = .ok (.new 58, 3) := by decide +kernel
theorem dX6_group_36 : decode cX6_group 36 = .ok (.dup, 1) := by decide +kernel
theorem dX6_group_37 : decode cX6_group 37 = .ok (.ldc 151, 2) := by decide +kernel
theorem dX6_group_39 : decode cX6_group 39 = .ok (.invokespecial 62, 3) := by decide +kernel
theorem dX6_group_42 : decode cX6_group 42 = .ok (.athrow, 1) := by decide +kernel
theorem dX6_group_43 : decode cX6_group 43 = .ok (.aload_n 0, 1) := by decide +kernel
theorem dX6_group_44 : decode cX6_group 44 = .ok (.getfield 153, 3) := by decide +kernel
theorem dX6_group_47 : decode cX6_group 47 = .ok (.bipush 8, 2) := by decide +kernel
theorem dX6_group_49 : decode cX6_group 49 = .ok (.if_icmp .lt 13, 3) := by decide +kernel
theorem dX6_group_52 : decode cX6_group 52 = .ok (.new 68, 3) := by decide +kernel
theorem dX6_group_55 : decode cX6_group 55 = .ok (.dup, 1) := by decide +kernel
theorem dX6_group_56 : decode cX6_group 56 = .ok (.ldc 156, 2) := by decide +kernel
theorem dX6_group_58 : decode cX6_group 58 = .ok (.invokespecial 72, 3) := by decide +kernel
theorem dX6_group_61 : decode cX6_group 61 = .ok (.athrow, 1) := by decide +kernel
theorem dX6_group_62 : decode cX6_group 62 = .ok (.new 158, 3) := by decide +kernel
theorem dX6_group_65 : decode cX6_group 65 = .ok (.dup, 1) := by decide +kernel
theorem dX6_group_66 : decode cX6_group 66 = .ok (.aload_n 0, 1) := by decide +kernel
theorem dX6_group_67 : decode cX6_group 67 = .ok (.getfield 153, 3) := by decide +kernel
theorem dX6_group_70 : decode cX6_group 70 = .ok (.iload_n 1, 1) := by decide +kernel
theorem dX6_group_71 : decode cX6_group 71 = .ok (.iload_n 2, 1) := by decide +kernel
theorem dX6_group_72 : decode cX6_group 72 = .ok (.iload_n 3, 1) := by decide +kernel
theorem dX6_group_73 : decode cX6_group 73 = .ok (.iload 4, 2) := by decide +kernel
theorem dX6_group_75 : decode cX6_group 75 = .ok (.invokespecial 160, 3) := by decide +kernel
theorem dX6_group_78 : decode cX6_group 78 = .ok (.astore 5, 2) := by decide +kernel
theorem dX6_group_80 : decode cX6_group 80 = .ok (.aload_n 0, 1) := by decide +kernel
theorem dX6_group_81 : decode cX6_group 81 = .ok (.getfield 163, 3) := by decide +kernel
theorem dX6_group_84 : decode cX6_group 84 = .ok (.ifnonnull 12, 3) := by decide +kernel
theorem dX6_group_87 : decode cX6_group 87 = .ok (.aload_n 0, 1) := by decide +kernel
theorem dX6_group_88 : decode cX6_group 88 = .ok (.aload 5, 2) := by decide +kernel
theorem dX6_group_90 : decode cX6_group 90 = .ok (.putfield 167, 3) := by decide +kernel
theorem dX6_group_93 : decode cX6_group 93 = .ok (.goto 12, 3) := by decide +kernel
theorem dX6_group_96 : decode cX6_group 96 = .ok (.aload_n 0, 1) := by decide +kernel
theorem dX6_group_97 : decode cX6_group 97 = .ok (.getfield 163, 3) := by decide +kernel
theorem dX6_group_100 : decode cX6_group 100 = .ok (.aload 5, 2) := by decide +kernel
theorem dX6_group_102 : decode cX6_group 102 = .ok (.putfield 170, 3) := by decide +kernel
theorem dX6_group_105 : decode cX6_group 105 = .ok (.aload_n 0, 1) := by decide +kernel
theorem dX6_group_106 : decode cX6_group 106 = .ok (.aload 5, 2) := by decide +kernel
theorem dX6_group_108 : decode cX6_group 108 = .ok (.putfield 163, 3) := by decide +kernel
theorem dX6_group_111 : decode cX6_group 111 = .ok (.aload_n 0, 1) := by decide +kernel
theorem dX6_group_112 : decode cX6_group 112 = .ok (.dup, 1) := by decide +kernel
theorem dX6_group_113 : decode cX6_group 113 = .ok (.getfield 153, 3) := by decide +kernel
theorem dX6_group_116 : decode cX6_group 116 = .ok (.iconst 1, 1) := by decide +kernel
theorem dX6_group_117 : decode cX6_group 117 = .ok (.iadd, 1) := by decide +kernel
theorem dX6_group_118 : decode cX6_group 118 = .ok (.putfield 153, 3) := by decide +kernel
theorem dX6_group_121 : decode cX6_group 121 = .ok (.aload 5, 2) := by decide +kernel
theorem dX6_group_123 : decode cX6_group 123 = .ok (.getfield 172, 3) := by decide +kernel
theorem dX6_group_126 : decode cX6_group 126 = .ok (.ireturn, 1) := by decide +kernel
theorem dX6_forget_0 : decode cX6_forget 0 = .ok (.aload_n 0, 1) := by decide +kernel
theorem dX6_forget_1 : decode cX6_forget 1 = .ok (.iload_n 1, 1) := by decide +kernel
theorem dX6_forget_2 : decode cX6_forget 2 = .ok (.invokevirtual 175, 3) := by decide +kernel
theorem dX6_forget_5 : decode cX6_forget 5 = .ok (.invokevirtual 178, 3) := by decide +kernel
theorem dX6_forget_8 : decode cX6_forget 8 = .ok (.astore_n 2, 1) := by decide +kernel
theorem dX6_forget_9 : decode cX6_forget 9 = .ok (.iconst 0, 1) := by decide +kernel
theorem dX6_forget_10 : decode cX6_forget 10 = .ok (.istore_n 3, 1) := by decide +kernel
theorem dX6_forget_11 : decode cX6_forget 11 = .ok (.aload_n 0, 1) := by decide +kernel
theorem dX6_forget_12 : decode cX6_forget 12 = .ok (.getfield 25, 3) := by decide +kernel
theorem dX6_forget_15 : decode cX6_forget 15 = .ok (.getfield 90, 3) := by decide +kernel
theorem dX6_forget_18 : decode cX6_forget 18 = .ok (.astore 4, 2) := by decide +kernel
theorem dX6_forget_20 : decode cX6_forget 20 = .ok (.aload 4, 2) := by decide +kernel
theorem dX6_forget_22 : decode cX6_forget 22 = .ok (.ifnull 40, 3) := by decide +kernel
theorem dX6_forget_25 : decode cX6_forget 25 = .ok (.aload 4, 2) := by decide +kernel
theorem dX6_forget_27 : decode cX6_forget 27 = .ok (.aload 4, 2) := by decide +kernel
theorem dX6_forget_29 : decode cX6_forget 29 = .ok (.aload_n 2, 1) := by decide +kernel
theorem dX6_forget_30 : decode cX6_forget 30 = .ok (.invokevirtual 182, 3) := by decide +kernel
theorem dX6_forget_33 : decode cX6_forget 33 = .ok (.putfield 98, 3) := by decide +kernel
theorem dX6_forget_36 : decode cX6_forget 36 = .ok (.iload_n 3, 1) := by decide +kernel
theorem dX6_forget_37 : decode cX6_forget 37 = .ok (.aload 4, 2) := by decide +kernel
theorem dX6_forget_39 : decode cX6_forget 39 = .ok (.getfield 98, 3) := by decide +kernel
theorem dX6_forget_42 : decode cX6_forget 42 = .ok (.ifCond .eq 7, 3) := by decide +kernel
theorem dX6_forget_45 : decode cX6_forget 45 = .ok (.iconst 1, 1) := by decide +kernel
theorem dX6_forget_46 : decode cX6_forget 46 = .ok (.goto 4, 3) := by decide +kernel
theorem dX6_forget_49 : decode cX6_forget 49 = .ok (.iconst 0, 1) := by decide +kernel
theorem dX6_forget_50 : decode cX6_forget 50 = .ok (.iadd, 1) := by decide +kernel
theorem dX6_forget_51 : decode cX6_forget 51 = .ok (.istore_n 3, 1) := by decide +kernel
theorem dX6_forget_52 : decode cX6_forget 52 = .ok (.aload 4, 2) := by decide +kernel
theorem dX6_forget_54 : decode cX6_forget 54 = .ok (.getfield 102, 3) := by decide +kernel
theorem dX6_forget_57 : decode cX6_forget 57 = .ok (.astore 4, 2) := by decide +kernel
theorem dX6_forget_59 : decode cX6_forget 59 = .ok (.goto (-39), 3) := by decide +kernel
theorem dX6_forget_62 : decode cX6_forget 62 = .ok (.aload_n 0, 1) := by decide +kernel
theorem dX6_forget_63 : decode cX6_forget 63 = .ok (.getfield 25, 3) := by decide +kernel
theorem dX6_forget_66 : decode cX6_forget 66 = .ok (.invokevirtual 105, 3) := by decide +kernel
theorem dX6_forget_69 : decode cX6_forget 69 = .ok (.pop, 1) := by decide +kernel
theorem dX6_forget_70 : decode cX6_forget 70 = .ok (.aload_n 0, 1) := by decide +kernel
theorem dX6_forget_71 : decode cX6_forget 71 = .ok (.getfield 11, 3) := by decide +kernel
theorem dX6_forget_74 : decode cX6_forget 74 = .ok (.astore 4, 2) := by decide +kernel
theorem dX6_forget_76 : decode cX6_forget 76 = .ok (.aload 4, 2) := by decide +kernel
theorem dX6_forget_78 : decode cX6_forget 78 = .ok (.arraylength, 1) := by decide +kernel
theorem dX6_forget_79 : decode cX6_forget 79 = .ok (.istore 5, 2) := by decide +kernel
theorem dX6_forget_81 : decode cX6_forget 81 = .ok (.iconst 0, 1) := by decide +kernel
theorem dX6_forget_82 : decode cX6_forget 82 = .ok (.istore 6, 2) := by decide +kernel
theorem dX6_forget_84 : decode cX6_forget 84 = .ok (.iload 6, 2) := by decide +kernel
theorem dX6_forget_86 : decode cX6_forget 86 = .ok (.iload 5, 2) := by decide +kernel
theorem dX6_forget_88 : decode cX6_forget 88 = .ok (.if_icmp .ge 30, 3) := by decide +kernel
theorem dX6_forget_91 : decode cX6_forget 91 = .ok (.aload 4, 2) := by decide +kernel
theorem dX6_forget_93 : decode cX6_forget 93 = .ok (.iload 6, 2) := by decide +kernel
theorem dX6_forget_95 : decode cX6_forget 95 = .ok (.aaload, 1) := by decide +kernel
theorem dX6_forget_96 : decode cX6_forget 96 = .ok (.astore 7, 2) := by decide +kernel
theorem dX6_forget_98 : decode cX6_forget 98 = .ok (.aload 7, 2) := by decide +kernel
theorem dX6_forget_100 : decode cX6_forget 100 = .ok (.invokevirtual 178, 3) := by decide +kernel
theorem dX6_forget_103 : decode cX6_forget 103 = .ok (.aload_n 2, 1) := by decide +kernel
theorem dX6_forget_104 : decode cX6_forget 104 = .ok (.if_acmp .ne 8, 3) := by decide +kernel
theorem dX6_forget_107 : decode cX6_forget 107 = .ok (.aload 7, 2) := by decide +kernel
theorem dX6_forget_109 : decode cX6_forget 109 = .ok (.invokevirtual 185, 3) := by decide +kernel
theorem dX6_forget_112 : decode cX6_forget 112 = .ok (.iinc 6 1, 3) := by decide +kernel
theorem dX6_forget_115 : decode cX6_forget 115 = .ok (.goto (-31), 3) := by decide +kernel
theorem dX6_forget_118 : decode cX6_forget 118 = .ok (.aload_n 0, 1) := by decide +kernel
theorem dX6_forget_119 : decode cX6_forget 119 = .ok (.invokevirtual 117, 3) := by decide +kernel
theorem dX6_forget_122 : decode cX6_forget 122 = .ok (.iload_n 3, 1) := by decide +kernel
theorem dX6_forget_123 : decode cX6_forget 123 = .ok (.ireturn, 1) := by decide +kernel
theorem dX6_pass_0 : decode cX6_pass 0 = .ok (.iload_n 1, 1) := by decide +kernel
theorem dX6_pass_1 : decode cX6_pass 1 = .ok (.iconst 1, 1) := by decide +kernel
theorem dX6_pass_2 : decode cX6_pass 2 = .ok (.if_icmp .lt 10, 3) := by decide +kernel
theorem dX6_pass_5 : decode cX6_pass 5 = .ok (.iload_n 1, 1) := by decide +kernel
theorem dX6_pass_6 : decode cX6_pass 6 = .ok (.sipush 20000, 3) := by decide +kernel
theorem dX6_pass_9 : decode cX6_pass 9 = .ok (.if_icmp .le 13, 3) := by decide +kernel
theorem dX6_pass_12 : decode cX6_pass 12 = .ok (.new 58, 3) := by decide +kernel
theorem dX6_pass_15 : decode cX6_pass 15 = .ok (.dup, 1) := by decide +kernel
theorem dX6_pass_16 : decode cX6_pass 16 = .ok (.ldc 188, 2) := by decide +kernel
theorem dX6_pass_18 : decode cX6_pass 18 = .ok (.invokespecial 62, 3) := by decide +kernel
theorem dX6_pass_21 : decode cX6_pass 21 = .ok (.athrow, 1) := by decide +kernel
theorem dX6_pass_22 : decode cX6_pass 22 = .ok (.aload_n 0, 1) := by decide +kernel
theorem dX6_pass_23 : decode cX6_pass 23 = .ok (.getfield 40, 3) := by decide +kernel
theorem dX6_pass_26 : decode cX6_pass 26 = .ok (.iload_n 1, 1) := by decide +kernel
theorem dX6_pass_27 : decode cX6_pass 27 = .ok (.iadd, 1) := by decide +kernel
theorem dX6_pass_28 : decode cX6_pass 28 = .ok (.ldc 190, 2) := by decide +kernel
theorem dX6_pass_30 : decode cX6_pass 30 = .ok (.if_icmp .le 13, 3) := by decide +kernel
theorem dX6_pass_33 : decode cX6_pass 33 = .ok (.new 68, 3) := by decide +kernel
theorem dX6_pass_36 : decode cX6_pass 36 = .ok (.dup, 1) := by decide +kernel
theorem dX6_pass_37 : decode cX6_pass 37 = .ok (.ldc 191, 2) := by decide +kernel
theorem dX6_pass_39 : decode cX6_pass 39 = .ok (.invokespecial 72, 3) := by decide +kernel
theorem dX6_pass_42 : decode cX6_pass 42 = .ok (.athrow, 1) := by decide +kernel
theorem dX6_pass_43 : decode cX6_pass 43 = .ok (.aload_n 0, 1) := by decide +kernel
theorem dX6_pass_44 : decode cX6_pass 44 = .ok (.dup, 1) := by decide +kernel
theorem dX6_pass_45 : decode cX6_pass 45 = .ok (.getfield 40, 3) := by decide +kernel
theorem dX6_pass_48 : decode cX6_pass 48 = .ok (.iload_n 1, 1) := by decide +kernel
theorem dX6_pass_49 : decode cX6_pass 49 = .ok (.iadd, 1) := by decide +kernel
theorem dX6_pass_50 : decode cX6_pass 50 = .ok (.putfield 40, 3) := by decide +kernel
theorem dX6_pass_53 : decode cX6_pass 53 = .ok (.aload_n 0, 1) := by decide +kernel
theorem dX6_pass_54 : decode cX6_pass 54 = .ok (.getfield 40, 3) := by decide +kernel
theorem dX6_pass_57 : decode cX6_pass 57 = .ok (.ireturn, 1) := by decide +kernel
theorem dX6_profile_0 : decode cX6_profile 0 = .ok (.aload_n 0, 1) := by decide +kernel
theorem dX6_profile_1 : decode cX6_profile 1 = .ok (.iload_n 1, 1) := by decide +kernel
theorem dX6_profile_2 : decode cX6_profile 2 = .ok (.invokevirtual 175, 3) := by decide +kernel
theorem dX6_profile_5 : decode cX6_profile 5 = .ok (.invokevirtual 178, 3) := by decide +kernel
theorem dX6_profile_8 : decode cX6_profile 8 = .ok (.getfield 193, 3) := by decide +kernel
theorem dX6_profile_11 : decode cX6_profile 11 = .ok (.ireturn, 1) := by decide +kernel
theorem dX6_profileAnew_0 : decode cX6_profileAnew 0 = .ok (.aload_n 0, 1) := by decide +kernel
theorem dX6_profileAnew_1 : decode cX6_profileAnew 1 = .ok (.iload_n 1, 1) := by decide +kernel
theorem dX6_profileAnew_2 : decode cX6_profileAnew 2 = .ok (.invokevirtual 175, 3) := by decide +kernel
theorem dX6_profileAnew_5 : decode cX6_profileAnew 5 = .ok (.astore_n 2, 1) := by decide +kernel
theorem dX6_profileAnew_6 : decode cX6_profileAnew 6 = .ok (.aload_n 0, 1) := by decide +kernel
theorem dX6_profileAnew_7 : decode cX6_profileAnew 7 = .ok (.invokevirtual 117, 3) := by decide +kernel
theorem dX6_profileAnew_10 : decode cX6_profileAnew 10 = .ok (.aload_n 2, 1) := by decide +kernel
theorem dX6_profileAnew_11 : decode cX6_profileAnew 11 = .ok (.invokevirtual 178, 3) := by decide +kernel
theorem dX6_profileAnew_14 : decode cX6_profileAnew 14 = .ok (.getfield 193, 3) := by decide +kernel
theorem dX6_profileAnew_17 : decode cX6_profileAnew 17 = .ok (.ireturn, 1) := by decide +kernel
theorem dX6_events_0 : decode cX6_events 0 = .ok (.aload_n 0, 1) := by decide +kernel
theorem dX6_events_1 : decode cX6_events 1 = .ok (.iload_n 1, 1) := by decide +kernel
theorem dX6_events_2 : decode cX6_events 2 = .ok (.invokevirtual 130, 3) := by decide +kernel
theorem dX6_events_5 : decode cX6_events 5 = .ok (.astore_n 3, 1) := by decide +kernel
theorem dX6_events_6 : decode cX6_events 6 = .ok (.aload_n 3, 1) := by decide +kernel
theorem dX6_events_7 : decode cX6_events 7 = .ok (.ifnull 15, 3) := by decide +kernel
theorem dX6_events_10 : decode cX6_events 10 = .ok (.iload_n 2, 1) := by decide +kernel
theorem dX6_events_11 : decode cX6_events 11 = .ok (.iconst (-1), 1) := by decide +kernel
theorem dX6_events_12 : decode cX6_events 12 = .ok (.if_icmp .eq 20, 3) := by decide +kernel
theorem dX6_events_15 : decode cX6_events 15 = .ok (.iload_n 2, 1) := by decide +kernel
theorem dX6_events_16 : decode cX6_events 16 = .ok (.invokestatic 51, 3) := by decide +kernel
theorem dX6_events_19 : decode cX6_events 19 = .ok (.ifCond .ne 13, 3) := by decide +kernel
theorem dX6_events_22 : decode cX6_events 22 = .ok (.new 58, 3) := by decide +kernel
theorem dX6_events_25 : decode cX6_events 25 = .ok (.dup, 1) := by decide +kernel
theorem dX6_events_26 : decode cX6_events 26 = .ok (.ldc 194, 2) := by decide +kernel
theorem dX6_events_28 : decode cX6_events 28 = .ok (.invokespecial 62, 3) := by decide +kernel
theorem dX6_events_31 : decode cX6_events 31 = .ok (.athrow, 1) := by decide +kernel
theorem dX6_events_32 : decode cX6_events 32 = .ok (.aload_n 3, 1) := by decide +kernel
theorem dX6_events_33 : decode cX6_events 33 = .ok (.invokevirtual 178, 3) := by decide +kernel
theorem dX6_events_36 : decode cX6_events 36 = .ok (.astore 4, 2) := by decide +kernel
theorem dX6_events_38 : decode cX6_events 38 = .ok (.iconst 0, 1) := by decide +kernel
theorem dX6_events_39 : decode cX6_events 39 = .ok (.istore 5, 2) := by decide +kernel
theorem dX6_events_41 : decode cX6_events 41 = .ok (.aload_n 0, 1) := by decide +kernel
theorem dX6_events_42 : decode cX6_events 42 = .ok (.getfield 25, 3) := by decide +kernel
theorem dX6_events_45 : decode cX6_events 45 = .ok (.getfield 90, 3) := by decide +kernel
theorem dX6_events_48 : decode cX6_events 48 = .ok (.astore 6, 2) := by decide +kernel
theorem dX6_events_50 : decode cX6_events 50 = .ok (.aload 6, 2) := by decide +kernel
theorem dX6_events_52 : decode cX6_events 52 = .ok (.ifnull 40, 3) := by decide +kernel
theorem dX6_events_55 : decode cX6_events 55 = .ok (.aload 6, 2) := by decide +kernel
theorem dX6_events_57 : decode cX6_events 57 = .ok (.aload 4, 2) := by decide +kernel
theorem dX6_events_59 : decode cX6_events 59 = .ok (.invokevirtual 182, 3) := by decide +kernel
theorem dX6_events_62 : decode cX6_events 62 = .ok (.ifCond .eq 20, 3) := by decide +kernel
theorem dX6_events_65 : decode cX6_events 65 = .ok (.iload_n 2, 1) := by decide +kernel
theorem dX6_events_66 : decode cX6_events 66 = .ok (.iconst (-1), 1) := by decide +kernel
theorem dX6_events_67 : decode cX6_events 67 = .ok (.if_icmp .eq 12, 3) := by decide +kernel
theorem dX6_events_70 : decode cX6_events 70 = .ok (.aload 6, 2) := by decide +kernel
theorem dX6_events_72 : decode cX6_events 72 = .ok (.getfield 196, 3) := by decide +kernel
theorem dX6_events_75 : decode cX6_events 75 = .ok (.iload_n 2, 1) := by decide +kernel
theorem dX6_events_76 : decode cX6_events 76 = .ok (.if_icmp .ne 6, 3) := by decide +kernel
theorem dX6_events_79 : decode cX6_events 79 = .ok (.iinc 5 1, 3) := by decide +kernel
theorem dX6_events_82 : decode cX6_events 82 = .ok (.aload 6, 2) := by decide +kernel
theorem dX6_events_84 : decode cX6_events 84 = .ok (.getfield 102, 3) := by decide +kernel
theorem dX6_events_87 : decode cX6_events 87 = .ok (.astore 6, 2) := by decide +kernel
theorem dX6_events_89 : decode cX6_events 89 = .ok (.goto (-39), 3) := by decide +kernel
theorem dX6_events_92 : decode cX6_events 92 = .ok (.iload 5, 2) := by decide +kernel
theorem dX6_events_94 : decode cX6_events 94 = .ok (.ireturn, 1) := by decide +kernel
theorem dX6_eventAt_0 : decode cX6_eventAt 0 = .ok (.aload_n 0, 1) := by decide +kernel
theorem dX6_eventAt_1 : decode cX6_eventAt 1 = .ok (.iload_n 1, 1) := by decide +kernel
theorem dX6_eventAt_2 : decode cX6_eventAt 2 = .ok (.invokevirtual 175, 3) := by decide +kernel
theorem dX6_eventAt_5 : decode cX6_eventAt 5 = .ok (.invokevirtual 178, 3) := by decide +kernel
theorem dX6_eventAt_8 : decode cX6_eventAt 8 = .ok (.astore_n 3, 1) := by decide +kernel
theorem dX6_eventAt_9 : decode cX6_eventAt 9 = .ok (.iconst 0, 1) := by decide +kernel
theorem dX6_eventAt_10 : decode cX6_eventAt 10 = .ok (.istore 4, 2) := by decide +kernel
theorem dX6_eventAt_12 : decode cX6_eventAt 12 = .ok (.aload_n 0, 1) := by decide +kernel
theorem dX6_eventAt_13 : decode cX6_eventAt 13 = .ok (.getfield 25, 3) := by decide +kernel
theorem dX6_eventAt_16 : decode cX6_eventAt 16 = .ok (.getfield 90, 3) := by decide +kernel
theorem dX6_eventAt_19 : decode cX6_eventAt 19 = .ok (.astore 5, 2) := by decide +kernel
theorem dX6_eventAt_21 : decode cX6_eventAt 21 = .ok (.aload 5, 2) := by decide +kernel
theorem dX6_eventAt_23 : decode cX6_eventAt 23 = .ok (.ifnull 37, 3) := by decide +kernel
theorem dX6_eventAt_26 : decode cX6_eventAt 26 = .ok (.aload 5, 2) := by decide +kernel
theorem dX6_eventAt_28 : decode cX6_eventAt 28 = .ok (.aload_n 3, 1) := by decide +kernel
theorem dX6_eventAt_29 : decode cX6_eventAt 29 = .ok (.invokevirtual 182, 3) := by decide +kernel
theorem dX6_eventAt_32 : decode cX6_eventAt 32 = .ok (.ifCond .eq 18, 3) := by decide +kernel
theorem dX6_eventAt_35 : decode cX6_eventAt 35 = .ok (.iload 4, 2) := by decide +kernel
theorem dX6_eventAt_37 : decode cX6_eventAt 37 = .ok (.iload_n 2, 1) := by decide +kernel
theorem dX6_eventAt_38 : decode cX6_eventAt 38 = .ok (.if_icmp .ne 9, 3) := by decide +kernel
theorem dX6_eventAt_41 : decode cX6_eventAt 41 = .ok (.aload 5, 2) := by decide +kernel
theorem dX6_eventAt_43 : decode cX6_eventAt 43 = .ok (.getfield 199, 3) := by decide +kernel
theorem dX6_eventAt_46 : decode cX6_eventAt 46 = .ok (.ireturn, 1) := by decide +kernel
theorem dX6_eventAt_47 : decode cX6_eventAt 47 = .ok (.iinc 4 1, 3) := by decide +kernel
theorem dX6_eventAt_50 : decode cX6_eventAt 50 = .ok (.aload 5, 2) := by decide +kernel
theorem dX6_eventAt_52 : decode cX6_eventAt 52 = .ok (.getfield 102, 3) := by decide +kernel
theorem dX6_eventAt_55 : decode cX6_eventAt 55 = .ok (.astore 5, 2) := by decide +kernel
theorem dX6_eventAt_57 : decode cX6_eventAt 57 = .ok (.goto (-36), 3) := by decide +kernel
theorem dX6_eventAt_60 : decode cX6_eventAt 60 = .ok (.new 200, 3) := by decide +kernel
theorem dX6_eventAt_63 : decode cX6_eventAt 63 = .ok (.dup, 1) := by decide +kernel
theorem dX6_eventAt_64 : decode cX6_eventAt 64 = .ok (.ldc 202, 2) := by decide +kernel
theorem dX6_eventAt_66 : decode cX6_eventAt 66 = .ok (.invokespecial 204, 3) := by decide +kernel
theorem dX6_eventAt_69 : decode cX6_eventAt 69 = .ok (.athrow, 1) := by decide +kernel
theorem dX6_time_0 : decode cX6_time 0 = .ok (.aload_n 0, 1) := by decide +kernel
theorem dX6_time_1 : decode cX6_time 1 = .ok (.getfield 25, 3) := by decide +kernel
theorem dX6_time_4 : decode cX6_time 4 = .ok (.getfield 90, 3) := by decide +kernel
theorem dX6_time_7 : decode cX6_time 7 = .ok (.astore_n 2, 1) := by decide +kernel
theorem dX6_time_8 : decode cX6_time 8 = .ok (.aload_n 2, 1) := by decide +kernel
theorem dX6_time_9 : decode cX6_time 9 = .ok (.ifnull 24, 3) := by decide +kernel
theorem dX6_time_12 : decode cX6_time 12 = .ok (.aload_n 2, 1) := by decide +kernel
theorem dX6_time_13 : decode cX6_time 13 = .ok (.getfield 199, 3) := by decide +kernel
theorem dX6_time_16 : decode cX6_time 16 = .ok (.iload_n 1, 1) := by decide +kernel
theorem dX6_time_17 : decode cX6_time 17 = .ok (.if_icmp .ne 8, 3) := by decide +kernel
theorem dX6_time_20 : decode cX6_time 20 = .ok (.aload_n 2, 1) := by decide +kernel
theorem dX6_time_21 : decode cX6_time 21 = .ok (.invokevirtual 205, 3) := by decide +kernel
theorem dX6_time_24 : decode cX6_time 24 = .ok (.ireturn, 1) := by decide +kernel
theorem dX6_time_25 : decode cX6_time 25 = .ok (.aload_n 2, 1) := by decide +kernel
theorem dX6_time_26 : decode cX6_time 26 = .ok (.getfield 102, 3) := by decide +kernel
theorem dX6_time_29 : decode cX6_time 29 = .ok (.astore_n 2, 1) := by decide +kernel
theorem dX6_time_30 : decode cX6_time 30 = .ok (.goto (-22), 3) := by decide +kernel
theorem dX6_time_33 : decode cX6_time 33 = .ok (.iconst (-1), 1) := by decide +kernel
theorem dX6_time_34 : decode cX6_time 34 = .ok (.ireturn, 1) := by decide +kernel
theorem dX6_sessions_0 : decode cX6_sessions 0 = .ok (.aload_n 0, 1) := by decide +kernel
theorem dX6_sessions_1 : decode cX6_sessions 1 = .ok (.aload_n 0, 1) := by decide +kernel
theorem dX6_sessions_2 : decode cX6_sessions 2 = .ok (.iload_n 1, 1) := by decide +kernel
theorem dX6_sessions_3 : decode cX6_sessions 3 = .ok (.invokevirtual 175, 3) := by decide +kernel
theorem dX6_sessions_6 : decode cX6_sessions 6 = .ok (.invokevirtual 178, 3) := by decide +kernel
theorem dX6_sessions_9 : decode cX6_sessions 9 = .ok (.sipush 200, 3) := by decide +kernel
theorem dX6_sessions_12 : decode cX6_sessions 12 = .ok (.invokevirtual 209, 3) := by decide +kernel
theorem dX6_sessions_15 : decode cX6_sessions 15 = .ok (.aload_n 0, 1) := by decide +kernel
theorem dX6_sessions_16 : decode cX6_sessions 16 = .ok (.getfield 32, 3) := by decide +kernel
theorem dX6_sessions_19 : decode cX6_sessions 19 = .ok (.getfield 213, 3) := by decide +kernel
theorem dX6_sessions_22 : decode cX6_sessions 22 = .ok (.ireturn, 1) := by decide +kernel
theorem dX6_session_0 : decode cX6_session 0 = .ok (.aload_n 0, 1) := by decide +kernel
theorem dX6_session_1 : decode cX6_session 1 = .ok (.iload_n 1, 1) := by decide +kernel
theorem dX6_session_2 : decode cX6_session 2 = .ok (.invokevirtual 130, 3) := by decide +kernel
theorem dX6_session_5 : decode cX6_session 5 = .ok (.astore 4, 2) := by decide +kernel
theorem dX6_session_7 : decode cX6_session 7 = .ok (.aload 4, 2) := by decide +kernel
theorem dX6_session_9 : decode cX6_session 9 = .ok (.ifnull 12, 3) := by decide +kernel
theorem dX6_session_12 : decode cX6_session 12 = .ok (.iload_n 3, 1) := by decide +kernel
theorem dX6_session_13 : decode cX6_session 13 = .ok (.ifCond .lt 8, 3) := by decide +kernel
theorem dX6_session_16 : decode cX6_session 16 = .ok (.iload_n 3, 1) := by decide +kernel
theorem dX6_session_17 : decode cX6_session 17 = .ok (.iconst 3, 1) := by decide +kernel
theorem dX6_session_18 : decode cX6_session 18 = .ok (.if_icmp .le 13, 3) := by decide +kernel
theorem dX6_session_21 : decode cX6_session 21 = .ok (.new 58, 3) := by decide +kernel
theorem dX6_session_24 : decode cX6_session 24 = .ok (.dup, 1) := by decide +kernel
theorem dX6_session_25 : decode cX6_session 25 = .ok (.ldc 216, 2) := by decide +kernel
theorem dX6_session_27 : decode cX6_session 27 = .ok (.invokespecial 62, 3) := by decide +kernel
theorem dX6_session_30 : decode cX6_session 30 = .ok (.athrow, 1) := by decide +kernel
theorem dX6_session_31 : decode cX6_session 31 = .ok (.aload_n 0, 1) := by decide +kernel
theorem dX6_session_32 : decode cX6_session 32 = .ok (.aload 4, 2) := by decide +kernel
theorem dX6_session_34 : decode cX6_session 34 = .ok (.invokevirtual 178, 3) := by decide +kernel
theorem dX6_session_37 : decode cX6_session 37 = .ok (.iload_n 2, 1) := by decide +kernel
theorem dX6_session_38 : decode cX6_session 38 = .ok (.invokevirtual 209, 3) := by decide +kernel
theorem dX6_session_41 : decode cX6_session 41 = .ok (.iload_n 2, 1) := by decide +kernel
theorem dX6_session_42 : decode cX6_session 42 = .ok (.ifCond .lt 14, 3) := by decide +kernel
theorem dX6_session_45 : decode cX6_session 45 = .ok (.iload_n 2, 1) := by decide +kernel
theorem dX6_session_46 : decode cX6_session 46 = .ok (.aload_n 0, 1) := by decide +kernel
theorem dX6_session_47 : decode cX6_session 47 = .ok (.getfield 32, 3) := by decide +kernel
theorem dX6_session_50 : decode cX6_session 50 = .ok (.getfield 213, 3) := by decide +kernel
theorem dX6_session_53 : decode cX6_session 53 = .ok (.if_icmp .lt 13, 3) := by decide +kernel
theorem dX6_session_56 : decode cX6_session 56 = .ok (.new 200, 3) := by decide +kernel
theorem dX6_session_59 : decode cX6_session 59 = .ok (.dup, 1) := by decide +kernel
theorem dX6_session_60 : decode cX6_session 60 = .ok (.ldc 218, 2) := by decide +kernel
theorem dX6_session_62 : decode cX6_session 62 = .ok (.invokespecial 204, 3) := by decide +kernel
theorem dX6_session_65 : decode cX6_session 65 = .ok (.athrow, 1) := by decide +kernel
theorem dX6_session_66 : decode cX6_session 66 = .ok (.iload_n 3, 1) := by decide +kernel
theorem dX6_session_67 : decode cX6_session 67 = .ok (.tableswitch 57 0 2 #[25, 33, 49], 25) := by decide +kernel
theorem dX6_session_92 : decode cX6_session 92 = .ok (.aload_n 0, 1) := by decide +kernel
theorem dX6_session_93 : decode cX6_session 93 = .ok (.getfield 32, 3) := by decide +kernel
theorem dX6_session_96 : decode cX6_session 96 = .ok (.getfield 220, 3) := by decide +kernel
theorem dX6_session_99 : decode cX6_session 99 = .ok (.ireturn, 1) := by decide +kernel
theorem dX6_session_100 : decode cX6_session 100 = .ok (.aload_n 0, 1) := by decide +kernel
theorem dX6_session_101 : decode cX6_session 101 = .ok (.getfield 32, 3) := by decide +kernel
theorem dX6_session_104 : decode cX6_session 104 = .ok (.getfield 223, 3) := by decide +kernel
theorem dX6_session_107 : decode cX6_session 107 = .ok (.aload_n 0, 1) := by decide +kernel
theorem dX6_session_108 : decode cX6_session 108 = .ok (.getfield 32, 3) := by decide +kernel
theorem dX6_session_111 : decode cX6_session 111 = .ok (.getfield 220, 3) := by decide +kernel
theorem dX6_session_114 : decode cX6_session 114 = .ok (.isub, 1) := by decide +kernel
theorem dX6_session_115 : decode cX6_session 115 = .ok (.ireturn, 1) := by decide +kernel
theorem dX6_session_116 : decode cX6_session 116 = .ok (.aload_n 0, 1) := by decide +kernel
theorem dX6_session_117 : decode cX6_session 117 = .ok (.getfield 32, 3) := by decide +kernel
theorem dX6_session_120 : decode cX6_session 120 = .ok (.getfield 226, 3) := by decide +kernel
theorem dX6_session_123 : decode cX6_session 123 = .ok (.ireturn, 1) := by decide +kernel
theorem dX6_session_124 : decode cX6_session 124 = .ok (.aload_n 0, 1) := by decide +kernel
theorem dX6_session_125 : decode cX6_session 125 = .ok (.getfield 32, 3) := by decide +kernel
theorem dX6_session_128 : decode cX6_session 128 = .ok (.getfield 229, 3) := by decide +kernel
theorem dX6_session_131 : decode cX6_session 131 = .ok (.ireturn, 1) := by decide +kernel
theorem dX6_counted_0 : decode cX6_counted 0 = .ok (.aload_n 0, 1) := by decide +kernel
theorem dX6_counted_1 : decode cX6_counted 1 = .ok (.iload_n 1, 1) := by decide +kernel
theorem dX6_counted_2 : decode cX6_counted 2 = .ok (.invokevirtual 130, 3) := by decide +kernel
theorem dX6_counted_5 : decode cX6_counted 5 = .ok (.astore 6, 2) := by decide +kernel
theorem dX6_counted_7 : decode cX6_counted 7 = .ok (.aload 6, 2) := by decide +kernel
theorem dX6_counted_9 : decode cX6_counted 9 = .ok (.ifnull 33, 3) := by decide +kernel
theorem dX6_counted_12 : decode cX6_counted 12 = .ok (.iload_n 2, 1) := by decide +kernel
theorem dX6_counted_13 : decode cX6_counted 13 = .ok (.invokestatic 133, 3) := by decide +kernel
theorem dX6_counted_16 : decode cX6_counted 16 = .ok (.ifCond .eq 26, 3) := by decide +kernel
theorem dX6_counted_19 : decode cX6_counted 19 = .ok (.iload_n 3, 1) := by decide +kernel
theorem dX6_counted_20 : decode cX6_counted 20 = .ok (.invokestatic 51, 3) := by decide +kernel
theorem dX6_counted_23 : decode cX6_counted 23 = .ok (.ifCond .eq 19, 3) := by decide +kernel
theorem dX6_counted_26 : decode cX6_counted 26 = .ok (.iload 4, 2) := by decide +kernel
theorem dX6_counted_28 : decode cX6_counted 28 = .ok (.invokestatic 55, 3) := by decide +kernel
theorem dX6_counted_31 : decode cX6_counted 31 = .ok (.ifCond .eq 11, 3) := by decide +kernel
theorem dX6_counted_34 : decode cX6_counted 34 = .ok (.iload 5, 2) := by decide +kernel
theorem dX6_counted_36 : decode cX6_counted 36 = .ok (.invokestatic 148, 3) := by decide +kernel
theorem dX6_counted_39 : decode cX6_counted 39 = .ok (.ifCond .ne 13, 3) := by decide +kernel
theorem dX6_counted_42 : decode cX6_counted 42 = .ok (.new 58, 3) := by decide +kernel
theorem dX6_counted_45 : decode cX6_counted 45 = .ok (.dup, 1) := by decide +kernel
theorem dX6_counted_46 : decode cX6_counted 46 = .ok (.ldc 60, 2) := by decide +kernel
theorem dX6_counted_48 : decode cX6_counted 48 = .ok (.invokespecial 62, 3) := by decide +kernel
theorem dX6_counted_51 : decode cX6_counted 51 = .ok (.athrow, 1) := by decide +kernel
theorem dX6_counted_52 : decode cX6_counted 52 = .ok (.aload_n 0, 1) := by decide +kernel
theorem dX6_counted_53 : decode cX6_counted 53 = .ok (.aload 6, 2) := by decide +kernel
theorem dX6_counted_55 : decode cX6_counted 55 = .ok (.invokevirtual 178, 3) := by decide +kernel
theorem dX6_counted_58 : decode cX6_counted 58 = .ok (.iload_n 2, 1) := by decide +kernel
theorem dX6_counted_59 : decode cX6_counted 59 = .ok (.iload_n 3, 1) := by decide +kernel
theorem dX6_counted_60 : decode cX6_counted 60 = .ok (.iload 4, 2) := by decide +kernel
theorem dX6_counted_62 : decode cX6_counted 62 = .ok (.iload 5, 2) := by decide +kernel
theorem dX6_counted_64 : decode cX6_counted 64 = .ok (.invokevirtual 232, 3) := by decide +kernel
theorem dX6_counted_67 : decode cX6_counted 67 = .ok (.ireturn, 1) := by decide +kernel
theorem dX6_groups_0 : decode cX6_groups 0 = .ok (.aload_n 0, 1) := by decide +kernel
theorem dX6_groups_1 : decode cX6_groups 1 = .ok (.iload_n 1, 1) := by decide +kernel
theorem dX6_groups_2 : decode cX6_groups 2 = .ok (.invokevirtual 175, 3) := by decide +kernel
theorem dX6_groups_5 : decode cX6_groups 5 = .ok (.invokevirtual 178, 3) := by decide +kernel
theorem dX6_groups_8 : decode cX6_groups 8 = .ok (.astore_n 2, 1) := by decide +kernel
theorem dX6_groups_9 : decode cX6_groups 9 = .ok (.iconst 0, 1) := by decide +kernel
theorem dX6_groups_10 : decode cX6_groups 10 = .ok (.istore_n 3, 1) := by decide +kernel
theorem dX6_groups_11 : decode cX6_groups 11 = .ok (.aload_n 0, 1) := by decide +kernel
theorem dX6_groups_12 : decode cX6_groups 12 = .ok (.getfield 167, 3) := by decide +kernel
theorem dX6_groups_15 : decode cX6_groups 15 = .ok (.astore 4, 2) := by decide +kernel
theorem dX6_groups_17 : decode cX6_groups 17 = .ok (.aload 4, 2) := by decide +kernel
theorem dX6_groups_19 : decode cX6_groups 19 = .ok (.ifnull 55, 3) := by decide +kernel
theorem dX6_groups_22 : decode cX6_groups 22 = .ok (.aload_n 0, 1) := by decide +kernel
theorem dX6_groups_23 : decode cX6_groups 23 = .ok (.aload_n 2, 1) := by decide +kernel
theorem dX6_groups_24 : decode cX6_groups 24 = .ok (.aload 4, 2) := by decide +kernel
theorem dX6_groups_26 : decode cX6_groups 26 = .ok (.getfield 236, 3) := by decide +kernel
theorem dX6_groups_29 : decode cX6_groups 29 = .ok (.aload 4, 2) := by decide +kernel
theorem dX6_groups_31 : decode cX6_groups 31 = .ok (.getfield 239, 3) := by decide +kernel
theorem dX6_groups_34 : decode cX6_groups 34 = .ok (.aload_n 0, 1) := by decide +kernel
theorem dX6_groups_35 : decode cX6_groups 35 = .ok (.getfield 40, 3) := by decide +kernel
theorem dX6_groups_38 : decode cX6_groups 38 = .ok (.aload 4, 2) := by decide +kernel
theorem dX6_groups_40 : decode cX6_groups 40 = .ok (.getfield 240, 3) := by decide +kernel
theorem dX6_groups_43 : decode cX6_groups 43 = .ok (.invokevirtual 232, 3) := by decide +kernel
theorem dX6_groups_46 : decode cX6_groups 46 = .ok (.aload 4, 2) := by decide +kernel
theorem dX6_groups_48 : decode cX6_groups 48 = .ok (.getfield 243, 3) := by decide +kernel
theorem dX6_groups_51 : decode cX6_groups 51 = .ok (.if_icmp .lt 13, 3) := by decide +kernel
theorem dX6_groups_54 : decode cX6_groups 54 = .ok (.iload_n 3, 1) := by decide +kernel
theorem dX6_groups_55 : decode cX6_groups 55 = .ok (.iconst 1, 1) := by decide +kernel
theorem dX6_groups_56 : decode cX6_groups 56 = .ok (.aload 4, 2) := by decide +kernel
theorem dX6_groups_58 : decode cX6_groups 58 = .ok (.getfield 172, 3) := by decide +kernel
theorem dX6_groups_61 : decode cX6_groups 61 = .ok (.ishl, 1) := by decide +kernel
theorem dX6_groups_62 : decode cX6_groups 62 = .ok (.ior, 1) := by decide +kernel
theorem dX6_groups_63 : decode cX6_groups 63 = .ok (.istore_n 3, 1) := by decide +kernel
theorem dX6_groups_64 : decode cX6_groups 64 = .ok (.aload 4, 2) := by decide +kernel
theorem dX6_groups_66 : decode cX6_groups 66 = .ok (.getfield 170, 3) := by decide +kernel
theorem dX6_groups_69 : decode cX6_groups 69 = .ok (.astore 4, 2) := by decide +kernel
theorem dX6_groups_71 : decode cX6_groups 71 = .ok (.goto (-54), 3) := by decide +kernel
theorem dX6_groups_74 : decode cX6_groups 74 = .ok (.iload_n 3, 1) := by decide +kernel
theorem dX6_groups_75 : decode cX6_groups 75 = .ok (.ireturn, 1) := by decide +kernel
theorem dX6_nodeAt_0 : decode cX6_nodeAt 0 = .ok (.iload_n 1, 1) := by decide +kernel
theorem dX6_nodeAt_1 : decode cX6_nodeAt 1 = .ok (.ifCond .lt 12, 3) := by decide +kernel
theorem dX6_nodeAt_4 : decode cX6_nodeAt 4 = .ok (.iload_n 1, 1) := by decide +kernel
theorem dX6_nodeAt_5 : decode cX6_nodeAt 5 = .ok (.aload_n 0, 1) := by decide +kernel
theorem dX6_nodeAt_6 : decode cX6_nodeAt 6 = .ok (.getfield 11, 3) := by decide +kernel
theorem dX6_nodeAt_9 : decode cX6_nodeAt 9 = .ok (.arraylength, 1) := by decide +kernel
theorem dX6_nodeAt_10 : decode cX6_nodeAt 10 = .ok (.if_icmp .lt 7, 3) := by decide +kernel
theorem dX6_nodeAt_13 : decode cX6_nodeAt 13 = .ok (.aconst_null, 1) := by decide +kernel
theorem dX6_nodeAt_14 : decode cX6_nodeAt 14 = .ok (.goto 9, 3) := by decide +kernel
theorem dX6_nodeAt_17 : decode cX6_nodeAt 17 = .ok (.aload_n 0, 1) := by decide +kernel
theorem dX6_nodeAt_18 : decode cX6_nodeAt 18 = .ok (.getfield 11, 3) := by decide +kernel
theorem dX6_nodeAt_21 : decode cX6_nodeAt 21 = .ok (.iload_n 1, 1) := by decide +kernel
theorem dX6_nodeAt_22 : decode cX6_nodeAt 22 = .ok (.aaload, 1) := by decide +kernel
theorem dX6_nodeAt_23 : decode cX6_nodeAt 23 = .ok (.areturn, 1) := by decide +kernel
theorem dX6_accountAt_0 : decode cX6_accountAt 0 = .ok (.iload_n 1, 1) := by decide +kernel
theorem dX6_accountAt_1 : decode cX6_accountAt 1 = .ok (.ifCond .lt 9, 3) := by decide +kernel
theorem dX6_accountAt_4 : decode cX6_accountAt 4 = .ok (.iload_n 1, 1) := by decide +kernel
theorem dX6_accountAt_5 : decode cX6_accountAt 5 = .ok (.bipush 10, 2) := by decide +kernel
theorem dX6_accountAt_7 : decode cX6_accountAt 7 = .ok (.if_icmp .lt 7, 3) := by decide +kernel
theorem dX6_accountAt_10 : decode cX6_accountAt 10 = .ok (.aconst_null, 1) := by decide +kernel
theorem dX6_accountAt_11 : decode cX6_accountAt 11 = .ok (.goto 8, 3) := by decide +kernel
theorem dX6_accountAt_14 : decode cX6_accountAt 14 = .ok (.aload_n 0, 1) := by decide +kernel
theorem dX6_accountAt_15 : decode cX6_accountAt 15 = .ok (.iload_n 1, 1) := by decide +kernel
theorem dX6_accountAt_16 : decode cX6_accountAt 16 = .ok (.invokevirtual 130, 3) := by decide +kernel
theorem dX6_accountAt_19 : decode cX6_accountAt 19 = .ok (.areturn, 1) := by decide +kernel
theorem dX6_deviceAt_0 : decode cX6_deviceAt 0 = .ok (.iload_n 1, 1) := by decide +kernel
theorem dX6_deviceAt_1 : decode cX6_deviceAt 1 = .ok (.ifCond .lt 9, 3) := by decide +kernel
theorem dX6_deviceAt_4 : decode cX6_deviceAt 4 = .ok (.iload_n 1, 1) := by decide +kernel
theorem dX6_deviceAt_5 : decode cX6_deviceAt 5 = .ok (.bipush 10, 2) := by decide +kernel
theorem dX6_deviceAt_7 : decode cX6_deviceAt 7 = .ok (.if_icmp .lt 7, 3) := by decide +kernel
theorem dX6_deviceAt_10 : decode cX6_deviceAt 10 = .ok (.aconst_null, 1) := by decide +kernel
theorem dX6_deviceAt_11 : decode cX6_deviceAt 11 = .ok (.goto 11, 3) := by decide +kernel
theorem dX6_deviceAt_14 : decode cX6_deviceAt 14 = .ok (.aload_n 0, 1) := by decide +kernel
theorem dX6_deviceAt_15 : decode cX6_deviceAt 15 = .ok (.bipush 10, 2) := by decide +kernel
theorem dX6_deviceAt_17 : decode cX6_deviceAt 17 = .ok (.iload_n 1, 1) := by decide +kernel
theorem dX6_deviceAt_18 : decode cX6_deviceAt 18 = .ok (.iadd, 1) := by decide +kernel
theorem dX6_deviceAt_19 : decode cX6_deviceAt 19 = .ok (.invokevirtual 130, 3) := by decide +kernel
theorem dX6_deviceAt_22 : decode cX6_deviceAt 22 = .ok (.areturn, 1) := by decide +kernel
theorem dX6_neededNode_0 : decode cX6_neededNode 0 = .ok (.aload_n 0, 1) := by decide +kernel
theorem dX6_neededNode_1 : decode cX6_neededNode 1 = .ok (.iload_n 1, 1) := by decide +kernel
theorem dX6_neededNode_2 : decode cX6_neededNode 2 = .ok (.invokevirtual 130, 3) := by decide +kernel
theorem dX6_neededNode_5 : decode cX6_neededNode 5 = .ok (.astore_n 2, 1) := by decide +kernel
theorem dX6_neededNode_6 : decode cX6_neededNode 6 = .ok (.aload_n 2, 1) := by decide +kernel
theorem dX6_neededNode_7 : decode cX6_neededNode 7 = .ok (.ifnonnull 14, 3) := by decide +kernel
theorem dX6_neededNode_10 : decode cX6_neededNode 10 = .ok (.new 58, 3) := by decide +kernel
theorem dX6_neededNode_13 : decode cX6_neededNode 13 = .ok (.dup, 1) := by decide +kernel
theorem dX6_neededNode_14 : decode cX6_neededNode 14 = .ok (.ldc_w 256, 3) := by decide +kernel
theorem dX6_neededNode_17 : decode cX6_neededNode 17 = .ok (.invokespecial 62, 3) := by decide +kernel
theorem dX6_neededNode_20 : decode cX6_neededNode 20 = .ok (.athrow, 1) := by decide +kernel
theorem dX6_neededNode_21 : decode cX6_neededNode 21 = .ok (.aload_n 2, 1) := by decide +kernel
theorem dX6_neededNode_22 : decode cX6_neededNode 22 = .ok (.areturn, 1) := by decide +kernel
theorem dX6_isKind_0 : decode cX6_isKind 0 = .ok (.iload_n 0, 1) := by decide +kernel
theorem dX6_isKind_1 : decode cX6_isKind 1 = .ok (.ifCond .lt 12, 3) := by decide +kernel
theorem dX6_isKind_4 : decode cX6_isKind 4 = .ok (.iload_n 0, 1) := by decide +kernel
theorem dX6_isKind_5 : decode cX6_isKind 5 = .ok (.iconst 5, 1) := by decide +kernel
theorem dX6_isKind_6 : decode cX6_isKind 6 = .ok (.if_icmp .ge 7, 3) := by decide +kernel
theorem dX6_isKind_9 : decode cX6_isKind 9 = .ok (.iconst 1, 1) := by decide +kernel
theorem dX6_isKind_10 : decode cX6_isKind 10 = .ok (.goto 4, 3) := by decide +kernel
theorem dX6_isKind_13 : decode cX6_isKind 13 = .ok (.iconst 0, 1) := by decide +kernel
theorem dX6_isKind_14 : decode cX6_isKind 14 = .ok (.ireturn, 1) := by decide +kernel
theorem dX6_isPurpose_0 : decode cX6_isPurpose 0 = .ok (.iload_n 0, 1) := by decide +kernel
theorem dX6_isPurpose_1 : decode cX6_isPurpose 1 = .ok (.ifCond .lt 12, 3) := by decide +kernel
theorem dX6_isPurpose_4 : decode cX6_isPurpose 4 = .ok (.iload_n 0, 1) := by decide +kernel
theorem dX6_isPurpose_5 : decode cX6_isPurpose 5 = .ok (.iconst 4, 1) := by decide +kernel
theorem dX6_isPurpose_6 : decode cX6_isPurpose 6 = .ok (.if_icmp .ge 7, 3) := by decide +kernel
theorem dX6_isPurpose_9 : decode cX6_isPurpose 9 = .ok (.iconst 1, 1) := by decide +kernel
theorem dX6_isPurpose_10 : decode cX6_isPurpose 10 = .ok (.goto 4, 3) := by decide +kernel
theorem dX6_isPurpose_13 : decode cX6_isPurpose 13 = .ok (.iconst 0, 1) := by decide +kernel
theorem dX6_isPurpose_14 : decode cX6_isPurpose 14 = .ok (.ireturn, 1) := by decide +kernel
theorem dX6_isMinute_0 : decode cX6_isMinute 0 = .ok (.iload_n 0, 1) := by decide +kernel
theorem dX6_isMinute_1 : decode cX6_isMinute 1 = .ok (.ifCond .lt 13, 3) := by decide +kernel
theorem dX6_isMinute_4 : decode cX6_isMinute 4 = .ok (.iload_n 0, 1) := by decide +kernel
theorem dX6_isMinute_5 : decode cX6_isMinute 5 = .ok (.ldc 190, 2) := by decide +kernel
theorem dX6_isMinute_7 : decode cX6_isMinute 7 = .ok (.if_icmp .gt 7, 3) := by decide +kernel
theorem dX6_isMinute_10 : decode cX6_isMinute 10 = .ok (.iconst 1, 1) := by decide +kernel
theorem dX6_isMinute_11 : decode cX6_isMinute 11 = .ok (.goto 4, 3) := by decide +kernel
theorem dX6_isMinute_14 : decode cX6_isMinute 14 = .ok (.iconst 0, 1) := by decide +kernel
theorem dX6_isMinute_15 : decode cX6_isMinute 15 = .ok (.ireturn, 1) := by decide +kernel
theorem dX6_areDays_0 : decode cX6_areDays 0 = .ok (.iload_n 0, 1) := by decide +kernel
theorem dX6_areDays_1 : decode cX6_areDays 1 = .ok (.iconst 1, 1) := by decide +kernel
theorem dX6_areDays_2 : decode cX6_areDays 2 = .ok (.if_icmp .lt 13, 3) := by decide +kernel
theorem dX6_areDays_5 : decode cX6_areDays 5 = .ok (.iload_n 0, 1) := by decide +kernel
theorem dX6_areDays_6 : decode cX6_areDays 6 = .ok (.bipush 30, 2) := by decide +kernel
theorem dX6_areDays_8 : decode cX6_areDays 8 = .ok (.if_icmp .gt 7, 3) := by decide +kernel
theorem dX6_areDays_11 : decode cX6_areDays 11 = .ok (.iconst 1, 1) := by decide +kernel
theorem dX6_areDays_12 : decode cX6_areDays 12 = .ok (.goto 4, 3) := by decide +kernel
theorem dX6_areDays_15 : decode cX6_areDays 15 = .ok (.iconst 0, 1) := by decide +kernel
theorem dX6_areDays_16 : decode cX6_areDays 16 = .ok (.ireturn, 1) := by decide +kernel
theorem dX6_findProfiles_0 : decode cX6_findProfiles 0 = .ok (.aload_n 0, 1) := by decide +kernel
theorem dX6_findProfiles_1 : decode cX6_findProfiles 1 = .ok (.getfield 11, 3) := by decide +kernel
theorem dX6_findProfiles_4 : decode cX6_findProfiles 4 = .ok (.astore_n 1, 1) := by decide +kernel
theorem dX6_findProfiles_5 : decode cX6_findProfiles 5 = .ok (.aload_n 1, 1) := by decide +kernel
theorem dX6_findProfiles_6 : decode cX6_findProfiles 6 = .ok (.arraylength, 1) := by decide +kernel
theorem dX6_findProfiles_7 : decode cX6_findProfiles 7 = .ok (.istore_n 2, 1) := by decide +kernel
theorem dX6_findProfiles_8 : decode cX6_findProfiles 8 = .ok (.iconst 0, 1) := by decide +kernel
theorem dX6_findProfiles_9 : decode cX6_findProfiles 9 = .ok (.istore_n 3, 1) := by decide +kernel
theorem dX6_findProfiles_10 : decode cX6_findProfiles 10 = .ok (.iload_n 3, 1) := by decide +kernel
theorem dX6_findProfiles_11 : decode cX6_findProfiles 11 = .ok (.iload_n 2, 1) := by decide +kernel
theorem dX6_findProfiles_12 : decode cX6_findProfiles 12 = .ok (.if_icmp .ge 19, 3) := by decide +kernel
theorem dX6_findProfiles_15 : decode cX6_findProfiles 15 = .ok (.aload_n 1, 1) := by decide +kernel
theorem dX6_findProfiles_16 : decode cX6_findProfiles 16 = .ok (.iload_n 3, 1) := by decide +kernel
theorem dX6_findProfiles_17 : decode cX6_findProfiles 17 = .ok (.aaload, 1) := by decide +kernel
theorem dX6_findProfiles_18 : decode cX6_findProfiles 18 = .ok (.astore 4, 2) := by decide +kernel
theorem dX6_findProfiles_20 : decode cX6_findProfiles 20 = .ok (.aload 4, 2) := by decide +kernel
theorem dX6_findProfiles_22 : decode cX6_findProfiles 22 = .ok (.invokevirtual 258, 3) := by decide +kernel
theorem dX6_findProfiles_25 : decode cX6_findProfiles 25 = .ok (.iinc 3 1, 3) := by decide +kernel
theorem dX6_findProfiles_28 : decode cX6_findProfiles 28 = .ok (.goto (-18), 3) := by decide +kernel
theorem dX6_findProfiles_31 : decode cX6_findProfiles 31 = .ok (.aload_n 0, 1) := by decide +kernel
theorem dX6_findProfiles_32 : decode cX6_findProfiles 32 = .ok (.getfield 25, 3) := by decide +kernel
theorem dX6_findProfiles_35 : decode cX6_findProfiles 35 = .ok (.getfield 90, 3) := by decide +kernel
theorem dX6_findProfiles_38 : decode cX6_findProfiles 38 = .ok (.astore_n 1, 1) := by decide +kernel
theorem dX6_findProfiles_39 : decode cX6_findProfiles 39 = .ok (.aload_n 1, 1) := by decide +kernel
theorem dX6_findProfiles_40 : decode cX6_findProfiles 40 = .ok (.ifnull 16, 3) := by decide +kernel
theorem dX6_findProfiles_43 : decode cX6_findProfiles 43 = .ok (.aload_n 0, 1) := by decide +kernel
theorem dX6_findProfiles_44 : decode cX6_findProfiles 44 = .ok (.aload_n 1, 1) := by decide +kernel
theorem dX6_findProfiles_45 : decode cX6_findProfiles 45 = .ok (.invokevirtual 82, 3) := by decide +kernel
theorem dX6_findProfiles_48 : decode cX6_findProfiles 48 = .ok (.aload_n 1, 1) := by decide +kernel
theorem dX6_findProfiles_49 : decode cX6_findProfiles 49 = .ok (.getfield 102, 3) := by decide +kernel
theorem dX6_findProfiles_52 : decode cX6_findProfiles 52 = .ok (.astore_n 1, 1) := by decide +kernel
theorem dX6_findProfiles_53 : decode cX6_findProfiles 53 = .ok (.goto (-14), 3) := by decide +kernel
theorem dX6_findProfiles_56 : decode cX6_findProfiles 56 = .ok (.return_, 1) := by decide +kernel
theorem dX6_joinBy_0 : decode cX6_joinBy 0 = .ok (.aload_n 1, 1) := by decide +kernel
theorem dX6_joinBy_1 : decode cX6_joinBy 1 = .ok (.invokevirtual 261, 3) := by decide +kernel
theorem dX6_joinBy_4 : decode cX6_joinBy 4 = .ok (.astore_n 2, 1) := by decide +kernel
theorem dX6_joinBy_5 : decode cX6_joinBy 5 = .ok (.aload_n 2, 1) := by decide +kernel
theorem dX6_joinBy_6 : decode cX6_joinBy 6 = .ok (.ifnull 18, 3) := by decide +kernel
theorem dX6_joinBy_9 : decode cX6_joinBy 9 = .ok (.aload_n 0, 1) := by decide +kernel
theorem dX6_joinBy_10 : decode cX6_joinBy 10 = .ok (.aload_n 1, 1) := by decide +kernel
theorem dX6_joinBy_11 : decode cX6_joinBy 11 = .ok (.getfield 94, 3) := by decide +kernel
theorem dX6_joinBy_14 : decode cX6_joinBy 14 = .ok (.invokevirtual 178, 3) := by decide +kernel
theorem dX6_joinBy_17 : decode cX6_joinBy 17 = .ok (.aload_n 2, 1) := by decide +kernel
theorem dX6_joinBy_18 : decode cX6_joinBy 18 = .ok (.invokevirtual 178, 3) := by decide +kernel
theorem dX6_joinBy_21 : decode cX6_joinBy 21 = .ok (.invokevirtual 264, 3) := by decide +kernel
theorem dX6_joinBy_24 : decode cX6_joinBy 24 = .ok (.return_, 1) := by decide +kernel
theorem dX6_join_0 : decode cX6_join 0 = .ok (.aload_n 1, 1) := by decide +kernel
theorem dX6_join_1 : decode cX6_join 1 = .ok (.getfield 193, 3) := by decide +kernel
theorem dX6_join_4 : decode cX6_join 4 = .ok (.aload_n 2, 1) := by decide +kernel
theorem dX6_join_5 : decode cX6_join 5 = .ok (.getfield 193, 3) := by decide +kernel
theorem dX6_join_8 : decode cX6_join 8 = .ok (.if_icmp .ge 7, 3) := by decide +kernel
theorem dX6_join_11 : decode cX6_join 11 = .ok (.aload_n 1, 1) := by decide +kernel
theorem dX6_join_12 : decode cX6_join 12 = .ok (.goto 4, 3) := by decide +kernel
theorem dX6_join_15 : decode cX6_join 15 = .ok (.aload_n 2, 1) := by decide +kernel
theorem dX6_join_16 : decode cX6_join 16 = .ok (.astore_n 3, 1) := by decide +kernel
theorem dX6_join_17 : decode cX6_join 17 = .ok (.aload_n 1, 1) := by decide +kernel
theorem dX6_join_18 : decode cX6_join 18 = .ok (.getfield 193, 3) := by decide +kernel
theorem dX6_join_21 : decode cX6_join 21 = .ok (.aload_n 2, 1) := by decide +kernel
theorem dX6_join_22 : decode cX6_join 22 = .ok (.getfield 193, 3) := by decide +kernel
theorem dX6_join_25 : decode cX6_join 25 = .ok (.if_icmp .ge 7, 3) := by decide +kernel
theorem dX6_join_28 : decode cX6_join 28 = .ok (.aload_n 2, 1) := by decide +kernel
theorem dX6_join_29 : decode cX6_join 29 = .ok (.goto 4, 3) := by decide +kernel
theorem dX6_join_32 : decode cX6_join 32 = .ok (.aload_n 1, 1) := by decide +kernel
theorem dX6_join_33 : decode cX6_join 33 = .ok (.astore 4, 2) := by decide +kernel
theorem dX6_join_35 : decode cX6_join 35 = .ok (.aload_n 0, 1) := by decide +kernel
theorem dX6_join_36 : decode cX6_join 36 = .ok (.getfield 11, 3) := by decide +kernel
theorem dX6_join_39 : decode cX6_join 39 = .ok (.astore 5, 2) := by decide +kernel
theorem dX6_join_41 : decode cX6_join 41 = .ok (.aload 5, 2) := by decide +kernel
theorem dX6_join_43 : decode cX6_join 43 = .ok (.arraylength, 1) := by decide +kernel
theorem dX6_join_44 : decode cX6_join 44 = .ok (.istore 6, 2) := by decide +kernel
theorem dX6_join_46 : decode cX6_join 46 = .ok (.iconst 0, 1) := by decide +kernel
theorem dX6_join_47 : decode cX6_join 47 = .ok (.istore 7, 2) := by decide +kernel
theorem dX6_join_49 : decode cX6_join 49 = .ok (.iload 7, 2) := by decide +kernel
theorem dX6_join_51 : decode cX6_join 51 = .ok (.iload 6, 2) := by decide +kernel
theorem dX6_join_53 : decode cX6_join 53 = .ok (.if_icmp .ge 32, 3) := by decide +kernel
theorem dX6_join_56 : decode cX6_join 56 = .ok (.aload 5, 2) := by decide +kernel
theorem dX6_join_58 : decode cX6_join 58 = .ok (.iload 7, 2) := by decide +kernel
theorem dX6_join_60 : decode cX6_join 60 = .ok (.aaload, 1) := by decide +kernel
theorem dX6_join_61 : decode cX6_join 61 = .ok (.astore 8, 2) := by decide +kernel
theorem dX6_join_63 : decode cX6_join 63 = .ok (.aload 8, 2) := by decide +kernel
theorem dX6_join_65 : decode cX6_join 65 = .ok (.invokevirtual 178, 3) := by decide +kernel
theorem dX6_join_68 : decode cX6_join 68 = .ok (.aload 4, 2) := by decide +kernel
theorem dX6_join_70 : decode cX6_join 70 = .ok (.if_acmp .ne 9, 3) := by decide +kernel
theorem dX6_join_73 : decode cX6_join 73 = .ok (.aload 8, 2) := by decide +kernel
theorem dX6_join_75 : decode cX6_join 75 = .ok (.aload_n 3, 1) := by decide +kernel
theorem dX6_join_76 : decode cX6_join 76 = .ok (.invokevirtual 268, 3) := by decide +kernel
theorem dX6_join_79 : decode cX6_join 79 = .ok (.iinc 7 1, 3) := by decide +kernel
theorem dX6_join_82 : decode cX6_join 82 = .ok (.goto (-33), 3) := by decide +kernel
theorem dX6_join_85 : decode cX6_join 85 = .ok (.return_, 1) := by decide +kernel
theorem dX6_cutUpTo_0 : decode cX6_cutUpTo 0 = .ok (.aload_n 0, 1) := by decide +kernel
theorem dX6_cutUpTo_1 : decode cX6_cutUpTo 1 = .ok (.getfield 32, 3) := by decide +kernel
theorem dX6_cutUpTo_4 : decode cX6_cutUpTo 4 = .ok (.invokevirtual 272, 3) := by decide +kernel
theorem dX6_cutUpTo_7 : decode cX6_cutUpTo 7 = .ok (.aload_n 0, 1) := by decide +kernel
theorem dX6_cutUpTo_8 : decode cX6_cutUpTo 8 = .ok (.getfield 25, 3) := by decide +kernel
theorem dX6_cutUpTo_11 : decode cX6_cutUpTo 11 = .ok (.getfield 90, 3) := by decide +kernel
theorem dX6_cutUpTo_14 : decode cX6_cutUpTo 14 = .ok (.astore_n 3, 1) := by decide +kernel
theorem dX6_cutUpTo_15 : decode cX6_cutUpTo 15 = .ok (.aload_n 3, 1) := by decide +kernel
theorem dX6_cutUpTo_16 : decode cX6_cutUpTo 16 = .ok (.ifnull 67, 3) := by decide +kernel
theorem dX6_cutUpTo_19 : decode cX6_cutUpTo 19 = .ok (.aload_n 3, 1) := by decide +kernel
theorem dX6_cutUpTo_20 : decode cX6_cutUpTo 20 = .ok (.aload_n 1, 1) := by decide +kernel
theorem dX6_cutUpTo_21 : decode cX6_cutUpTo 21 = .ok (.invokevirtual 182, 3) := by decide +kernel
theorem dX6_cutUpTo_24 : decode cX6_cutUpTo 24 = .ok (.ifCond .eq 51, 3) := by decide +kernel
theorem dX6_cutUpTo_27 : decode cX6_cutUpTo 27 = .ok (.aload_n 0, 1) := by decide +kernel
theorem dX6_cutUpTo_28 : decode cX6_cutUpTo 28 = .ok (.getfield 32, 3) := by decide +kernel
theorem dX6_cutUpTo_31 : decode cX6_cutUpTo 31 = .ok (.aload_n 3, 1) := by decide +kernel
theorem dX6_cutUpTo_32 : decode cX6_cutUpTo 32 = .ok (.invokevirtual 275, 3) := by decide +kernel
theorem dX6_cutUpTo_35 : decode cX6_cutUpTo 35 = .ok (.istore 4, 2) := by decide +kernel
theorem dX6_cutUpTo_37 : decode cX6_cutUpTo 37 = .ok (.iload 4, 2) := by decide +kernel
theorem dX6_cutUpTo_39 : decode cX6_cutUpTo 39 = .ok (.ifCond .eq 15, 3) := by decide +kernel
theorem dX6_cutUpTo_42 : decode cX6_cutUpTo 42 = .ok (.aload_n 0, 1) := by decide +kernel
theorem dX6_cutUpTo_43 : decode cX6_cutUpTo 43 = .ok (.getfield 32, 3) := by decide +kernel
theorem dX6_cutUpTo_46 : decode cX6_cutUpTo 46 = .ok (.getfield 213, 3) := by decide +kernel
theorem dX6_cutUpTo_49 : decode cX6_cutUpTo 49 = .ok (.iload_n 2, 1) := by decide +kernel
theorem dX6_cutUpTo_50 : decode cX6_cutUpTo 50 = .ok (.if_icmp .le 4, 3) := by decide +kernel
theorem dX6_cutUpTo_53 : decode cX6_cutUpTo 53 = .ok (.return_, 1) := by decide +kernel
theorem dX6_cutUpTo_54 : decode cX6_cutUpTo 54 = .ok (.iload 4, 2) := by decide +kernel
theorem dX6_cutUpTo_56 : decode cX6_cutUpTo 56 = .ok (.ifCond .eq 11, 3) := by decide +kernel
theorem dX6_cutUpTo_59 : decode cX6_cutUpTo 59 = .ok (.aload_n 0, 1) := by decide +kernel
theorem dX6_cutUpTo_60 : decode cX6_cutUpTo 60 = .ok (.getfield 32, 3) := by decide +kernel
theorem dX6_cutUpTo_63 : decode cX6_cutUpTo 63 = .ok (.aload_n 3, 1) := by decide +kernel
theorem dX6_cutUpTo_64 : decode cX6_cutUpTo 64 = .ok (.invokevirtual 279, 3) := by decide +kernel
theorem dX6_cutUpTo_67 : decode cX6_cutUpTo 67 = .ok (.aload_n 0, 1) := by decide +kernel
theorem dX6_cutUpTo_68 : decode cX6_cutUpTo 68 = .ok (.getfield 32, 3) := by decide +kernel
theorem dX6_cutUpTo_71 : decode cX6_cutUpTo 71 = .ok (.aload_n 3, 1) := by decide +kernel
theorem dX6_cutUpTo_72 : decode cX6_cutUpTo 72 = .ok (.invokevirtual 282, 3) := by decide +kernel
theorem dX6_cutUpTo_75 : decode cX6_cutUpTo 75 = .ok (.aload_n 3, 1) := by decide +kernel
theorem dX6_cutUpTo_76 : decode cX6_cutUpTo 76 = .ok (.getfield 102, 3) := by decide +kernel
theorem dX6_cutUpTo_79 : decode cX6_cutUpTo 79 = .ok (.astore_n 3, 1) := by decide +kernel
theorem dX6_cutUpTo_80 : decode cX6_cutUpTo 80 = .ok (.goto (-65), 3) := by decide +kernel
theorem dX6_cutUpTo_83 : decode cX6_cutUpTo 83 = .ok (.return_, 1) := by decide +kernel
theorem dX6_countFor_0 : decode cX6_countFor 0 = .ok (.iconst 0, 1) := by decide +kernel
theorem dX6_countFor_1 : decode cX6_countFor 1 = .ok (.istore 6, 2) := by decide +kernel
theorem dX6_countFor_3 : decode cX6_countFor 3 = .ok (.aload_n 0, 1) := by decide +kernel
theorem dX6_countFor_4 : decode cX6_countFor 4 = .ok (.getfield 25, 3) := by decide +kernel
theorem dX6_countFor_7 : decode cX6_countFor 7 = .ok (.getfield 90, 3) := by decide +kernel
theorem dX6_countFor_10 : decode cX6_countFor 10 = .ok (.astore 7, 2) := by decide +kernel
theorem dX6_countFor_12 : decode cX6_countFor 12 = .ok (.aload 7, 2) := by decide +kernel
theorem dX6_countFor_14 : decode cX6_countFor 14 = .ok (.ifnull 39, 3) := by decide +kernel
theorem dX6_countFor_17 : decode cX6_countFor 17 = .ok (.aload 7, 2) := by decide +kernel
theorem dX6_countFor_19 : decode cX6_countFor 19 = .ok (.aload_n 1, 1) := by decide +kernel
theorem dX6_countFor_20 : decode cX6_countFor 20 = .ok (.invokevirtual 182, 3) := by decide +kernel
theorem dX6_countFor_23 : decode cX6_countFor 23 = .ok (.ifCond .eq 20, 3) := by decide +kernel
theorem dX6_countFor_26 : decode cX6_countFor 26 = .ok (.aload 7, 2) := by decide +kernel
theorem dX6_countFor_28 : decode cX6_countFor 28 = .ok (.iload_n 2, 1) := by decide +kernel
theorem dX6_countFor_29 : decode cX6_countFor 29 = .ok (.iload_n 3, 1) := by decide +kernel
theorem dX6_countFor_30 : decode cX6_countFor 30 = .ok (.iload 4, 2) := by decide +kernel
theorem dX6_countFor_32 : decode cX6_countFor 32 = .ok (.iload 5, 2) := by decide +kernel
theorem dX6_countFor_34 : decode cX6_countFor 34 = .ok (.invokevirtual 285, 3) := by decide +kernel
theorem dX6_countFor_37 : decode cX6_countFor 37 = .ok (.ifCond .eq 6, 3) := by decide +kernel
theorem dX6_countFor_40 : decode cX6_countFor 40 = .ok (.iinc 6 1, 3) := by decide +kernel
theorem dX6_countFor_43 : decode cX6_countFor 43 = .ok (.aload 7, 2) := by decide +kernel
theorem dX6_countFor_45 : decode cX6_countFor 45 = .ok (.getfield 102, 3) := by decide +kernel
theorem dX6_countFor_48 : decode cX6_countFor 48 = .ok (.astore 7, 2) := by decide +kernel
theorem dX6_countFor_50 : decode cX6_countFor 50 = .ok (.goto (-38), 3) := by decide +kernel
theorem dX6_countFor_53 : decode cX6_countFor 53 = .ok (.iload 6, 2) := by decide +kernel
theorem dX6_countFor_55 : decode cX6_countFor 55 = .ok (.ireturn, 1) := by decide +kernel
theorem dJ9_max_7cf53_0 : decode cJ9_max_7cf53 0 = .ok (.iload_n 0, 1) := by decide +kernel
theorem dJ9_max_7cf53_1 : decode cJ9_max_7cf53 1 = .ok (.iload_n 1, 1) := by decide +kernel
theorem dJ9_max_7cf53_2 : decode cJ9_max_7cf53 2 = .ok (.if_icmp .lt 7, 3) := by decide +kernel
theorem dJ9_max_7cf53_5 : decode cJ9_max_7cf53 5 = .ok (.iload_n 0, 1) := by decide +kernel
theorem dJ9_max_7cf53_6 : decode cJ9_max_7cf53 6 = .ok (.goto 4, 3) := by decide +kernel
theorem dJ9_max_7cf53_9 : decode cJ9_max_7cf53 9 = .ok (.iload_n 1, 1) := by decide +kernel
theorem dJ9_max_7cf53_10 : decode cJ9_max_7cf53 10 = .ok (.ireturn, 1) := by decide +kernel
