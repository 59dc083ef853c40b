theorem dX0_init_0 : decode cX0_init 0 = .ok (.aload_n 0, 1) := by decide +kernel
theorem dX0_init_1 : decode cX0_init 1 = .ok (.invokespecial 3, 3) := by decide +kernel
theorem dX0_init_4 : decode cX0_init 4 = .ok (.aload_n 0, 1) := by decide +kernel
theorem dX0_init_5 : decode cX0_init 5 = .ok (.iconst 4, 1) := by decide +kernel
theorem dX0_init_6 : decode cX0_init 6 = .ok (.newarray .int, 2) := by decide +kernel
theorem dX0_init_8 : decode cX0_init 8 = .ok (.putfield 9, 3) := by decide +kernel
theorem dX0_init_11 : decode cX0_init 11 = .ok (.aload_n 0, 1) := by decide +kernel
theorem dX0_init_12 : decode cX0_init 12 = .ok (.iconst 4, 1) := by decide +kernel
theorem dX0_init_13 : decode cX0_init 13 = .ok (.newarray .int, 2) := by decide +kernel
theorem dX0_init_15 : decode cX0_init 15 = .ok (.putfield 15, 3) := by decide +kernel
theorem dX0_init_18 : decode cX0_init 18 = .ok (.return_, 1) := by decide +kernel
theorem dX0_copyFrom_0 : decode cX0_copyFrom 0 = .ok (.aload_n 0, 1) := by decide +kernel
theorem dX0_copyFrom_1 : decode cX0_copyFrom 1 = .ok (.aload_n 1, 1) := by decide +kernel
theorem dX0_copyFrom_2 : decode cX0_copyFrom 2 = .ok (.getfield 18, 3) := by decide +kernel
theorem dX0_copyFrom_5 : decode cX0_copyFrom 5 = .ok (.putfield 18, 3) := by decide +kernel
theorem dX0_copyFrom_8 : decode cX0_copyFrom 8 = .ok (.iconst 0, 1) := by decide +kernel
theorem dX0_copyFrom_9 : decode cX0_copyFrom 9 = .ok (.istore_n 2, 1) := by decide +kernel
theorem dX0_copyFrom_10 : decode cX0_copyFrom 10 = .ok (.iload_n 2, 1) := by decide +kernel
theorem dX0_copyFrom_11 : decode cX0_copyFrom 11 = .ok (.aload_n 0, 1) := by decide +kernel
theorem dX0_copyFrom_12 : decode cX0_copyFrom 12 = .ok (.getfield 18, 3) := by decide +kernel
theorem dX0_copyFrom_15 : decode cX0_copyFrom 15 = .ok (.if_icmp .ge 38, 3) := by decide +kernel
theorem dX0_copyFrom_18 : decode cX0_copyFrom 18 = .ok (.iload_n 2, 1) := by decide +kernel
theorem dX0_copyFrom_19 : decode cX0_copyFrom 19 = .ok (.iconst 4, 1) := by decide +kernel
theorem dX0_copyFrom_20 : decode cX0_copyFrom 20 = .ok (.if_icmp .ge 33, 3) := by decide +kernel
theorem dX0_copyFrom_23 : decode cX0_copyFrom 23 = .ok (.aload_n 0, 1) := by decide +kernel
theorem dX0_copyFrom_24 : decode cX0_copyFrom 24 = .ok (.getfield 9, 3) := by decide +kernel
theorem dX0_copyFrom_27 : decode cX0_copyFrom 27 = .ok (.iload_n 2, 1) := by decide +kernel
theorem dX0_copyFrom_28 : decode cX0_copyFrom 28 = .ok (.aload_n 1, 1) := by decide +kernel
theorem dX0_copyFrom_29 : decode cX0_copyFrom 29 = .ok (.getfield 9, 3) := by decide +kernel
theorem dX0_copyFrom_32 : decode cX0_copyFrom 32 = .ok (.iload_n 2, 1) := by decide +kernel
theorem dX0_copyFrom_33 : decode cX0_copyFrom 33 = .ok (.iaload, 1) := by decide +kernel
theorem dX0_copyFrom_34 : decode cX0_copyFrom 34 = .ok (.iastore, 1) := by decide +kernel
theorem dX0_copyFrom_35 : decode cX0_copyFrom 35 = .ok (.aload_n 0, 1) := by decide +kernel
theorem dX0_copyFrom_36 : decode cX0_copyFrom 36 = .ok (.getfield 15, 3) := by decide +kernel
theorem dX0_copyFrom_39 : decode cX0_copyFrom 39 = .ok (.iload_n 2, 1) := by decide +kernel
theorem dX0_copyFrom_40 : decode cX0_copyFrom 40 = .ok (.aload_n 1, 1) := by decide +kernel
theorem dX0_copyFrom_41 : decode cX0_copyFrom 41 = .ok (.getfield 15, 3) := by decide +kernel
theorem dX0_copyFrom_44 : decode cX0_copyFrom 44 = .ok (.iload_n 2, 1) := by decide +kernel
theorem dX0_copyFrom_45 : decode cX0_copyFrom 45 = .ok (.iaload, 1) := by decide +kernel
theorem dX0_copyFrom_46 : decode cX0_copyFrom 46 = .ok (.iastore, 1) := by decide +kernel
theorem dX0_copyFrom_47 : decode cX0_copyFrom 47 = .ok (.iinc 2 1, 3) := by decide +kernel
theorem dX0_copyFrom_50 : decode cX0_copyFrom 50 = .ok (.goto (-40), 3) := by decide +kernel
theorem dX0_copyFrom_53 : decode cX0_copyFrom 53 = .ok (.return_, 1) := by decide +kernel
theorem dX0_owed_0 : decode cX0_owed 0 = .ok (.iconst 0, 1) := by decide +kernel
theorem dX0_owed_1 : decode cX0_owed 1 = .ok (.istore_n 1, 1) := by decide +kernel
theorem dX0_owed_2 : decode cX0_owed 2 = .ok (.iconst 0, 1) := by decide +kernel
theorem dX0_owed_3 : decode cX0_owed 3 = .ok (.istore_n 2, 1) := by decide +kernel
theorem dX0_owed_4 : decode cX0_owed 4 = .ok (.iload_n 2, 1) := by decide +kernel
theorem dX0_owed_5 : decode cX0_owed 5 = .ok (.aload_n 0, 1) := by decide +kernel
theorem dX0_owed_6 : decode cX0_owed 6 = .ok (.getfield 18, 3) := by decide +kernel
theorem dX0_owed_9 : decode cX0_owed 9 = .ok (.if_icmp .ge 23, 3) := by decide +kernel
theorem dX0_owed_12 : decode cX0_owed 12 = .ok (.iload_n 2, 1) := by decide +kernel
theorem dX0_owed_13 : decode cX0_owed 13 = .ok (.iconst 4, 1) := by decide +kernel
theorem dX0_owed_14 : decode cX0_owed 14 = .ok (.if_icmp .ge 18, 3) := by decide +kernel
theorem dX0_owed_17 : decode cX0_owed 17 = .ok (.iload_n 1, 1) := by decide +kernel
theorem dX0_owed_18 : decode cX0_owed 18 = .ok (.aload_n 0, 1) := by decide +kernel
theorem dX0_owed_19 : decode cX0_owed 19 = .ok (.getfield 15, 3) := by decide +kernel
theorem dX0_owed_22 : decode cX0_owed 22 = .ok (.iload_n 2, 1) := by decide +kernel
theorem dX0_owed_23 : decode cX0_owed 23 = .ok (.iaload, 1) := by decide +kernel
theorem dX0_owed_24 : decode cX0_owed 24 = .ok (.iadd, 1) := by decide +kernel
theorem dX0_owed_25 : decode cX0_owed 25 = .ok (.istore_n 1, 1) := by decide +kernel
theorem dX0_owed_26 : decode cX0_owed 26 = .ok (.iinc 2 1, 3) := by decide +kernel
theorem dX0_owed_29 : decode cX0_owed 29 = .ok (.goto (-25), 3) := by decide +kernel
theorem dX0_owed_32 : decode cX0_owed 32 = .ok (.iload_n 1, 1) := by decide +kernel
theorem dX0_owed_33 : decode cX0_owed 33 = .ok (.ireturn, 1) := by decide +kernel
theorem dX0_add_0 : decode cX0_add 0 = .ok (.aload_n 0, 1) := by decide +kernel
theorem dX0_add_1 : decode cX0_add 1 = .ok (.getfield 18, 3) := by decide +kernel
theorem dX0_add_4 : decode cX0_add 4 = .ok (.ifCond .lt 11, 3) := by decide +kernel
theorem dX0_add_7 : decode cX0_add 7 = .ok (.aload_n 0, 1) := by decide +kernel
theorem dX0_add_8 : decode cX0_add 8 = .ok (.getfield 18, 3) := by decide +kernel
theorem dX0_add_11 : decode cX0_add 11 = .ok (.iconst 4, 1) := by decide +kernel
theorem dX0_add_12 : decode cX0_add 12 = .ok (.if_icmp .lt 4, 3) := by decide +kernel
theorem dX0_add_15 : decode cX0_add 15 = .ok (.return_, 1) := by decide +kernel
theorem dX0_add_16 : decode cX0_add 16 = .ok (.aload_n 0, 1) := by decide +kernel
theorem dX0_add_17 : decode cX0_add 17 = .ok (.getfield 9, 3) := by decide +kernel
theorem dX0_add_20 : decode cX0_add 20 = .ok (.aload_n 0, 1) := by decide +kernel
theorem dX0_add_21 : decode cX0_add 21 = .ok (.getfield 18, 3) := by decide +kernel
theorem dX0_add_24 : decode cX0_add 24 = .ok (.iload_n 1, 1) := by decide +kernel
theorem dX0_add_25 : decode cX0_add 25 = .ok (.iastore, 1) := by decide +kernel
theorem dX0_add_26 : decode cX0_add 26 = .ok (.aload_n 0, 1) := by decide +kernel
theorem dX0_add_27 : decode cX0_add 27 = .ok (.getfield 15, 3) := by decide +kernel
theorem dX0_add_30 : decode cX0_add 30 = .ok (.aload_n 0, 1) := by decide +kernel
theorem dX0_add_31 : decode cX0_add 31 = .ok (.getfield 18, 3) := by decide +kernel
theorem dX0_add_34 : decode cX0_add 34 = .ok (.iload_n 1, 1) := by decide +kernel
theorem dX0_add_35 : decode cX0_add 35 = .ok (.iastore, 1) := by decide +kernel
theorem dX0_add_36 : decode cX0_add 36 = .ok (.aload_n 0, 1) := by decide +kernel
theorem dX0_add_37 : decode cX0_add 37 = .ok (.dup, 1) := by decide +kernel
theorem dX0_add_38 : decode cX0_add 38 = .ok (.getfield 18, 3) := by decide +kernel
theorem dX0_add_41 : decode cX0_add 41 = .ok (.iconst 1, 1) := by decide +kernel
theorem dX0_add_42 : decode cX0_add 42 = .ok (.iadd, 1) := by decide +kernel
theorem dX0_add_43 : decode cX0_add 43 = .ok (.putfield 18, 3) := by decide +kernel
theorem dX0_add_46 : decode cX0_add 46 = .ok (.return_, 1) := by decide +kernel
theorem dX0_payFirst_0 : decode cX0_payFirst 0 = .ok (.aload_n 0, 1) := by decide +kernel
theorem dX0_payFirst_1 : decode cX0_payFirst 1 = .ok (.getfield 15, 3) := by decide +kernel
theorem dX0_payFirst_4 : decode cX0_payFirst 4 = .ok (.iconst 0, 1) := by decide +kernel
theorem dX0_payFirst_5 : decode cX0_payFirst 5 = .ok (.dup2, 1) := by decide +kernel
theorem dX0_payFirst_6 : decode cX0_payFirst 6 = .ok (.iaload, 1) := by decide +kernel
theorem dX0_payFirst_7 : decode cX0_payFirst 7 = .ok (.iload_n 1, 1) := by decide +kernel
theorem dX0_payFirst_8 : decode cX0_payFirst 8 = .ok (.isub, 1) := by decide +kernel
theorem dX0_payFirst_9 : decode cX0_payFirst 9 = .ok (.iastore, 1) := by decide +kernel
theorem dX0_payFirst_10 : decode cX0_payFirst 10 = .ok (.aload_n 0, 1) := by decide +kernel
theorem dX0_payFirst_11 : decode cX0_payFirst 11 = .ok (.getfield 15, 3) := by decide +kernel
theorem dX0_payFirst_14 : decode cX0_payFirst 14 = .ok (.iconst 0, 1) := by decide +kernel
theorem dX0_payFirst_15 : decode cX0_payFirst 15 = .ok (.iaload, 1) := by decide +kernel
theorem dX0_payFirst_16 : decode cX0_payFirst 16 = .ok (.ifCond .ne 7, 3) := by decide +kernel
theorem dX0_payFirst_19 : decode cX0_payFirst 19 = .ok (.aload_n 0, 1) := by decide +kernel
theorem dX0_payFirst_20 : decode cX0_payFirst 20 = .ok (.invokevirtual 22, 3) := by decide +kernel
theorem dX0_payFirst_23 : decode cX0_payFirst 23 = .ok (.return_, 1) := by decide +kernel
theorem dX0_dropFirst_0 : decode cX0_dropFirst 0 = .ok (.iconst 1, 1) := by decide +kernel
theorem dX0_dropFirst_1 : decode cX0_dropFirst 1 = .ok (.istore_n 1, 1) := by decide +kernel
theorem dX0_dropFirst_2 : decode cX0_dropFirst 2 = .ok (.iload_n 1, 1) := by decide +kernel
theorem dX0_dropFirst_3 : decode cX0_dropFirst 3 = .ok (.aload_n 0, 1) := by decide +kernel
theorem dX0_dropFirst_4 : decode cX0_dropFirst 4 = .ok (.getfield 18, 3) := by decide +kernel
theorem dX0_dropFirst_7 : decode cX0_dropFirst 7 = .ok (.if_icmp .ge 42, 3) := by decide +kernel
theorem dX0_dropFirst_10 : decode cX0_dropFirst 10 = .ok (.iload_n 1, 1) := by decide +kernel
theorem dX0_dropFirst_11 : decode cX0_dropFirst 11 = .ok (.iconst 4, 1) := by decide +kernel
theorem dX0_dropFirst_12 : decode cX0_dropFirst 12 = .ok (.if_icmp .ge 37, 3) := by decide +kernel
theorem dX0_dropFirst_15 : decode cX0_dropFirst 15 = .ok (.aload_n 0, 1) := by decide +kernel
theorem dX0_dropFirst_16 : decode cX0_dropFirst 16 = .ok (.getfield 9, 3) := by decide +kernel
theorem dX0_dropFirst_19 : decode cX0_dropFirst 19 = .ok (.iload_n 1, 1) := by decide +kernel
theorem dX0_dropFirst_20 : decode cX0_dropFirst 20 = .ok (.iconst 1, 1) := by decide +kernel
theorem dX0_dropFirst_21 : decode cX0_dropFirst 21 = .ok (.isub, 1) := by decide +kernel
theorem dX0_dropFirst_22 : decode cX0_dropFirst 22 = .ok (.aload_n 0, 1) := by decide +kernel
theorem dX0_dropFirst_23 : decode cX0_dropFirst 23 = .ok (.getfield 9, 3) := by decide +kernel
theorem dX0_dropFirst_26 : decode cX0_dropFirst 26 = .ok (.iload_n 1, 1) := by decide +kernel
theorem dX0_dropFirst_27 : decode cX0_dropFirst 27 = .ok (.iaload, 1) := by decide +kernel
theorem dX0_dropFirst_28 : decode cX0_dropFirst 28 = .ok (.iastore, 1) := by decide +kernel
theorem dX0_dropFirst_29 : decode cX0_dropFirst 29 = .ok (.aload_n 0, 1) := by decide +kernel
theorem dX0_dropFirst_30 : decode cX0_dropFirst 30 = .ok (.getfield 15, 3) := by decide +kernel
theorem dX0_dropFirst_33 : decode cX0_dropFirst 33 = .ok (.iload_n 1, 1) := by decide +kernel
theorem dX0_dropFirst_34 : decode cX0_dropFirst 34 = .ok (.iconst 1, 1) := by decide +kernel
theorem dX0_dropFirst_35 : decode cX0_dropFirst 35 = .ok (.isub, 1) := by decide +kernel
theorem dX0_dropFirst_36 : decode cX0_dropFirst 36 = .ok (.aload_n 0, 1) := by decide +kernel
theorem dX0_dropFirst_37 : decode cX0_dropFirst 37 = .ok (.getfield 15, 3) := by decide +kernel
theorem dX0_dropFirst_40 : decode cX0_dropFirst 40 = .ok (.iload_n 1, 1) := by decide +kernel
theorem dX0_dropFirst_41 : decode cX0_dropFirst 41 = .ok (.iaload, 1) := by decide +kernel
theorem dX0_dropFirst_42 : decode cX0_dropFirst 42 = .ok (.iastore, 1) := by decide +kernel
theorem dX0_dropFirst_43 : decode cX0_dropFirst 43 = .ok (.iinc 1 1, 3) := by decide +kernel
theorem dX0_dropFirst_46 : decode cX0_dropFirst 46 = .ok (.goto (-44), 3) := by decide +kernel
theorem dX0_dropFirst_49 : decode cX0_dropFirst 49 = .ok (.aload_n 0, 1) := by decide +kernel
theorem dX0_dropFirst_50 : decode cX0_dropFirst 50 = .ok (.dup, 1) := by decide +kernel
theorem dX0_dropFirst_51 : decode cX0_dropFirst 51 = .ok (.getfield 18, 3) := by decide +kernel
theorem dX0_dropFirst_54 : decode cX0_dropFirst 54 = .ok (.iconst 1, 1) := by decide +kernel
theorem dX0_dropFirst_55 : decode cX0_dropFirst 55 = .ok (.isub, 1) := by decide +kernel
theorem dX0_dropFirst_56 : decode cX0_dropFirst 56 = .ok (.putfield 18, 3) := by decide +kernel
theorem dX0_dropFirst_59 : decode cX0_dropFirst 59 = .ok (.return_, 1) := by decide +kernel
theorem dX1_init_0 : decode cX1_init 0 = .ok (.aload_n 0, 1) := by decide +kernel
theorem dX1_init_1 : decode cX1_init 1 = .ok (.invokespecial 3, 3) := by decide +kernel
theorem dX1_init_4 : decode cX1_init 4 = .ok (.aload_n 0, 1) := by decide +kernel
theorem dX1_init_5 : decode cX1_init 5 = .ok (.bipush 6, 2) := by decide +kernel
theorem dX1_init_7 : decode cX1_init 7 = .ok (.anewarray 9, 3) := by decide +kernel
theorem dX1_init_10 : decode cX1_init 10 = .ok (.putfield 11, 3) := by decide +kernel
theorem dX1_init_13 : decode cX1_init 13 = .ok (.iconst 0, 1) := by decide +kernel
theorem dX1_init_14 : decode cX1_init 14 = .ok (.istore_n 1, 1) := by decide +kernel
theorem dX1_init_15 : decode cX1_init 15 = .ok (.iload_n 1, 1) := by decide +kernel
theorem dX1_init_16 : decode cX1_init 16 = .ok (.bipush 6, 2) := by decide +kernel
theorem dX1_init_18 : decode cX1_init 18 = .ok (.if_icmp .ge 22, 3) := by decide +kernel
theorem dX1_init_21 : decode cX1_init 21 = .ok (.aload_n 0, 1) := by decide +kernel
theorem dX1_init_22 : decode cX1_init 22 = .ok (.getfield 11, 3) := by decide +kernel
theorem dX1_init_25 : decode cX1_init 25 = .ok (.iload_n 1, 1) := by decide +kernel
theorem dX1_init_26 : decode cX1_init 26 = .ok (.new 9, 3) := by decide +kernel
theorem dX1_init_29 : decode cX1_init 29 = .ok (.dup, 1) := by decide +kernel
theorem dX1_init_30 : decode cX1_init 30 = .ok (.invokespecial 17, 3) := by decide +kernel
theorem dX1_init_33 : decode cX1_init 33 = .ok (.aastore, 1) := by decide +kernel
theorem dX1_init_34 : decode cX1_init 34 = .ok (.iinc 1 1, 3) := by decide +kernel
theorem dX1_init_37 : decode cX1_init 37 = .ok (.goto (-22), 3) := by decide +kernel
theorem dX1_init_40 : decode cX1_init 40 = .ok (.return_, 1) := by decide +kernel
theorem dX1_keep_0 : decode cX1_keep 0 = .ok (.aload_n 0, 1) := by decide +kernel
theorem dX1_keep_1 : decode cX1_keep 1 = .ok (.getfield 11, 3) := by decide +kernel
theorem dX1_keep_4 : decode cX1_keep 4 = .ok (.aload_n 0, 1) := by decide +kernel
theorem dX1_keep_5 : decode cX1_keep 5 = .ok (.getfield 18, 3) := by decide +kernel
theorem dX1_keep_8 : decode cX1_keep 8 = .ok (.aload_n 0, 1) := by decide +kernel
theorem dX1_keep_9 : decode cX1_keep 9 = .ok (.getfield 22, 3) := by decide +kernel
theorem dX1_keep_12 : decode cX1_keep 12 = .ok (.iadd, 1) := by decide +kernel
theorem dX1_keep_13 : decode cX1_keep 13 = .ok (.bipush 6, 2) := by decide +kernel
theorem dX1_keep_15 : decode cX1_keep 15 = .ok (.invokestatic 25, 3) := by decide +kernel
theorem dX1_keep_18 : decode cX1_keep 18 = .ok (.aaload, 1) := by decide +kernel
theorem dX1_keep_19 : decode cX1_keep 19 = .ok (.astore_n 2, 1) := by decide +kernel
theorem dX1_keep_20 : decode cX1_keep 20 = .ok (.aload_n 2, 1) := by decide +kernel
theorem dX1_keep_21 : decode cX1_keep 21 = .ok (.ifnull 8, 3) := by decide +kernel
theorem dX1_keep_24 : decode cX1_keep 24 = .ok (.aload_n 2, 1) := by decide +kernel
theorem dX1_keep_25 : decode cX1_keep 25 = .ok (.aload_n 1, 1) := by decide +kernel
theorem dX1_keep_26 : decode cX1_keep 26 = .ok (.invokevirtual 31, 3) := by decide +kernel
theorem dX1_keep_29 : decode cX1_keep 29 = .ok (.aload_n 0, 1) := by decide +kernel
theorem dX1_keep_30 : decode cX1_keep 30 = .ok (.getfield 22, 3) := by decide +kernel
theorem dX1_keep_33 : decode cX1_keep 33 = .ok (.bipush 6, 2) := by decide +kernel
theorem dX1_keep_35 : decode cX1_keep 35 = .ok (.if_icmp .ge 16, 3) := by decide +kernel
theorem dX1_keep_38 : decode cX1_keep 38 = .ok (.aload_n 0, 1) := by decide +kernel
theorem dX1_keep_39 : decode cX1_keep 39 = .ok (.dup, 1) := by decide +kernel
theorem dX1_keep_40 : decode cX1_keep 40 = .ok (.getfield 22, 3) := by decide +kernel
theorem dX1_keep_43 : decode cX1_keep 43 = .ok (.iconst 1, 1) := by decide +kernel
theorem dX1_keep_44 : decode cX1_keep 44 = .ok (.iadd, 1) := by decide +kernel
theorem dX1_keep_45 : decode cX1_keep 45 = .ok (.putfield 22, 3) := by decide +kernel
theorem dX1_keep_48 : decode cX1_keep 48 = .ok (.goto 16, 3) := by decide +kernel
theorem dX1_keep_51 : decode cX1_keep 51 = .ok (.aload_n 0, 1) := by decide +kernel
theorem dX1_keep_52 : decode cX1_keep 52 = .ok (.aload_n 0, 1) := by decide +kernel
theorem dX1_keep_53 : decode cX1_keep 53 = .ok (.getfield 18, 3) := by decide +kernel
theorem dX1_keep_56 : decode cX1_keep 56 = .ok (.iconst 1, 1) := by decide +kernel
theorem dX1_keep_57 : decode cX1_keep 57 = .ok (.iadd, 1) := by decide +kernel
theorem dX1_keep_58 : decode cX1_keep 58 = .ok (.bipush 6, 2) := by decide +kernel
theorem dX1_keep_60 : decode cX1_keep 60 = .ok (.irem, 1) := by decide +kernel
theorem dX1_keep_61 : decode cX1_keep 61 = .ok (.putfield 18, 3) := by decide +kernel
theorem dX1_keep_64 : decode cX1_keep 64 = .ok (.return_, 1) := by decide +kernel
theorem dX2_init_0 : decode cX2_init 0 = .ok (.aload_n 0, 1) := by decide +kernel
theorem dX2_init_1 : decode cX2_init 1 = .ok (.invokespecial 3, 3) := by decide +kernel
theorem dX2_init_4 : decode cX2_init 4 = .ok (.aload_n 0, 1) := by decide +kernel
theorem dX2_init_5 : decode cX2_init 5 = .ok (.iconst 0, 1) := by decide +kernel
theorem dX2_init_6 : decode cX2_init 6 = .ok (.putfield 11, 3) := by decide +kernel
theorem dX2_init_9 : decode cX2_init 9 = .ok (.return_, 1) := by decide +kernel
theorem dX3_init_0 : decode cX3_init 0 = .ok (.aload_n 0, 1) := by decide +kernel
theorem dX3_init_1 : decode cX3_init 1 = .ok (.invokespecial 3, 3) := by decide +kernel
theorem dX3_init_4 : decode cX3_init 4 = .ok (.aload_n 0, 1) := by decide +kernel
theorem dX3_init_5 : decode cX3_init 5 = .ok (.new 9, 3) := by decide +kernel
theorem dX3_init_8 : decode cX3_init 8 = .ok (.dup, 1) := by decide +kernel
theorem dX3_init_9 : decode cX3_init 9 = .ok (.invokespecial 11, 3) := by decide +kernel
theorem dX3_init_12 : decode cX3_init 12 = .ok (.putfield 12, 3) := by decide +kernel
theorem dX3_init_15 : decode cX3_init 15 = .ok (.aload_n 0, 1) := by decide +kernel
theorem dX3_init_16 : decode cX3_init 16 = .ok (.new 18, 3) := by decide +kernel
theorem dX3_init_19 : decode cX3_init 19 = .ok (.dup, 1) := by decide +kernel
theorem dX3_init_20 : decode cX3_init 20 = .ok (.invokespecial 20, 3) := by decide +kernel
theorem dX3_init_23 : decode cX3_init 23 = .ok (.putfield 21, 3) := by decide +kernel
theorem dX3_init_26 : decode cX3_init 26 = .ok (.aload_n 0, 1) := by decide +kernel
theorem dX3_init_27 : decode cX3_init 27 = .ok (.new 25, 3) := by decide +kernel
theorem dX3_init_30 : decode cX3_init 30 = .ok (.dup, 1) := by decide +kernel
theorem dX3_init_31 : decode cX3_init 31 = .ok (.invokespecial 27, 3) := by decide +kernel
theorem dX3_init_34 : decode cX3_init 34 = .ok (.putfield 28, 3) := by decide +kernel
theorem dX3_init_37 : decode cX3_init 37 = .ok (.aload_n 0, 1) := by decide +kernel
theorem dX3_init_38 : decode cX3_init 38 = .ok (.bipush 6, 2) := by decide +kernel
theorem dX3_init_40 : decode cX3_init 40 = .ok (.newarray .int, 2) := by decide +kernel
theorem dX3_init_42 : decode cX3_init 42 = .ok (.putfield 32, 3) := by decide +kernel
theorem dX3_init_45 : decode cX3_init 45 = .ok (.getstatic 36, 3) := by decide +kernel
theorem dX3_init_48 : decode cX3_init 48 = .ok (.iconst 0, 1) := by decide +kernel
theorem dX3_init_49 : decode cX3_init 49 = .ok (.aload_n 0, 1) := by decide +kernel
theorem dX3_init_50 : decode cX3_init 50 = .ok (.getfield 32, 3) := by decide +kernel
theorem dX3_init_53 : decode cX3_init 53 = .ok (.iconst 0, 1) := by decide +kernel
theorem dX3_init_54 : decode cX3_init 54 = .ok (.bipush 6, 2) := by decide +kernel
theorem dX3_init_56 : decode cX3_init 56 = .ok (.invokestatic 39, 3) := by decide +kernel
theorem dX3_init_59 : decode cX3_init 59 = .ok (.aload_n 0, 1) := by decide +kernel
theorem dX3_init_60 : decode cX3_init 60 = .ok (.getstatic 36, 3) := by decide +kernel
theorem dX3_init_63 : decode cX3_init 63 = .ok (.iconst 0, 1) := by decide +kernel
theorem dX3_init_64 : decode cX3_init 64 = .ok (.iaload, 1) := by decide +kernel
theorem dX3_init_65 : decode cX3_init 65 = .ok (.putfield 45, 3) := by decide +kernel
theorem dX3_init_68 : decode cX3_init 68 = .ok (.return_, 1) := by decide +kernel
theorem dX3_copyFrom_0 : decode cX3_copyFrom 0 = .ok (.aload_n 0, 1) := by decide +kernel
theorem dX3_copyFrom_1 : decode cX3_copyFrom 1 = .ok (.getfield 12, 3) := by decide +kernel
theorem dX3_copyFrom_4 : decode cX3_copyFrom 4 = .ok (.aload_n 1, 1) := by decide +kernel
theorem dX3_copyFrom_5 : decode cX3_copyFrom 5 = .ok (.getfield 12, 3) := by decide +kernel
theorem dX3_copyFrom_8 : decode cX3_copyFrom 8 = .ok (.invokevirtual 49, 3) := by decide +kernel
theorem dX3_copyFrom_11 : decode cX3_copyFrom 11 = .ok (.aload_n 0, 1) := by decide +kernel
theorem dX3_copyFrom_12 : decode cX3_copyFrom 12 = .ok (.getfield 21, 3) := by decide +kernel
theorem dX3_copyFrom_15 : decode cX3_copyFrom 15 = .ok (.aload_n 1, 1) := by decide +kernel
theorem dX3_copyFrom_16 : decode cX3_copyFrom 16 = .ok (.getfield 21, 3) := by decide +kernel
theorem dX3_copyFrom_19 : decode cX3_copyFrom 19 = .ok (.invokevirtual 53, 3) := by decide +kernel
theorem dX3_copyFrom_22 : decode cX3_copyFrom 22 = .ok (.aload_n 0, 1) := by decide +kernel
theorem dX3_copyFrom_23 : decode cX3_copyFrom 23 = .ok (.getfield 28, 3) := by decide +kernel
theorem dX3_copyFrom_26 : decode cX3_copyFrom 26 = .ok (.aload_n 1, 1) := by decide +kernel
theorem dX3_copyFrom_27 : decode cX3_copyFrom 27 = .ok (.getfield 28, 3) := by decide +kernel
theorem dX3_copyFrom_30 : decode cX3_copyFrom 30 = .ok (.invokevirtual 56, 3) := by decide +kernel
theorem dX3_copyFrom_33 : decode cX3_copyFrom 33 = .ok (.aload_n 1, 1) := by decide +kernel
theorem dX3_copyFrom_34 : decode cX3_copyFrom 34 = .ok (.getfield 32, 3) := by decide +kernel
theorem dX3_copyFrom_37 : decode cX3_copyFrom 37 = .ok (.iconst 0, 1) := by decide +kernel
theorem dX3_copyFrom_38 : decode cX3_copyFrom 38 = .ok (.aload_n 0, 1) := by decide +kernel
theorem dX3_copyFrom_39 : decode cX3_copyFrom 39 = .ok (.getfield 32, 3) := by decide +kernel
theorem dX3_copyFrom_42 : decode cX3_copyFrom 42 = .ok (.iconst 0, 1) := by decide +kernel
theorem dX3_copyFrom_43 : decode cX3_copyFrom 43 = .ok (.bipush 6, 2) := by decide +kernel
theorem dX3_copyFrom_45 : decode cX3_copyFrom 45 = .ok (.invokestatic 39, 3) := by decide +kernel
theorem dX3_copyFrom_48 : decode cX3_copyFrom 48 = .ok (.aload_n 0, 1) := by decide +kernel
theorem dX3_copyFrom_49 : decode cX3_copyFrom 49 = .ok (.aload_n 1, 1) := by decide +kernel
theorem dX3_copyFrom_50 : decode cX3_copyFrom 50 = .ok (.getfield 59, 3) := by decide +kernel
theorem dX3_copyFrom_53 : decode cX3_copyFrom 53 = .ok (.putfield 59, 3) := by decide +kernel
theorem dX3_copyFrom_56 : decode cX3_copyFrom 56 = .ok (.aload_n 0, 1) := by decide +kernel
theorem dX3_copyFrom_57 : decode cX3_copyFrom 57 = .ok (.aload_n 1, 1) := by decide +kernel
theorem dX3_copyFrom_58 : decode cX3_copyFrom 58 = .ok (.getfield 62, 3) := by decide +kernel
theorem dX3_copyFrom_61 : decode cX3_copyFrom 61 = .ok (.putfield 62, 3) := by decide +kernel
theorem dX3_copyFrom_64 : decode cX3_copyFrom 64 = .ok (.aload_n 0, 1) := by decide +kernel
theorem dX3_copyFrom_65 : decode cX3_copyFrom 65 = .ok (.aload_n 1, 1) := by decide +kernel
theorem dX3_copyFrom_66 : decode cX3_copyFrom 66 = .ok (.getfield 45, 3) := by decide +kernel
theorem dX3_copyFrom_69 : decode cX3_copyFrom 69 = .ok (.putfield 45, 3) := by decide +kernel
theorem dX3_copyFrom_72 : decode cX3_copyFrom 72 = .ok (.aload_n 0, 1) := by decide +kernel
theorem dX3_copyFrom_73 : decode cX3_copyFrom 73 = .ok (.aload_n 1, 1) := by decide +kernel
theorem dX3_copyFrom_74 : decode cX3_copyFrom 74 = .ok (.getfield 65, 3) := by decide +kernel
theorem dX3_copyFrom_77 : decode cX3_copyFrom 77 = .ok (.putfield 65, 3) := by decide +kernel
theorem dX3_copyFrom_80 : decode cX3_copyFrom 80 = .ok (.aload_n 0, 1) := by decide +kernel
theorem dX3_copyFrom_81 : decode cX3_copyFrom 81 = .ok (.aload_n 1, 1) := by decide +kernel
theorem dX3_copyFrom_82 : decode cX3_copyFrom 82 = .ok (.getfield 68, 3) := by decide +kernel
theorem dX3_copyFrom_85 : decode cX3_copyFrom 85 = .ok (.putfield 68, 3) := by decide +kernel
theorem dX3_copyFrom_88 : decode cX3_copyFrom 88 = .ok (.aload_n 0, 1) := by decide +kernel
theorem dX3_copyFrom_89 : decode cX3_copyFrom 89 = .ok (.aload_n 1, 1) := by decide +kernel
theorem dX3_copyFrom_90 : decode cX3_copyFrom 90 = .ok (.getfield 71, 3) := by decide +kernel
theorem dX3_copyFrom_93 : decode cX3_copyFrom 93 = .ok (.putfield 71, 3) := by decide +kernel
theorem dX3_copyFrom_96 : decode cX3_copyFrom 96 = .ok (.aload_n 0, 1) := by decide +kernel
theorem dX3_copyFrom_97 : decode cX3_copyFrom 97 = .ok (.aload_n 1, 1) := by decide +kernel
theorem dX3_copyFrom_98 : decode cX3_copyFrom 98 = .ok (.getfield 74, 3) := by decide +kernel
theorem dX3_copyFrom_101 : decode cX3_copyFrom 101 = .ok (.putfield 74, 3) := by decide +kernel
theorem dX3_copyFrom_104 : decode cX3_copyFrom 104 = .ok (.aload_n 0, 1) := by decide +kernel
theorem dX3_copyFrom_105 : decode cX3_copyFrom 105 = .ok (.aload_n 1, 1) := by decide +kernel
theorem dX3_copyFrom_106 : decode cX3_copyFrom 106 = .ok (.getfield 77, 3) := by decide +kernel
theorem dX3_copyFrom_109 : decode cX3_copyFrom 109 = .ok (.putfield 77, 3) := by decide +kernel
theorem dX3_copyFrom_112 : decode cX3_copyFrom 112 = .ok (.aload_n 0, 1) := by decide +kernel
theorem dX3_copyFrom_113 : decode cX3_copyFrom 113 = .ok (.aload_n 1, 1) := by decide +kernel
theorem dX3_copyFrom_114 : decode cX3_copyFrom 114 = .ok (.getfield 80, 3) := by decide +kernel
theorem dX3_copyFrom_117 : decode cX3_copyFrom 117 = .ok (.putfield 80, 3) := by decide +kernel
theorem dX3_copyFrom_120 : decode cX3_copyFrom 120 = .ok (.aload_n 0, 1) := by decide +kernel
theorem dX3_copyFrom_121 : decode cX3_copyFrom 121 = .ok (.aload_n 1, 1) := by decide +kernel
theorem dX3_copyFrom_122 : decode cX3_copyFrom 122 = .ok (.getfield 83, 3) := by decide +kernel
theorem dX3_copyFrom_125 : decode cX3_copyFrom 125 = .ok (.putfield 83, 3) := by decide +kernel
theorem dX3_copyFrom_128 : decode cX3_copyFrom 128 = .ok (.aload_n 0, 1) := by decide +kernel
theorem dX3_copyFrom_129 : decode cX3_copyFrom 129 = .ok (.aload_n 1, 1) := by decide +kernel
theorem dX3_copyFrom_130 : decode cX3_copyFrom 130 = .ok (.getfield 86, 3) := by decide +kernel
theorem dX3_copyFrom_133 : decode cX3_copyFrom 133 = .ok (.putfield 86, 3) := by decide +kernel
theorem dX3_copyFrom_136 : decode cX3_copyFrom 136 = .ok (.aload_n 0, 1) := by decide +kernel
theorem dX3_copyFrom_137 : decode cX3_copyFrom 137 = .ok (.aload_n 1, 1) := by decide +kernel
theorem dX3_copyFrom_138 : decode cX3_copyFrom 138 = .ok (.getfield 89, 3) := by decide +kernel
theorem dX3_copyFrom_141 : decode cX3_copyFrom 141 = .ok (.putfield 89, 3) := by decide +kernel
theorem dX3_copyFrom_144 : decode cX3_copyFrom 144 = .ok (.return_, 1) := by decide +kernel
theorem dX3_isSilent_0 : decode cX3_isSilent 0 = .ok (.aload_n 0, 1) := by decide +kernel
theorem dX3_isSilent_1 : decode cX3_isSilent 1 = .ok (.getfield 32, 3) := by decide +kernel
theorem dX3_isSilent_4 : decode cX3_isSilent 4 = .ok (.iconst 4, 1) := by decide +kernel
theorem dX3_isSilent_5 : decode cX3_isSilent 5 = .ok (.iaload, 1) := by decide +kernel
theorem dX3_isSilent_6 : decode cX3_isSilent 6 = .ok (.istore_n 1, 1) := by decide +kernel
theorem dX3_isSilent_7 : decode cX3_isSilent 7 = .ok (.iload_n 1, 1) := by decide +kernel
theorem dX3_isSilent_8 : decode cX3_isSilent 8 = .ok (.ifCond .eq 27, 3) := by decide +kernel
theorem dX3_isSilent_11 : decode cX3_isSilent 11 = .ok (.aload_n 0, 1) := by decide +kernel
theorem dX3_isSilent_12 : decode cX3_isSilent 12 = .ok (.invokevirtual 92, 3) := by decide +kernel
theorem dX3_isSilent_15 : decode cX3_isSilent 15 = .ok (.iload_n 1, 1) := by decide +kernel
theorem dX3_isSilent_16 : decode cX3_isSilent 16 = .ok (.isub, 1) := by decide +kernel
theorem dX3_isSilent_17 : decode cX3_isSilent 17 = .ok (.bipush 12, 2) := by decide +kernel
theorem dX3_isSilent_19 : decode cX3_isSilent 19 = .ok (.invokestatic 96, 3) := by decide +kernel
theorem dX3_isSilent_22 : decode cX3_isSilent 22 = .ok (.aload_n 0, 1) := by decide +kernel
theorem dX3_isSilent_23 : decode cX3_isSilent 23 = .ok (.getfield 32, 3) := by decide +kernel
theorem dX3_isSilent_26 : decode cX3_isSilent 26 = .ok (.iconst 5, 1) := by decide +kernel
theorem dX3_isSilent_27 : decode cX3_isSilent 27 = .ok (.iaload, 1) := by decide +kernel
theorem dX3_isSilent_28 : decode cX3_isSilent 28 = .ok (.if_icmp .ge 7, 3) := by decide +kernel
theorem dX3_isSilent_31 : decode cX3_isSilent 31 = .ok (.iconst 1, 1) := by decide +kernel
theorem dX3_isSilent_32 : decode cX3_isSilent 32 = .ok (.goto 4, 3) := by decide +kernel
theorem dX3_isSilent_35 : decode cX3_isSilent 35 = .ok (.iconst 0, 1) := by decide +kernel
theorem dX3_isSilent_36 : decode cX3_isSilent 36 = .ok (.ireturn, 1) := by decide +kernel
theorem dX3_hourShown_0 : decode cX3_hourShown 0 = .ok (.aload_n 0, 1) := by decide +kernel
theorem dX3_hourShown_1 : decode cX3_hourShown 1 = .ok (.getfield 62, 3) := by decide +kernel
theorem dX3_hourShown_4 : decode cX3_hourShown 4 = .ok (.bipush 60, 2) := by decide +kernel
theorem dX3_hourShown_6 : decode cX3_hourShown 6 = .ok (.idiv, 1) := by decide +kernel
theorem dX3_hourShown_7 : decode cX3_hourShown 7 = .ok (.istore_n 1, 1) := by decide +kernel
theorem dX3_hourShown_8 : decode cX3_hourShown 8 = .ok (.iload_n 1, 1) := by decide +kernel
theorem dX3_hourShown_9 : decode cX3_hourShown 9 = .ok (.ifCond .ne 8, 3) := by decide +kernel
theorem dX3_hourShown_12 : decode cX3_hourShown 12 = .ok (.bipush 12, 2) := by decide +kernel
theorem dX3_hourShown_14 : decode cX3_hourShown 14 = .ok (.goto 4, 3) := by decide +kernel
theorem dX3_hourShown_17 : decode cX3_hourShown 17 = .ok (.iload_n 1, 1) := by decide +kernel
theorem dX3_hourShown_18 : decode cX3_hourShown 18 = .ok (.ireturn, 1) := by decide +kernel
theorem dX3_passMinutes_0 : decode cX3_passMinutes 0 = .ok (.iconst 0, 1) := by decide +kernel
theorem dX3_passMinutes_1 : decode cX3_passMinutes 1 = .ok (.istore_n 2, 1) := by decide +kernel
theorem dX3_passMinutes_2 : decode cX3_passMinutes 2 = .ok (.iload_n 2, 1) := by decide +kernel
theorem dX3_passMinutes_3 : decode cX3_passMinutes 3 = .ok (.iload_n 1, 1) := by decide +kernel
theorem dX3_passMinutes_4 : decode cX3_passMinutes 4 = .ok (.if_icmp .ge 13, 3) := by decide +kernel
theorem dX3_passMinutes_7 : decode cX3_passMinutes 7 = .ok (.aload_n 0, 1) := by decide +kernel
theorem dX3_passMinutes_8 : decode cX3_passMinutes 8 = .ok (.invokevirtual 102, 3) := by decide +kernel
theorem dX3_passMinutes_11 : decode cX3_passMinutes 11 = .ok (.iinc 2 1, 3) := by decide +kernel
theorem dX3_passMinutes_14 : decode cX3_passMinutes 14 = .ok (.goto (-12), 3) := by decide +kernel
theorem dX3_passMinutes_17 : decode cX3_passMinutes 17 = .ok (.return_, 1) := by decide +kernel
theorem dX3_passMinute_0 : decode cX3_passMinute 0 = .ok (.aload_n 0, 1) := by decide +kernel
theorem dX3_passMinute_1 : decode cX3_passMinute 1 = .ok (.invokevirtual 105, 3) := by decide +kernel
theorem dX3_passMinute_4 : decode cX3_passMinute 4 = .ok (.aload_n 0, 1) := by decide +kernel
theorem dX3_passMinute_5 : decode cX3_passMinute 5 = .ok (.invokevirtual 108, 3) := by decide +kernel
theorem dX3_passMinute_8 : decode cX3_passMinute 8 = .ok (.aload_n 0, 1) := by decide +kernel
theorem dX3_passMinute_9 : decode cX3_passMinute 9 = .ok (.dup, 1) := by decide +kernel
theorem dX3_passMinute_10 : decode cX3_passMinute 10 = .ok (.getfield 59, 3) := by decide +kernel
theorem dX3_passMinute_13 : decode cX3_passMinute 13 = .ok (.iconst 1, 1) := by decide +kernel
theorem dX3_passMinute_14 : decode cX3_passMinute 14 = .ok (.iadd, 1) := by decide +kernel
theorem dX3_passMinute_15 : decode cX3_passMinute 15 = .ok (.putfield 59, 3) := by decide +kernel
theorem dX3_passMinute_18 : decode cX3_passMinute 18 = .ok (.return_, 1) := by decide +kernel
theorem dX3_passUpToDebts_0 : decode cX3_passUpToDebts 0 = .ok (.aload_n 0, 1) := by decide +kernel
theorem dX3_passUpToDebts_1 : decode cX3_passUpToDebts 1 = .ok (.invokevirtual 111, 3) := by decide +kernel
theorem dX3_passUpToDebts_4 : decode cX3_passUpToDebts 4 = .ok (.aload_n 0, 1) := by decide +kernel
theorem dX3_passUpToDebts_5 : decode cX3_passUpToDebts 5 = .ok (.invokevirtual 114, 3) := by decide +kernel
theorem dX3_passUpToDebts_8 : decode cX3_passUpToDebts 8 = .ok (.aload_n 0, 1) := by decide +kernel
theorem dX3_passUpToDebts_9 : decode cX3_passUpToDebts 9 = .ok (.invokevirtual 117, 3) := by decide +kernel
theorem dX3_passUpToDebts_12 : decode cX3_passUpToDebts 12 = .ok (.ifCond .eq 11, 3) := by decide +kernel
theorem dX3_passUpToDebts_15 : decode cX3_passUpToDebts 15 = .ok (.aload_n 0, 1) := by decide +kernel
theorem dX3_passUpToDebts_16 : decode cX3_passUpToDebts 16 = .ok (.invokevirtual 121, 3) := by decide +kernel
theorem dX3_passUpToDebts_19 : decode cX3_passUpToDebts 19 = .ok (.aload_n 0, 1) := by decide +kernel
theorem dX3_passUpToDebts_20 : decode cX3_passUpToDebts 20 = .ok (.invokevirtual 124, 3) := by decide +kernel
theorem dX3_passUpToDebts_23 : decode cX3_passUpToDebts 23 = .ok (.return_, 1) := by decide +kernel
theorem dX3_letWinderCome_0 : decode cX3_letWinderCome 0 = .ok (.aload_n 0, 1) := by decide +kernel
theorem dX3_letWinderCome_1 : decode cX3_letWinderCome 1 = .ok (.getfield 21, 3) := by decide +kernel
theorem dX3_letWinderCome_4 : decode cX3_letWinderCome 4 = .ok (.aload_n 0, 1) := by decide +kernel
theorem dX3_letWinderCome_5 : decode cX3_letWinderCome 5 = .ok (.getfield 59, 3) := by decide +kernel
theorem dX3_letWinderCome_8 : decode cX3_letWinderCome 8 = .ok (.aload_n 0, 1) := by decide +kernel
theorem dX3_letWinderCome_9 : decode cX3_letWinderCome 9 = .ok (.invokevirtual 127, 3) := by decide +kernel
theorem dX3_letWinderCome_12 : decode cX3_letWinderCome 12 = .ok (.invokevirtual 130, 3) := by decide +kernel
theorem dX3_letWinderCome_15 : decode cX3_letWinderCome 15 = .ok (.istore_n 1, 1) := by decide +kernel
theorem dX3_letWinderCome_16 : decode cX3_letWinderCome 16 = .ok (.iload_n 1, 1) := by decide +kernel
theorem dX3_letWinderCome_17 : decode cX3_letWinderCome 17 = .ok (.ifCond .lt 9, 3) := by decide +kernel
theorem dX3_letWinderCome_20 : decode cX3_letWinderCome 20 = .ok (.iload_n 1, 1) := by decide +kernel
theorem dX3_letWinderCome_21 : decode cX3_letWinderCome 21 = .ok (.bipush 6, 2) := by decide +kernel
theorem dX3_letWinderCome_23 : decode cX3_letWinderCome 23 = .ok (.if_icmp .lt 4, 3) := by decide +kernel
theorem dX3_letWinderCome_26 : decode cX3_letWinderCome 26 = .ok (.return_, 1) := by decide +kernel
theorem dX3_letWinderCome_27 : decode cX3_letWinderCome 27 = .ok (.aload_n 0, 1) := by decide +kernel
theorem dX3_letWinderCome_28 : decode cX3_letWinderCome 28 = .ok (.getfield 12, 3) := by decide +kernel
theorem dX3_letWinderCome_31 : decode cX3_letWinderCome 31 = .ok (.aload_n 0, 1) := by decide +kernel
theorem dX3_letWinderCome_32 : decode cX3_letWinderCome 32 = .ok (.getfield 21, 3) := by decide +kernel
theorem dX3_letWinderCome_35 : decode cX3_letWinderCome 35 = .ok (.getfield 134, 3) := by decide +kernel
theorem dX3_letWinderCome_38 : decode cX3_letWinderCome 38 = .ok (.iload_n 1, 1) := by decide +kernel
theorem dX3_letWinderCome_39 : decode cX3_letWinderCome 39 = .ok (.iaload, 1) := by decide +kernel
theorem dX3_letWinderCome_40 : decode cX3_letWinderCome 40 = .ok (.aload_n 0, 1) := by decide +kernel
theorem dX3_letWinderCome_41 : decode cX3_letWinderCome 41 = .ok (.getfield 21, 3) := by decide +kernel
theorem dX3_letWinderCome_44 : decode cX3_letWinderCome 44 = .ok (.getfield 137, 3) := by decide +kernel
theorem dX3_letWinderCome_47 : decode cX3_letWinderCome 47 = .ok (.iload_n 1, 1) := by decide +kernel
theorem dX3_letWinderCome_48 : decode cX3_letWinderCome 48 = .ok (.iaload, 1) := by decide +kernel
theorem dX3_letWinderCome_49 : decode cX3_letWinderCome 49 = .ok (.invokevirtual 140, 3) := by decide +kernel
theorem dX3_letWinderCome_52 : decode cX3_letWinderCome 52 = .ok (.pop, 1) := by decide +kernel
theorem dX3_letWinderCome_53 : decode cX3_letWinderCome 53 = .ok (.aload_n 0, 1) := by decide +kernel
theorem dX3_letWinderCome_54 : decode cX3_letWinderCome 54 = .ok (.getfield 21, 3) := by decide +kernel
theorem dX3_letWinderCome_57 : decode cX3_letWinderCome 57 = .ok (.getfield 143, 3) := by decide +kernel
theorem dX3_letWinderCome_60 : decode cX3_letWinderCome 60 = .ok (.iload_n 1, 1) := by decide +kernel
theorem dX3_letWinderCome_61 : decode cX3_letWinderCome 61 = .ok (.dup2, 1) := by decide +kernel
theorem dX3_letWinderCome_62 : decode cX3_letWinderCome 62 = .ok (.iaload, 1) := by decide +kernel
theorem dX3_letWinderCome_63 : decode cX3_letWinderCome 63 = .ok (.iconst 1, 1) := by decide +kernel
theorem dX3_letWinderCome_64 : decode cX3_letWinderCome 64 = .ok (.iadd, 1) := by decide +kernel
theorem dX3_letWinderCome_65 : decode cX3_letWinderCome 65 = .ok (.iastore, 1) := by decide +kernel
theorem dX3_letWinderCome_66 : decode cX3_letWinderCome 66 = .ok (.aload_n 0, 1) := by decide +kernel
theorem dX3_letWinderCome_67 : decode cX3_letWinderCome 67 = .ok (.getfield 21, 3) := by decide +kernel
theorem dX3_letWinderCome_70 : decode cX3_letWinderCome 70 = .ok (.getfield 146, 3) := by decide +kernel
theorem dX3_letWinderCome_73 : decode cX3_letWinderCome 73 = .ok (.iload_n 1, 1) := by decide +kernel
theorem dX3_letWinderCome_74 : decode cX3_letWinderCome 74 = .ok (.aload_n 0, 1) := by decide +kernel
theorem dX3_letWinderCome_75 : decode cX3_letWinderCome 75 = .ok (.getfield 59, 3) := by decide +kernel
theorem dX3_letWinderCome_78 : decode cX3_letWinderCome 78 = .ok (.aload_n 0, 1) := by decide +kernel
theorem dX3_letWinderCome_79 : decode cX3_letWinderCome 79 = .ok (.getfield 21, 3) := by decide +kernel
theorem dX3_letWinderCome_82 : decode cX3_letWinderCome 82 = .ok (.getfield 149, 3) := by decide +kernel
theorem dX3_letWinderCome_85 : decode cX3_letWinderCome 85 = .ok (.iload_n 1, 1) := by decide +kernel
theorem dX3_letWinderCome_86 : decode cX3_letWinderCome 86 = .ok (.iaload, 1) := by decide +kernel
theorem dX3_letWinderCome_87 : decode cX3_letWinderCome 87 = .ok (.iadd, 1) := by decide +kernel
theorem dX3_letWinderCome_88 : decode cX3_letWinderCome 88 = .ok (.iastore, 1) := by decide +kernel
theorem dX3_letWinderCome_89 : decode cX3_letWinderCome 89 = .ok (.return_, 1) := by decide +kernel
theorem dX3_areStrikersKeptOut_0 : decode cX3_areStrikersKeptOut 0 = .ok (.aload_n 0, 1) := by decide +kernel
theorem dX3_areStrikersKeptOut_1 : decode cX3_areStrikersKeptOut 1 = .ok (.getfield 28, 3) := by decide +kernel
theorem dX3_areStrikersKeptOut_4 : decode cX3_areStrikersKeptOut 4 = .ok (.getfield 152, 3) := by decide +kernel
theorem dX3_areStrikersKeptOut_7 : decode cX3_areStrikersKeptOut 7 = .ok (.ifCond .le 19, 3) := by decide +kernel
theorem dX3_areStrikersKeptOut_10 : decode cX3_areStrikersKeptOut 10 = .ok (.aload_n 0, 1) := by decide +kernel
theorem dX3_areStrikersKeptOut_11 : decode cX3_areStrikersKeptOut 11 = .ok (.getfield 12, 3) := by decide +kernel
theorem dX3_areStrikersKeptOut_14 : decode cX3_areStrikersKeptOut 14 = .ok (.getfield 155, 3) := by decide +kernel
theorem dX3_areStrikersKeptOut_17 : decode cX3_areStrikersKeptOut 17 = .ok (.iconst 1, 1) := by decide +kernel
theorem dX3_areStrikersKeptOut_18 : decode cX3_areStrikersKeptOut 18 = .ok (.iaload, 1) := by decide +kernel
theorem dX3_areStrikersKeptOut_19 : decode cX3_areStrikersKeptOut 19 = .ok (.ifCond .eq 7, 3) := by decide +kernel
theorem dX3_areStrikersKeptOut_22 : decode cX3_areStrikersKeptOut 22 = .ok (.iconst 1, 1) := by decide +kernel
theorem dX3_areStrikersKeptOut_23 : decode cX3_areStrikersKeptOut 23 = .ok (.goto 4, 3) := by decide +kernel
theorem dX3_areStrikersKeptOut_26 : decode cX3_areStrikersKeptOut 26 = .ok (.iconst 0, 1) := by decide +kernel
theorem dX3_areStrikersKeptOut_27 : decode cX3_areStrikersKeptOut 27 = .ok (.ireturn, 1) := by decide +kernel
theorem dX3_rewind_0 : decode cX3_rewind 0 = .ok (.aload_n 0, 1) := by decide +kernel
theorem dX3_rewind_1 : decode cX3_rewind 1 = .ok (.getfield 32, 3) := by decide +kernel
theorem dX3_rewind_4 : decode cX3_rewind 4 = .ok (.iconst 0, 1) := by decide +kernel
theorem dX3_rewind_5 : decode cX3_rewind 5 = .ok (.iaload, 1) := by decide +kernel
theorem dX3_rewind_6 : decode cX3_rewind 6 = .ok (.aload_n 0, 1) := by decide +kernel
theorem dX3_rewind_7 : decode cX3_rewind 7 = .ok (.getfield 45, 3) := by decide +kernel
theorem dX3_rewind_10 : decode cX3_rewind 10 = .ok (.isub, 1) := by decide +kernel
theorem dX3_rewind_11 : decode cX3_rewind 11 = .ok (.istore_n 1, 1) := by decide +kernel
theorem dX3_rewind_12 : decode cX3_rewind 12 = .ok (.aload_n 0, 1) := by decide +kernel
theorem dX3_rewind_13 : decode cX3_rewind 13 = .ok (.getfield 12, 3) := by decide +kernel
theorem dX3_rewind_16 : decode cX3_rewind 16 = .ok (.getfield 155, 3) := by decide +kernel
theorem dX3_rewind_19 : decode cX3_rewind 19 = .ok (.iconst 0, 1) := by decide +kernel
theorem dX3_rewind_20 : decode cX3_rewind 20 = .ok (.iaload, 1) := by decide +kernel
theorem dX3_rewind_21 : decode cX3_rewind 21 = .ok (.istore_n 2, 1) := by decide +kernel
theorem dX3_rewind_22 : decode cX3_rewind 22 = .ok (.aload_n 0, 1) := by decide +kernel
theorem dX3_rewind_23 : decode cX3_rewind 23 = .ok (.getfield 45, 3) := by decide +kernel
theorem dX3_rewind_26 : decode cX3_rewind 26 = .ok (.aload_n 0, 1) := by decide +kernel
theorem dX3_rewind_27 : decode cX3_rewind 27 = .ok (.getfield 32, 3) := by decide +kernel
theorem dX3_rewind_30 : decode cX3_rewind 30 = .ok (.iconst 1, 1) := by decide +kernel
theorem dX3_rewind_31 : decode cX3_rewind 31 = .ok (.iaload, 1) := by decide +kernel
theorem dX3_rewind_32 : decode cX3_rewind 32 = .ok (.if_icmp .gt 11, 3) := by decide +kernel
theorem dX3_rewind_35 : decode cX3_rewind 35 = .ok (.iload_n 1, 1) := by decide +kernel
theorem dX3_rewind_36 : decode cX3_rewind 36 = .ok (.ifCond .le 7, 3) := by decide +kernel
theorem dX3_rewind_39 : decode cX3_rewind 39 = .ok (.iload_n 2, 1) := by decide +kernel
theorem dX3_rewind_40 : decode cX3_rewind 40 = .ok (.ifCond .ne 4, 3) := by decide +kernel
theorem dX3_rewind_43 : decode cX3_rewind 43 = .ok (.return_, 1) := by decide +kernel
theorem dX3_rewind_44 : decode cX3_rewind 44 = .ok (.iload_n 1, 1) := by decide +kernel
theorem dX3_rewind_45 : decode cX3_rewind 45 = .ok (.iload_n 2, 1) := by decide +kernel
theorem dX3_rewind_46 : decode cX3_rewind 46 = .ok (.invokestatic 158, 3) := by decide +kernel
theorem dX3_rewind_49 : decode cX3_rewind 49 = .ok (.istore_n 3, 1) := by decide +kernel
theorem dX3_rewind_50 : decode cX3_rewind 50 = .ok (.aload_n 0, 1) := by decide +kernel
theorem dX3_rewind_51 : decode cX3_rewind 51 = .ok (.dup, 1) := by decide +kernel
theorem dX3_rewind_52 : decode cX3_rewind 52 = .ok (.getfield 45, 3) := by decide +kernel
theorem dX3_rewind_55 : decode cX3_rewind 55 = .ok (.iload_n 3, 1) := by decide +kernel
theorem dX3_rewind_56 : decode cX3_rewind 56 = .ok (.iadd, 1) := by decide +kernel
theorem dX3_rewind_57 : decode cX3_rewind 57 = .ok (.putfield 45, 3) := by decide +kernel
theorem dX3_rewind_60 : decode cX3_rewind 60 = .ok (.aload_n 0, 1) := by decide +kernel
theorem dX3_rewind_61 : decode cX3_rewind 61 = .ok (.getfield 12, 3) := by decide +kernel
theorem dX3_rewind_64 : decode cX3_rewind 64 = .ok (.iconst 0, 1) := by decide +kernel
theorem dX3_rewind_65 : decode cX3_rewind 65 = .ok (.iload_n 3, 1) := by decide +kernel
theorem dX3_rewind_66 : decode cX3_rewind 66 = .ok (.invokevirtual 161, 3) := by decide +kernel
theorem dX3_rewind_69 : decode cX3_rewind 69 = .ok (.aload_n 0, 1) := by decide +kernel
theorem dX3_rewind_70 : decode cX3_rewind 70 = .ok (.dup, 1) := by decide +kernel
theorem dX3_rewind_71 : decode cX3_rewind 71 = .ok (.getfield 89, 3) := by decide +kernel
theorem dX3_rewind_74 : decode cX3_rewind 74 = .ok (.iconst 1, 1) := by decide +kernel
theorem dX3_rewind_75 : decode cX3_rewind 75 = .ok (.iadd, 1) := by decide +kernel
theorem dX3_rewind_76 : decode cX3_rewind 76 = .ok (.putfield 89, 3) := by decide +kernel
theorem dX3_rewind_79 : decode cX3_rewind 79 = .ok (.return_, 1) := by decide +kernel
theorem dX3_moveHands_0 : decode cX3_moveHands 0 = .ok (.aload_n 0, 1) := by decide +kernel
theorem dX3_moveHands_1 : decode cX3_moveHands 1 = .ok (.getfield 45, 3) := by decide +kernel
theorem dX3_moveHands_4 : decode cX3_moveHands 4 = .ok (.ifCond .ne 15, 3) := by decide +kernel
theorem dX3_moveHands_7 : decode cX3_moveHands 7 = .ok (.aload_n 0, 1) := by decide +kernel
theorem dX3_moveHands_8 : decode cX3_moveHands 8 = .ok (.dup, 1) := by decide +kernel
theorem dX3_moveHands_9 : decode cX3_moveHands 9 = .ok (.getfield 86, 3) := by decide +kernel
theorem dX3_moveHands_12 : decode cX3_moveHands 12 = .ok (.iconst 1, 1) := by decide +kernel
theorem dX3_moveHands_13 : decode cX3_moveHands 13 = .ok (.iadd, 1) := by decide +kernel
theorem dX3_moveHands_14 : decode cX3_moveHands 14 = .ok (.putfield 86, 3) := by decide +kernel
theorem dX3_moveHands_17 : decode cX3_moveHands 17 = .ok (.iconst 0, 1) := by decide +kernel
theorem dX3_moveHands_18 : decode cX3_moveHands 18 = .ok (.ireturn, 1) := by decide +kernel
theorem dX3_moveHands_19 : decode cX3_moveHands 19 = .ok (.aload_n 0, 1) := by decide +kernel
theorem dX3_moveHands_20 : decode cX3_moveHands 20 = .ok (.dup, 1) := by decide +kernel
theorem dX3_moveHands_21 : decode cX3_moveHands 21 = .ok (.getfield 45, 3) := by decide +kernel
theorem dX3_moveHands_24 : decode cX3_moveHands 24 = .ok (.iconst 1, 1) := by decide +kernel
theorem dX3_moveHands_25 : decode cX3_moveHands 25 = .ok (.isub, 1) := by decide +kernel
theorem dX3_moveHands_26 : decode cX3_moveHands 26 = .ok (.putfield 45, 3) := by decide +kernel
theorem dX3_moveHands_29 : decode cX3_moveHands 29 = .ok (.aload_n 0, 1) := by decide +kernel
theorem dX3_moveHands_30 : decode cX3_moveHands 30 = .ok (.invokevirtual 165, 3) := by decide +kernel
theorem dX3_moveHands_33 : decode cX3_moveHands 33 = .ok (.ifCond .eq 9, 3) := by decide +kernel
theorem dX3_moveHands_36 : decode cX3_moveHands 36 = .ok (.aload_n 0, 1) := by decide +kernel
theorem dX3_moveHands_37 : decode cX3_moveHands 37 = .ok (.invokevirtual 168, 3) := by decide +kernel
theorem dX3_moveHands_40 : decode cX3_moveHands 40 = .ok (.iconst 0, 1) := by decide +kernel
theorem dX3_moveHands_41 : decode cX3_moveHands 41 = .ok (.ireturn, 1) := by decide +kernel
theorem dX3_moveHands_42 : decode cX3_moveHands 42 = .ok (.aload_n 0, 1) := by decide +kernel
theorem dX3_moveHands_43 : decode cX3_moveHands 43 = .ok (.aload_n 0, 1) := by decide +kernel
theorem dX3_moveHands_44 : decode cX3_moveHands 44 = .ok (.getfield 62, 3) := by decide +kernel
theorem dX3_moveHands_47 : decode cX3_moveHands 47 = .ok (.iconst 1, 1) := by decide +kernel
theorem dX3_moveHands_48 : decode cX3_moveHands 48 = .ok (.iadd, 1) := by decide +kernel
theorem dX3_moveHands_49 : decode cX3_moveHands 49 = .ok (.sipush 720, 3) := by decide +kernel
theorem dX3_moveHands_52 : decode cX3_moveHands 52 = .ok (.irem, 1) := by decide +kernel
theorem dX3_moveHands_53 : decode cX3_moveHands 53 = .ok (.putfield 62, 3) := by decide +kernel
theorem dX3_moveHands_56 : decode cX3_moveHands 56 = .ok (.iconst 1, 1) := by decide +kernel
theorem dX3_moveHands_57 : decode cX3_moveHands 57 = .ok (.ireturn, 1) := by decide +kernel
theorem dX3_isSlippery_0 : decode cX3_isSlippery 0 = .ok (.aload_n 0, 1) := by decide +kernel
theorem dX3_isSlippery_1 : decode cX3_isSlippery 1 = .ok (.getfield 65, 3) := by decide +kernel
theorem dX3_isSlippery_4 : decode cX3_isSlippery 4 = .ok (.aload_n 0, 1) := by decide +kernel
theorem dX3_isSlippery_5 : decode cX3_isSlippery 5 = .ok (.getfield 32, 3) := by decide +kernel
theorem dX3_isSlippery_8 : decode cX3_isSlippery 8 = .ok (.iconst 2, 1) := by decide +kernel
theorem dX3_isSlippery_9 : decode cX3_isSlippery 9 = .ok (.iaload, 1) := by decide +kernel
theorem dX3_isSlippery_10 : decode cX3_isSlippery 10 = .ok (.aload_n 0, 1) := by decide +kernel
theorem dX3_isSlippery_11 : decode cX3_isSlippery 11 = .ok (.getfield 68, 3) := by decide +kernel
theorem dX3_isSlippery_14 : decode cX3_isSlippery 14 = .ok (.isub, 1) := by decide +kernel
theorem dX3_isSlippery_15 : decode cX3_isSlippery 15 = .ok (.if_icmp .le 7, 3) := by decide +kernel
theorem dX3_isSlippery_18 : decode cX3_isSlippery 18 = .ok (.iconst 1, 1) := by decide +kernel
theorem dX3_isSlippery_19 : decode cX3_isSlippery 19 = .ok (.goto 4, 3) := by decide +kernel
theorem dX3_isSlippery_22 : decode cX3_isSlippery 22 = .ok (.iconst 0, 1) := by decide +kernel
theorem dX3_isSlippery_23 : decode cX3_isSlippery 23 = .ok (.ireturn, 1) := by decide +kernel
theorem dX3_slip_0 : decode cX3_slip 0 = .ok (.aload_n 0, 1) := by decide +kernel
theorem dX3_slip_1 : decode cX3_slip 1 = .ok (.dup, 1) := by decide +kernel
theorem dX3_slip_2 : decode cX3_slip 2 = .ok (.getfield 83, 3) := by decide +kernel
theorem dX3_slip_5 : decode cX3_slip 5 = .ok (.iconst 1, 1) := by decide +kernel
theorem dX3_slip_6 : decode cX3_slip 6 = .ok (.iadd, 1) := by decide +kernel
theorem dX3_slip_7 : decode cX3_slip 7 = .ok (.putfield 83, 3) := by decide +kernel
theorem dX3_slip_10 : decode cX3_slip 10 = .ok (.aload_n 0, 1) := by decide +kernel
theorem dX3_slip_11 : decode cX3_slip 11 = .ok (.getfield 83, 3) := by decide +kernel
theorem dX3_slip_14 : decode cX3_slip 14 = .ok (.iconst 5, 1) := by decide +kernel
theorem dX3_slip_15 : decode cX3_slip 15 = .ok (.irem, 1) := by decide +kernel
theorem dX3_slip_16 : decode cX3_slip 16 = .ok (.ifCond .ne 22, 3) := by decide +kernel
theorem dX3_slip_19 : decode cX3_slip 19 = .ok (.aload_n 0, 1) := by decide +kernel
theorem dX3_slip_20 : decode cX3_slip 20 = .ok (.getfield 68, 3) := by decide +kernel
theorem dX3_slip_23 : decode cX3_slip 23 = .ok (.bipush 20, 2) := by decide +kernel
theorem dX3_slip_25 : decode cX3_slip 25 = .ok (.if_icmp .ge 13, 3) := by decide +kernel
theorem dX3_slip_28 : decode cX3_slip 28 = .ok (.aload_n 0, 1) := by decide +kernel
theorem dX3_slip_29 : decode cX3_slip 29 = .ok (.dup, 1) := by decide +kernel
theorem dX3_slip_30 : decode cX3_slip 30 = .ok (.getfield 68, 3) := by decide +kernel
theorem dX3_slip_33 : decode cX3_slip 33 = .ok (.iconst 1, 1) := by decide +kernel
theorem dX3_slip_34 : decode cX3_slip 34 = .ok (.iadd, 1) := by decide +kernel
theorem dX3_slip_35 : decode cX3_slip 35 = .ok (.putfield 68, 3) := by decide +kernel
theorem dX3_slip_38 : decode cX3_slip 38 = .ok (.return_, 1) := by decide +kernel
theorem dX3_chime_0 : decode cX3_chime 0 = .ok (.aload_n 0, 1) := by decide +kernel
theorem dX3_chime_1 : decode cX3_chime 1 = .ok (.getfield 62, 3) := by decide +kernel
theorem dX3_chime_4 : decode cX3_chime 4 = .ok (.bipush 15, 2) := by decide +kernel
theorem dX3_chime_6 : decode cX3_chime 6 = .ok (.irem, 1) := by decide +kernel
theorem dX3_chime_7 : decode cX3_chime 7 = .ok (.ifCond .ne 10, 3) := by decide +kernel
theorem dX3_chime_10 : decode cX3_chime 10 = .ok (.aload_n 0, 1) := by decide +kernel
theorem dX3_chime_11 : decode cX3_chime 11 = .ok (.invokevirtual 171, 3) := by decide +kernel
theorem dX3_chime_14 : decode cX3_chime 14 = .ok (.ifCond .eq 4, 3) := by decide +kernel
theorem dX3_chime_17 : decode cX3_chime 17 = .ok (.return_, 1) := by decide +kernel
theorem dX3_chime_18 : decode cX3_chime 18 = .ok (.aload_n 0, 1) := by decide +kernel
theorem dX3_chime_19 : decode cX3_chime 19 = .ok (.getfield 62, 3) := by decide +kernel
theorem dX3_chime_22 : decode cX3_chime 22 = .ok (.bipush 60, 2) := by decide +kernel
theorem dX3_chime_24 : decode cX3_chime 24 = .ok (.irem, 1) := by decide +kernel
theorem dX3_chime_25 : decode cX3_chime 25 = .ok (.bipush 15, 2) := by decide +kernel
theorem dX3_chime_27 : decode cX3_chime 27 = .ok (.idiv, 1) := by decide +kernel
theorem dX3_chime_28 : decode cX3_chime 28 = .ok (.istore_n 1, 1) := by decide +kernel
theorem dX3_chime_29 : decode cX3_chime 29 = .ok (.iload_n 1, 1) := by decide +kernel
theorem dX3_chime_30 : decode cX3_chime 30 = .ok (.ifCond .ne 7, 3) := by decide +kernel
theorem dX3_chime_33 : decode cX3_chime 33 = .ok (.iconst 4, 1) := by decide +kernel
theorem dX3_chime_34 : decode cX3_chime 34 = .ok (.goto 4, 3) := by decide +kernel
theorem dX3_chime_37 : decode cX3_chime 37 = .ok (.iload_n 1, 1) := by decide +kernel
theorem dX3_chime_38 : decode cX3_chime 38 = .ok (.istore_n 2, 1) := by decide +kernel
theorem dX3_chime_39 : decode cX3_chime 39 = .ok (.iload_n 2, 1) := by decide +kernel
theorem dX3_chime_40 : decode cX3_chime 40 = .ok (.aload_n 0, 1) := by decide +kernel
theorem dX3_chime_41 : decode cX3_chime 41 = .ok (.getfield 12, 3) := by decide +kernel
theorem dX3_chime_44 : decode cX3_chime 44 = .ok (.getfield 155, 3) := by decide +kernel
theorem dX3_chime_47 : decode cX3_chime 47 = .ok (.iconst 2, 1) := by decide +kernel
theorem dX3_chime_48 : decode cX3_chime 48 = .ok (.iaload, 1) := by decide +kernel
theorem dX3_chime_49 : decode cX3_chime 49 = .ok (.iconst 2, 1) := by decide +kernel
theorem dX3_chime_50 : decode cX3_chime 50 = .ok (.idiv, 1) := by decide +kernel
theorem dX3_chime_51 : decode cX3_chime 51 = .ok (.invokestatic 158, 3) := by decide +kernel
theorem dX3_chime_54 : decode cX3_chime 54 = .ok (.istore_n 3, 1) := by decide +kernel
theorem dX3_chime_55 : decode cX3_chime 55 = .ok (.aload_n 0, 1) := by decide +kernel
theorem dX3_chime_56 : decode cX3_chime 56 = .ok (.getfield 12, 3) := by decide +kernel
theorem dX3_chime_59 : decode cX3_chime 59 = .ok (.iconst 2, 1) := by decide +kernel
theorem dX3_chime_60 : decode cX3_chime 60 = .ok (.iload_n 3, 1) := by decide +kernel
theorem dX3_chime_61 : decode cX3_chime 61 = .ok (.iconst 2, 1) := by decide +kernel
theorem dX3_chime_62 : decode cX3_chime 62 = .ok (.imul, 1) := by decide +kernel
theorem dX3_chime_63 : decode cX3_chime 63 = .ok (.invokevirtual 161, 3) := by decide +kernel
theorem dX3_chime_66 : decode cX3_chime 66 = .ok (.aload_n 0, 1) := by decide +kernel
theorem dX3_chime_67 : decode cX3_chime 67 = .ok (.dup, 1) := by decide +kernel
theorem dX3_chime_68 : decode cX3_chime 68 = .ok (.getfield 77, 3) := by decide +kernel
theorem dX3_chime_71 : decode cX3_chime 71 = .ok (.iload_n 3, 1) := by decide +kernel
theorem dX3_chime_72 : decode cX3_chime 72 = .ok (.iadd, 1) := by decide +kernel
theorem dX3_chime_73 : decode cX3_chime 73 = .ok (.putfield 77, 3) := by decide +kernel
theorem dX3_chime_76 : decode cX3_chime 76 = .ok (.aload_n 0, 1) := by decide +kernel
theorem dX3_chime_77 : decode cX3_chime 77 = .ok (.dup, 1) := by decide +kernel
theorem dX3_chime_78 : decode cX3_chime 78 = .ok (.getfield 80, 3) := by decide +kernel
theorem dX3_chime_81 : decode cX3_chime 81 = .ok (.iload_n 2, 1) := by decide +kernel
theorem dX3_chime_82 : decode cX3_chime 82 = .ok (.iload_n 3, 1) := by decide +kernel
theorem dX3_chime_83 : decode cX3_chime 83 = .ok (.isub, 1) := by decide +kernel
theorem dX3_chime_84 : decode cX3_chime 84 = .ok (.iadd, 1) := by decide +kernel
theorem dX3_chime_85 : decode cX3_chime 85 = .ok (.putfield 80, 3) := by decide +kernel
theorem dX3_chime_88 : decode cX3_chime 88 = .ok (.return_, 1) := by decide +kernel
theorem dX3_owe_0 : decode cX3_owe 0 = .ok (.aload_n 0, 1) := by decide +kernel
theorem dX3_owe_1 : decode cX3_owe 1 = .ok (.getfield 62, 3) := by decide +kernel
theorem dX3_owe_4 : decode cX3_owe 4 = .ok (.bipush 60, 2) := by decide +kernel
theorem dX3_owe_6 : decode cX3_owe 6 = .ok (.irem, 1) := by decide +kernel
theorem dX3_owe_7 : decode cX3_owe 7 = .ok (.ifCond .eq 4, 3) := by decide +kernel
theorem dX3_owe_10 : decode cX3_owe 10 = .ok (.return_, 1) := by decide +kernel
theorem dX3_owe_11 : decode cX3_owe 11 = .ok (.aload_n 0, 1) := by decide +kernel
theorem dX3_owe_12 : decode cX3_owe 12 = .ok (.invokevirtual 171, 3) := by decide +kernel
theorem dX3_owe_15 : decode cX3_owe 15 = .ok (.ifCond .eq 17, 3) := by decide +kernel
theorem dX3_owe_18 : decode cX3_owe 18 = .ok (.aload_n 0, 1) := by decide +kernel
theorem dX3_owe_19 : decode cX3_owe 19 = .ok (.dup, 1) := by decide +kernel
theorem dX3_owe_20 : decode cX3_owe 20 = .ok (.getfield 74, 3) := by decide +kernel
theorem dX3_owe_23 : decode cX3_owe 23 = .ok (.aload_n 0, 1) := by decide +kernel
theorem dX3_owe_24 : decode cX3_owe 24 = .ok (.invokevirtual 92, 3) := by decide +kernel
theorem dX3_owe_27 : decode cX3_owe 27 = .ok (.iadd, 1) := by decide +kernel
theorem dX3_owe_28 : decode cX3_owe 28 = .ok (.putfield 74, 3) := by decide +kernel
theorem dX3_owe_31 : decode cX3_owe 31 = .ok (.return_, 1) := by decide +kernel
theorem dX3_owe_32 : decode cX3_owe 32 = .ok (.aload_n 0, 1) := by decide +kernel
theorem dX3_owe_33 : decode cX3_owe 33 = .ok (.getfield 28, 3) := by decide +kernel
theorem dX3_owe_36 : decode cX3_owe 36 = .ok (.getfield 152, 3) := by decide +kernel
theorem dX3_owe_39 : decode cX3_owe 39 = .ok (.iconst 4, 1) := by decide +kernel
theorem dX3_owe_40 : decode cX3_owe 40 = .ok (.if_icmp .ne 28, 3) := by decide +kernel
theorem dX3_owe_43 : decode cX3_owe 43 = .ok (.aload_n 0, 1) := by decide +kernel
theorem dX3_owe_44 : decode cX3_owe 44 = .ok (.dup, 1) := by decide +kernel
theorem dX3_owe_45 : decode cX3_owe 45 = .ok (.getfield 74, 3) := by decide +kernel
theorem dX3_owe_48 : decode cX3_owe 48 = .ok (.aload_n 0, 1) := by decide +kernel
theorem dX3_owe_49 : decode cX3_owe 49 = .ok (.getfield 28, 3) := by decide +kernel
theorem dX3_owe_52 : decode cX3_owe 52 = .ok (.getfield 174, 3) := by decide +kernel
theorem dX3_owe_55 : decode cX3_owe 55 = .ok (.iconst 0, 1) := by decide +kernel
theorem dX3_owe_56 : decode cX3_owe 56 = .ok (.iaload, 1) := by decide +kernel
theorem dX3_owe_57 : decode cX3_owe 57 = .ok (.iadd, 1) := by decide +kernel
theorem dX3_owe_58 : decode cX3_owe 58 = .ok (.putfield 74, 3) := by decide +kernel
theorem dX3_owe_61 : decode cX3_owe 61 = .ok (.aload_n 0, 1) := by decide +kernel
theorem dX3_owe_62 : decode cX3_owe 62 = .ok (.getfield 28, 3) := by decide +kernel
theorem dX3_owe_65 : decode cX3_owe 65 = .ok (.invokevirtual 177, 3) := by decide +kernel
theorem dX3_owe_68 : decode cX3_owe 68 = .ok (.aload_n 0, 1) := by decide +kernel
theorem dX3_owe_69 : decode cX3_owe 69 = .ok (.getfield 28, 3) := by decide +kernel
theorem dX3_owe_72 : decode cX3_owe 72 = .ok (.aload_n 0, 1) := by decide +kernel
theorem dX3_owe_73 : decode cX3_owe 73 = .ok (.invokevirtual 92, 3) := by decide +kernel
theorem dX3_owe_76 : decode cX3_owe 76 = .ok (.invokevirtual 180, 3) := by decide +kernel
theorem dX3_owe_79 : decode cX3_owe 79 = .ok (.return_, 1) := by decide +kernel
theorem dX3_strike_0 : decode cX3_strike 0 = .ok (.aload_n 0, 1) := by decide +kernel
theorem dX3_strike_1 : decode cX3_strike 1 = .ok (.getfield 28, 3) := by decide +kernel
theorem dX3_strike_4 : decode cX3_strike 4 = .ok (.getfield 152, 3) := by decide +kernel
theorem dX3_strike_7 : decode cX3_strike 7 = .ok (.ifCond .eq 10, 3) := by decide +kernel
theorem dX3_strike_10 : decode cX3_strike 10 = .ok (.aload_n 0, 1) := by decide +kernel
theorem dX3_strike_11 : decode cX3_strike 11 = .ok (.invokevirtual 171, 3) := by decide +kernel
theorem dX3_strike_14 : decode cX3_strike 14 = .ok (.ifCond .eq 4, 3) := by decide +kernel
theorem dX3_strike_17 : decode cX3_strike 17 = .ok (.return_, 1) := by decide +kernel
theorem dX3_strike_18 : decode cX3_strike 18 = .ok (.aload_n 0, 1) := by decide +kernel
theorem dX3_strike_19 : decode cX3_strike 19 = .ok (.getfield 32, 3) := by decide +kernel
theorem dX3_strike_22 : decode cX3_strike 22 = .ok (.iconst 3, 1) := by decide +kernel
theorem dX3_strike_23 : decode cX3_strike 23 = .ok (.iaload, 1) := by decide +kernel
theorem dX3_strike_24 : decode cX3_strike 24 = .ok (.aload_n 0, 1) := by decide +kernel
theorem dX3_strike_25 : decode cX3_strike 25 = .ok (.getfield 12, 3) := by decide +kernel
theorem dX3_strike_28 : decode cX3_strike 28 = .ok (.getfield 155, 3) := by decide +kernel
theorem dX3_strike_31 : decode cX3_strike 31 = .ok (.iconst 1, 1) := by decide +kernel
theorem dX3_strike_32 : decode cX3_strike 32 = .ok (.iaload, 1) := by decide +kernel
theorem dX3_strike_33 : decode cX3_strike 33 = .ok (.invokestatic 158, 3) := by decide +kernel
theorem dX3_strike_36 : decode cX3_strike 36 = .ok (.istore_n 1, 1) := by decide +kernel
theorem dX3_strike_37 : decode cX3_strike 37 = .ok (.iload_n 1, 1) := by decide +kernel
theorem dX3_strike_38 : decode cX3_strike 38 = .ok (.aload_n 0, 1) := by decide +kernel
theorem dX3_strike_39 : decode cX3_strike 39 = .ok (.getfield 28, 3) := by decide +kernel
theorem dX3_strike_42 : decode cX3_strike 42 = .ok (.getfield 174, 3) := by decide +kernel
theorem dX3_strike_45 : decode cX3_strike 45 = .ok (.iconst 0, 1) := by decide +kernel
theorem dX3_strike_46 : decode cX3_strike 46 = .ok (.iaload, 1) := by decide +kernel
theorem dX3_strike_47 : decode cX3_strike 47 = .ok (.invokestatic 158, 3) := by decide +kernel
theorem dX3_strike_50 : decode cX3_strike 50 = .ok (.istore_n 2, 1) := by decide +kernel
theorem dX3_strike_51 : decode cX3_strike 51 = .ok (.aload_n 0, 1) := by decide +kernel
theorem dX3_strike_52 : decode cX3_strike 52 = .ok (.getfield 12, 3) := by decide +kernel
theorem dX3_strike_55 : decode cX3_strike 55 = .ok (.iconst 1, 1) := by decide +kernel
theorem dX3_strike_56 : decode cX3_strike 56 = .ok (.iload_n 2, 1) := by decide +kernel
theorem dX3_strike_57 : decode cX3_strike 57 = .ok (.invokevirtual 161, 3) := by decide +kernel
theorem dX3_strike_60 : decode cX3_strike 60 = .ok (.aload_n 0, 1) := by decide +kernel
theorem dX3_strike_61 : decode cX3_strike 61 = .ok (.dup, 1) := by decide +kernel
theorem dX3_strike_62 : decode cX3_strike 62 = .ok (.getfield 71, 3) := by decide +kernel
theorem dX3_strike_65 : decode cX3_strike 65 = .ok (.iload_n 2, 1) := by decide +kernel
theorem dX3_strike_66 : decode cX3_strike 66 = .ok (.iadd, 1) := by decide +kernel
theorem dX3_strike_67 : decode cX3_strike 67 = .ok (.putfield 71, 3) := by decide +kernel
theorem dX3_strike_70 : decode cX3_strike 70 = .ok (.aload_n 0, 1) := by decide +kernel
theorem dX3_strike_71 : decode cX3_strike 71 = .ok (.getfield 28, 3) := by decide +kernel
theorem dX3_strike_74 : decode cX3_strike 74 = .ok (.iload_n 2, 1) := by decide +kernel
theorem dX3_strike_75 : decode cX3_strike 75 = .ok (.invokevirtual 184, 3) := by decide +kernel
theorem dX3_strike_78 : decode cX3_strike 78 = .ok (.return_, 1) := by decide +kernel
theorem dX3_isDueAndKeptOut_0 : decode cX3_isDueAndKeptOut 0 = .ok (.iload_n 1, 1) := by decide +kernel
theorem dX3_isDueAndKeptOut_1 : decode cX3_isDueAndKeptOut 1 = .ok (.ifCond .lt 60, 3) := by decide +kernel
theorem dX3_isDueAndKeptOut_4 : decode cX3_isDueAndKeptOut 4 = .ok (.iload_n 1, 1) := by decide +kernel
theorem dX3_isDueAndKeptOut_5 : decode cX3_isDueAndKeptOut 5 = .ok (.aload_n 0, 1) := by decide +kernel
theorem dX3_isDueAndKeptOut_6 : decode cX3_isDueAndKeptOut 6 = .ok (.getfield 21, 3) := by decide +kernel
theorem dX3_isDueAndKeptOut_9 : decode cX3_isDueAndKeptOut 9 = .ok (.getfield 187, 3) := by decide +kernel
theorem dX3_isDueAndKeptOut_12 : decode cX3_isDueAndKeptOut 12 = .ok (.if_icmp .ge 49, 3) := by decide +kernel
theorem dX3_isDueAndKeptOut_15 : decode cX3_isDueAndKeptOut 15 = .ok (.iload_n 1, 1) := by decide +kernel
theorem dX3_isDueAndKeptOut_16 : decode cX3_isDueAndKeptOut 16 = .ok (.bipush 6, 2) := by decide +kernel
theorem dX3_isDueAndKeptOut_18 : decode cX3_isDueAndKeptOut 18 = .ok (.if_icmp .ge 43, 3) := by decide +kernel
theorem dX3_isDueAndKeptOut_21 : decode cX3_isDueAndKeptOut 21 = .ok (.aload_n 0, 1) := by decide +kernel
theorem dX3_isDueAndKeptOut_22 : decode cX3_isDueAndKeptOut 22 = .ok (.getfield 21, 3) := by decide +kernel
theorem dX3_isDueAndKeptOut_25 : decode cX3_isDueAndKeptOut 25 = .ok (.getfield 146, 3) := by decide +kernel
theorem dX3_isDueAndKeptOut_28 : decode cX3_isDueAndKeptOut 28 = .ok (.iload_n 1, 1) := by decide +kernel
theorem dX3_isDueAndKeptOut_29 : decode cX3_isDueAndKeptOut 29 = .ok (.iaload, 1) := by decide +kernel
theorem dX3_isDueAndKeptOut_30 : decode cX3_isDueAndKeptOut 30 = .ok (.aload_n 0, 1) := by decide +kernel
theorem dX3_isDueAndKeptOut_31 : decode cX3_isDueAndKeptOut 31 = .ok (.getfield 59, 3) := by decide +kernel
theorem dX3_isDueAndKeptOut_34 : decode cX3_isDueAndKeptOut 34 = .ok (.if_icmp .gt 27, 3) := by decide +kernel
theorem dX3_isDueAndKeptOut_37 : decode cX3_isDueAndKeptOut 37 = .ok (.aload_n 0, 1) := by decide +kernel
theorem dX3_isDueAndKeptOut_38 : decode cX3_isDueAndKeptOut 38 = .ok (.getfield 21, 3) := by decide +kernel
theorem dX3_isDueAndKeptOut_41 : decode cX3_isDueAndKeptOut 41 = .ok (.getfield 134, 3) := by decide +kernel
theorem dX3_isDueAndKeptOut_44 : decode cX3_isDueAndKeptOut 44 = .ok (.iload_n 1, 1) := by decide +kernel
theorem dX3_isDueAndKeptOut_45 : decode cX3_isDueAndKeptOut 45 = .ok (.iaload, 1) := by decide +kernel
theorem dX3_isDueAndKeptOut_46 : decode cX3_isDueAndKeptOut 46 = .ok (.iconst 1, 1) := by decide +kernel
theorem dX3_isDueAndKeptOut_47 : decode cX3_isDueAndKeptOut 47 = .ok (.if_icmp .ne 14, 3) := by decide +kernel
theorem dX3_isDueAndKeptOut_50 : decode cX3_isDueAndKeptOut 50 = .ok (.aload_n 0, 1) := by decide +kernel
theorem dX3_isDueAndKeptOut_51 : decode cX3_isDueAndKeptOut 51 = .ok (.invokevirtual 127, 3) := by decide +kernel
theorem dX3_isDueAndKeptOut_54 : decode cX3_isDueAndKeptOut 54 = .ok (.ifCond .eq 7, 3) := by decide +kernel
theorem dX3_isDueAndKeptOut_57 : decode cX3_isDueAndKeptOut 57 = .ok (.iconst 1, 1) := by decide +kernel
theorem dX3_isDueAndKeptOut_58 : decode cX3_isDueAndKeptOut 58 = .ok (.goto 4, 3) := by decide +kernel
theorem dX3_isDueAndKeptOut_61 : decode cX3_isDueAndKeptOut 61 = .ok (.iconst 0, 1) := by decide +kernel
theorem dX3_isDueAndKeptOut_62 : decode cX3_isDueAndKeptOut 62 = .ok (.ireturn, 1) := by decide +kernel
theorem dX4_init_0 : decode cX4_init 0 = .ok (.aload_n 0, 1) := by decide +kernel
theorem dX4_init_1 : decode cX4_init 1 = .ok (.invokespecial 3, 3) := by decide +kernel
theorem dX4_init_4 : decode cX4_init 4 = .ok (.aload_n 0, 1) := by decide +kernel
theorem dX4_init_5 : decode cX4_init 5 = .ok (.bipush 60, 2) := by decide +kernel
theorem dX4_init_7 : decode cX4_init 7 = .ok (.newarray .char, 2) := by decide +kernel
theorem dX4_init_9 : decode cX4_init 9 = .ok (.putfield 9, 3) := by decide +kernel
theorem dX4_init_12 : decode cX4_init 12 = .ok (.aload_n 0, 1) := by decide +kernel
theorem dX4_init_13 : decode cX4_init 13 = .ok (.new 15, 3) := by decide +kernel
theorem dX4_init_16 : decode cX4_init 16 = .ok (.dup, 1) := by decide +kernel
theorem dX4_init_17 : decode cX4_init 17 = .ok (.invokespecial 17, 3) := by decide +kernel
theorem dX4_init_20 : decode cX4_init 20 = .ok (.putfield 18, 3) := by decide +kernel
theorem dX4_init_23 : decode cX4_init 23 = .ok (.return_, 1) := by decide +kernel
theorem dX5_init_0 : decode cX5_init 0 = .ok (.aload_n 0, 1) := by decide +kernel
theorem dX5_init_1 : decode cX5_init 1 = .ok (.invokespecial 3, 3) := by decide +kernel
theorem dX5_init_4 : decode cX5_init 4 = .ok (.aload_n 0, 1) := by decide +kernel
theorem dX5_init_5 : decode cX5_init 5 = .ok (.iconst 3, 1) := by decide +kernel
theorem dX5_init_6 : decode cX5_init 6 = .ok (.newarray .int, 2) := by decide +kernel
theorem dX5_init_8 : decode cX5_init 8 = .ok (.putfield 9, 3) := by decide +kernel
theorem dX5_init_11 : decode cX5_init 11 = .ok (.aload_n 0, 1) := by decide +kernel
theorem dX5_init_12 : decode cX5_init 12 = .ok (.iconst 3, 1) := by decide +kernel
theorem dX5_init_13 : decode cX5_init 13 = .ok (.newarray .int, 2) := by decide +kernel
theorem dX5_init_15 : decode cX5_init 15 = .ok (.putfield 15, 3) := by decide +kernel
theorem dX5_init_18 : decode cX5_init 18 = .ok (.aload_n 0, 1) := by decide +kernel
theorem dX5_init_19 : decode cX5_init 19 = .ok (.iconst 3, 1) := by decide +kernel
theorem dX5_init_20 : decode cX5_init 20 = .ok (.newarray .int, 2) := by decide +kernel
theorem dX5_init_22 : decode cX5_init 22 = .ok (.putfield 18, 3) := by decide +kernel
theorem dX5_init_25 : decode cX5_init 25 = .ok (.iconst 0, 1) := by decide +kernel
theorem dX5_init_26 : decode cX5_init 26 = .ok (.istore_n 1, 1) := by decide +kernel
theorem dX5_init_27 : decode cX5_init 27 = .ok (.iload_n 1, 1) := by decide +kernel
theorem dX5_init_28 : decode cX5_init 28 = .ok (.iconst 3, 1) := by decide +kernel
theorem dX5_init_29 : decode cX5_init 29 = .ok (.if_icmp .ge 18, 3) := by decide +kernel
theorem dX5_init_32 : decode cX5_init 32 = .ok (.aload_n 0, 1) := by decide +kernel
theorem dX5_init_33 : decode cX5_init 33 = .ok (.getfield 9, 3) := by decide +kernel
theorem dX5_init_36 : decode cX5_init 36 = .ok (.iload_n 1, 1) := by decide +kernel
theorem dX5_init_37 : decode cX5_init 37 = .ok (.sipush 200, 3) := by decide +kernel
theorem dX5_init_40 : decode cX5_init 40 = .ok (.iastore, 1) := by decide +kernel
theorem dX5_init_41 : decode cX5_init 41 = .ok (.iinc 1 1, 3) := by decide +kernel
theorem dX5_init_44 : decode cX5_init 44 = .ok (.goto (-17), 3) := by decide +kernel
theorem dX5_init_47 : decode cX5_init 47 = .ok (.return_, 1) := by decide +kernel
theorem dX5_copyFrom_0 : decode cX5_copyFrom 0 = .ok (.iconst 0, 1) := by decide +kernel
theorem dX5_copyFrom_1 : decode cX5_copyFrom 1 = .ok (.istore_n 2, 1) := by decide +kernel
theorem dX5_copyFrom_2 : decode cX5_copyFrom 2 = .ok (.iload_n 2, 1) := by decide +kernel
theorem dX5_copyFrom_3 : decode cX5_copyFrom 3 = .ok (.iconst 3, 1) := by decide +kernel
theorem dX5_copyFrom_4 : decode cX5_copyFrom 4 = .ok (.if_icmp .ge 45, 3) := by decide +kernel
theorem dX5_copyFrom_7 : decode cX5_copyFrom 7 = .ok (.aload_n 0, 1) := by decide +kernel
theorem dX5_copyFrom_8 : decode cX5_copyFrom 8 = .ok (.getfield 9, 3) := by decide +kernel
theorem dX5_copyFrom_11 : decode cX5_copyFrom 11 = .ok (.iload_n 2, 1) := by decide +kernel
theorem dX5_copyFrom_12 : decode cX5_copyFrom 12 = .ok (.aload_n 1, 1) := by decide +kernel
theorem dX5_copyFrom_13 : decode cX5_copyFrom 13 = .ok (.getfield 9, 3) := by decide +kernel
theorem dX5_copyFrom_16 : decode cX5_copyFrom 16 = .ok (.iload_n 2, 1) := by decide +kernel
theorem dX5_copyFrom_17 : decode cX5_copyFrom 17 = .ok (.iaload, 1) := by decide +kernel
theorem dX5_copyFrom_18 : decode cX5_copyFrom 18 = .ok (.iastore, 1) := by decide +kernel
theorem dX5_copyFrom_19 : decode cX5_copyFrom 19 = .ok (.aload_n 0, 1) := by decide +kernel
theorem dX5_copyFrom_20 : decode cX5_copyFrom 20 = .ok (.getfield 15, 3) := by decide +kernel
theorem dX5_copyFrom_23 : decode cX5_copyFrom 23 = .ok (.iload_n 2, 1) := by decide +kernel
theorem dX5_copyFrom_24 : decode cX5_copyFrom 24 = .ok (.aload_n 1, 1) := by decide +kernel
theorem dX5_copyFrom_25 : decode cX5_copyFrom 25 = .ok (.getfield 15, 3) := by decide +kernel
theorem dX5_copyFrom_28 : decode cX5_copyFrom 28 = .ok (.iload_n 2, 1) := by decide +kernel
theorem dX5_copyFrom_29 : decode cX5_copyFrom 29 = .ok (.iaload, 1) := by decide +kernel
theorem dX5_copyFrom_30 : decode cX5_copyFrom 30 = .ok (.iastore, 1) := by decide +kernel
theorem dX5_copyFrom_31 : decode cX5_copyFrom 31 = .ok (.aload_n 0, 1) := by decide +kernel
theorem dX5_copyFrom_32 : decode cX5_copyFrom 32 = .ok (.getfield 18, 3) := by decide +kernel
theorem dX5_copyFrom_35 : decode cX5_copyFrom 35 = .ok (.iload_n 2, 1) := by decide +kernel
theorem dX5_copyFrom_36 : decode cX5_copyFrom 36 = .ok (.aload_n 1, 1) := by decide +kernel
theorem dX5_copyFrom_37 : decode cX5_copyFrom 37 = .ok (.getfield 18, 3) := by decide +kernel
theorem dX5_copyFrom_40 : decode cX5_copyFrom 40 = .ok (.iload_n 2, 1) := by decide +kernel
theorem dX5_copyFrom_41 : decode cX5_copyFrom 41 = .ok (.iaload, 1) := by decide +kernel
theorem dX5_copyFrom_42 : decode cX5_copyFrom 42 = .ok (.iastore, 1) := by decide +kernel
theorem dX5_copyFrom_43 : decode cX5_copyFrom 43 = .ok (.iinc 2 1, 3) := by decide +kernel
theorem dX5_copyFrom_46 : decode cX5_copyFrom 46 = .ok (.goto (-44), 3) := by decide +kernel
theorem dX5_copyFrom_49 : decode cX5_copyFrom 49 = .ok (.return_, 1) := by decide +kernel
theorem dX5_raise_0 : decode cX5_raise 0 = .ok (.iload_n 1, 1) := by decide +kernel
theorem dX5_raise_1 : decode cX5_raise 1 = .ok (.ifCond .lt 8, 3) := by decide +kernel
theorem dX5_raise_4 : decode cX5_raise 4 = .ok (.iload_n 1, 1) := by decide +kernel
theorem dX5_raise_5 : decode cX5_raise 5 = .ok (.iconst 3, 1) := by decide +kernel
theorem dX5_raise_6 : decode cX5_raise 6 = .ok (.if_icmp .lt 5, 3) := by decide +kernel
theorem dX5_raise_9 : decode cX5_raise 9 = .ok (.iconst 0, 1) := by decide +kernel
theorem dX5_raise_10 : decode cX5_raise 10 = .ok (.ireturn, 1) := by decide +kernel
theorem dX5_raise_11 : decode cX5_raise 11 = .ok (.iload_n 2, 1) := by decide +kernel
theorem dX5_raise_12 : decode cX5_raise 12 = .ok (.sipush 200, 3) := by decide +kernel
theorem dX5_raise_15 : decode cX5_raise 15 = .ok (.aload_n 0, 1) := by decide +kernel
theorem dX5_raise_16 : decode cX5_raise 16 = .ok (.getfield 9, 3) := by decide +kernel
theorem dX5_raise_19 : decode cX5_raise 19 = .ok (.iload_n 1, 1) := by decide +kernel
theorem dX5_raise_20 : decode cX5_raise 20 = .ok (.iaload, 1) := by decide +kernel
theorem dX5_raise_21 : decode cX5_raise 21 = .ok (.isub, 1) := by decide +kernel
theorem dX5_raise_22 : decode cX5_raise 22 = .ok (.invokestatic 21, 3) := by decide +kernel
theorem dX5_raise_25 : decode cX5_raise 25 = .ok (.istore_n 3, 1) := by decide +kernel
theorem dX5_raise_26 : decode cX5_raise 26 = .ok (.aload_n 0, 1) := by decide +kernel
theorem dX5_raise_27 : decode cX5_raise 27 = .ok (.getfield 9, 3) := by decide +kernel
theorem dX5_raise_30 : decode cX5_raise 30 = .ok (.iload_n 1, 1) := by decide +kernel
theorem dX5_raise_31 : decode cX5_raise 31 = .ok (.dup2, 1) := by decide +kernel
theorem dX5_raise_32 : decode cX5_raise 32 = .ok (.iaload, 1) := by decide +kernel
theorem dX5_raise_33 : decode cX5_raise 33 = .ok (.iload_n 3, 1) := by decide +kernel
theorem dX5_raise_34 : decode cX5_raise 34 = .ok (.iadd, 1) := by decide +kernel
theorem dX5_raise_35 : decode cX5_raise 35 = .ok (.iastore, 1) := by decide +kernel
theorem dX5_raise_36 : decode cX5_raise 36 = .ok (.aload_n 0, 1) := by decide +kernel
theorem dX5_raise_37 : decode cX5_raise 37 = .ok (.getfield 18, 3) := by decide +kernel
theorem dX5_raise_40 : decode cX5_raise 40 = .ok (.iload_n 1, 1) := by decide +kernel
theorem dX5_raise_41 : decode cX5_raise 41 = .ok (.dup2, 1) := by decide +kernel
theorem dX5_raise_42 : decode cX5_raise 42 = .ok (.iaload, 1) := by decide +kernel
theorem dX5_raise_43 : decode cX5_raise 43 = .ok (.iload_n 3, 1) := by decide +kernel
theorem dX5_raise_44 : decode cX5_raise 44 = .ok (.iadd, 1) := by decide +kernel
theorem dX5_raise_45 : decode cX5_raise 45 = .ok (.iastore, 1) := by decide +kernel
theorem dX5_raise_46 : decode cX5_raise 46 = .ok (.iload_n 3, 1) := by decide +kernel
theorem dX5_raise_47 : decode cX5_raise 47 = .ok (.ireturn, 1) := by decide +kernel
theorem dX5_take_0 : decode cX5_take 0 = .ok (.iload_n 1, 1) := by decide +kernel
theorem dX5_take_1 : decode cX5_take 1 = .ok (.ifCond .lt 8, 3) := by decide +kernel
theorem dX5_take_4 : decode cX5_take 4 = .ok (.iload_n 1, 1) := by decide +kernel
theorem dX5_take_5 : decode cX5_take 5 = .ok (.iconst 3, 1) := by decide +kernel
theorem dX5_take_6 : decode cX5_take 6 = .ok (.if_icmp .lt 4, 3) := by decide +kernel
theorem dX5_take_9 : decode cX5_take 9 = .ok (.return_, 1) := by decide +kernel
theorem dX5_take_10 : decode cX5_take 10 = .ok (.aload_n 0, 1) := by decide +kernel
theorem dX5_take_11 : decode cX5_take 11 = .ok (.getfield 9, 3) := by decide +kernel
theorem dX5_take_14 : decode cX5_take 14 = .ok (.iload_n 1, 1) := by decide +kernel
theorem dX5_take_15 : decode cX5_take 15 = .ok (.dup2, 1) := by decide +kernel
theorem dX5_take_16 : decode cX5_take 16 = .ok (.iaload, 1) := by decide +kernel
theorem dX5_take_17 : decode cX5_take 17 = .ok (.iload_n 2, 1) := by decide +kernel
theorem dX5_take_18 : decode cX5_take 18 = .ok (.isub, 1) := by decide +kernel
theorem dX5_take_19 : decode cX5_take 19 = .ok (.iastore, 1) := by decide +kernel
theorem dX5_take_20 : decode cX5_take 20 = .ok (.aload_n 0, 1) := by decide +kernel
theorem dX5_take_21 : decode cX5_take 21 = .ok (.getfield 15, 3) := by decide +kernel
theorem dX5_take_24 : decode cX5_take 24 = .ok (.iload_n 1, 1) := by decide +kernel
theorem dX5_take_25 : decode cX5_take 25 = .ok (.dup2, 1) := by decide +kernel
theorem dX5_take_26 : decode cX5_take 26 = .ok (.iaload, 1) := by decide +kernel
theorem dX5_take_27 : decode cX5_take 27 = .ok (.iload_n 2, 1) := by decide +kernel
theorem dX5_take_28 : decode cX5_take 28 = .ok (.iadd, 1) := by decide +kernel
theorem dX5_take_29 : decode cX5_take 29 = .ok (.iastore, 1) := by decide +kernel
theorem dX5_take_30 : decode cX5_take 30 = .ok (.return_, 1) := by decide +kernel
theorem dX6_init_0 : decode cX6_init 0 = .ok (.aload_n 0, 1) := by decide +kernel
theorem dX6_init_1 : decode cX6_init 1 = .ok (.invokespecial 3, 3) := by decide +kernel
theorem dX6_init_4 : decode cX6_init 4 = .ok (.aload_n 0, 1) := by decide +kernel
theorem dX6_init_5 : decode cX6_init 5 = .ok (.bipush 6, 2) := by decide +kernel
theorem dX6_init_7 : decode cX6_init 7 = .ok (.newarray .int, 2) := by decide +kernel
theorem dX6_init_9 : decode cX6_init 9 = .ok (.putfield 9, 3) := by decide +kernel
theorem dX6_init_12 : decode cX6_init 12 = .ok (.aload_n 0, 1) := by decide +kernel
theorem dX6_init_13 : decode cX6_init 13 = .ok (.bipush 6, 2) := by decide +kernel
theorem dX6_init_15 : decode cX6_init 15 = .ok (.newarray .int, 2) := by decide +kernel
theorem dX6_init_17 : decode cX6_init 17 = .ok (.putfield 15, 3) := by decide +kernel
theorem dX6_init_20 : decode cX6_init 20 = .ok (.aload_n 0, 1) := by decide +kernel
theorem dX6_init_21 : decode cX6_init 21 = .ok (.bipush 6, 2) := by decide +kernel
theorem dX6_init_23 : decode cX6_init 23 = .ok (.newarray .int, 2) := by decide +kernel
theorem dX6_init_25 : decode cX6_init 25 = .ok (.putfield 18, 3) := by decide +kernel
theorem dX6_init_28 : decode cX6_init 28 = .ok (.aload_n 0, 1) := by decide +kernel
theorem dX6_init_29 : decode cX6_init 29 = .ok (.bipush 6, 2) := by decide +kernel
theorem dX6_init_31 : decode cX6_init 31 = .ok (.newarray .int, 2) := by decide +kernel
theorem dX6_init_33 : decode cX6_init 33 = .ok (.putfield 21, 3) := by decide +kernel
theorem dX6_init_36 : decode cX6_init 36 = .ok (.aload_n 0, 1) := by decide +kernel
theorem dX6_init_37 : decode cX6_init 37 = .ok (.bipush 6, 2) := by decide +kernel
theorem dX6_init_39 : decode cX6_init 39 = .ok (.newarray .int, 2) := by decide +kernel
theorem dX6_init_41 : decode cX6_init 41 = .ok (.putfield 24, 3) := by decide +kernel
theorem dX6_init_44 : decode cX6_init 44 = .ok (.return_, 1) := by decide +kernel
theorem dX6_copyFrom_0 : decode cX6_copyFrom 0 = .ok (.aload_n 0, 1) := by decide +kernel
theorem dX6_copyFrom_1 : decode cX6_copyFrom 1 = .ok (.aload_n 1, 1) := by decide +kernel
theorem dX6_copyFrom_2 : decode cX6_copyFrom 2 = .ok (.getfield 27, 3) := by decide +kernel
theorem dX6_copyFrom_5 : decode cX6_copyFrom 5 = .ok (.putfield 27, 3) := by decide +kernel
theorem dX6_copyFrom_8 : decode cX6_copyFrom 8 = .ok (.iconst 0, 1) := by decide +kernel
theorem dX6_copyFrom_9 : decode cX6_copyFrom 9 = .ok (.istore_n 2, 1) := by decide +kernel
theorem dX6_copyFrom_10 : decode cX6_copyFrom 10 = .ok (.iload_n 2, 1) := by decide +kernel
theorem dX6_copyFrom_11 : decode cX6_copyFrom 11 = .ok (.aload_n 0, 1) := by decide +kernel
theorem dX6_copyFrom_12 : decode cX6_copyFrom 12 = .ok (.getfield 27, 3) := by decide +kernel
theorem dX6_copyFrom_15 : decode cX6_copyFrom 15 = .ok (.if_icmp .ge 22, 3) := by decide +kernel
theorem dX6_copyFrom_18 : decode cX6_copyFrom 18 = .ok (.iload_n 2, 1) := by decide +kernel
theorem dX6_copyFrom_19 : decode cX6_copyFrom 19 = .ok (.bipush 6, 2) := by decide +kernel
theorem dX6_copyFrom_21 : decode cX6_copyFrom 21 = .ok (.if_icmp .ge 16, 3) := by decide +kernel
theorem dX6_copyFrom_24 : decode cX6_copyFrom 24 = .ok (.aload_n 0, 1) := by decide +kernel
theorem dX6_copyFrom_25 : decode cX6_copyFrom 25 = .ok (.aload_n 1, 1) := by decide +kernel
theorem dX6_copyFrom_26 : decode cX6_copyFrom 26 = .ok (.iload_n 2, 1) := by decide +kernel
theorem dX6_copyFrom_27 : decode cX6_copyFrom 27 = .ok (.iload_n 2, 1) := by decide +kernel
theorem dX6_copyFrom_28 : decode cX6_copyFrom 28 = .ok (.invokevirtual 31, 3) := by decide +kernel
theorem dX6_copyFrom_31 : decode cX6_copyFrom 31 = .ok (.iinc 2 1, 3) := by decide +kernel
theorem dX6_copyFrom_34 : decode cX6_copyFrom 34 = .ok (.goto (-24), 3) := by decide +kernel
theorem dX6_copyFrom_37 : decode cX6_copyFrom 37 = .ok (.return_, 1) := by decide +kernel
theorem dX6_copyWinder_0 : decode cX6_copyWinder 0 = .ok (.iload_n 2, 1) := by decide +kernel
theorem dX6_copyWinder_1 : decode cX6_copyWinder 1 = .ok (.ifCond .lt 19, 3) := by decide +kernel
theorem dX6_copyWinder_4 : decode cX6_copyWinder 4 = .ok (.iload_n 2, 1) := by decide +kernel
theorem dX6_copyWinder_5 : decode cX6_copyWinder 5 = .ok (.bipush 6, 2) := by decide +kernel
theorem dX6_copyWinder_7 : decode cX6_copyWinder 7 = .ok (.if_icmp .ge 13, 3) := by decide +kernel
theorem dX6_copyWinder_10 : decode cX6_copyWinder 10 = .ok (.iload_n 3, 1) := by decide +kernel
theorem dX6_copyWinder_11 : decode cX6_copyWinder 11 = .ok (.ifCond .lt 9, 3) := by decide +kernel
theorem dX6_copyWinder_14 : decode cX6_copyWinder 14 = .ok (.iload_n 3, 1) := by decide +kernel
theorem dX6_copyWinder_15 : decode cX6_copyWinder 15 = .ok (.bipush 6, 2) := by decide +kernel
theorem dX6_copyWinder_17 : decode cX6_copyWinder 17 = .ok (.if_icmp .lt 4, 3) := by decide +kernel
theorem dX6_copyWinder_20 : decode cX6_copyWinder 20 = .ok (.return_, 1) := by decide +kernel
theorem dX6_copyWinder_21 : decode cX6_copyWinder 21 = .ok (.aload_n 0, 1) := by decide +kernel
theorem dX6_copyWinder_22 : decode cX6_copyWinder 22 = .ok (.getfield 9, 3) := by decide +kernel
theorem dX6_copyWinder_25 : decode cX6_copyWinder 25 = .ok (.iload_n 3, 1) := by decide +kernel
theorem dX6_copyWinder_26 : decode cX6_copyWinder 26 = .ok (.aload_n 1, 1) := by decide +kernel
theorem dX6_copyWinder_27 : decode cX6_copyWinder 27 = .ok (.getfield 9, 3) := by decide +kernel
theorem dX6_copyWinder_30 : decode cX6_copyWinder 30 = .ok (.iload_n 2, 1) := by decide +kernel
theorem dX6_copyWinder_31 : decode cX6_copyWinder 31 = .ok (.iaload, 1) := by decide +kernel
theorem dX6_copyWinder_32 : decode cX6_copyWinder 32 = .ok (.iastore, 1) := by decide +kernel
theorem dX6_copyWinder_33 : decode cX6_copyWinder 33 = .ok (.aload_n 0, 1) := by decide +kernel
theorem dX6_copyWinder_34 : decode cX6_copyWinder 34 = .ok (.getfield 15, 3) := by decide +kernel
theorem dX6_copyWinder_37 : decode cX6_copyWinder 37 = .ok (.iload_n 3, 1) := by decide +kernel
theorem dX6_copyWinder_38 : decode cX6_copyWinder 38 = .ok (.aload_n 1, 1) := by decide +kernel
theorem dX6_copyWinder_39 : decode cX6_copyWinder 39 = .ok (.getfield 15, 3) := by decide +kernel
theorem dX6_copyWinder_42 : decode cX6_copyWinder 42 = .ok (.iload_n 2, 1) := by decide +kernel
theorem dX6_copyWinder_43 : decode cX6_copyWinder 43 = .ok (.iaload, 1) := by decide +kernel
theorem dX6_copyWinder_44 : decode cX6_copyWinder 44 = .ok (.iastore, 1) := by decide +kernel
theorem dX6_copyWinder_45 : decode cX6_copyWinder 45 = .ok (.aload_n 0, 1) := by decide +kernel
theorem dX6_copyWinder_46 : decode cX6_copyWinder 46 = .ok (.getfield 18, 3) := by decide +kernel
theorem dX6_copyWinder_49 : decode cX6_copyWinder 49 = .ok (.iload_n 3, 1) := by decide +kernel
theorem dX6_copyWinder_50 : decode cX6_copyWinder 50 = .ok (.aload_n 1, 1) := by decide +kernel
theorem dX6_copyWinder_51 : decode cX6_copyWinder 51 = .ok (.getfield 18, 3) := by decide +kernel
theorem dX6_copyWinder_54 : decode cX6_copyWinder 54 = .ok (.iload_n 2, 1) := by decide +kernel
theorem dX6_copyWinder_55 : decode cX6_copyWinder 55 = .ok (.iaload, 1) := by decide +kernel
theorem dX6_copyWinder_56 : decode cX6_copyWinder 56 = .ok (.iastore, 1) := by decide +kernel
theorem dX6_copyWinder_57 : decode cX6_copyWinder 57 = .ok (.aload_n 0, 1) := by decide +kernel
theorem dX6_copyWinder_58 : decode cX6_copyWinder 58 = .ok (.getfield 21, 3) := by decide +kernel
theorem dX6_copyWinder_61 : decode cX6_copyWinder 61 = .ok (.iload_n 3, 1) := by decide +kernel
theorem dX6_copyWinder_62 : decode cX6_copyWinder 62 = .ok (.aload_n 1, 1) := by decide +kernel
theorem dX6_copyWinder_63 : decode cX6_copyWinder 63 = .ok (.getfield 21, 3) := by decide +kernel
theorem dX6_copyWinder_66 : decode cX6_copyWinder 66 = .ok (.iload_n 2, 1) := by decide +kernel
theorem dX6_copyWinder_67 : decode cX6_copyWinder 67 = .ok (.iaload, 1) := by decide +kernel
theorem dX6_copyWinder_68 : decode cX6_copyWinder 68 = .ok (.iastore, 1) := by decide +kernel
theorem dX6_copyWinder_69 : decode cX6_copyWinder 69 = .ok (.aload_n 0, 1) := by decide +kernel
theorem dX6_copyWinder_70 : decode cX6_copyWinder 70 = .ok (.getfield 24, 3) := by decide +kernel
theorem dX6_copyWinder_73 : decode cX6_copyWinder 73 = .ok (.iload_n 3, 1) := by decide +kernel
theorem dX6_copyWinder_74 : decode cX6_copyWinder 74 = .ok (.aload_n 1, 1) := by decide +kernel
theorem dX6_copyWinder_75 : decode cX6_copyWinder 75 = .ok (.getfield 24, 3) := by decide +kernel
theorem dX6_copyWinder_78 : decode cX6_copyWinder 78 = .ok (.iload_n 2, 1) := by decide +kernel
theorem dX6_copyWinder_79 : decode cX6_copyWinder 79 = .ok (.iaload, 1) := by decide +kernel
theorem dX6_copyWinder_80 : decode cX6_copyWinder 80 = .ok (.iastore, 1) := by decide +kernel
theorem dX6_copyWinder_81 : decode cX6_copyWinder 81 = .ok (.return_, 1) := by decide +kernel
theorem dX6_add_0 : decode cX6_add 0 = .ok (.aload_n 0, 1) := by decide +kernel
theorem dX6_add_1 : decode cX6_add 1 = .ok (.getfield 27, 3) := by decide +kernel
theorem dX6_add_4 : decode cX6_add 4 = .ok (.ifCond .lt 12, 3) := by decide +kernel
theorem dX6_add_7 : decode cX6_add 7 = .ok (.aload_n 0, 1) := by decide +kernel
theorem dX6_add_8 : decode cX6_add 8 = .ok (.getfield 27, 3) := by decide +kernel
theorem dX6_add_11 : decode cX6_add 11 = .ok (.bipush 6, 2) := by decide +kernel
theorem dX6_add_13 : decode cX6_add 13 = .ok (.if_icmp .lt 4, 3) := by decide +kernel
theorem dX6_add_16 : decode cX6_add 16 = .ok (.return_, 1) := by decide +kernel
theorem dX6_add_17 : decode cX6_add 17 = .ok (.aload_n 0, 1) := by decide +kernel
theorem dX6_add_18 : decode cX6_add 18 = .ok (.getfield 9, 3) := by decide +kernel
theorem dX6_add_21 : decode cX6_add 21 = .ok (.aload_n 0, 1) := by decide +kernel
theorem dX6_add_22 : decode cX6_add 22 = .ok (.getfield 27, 3) := by decide +kernel
theorem dX6_add_25 : decode cX6_add 25 = .ok (.iload_n 1, 1) := by decide +kernel
theorem dX6_add_26 : decode cX6_add 26 = .ok (.iastore, 1) := by decide +kernel
theorem dX6_add_27 : decode cX6_add 27 = .ok (.aload_n 0, 1) := by decide +kernel
theorem dX6_add_28 : decode cX6_add 28 = .ok (.getfield 15, 3) := by decide +kernel
theorem dX6_add_31 : decode cX6_add 31 = .ok (.aload_n 0, 1) := by decide +kernel
theorem dX6_add_32 : decode cX6_add 32 = .ok (.getfield 27, 3) := by decide +kernel
theorem dX6_add_35 : decode cX6_add 35 = .ok (.iload_n 2, 1) := by decide +kernel
theorem dX6_add_36 : decode cX6_add 36 = .ok (.iastore, 1) := by decide +kernel
theorem dX6_add_37 : decode cX6_add 37 = .ok (.aload_n 0, 1) := by decide +kernel
theorem dX6_add_38 : decode cX6_add 38 = .ok (.getfield 18, 3) := by decide +kernel
theorem dX6_add_41 : decode cX6_add 41 = .ok (.aload_n 0, 1) := by decide +kernel
theorem dX6_add_42 : decode cX6_add 42 = .ok (.getfield 27, 3) := by decide +kernel
theorem dX6_add_45 : decode cX6_add 45 = .ok (.iload_n 3, 1) := by decide +kernel
theorem dX6_add_46 : decode cX6_add 46 = .ok (.iastore, 1) := by decide +kernel
theorem dX6_add_47 : decode cX6_add 47 = .ok (.aload_n 0, 1) := by decide +kernel
theorem dX6_add_48 : decode cX6_add 48 = .ok (.getfield 21, 3) := by decide +kernel
theorem dX6_add_51 : decode cX6_add 51 = .ok (.aload_n 0, 1) := by decide +kernel
theorem dX6_add_52 : decode cX6_add 52 = .ok (.getfield 27, 3) := by decide +kernel
theorem dX6_add_55 : decode cX6_add 55 = .ok (.iload 4, 2) := by decide +kernel
theorem dX6_add_57 : decode cX6_add 57 = .ok (.iastore, 1) := by decide +kernel
theorem dX6_add_58 : decode cX6_add 58 = .ok (.aload_n 0, 1) := by decide +kernel
theorem dX6_add_59 : decode cX6_add 59 = .ok (.getfield 24, 3) := by decide +kernel
theorem dX6_add_62 : decode cX6_add 62 = .ok (.aload_n 0, 1) := by decide +kernel
theorem dX6_add_63 : decode cX6_add 63 = .ok (.getfield 27, 3) := by decide +kernel
theorem dX6_add_66 : decode cX6_add 66 = .ok (.iconst 0, 1) := by decide +kernel
theorem dX6_add_67 : decode cX6_add 67 = .ok (.iastore, 1) := by decide +kernel
theorem dX6_add_68 : decode cX6_add 68 = .ok (.aload_n 0, 1) := by decide +kernel
theorem dX6_add_69 : decode cX6_add 69 = .ok (.dup, 1) := by decide +kernel
theorem dX6_add_70 : decode cX6_add 70 = .ok (.getfield 27, 3) := by decide +kernel
theorem dX6_add_73 : decode cX6_add 73 = .ok (.iconst 1, 1) := by decide +kernel
theorem dX6_add_74 : decode cX6_add 74 = .ok (.iadd, 1) := by decide +kernel
theorem dX6_add_75 : decode cX6_add 75 = .ok (.putfield 27, 3) := by decide +kernel
theorem dX6_add_78 : decode cX6_add 78 = .ok (.return_, 1) := by decide +kernel
theorem dX6_remove_0 : decode cX6_remove 0 = .ok (.iload_n 1, 1) := by decide +kernel
theorem dX6_remove_1 : decode cX6_remove 1 = .ok (.istore_n 2, 1) := by decide +kernel
theorem dX6_remove_2 : decode cX6_remove 2 = .ok (.iload_n 2, 1) := by decide +kernel
theorem dX6_remove_3 : decode cX6_remove 3 = .ok (.aload_n 0, 1) := by decide +kernel
theorem dX6_remove_4 : decode cX6_remove 4 = .ok (.getfield 27, 3) := by decide +kernel
theorem dX6_remove_7 : decode cX6_remove 7 = .ok (.iconst 1, 1) := by decide +kernel
theorem dX6_remove_8 : decode cX6_remove 8 = .ok (.isub, 1) := by decide +kernel
theorem dX6_remove_9 : decode cX6_remove 9 = .ok (.if_icmp .ge 18, 3) := by decide +kernel
theorem dX6_remove_12 : decode cX6_remove 12 = .ok (.aload_n 0, 1) := by decide +kernel
theorem dX6_remove_13 : decode cX6_remove 13 = .ok (.aload_n 0, 1) := by decide +kernel
theorem dX6_remove_14 : decode cX6_remove 14 = .ok (.iload_n 2, 1) := by decide +kernel
theorem dX6_remove_15 : decode cX6_remove 15 = .ok (.iconst 1, 1) := by decide +kernel
theorem dX6_remove_16 : decode cX6_remove 16 = .ok (.iadd, 1) := by decide +kernel
theorem dX6_remove_17 : decode cX6_remove 17 = .ok (.iload_n 2, 1) := by decide +kernel
theorem dX6_remove_18 : decode cX6_remove 18 = .ok (.invokevirtual 31, 3) := by decide +kernel
theorem dX6_remove_21 : decode cX6_remove 21 = .ok (.iinc 2 1, 3) := by decide +kernel
theorem dX6_remove_24 : decode cX6_remove 24 = .ok (.goto (-22), 3) := by decide +kernel
theorem dX6_remove_27 : decode cX6_remove 27 = .ok (.aload_n 0, 1) := by decide +kernel
theorem dX6_remove_28 : decode cX6_remove 28 = .ok (.dup, 1) := by decide +kernel
theorem dX6_remove_29 : decode cX6_remove 29 = .ok (.getfield 27, 3) := by decide +kernel
theorem dX6_remove_32 : decode cX6_remove 32 = .ok (.iconst 1, 1) := by decide +kernel
theorem dX6_remove_33 : decode cX6_remove 33 = .ok (.isub, 1) := by decide +kernel
theorem dX6_remove_34 : decode cX6_remove 34 = .ok (.putfield 27, 3) := by decide +kernel
theorem dX6_remove_37 : decode cX6_remove 37 = .ok (.return_, 1) := by decide +kernel
theorem dX6_whoComes_0 : decode cX6_whoComes 0 = .ok (.iconst (-1), 1) := by decide +kernel
theorem dX6_whoComes_1 : decode cX6_whoComes 1 = .ok (.istore_n 3, 1) := by decide +kernel
theorem dX6_whoComes_2 : decode cX6_whoComes 2 = .ok (.iload_n 1, 1) := by decide +kernel
theorem dX6_whoComes_3 : decode cX6_whoComes 3 = .ok (.iconst 1, 1) := by decide +kernel
theorem dX6_whoComes_4 : decode cX6_whoComes 4 = .ok (.iadd, 1) := by decide +kernel
theorem dX6_whoComes_5 : decode cX6_whoComes 5 = .ok (.istore 4, 2) := by decide +kernel
theorem dX6_whoComes_7 : decode cX6_whoComes 7 = .ok (.iconst 0, 1) := by decide +kernel
theorem dX6_whoComes_8 : decode cX6_whoComes 8 = .ok (.istore 5, 2) := by decide +kernel
theorem dX6_whoComes_10 : decode cX6_whoComes 10 = .ok (.iload 5, 2) := by decide +kernel
theorem dX6_whoComes_12 : decode cX6_whoComes 12 = .ok (.aload_n 0, 1) := by decide +kernel
theorem dX6_whoComes_13 : decode cX6_whoComes 13 = .ok (.getfield 27, 3) := by decide +kernel
theorem dX6_whoComes_16 : decode cX6_whoComes 16 = .ok (.if_icmp .ge 67, 3) := by decide +kernel
theorem dX6_whoComes_19 : decode cX6_whoComes 19 = .ok (.iload 5, 2) := by decide +kernel
theorem dX6_whoComes_21 : decode cX6_whoComes 21 = .ok (.bipush 6, 2) := by decide +kernel
theorem dX6_whoComes_23 : decode cX6_whoComes 23 = .ok (.if_icmp .ge 60, 3) := by decide +kernel
theorem dX6_whoComes_26 : decode cX6_whoComes 26 = .ok (.iload_n 2, 1) := by decide +kernel
theorem dX6_whoComes_27 : decode cX6_whoComes 27 = .ok (.ifCond .eq 18, 3) := by decide +kernel
theorem dX6_whoComes_30 : decode cX6_whoComes 30 = .ok (.aload_n 0, 1) := by decide +kernel
theorem dX6_whoComes_31 : decode cX6_whoComes 31 = .ok (.getfield 9, 3) := by decide +kernel
theorem dX6_whoComes_34 : decode cX6_whoComes 34 = .ok (.iload 5, 2) := by decide +kernel
theorem dX6_whoComes_36 : decode cX6_whoComes 36 = .ok (.iaload, 1) := by decide +kernel
theorem dX6_whoComes_37 : decode cX6_whoComes 37 = .ok (.iconst 1, 1) := by decide +kernel
theorem dX6_whoComes_38 : decode cX6_whoComes 38 = .ok (.if_icmp .ne 7, 3) := by decide +kernel
theorem dX6_whoComes_41 : decode cX6_whoComes 41 = .ok (.iconst 1, 1) := by decide +kernel
theorem dX6_whoComes_42 : decode cX6_whoComes 42 = .ok (.goto 4, 3) := by decide +kernel
theorem dX6_whoComes_45 : decode cX6_whoComes 45 = .ok (.iconst 0, 1) := by decide +kernel
theorem dX6_whoComes_46 : decode cX6_whoComes 46 = .ok (.istore 6, 2) := by decide +kernel
theorem dX6_whoComes_48 : decode cX6_whoComes 48 = .ok (.iload 6, 2) := by decide +kernel
theorem dX6_whoComes_50 : decode cX6_whoComes 50 = .ok (.ifCond .ne 27, 3) := by decide +kernel
theorem dX6_whoComes_53 : decode cX6_whoComes 53 = .ok (.aload_n 0, 1) := by decide +kernel
theorem dX6_whoComes_54 : decode cX6_whoComes 54 = .ok (.getfield 21, 3) := by decide +kernel
theorem dX6_whoComes_57 : decode cX6_whoComes 57 = .ok (.iload 5, 2) := by decide +kernel
theorem dX6_whoComes_59 : decode cX6_whoComes 59 = .ok (.iaload, 1) := by decide +kernel
theorem dX6_whoComes_60 : decode cX6_whoComes 60 = .ok (.iload 4, 2) := by decide +kernel
theorem dX6_whoComes_62 : decode cX6_whoComes 62 = .ok (.if_icmp .ge 15, 3) := by decide +kernel
theorem dX6_whoComes_65 : decode cX6_whoComes 65 = .ok (.iload 5, 2) := by decide +kernel
theorem dX6_whoComes_67 : decode cX6_whoComes 67 = .ok (.istore_n 3, 1) := by decide +kernel
theorem dX6_whoComes_68 : decode cX6_whoComes 68 = .ok (.aload_n 0, 1) := by decide +kernel
theorem dX6_whoComes_69 : decode cX6_whoComes 69 = .ok (.getfield 21, 3) := by decide +kernel
theorem dX6_whoComes_72 : decode cX6_whoComes 72 = .ok (.iload 5, 2) := by decide +kernel
theorem dX6_whoComes_74 : decode cX6_whoComes 74 = .ok (.iaload, 1) := by decide +kernel
theorem dX6_whoComes_75 : decode cX6_whoComes 75 = .ok (.istore 4, 2) := by decide +kernel
theorem dX6_whoComes_77 : decode cX6_whoComes 77 = .ok (.iinc 5 1, 3) := by decide +kernel
theorem dX6_whoComes_80 : decode cX6_whoComes 80 = .ok (.goto (-70), 3) := by decide +kernel
theorem dX6_whoComes_83 : decode cX6_whoComes 83 = .ok (.iload_n 3, 1) := by decide +kernel
theorem dX6_whoComes_84 : decode cX6_whoComes 84 = .ok (.ireturn, 1) := by decide +kernel
theorem dX7_init_0 : decode cX7_init 0 = .ok (.aload_n 0, 1) := by decide +kernel
theorem dX7_init_1 : decode cX7_init 1 = .ok (.invokespecial 1, 3) := by decide +kernel
theorem dX7_init_4 : decode cX7_init 4 = .ok (.aload_n 0, 1) := by decide +kernel
theorem dX7_init_5 : decode cX7_init 5 = .ok (.new 7, 3) := by decide +kernel
theorem dX7_init_8 : decode cX7_init 8 = .ok (.dup, 1) := by decide +kernel
theorem dX7_init_9 : decode cX7_init 9 = .ok (.invokespecial 9, 3) := by decide +kernel
theorem dX7_init_12 : decode cX7_init 12 = .ok (.putfield 10, 3) := by decide +kernel
theorem dX7_init_15 : decode cX7_init 15 = .ok (.aload_n 0, 1) := by decide +kernel
theorem dX7_init_16 : decode cX7_init 16 = .ok (.new 7, 3) := by decide +kernel
theorem dX7_init_19 : decode cX7_init 19 = .ok (.dup, 1) := by decide +kernel
theorem dX7_init_20 : decode cX7_init 20 = .ok (.invokespecial 9, 3) := by decide +kernel
theorem dX7_init_23 : decode cX7_init 23 = .ok (.putfield 16, 3) := by decide +kernel
theorem dX7_init_26 : decode cX7_init 26 = .ok (.aload_n 0, 1) := by decide +kernel
theorem dX7_init_27 : decode cX7_init 27 = .ok (.new 19, 3) := by decide +kernel
theorem dX7_init_30 : decode cX7_init 30 = .ok (.dup, 1) := by decide +kernel
theorem dX7_init_31 : decode cX7_init 31 = .ok (.invokespecial 21, 3) := by decide +kernel
theorem dX7_init_34 : decode cX7_init 34 = .ok (.putfield 22, 3) := by decide +kernel
theorem dX7_init_37 : decode cX7_init 37 = .ok (.aload_n 0, 1) := by decide +kernel
theorem dX7_init_38 : decode cX7_init 38 = .ok (.new 26, 3) := by decide +kernel
theorem dX7_init_41 : decode cX7_init 41 = .ok (.dup, 1) := by decide +kernel
theorem dX7_init_42 : decode cX7_init 42 = .ok (.invokespecial 28, 3) := by decide +kernel
theorem dX7_init_45 : decode cX7_init 45 = .ok (.putfield 29, 3) := by decide +kernel
theorem dX7_init_48 : decode cX7_init 48 = .ok (.aload_n 0, 1) := by decide +kernel
theorem dX7_init_49 : decode cX7_init 49 = .ok (.sipush 720, 3) := by decide +kernel
theorem dX7_init_52 : decode cX7_init 52 = .ok (.newarray .int, 2) := by decide +kernel
theorem dX7_init_54 : decode cX7_init 54 = .ok (.putfield 33, 3) := by decide +kernel
theorem dX7_init_57 : decode cX7_init 57 = .ok (.return_, 1) := by decide +kernel
theorem dX7_wind_0 : decode cX7_wind 0 = .ok (.iload_n 1, 1) := by decide +kernel
theorem dX7_wind_1 : decode cX7_wind 1 = .ok (.invokestatic 37, 3) := by decide +kernel
theorem dX7_wind_4 : decode cX7_wind 4 = .ok (.iload_n 2, 1) := by decide +kernel
theorem dX7_wind_5 : decode cX7_wind 5 = .ok (.iconst 1, 1) := by decide +kernel
theorem dX7_wind_6 : decode cX7_wind 6 = .ok (.sipush 200, 3) := by decide +kernel
theorem dX7_wind_9 : decode cX7_wind 9 = .ok (.invokestatic 41, 3) := by decide +kernel
theorem dX7_wind_12 : decode cX7_wind 12 = .ok (.aload_n 0, 1) := by decide +kernel
theorem dX7_wind_13 : decode cX7_wind 13 = .ok (.getfield 22, 3) := by decide +kernel
theorem dX7_wind_16 : decode cX7_wind 16 = .ok (.aload_n 0, 1) := by decide +kernel
theorem dX7_wind_17 : decode cX7_wind 17 = .ok (.getfield 10, 3) := by decide +kernel
theorem dX7_wind_20 : decode cX7_wind 20 = .ok (.invokevirtual 45, 3) := by decide +kernel
theorem dX7_wind_23 : decode cX7_wind 23 = .ok (.aload_n 0, 1) := by decide +kernel
theorem dX7_wind_24 : decode cX7_wind 24 = .ok (.getfield 10, 3) := by decide +kernel
theorem dX7_wind_27 : decode cX7_wind 27 = .ok (.getfield 49, 3) := by decide +kernel
theorem dX7_wind_30 : decode cX7_wind 30 = .ok (.iload_n 1, 1) := by decide +kernel
theorem dX7_wind_31 : decode cX7_wind 31 = .ok (.iload_n 2, 1) := by decide +kernel
theorem dX7_wind_32 : decode cX7_wind 32 = .ok (.invokevirtual 53, 3) := by decide +kernel
theorem dX7_wind_35 : decode cX7_wind 35 = .ok (.ireturn, 1) := by decide +kernel
theorem dX7_set_0 : decode cX7_set 0 = .ok (.iload_n 1, 1) := by decide +kernel
theorem dX7_set_1 : decode cX7_set 1 = .ok (.invokestatic 59, 3) := by decide +kernel
theorem dX7_set_4 : decode cX7_set 4 = .ok (.iload_n 2, 1) := by decide +kernel
theorem dX7_set_5 : decode cX7_set 5 = .ok (.getstatic 62, 3) := by decide +kernel
theorem dX7_set_8 : decode cX7_set 8 = .ok (.iload_n 1, 1) := by decide +kernel
theorem dX7_set_9 : decode cX7_set 9 = .ok (.iaload, 1) := by decide +kernel
theorem dX7_set_10 : decode cX7_set 10 = .ok (.getstatic 65, 3) := by decide +kernel
theorem dX7_set_13 : decode cX7_set 13 = .ok (.iload_n 1, 1) := by decide +kernel
theorem dX7_set_14 : decode cX7_set 14 = .ok (.iaload, 1) := by decide +kernel
theorem dX7_set_15 : decode cX7_set 15 = .ok (.invokestatic 41, 3) := by decide +kernel
theorem dX7_set_18 : decode cX7_set 18 = .ok (.aload_n 0, 1) := by decide +kernel
theorem dX7_set_19 : decode cX7_set 19 = .ok (.getfield 22, 3) := by decide +kernel
theorem dX7_set_22 : decode cX7_set 22 = .ok (.aload_n 0, 1) := by decide +kernel
theorem dX7_set_23 : decode cX7_set 23 = .ok (.getfield 10, 3) := by decide +kernel
theorem dX7_set_26 : decode cX7_set 26 = .ok (.invokevirtual 45, 3) := by decide +kernel
theorem dX7_set_29 : decode cX7_set 29 = .ok (.aload_n 0, 1) := by decide +kernel
theorem dX7_set_30 : decode cX7_set 30 = .ok (.getfield 10, 3) := by decide +kernel
theorem dX7_set_33 : decode cX7_set 33 = .ok (.getfield 68, 3) := by decide +kernel
theorem dX7_set_36 : decode cX7_set 36 = .ok (.iload_n 1, 1) := by decide +kernel
theorem dX7_set_37 : decode cX7_set 37 = .ok (.iaload, 1) := by decide +kernel
theorem dX7_set_38 : decode cX7_set 38 = .ok (.istore_n 3, 1) := by decide +kernel
theorem dX7_set_39 : decode cX7_set 39 = .ok (.aload_n 0, 1) := by decide +kernel
theorem dX7_set_40 : decode cX7_set 40 = .ok (.getfield 10, 3) := by decide +kernel
theorem dX7_set_43 : decode cX7_set 43 = .ok (.getfield 68, 3) := by decide +kernel
theorem dX7_set_46 : decode cX7_set 46 = .ok (.iload_n 1, 1) := by decide +kernel
theorem dX7_set_47 : decode cX7_set 47 = .ok (.iload_n 2, 1) := by decide +kernel
theorem dX7_set_48 : decode cX7_set 48 = .ok (.iastore, 1) := by decide +kernel
theorem dX7_set_49 : decode cX7_set 49 = .ok (.aload_n 0, 1) := by decide +kernel
theorem dX7_set_50 : decode cX7_set 50 = .ok (.getfield 10, 3) := by decide +kernel
theorem dX7_set_53 : decode cX7_set 53 = .ok (.aload_n 0, 1) := by decide +kernel
theorem dX7_set_54 : decode cX7_set 54 = .ok (.getfield 10, 3) := by decide +kernel
theorem dX7_set_57 : decode cX7_set 57 = .ok (.getfield 71, 3) := by decide +kernel
theorem dX7_set_60 : decode cX7_set 60 = .ok (.aload_n 0, 1) := by decide +kernel
theorem dX7_set_61 : decode cX7_set 61 = .ok (.getfield 10, 3) := by decide +kernel
theorem dX7_set_64 : decode cX7_set 64 = .ok (.getfield 68, 3) := by decide +kernel
theorem dX7_set_67 : decode cX7_set 67 = .ok (.iconst 0, 1) := by decide +kernel
theorem dX7_set_68 : decode cX7_set 68 = .ok (.iaload, 1) := by decide +kernel
theorem dX7_set_69 : decode cX7_set 69 = .ok (.invokestatic 75, 3) := by decide +kernel
theorem dX7_set_72 : decode cX7_set 72 = .ok (.putfield 71, 3) := by decide +kernel
theorem dX7_set_75 : decode cX7_set 75 = .ok (.iload_n 3, 1) := by decide +kernel
theorem dX7_set_76 : decode cX7_set 76 = .ok (.ireturn, 1) := by decide +kernel
theorem dX7_setSnow_0 : decode cX7_setSnow 0 = .ok (.iload_n 1, 1) := by decide +kernel
theorem dX7_setSnow_1 : decode cX7_setSnow 1 = .ok (.iconst 0, 1) := by decide +kernel
theorem dX7_setSnow_2 : decode cX7_setSnow 2 = .ok (.bipush 20, 2) := by decide +kernel
theorem dX7_setSnow_4 : decode cX7_setSnow 4 = .ok (.invokestatic 41, 3) := by decide +kernel
theorem dX7_setSnow_7 : decode cX7_setSnow 7 = .ok (.aload_n 0, 1) := by decide +kernel
theorem dX7_setSnow_8 : decode cX7_setSnow 8 = .ok (.getfield 22, 3) := by decide +kernel
theorem dX7_setSnow_11 : decode cX7_setSnow 11 = .ok (.aload_n 0, 1) := by decide +kernel
theorem dX7_setSnow_12 : decode cX7_setSnow 12 = .ok (.getfield 10, 3) := by decide +kernel
theorem dX7_setSnow_15 : decode cX7_setSnow 15 = .ok (.invokevirtual 45, 3) := by decide +kernel
theorem dX7_setSnow_18 : decode cX7_setSnow 18 = .ok (.aload_n 0, 1) := by decide +kernel
theorem dX7_setSnow_19 : decode cX7_setSnow 19 = .ok (.getfield 10, 3) := by decide +kernel
theorem dX7_setSnow_22 : decode cX7_setSnow 22 = .ok (.getfield 80, 3) := by decide +kernel
theorem dX7_setSnow_25 : decode cX7_setSnow 25 = .ok (.istore_n 2, 1) := by decide +kernel
theorem dX7_setSnow_26 : decode cX7_setSnow 26 = .ok (.aload_n 0, 1) := by decide +kernel
theorem dX7_setSnow_27 : decode cX7_setSnow 27 = .ok (.getfield 10, 3) := by decide +kernel
theorem dX7_setSnow_30 : decode cX7_setSnow 30 = .ok (.iload_n 1, 1) := by decide +kernel
theorem dX7_setSnow_31 : decode cX7_setSnow 31 = .ok (.putfield 80, 3) := by decide +kernel
theorem dX7_setSnow_34 : decode cX7_setSnow 34 = .ok (.iload_n 2, 1) := by decide +kernel
theorem dX7_setSnow_35 : decode cX7_setSnow 35 = .ok (.ireturn, 1) := by decide +kernel
theorem dX7_setHands_0 : decode cX7_setHands 0 = .ok (.iload_n 1, 1) := by decide +kernel
theorem dX7_setHands_1 : decode cX7_setHands 1 = .ok (.iconst 0, 1) := by decide +kernel
theorem dX7_setHands_2 : decode cX7_setHands 2 = .ok (.sipush 719, 3) := by decide +kernel
theorem dX7_setHands_5 : decode cX7_setHands 5 = .ok (.invokestatic 41, 3) := by decide +kernel
theorem dX7_setHands_8 : decode cX7_setHands 8 = .ok (.aload_n 0, 1) := by decide +kernel
theorem dX7_setHands_9 : decode cX7_setHands 9 = .ok (.getfield 22, 3) := by decide +kernel
theorem dX7_setHands_12 : decode cX7_setHands 12 = .ok (.aload_n 0, 1) := by decide +kernel
theorem dX7_setHands_13 : decode cX7_setHands 13 = .ok (.getfield 10, 3) := by decide +kernel
theorem dX7_setHands_16 : decode cX7_setHands 16 = .ok (.invokevirtual 45, 3) := by decide +kernel
theorem dX7_setHands_19 : decode cX7_setHands 19 = .ok (.aload_n 0, 1) := by decide +kernel
theorem dX7_setHands_20 : decode cX7_setHands 20 = .ok (.getfield 10, 3) := by decide +kernel
theorem dX7_setHands_23 : decode cX7_setHands 23 = .ok (.getfield 83, 3) := by decide +kernel
theorem dX7_setHands_26 : decode cX7_setHands 26 = .ok (.istore_n 2, 1) := by decide +kernel
theorem dX7_setHands_27 : decode cX7_setHands 27 = .ok (.aload_n 0, 1) := by decide +kernel
theorem dX7_setHands_28 : decode cX7_setHands 28 = .ok (.getfield 10, 3) := by decide +kernel
theorem dX7_setHands_31 : decode cX7_setHands 31 = .ok (.iload_n 1, 1) := by decide +kernel
theorem dX7_setHands_32 : decode cX7_setHands 32 = .ok (.putfield 83, 3) := by decide +kernel
theorem dX7_setHands_35 : decode cX7_setHands 35 = .ok (.iload_n 2, 1) := by decide +kernel
theorem dX7_setHands_36 : decode cX7_setHands 36 = .ok (.ireturn, 1) := by decide +kernel
theorem dX7_mend_0 : decode cX7_mend 0 = .ok (.aload_n 0, 1) := by decide +kernel
theorem dX7_mend_1 : decode cX7_mend 1 = .ok (.getfield 22, 3) := by decide +kernel
theorem dX7_mend_4 : decode cX7_mend 4 = .ok (.aload_n 0, 1) := by decide +kernel
theorem dX7_mend_5 : decode cX7_mend 5 = .ok (.getfield 10, 3) := by decide +kernel
theorem dX7_mend_8 : decode cX7_mend 8 = .ok (.invokevirtual 45, 3) := by decide +kernel
theorem dX7_mend_11 : decode cX7_mend 11 = .ok (.aload_n 0, 1) := by decide +kernel
theorem dX7_mend_12 : decode cX7_mend 12 = .ok (.getfield 10, 3) := by decide +kernel
theorem dX7_mend_15 : decode cX7_mend 15 = .ok (.getfield 86, 3) := by decide +kernel
theorem dX7_mend_18 : decode cX7_mend 18 = .ok (.istore_n 1, 1) := by decide +kernel
theorem dX7_mend_19 : decode cX7_mend 19 = .ok (.aload_n 0, 1) := by decide +kernel
theorem dX7_mend_20 : decode cX7_mend 20 = .ok (.getfield 10, 3) := by decide +kernel
theorem dX7_mend_23 : decode cX7_mend 23 = .ok (.iconst 0, 1) := by decide +kernel
theorem dX7_mend_24 : decode cX7_mend 24 = .ok (.putfield 86, 3) := by decide +kernel
theorem dX7_mend_27 : decode cX7_mend 27 = .ok (.iload_n 1, 1) := by decide +kernel
theorem dX7_mend_28 : decode cX7_mend 28 = .ok (.ireturn, 1) := by decide +kernel
theorem dX7_forgive_0 : decode cX7_forgive 0 = .ok (.aload_n 0, 1) := by decide +kernel
theorem dX7_forgive_1 : decode cX7_forgive 1 = .ok (.getfield 22, 3) := by decide +kernel
theorem dX7_forgive_4 : decode cX7_forgive 4 = .ok (.aload_n 0, 1) := by decide +kernel
theorem dX7_forgive_5 : decode cX7_forgive 5 = .ok (.getfield 10, 3) := by decide +kernel
theorem dX7_forgive_8 : decode cX7_forgive 8 = .ok (.invokevirtual 45, 3) := by decide +kernel
theorem dX7_forgive_11 : decode cX7_forgive 11 = .ok (.aload_n 0, 1) := by decide +kernel
theorem dX7_forgive_12 : decode cX7_forgive 12 = .ok (.getfield 10, 3) := by decide +kernel
theorem dX7_forgive_15 : decode cX7_forgive 15 = .ok (.getfield 89, 3) := by decide +kernel
theorem dX7_forgive_18 : decode cX7_forgive 18 = .ok (.invokevirtual 93, 3) := by decide +kernel
theorem dX7_forgive_21 : decode cX7_forgive 21 = .ok (.istore_n 1, 1) := by decide +kernel
theorem dX7_forgive_22 : decode cX7_forgive 22 = .ok (.aload_n 0, 1) := by decide +kernel
theorem dX7_forgive_23 : decode cX7_forgive 23 = .ok (.getfield 10, 3) := by decide +kernel
theorem dX7_forgive_26 : decode cX7_forgive 26 = .ok (.getfield 89, 3) := by decide +kernel
theorem dX7_forgive_29 : decode cX7_forgive 29 = .ok (.iconst 0, 1) := by decide +kernel
theorem dX7_forgive_30 : decode cX7_forgive 30 = .ok (.putfield 99, 3) := by decide +kernel
theorem dX7_forgive_33 : decode cX7_forgive 33 = .ok (.aload_n 0, 1) := by decide +kernel
theorem dX7_forgive_34 : decode cX7_forgive 34 = .ok (.getfield 10, 3) := by decide +kernel
theorem dX7_forgive_37 : decode cX7_forgive 37 = .ok (.dup, 1) := by decide +kernel
theorem dX7_forgive_38 : decode cX7_forgive 38 = .ok (.getfield 102, 3) := by decide +kernel
theorem dX7_forgive_41 : decode cX7_forgive 41 = .ok (.iload_n 1, 1) := by decide +kernel
theorem dX7_forgive_42 : decode cX7_forgive 42 = .ok (.iadd, 1) := by decide +kernel
theorem dX7_forgive_43 : decode cX7_forgive 43 = .ok (.putfield 102, 3) := by decide +kernel
theorem dX7_forgive_46 : decode cX7_forgive 46 = .ok (.iload_n 1, 1) := by decide +kernel
theorem dX7_forgive_47 : decode cX7_forgive 47 = .ok (.ireturn, 1) := by decide +kernel
theorem dX7_hire_0 : decode cX7_hire 0 = .ok (.iload_n 1, 1) := by decide +kernel
theorem dX7_hire_1 : decode cX7_hire 1 = .ok (.invokestatic 37, 3) := by decide +kernel
theorem dX7_hire_4 : decode cX7_hire 4 = .ok (.iload_n 2, 1) := by decide +kernel
theorem dX7_hire_5 : decode cX7_hire 5 = .ok (.iconst 1, 1) := by decide +kernel
theorem dX7_hire_6 : decode cX7_hire 6 = .ok (.sipush 200, 3) := by decide +kernel
theorem dX7_hire_9 : decode cX7_hire 9 = .ok (.invokestatic 41, 3) := by decide +kernel
theorem dX7_hire_12 : decode cX7_hire 12 = .ok (.iload_n 3, 1) := by decide +kernel
theorem dX7_hire_13 : decode cX7_hire 13 = .ok (.iconst 1, 1) := by decide +kernel
theorem dX7_hire_14 : decode cX7_hire 14 = .ok (.sipush 720, 3) := by decide +kernel
theorem dX7_hire_17 : decode cX7_hire 17 = .ok (.invokestatic 41, 3) := by decide +kernel
theorem dX7_hire_20 : decode cX7_hire 20 = .ok (.aload_n 0, 1) := by decide +kernel
theorem dX7_hire_21 : decode cX7_hire 21 = .ok (.getfield 10, 3) := by decide +kernel
theorem dX7_hire_24 : decode cX7_hire 24 = .ok (.getfield 105, 3) := by decide +kernel
theorem dX7_hire_27 : decode cX7_hire 27 = .ok (.getfield 109, 3) := by decide +kernel
theorem dX7_hire_30 : decode cX7_hire 30 = .ok (.bipush 6, 2) := by decide +kernel
theorem dX7_hire_32 : decode cX7_hire 32 = .ok (.if_icmp .lt 13, 3) := by decide +kernel
theorem dX7_hire_35 : decode cX7_hire 35 = .ok (.new 112, 3) := by decide +kernel
theorem dX7_hire_38 : decode cX7_hire 38 = .ok (.dup, 1) := by decide +kernel
theorem dX7_hire_39 : decode cX7_hire 39 = .ok (.ldc 114, 2) := by decide +kernel
theorem dX7_hire_41 : decode cX7_hire 41 = .ok (.invokespecial 116, 3) := by decide +kernel
theorem dX7_hire_44 : decode cX7_hire 44 = .ok (.athrow, 1) := by decide +kernel
theorem dX7_hire_45 : decode cX7_hire 45 = .ok (.aload_n 0, 1) := by decide +kernel
theorem dX7_hire_46 : decode cX7_hire 46 = .ok (.getfield 22, 3) := by decide +kernel
theorem dX7_hire_49 : decode cX7_hire 49 = .ok (.aload_n 0, 1) := by decide +kernel
theorem dX7_hire_50 : decode cX7_hire 50 = .ok (.getfield 10, 3) := by decide +kernel
theorem dX7_hire_53 : decode cX7_hire 53 = .ok (.invokevirtual 45, 3) := by decide +kernel
theorem dX7_hire_56 : decode cX7_hire 56 = .ok (.aload_n 0, 1) := by decide +kernel
theorem dX7_hire_57 : decode cX7_hire 57 = .ok (.getfield 10, 3) := by decide +kernel
theorem dX7_hire_60 : decode cX7_hire 60 = .ok (.getfield 105, 3) := by decide +kernel
theorem dX7_hire_63 : decode cX7_hire 63 = .ok (.iload_n 1, 1) := by decide +kernel
theorem dX7_hire_64 : decode cX7_hire 64 = .ok (.iload_n 2, 1) := by decide +kernel
theorem dX7_hire_65 : decode cX7_hire 65 = .ok (.iload_n 3, 1) := by decide +kernel
theorem dX7_hire_66 : decode cX7_hire 66 = .ok (.aload_n 0, 1) := by decide +kernel
theorem dX7_hire_67 : decode cX7_hire 67 = .ok (.getfield 10, 3) := by decide +kernel
theorem dX7_hire_70 : decode cX7_hire 70 = .ok (.getfield 119, 3) := by decide +kernel
theorem dX7_hire_73 : decode cX7_hire 73 = .ok (.iload_n 3, 1) := by decide +kernel
theorem dX7_hire_74 : decode cX7_hire 74 = .ok (.iadd, 1) := by decide +kernel
theorem dX7_hire_75 : decode cX7_hire 75 = .ok (.invokevirtual 122, 3) := by decide +kernel
theorem dX7_hire_78 : decode cX7_hire 78 = .ok (.aload_n 0, 1) := by decide +kernel
theorem dX7_hire_79 : decode cX7_hire 79 = .ok (.getfield 10, 3) := by decide +kernel
theorem dX7_hire_82 : decode cX7_hire 82 = .ok (.getfield 105, 3) := by decide +kernel
theorem dX7_hire_85 : decode cX7_hire 85 = .ok (.getfield 109, 3) := by decide +kernel
theorem dX7_hire_88 : decode cX7_hire 88 = .ok (.iconst 1, 1) := by decide +kernel
theorem dX7_hire_89 : decode cX7_hire 89 = .ok (.isub, 1) := by decide +kernel
theorem dX7_hire_90 : decode cX7_hire 90 = .ok (.ireturn, 1) := by decide +kernel
theorem dX7_dismiss_0 : decode cX7_dismiss 0 = .ok (.aload_n 0, 1) := by decide +kernel
theorem dX7_dismiss_1 : decode cX7_dismiss 1 = .ok (.iload_n 1, 1) := by decide +kernel
theorem dX7_dismiss_2 : decode cX7_dismiss 2 = .ok (.invokevirtual 126, 3) := by decide +kernel
theorem dX7_dismiss_5 : decode cX7_dismiss 5 = .ok (.aload_n 0, 1) := by decide +kernel
theorem dX7_dismiss_6 : decode cX7_dismiss 6 = .ok (.getfield 22, 3) := by decide +kernel
theorem dX7_dismiss_9 : decode cX7_dismiss 9 = .ok (.aload_n 0, 1) := by decide +kernel
theorem dX7_dismiss_10 : decode cX7_dismiss 10 = .ok (.getfield 10, 3) := by decide +kernel
theorem dX7_dismiss_13 : decode cX7_dismiss 13 = .ok (.invokevirtual 45, 3) := by decide +kernel
theorem dX7_dismiss_16 : decode cX7_dismiss 16 = .ok (.aload_n 0, 1) := by decide +kernel
theorem dX7_dismiss_17 : decode cX7_dismiss 17 = .ok (.getfield 10, 3) := by decide +kernel
theorem dX7_dismiss_20 : decode cX7_dismiss 20 = .ok (.getfield 105, 3) := by decide +kernel
theorem dX7_dismiss_23 : decode cX7_dismiss 23 = .ok (.iload_n 1, 1) := by decide +kernel
theorem dX7_dismiss_24 : decode cX7_dismiss 24 = .ok (.invokevirtual 129, 3) := by decide +kernel
theorem dX7_dismiss_27 : decode cX7_dismiss 27 = .ok (.aload_n 0, 1) := by decide +kernel
theorem dX7_dismiss_28 : decode cX7_dismiss 28 = .ok (.getfield 10, 3) := by decide +kernel
theorem dX7_dismiss_31 : decode cX7_dismiss 31 = .ok (.getfield 105, 3) := by decide +kernel
theorem dX7_dismiss_34 : decode cX7_dismiss 34 = .ok (.getfield 109, 3) := by decide +kernel
theorem dX7_dismiss_37 : decode cX7_dismiss 37 = .ok (.ireturn, 1) := by decide +kernel
theorem dX7_pass_0 : decode cX7_pass 0 = .ok (.iload_n 1, 1) := by decide +kernel
theorem dX7_pass_1 : decode cX7_pass 1 = .ok (.iconst 1, 1) := by decide +kernel
theorem dX7_pass_2 : decode cX7_pass 2 = .ok (.sipush 720, 3) := by decide +kernel
theorem dX7_pass_5 : decode cX7_pass 5 = .ok (.invokestatic 41, 3) := by decide +kernel
theorem dX7_pass_8 : decode cX7_pass 8 = .ok (.aload_n 0, 1) := by decide +kernel
theorem dX7_pass_9 : decode cX7_pass 9 = .ok (.getfield 10, 3) := by decide +kernel
theorem dX7_pass_12 : decode cX7_pass 12 = .ok (.getfield 119, 3) := by decide +kernel
theorem dX7_pass_15 : decode cX7_pass 15 = .ok (.iload_n 1, 1) := by decide +kernel
theorem dX7_pass_16 : decode cX7_pass 16 = .ok (.iadd, 1) := by decide +kernel
theorem dX7_pass_17 : decode cX7_pass 17 = .ok (.sipush 20000, 3) := by decide +kernel
theorem dX7_pass_20 : decode cX7_pass 20 = .ok (.if_icmp .le 13, 3) := by decide +kernel
theorem dX7_pass_23 : decode cX7_pass 23 = .ok (.new 112, 3) := by decide +kernel
theorem dX7_pass_26 : decode cX7_pass 26 = .ok (.dup, 1) := by decide +kernel
theorem dX7_pass_27 : decode cX7_pass 27 = .ok (.ldc 132, 2) := by decide +kernel
theorem dX7_pass_29 : decode cX7_pass 29 = .ok (.invokespecial 116, 3) := by decide +kernel
theorem dX7_pass_32 : decode cX7_pass 32 = .ok (.athrow, 1) := by decide +kernel
theorem dX7_pass_33 : decode cX7_pass 33 = .ok (.aload_n 0, 1) := by decide +kernel
theorem dX7_pass_34 : decode cX7_pass 34 = .ok (.getfield 22, 3) := by decide +kernel
theorem dX7_pass_37 : decode cX7_pass 37 = .ok (.aload_n 0, 1) := by decide +kernel
theorem dX7_pass_38 : decode cX7_pass 38 = .ok (.getfield 10, 3) := by decide +kernel
theorem dX7_pass_41 : decode cX7_pass 41 = .ok (.invokevirtual 45, 3) := by decide +kernel
theorem dX7_pass_44 : decode cX7_pass 44 = .ok (.aload_n 0, 1) := by decide +kernel
theorem dX7_pass_45 : decode cX7_pass 45 = .ok (.getfield 10, 3) := by decide +kernel
theorem dX7_pass_48 : decode cX7_pass 48 = .ok (.getfield 134, 3) := by decide +kernel
theorem dX7_pass_51 : decode cX7_pass 51 = .ok (.istore_n 2, 1) := by decide +kernel
theorem dX7_pass_52 : decode cX7_pass 52 = .ok (.aload_n 0, 1) := by decide +kernel
theorem dX7_pass_53 : decode cX7_pass 53 = .ok (.getfield 10, 3) := by decide +kernel
theorem dX7_pass_56 : decode cX7_pass 56 = .ok (.iload_n 1, 1) := by decide +kernel
theorem dX7_pass_57 : decode cX7_pass 57 = .ok (.invokevirtual 137, 3) := by decide +kernel
theorem dX7_pass_60 : decode cX7_pass 60 = .ok (.aload_n 0, 1) := by decide +kernel
theorem dX7_pass_61 : decode cX7_pass 61 = .ok (.getfield 10, 3) := by decide +kernel
theorem dX7_pass_64 : decode cX7_pass 64 = .ok (.getfield 134, 3) := by decide +kernel
theorem dX7_pass_67 : decode cX7_pass 67 = .ok (.iload_n 2, 1) := by decide +kernel
theorem dX7_pass_68 : decode cX7_pass 68 = .ok (.isub, 1) := by decide +kernel
theorem dX7_pass_69 : decode cX7_pass 69 = .ok (.ireturn, 1) := by decide +kernel
theorem dX7_weight_0 : decode cX7_weight 0 = .ok (.iload_n 1, 1) := by decide +kernel
theorem dX7_weight_1 : decode cX7_weight 1 = .ok (.invokestatic 37, 3) := by decide +kernel
theorem dX7_weight_4 : decode cX7_weight 4 = .ok (.iload_n 2, 1) := by decide +kernel
theorem dX7_weight_5 : decode cX7_weight 5 = .ok (.tableswitch 66 0 2 #[27, 40, 53], 27) := by decide +kernel
theorem dX7_weight_32 : decode cX7_weight 32 = .ok (.aload_n 0, 1) := by decide +kernel
theorem dX7_weight_33 : decode cX7_weight 33 = .ok (.getfield 10, 3) := by decide +kernel
theorem dX7_weight_36 : decode cX7_weight 36 = .ok (.getfield 49, 3) := by decide +kernel
theorem dX7_weight_39 : decode cX7_weight 39 = .ok (.getfield 175, 3) := by decide +kernel
theorem dX7_weight_42 : decode cX7_weight 42 = .ok (.iload_n 1, 1) := by decide +kernel
theorem dX7_weight_43 : decode cX7_weight 43 = .ok (.iaload, 1) := by decide +kernel
theorem dX7_weight_44 : decode cX7_weight 44 = .ok (.ireturn, 1) := by decide +kernel
theorem dX7_weight_45 : decode cX7_weight 45 = .ok (.aload_n 0, 1) := by decide +kernel
theorem dX7_weight_46 : decode cX7_weight 46 = .ok (.getfield 10, 3) := by decide +kernel
theorem dX7_weight_49 : decode cX7_weight 49 = .ok (.getfield 49, 3) := by decide +kernel
theorem dX7_weight_52 : decode cX7_weight 52 = .ok (.getfield 178, 3) := by decide +kernel
theorem dX7_weight_55 : decode cX7_weight 55 = .ok (.iload_n 1, 1) := by decide +kernel
theorem dX7_weight_56 : decode cX7_weight 56 = .ok (.iaload, 1) := by decide +kernel
theorem dX7_weight_57 : decode cX7_weight 57 = .ok (.ireturn, 1) := by decide +kernel
theorem dX7_weight_58 : decode cX7_weight 58 = .ok (.aload_n 0, 1) := by decide +kernel
theorem dX7_weight_59 : decode cX7_weight 59 = .ok (.getfield 10, 3) := by decide +kernel
theorem dX7_weight_62 : decode cX7_weight 62 = .ok (.getfield 49, 3) := by decide +kernel
theorem dX7_weight_65 : decode cX7_weight 65 = .ok (.getfield 181, 3) := by decide +kernel
theorem dX7_weight_68 : decode cX7_weight 68 = .ok (.iload_n 1, 1) := by decide +kernel
theorem dX7_weight_69 : decode cX7_weight 69 = .ok (.iaload, 1) := by decide +kernel
theorem dX7_weight_70 : decode cX7_weight 70 = .ok (.ireturn, 1) := by decide +kernel
theorem dX7_weight_71 : decode cX7_weight 71 = .ok (.new 155, 3) := by decide +kernel
theorem dX7_weight_74 : decode cX7_weight 74 = .ok (.dup, 1) := by decide +kernel
theorem dX7_weight_75 : decode cX7_weight 75 = .ok (.ldc 184, 2) := by decide +kernel
theorem dX7_weight_77 : decode cX7_weight 77 = .ok (.invokespecial 159, 3) := by decide +kernel
theorem dX7_weight_80 : decode cX7_weight 80 = .ok (.athrow, 1) := by decide +kernel
theorem dX7_winder_0 : decode cX7_winder 0 = .ok (.aload_n 0, 1) := by decide +kernel
theorem dX7_winder_1 : decode cX7_winder 1 = .ok (.iload_n 1, 1) := by decide +kernel
theorem dX7_winder_2 : decode cX7_winder 2 = .ok (.invokevirtual 126, 3) := by decide +kernel
theorem dX7_winder_5 : decode cX7_winder 5 = .ok (.aload_n 0, 1) := by decide +kernel
theorem dX7_winder_6 : decode cX7_winder 6 = .ok (.getfield 10, 3) := by decide +kernel
theorem dX7_winder_9 : decode cX7_winder 9 = .ok (.getfield 105, 3) := by decide +kernel
theorem dX7_winder_12 : decode cX7_winder 12 = .ok (.astore_n 3, 1) := by decide +kernel
theorem dX7_winder_13 : decode cX7_winder 13 = .ok (.iload_n 2, 1) := by decide +kernel
theorem dX7_winder_14 : decode cX7_winder 14 = .ok (.tableswitch 102 0 5 #[38, 45, 52, 59, 78, 85], 38) := by decide +kernel
theorem dX7_winder_52 : decode cX7_winder 52 = .ok (.aload_n 3, 1) := by decide +kernel
theorem dX7_winder_53 : decode cX7_winder 53 = .ok (.getfield 186, 3) := by decide +kernel
theorem dX7_winder_56 : decode cX7_winder 56 = .ok (.iload_n 1, 1) := by decide +kernel
theorem dX7_winder_57 : decode cX7_winder 57 = .ok (.iaload, 1) := by decide +kernel
theorem dX7_winder_58 : decode cX7_winder 58 = .ok (.ireturn, 1) := by decide +kernel
theorem dX7_winder_59 : decode cX7_winder 59 = .ok (.aload_n 3, 1) := by decide +kernel
theorem dX7_winder_60 : decode cX7_winder 60 = .ok (.getfield 189, 3) := by decide +kernel
theorem dX7_winder_63 : decode cX7_winder 63 = .ok (.iload_n 1, 1) := by decide +kernel
theorem dX7_winder_64 : decode cX7_winder 64 = .ok (.iaload, 1) := by decide +kernel
theorem dX7_winder_65 : decode cX7_winder 65 = .ok (.ireturn, 1) := by decide +kernel
theorem dX7_winder_66 : decode cX7_winder 66 = .ok (.aload_n 3, 1) := by decide +kernel
theorem dX7_winder_67 : decode cX7_winder 67 = .ok (.getfield 192, 3) := by decide +kernel
theorem dX7_winder_70 : decode cX7_winder 70 = .ok (.iload_n 1, 1) := by decide +kernel
theorem dX7_winder_71 : decode cX7_winder 71 = .ok (.iaload, 1) := by decide +kernel
theorem dX7_winder_72 : decode cX7_winder 72 = .ok (.ireturn, 1) := by decide +kernel
theorem dX7_winder_73 : decode cX7_winder 73 = .ok (.iconst 0, 1) := by decide +kernel
theorem dX7_winder_74 : decode cX7_winder 74 = .ok (.aload_n 3, 1) := by decide +kernel
theorem dX7_winder_75 : decode cX7_winder 75 = .ok (.getfield 195, 3) := by decide +kernel
theorem dX7_winder_78 : decode cX7_winder 78 = .ok (.iload_n 1, 1) := by decide +kernel
theorem dX7_winder_79 : decode cX7_winder 79 = .ok (.iaload, 1) := by decide +kernel
theorem dX7_winder_80 : decode cX7_winder 80 = .ok (.aload_n 0, 1) := by decide +kernel
theorem dX7_winder_81 : decode cX7_winder 81 = .ok (.getfield 10, 3) := by decide +kernel
theorem dX7_winder_84 : decode cX7_winder 84 = .ok (.getfield 119, 3) := by decide +kernel
theorem dX7_winder_87 : decode cX7_winder 87 = .ok (.isub, 1) := by decide +kernel
theorem dX7_winder_88 : decode cX7_winder 88 = .ok (.invokestatic 198, 3) := by decide +kernel
theorem dX7_winder_91 : decode cX7_winder 91 = .ok (.ireturn, 1) := by decide +kernel
theorem dX7_winder_92 : decode cX7_winder 92 = .ok (.aload_n 3, 1) := by decide +kernel
theorem dX7_winder_93 : decode cX7_winder 93 = .ok (.getfield 201, 3) := by decide +kernel
theorem dX7_winder_96 : decode cX7_winder 96 = .ok (.iload_n 1, 1) := by decide +kernel
theorem dX7_winder_97 : decode cX7_winder 97 = .ok (.iaload, 1) := by decide +kernel
theorem dX7_winder_98 : decode cX7_winder 98 = .ok (.ireturn, 1) := by decide +kernel
theorem dX7_winder_99 : decode cX7_winder 99 = .ok (.aload_n 0, 1) := by decide +kernel
theorem dX7_winder_100 : decode cX7_winder 100 = .ok (.getfield 10, 3) := by decide +kernel
theorem dX7_winder_103 : decode cX7_winder 103 = .ok (.iload_n 1, 1) := by decide +kernel
theorem dX7_winder_104 : decode cX7_winder 104 = .ok (.invokevirtual 204, 3) := by decide +kernel
theorem dX7_winder_107 : decode cX7_winder 107 = .ok (.ifCond .eq 7, 3) := by decide +kernel
theorem dX7_winder_110 : decode cX7_winder 110 = .ok (.iconst 1, 1) := by decide +kernel
theorem dX7_winder_111 : decode cX7_winder 111 = .ok (.goto 4, 3) := by decide +kernel
theorem dX7_winder_114 : decode cX7_winder 114 = .ok (.iconst 0, 1) := by decide +kernel
theorem dX7_winder_115 : decode cX7_winder 115 = .ok (.ireturn, 1) := by decide +kernel
theorem dX7_winder_116 : decode cX7_winder 116 = .ok (.new 155, 3) := by decide +kernel
theorem dX7_winder_119 : decode cX7_winder 119 = .ok (.dup, 1) := by decide +kernel
theorem dX7_winder_120 : decode cX7_winder 120 = .ok (.ldc 184, 2) := by decide +kernel
theorem dX7_winder_122 : decode cX7_winder 122 = .ok (.invokespecial 159, 3) := by decide +kernel
theorem dX7_winder_125 : decode cX7_winder 125 = .ok (.athrow, 1) := by decide +kernel
theorem dX7_debt_0 : decode cX7_debt 0 = .ok (.iload_n 1, 1) := by decide +kernel
theorem dX7_debt_1 : decode cX7_debt 1 = .ok (.ifCond .lt 17, 3) := by decide +kernel
theorem dX7_debt_4 : decode cX7_debt 4 = .ok (.iload_n 1, 1) := by decide +kernel
theorem dX7_debt_5 : decode cX7_debt 5 = .ok (.aload_n 0, 1) := by decide +kernel
theorem dX7_debt_6 : decode cX7_debt 6 = .ok (.getfield 10, 3) := by decide +kernel
theorem dX7_debt_9 : decode cX7_debt 9 = .ok (.getfield 89, 3) := by decide +kernel
theorem dX7_debt_12 : decode cX7_debt 12 = .ok (.getfield 99, 3) := by decide +kernel
theorem dX7_debt_15 : decode cX7_debt 15 = .ok (.if_icmp .lt 13, 3) := by decide +kernel
theorem dX7_debt_18 : decode cX7_debt 18 = .ok (.new 208, 3) := by decide +kernel
theorem dX7_debt_21 : decode cX7_debt 21 = .ok (.dup, 1) := by decide +kernel
theorem dX7_debt_22 : decode cX7_debt 22 = .ok (.ldc 210, 2) := by decide +kernel
theorem dX7_debt_24 : decode cX7_debt 24 = .ok (.invokespecial 212, 3) := by decide +kernel
theorem dX7_debt_27 : decode cX7_debt 27 = .ok (.athrow, 1) := by decide +kernel
theorem dX7_debt_28 : decode cX7_debt 28 = .ok (.iload_n 2, 1) := by decide +kernel
theorem dX7_debt_29 : decode cX7_debt 29 = .ok (.lookupswitch 53 #[(0, 27), (1, 40)], 27) := by decide +kernel
theorem dX7_debt_56 : decode cX7_debt 56 = .ok (.aload_n 0, 1) := by decide +kernel
theorem dX7_debt_57 : decode cX7_debt 57 = .ok (.getfield 10, 3) := by decide +kernel
theorem dX7_debt_60 : decode cX7_debt 60 = .ok (.getfield 89, 3) := by decide +kernel
theorem dX7_debt_63 : decode cX7_debt 63 = .ok (.getfield 213, 3) := by decide +kernel
theorem dX7_debt_66 : decode cX7_debt 66 = .ok (.iload_n 1, 1) := by decide +kernel
theorem dX7_debt_67 : decode cX7_debt 67 = .ok (.iaload, 1) := by decide +kernel
theorem dX7_debt_68 : decode cX7_debt 68 = .ok (.ireturn, 1) := by decide +kernel
theorem dX7_debt_69 : decode cX7_debt 69 = .ok (.aload_n 0, 1) := by decide +kernel
theorem dX7_debt_70 : decode cX7_debt 70 = .ok (.getfield 10, 3) := by decide +kernel
theorem dX7_debt_73 : decode cX7_debt 73 = .ok (.getfield 89, 3) := by decide +kernel
theorem dX7_debt_76 : decode cX7_debt 76 = .ok (.getfield 216, 3) := by decide +kernel
theorem dX7_debt_79 : decode cX7_debt 79 = .ok (.iload_n 1, 1) := by decide +kernel
theorem dX7_debt_80 : decode cX7_debt 80 = .ok (.iaload, 1) := by decide +kernel
theorem dX7_debt_81 : decode cX7_debt 81 = .ok (.ireturn, 1) := by decide +kernel
theorem dX7_debt_82 : decode cX7_debt 82 = .ok (.new 155, 3) := by decide +kernel
theorem dX7_debt_85 : decode cX7_debt 85 = .ok (.dup, 1) := by decide +kernel
theorem dX7_debt_86 : decode cX7_debt 86 = .ok (.ldc 184, 2) := by decide +kernel
theorem dX7_debt_88 : decode cX7_debt 88 = .ok (.invokespecial 159, 3) := by decide +kernel
theorem dX7_debt_91 : decode cX7_debt 91 = .ok (.athrow, 1) := by decide +kernel
theorem dX7_count_0 : decode cX7_count 0 = .ok (.iload_n 1, 1) := by decide +kernel
theorem dX7_count_1 : decode cX7_count 1 = .ok (.tableswitch 262 0 17 #[87, 95, 103, 111, 119, 127, 138, 149, 157, 165, 173, 181, 189, 197, 205, 216, 238, 254], 87) := by decide +kernel
theorem dX7_count_88 : decode cX7_count 88 = .ok (.aload_n 0, 1) := by decide +kernel
theorem dX7_count_89 : decode cX7_count 89 = .ok (.getfield 10, 3) := by decide +kernel
theorem dX7_count_92 : decode cX7_count 92 = .ok (.getfield 119, 3) := by decide +kernel
theorem dX7_count_95 : decode cX7_count 95 = .ok (.ireturn, 1) := by decide +kernel
theorem dX7_count_96 : decode cX7_count 96 = .ok (.aload_n 0, 1) := by decide +kernel
theorem dX7_count_97 : decode cX7_count 97 = .ok (.getfield 10, 3) := by decide +kernel
theorem dX7_count_100 : decode cX7_count 100 = .ok (.getfield 83, 3) := by decide +kernel
theorem dX7_count_103 : decode cX7_count 103 = .ok (.ireturn, 1) := by decide +kernel
theorem dX7_count_104 : decode cX7_count 104 = .ok (.aload_n 0, 1) := by decide +kernel
theorem dX7_count_105 : decode cX7_count 105 = .ok (.getfield 10, 3) := by decide +kernel
theorem dX7_count_108 : decode cX7_count 108 = .ok (.getfield 71, 3) := by decide +kernel
theorem dX7_count_111 : decode cX7_count 111 = .ok (.ireturn, 1) := by decide +kernel
theorem dX7_count_112 : decode cX7_count 112 = .ok (.aload_n 0, 1) := by decide +kernel
theorem dX7_count_113 : decode cX7_count 113 = .ok (.getfield 10, 3) := by decide +kernel
theorem dX7_count_116 : decode cX7_count 116 = .ok (.getfield 80, 3) := by decide +kernel
theorem dX7_count_119 : decode cX7_count 119 = .ok (.ireturn, 1) := by decide +kernel
theorem dX7_count_120 : decode cX7_count 120 = .ok (.aload_n 0, 1) := by decide +kernel
theorem dX7_count_121 : decode cX7_count 121 = .ok (.getfield 10, 3) := by decide +kernel
theorem dX7_count_124 : decode cX7_count 124 = .ok (.getfield 86, 3) := by decide +kernel
theorem dX7_count_127 : decode cX7_count 127 = .ok (.ireturn, 1) := by decide +kernel
theorem dX7_count_128 : decode cX7_count 128 = .ok (.aload_n 0, 1) := by decide +kernel
theorem dX7_count_129 : decode cX7_count 129 = .ok (.getfield 10, 3) := by decide +kernel
theorem dX7_count_132 : decode cX7_count 132 = .ok (.getfield 89, 3) := by decide +kernel
theorem dX7_count_135 : decode cX7_count 135 = .ok (.getfield 99, 3) := by decide +kernel
theorem dX7_count_138 : decode cX7_count 138 = .ok (.ireturn, 1) := by decide +kernel
theorem dX7_count_139 : decode cX7_count 139 = .ok (.aload_n 0, 1) := by decide +kernel
theorem dX7_count_140 : decode cX7_count 140 = .ok (.getfield 10, 3) := by decide +kernel
theorem dX7_count_143 : decode cX7_count 143 = .ok (.getfield 89, 3) := by decide +kernel
theorem dX7_count_146 : decode cX7_count 146 = .ok (.invokevirtual 93, 3) := by decide +kernel
theorem dX7_count_149 : decode cX7_count 149 = .ok (.ireturn, 1) := by decide +kernel
theorem dX7_count_150 : decode cX7_count 150 = .ok (.aload_n 0, 1) := by decide +kernel
theorem dX7_count_151 : decode cX7_count 151 = .ok (.getfield 10, 3) := by decide +kernel
theorem dX7_count_154 : decode cX7_count 154 = .ok (.getfield 134, 3) := by decide +kernel
theorem dX7_count_157 : decode cX7_count 157 = .ok (.ireturn, 1) := by decide +kernel
theorem dX7_count_158 : decode cX7_count 158 = .ok (.aload_n 0, 1) := by decide +kernel
theorem dX7_count_159 : decode cX7_count 159 = .ok (.getfield 10, 3) := by decide +kernel
theorem dX7_count_162 : decode cX7_count 162 = .ok (.getfield 102, 3) := by decide +kernel
theorem dX7_count_165 : decode cX7_count 165 = .ok (.ireturn, 1) := by decide +kernel
theorem dX7_count_166 : decode cX7_count 166 = .ok (.aload_n 0, 1) := by decide +kernel
theorem dX7_count_167 : decode cX7_count 167 = .ok (.getfield 10, 3) := by decide +kernel
theorem dX7_count_170 : decode cX7_count 170 = .ok (.getfield 219, 3) := by decide +kernel
theorem dX7_count_173 : decode cX7_count 173 = .ok (.ireturn, 1) := by decide +kernel
theorem dX7_count_174 : decode cX7_count 174 = .ok (.aload_n 0, 1) := by decide +kernel
theorem dX7_count_175 : decode cX7_count 175 = .ok (.getfield 10, 3) := by decide +kernel
theorem dX7_count_178 : decode cX7_count 178 = .ok (.getfield 222, 3) := by decide +kernel
theorem dX7_count_181 : decode cX7_count 181 = .ok (.ireturn, 1) := by decide +kernel
theorem dX7_count_182 : decode cX7_count 182 = .ok (.aload_n 0, 1) := by decide +kernel
theorem dX7_count_183 : decode cX7_count 183 = .ok (.getfield 10, 3) := by decide +kernel
theorem dX7_count_186 : decode cX7_count 186 = .ok (.getfield 225, 3) := by decide +kernel
theorem dX7_count_189 : decode cX7_count 189 = .ok (.ireturn, 1) := by decide +kernel
theorem dX7_count_190 : decode cX7_count 190 = .ok (.aload_n 0, 1) := by decide +kernel
theorem dX7_count_191 : decode cX7_count 191 = .ok (.getfield 10, 3) := by decide +kernel
theorem dX7_count_194 : decode cX7_count 194 = .ok (.getfield 228, 3) := by decide +kernel
theorem dX7_count_197 : decode cX7_count 197 = .ok (.ireturn, 1) := by decide +kernel
theorem dX7_count_198 : decode cX7_count 198 = .ok (.aload_n 0, 1) := by decide +kernel
theorem dX7_count_199 : decode cX7_count 199 = .ok (.getfield 10, 3) := by decide +kernel
theorem dX7_count_202 : decode cX7_count 202 = .ok (.getfield 231, 3) := by decide +kernel
theorem dX7_count_205 : decode cX7_count 205 = .ok (.ireturn, 1) := by decide +kernel
theorem dX7_count_206 : decode cX7_count 206 = .ok (.aload_n 0, 1) := by decide +kernel
theorem dX7_count_207 : decode cX7_count 207 = .ok (.getfield 10, 3) := by decide +kernel
theorem dX7_count_210 : decode cX7_count 210 = .ok (.getfield 105, 3) := by decide +kernel
theorem dX7_count_213 : decode cX7_count 213 = .ok (.getfield 109, 3) := by decide +kernel
theorem dX7_count_216 : decode cX7_count 216 = .ok (.ireturn, 1) := by decide +kernel
theorem dX7_count_217 : decode cX7_count 217 = .ok (.aload_n 0, 1) := by decide +kernel
theorem dX7_count_218 : decode cX7_count 218 = .ok (.getfield 10, 3) := by decide +kernel
theorem dX7_count_221 : decode cX7_count 221 = .ok (.getfield 119, 3) := by decide +kernel
theorem dX7_count_224 : decode cX7_count 224 = .ok (.aload_n 0, 1) := by decide +kernel
theorem dX7_count_225 : decode cX7_count 225 = .ok (.getfield 10, 3) := by decide +kernel
theorem dX7_count_228 : decode cX7_count 228 = .ok (.getfield 83, 3) := by decide +kernel
theorem dX7_count_231 : decode cX7_count 231 = .ok (.isub, 1) := by decide +kernel
theorem dX7_count_232 : decode cX7_count 232 = .ok (.sipush 720, 3) := by decide +kernel
theorem dX7_count_235 : decode cX7_count 235 = .ok (.invokestatic 234, 3) := by decide +kernel
theorem dX7_count_238 : decode cX7_count 238 = .ok (.ireturn, 1) := by decide +kernel
theorem dX7_count_239 : decode cX7_count 239 = .ok (.aload_n 0, 1) := by decide +kernel
theorem dX7_count_240 : decode cX7_count 240 = .ok (.getfield 10, 3) := by decide +kernel
theorem dX7_count_243 : decode cX7_count 243 = .ok (.invokevirtual 237, 3) := by decide +kernel
theorem dX7_count_246 : decode cX7_count 246 = .ok (.ifCond .eq 7, 3) := by decide +kernel
theorem dX7_count_249 : decode cX7_count 249 = .ok (.iconst 1, 1) := by decide +kernel
theorem dX7_count_250 : decode cX7_count 250 = .ok (.goto 4, 3) := by decide +kernel
theorem dX7_count_253 : decode cX7_count 253 = .ok (.iconst 0, 1) := by decide +kernel
theorem dX7_count_254 : decode cX7_count 254 = .ok (.ireturn, 1) := by decide +kernel
theorem dX7_count_255 : decode cX7_count 255 = .ok (.aload_n 0, 1) := by decide +kernel
theorem dX7_count_256 : decode cX7_count 256 = .ok (.getfield 22, 3) := by decide +kernel
theorem dX7_count_259 : decode cX7_count 259 = .ok (.getfield 169, 3) := by decide +kernel
theorem dX7_count_262 : decode cX7_count 262 = .ok (.ireturn, 1) := by decide +kernel
theorem dX7_count_263 : decode cX7_count 263 = .ok (.new 155, 3) := by decide +kernel
theorem dX7_count_266 : decode cX7_count 266 = .ok (.dup, 1) := by decide +kernel
theorem dX7_count_267 : decode cX7_count 267 = .ok (.ldc 240, 2) := by decide +kernel
theorem dX7_count_269 : decode cX7_count 269 = .ok (.invokespecial 159, 3) := by decide +kernel
theorem dX7_count_272 : decode cX7_count 272 = .ok (.athrow, 1) := by decide +kernel
theorem dX7_setting_0 : decode cX7_setting 0 = .ok (.iload_n 1, 1) := by decide +kernel
theorem dX7_setting_1 : decode cX7_setting 1 = .ok (.invokestatic 59, 3) := by decide +kernel
theorem dX7_setting_4 : decode cX7_setting 4 = .ok (.aload_n 0, 1) := by decide +kernel
theorem dX7_setting_5 : decode cX7_setting 5 = .ok (.getfield 10, 3) := by decide +kernel
theorem dX7_setting_8 : decode cX7_setting 8 = .ok (.getfield 68, 3) := by decide +kernel
theorem dX7_setting_11 : decode cX7_setting 11 = .ok (.iload_n 1, 1) := by decide +kernel
theorem dX7_setting_12 : decode cX7_setting 12 = .ok (.iaload, 1) := by decide +kernel
theorem dX7_setting_13 : decode cX7_setting 13 = .ok (.ireturn, 1) := by decide +kernel
theorem dX7_requireWeight_0 : decode cX7_requireWeight 0 = .ok (.iload_n 0, 1) := by decide +kernel
theorem dX7_requireWeight_1 : decode cX7_requireWeight 1 = .ok (.ifCond .lt 8, 3) := by decide +kernel
theorem dX7_requireWeight_4 : decode cX7_requireWeight 4 = .ok (.iload_n 0, 1) := by decide +kernel
theorem dX7_requireWeight_5 : decode cX7_requireWeight 5 = .ok (.iconst 3, 1) := by decide +kernel
theorem dX7_requireWeight_6 : decode cX7_requireWeight 6 = .ok (.if_icmp .lt 14, 3) := by decide +kernel
theorem dX7_requireWeight_9 : decode cX7_requireWeight 9 = .ok (.new 208, 3) := by decide +kernel
theorem dX7_requireWeight_12 : decode cX7_requireWeight 12 = .ok (.dup, 1) := by decide +kernel
theorem dX7_requireWeight_13 : decode cX7_requireWeight 13 = .ok (.ldc_w 307, 3) := by decide +kernel
theorem dX7_requireWeight_16 : decode cX7_requireWeight 16 = .ok (.invokespecial 212, 3) := by decide +kernel
theorem dX7_requireWeight_19 : decode cX7_requireWeight 19 = .ok (.athrow, 1) := by decide +kernel
theorem dX7_requireWeight_20 : decode cX7_requireWeight 20 = .ok (.return_, 1) := by decide +kernel
theorem dX7_requireSetting_0 : decode cX7_requireSetting 0 = .ok (.iload_n 0, 1) := by decide +kernel
theorem dX7_requireSetting_1 : decode cX7_requireSetting 1 = .ok (.ifCond .lt 9, 3) := by decide +kernel
theorem dX7_requireSetting_4 : decode cX7_requireSetting 4 = .ok (.iload_n 0, 1) := by decide +kernel
theorem dX7_requireSetting_5 : decode cX7_requireSetting 5 = .ok (.bipush 6, 2) := by decide +kernel
theorem dX7_requireSetting_7 : decode cX7_requireSetting 7 = .ok (.if_icmp .lt 14, 3) := by decide +kernel
theorem dX7_requireSetting_10 : decode cX7_requireSetting 10 = .ok (.new 208, 3) := by decide +kernel
theorem dX7_requireSetting_13 : decode cX7_requireSetting 13 = .ok (.dup, 1) := by decide +kernel
theorem dX7_requireSetting_14 : decode cX7_requireSetting 14 = .ok (.ldc_w 309, 3) := by decide +kernel
theorem dX7_requireSetting_17 : decode cX7_requireSetting 17 = .ok (.invokespecial 212, 3) := by decide +kernel
theorem dX7_requireSetting_20 : decode cX7_requireSetting 20 = .ok (.athrow, 1) := by decide +kernel
theorem dX7_requireSetting_21 : decode cX7_requireSetting 21 = .ok (.return_, 1) := by decide +kernel
theorem dX7_requireWinder_0 : decode cX7_requireWinder 0 = .ok (.iload_n 1, 1) := by decide +kernel
theorem dX7_requireWinder_1 : decode cX7_requireWinder 1 = .ok (.ifCond .lt 17, 3) := by decide +kernel
theorem dX7_requireWinder_4 : decode cX7_requireWinder 4 = .ok (.iload_n 1, 1) := by decide +kernel
theorem dX7_requireWinder_5 : decode cX7_requireWinder 5 = .ok (.aload_n 0, 1) := by decide +kernel
theorem dX7_requireWinder_6 : decode cX7_requireWinder 6 = .ok (.getfield 10, 3) := by decide +kernel
theorem dX7_requireWinder_9 : decode cX7_requireWinder 9 = .ok (.getfield 105, 3) := by decide +kernel
theorem dX7_requireWinder_12 : decode cX7_requireWinder 12 = .ok (.getfield 109, 3) := by decide +kernel
theorem dX7_requireWinder_15 : decode cX7_requireWinder 15 = .ok (.if_icmp .lt 14, 3) := by decide +kernel
theorem dX7_requireWinder_18 : decode cX7_requireWinder 18 = .ok (.new 208, 3) := by decide +kernel
theorem dX7_requireWinder_21 : decode cX7_requireWinder 21 = .ok (.dup, 1) := by decide +kernel
theorem dX7_requireWinder_22 : decode cX7_requireWinder 22 = .ok (.ldc_w 311, 3) := by decide +kernel
theorem dX7_requireWinder_25 : decode cX7_requireWinder 25 = .ok (.invokespecial 212, 3) := by decide +kernel
theorem dX7_requireWinder_28 : decode cX7_requireWinder 28 = .ok (.athrow, 1) := by decide +kernel
theorem dX7_requireWinder_29 : decode cX7_requireWinder 29 = .ok (.return_, 1) := by decide +kernel
theorem dX7_requireRange_0 : decode cX7_requireRange 0 = .ok (.iload_n 0, 1) := by decide +kernel
theorem dX7_requireRange_1 : decode cX7_requireRange 1 = .ok (.iload_n 1, 1) := by decide +kernel
theorem dX7_requireRange_2 : decode cX7_requireRange 2 = .ok (.if_icmp .lt 8, 3) := by decide +kernel
theorem dX7_requireRange_5 : decode cX7_requireRange 5 = .ok (.iload_n 0, 1) := by decide +kernel
theorem dX7_requireRange_6 : decode cX7_requireRange 6 = .ok (.iload_n 2, 1) := by decide +kernel
theorem dX7_requireRange_7 : decode cX7_requireRange 7 = .ok (.if_icmp .le 14, 3) := by decide +kernel
theorem dX7_requireRange_10 : decode cX7_requireRange 10 = .ok (.new 155, 3) := by decide +kernel
theorem dX7_requireRange_13 : decode cX7_requireRange 13 = .ok (.dup, 1) := by decide +kernel
theorem dX7_requireRange_14 : decode cX7_requireRange 14 = .ok (.ldc_w 313, 3) := by decide +kernel
theorem dX7_requireRange_17 : decode cX7_requireRange 17 = .ok (.invokespecial 159, 3) := by decide +kernel
theorem dX7_requireRange_20 : decode cX7_requireRange 20 = .ok (.athrow, 1) := by decide +kernel
theorem dX7_requireRange_21 : decode cX7_requireRange 21 = .ok (.return_, 1) := by decide +kernel
theorem dJ9_floorMod_7cf53_0 : decode cJ9_floorMod_7cf53 0 = .ok (.iload_n 0, 1) := by decide +kernel
theorem dJ9_floorMod_7cf53_1 : decode cJ9_floorMod_7cf53 1 = .ok (.iload_n 1, 1) := by decide +kernel
theorem dJ9_floorMod_7cf53_2 : decode cJ9_floorMod_7cf53 2 = .ok (.irem, 1) := by decide +kernel
theorem dJ9_floorMod_7cf53_3 : decode cJ9_floorMod_7cf53 3 = .ok (.istore_n 2, 1) := by decide +kernel
theorem dJ9_floorMod_7cf53_4 : decode cJ9_floorMod_7cf53 4 = .ok (.iload_n 0, 1) := by decide +kernel
theorem dJ9_floorMod_7cf53_5 : decode cJ9_floorMod_7cf53 5 = .ok (.iload_n 1, 1) := by decide +kernel
theorem dJ9_floorMod_7cf53_6 : decode cJ9_floorMod_7cf53 6 = .ok (.ixor, 1) := by decide +kernel
theorem dJ9_floorMod_7cf53_7 : decode cJ9_floorMod_7cf53 7 = .ok (.ifCond .ge 11, 3) := by decide +kernel
theorem dJ9_floorMod_7cf53_10 : decode cJ9_floorMod_7cf53 10 = .ok (.iload_n 2, 1) := by decide +kernel
theorem dJ9_floorMod_7cf53_11 : decode cJ9_floorMod_7cf53 11 = .ok (.ifCond .eq 7, 3) := by decide +kernel
theorem dJ9_floorMod_7cf53_14 : decode cJ9_floorMod_7cf53 14 = .ok (.iload_n 2, 1) := by decide +kernel
theorem dJ9_floorMod_7cf53_15 : decode cJ9_floorMod_7cf53 15 = .ok (.iload_n 1, 1) := by decide +kernel
theorem dJ9_floorMod_7cf53_16 : decode cJ9_floorMod_7cf53 16 = .ok (.iadd, 1) := by decide +kernel
theorem dJ9_floorMod_7cf53_17 : decode cJ9_floorMod_7cf53 17 = .ok (.ireturn, 1) := by decide +kernel
theorem dJ9_floorMod_7cf53_18 : decode cJ9_floorMod_7cf53 18 = .ok (.iload_n 2, 1) := by decide +kernel
theorem dJ9_floorMod_7cf53_19 : decode cJ9_floorMod_7cf53 19 = .ok (.ireturn, 1) := by decide +kernel
theorem dJ9_max_7cf53_0 : decode cJ9_max_7cf53 0 = .ok (.iload_n 0, 1) := by decide +kernel
theorem dJ9_max_7cf53_1 : decode cJ9_max_7cf53 1 = .ok (.iload_n 1, 1) := by decide +kernel
theorem dJ9_max_7cf53_2 : decode cJ9_max_7cf53 2 = .ok (.if_icmp .lt 7, 3) := by decide +kernel
theorem dJ9_max_7cf53_5 : decode cJ9_max_7cf53 5 = .ok (.iload_n 0, 1) := by decide +kernel
theorem dJ9_max_7cf53_6 : decode cJ9_max_7cf53 6 = .ok (.goto 4, 3) := by decide +kernel
theorem dJ9_max_7cf53_9 : decode cJ9_max_7cf53 9 = .ok (.iload_n 1, 1) := by decide +kernel
theorem dJ9_max_7cf53_10 : decode cJ9_max_7cf53 10 = .ok (.ireturn, 1) := by decide +kernel
theorem dJ9_min_7cf53_0 : decode cJ9_min_7cf53 0 = .ok (.iload_n 0, 1) := by decide +kernel
theorem dJ9_min_7cf53_1 : decode cJ9_min_7cf53 1 = .ok (.iload_n 1, 1) := by decide +kernel
theorem dJ9_min_7cf53_2 : decode cJ9_min_7cf53 2 = .ok (.if_icmp .gt 7, 3) := by decide +kernel
theorem dJ9_min_7cf53_5 : decode cJ9_min_7cf53 5 = .ok (.iload_n 0, 1) := by decide +kernel
theorem dJ9_min_7cf53_6 : decode cJ9_min_7cf53 6 = .ok (.goto 4, 3) := by decide +kernel
theorem dJ9_min_7cf53_9 : decode cJ9_min_7cf53 9 = .ok (.iload_n 1, 1) := by decide +kernel
theorem dJ9_min_7cf53_10 : decode cJ9_min_7cf53 10 = .ok (.ireturn, 1) := by decide +kernel
