theorem dX0_init_0 : decode cX0_init 0 = .ok (.aload_n 0, 1) := by decide +kernel
theorem dX0_init_1 : decode cX0_init 1 = .ok (.invokespecial 3, 3) := by decide +kernel
theorem dX0_init_4 : decode cX0_init 4 = .ok (.aload_n 0, 1) := by decide +kernel
theorem dX0_init_5 : decode cX0_init 5 = .ok (.iconst 4, 1) := by decide +kernel
theorem dX0_init_6 : decode cX0_init 6 = .ok (.newarray .int, 2) := by decide +kernel
theorem dX0_init_8 : decode cX0_init 8 = .ok (.putfield 9, 3) := by decide +kernel
theorem dX0_init_11 : decode cX0_init 11 = .ok (.aload_n 0, 1) := by decide +kernel
theorem dX0_init_12 : decode cX0_init 12 = .ok (.iconst 4, 1) := by decide +kernel
theorem dX0_init_13 : decode cX0_init 13 = .ok (.newarray .int, 2) := by decide +kernel
theorem dX0_init_15 : decode cX0_init 15 = .ok (.putfield 15, 3) := by decide +kernel
theorem dX0_init_18 : decode cX0_init 18 = .ok (.return_, 1) := by decide +kernel
theorem dX0_copyFrom_0 : decode cX0_copyFrom 0 = .ok (.aload_n 0, 1) := by decide +kernel
theorem dX0_copyFrom_1 : decode cX0_copyFrom 1 = .ok (.aload_n 1, 1) := by decide +kernel
theorem dX0_copyFrom_2 : decode cX0_copyFrom 2 = .ok (.getfield 18, 3) := by decide +kernel
theorem dX0_copyFrom_5 : decode cX0_copyFrom 5 = .ok (.putfield 18, 3) := by decide +kernel
theorem dX0_copyFrom_8 : decode cX0_copyFrom 8 = .ok (.iconst 0, 1) := by decide +kernel
theorem dX0_copyFrom_9 : decode cX0_copyFrom 9 = .ok (.istore_n 2, 1) := by decide +kernel
theorem dX0_copyFrom_10 : decode cX0_copyFrom 10 = .ok (.iload_n 2, 1) := by decide +kernel
theorem dX0_copyFrom_11 : decode cX0_copyFrom 11 = .ok (.aload_n 0, 1) := by decide +kernel
theorem dX0_copyFrom_12 : decode cX0_copyFrom 12 = .ok (.getfield 18, 3) := by decide +kernel
theorem dX0_copyFrom_15 : decode cX0_copyFrom 15 = .ok (.if_icmp .ge 38, 3) := by decide +kernel
theorem dX0_copyFrom_18 : decode cX0_copyFrom 18 = .ok (.iload_n 2, 1) := by decide +kernel
theorem dX0_copyFrom_19 : decode cX0_copyFrom 19 = .ok (.iconst 4, 1) := by decide +kernel
theorem dX0_copyFrom_20 : decode cX0_copyFrom 20 = .ok (.if_icmp .ge 33, 3) := by decide +kernel
theorem dX0_copyFrom_23 : decode cX0_copyFrom 23 = .ok (.aload_n 0, 1) := by decide +kernel
theorem dX0_copyFrom_24 : decode cX0_copyFrom 24 = .ok (.getfield 9, 3) := by decide +kernel
theorem dX0_copyFrom_27 : decode cX0_copyFrom 27 = .ok (.iload_n 2, 1) := by decide +kernel
theorem dX0_copyFrom_28 : decode cX0_copyFrom 28 = .ok (.aload_n 1, 1) := by decide +kernel
theorem dX0_copyFrom_29 : decode cX0_copyFrom 29 = .ok (.getfield 9, 3) := by decide +kernel
theorem dX0_copyFrom_32 : decode cX0_copyFrom 32 = .ok (.iload_n 2, 1) := by decide +kernel
theorem dX0_copyFrom_33 : decode cX0_copyFrom 33 = .ok (.iaload, 1) := by decide +kernel
theorem dX0_copyFrom_34 : decode cX0_copyFrom 34 = .ok (.iastore, 1) := by decide +kernel
theorem dX0_copyFrom_35 : decode cX0_copyFrom 35 = .ok (.aload_n 0, 1) := by decide +kernel
theorem dX0_copyFrom_36 : decode cX0_copyFrom 36 = .ok (.getfield 15, 3) := by decide +kernel
theorem dX0_copyFrom_39 : decode cX0_copyFrom 39 = .ok (.iload_n 2, 1) := by decide +kernel
theorem dX0_copyFrom_40 : decode cX0_copyFrom 40 = .ok (.aload_n 1, 1) := by decide +kernel
theorem dX0_copyFrom_41 : decode cX0_copyFrom 41 = .ok (.getfield 15, 3) := by decide +kernel
theorem dX0_copyFrom_44 : decode cX0_copyFrom 44 = .ok (.iload_n 2, 1) := by decide +kernel
theorem dX0_copyFrom_45 : decode cX0_copyFrom 45 = .ok (.iaload, 1) := by decide +kernel
theorem dX0_copyFrom_46 : decode cX0_copyFrom 46 = .ok (.iastore, 1) := by decide +kernel
theorem dX0_copyFrom_47 : decode cX0_copyFrom 47 = .ok (.iinc 2 1, 3) := by decide +kernel
theorem dX0_copyFrom_50 : decode cX0_copyFrom 50 = .ok (.goto (-40), 3) := by decide +kernel
theorem dX0_copyFrom_53 : decode cX0_copyFrom 53 = .ok (.return_, 1) := by decide +kernel
theorem dX0_owed_0 : decode cX0_owed 0 = .ok (.iconst 0, 1) := by decide +kernel
theorem dX0_owed_1 : decode cX0_owed 1 = .ok (.istore_n 1, 1) := by decide +kernel
theorem dX0_owed_2 : decode cX0_owed 2 = .ok (.iconst 0, 1) := by decide +kernel
theorem dX0_owed_3 : decode cX0_owed 3 = .ok (.istore_n 2, 1) := by decide +kernel
theorem dX0_owed_4 : decode cX0_owed 4 = .ok (.iload_n 2, 1) := by decide +kernel
theorem dX0_owed_5 : decode cX0_owed 5 = .ok (.aload_n 0, 1) := by decide +kernel
theorem dX0_owed_6 : decode cX0_owed 6 = .ok (.getfield 18, 3) := by decide +kernel
theorem dX0_owed_9 : decode cX0_owed 9 = .ok (.if_icmp .ge 23, 3) := by decide +kernel
theorem dX0_owed_12 : decode cX0_owed 12 = .ok (.iload_n 2, 1) := by decide +kernel
theorem dX0_owed_13 : decode cX0_owed 13 = .ok (.iconst 4, 1) := by decide +kernel
theorem dX0_owed_14 : decode cX0_owed 14 = .ok (.if_icmp .ge 18, 3) := by decide +kernel
theorem dX0_owed_17 : decode cX0_owed 17 = .ok (.iload_n 1, 1) := by decide +kernel
theorem dX0_owed_18 : decode cX0_owed 18 = .ok (.aload_n 0, 1) := by decide +kernel
theorem dX0_owed_19 : decode cX0_owed 19 = .ok (.getfield 15, 3) := by decide +kernel
theorem dX0_owed_22 : decode cX0_owed 22 = .ok (.iload_n 2, 1) := by decide +kernel
theorem dX0_owed_23 : decode cX0_owed 23 = .ok (.iaload, 1) := by decide +kernel
theorem dX0_owed_24 : decode cX0_owed 24 = .ok (.iadd, 1) := by decide +kernel
theorem dX0_owed_25 : decode cX0_owed 25 = .ok (.istore_n 1, 1) := by decide +kernel
theorem dX0_owed_26 : decode cX0_owed 26 = .ok (.iinc 2 1, 3) := by decide +kernel
theorem dX0_owed_29 : decode cX0_owed 29 = .ok (.goto (-25), 3) := by decide +kernel
theorem dX0_owed_32 : decode cX0_owed 32 = .ok (.iload_n 1, 1) := by decide +kernel
theorem dX0_owed_33 : decode cX0_owed 33 = .ok (.ireturn, 1) := by decide +kernel
theorem dX0_add_0 : decode cX0_add 0 = .ok (.aload_n 0, 1) := by decide +kernel
theorem dX0_add_1 : decode cX0_add 1 = .ok (.getfield 18, 3) := by decide +kernel
theorem dX0_add_4 : decode cX0_add 4 = .ok (.ifCond .lt 11, 3) := by decide +kernel
theorem dX0_add_7 : decode cX0_add 7 = .ok (.aload_n 0, 1) := by decide +kernel
theorem dX0_add_8 : decode cX0_add 8 = .ok (.getfield 18, 3) := by decide +kernel
theorem dX0_add_11 : decode cX0_add 11 = .ok (.iconst 4, 1) := by decide +kernel
theorem dX0_add_12 : decode cX0_add 12 = .ok (.if_icmp .lt 4, 3) := by decide +kernel
theorem dX0_add_15 : decode cX0_add 15 = .ok (.return_, 1) := by decide +kernel
theorem dX0_add_16 : decode cX0_add 16 = .ok (.aload_n 0, 1) := by decide +kernel
theorem dX0_add_17 : decode cX0_add 17 = .ok (.getfield 9, 3) := by decide +kernel
theorem dX0_add_20 : decode cX0_add 20 = .ok (.aload_n 0, 1) := by decide +kernel
theorem dX0_add_21 : decode cX0_add 21 = .ok (.getfield 18, 3) := by decide +kernel
theorem dX0_add_24 : decode cX0_add 24 = .ok (.iload_n 1, 1) := by decide +kernel
theorem dX0_add_25 : decode cX0_add 25 = .ok (.iastore, 1) := by decide +kernel
theorem dX0_add_26 : decode cX0_add 26 = .ok (.aload_n 0, 1) := by decide +kernel
theorem dX0_add_27 : decode cX0_add 27 = .ok (.getfield 15, 3) := by decide +kernel
theorem dX0_add_30 : decode cX0_add 30 = .ok (.aload_n 0, 1) := by decide +kernel
theorem dX0_add_31 : decode cX0_add 31 = .ok (.getfield 18, 3) := by decide +kernel
theorem dX0_add_34 : decode cX0_add 34 = .ok (.iload_n 1, 1) := by decide +kernel
theorem dX0_add_35 : decode cX0_add 35 = .ok (.iastore, 1) := by decide +kernel
theorem dX0_add_36 : decode cX0_add 36 = .ok (.aload_n 0, 1) := by decide +kernel
theorem dX0_add_37 : decode cX0_add 37 = .ok (.dup, 1) := by decide +kernel
theorem dX0_add_38 : decode cX0_add 38 = .ok (.getfield 18, 3) := by decide +kernel
theorem dX0_add_41 : decode cX0_add 41 = .ok (.iconst 1, 1) := by decide +kernel
theorem dX0_add_42 : decode cX0_add 42 = .ok (.iadd, 1) := by decide +kernel
theorem dX0_add_43 : decode cX0_add 43 = .ok (.putfield 18, 3) := by decide +kernel
theorem dX0_add_46 : decode cX0_add 46 = .ok (.return_, 1) := by decide +kernel
theorem dX0_payFirst_0 : decode cX0_payFirst 0 = .ok (.aload_n 0, 1) := by decide +kernel
theorem dX0_payFirst_1 : decode cX0_payFirst 1 = .ok (.getfield 15, 3) := by decide +kernel
theorem dX0_payFirst_4 : decode cX0_payFirst 4 = .ok (.iconst 0, 1) := by decide +kernel
theorem dX0_payFirst_5 : decode cX0_payFirst 5 = .ok (.dup2, 1) := by decide +kernel
theorem dX0_payFirst_6 : decode cX0_payFirst 6 = .ok (.iaload, 1) := by decide +kernel
theorem dX0_payFirst_7 : decode cX0_payFirst 7 = .ok (.iload_n 1, 1) := by decide +kernel
theorem dX0_payFirst_8 : decode cX0_payFirst 8 = .ok (.isub, 1) := by decide +kernel
theorem dX0_payFirst_9 : decode cX0_payFirst 9 = .ok (.iastore, 1) := by decide +kernel
theorem dX0_payFirst_10 : decode cX0_payFirst 10 = .ok (.aload_n 0, 1) := by decide +kernel
theorem dX0_payFirst_11 : decode cX0_payFirst 11 = .ok (.getfield 15, 3) := by decide +kernel
theorem dX0_payFirst_14 : decode cX0_payFirst 14 = .ok (.iconst 0, 1) := by decide +kernel
theorem dX0_payFirst_15 : decode cX0_payFirst 15 = .ok (.iaload, 1) := by decide +kernel
theorem dX0_payFirst_16 : decode cX0_payFirst 16 = .ok (.ifCond .ne 7, 3) := by decide +kernel
theorem dX0_payFirst_19 : decode cX0_payFirst 19 = .ok (.aload_n 0, 1) := by decide +kernel
theorem dX0_payFirst_20 : decode cX0_payFirst 20 = .ok (.invokevirtual 22, 3) := by decide +kernel
theorem dX0_payFirst_23 : decode cX0_payFirst 23 = .ok (.return_, 1) := by decide +kernel
theorem dX0_dropFirst_0 : decode cX0_dropFirst 0 = .ok (.iconst 1, 1) := by decide +kernel
theorem dX0_dropFirst_1 : decode cX0_dropFirst 1 = .ok (.istore_n 1, 1) := by decide +kernel
theorem dX0_dropFirst_2 : decode cX0_dropFirst 2 = .ok (.iload_n 1, 1) := by decide +kernel
theorem dX0_dropFirst_3 : decode cX0_dropFirst 3 = .ok (.aload_n 0, 1) := by decide +kernel
theorem dX0_dropFirst_4 : decode cX0_dropFirst 4 = .ok (.getfield 18, 3) := by decide +kernel
theorem dX0_dropFirst_7 : decode cX0_dropFirst 7 = .ok (.if_icmp .ge 42, 3) := by decide +kernel
theorem dX0_dropFirst_10 : decode cX0_dropFirst 10 = .ok (.iload_n 1, 1) := by decide +kernel
theorem dX0_dropFirst_11 : decode cX0_dropFirst 11 = .ok (.iconst 4, 1) := by decide +kernel
theorem dX0_dropFirst_12 : decode cX0_dropFirst 12 = .ok (.if_icmp .ge 37, 3) := by decide +kernel
theorem dX0_dropFirst_15 : decode cX0_dropFirst 15 = .ok (.aload_n 0, 1) := by decide +kernel
theorem dX0_dropFirst_16 : decode cX0_dropFirst 16 = .ok (.getfield 9, 3) := by decide +kernel
theorem dX0_dropFirst_19 : decode cX0_dropFirst 19 = .ok (.iload_n 1, 1) := by decide +kernel
theorem dX0_dropFirst_20 : decode cX0_dropFirst 20 = .ok (.iconst 1, 1) := by decide +kernel
theorem dX0_dropFirst_21 : decode cX0_dropFirst 21 = .ok (.isub, 1) := by decide +kernel
theorem dX0_dropFirst_22 : decode cX0_dropFirst 22 = .ok (.aload_n 0, 1) := by decide +kernel
theorem dX0_dropFirst_23 : decode cX0_dropFirst 23 = .ok (.getfield 9, 3) := by decide +kernel
theorem dX0_dropFirst_26 : decode cX0_dropFirst 26 = .ok (.iload_n 1, 1) := by decide +kernel
theorem dX0_dropFirst_27 : decode cX0_dropFirst 27 = .ok (.iaload, 1) := by decide +kernel
theorem dX0_dropFirst_28 : decode cX0_dropFirst 28 = .ok (.iastore, 1) := by decide +kernel
theorem dX0_dropFirst_29 : decode cX0_dropFirst 29 = .ok (.aload_n 0, 1) := by decide +kernel
theorem dX0_dropFirst_30 : decode cX0_dropFirst 30 = .ok (.getfield 15, 3) := by decide +kernel
theorem dX0_dropFirst_33 : decode cX0_dropFirst 33 = .ok (.iload_n 1, 1) := by decide +kernel
theorem dX0_dropFirst_34 : decode cX0_dropFirst 34 = .ok (.iconst 1, 1) := by decide +kernel
theorem dX0_dropFirst_35 : decode cX0_dropFirst 35 = .ok (.isub, 1) := by decide +kernel
theorem dX0_dropFirst_36 : decode cX0_dropFirst 36 = .ok (.aload_n 0, 1) := by decide +kernel
theorem dX0_dropFirst_37 : decode cX0_dropFirst 37 = .ok (.getfield 15, 3) := by decide +kernel
theorem dX0_dropFirst_40 : decode cX0_dropFirst 40 = .ok (.iload_n 1, 1) := by decide +kernel
theorem dX0_dropFirst_41 : decode cX0_dropFirst 41 = .ok (.iaload, 1) := by decide +kernel
theorem dX0_dropFirst_42 : decode cX0_dropFirst 42 = .ok (.iastore, 1) := by decide +kernel
theorem dX0_dropFirst_43 : decode cX0_dropFirst 43 = .ok (.iinc 1 1, 3) := by decide +kernel
theorem dX0_dropFirst_46 : decode cX0_dropFirst 46 = .ok (.goto (-44), 3) := by decide +kernel
theorem dX0_dropFirst_49 : decode cX0_dropFirst 49 = .ok (.aload_n 0, 1) := by decide +kernel
theorem dX0_dropFirst_50 : decode cX0_dropFirst 50 = .ok (.dup, 1) := by decide +kernel
theorem dX0_dropFirst_51 : decode cX0_dropFirst 51 = .ok (.getfield 18, 3) := by decide +kernel
theorem dX0_dropFirst_54 : decode cX0_dropFirst 54 = .ok (.iconst 1, 1) := by decide +kernel
theorem dX0_dropFirst_55 : decode cX0_dropFirst 55 = .ok (.isub, 1) := by decide +kernel
theorem dX0_dropFirst_56 : decode cX0_dropFirst 56 = .ok (.putfield 18, 3) := by decide +kernel
theorem dX0_dropFirst_59 : decode cX0_dropFirst 59 = .ok (.return_, 1) := by decide +kernel
theorem dX1_init_0 : decode cX1_init 0 = .ok (.aload_n 0, 1) := by decide +kernel
theorem dX1_init_1 : decode cX1_init 1 = .ok (.invokespecial 3, 3) := by decide +kernel
theorem dX1_init_4 : decode cX1_init 4 = .ok (.aload_n 0, 1) := by decide +kernel
theorem dX1_init_5 : decode cX1_init 5 = .ok (.bipush 6, 2) := by decide +kernel
theorem dX1_init_7 : decode cX1_init 7 = .ok (.anewarray 9, 3) := by decide +kernel
theorem dX1_init_10 : decode cX1_init 10 = .ok (.putfield 11, 3) := by decide +kernel
theorem dX1_init_13 : decode cX1_init 13 = .ok (.iconst 0, 1) := by decide +kernel
theorem dX1_init_14 : decode cX1_init 14 = .ok (.istore_n 1, 1) := by decide +kernel
theorem dX1_init_15 : decode cX1_init 15 = .ok (.iload_n 1, 1) := by decide +kernel
theorem dX1_init_16 : decode cX1_init 16 = .ok (.bipush 6, 2) := by decide +kernel
theorem dX1_init_18 : decode cX1_init 18 = .ok (.if_icmp .ge 22, 3) := by decide +kernel
theorem dX1_init_21 : decode cX1_init 21 = .ok (.aload_n 0, 1) := by decide +kernel
theorem dX1_init_22 : decode cX1_init 22 = .ok (.getfield 11, 3) := by decide +kernel
theorem dX1_init_25 : decode cX1_init 25 = .ok (.iload_n 1, 1) := by decide +kernel
theorem dX1_init_26 : decode cX1_init 26 = .ok (.new 9, 3) := by decide +kernel
theorem dX1_init_29 : decode cX1_init 29 = .ok (.dup, 1) := by decide +kernel
theorem dX1_init_30 : decode cX1_init 30 = .ok (.invokespecial 17, 3) := by decide +kernel
theorem dX1_init_33 : decode cX1_init 33 = .ok (.aastore, 1) := by decide +kernel
theorem dX1_init_34 : decode cX1_init 34 = .ok (.iinc 1 1, 3) := by decide +kernel
theorem dX1_init_37 : decode cX1_init 37 = .ok (.goto (-22), 3) := by decide +kernel
theorem dX1_init_40 : decode cX1_init 40 = .ok (.return_, 1) := by decide +kernel
theorem dX1_keep_0 : decode cX1_keep 0 = .ok (.aload_n 0, 1) := by decide +kernel
theorem dX1_keep_1 : decode cX1_keep 1 = .ok (.getfield 11, 3) := by decide +kernel
theorem dX1_keep_4 : decode cX1_keep 4 = .ok (.aload_n 0, 1) := by decide +kernel
theorem dX1_keep_5 : decode cX1_keep 5 = .ok (.getfield 18, 3) := by decide +kernel
theorem dX1_keep_8 : decode cX1_keep 8 = .ok (.aload_n 0, 1) := by decide +kernel
theorem dX1_keep_9 : decode cX1_keep 9 = .ok (.getfield 22, 3) := by decide +kernel
theorem dX1_keep_12 : decode cX1_keep 12 = .ok (.iadd, 1) := by decide +kernel
theorem dX1_keep_13 : decode cX1_keep 13 = .ok (.bipush 6, 2) := by decide +kernel
theorem dX1_keep_15 : decode cX1_keep 15 = .ok (.invokestatic 25, 3) := by decide +kernel
theorem dX1_keep_18 : decode cX1_keep 18 = .ok (.aaload, 1) := by decide +kernel
theorem dX1_keep_19 : decode cX1_keep 19 = .ok (.astore_n 2, 1) := by decide +kernel
theorem dX1_keep_20 : decode cX1_keep 20 = .ok (.aload_n 2, 1) := by decide +kernel
theorem dX1_keep_21 : decode cX1_keep 21 = .ok (.ifnull 8, 3) := by decide +kernel
theorem dX1_keep_24 : decode cX1_keep 24 = .ok (.aload_n 2, 1) := by decide +kernel
theorem dX1_keep_25 : decode cX1_keep 25 = .ok (.aload_n 1, 1) := by decide +kernel
theorem dX1_keep_26 : decode cX1_keep 26 = .ok (.invokevirtual 31, 3) := by decide +kernel
theorem dX1_keep_29 : decode cX1_keep 29 = .ok (.aload_n 0, 1) := by decide +kernel
theorem dX1_keep_30 : decode cX1_keep 30 = .ok (.getfield 22, 3) := by decide +kernel
theorem dX1_keep_33 : decode cX1_keep 33 = .ok (.bipush 6, 2) := by decide +kernel
theorem dX1_keep_35 : decode cX1_keep 35 = .ok (.if_icmp .ge 16, 3) := by decide +kernel
theorem dX1_keep_38 : decode cX1_keep 38 = .ok (.aload_n 0, 1) := by decide +kernel
theorem dX1_keep_39 : decode cX1_keep 39 = .ok (.dup, 1) := by decide +kernel
theorem dX1_keep_40 : decode cX1_keep 40 = .ok (.getfield 22, 3) := by decide +kernel
theorem dX1_keep_43 : decode cX1_keep 43 = .ok (.iconst 1, 1) := by decide +kernel
theorem dX1_keep_44 : decode cX1_keep 44 = .ok (.iadd, 1) := by decide +kernel
theorem dX1_keep_45 : decode cX1_keep 45 = .ok (.putfield 22, 3) := by decide +kernel
theorem dX1_keep_48 : decode cX1_keep 48 = .ok (.goto 16, 3) := by decide +kernel
theorem dX1_keep_51 : decode cX1_keep 51 = .ok (.aload_n 0, 1) := by decide +kernel
theorem dX1_keep_52 : decode cX1_keep 52 = .ok (.aload_n 0, 1) := by decide +kernel
theorem dX1_keep_53 : decode cX1_keep 53 = .ok (.getfield 18, 3) := by decide +kernel
theorem dX1_keep_56 : decode cX1_keep 56 = .ok (.iconst 1, 1) := by decide +kernel
theorem dX1_keep_57 : decode cX1_keep 57 = .ok (.iadd, 1) := by decide +kernel
theorem dX1_keep_58 : decode cX1_keep 58 = .ok (.bipush 6, 2) := by decide +kernel
theorem dX1_keep_60 : decode cX1_keep 60 = .ok (.irem, 1) := by decide +kernel
theorem dX1_keep_61 : decode cX1_keep 61 = .ok (.putfield 18, 3) := by decide +kernel
theorem dX1_keep_64 : decode cX1_keep 64 = .ok (.return_, 1) := by decide +kernel
theorem dX1_giveBack_0 : decode cX1_giveBack 0 = .ok (.aload_n 0, 1) := by decide +kernel
theorem dX1_giveBack_1 : decode cX1_giveBack 1 = .ok (.dup, 1) := by decide +kernel
theorem dX1_giveBack_2 : decode cX1_giveBack 2 = .ok (.getfield 22, 3) := by decide +kernel
theorem dX1_giveBack_5 : decode cX1_giveBack 5 = .ok (.iconst 1, 1) := by decide +kernel
theorem dX1_giveBack_6 : decode cX1_giveBack 6 = .ok (.isub, 1) := by decide +kernel
theorem dX1_giveBack_7 : decode cX1_giveBack 7 = .ok (.putfield 22, 3) := by decide +kernel
theorem dX1_giveBack_10 : decode cX1_giveBack 10 = .ok (.aload_n 0, 1) := by decide +kernel
theorem dX1_giveBack_11 : decode cX1_giveBack 11 = .ok (.getfield 11, 3) := by decide +kernel
theorem dX1_giveBack_14 : decode cX1_giveBack 14 = .ok (.aload_n 0, 1) := by decide +kernel
theorem dX1_giveBack_15 : decode cX1_giveBack 15 = .ok (.getfield 18, 3) := by decide +kernel
theorem dX1_giveBack_18 : decode cX1_giveBack 18 = .ok (.aload_n 0, 1) := by decide +kernel
theorem dX1_giveBack_19 : decode cX1_giveBack 19 = .ok (.getfield 22, 3) := by decide +kernel
theorem dX1_giveBack_22 : decode cX1_giveBack 22 = .ok (.iadd, 1) := by decide +kernel
theorem dX1_giveBack_23 : decode cX1_giveBack 23 = .ok (.bipush 6, 2) := by decide +kernel
theorem dX1_giveBack_25 : decode cX1_giveBack 25 = .ok (.invokestatic 25, 3) := by decide +kernel
theorem dX1_giveBack_28 : decode cX1_giveBack 28 = .ok (.aaload, 1) := by decide +kernel
theorem dX1_giveBack_29 : decode cX1_giveBack 29 = .ok (.astore_n 2, 1) := by decide +kernel
theorem dX1_giveBack_30 : decode cX1_giveBack 30 = .ok (.aload_n 2, 1) := by decide +kernel
theorem dX1_giveBack_31 : decode cX1_giveBack 31 = .ok (.ifnull 8, 3) := by decide +kernel
theorem dX1_giveBack_34 : decode cX1_giveBack 34 = .ok (.aload_n 1, 1) := by decide +kernel
theorem dX1_giveBack_35 : decode cX1_giveBack 35 = .ok (.aload_n 2, 1) := by decide +kernel
theorem dX1_giveBack_36 : decode cX1_giveBack 36 = .ok (.invokevirtual 31, 3) := by decide +kernel
theorem dX1_giveBack_39 : decode cX1_giveBack 39 = .ok (.return_, 1) := by decide +kernel
theorem dX2_init_0 : decode cX2_init 0 = .ok (.aload_n 0, 1) := by decide +kernel
theorem dX2_init_1 : decode cX2_init 1 = .ok (.invokespecial 3, 3) := by decide +kernel
theorem dX2_init_4 : decode cX2_init 4 = .ok (.aload_n 0, 1) := by decide +kernel
theorem dX2_init_5 : decode cX2_init 5 = .ok (.iconst 0, 1) := by decide +kernel
theorem dX2_init_6 : decode cX2_init 6 = .ok (.putfield 11, 3) := by decide +kernel
theorem dX2_init_9 : decode cX2_init 9 = .ok (.return_, 1) := by decide +kernel
theorem dX2_begin_0 : decode cX2_begin 0 = .ok (.aload_n 0, 1) := by decide +kernel
theorem dX2_begin_1 : decode cX2_begin 1 = .ok (.iconst 0, 1) := by decide +kernel
theorem dX2_begin_2 : decode cX2_begin 2 = .ok (.putfield 11, 3) := by decide +kernel
theorem dX2_begin_5 : decode cX2_begin 5 = .ok (.return_, 1) := by decide +kernel
theorem dX2_hasWholeRound_0 : decode cX2_hasWholeRound 0 = .ok (.aload_n 0, 1) := by decide +kernel
theorem dX2_hasWholeRound_1 : decode cX2_hasWholeRound 1 = .ok (.getfield 11, 3) := by decide +kernel
theorem dX2_hasWholeRound_4 : decode cX2_hasWholeRound 4 = .ok (.iconst 2, 1) := by decide +kernel
theorem dX2_hasWholeRound_5 : decode cX2_hasWholeRound 5 = .ok (.if_icmp .ne 14, 3) := by decide +kernel
theorem dX2_hasWholeRound_8 : decode cX2_hasWholeRound 8 = .ok (.aload_n 0, 1) := by decide +kernel
theorem dX2_hasWholeRound_9 : decode cX2_hasWholeRound 9 = .ok (.getfield 15, 3) := by decide +kernel
theorem dX2_hasWholeRound_12 : decode cX2_hasWholeRound 12 = .ok (.ifCond .le 7, 3) := by decide +kernel
theorem dX2_hasWholeRound_15 : decode cX2_hasWholeRound 15 = .ok (.iconst 1, 1) := by decide +kernel
theorem dX2_hasWholeRound_16 : decode cX2_hasWholeRound 16 = .ok (.goto 4, 3) := by decide +kernel
theorem dX2_hasWholeRound_19 : decode cX2_hasWholeRound 19 = .ok (.iconst 0, 1) := by decide +kernel
theorem dX2_hasWholeRound_20 : decode cX2_hasWholeRound 20 = .ok (.ireturn, 1) := by decide +kernel
theorem dX2_hireInto_0 : decode cX2_hireInto 0 = .ok (.aload_n 1, 1) := by decide +kernel
theorem dX2_hireInto_1 : decode cX2_hireInto 1 = .ok (.aload_n 0, 1) := by decide +kernel
theorem dX2_hireInto_2 : decode cX2_hireInto 2 = .ok (.getfield 18, 3) := by decide +kernel
theorem dX2_hireInto_5 : decode cX2_hireInto 5 = .ok (.aload_n 0, 1) := by decide +kernel
theorem dX2_hireInto_6 : decode cX2_hireInto 6 = .ok (.getfield 21, 3) := by decide +kernel
theorem dX2_hireInto_9 : decode cX2_hireInto 9 = .ok (.aload_n 0, 1) := by decide +kernel
theorem dX2_hireInto_10 : decode cX2_hireInto 10 = .ok (.getfield 15, 3) := by decide +kernel
theorem dX2_hireInto_13 : decode cX2_hireInto 13 = .ok (.iload_n 2, 1) := by decide +kernel
theorem dX2_hireInto_14 : decode cX2_hireInto 14 = .ok (.aload_n 0, 1) := by decide +kernel
theorem dX2_hireInto_15 : decode cX2_hireInto 15 = .ok (.getfield 15, 3) := by decide +kernel
theorem dX2_hireInto_18 : decode cX2_hireInto 18 = .ok (.iadd, 1) := by decide +kernel
theorem dX2_hireInto_19 : decode cX2_hireInto 19 = .ok (.invokevirtual 24, 3) := by decide +kernel
theorem dX2_hireInto_22 : decode cX2_hireInto 22 = .ok (.return_, 1) := by decide +kernel
theorem dX2_reads_0 : decode cX2_reads 0 = .ok (.aload_n 0, 1) := by decide +kernel
theorem dX2_reads_1 : decode cX2_reads 1 = .ok (.getfield 11, 3) := by decide +kernel
theorem dX2_reads_4 : decode cX2_reads 4 = .ok (.lookupswitch 40 #[(0, 28), (1, 34)], 28) := by decide +kernel
theorem dX2_reads_32 : decode cX2_reads 32 = .ok (.aload_n 0, 1) := by decide +kernel
theorem dX2_reads_33 : decode cX2_reads 33 = .ok (.iload_n 1, 1) := by decide +kernel
theorem dX2_reads_34 : decode cX2_reads 34 = .ok (.invokevirtual 30, 3) := by decide +kernel
theorem dX2_reads_37 : decode cX2_reads 37 = .ok (.ireturn, 1) := by decide +kernel
theorem dX2_reads_38 : decode cX2_reads 38 = .ok (.aload_n 0, 1) := by decide +kernel
theorem dX2_reads_39 : decode cX2_reads 39 = .ok (.iload_n 1, 1) := by decide +kernel
theorem dX2_reads_40 : decode cX2_reads 40 = .ok (.invokevirtual 34, 3) := by decide +kernel
theorem dX2_reads_43 : decode cX2_reads 43 = .ok (.ireturn, 1) := by decide +kernel
theorem dX2_reads_44 : decode cX2_reads 44 = .ok (.aload_n 0, 1) := by decide +kernel
theorem dX2_reads_45 : decode cX2_reads 45 = .ok (.iload_n 1, 1) := by decide +kernel
theorem dX2_reads_46 : decode cX2_reads 46 = .ok (.invokevirtual 37, 3) := by decide +kernel
theorem dX2_reads_49 : decode cX2_reads 49 = .ok (.ireturn, 1) := by decide +kernel
theorem dX2_readsWeight_0 : decode cX2_readsWeight 0 = .ok (.iload_n 1, 1) := by decide +kernel
theorem dX2_readsWeight_1 : decode cX2_readsWeight 1 = .ok (.invokestatic 40, 3) := by decide +kernel
theorem dX2_readsWeight_4 : decode cX2_readsWeight 4 = .ok (.istore_n 2, 1) := by decide +kernel
theorem dX2_readsWeight_5 : decode cX2_readsWeight 5 = .ok (.iload_n 2, 1) := by decide +kernel
theorem dX2_readsWeight_6 : decode cX2_readsWeight 6 = .ok (.iconst (-1), 1) := by decide +kernel
theorem dX2_readsWeight_7 : decode cX2_readsWeight 7 = .ok (.if_icmp .ne 5, 3) := by decide +kernel
theorem dX2_readsWeight_10 : decode cX2_readsWeight 10 = .ok (.iconst 0, 1) := by decide +kernel
theorem dX2_readsWeight_11 : decode cX2_readsWeight 11 = .ok (.ireturn, 1) := by decide +kernel
theorem dX2_readsWeight_12 : decode cX2_readsWeight 12 = .ok (.aload_n 0, 1) := by decide +kernel
theorem dX2_readsWeight_13 : decode cX2_readsWeight 13 = .ok (.iload_n 2, 1) := by decide +kernel
theorem dX2_readsWeight_14 : decode cX2_readsWeight 14 = .ok (.putfield 18, 3) := by decide +kernel
theorem dX2_readsWeight_17 : decode cX2_readsWeight 17 = .ok (.aload_n 0, 1) := by decide +kernel
theorem dX2_readsWeight_18 : decode cX2_readsWeight 18 = .ok (.iconst 0, 1) := by decide +kernel
theorem dX2_readsWeight_19 : decode cX2_readsWeight 19 = .ok (.putfield 21, 3) := by decide +kernel
theorem dX2_readsWeight_22 : decode cX2_readsWeight 22 = .ok (.aload_n 0, 1) := by decide +kernel
theorem dX2_readsWeight_23 : decode cX2_readsWeight 23 = .ok (.iconst 0, 1) := by decide +kernel
theorem dX2_readsWeight_24 : decode cX2_readsWeight 24 = .ok (.putfield 15, 3) := by decide +kernel
theorem dX2_readsWeight_27 : decode cX2_readsWeight 27 = .ok (.aload_n 0, 1) := by decide +kernel
theorem dX2_readsWeight_28 : decode cX2_readsWeight 28 = .ok (.iconst 1, 1) := by decide +kernel
theorem dX2_readsWeight_29 : decode cX2_readsWeight 29 = .ok (.putfield 11, 3) := by decide +kernel
theorem dX2_readsWeight_32 : decode cX2_readsWeight 32 = .ok (.iconst 1, 1) := by decide +kernel
theorem dX2_readsWeight_33 : decode cX2_readsWeight 33 = .ok (.ireturn, 1) := by decide +kernel
theorem dX2_weightNamed_0 : decode cX2_weightNamed 0 = .ok (.iload_n 0, 1) := by decide +kernel
theorem dX2_weightNamed_1 : decode cX2_weightNamed 1 = .ok (.bipush 103, 2) := by decide +kernel
theorem dX2_weightNamed_3 : decode cX2_weightNamed 3 = .ok (.if_icmp .ne 5, 3) := by decide +kernel
theorem dX2_weightNamed_6 : decode cX2_weightNamed 6 = .ok (.iconst 0, 1) := by decide +kernel
theorem dX2_weightNamed_7 : decode cX2_weightNamed 7 = .ok (.ireturn, 1) := by decide +kernel
theorem dX2_weightNamed_8 : decode cX2_weightNamed 8 = .ok (.iload_n 0, 1) := by decide +kernel
theorem dX2_weightNamed_9 : decode cX2_weightNamed 9 = .ok (.bipush 115, 2) := by decide +kernel
theorem dX2_weightNamed_11 : decode cX2_weightNamed 11 = .ok (.if_icmp .ne 5, 3) := by decide +kernel
theorem dX2_weightNamed_14 : decode cX2_weightNamed 14 = .ok (.iconst 1, 1) := by decide +kernel
theorem dX2_weightNamed_15 : decode cX2_weightNamed 15 = .ok (.ireturn, 1) := by decide +kernel
theorem dX2_weightNamed_16 : decode cX2_weightNamed 16 = .ok (.iload_n 0, 1) := by decide +kernel
theorem dX2_weightNamed_17 : decode cX2_weightNamed 17 = .ok (.bipush 99, 2) := by decide +kernel
theorem dX2_weightNamed_19 : decode cX2_weightNamed 19 = .ok (.if_icmp .ne 7, 3) := by decide +kernel
theorem dX2_weightNamed_22 : decode cX2_weightNamed 22 = .ok (.iconst 2, 1) := by decide +kernel
theorem dX2_weightNamed_23 : decode cX2_weightNamed 23 = .ok (.goto 4, 3) := by decide +kernel
theorem dX2_weightNamed_26 : decode cX2_weightNamed 26 = .ok (.iconst (-1), 1) := by decide +kernel
theorem dX2_weightNamed_27 : decode cX2_weightNamed 27 = .ok (.ireturn, 1) := by decide +kernel
theorem dX2_readsTurns_0 : decode cX2_readsTurns 0 = .ok (.iload_n 1, 1) := by decide +kernel
theorem dX2_readsTurns_1 : decode cX2_readsTurns 1 = .ok (.bipush 47, 2) := by decide +kernel
theorem dX2_readsTurns_3 : decode cX2_readsTurns 3 = .ok (.if_icmp .ne 17, 3) := by decide +kernel
theorem dX2_readsTurns_6 : decode cX2_readsTurns 6 = .ok (.aload_n 0, 1) := by decide +kernel
theorem dX2_readsTurns_7 : decode cX2_readsTurns 7 = .ok (.getfield 21, 3) := by decide +kernel
theorem dX2_readsTurns_10 : decode cX2_readsTurns 10 = .ok (.ifCond .le 10, 3) := by decide +kernel
theorem dX2_readsTurns_13 : decode cX2_readsTurns 13 = .ok (.aload_n 0, 1) := by decide +kernel
theorem dX2_readsTurns_14 : decode cX2_readsTurns 14 = .ok (.iconst 2, 1) := by decide +kernel
theorem dX2_readsTurns_15 : decode cX2_readsTurns 15 = .ok (.putfield 11, 3) := by decide +kernel
theorem dX2_readsTurns_18 : decode cX2_readsTurns 18 = .ok (.iconst 1, 1) := by decide +kernel
theorem dX2_readsTurns_19 : decode cX2_readsTurns 19 = .ok (.ireturn, 1) := by decide +kernel
theorem dX2_readsTurns_20 : decode cX2_readsTurns 20 = .ok (.aload_n 0, 1) := by decide +kernel
theorem dX2_readsTurns_21 : decode cX2_readsTurns 21 = .ok (.getfield 21, 3) := by decide +kernel
theorem dX2_readsTurns_24 : decode cX2_readsTurns 24 = .ok (.iload_n 1, 1) := by decide +kernel
theorem dX2_readsTurns_25 : decode cX2_readsTurns 25 = .ok (.sipush 200, 3) := by decide +kernel
theorem dX2_readsTurns_28 : decode cX2_readsTurns 28 = .ok (.invokestatic 44, 3) := by decide +kernel
theorem dX2_readsTurns_31 : decode cX2_readsTurns 31 = .ok (.istore_n 2, 1) := by decide +kernel
theorem dX2_readsTurns_32 : decode cX2_readsTurns 32 = .ok (.iload_n 2, 1) := by decide +kernel
theorem dX2_readsTurns_33 : decode cX2_readsTurns 33 = .ok (.iconst (-1), 1) := by decide +kernel
theorem dX2_readsTurns_34 : decode cX2_readsTurns 34 = .ok (.if_icmp .ne 5, 3) := by decide +kernel
theorem dX2_readsTurns_37 : decode cX2_readsTurns 37 = .ok (.iconst 0, 1) := by decide +kernel
theorem dX2_readsTurns_38 : decode cX2_readsTurns 38 = .ok (.ireturn, 1) := by decide +kernel
theorem dX2_readsTurns_39 : decode cX2_readsTurns 39 = .ok (.aload_n 0, 1) := by decide +kernel
theorem dX2_readsTurns_40 : decode cX2_readsTurns 40 = .ok (.iload_n 2, 1) := by decide +kernel
theorem dX2_readsTurns_41 : decode cX2_readsTurns 41 = .ok (.putfield 21, 3) := by decide +kernel
theorem dX2_readsTurns_44 : decode cX2_readsTurns 44 = .ok (.iconst 1, 1) := by decide +kernel
theorem dX2_readsTurns_45 : decode cX2_readsTurns 45 = .ok (.ireturn, 1) := by decide +kernel
theorem dX2_readsPeriod_0 : decode cX2_readsPeriod 0 = .ok (.iload_n 1, 1) := by decide +kernel
theorem dX2_readsPeriod_1 : decode cX2_readsPeriod 1 = .ok (.bipush 44, 2) := by decide +kernel
theorem dX2_readsPeriod_3 : decode cX2_readsPeriod 3 = .ok (.if_icmp .ne 17, 3) := by decide +kernel
theorem dX2_readsPeriod_6 : decode cX2_readsPeriod 6 = .ok (.aload_n 0, 1) := by decide +kernel
theorem dX2_readsPeriod_7 : decode cX2_readsPeriod 7 = .ok (.getfield 15, 3) := by decide +kernel
theorem dX2_readsPeriod_10 : decode cX2_readsPeriod 10 = .ok (.ifCond .le 10, 3) := by decide +kernel
theorem dX2_readsPeriod_13 : decode cX2_readsPeriod 13 = .ok (.aload_n 0, 1) := by decide +kernel
theorem dX2_readsPeriod_14 : decode cX2_readsPeriod 14 = .ok (.iconst 0, 1) := by decide +kernel
theorem dX2_readsPeriod_15 : decode cX2_readsPeriod 15 = .ok (.putfield 11, 3) := by decide +kernel
theorem dX2_readsPeriod_18 : decode cX2_readsPeriod 18 = .ok (.iconst 1, 1) := by decide +kernel
theorem dX2_readsPeriod_19 : decode cX2_readsPeriod 19 = .ok (.ireturn, 1) := by decide +kernel
theorem dX2_readsPeriod_20 : decode cX2_readsPeriod 20 = .ok (.aload_n 0, 1) := by decide +kernel
theorem dX2_readsPeriod_21 : decode cX2_readsPeriod 21 = .ok (.getfield 15, 3) := by decide +kernel
theorem dX2_readsPeriod_24 : decode cX2_readsPeriod 24 = .ok (.iload_n 1, 1) := by decide +kernel
theorem dX2_readsPeriod_25 : decode cX2_readsPeriod 25 = .ok (.sipush 720, 3) := by decide +kernel
theorem dX2_readsPeriod_28 : decode cX2_readsPeriod 28 = .ok (.invokestatic 44, 3) := by decide +kernel
theorem dX2_readsPeriod_31 : decode cX2_readsPeriod 31 = .ok (.istore_n 2, 1) := by decide +kernel
theorem dX2_readsPeriod_32 : decode cX2_readsPeriod 32 = .ok (.iload_n 2, 1) := by decide +kernel
theorem dX2_readsPeriod_33 : decode cX2_readsPeriod 33 = .ok (.iconst (-1), 1) := by decide +kernel
theorem dX2_readsPeriod_34 : decode cX2_readsPeriod 34 = .ok (.if_icmp .ne 5, 3) := by decide +kernel
theorem dX2_readsPeriod_37 : decode cX2_readsPeriod 37 = .ok (.iconst 0, 1) := by decide +kernel
theorem dX2_readsPeriod_38 : decode cX2_readsPeriod 38 = .ok (.ireturn, 1) := by decide +kernel
theorem dX2_readsPeriod_39 : decode cX2_readsPeriod 39 = .ok (.aload_n 0, 1) := by decide +kernel
theorem dX2_readsPeriod_40 : decode cX2_readsPeriod 40 = .ok (.iload_n 2, 1) := by decide +kernel
theorem dX2_readsPeriod_41 : decode cX2_readsPeriod 41 = .ok (.putfield 15, 3) := by decide +kernel
theorem dX2_readsPeriod_44 : decode cX2_readsPeriod 44 = .ok (.iconst 1, 1) := by decide +kernel
theorem dX2_readsPeriod_45 : decode cX2_readsPeriod 45 = .ok (.ireturn, 1) := by decide +kernel
theorem dX2_withDigit_0 : decode cX2_withDigit 0 = .ok (.iload_n 1, 1) := by decide +kernel
theorem dX2_withDigit_1 : decode cX2_withDigit 1 = .ok (.bipush 48, 2) := by decide +kernel
theorem dX2_withDigit_3 : decode cX2_withDigit 3 = .ok (.if_icmp .lt 9, 3) := by decide +kernel
theorem dX2_withDigit_6 : decode cX2_withDigit 6 = .ok (.iload_n 1, 1) := by decide +kernel
theorem dX2_withDigit_7 : decode cX2_withDigit 7 = .ok (.bipush 57, 2) := by decide +kernel
theorem dX2_withDigit_9 : decode cX2_withDigit 9 = .ok (.if_icmp .le 5, 3) := by decide +kernel
theorem dX2_withDigit_12 : decode cX2_withDigit 12 = .ok (.iconst (-1), 1) := by decide +kernel
theorem dX2_withDigit_13 : decode cX2_withDigit 13 = .ok (.ireturn, 1) := by decide +kernel
theorem dX2_withDigit_14 : decode cX2_withDigit 14 = .ok (.iload_n 0, 1) := by decide +kernel
theorem dX2_withDigit_15 : decode cX2_withDigit 15 = .ok (.bipush 10, 2) := by decide +kernel
theorem dX2_withDigit_17 : decode cX2_withDigit 17 = .ok (.imul, 1) := by decide +kernel
theorem dX2_withDigit_18 : decode cX2_withDigit 18 = .ok (.iload_n 1, 1) := by decide +kernel
theorem dX2_withDigit_19 : decode cX2_withDigit 19 = .ok (.bipush 48, 2) := by decide +kernel
theorem dX2_withDigit_21 : decode cX2_withDigit 21 = .ok (.isub, 1) := by decide +kernel
theorem dX2_withDigit_22 : decode cX2_withDigit 22 = .ok (.iadd, 1) := by decide +kernel
theorem dX2_withDigit_23 : decode cX2_withDigit 23 = .ok (.istore_n 3, 1) := by decide +kernel
theorem dX2_withDigit_24 : decode cX2_withDigit 24 = .ok (.iload_n 3, 1) := by decide +kernel
theorem dX2_withDigit_25 : decode cX2_withDigit 25 = .ok (.iconst 1, 1) := by decide +kernel
theorem dX2_withDigit_26 : decode cX2_withDigit 26 = .ok (.if_icmp .lt 8, 3) := by decide +kernel
theorem dX2_withDigit_29 : decode cX2_withDigit 29 = .ok (.iload_n 3, 1) := by decide +kernel
theorem dX2_withDigit_30 : decode cX2_withDigit 30 = .ok (.iload_n 2, 1) := by decide +kernel
theorem dX2_withDigit_31 : decode cX2_withDigit 31 = .ok (.if_icmp .le 7, 3) := by decide +kernel
theorem dX2_withDigit_34 : decode cX2_withDigit 34 = .ok (.iconst (-1), 1) := by decide +kernel
theorem dX2_withDigit_35 : decode cX2_withDigit 35 = .ok (.goto 4, 3) := by decide +kernel
theorem dX2_withDigit_38 : decode cX2_withDigit 38 = .ok (.iload_n 3, 1) := by decide +kernel
theorem dX2_withDigit_39 : decode cX2_withDigit 39 = .ok (.ireturn, 1) := by decide +kernel
theorem dX3_init_0 : decode cX3_init 0 = .ok (.aload_n 0, 1) := by decide +kernel
theorem dX3_init_1 : decode cX3_init 1 = .ok (.invokespecial 3, 3) := by decide +kernel
theorem dX3_init_4 : decode cX3_init 4 = .ok (.aload_n 0, 1) := by decide +kernel
theorem dX3_init_5 : decode cX3_init 5 = .ok (.new 9, 3) := by decide +kernel
theorem dX3_init_8 : decode cX3_init 8 = .ok (.dup, 1) := by decide +kernel
theorem dX3_init_9 : decode cX3_init 9 = .ok (.invokespecial 11, 3) := by decide +kernel
theorem dX3_init_12 : decode cX3_init 12 = .ok (.putfield 12, 3) := by decide +kernel
theorem dX3_init_15 : decode cX3_init 15 = .ok (.aload_n 0, 1) := by decide +kernel
theorem dX3_init_16 : decode cX3_init 16 = .ok (.new 18, 3) := by decide +kernel
theorem dX3_init_19 : decode cX3_init 19 = .ok (.dup, 1) := by decide +kernel
theorem dX3_init_20 : decode cX3_init 20 = .ok (.invokespecial 20, 3) := by decide +kernel
theorem dX3_init_23 : decode cX3_init 23 = .ok (.putfield 21, 3) := by decide +kernel
theorem dX3_init_26 : decode cX3_init 26 = .ok (.aload_n 0, 1) := by decide +kernel
theorem dX3_init_27 : decode cX3_init 27 = .ok (.new 25, 3) := by decide +kernel
theorem dX3_init_30 : decode cX3_init 30 = .ok (.dup, 1) := by decide +kernel
theorem dX3_init_31 : decode cX3_init 31 = .ok (.invokespecial 27, 3) := by decide +kernel
theorem dX3_init_34 : decode cX3_init 34 = .ok (.putfield 28, 3) := by decide +kernel
theorem dX3_init_37 : decode cX3_init 37 = .ok (.aload_n 0, 1) := by decide +kernel
theorem dX3_init_38 : decode cX3_init 38 = .ok (.bipush 6, 2) := by decide +kernel
theorem dX3_init_40 : decode cX3_init 40 = .ok (.newarray .int, 2) := by decide +kernel
theorem dX3_init_42 : decode cX3_init 42 = .ok (.putfield 32, 3) := by decide +kernel
theorem dX3_init_45 : decode cX3_init 45 = .ok (.getstatic 36, 3) := by decide +kernel
theorem dX3_init_48 : decode cX3_init 48 = .ok (.iconst 0, 1) := by decide +kernel
theorem dX3_init_49 : decode cX3_init 49 = .ok (.aload_n 0, 1) := by decide +kernel
theorem dX3_init_50 : decode cX3_init 50 = .ok (.getfield 32, 3) := by decide +kernel
theorem dX3_init_53 : decode cX3_init 53 = .ok (.iconst 0, 1) := by decide +kernel
theorem dX3_init_54 : decode cX3_init 54 = .ok (.bipush 6, 2) := by decide +kernel
theorem dX3_init_56 : decode cX3_init 56 = .ok (.invokestatic 39, 3) := by decide +kernel
theorem dX3_init_59 : decode cX3_init 59 = .ok (.aload_n 0, 1) := by decide +kernel
theorem dX3_init_60 : decode cX3_init 60 = .ok (.getstatic 36, 3) := by decide +kernel
theorem dX3_init_63 : decode cX3_init 63 = .ok (.iconst 0, 1) := by decide +kernel
theorem dX3_init_64 : decode cX3_init 64 = .ok (.iaload, 1) := by decide +kernel
theorem dX3_init_65 : decode cX3_init 65 = .ok (.putfield 45, 3) := by decide +kernel
theorem dX3_init_68 : decode cX3_init 68 = .ok (.return_, 1) := by decide +kernel
theorem dX3_copyFrom_0 : decode cX3_copyFrom 0 = .ok (.aload_n 0, 1) := by decide +kernel
theorem dX3_copyFrom_1 : decode cX3_copyFrom 1 = .ok (.getfield 12, 3) := by decide +kernel
theorem dX3_copyFrom_4 : decode cX3_copyFrom 4 = .ok (.aload_n 1, 1) := by decide +kernel
theorem dX3_copyFrom_5 : decode cX3_copyFrom 5 = .ok (.getfield 12, 3) := by decide +kernel
theorem dX3_copyFrom_8 : decode cX3_copyFrom 8 = .ok (.invokevirtual 49, 3) := by decide +kernel
theorem dX3_copyFrom_11 : decode cX3_copyFrom 11 = .ok (.aload_n 0, 1) := by decide +kernel
theorem dX3_copyFrom_12 : decode cX3_copyFrom 12 = .ok (.getfield 21, 3) := by decide +kernel
theorem dX3_copyFrom_15 : decode cX3_copyFrom 15 = .ok (.aload_n 1, 1) := by decide +kernel
theorem dX3_copyFrom_16 : decode cX3_copyFrom 16 = .ok (.getfield 21, 3) := by decide +kernel
theorem dX3_copyFrom_19 : decode cX3_copyFrom 19 = .ok (.invokevirtual 53, 3) := by decide +kernel
theorem dX3_copyFrom_22 : decode cX3_copyFrom 22 = .ok (.aload_n 0, 1) := by decide +kernel
theorem dX3_copyFrom_23 : decode cX3_copyFrom 23 = .ok (.getfield 28, 3) := by decide +kernel
theorem dX3_copyFrom_26 : decode cX3_copyFrom 26 = .ok (.aload_n 1, 1) := by decide +kernel
theorem dX3_copyFrom_27 : decode cX3_copyFrom 27 = .ok (.getfield 28, 3) := by decide +kernel
theorem dX3_copyFrom_30 : decode cX3_copyFrom 30 = .ok (.invokevirtual 56, 3) := by decide +kernel
theorem dX3_copyFrom_33 : decode cX3_copyFrom 33 = .ok (.aload_n 1, 1) := by decide +kernel
theorem dX3_copyFrom_34 : decode cX3_copyFrom 34 = .ok (.getfield 32, 3) := by decide +kernel
theorem dX3_copyFrom_37 : decode cX3_copyFrom 37 = .ok (.iconst 0, 1) := by decide +kernel
theorem dX3_copyFrom_38 : decode cX3_copyFrom 38 = .ok (.aload_n 0, 1) := by decide +kernel
theorem dX3_copyFrom_39 : decode cX3_copyFrom 39 = .ok (.getfield 32, 3) := by decide +kernel
theorem dX3_copyFrom_42 : decode cX3_copyFrom 42 = .ok (.iconst 0, 1) := by decide +kernel
theorem dX3_copyFrom_43 : decode cX3_copyFrom 43 = .ok (.bipush 6, 2) := by decide +kernel
theorem dX3_copyFrom_45 : decode cX3_copyFrom 45 = .ok (.invokestatic 39, 3) := by decide +kernel
theorem dX3_copyFrom_48 : decode cX3_copyFrom 48 = .ok (.aload_n 0, 1) := by decide +kernel
theorem dX3_copyFrom_49 : decode cX3_copyFrom 49 = .ok (.aload_n 1, 1) := by decide +kernel
theorem dX3_copyFrom_50 : decode cX3_copyFrom 50 = .ok (.getfield 59, 3) := by decide +kernel
theorem dX3_copyFrom_53 : decode cX3_copyFrom 53 = .ok (.putfield 59, 3) := by decide +kernel
theorem dX3_copyFrom_56 : decode cX3_copyFrom 56 = .ok (.aload_n 0, 1) := by decide +kernel
theorem dX3_copyFrom_57 : decode cX3_copyFrom 57 = .ok (.aload_n 1, 1) := by decide +kernel
theorem dX3_copyFrom_58 : decode cX3_copyFrom 58 = .ok (.getfield 62, 3) := by decide +kernel
theorem dX3_copyFrom_61 : decode cX3_copyFrom 61 = .ok (.putfield 62, 3) := by decide +kernel
theorem dX3_copyFrom_64 : decode cX3_copyFrom 64 = .ok (.aload_n 0, 1) := by decide +kernel
theorem dX3_copyFrom_65 : decode cX3_copyFrom 65 = .ok (.aload_n 1, 1) := by decide +kernel
theorem dX3_copyFrom_66 : decode cX3_copyFrom 66 = .ok (.getfield 45, 3) := by decide +kernel
theorem dX3_copyFrom_69 : decode cX3_copyFrom 69 = .ok (.putfield 45, 3) := by decide +kernel
theorem dX3_copyFrom_72 : decode cX3_copyFrom 72 = .ok (.aload_n 0, 1) := by decide +kernel
theorem dX3_copyFrom_73 : decode cX3_copyFrom 73 = .ok (.aload_n 1, 1) := by decide +kernel
theorem dX3_copyFrom_74 : decode cX3_copyFrom 74 = .ok (.getfield 65, 3) := by decide +kernel
theorem dX3_copyFrom_77 : decode cX3_copyFrom 77 = .ok (.putfield 65, 3) := by decide +kernel
theorem dX3_copyFrom_80 : decode cX3_copyFrom 80 = .ok (.aload_n 0, 1) := by decide +kernel
theorem dX3_copyFrom_81 : decode cX3_copyFrom 81 = .ok (.aload_n 1, 1) := by decide +kernel
theorem dX3_copyFrom_82 : decode cX3_copyFrom 82 = .ok (.getfield 68, 3) := by decide +kernel
theorem dX3_copyFrom_85 : decode cX3_copyFrom 85 = .ok (.putfield 68, 3) := by decide +kernel
theorem dX3_copyFrom_88 : decode cX3_copyFrom 88 = .ok (.aload_n 0, 1) := by decide +kernel
theorem dX3_copyFrom_89 : decode cX3_copyFrom 89 = .ok (.aload_n 1, 1) := by decide +kernel
theorem dX3_copyFrom_90 : decode cX3_copyFrom 90 = .ok (.getfield 71, 3) := by decide +kernel
theorem dX3_copyFrom_93 : decode cX3_copyFrom 93 = .ok (.putfield 71, 3) := by decide +kernel
theorem dX3_copyFrom_96 : decode cX3_copyFrom 96 = .ok (.aload_n 0, 1) := by decide +kernel
theorem dX3_copyFrom_97 : decode cX3_copyFrom 97 = .ok (.aload_n 1, 1) := by decide +kernel
theorem dX3_copyFrom_98 : decode cX3_copyFrom 98 = .ok (.getfield 74, 3) := by decide +kernel
theorem dX3_copyFrom_101 : decode cX3_copyFrom 101 = .ok (.putfield 74, 3) := by decide +kernel
theorem dX3_copyFrom_104 : decode cX3_copyFrom 104 = .ok (.aload_n 0, 1) := by decide +kernel
theorem dX3_copyFrom_105 : decode cX3_copyFrom 105 = .ok (.aload_n 1, 1) := by decide +kernel
theorem dX3_copyFrom_106 : decode cX3_copyFrom 106 = .ok (.getfield 77, 3) := by decide +kernel
theorem dX3_copyFrom_109 : decode cX3_copyFrom 109 = .ok (.putfield 77, 3) := by decide +kernel
theorem dX3_copyFrom_112 : decode cX3_copyFrom 112 = .ok (.aload_n 0, 1) := by decide +kernel
theorem dX3_copyFrom_113 : decode cX3_copyFrom 113 = .ok (.aload_n 1, 1) := by decide +kernel
theorem dX3_copyFrom_114 : decode cX3_copyFrom 114 = .ok (.getfield 80, 3) := by decide +kernel
theorem dX3_copyFrom_117 : decode cX3_copyFrom 117 = .ok (.putfield 80, 3) := by decide +kernel
theorem dX3_copyFrom_120 : decode cX3_copyFrom 120 = .ok (.aload_n 0, 1) := by decide +kernel
theorem dX3_copyFrom_121 : decode cX3_copyFrom 121 = .ok (.aload_n 1, 1) := by decide +kernel
theorem dX3_copyFrom_122 : decode cX3_copyFrom 122 = .ok (.getfield 83, 3) := by decide +kernel
theorem dX3_copyFrom_125 : decode cX3_copyFrom 125 = .ok (.putfield 83, 3) := by decide +kernel
theorem dX3_copyFrom_128 : decode cX3_copyFrom 128 = .ok (.aload_n 0, 1) := by decide +kernel
theorem dX3_copyFrom_129 : decode cX3_copyFrom 129 = .ok (.aload_n 1, 1) := by decide +kernel
theorem dX3_copyFrom_130 : decode cX3_copyFrom 130 = .ok (.getfield 86, 3) := by decide +kernel
theorem dX3_copyFrom_133 : decode cX3_copyFrom 133 = .ok (.putfield 86, 3) := by decide +kernel
theorem dX3_copyFrom_136 : decode cX3_copyFrom 136 = .ok (.aload_n 0, 1) := by decide +kernel
theorem dX3_copyFrom_137 : decode cX3_copyFrom 137 = .ok (.aload_n 1, 1) := by decide +kernel
theorem dX3_copyFrom_138 : decode cX3_copyFrom 138 = .ok (.getfield 89, 3) := by decide +kernel
theorem dX3_copyFrom_141 : decode cX3_copyFrom 141 = .ok (.putfield 89, 3) := by decide +kernel
theorem dX3_copyFrom_144 : decode cX3_copyFrom 144 = .ok (.return_, 1) := by decide +kernel
theorem dX3_isSilent_0 : decode cX3_isSilent 0 = .ok (.aload_n 0, 1) := by decide +kernel
theorem dX3_isSilent_1 : decode cX3_isSilent 1 = .ok (.getfield 32, 3) := by decide +kernel
theorem dX3_isSilent_4 : decode cX3_isSilent 4 = .ok (.iconst 4, 1) := by decide +kernel
theorem dX3_isSilent_5 : decode cX3_isSilent 5 = .ok (.iaload, 1) := by decide +kernel
theorem dX3_isSilent_6 : decode cX3_isSilent 6 = .ok (.istore_n 1, 1) := by decide +kernel
theorem dX3_isSilent_7 : decode cX3_isSilent 7 = .ok (.iload_n 1, 1) := by decide +kernel
theorem dX3_isSilent_8 : decode cX3_isSilent 8 = .ok (.ifCond .eq 27, 3) := by decide +kernel
theorem dX3_isSilent_11 : decode cX3_isSilent 11 = .ok (.aload_n 0, 1) := by decide +kernel
theorem dX3_isSilent_12 : decode cX3_isSilent 12 = .ok (.invokevirtual 92, 3) := by decide +kernel
theorem dX3_isSilent_15 : decode cX3_isSilent 15 = .ok (.iload_n 1, 1) := by decide +kernel
theorem dX3_isSilent_16 : decode cX3_isSilent 16 = .ok (.isub, 1) := by decide +kernel
theorem dX3_isSilent_17 : decode cX3_isSilent 17 = .ok (.bipush 12, 2) := by decide +kernel
theorem dX3_isSilent_19 : decode cX3_isSilent 19 = .ok (.invokestatic 96, 3) := by decide +kernel
theorem dX3_isSilent_22 : decode cX3_isSilent 22 = .ok (.aload_n 0, 1) := by decide +kernel
theorem dX3_isSilent_23 : decode cX3_isSilent 23 = .ok (.getfield 32, 3) := by decide +kernel
theorem dX3_isSilent_26 : decode cX3_isSilent 26 = .ok (.iconst 5, 1) := by decide +kernel
theorem dX3_isSilent_27 : decode cX3_isSilent 27 = .ok (.iaload, 1) := by decide +kernel
theorem dX3_isSilent_28 : decode cX3_isSilent 28 = .ok (.if_icmp .ge 7, 3) := by decide +kernel
theorem dX3_isSilent_31 : decode cX3_isSilent 31 = .ok (.iconst 1, 1) := by decide +kernel
theorem dX3_isSilent_32 : decode cX3_isSilent 32 = .ok (.goto 4, 3) := by decide +kernel
theorem dX3_isSilent_35 : decode cX3_isSilent 35 = .ok (.iconst 0, 1) := by decide +kernel
theorem dX3_isSilent_36 : decode cX3_isSilent 36 = .ok (.ireturn, 1) := by decide +kernel
theorem dX3_hourShown_0 : decode cX3_hourShown 0 = .ok (.aload_n 0, 1) := by decide +kernel
theorem dX3_hourShown_1 : decode cX3_hourShown 1 = .ok (.getfield 62, 3) := by decide +kernel
theorem dX3_hourShown_4 : decode cX3_hourShown 4 = .ok (.bipush 60, 2) := by decide +kernel
theorem dX3_hourShown_6 : decode cX3_hourShown 6 = .ok (.idiv, 1) := by decide +kernel
theorem dX3_hourShown_7 : decode cX3_hourShown 7 = .ok (.istore_n 1, 1) := by decide +kernel
theorem dX3_hourShown_8 : decode cX3_hourShown 8 = .ok (.iload_n 1, 1) := by decide +kernel
theorem dX3_hourShown_9 : decode cX3_hourShown 9 = .ok (.ifCond .ne 8, 3) := by decide +kernel
theorem dX3_hourShown_12 : decode cX3_hourShown 12 = .ok (.bipush 12, 2) := by decide +kernel
theorem dX3_hourShown_14 : decode cX3_hourShown 14 = .ok (.goto 4, 3) := by decide +kernel
theorem dX3_hourShown_17 : decode cX3_hourShown 17 = .ok (.iload_n 1, 1) := by decide +kernel
theorem dX3_hourShown_18 : decode cX3_hourShown 18 = .ok (.ireturn, 1) := by decide +kernel
theorem dX3_passMinutes_0 : decode cX3_passMinutes 0 = .ok (.iconst 0, 1) := by decide +kernel
theorem dX3_passMinutes_1 : decode cX3_passMinutes 1 = .ok (.istore_n 2, 1) := by decide +kernel
theorem dX3_passMinutes_2 : decode cX3_passMinutes 2 = .ok (.iload_n 2, 1) := by decide +kernel
theorem dX3_passMinutes_3 : decode cX3_passMinutes 3 = .ok (.iload_n 1, 1) := by decide +kernel
theorem dX3_passMinutes_4 : decode cX3_passMinutes 4 = .ok (.if_icmp .ge 13, 3) := by decide +kernel
theorem dX3_passMinutes_7 : decode cX3_passMinutes 7 = .ok (.aload_n 0, 1) := by decide +kernel
theorem dX3_passMinutes_8 : decode cX3_passMinutes 8 = .ok (.invokevirtual 102, 3) := by decide +kernel
theorem dX3_passMinutes_11 : decode cX3_passMinutes 11 = .ok (.iinc 2 1, 3) := by decide +kernel
theorem dX3_passMinutes_14 : decode cX3_passMinutes 14 = .ok (.goto (-12), 3) := by decide +kernel
theorem dX3_passMinutes_17 : decode cX3_passMinutes 17 = .ok (.return_, 1) := by decide +kernel
theorem dX3_passMinute_0 : decode cX3_passMinute 0 = .ok (.aload_n 0, 1) := by decide +kernel
theorem dX3_passMinute_1 : decode cX3_passMinute 1 = .ok (.invokevirtual 105, 3) := by decide +kernel
theorem dX3_passMinute_4 : decode cX3_passMinute 4 = .ok (.aload_n 0, 1) := by decide +kernel
theorem dX3_passMinute_5 : decode cX3_passMinute 5 = .ok (.invokevirtual 108, 3) := by decide +kernel
theorem dX3_passMinute_8 : decode cX3_passMinute 8 = .ok (.aload_n 0, 1) := by decide +kernel
theorem dX3_passMinute_9 : decode cX3_passMinute 9 = .ok (.dup, 1) := by decide +kernel
theorem dX3_passMinute_10 : decode cX3_passMinute 10 = .ok (.getfield 59, 3) := by decide +kernel
theorem dX3_passMinute_13 : decode cX3_passMinute 13 = .ok (.iconst 1, 1) := by decide +kernel
theorem dX3_passMinute_14 : decode cX3_passMinute 14 = .ok (.iadd, 1) := by decide +kernel
theorem dX3_passMinute_15 : decode cX3_passMinute 15 = .ok (.putfield 59, 3) := by decide +kernel
theorem dX3_passMinute_18 : decode cX3_passMinute 18 = .ok (.return_, 1) := by decide +kernel
theorem dX3_passUpToDebts_0 : decode cX3_passUpToDebts 0 = .ok (.aload_n 0, 1) := by decide +kernel
theorem dX3_passUpToDebts_1 : decode cX3_passUpToDebts 1 = .ok (.invokevirtual 111, 3) := by decide +kernel
theorem dX3_passUpToDebts_4 : decode cX3_passUpToDebts 4 = .ok (.aload_n 0, 1) := by decide +kernel
theorem dX3_passUpToDebts_5 : decode cX3_passUpToDebts 5 = .ok (.invokevirtual 114, 3) := by decide +kernel
theorem dX3_passUpToDebts_8 : decode cX3_passUpToDebts 8 = .ok (.aload_n 0, 1) := by decide +kernel
theorem dX3_passUpToDebts_9 : decode cX3_passUpToDebts 9 = .ok (.invokevirtual 117, 3) := by decide +kernel
theorem dX3_passUpToDebts_12 : decode cX3_passUpToDebts 12 = .ok (.ifCond .eq 11, 3) := by decide +kernel
theorem dX3_passUpToDebts_15 : decode cX3_passUpToDebts 15 = .ok (.aload_n 0, 1) := by decide +kernel
theorem dX3_passUpToDebts_16 : decode cX3_passUpToDebts 16 = .ok (.invokevirtual 121, 3) := by decide +kernel
theorem dX3_passUpToDebts_19 : decode cX3_passUpToDebts 19 = .ok (.aload_n 0, 1) := by decide +kernel
theorem dX3_passUpToDebts_20 : decode cX3_passUpToDebts 20 = .ok (.invokevirtual 124, 3) := by decide +kernel
theorem dX3_passUpToDebts_23 : decode cX3_passUpToDebts 23 = .ok (.return_, 1) := by decide +kernel
theorem dX3_letWinderCome_0 : decode cX3_letWinderCome 0 = .ok (.aload_n 0, 1) := by decide +kernel
theorem dX3_letWinderCome_1 : decode cX3_letWinderCome 1 = .ok (.getfield 21, 3) := by decide +kernel
theorem dX3_letWinderCome_4 : decode cX3_letWinderCome 4 = .ok (.aload_n 0, 1) := by decide +kernel
theorem dX3_letWinderCome_5 : decode cX3_letWinderCome 5 = .ok (.getfield 59, 3) := by decide +kernel
theorem dX3_letWinderCome_8 : decode cX3_letWinderCome 8 = .ok (.aload_n 0, 1) := by decide +kernel
theorem dX3_letWinderCome_9 : decode cX3_letWinderCome 9 = .ok (.invokevirtual 127, 3) := by decide +kernel
theorem dX3_letWinderCome_12 : decode cX3_letWinderCome 12 = .ok (.invokevirtual 130, 3) := by decide +kernel
theorem dX3_letWinderCome_15 : decode cX3_letWinderCome 15 = .ok (.istore_n 1, 1) := by decide +kernel
theorem dX3_letWinderCome_16 : decode cX3_letWinderCome 16 = .ok (.iload_n 1, 1) := by decide +kernel
theorem dX3_letWinderCome_17 : decode cX3_letWinderCome 17 = .ok (.ifCond .lt 9, 3) := by decide +kernel
theorem dX3_letWinderCome_20 : decode cX3_letWinderCome 20 = .ok (.iload_n 1, 1) := by decide +kernel
theorem dX3_letWinderCome_21 : decode cX3_letWinderCome 21 = .ok (.bipush 6, 2) := by decide +kernel
theorem dX3_letWinderCome_23 : decode cX3_letWinderCome 23 = .ok (.if_icmp .lt 4, 3) := by decide +kernel
theorem dX3_letWinderCome_26 : decode cX3_letWinderCome 26 = .ok (.return_, 1) := by decide +kernel
theorem dX3_letWinderCome_27 : decode cX3_letWinderCome 27 = .ok (.aload_n 0, 1) := by decide +kernel
theorem dX3_letWinderCome_28 : decode cX3_letWinderCome 28 = .ok (.getfield 12, 3) := by decide +kernel
theorem dX3_letWinderCome_31 : decode cX3_letWinderCome 31 = .ok (.aload_n 0, 1) := by decide +kernel
theorem dX3_letWinderCome_32 : decode cX3_letWinderCome 32 = .ok (.getfield 21, 3) := by decide +kernel
theorem dX3_letWinderCome_35 : decode cX3_letWinderCome 35 = .ok (.getfield 134, 3) := by decide +kernel
theorem dX3_letWinderCome_38 : decode cX3_letWinderCome 38 = .ok (.iload_n 1, 1) := by decide +kernel
theorem dX3_letWinderCome_39 : decode cX3_letWinderCome 39 = .ok (.iaload, 1) := by decide +kernel
theorem dX3_letWinderCome_40 : decode cX3_letWinderCome 40 = .ok (.aload_n 0, 1) := by decide +kernel
theorem dX3_letWinderCome_41 : decode cX3_letWinderCome 41 = .ok (.getfield 21, 3) := by decide +kernel
theorem dX3_letWinderCome_44 : decode cX3_letWinderCome 44 = .ok (.getfield 137, 3) := by decide +kernel
theorem dX3_letWinderCome_47 : decode cX3_letWinderCome 47 = .ok (.iload_n 1, 1) := by decide +kernel
theorem dX3_letWinderCome_48 : decode cX3_letWinderCome 48 = .ok (.iaload, 1) := by decide +kernel
theorem dX3_letWinderCome_49 : decode cX3_letWinderCome 49 = .ok (.invokevirtual 140, 3) := by decide +kernel
theorem dX3_letWinderCome_52 : decode cX3_letWinderCome 52 = .ok (.pop, 1) := by decide +kernel
theorem dX3_letWinderCome_53 : decode cX3_letWinderCome 53 = .ok (.aload_n 0, 1) := by decide +kernel
theorem dX3_letWinderCome_54 : decode cX3_letWinderCome 54 = .ok (.getfield 21, 3) := by decide +kernel
theorem dX3_letWinderCome_57 : decode cX3_letWinderCome 57 = .ok (.getfield 143, 3) := by decide +kernel
theorem dX3_letWinderCome_60 : decode cX3_letWinderCome 60 = .ok (.iload_n 1, 1) := by decide +kernel
theorem dX3_letWinderCome_61 : decode cX3_letWinderCome 61 = .ok (.dup2, 1) := by decide +kernel
theorem dX3_letWinderCome_62 : decode cX3_letWinderCome 62 = .ok (.iaload, 1) := by decide +kernel
theorem dX3_letWinderCome_63 : decode cX3_letWinderCome 63 = .ok (.iconst 1, 1) := by decide +kernel
theorem dX3_letWinderCome_64 : decode cX3_letWinderCome 64 = .ok (.iadd, 1) := by decide +kernel
theorem dX3_letWinderCome_65 : decode cX3_letWinderCome 65 = .ok (.iastore, 1) := by decide +kernel
theorem dX3_letWinderCome_66 : decode cX3_letWinderCome 66 = .ok (.aload_n 0, 1) := by decide +kernel
theorem dX3_letWinderCome_67 : decode cX3_letWinderCome 67 = .ok (.getfield 21, 3) := by decide +kernel
theorem dX3_letWinderCome_70 : decode cX3_letWinderCome 70 = .ok (.getfield 146, 3) := by decide +kernel
theorem dX3_letWinderCome_73 : decode cX3_letWinderCome 73 = .ok (.iload_n 1, 1) := by decide +kernel
theorem dX3_letWinderCome_74 : decode cX3_letWinderCome 74 = .ok (.aload_n 0, 1) := by decide +kernel
theorem dX3_letWinderCome_75 : decode cX3_letWinderCome 75 = .ok (.getfield 59, 3) := by decide +kernel
theorem dX3_letWinderCome_78 : decode cX3_letWinderCome 78 = .ok (.aload_n 0, 1) := by decide +kernel
theorem dX3_letWinderCome_79 : decode cX3_letWinderCome 79 = .ok (.getfield 21, 3) := by decide +kernel
theorem dX3_letWinderCome_82 : decode cX3_letWinderCome 82 = .ok (.getfield 149, 3) := by decide +kernel
theorem dX3_letWinderCome_85 : decode cX3_letWinderCome 85 = .ok (.iload_n 1, 1) := by decide +kernel
theorem dX3_letWinderCome_86 : decode cX3_letWinderCome 86 = .ok (.iaload, 1) := by decide +kernel
theorem dX3_letWinderCome_87 : decode cX3_letWinderCome 87 = .ok (.iadd, 1) := by decide +kernel
theorem dX3_letWinderCome_88 : decode cX3_letWinderCome 88 = .ok (.iastore, 1) := by decide +kernel
theorem dX3_letWinderCome_89 : decode cX3_letWinderCome 89 = .ok (.return_, 1) := by decide +kernel
theorem dX3_areStrikersKeptOut_0 : decode cX3_areStrikersKeptOut 0 = .ok (.aload_n 0, 1) := by decide +kernel
theorem dX3_areStrikersKeptOut_1 : decode cX3_areStrikersKeptOut 1 = .ok (.getfield 28, 3) := by decide +kernel
theorem dX3_areStrikersKeptOut_4 : decode cX3_areStrikersKeptOut 4 = .ok (.getfield 152, 3) := by decide +kernel
theorem dX3_areStrikersKeptOut_7 : decode cX3_areStrikersKeptOut 7 = .ok (.ifCond .le 19, 3) := by decide +kernel
theorem dX3_areStrikersKeptOut_10 : decode cX3_areStrikersKeptOut 10 = .ok (.aload_n 0, 1) := by decide +kernel
theorem dX3_areStrikersKeptOut_11 : decode cX3_areStrikersKeptOut 11 = .ok (.getfield 12, 3) := by decide +kernel
theorem dX3_areStrikersKeptOut_14 : decode cX3_areStrikersKeptOut 14 = .ok (.getfield 155, 3) := by decide +kernel
theorem dX3_areStrikersKeptOut_17 : decode cX3_areStrikersKeptOut 17 = .ok (.iconst 1, 1) := by decide +kernel
theorem dX3_areStrikersKeptOut_18 : decode cX3_areStrikersKeptOut 18 = .ok (.iaload, 1) := by decide +kernel
theorem dX3_areStrikersKeptOut_19 : decode cX3_areStrikersKeptOut 19 = .ok (.ifCond .eq 7, 3) := by decide +kernel
theorem dX3_areStrikersKeptOut_22 : decode cX3_areStrikersKeptOut 22 = .ok (.iconst 1, 1) := by decide +kernel
theorem dX3_areStrikersKeptOut_23 : decode cX3_areStrikersKeptOut 23 = .ok (.goto 4, 3) := by decide +kernel
theorem dX3_areStrikersKeptOut_26 : decode cX3_areStrikersKeptOut 26 = .ok (.iconst 0, 1) := by decide +kernel
theorem dX3_areStrikersKeptOut_27 : decode cX3_areStrikersKeptOut 27 = .ok (.ireturn, 1) := by decide +kernel
theorem dX3_rewind_0 : decode cX3_rewind 0 = .ok (.aload_n 0, 1) := by decide +kernel
theorem dX3_rewind_1 : decode cX3_rewind 1 = .ok (.getfield 32, 3) := by decide +kernel
theorem dX3_rewind_4 : decode cX3_rewind 4 = .ok (.iconst 0, 1) := by decide +kernel
theorem dX3_rewind_5 : decode cX3_rewind 5 = .ok (.iaload, 1) := by decide +kernel
theorem dX3_rewind_6 : decode cX3_rewind 6 = .ok (.aload_n 0, 1) := by decide +kernel
theorem dX3_rewind_7 : decode cX3_rewind 7 = .ok (.getfield 45, 3) := by decide +kernel
theorem dX3_rewind_10 : decode cX3_rewind 10 = .ok (.isub, 1) := by decide +kernel
theorem dX3_rewind_11 : decode cX3_rewind 11 = .ok (.istore_n 1, 1) := by decide +kernel
theorem dX3_rewind_12 : decode cX3_rewind 12 = .ok (.aload_n 0, 1) := by decide +kernel
theorem dX3_rewind_13 : decode cX3_rewind 13 = .ok (.getfield 12, 3) := by decide +kernel
theorem dX3_rewind_16 : decode cX3_rewind 16 = .ok (.getfield 155, 3) := by decide +kernel
theorem dX3_rewind_19 : decode cX3_rewind 19 = .ok (.iconst 0, 1) := by decide +kernel
theorem dX3_rewind_20 : decode cX3_rewind 20 = .ok (.iaload, 1) := by decide +kernel
theorem dX3_rewind_21 : decode cX3_rewind 21 = .ok (.istore_n 2, 1) := by decide +kernel
theorem dX3_rewind_22 : decode cX3_rewind 22 = .ok (.aload_n 0, 1) := by decide +kernel
theorem dX3_rewind_23 : decode cX3_rewind 23 = .ok (.getfield 45, 3) := by decide +kernel
theorem dX3_rewind_26 : decode cX3_rewind 26 = .ok (.aload_n 0, 1) := by decide +kernel
theorem dX3_rewind_27 : decode cX3_rewind 27 = .ok (.getfield 32, 3) := by decide +kernel
theorem dX3_rewind_30 : decode cX3_rewind 30 = .ok (.iconst 1, 1) := by decide +kernel
theorem dX3_rewind_31 : decode cX3_rewind 31 = .ok (.iaload, 1) := by decide +kernel
theorem dX3_rewind_32 : decode cX3_rewind 32 = .ok (.if_icmp .gt 11, 3) := by decide +kernel
theorem dX3_rewind_35 : decode cX3_rewind 35 = .ok (.iload_n 1, 1) := by decide +kernel
theorem dX3_rewind_36 : decode cX3_rewind 36 = .ok (.ifCond .le 7, 3) := by decide +kernel
theorem dX3_rewind_39 : decode cX3_rewind 39 = .ok (.iload_n 2, 1) := by decide +kernel
theorem dX3_rewind_40 : decode cX3_rewind 40 = .ok (.ifCond .ne 4, 3) := by decide +kernel
theorem dX3_rewind_43 : decode cX3_rewind 43 = .ok (.return_, 1) := by decide +kernel
theorem dX3_rewind_44 : decode cX3_rewind 44 = .ok (.iload_n 1, 1) := by decide +kernel
theorem dX3_rewind_45 : decode cX3_rewind 45 = .ok (.iload_n 2, 1) := by decide +kernel
theorem dX3_rewind_46 : decode cX3_rewind 46 = .ok (.invokestatic 158, 3) := by decide +kernel
theorem dX3_rewind_49 : decode cX3_rewind 49 = .ok (.istore_n 3, 1) := by decide +kernel
theorem dX3_rewind_50 : decode cX3_rewind 50 = .ok (.aload_n 0, 1) := by decide +kernel
theorem dX3_rewind_51 : decode cX3_rewind 51 = .ok (.dup, 1) := by decide +kernel
theorem dX3_rewind_52 : decode cX3_rewind 52 = .ok (.getfield 45, 3) := by decide +kernel
theorem dX3_rewind_55 : decode cX3_rewind 55 = .ok (.iload_n 3, 1) := by decide +kernel
theorem dX3_rewind_56 : decode cX3_rewind 56 = .ok (.iadd, 1) := by decide +kernel
theorem dX3_rewind_57 : decode cX3_rewind 57 = .ok (.putfield 45, 3) := by decide +kernel
theorem dX3_rewind_60 : decode cX3_rewind 60 = .ok (.aload_n 0, 1) := by decide +kernel
theorem dX3_rewind_61 : decode cX3_rewind 61 = .ok (.getfield 12, 3) := by decide +kernel
theorem dX3_rewind_64 : decode cX3_rewind 64 = .ok (.iconst 0, 1) := by decide +kernel
theorem dX3_rewind_65 : decode cX3_rewind 65 = .ok (.iload_n 3, 1) := by decide +kernel
theorem dX3_rewind_66 : decode cX3_rewind 66 = .ok (.invokevirtual 161, 3) := by decide +kernel
theorem dX3_rewind_69 : decode cX3_rewind 69 = .ok (.aload_n 0, 1) := by decide +kernel
theorem dX3_rewind_70 : decode cX3_rewind 70 = .ok (.dup, 1) := by decide +kernel
theorem dX3_rewind_71 : decode cX3_rewind 71 = .ok (.getfield 89, 3) := by decide +kernel
theorem dX3_rewind_74 : decode cX3_rewind 74 = .ok (.iconst 1, 1) := by decide +kernel
theorem dX3_rewind_75 : decode cX3_rewind 75 = .ok (.iadd, 1) := by decide +kernel
theorem dX3_rewind_76 : decode cX3_rewind 76 = .ok (.putfield 89, 3) := by decide +kernel
theorem dX3_rewind_79 : decode cX3_rewind 79 = .ok (.return_, 1) := by decide +kernel
theorem dX3_moveHands_0 : decode cX3_moveHands 0 = .ok (.aload_n 0, 1) := by decide +kernel
theorem dX3_moveHands_1 : decode cX3_moveHands 1 = .ok (.getfield 45, 3) := by decide +kernel
theorem dX3_moveHands_4 : decode cX3_moveHands 4 = .ok (.ifCond .ne 15, 3) := by decide +kernel
theorem dX3_moveHands_7 : decode cX3_moveHands 7 = .ok (.aload_n 0, 1) := by decide +kernel
theorem dX3_moveHands_8 : decode cX3_moveHands 8 = .ok (.dup, 1) := by decide +kernel
theorem dX3_moveHands_9 : decode cX3_moveHands 9 = .ok (.getfield 86, 3) := by decide +kernel
theorem dX3_moveHands_12 : decode cX3_moveHands 12 = .ok (.iconst 1, 1) := by decide +kernel
theorem dX3_moveHands_13 : decode cX3_moveHands 13 = .ok (.iadd, 1) := by decide +kernel
theorem dX3_moveHands_14 : decode cX3_moveHands 14 = .ok (.putfield 86, 3) := by decide +kernel
theorem dX3_moveHands_17 : decode cX3_moveHands 17 = .ok (.iconst 0, 1) := by decide +kernel
theorem dX3_moveHands_18 : decode cX3_moveHands 18 = .ok (.ireturn, 1) := by decide +kernel
theorem dX3_moveHands_19 : decode cX3_moveHands 19 = .ok (.aload_n 0, 1) := by decide +kernel
theorem dX3_moveHands_20 : decode cX3_moveHands 20 = .ok (.dup, 1) := by decide +kernel
theorem dX3_moveHands_21 : decode cX3_moveHands 21 = .ok (.getfield 45, 3) := by decide +kernel
theorem dX3_moveHands_24 : decode cX3_moveHands 24 = .ok (.iconst 1, 1) := by decide +kernel
theorem dX3_moveHands_25 : decode cX3_moveHands 25 = .ok (.isub, 1) := by decide +kernel
theorem dX3_moveHands_26 : decode cX3_moveHands 26 = .ok (.putfield 45, 3) := by decide +kernel
theorem dX3_moveHands_29 : decode cX3_moveHands 29 = .ok (.aload_n 0, 1) := by decide +kernel
theorem dX3_moveHands_30 : decode cX3_moveHands 30 = .ok (.invokevirtual 165, 3) := by decide +kernel
theorem dX3_moveHands_33 : decode cX3_moveHands 33 = .ok (.ifCond .eq 9, 3) := by decide +kernel
theorem dX3_moveHands_36 : decode cX3_moveHands 36 = .ok (.aload_n 0, 1) := by decide +kernel
theorem dX3_moveHands_37 : decode cX3_moveHands 37 = .ok (.invokevirtual 168, 3) := by decide +kernel
theorem dX3_moveHands_40 : decode cX3_moveHands 40 = .ok (.iconst 0, 1) := by decide +kernel
theorem dX3_moveHands_41 : decode cX3_moveHands 41 = .ok (.ireturn, 1) := by decide +kernel
theorem dX3_moveHands_42 : decode cX3_moveHands 42 = .ok (.aload_n 0, 1) := by decide +kernel
theorem dX3_moveHands_43 : decode cX3_moveHands 43 = .ok (.aload_n 0, 1) := by decide +kernel
theorem dX3_moveHands_44 : decode cX3_moveHands 44 = .ok (.getfield 62, 3) := by decide +kernel
theorem dX3_moveHands_47 : decode cX3_moveHands 47 = .ok (.iconst 1, 1) := by decide +kernel
theorem dX3_moveHands_48 : decode cX3_moveHands 48 = .ok (.iadd, 1) := by decide +kernel
theorem dX3_moveHands_49 : decode cX3_moveHands 49 = .ok (.sipush 720, 3) := by decide +kernel
theorem dX3_moveHands_52 : decode cX3_moveHands 52 = .ok (.irem, 1) := by decide +kernel
theorem dX3_moveHands_53 : decode cX3_moveHands 53 = .ok (.putfield 62, 3) := by decide +kernel
theorem dX3_moveHands_56 : decode cX3_moveHands 56 = .ok (.iconst 1, 1) := by decide +kernel
theorem dX3_moveHands_57 : decode cX3_moveHands 57 = .ok (.ireturn, 1) := by decide +kernel
theorem dX3_isSlippery_0 : decode cX3_isSlippery 0 = .ok (.aload_n 0, 1) := by decide +kernel
theorem dX3_isSlippery_1 : decode cX3_isSlippery 1 = .ok (.getfield 65, 3) := by decide +kernel
theorem dX3_isSlippery_4 : decode cX3_isSlippery 4 = .ok (.aload_n 0, 1) := by decide +kernel
theorem dX3_isSlippery_5 : decode cX3_isSlippery 5 = .ok (.getfield 32, 3) := by decide +kernel
theorem dX3_isSlippery_8 : decode cX3_isSlippery 8 = .ok (.iconst 2, 1) := by decide +kernel
theorem dX3_isSlippery_9 : decode cX3_isSlippery 9 = .ok (.iaload, 1) := by decide +kernel
theorem dX3_isSlippery_10 : decode cX3_isSlippery 10 = .ok (.aload_n 0, 1) := by decide +kernel
theorem dX3_isSlippery_11 : decode cX3_isSlippery 11 = .ok (.getfield 68, 3) := by decide +kernel
theorem dX3_isSlippery_14 : decode cX3_isSlippery 14 = .ok (.isub, 1) := by decide +kernel
theorem dX3_isSlippery_15 : decode cX3_isSlippery 15 = .ok (.if_icmp .le 7, 3) := by decide +kernel
theorem dX3_isSlippery_18 : decode cX3_isSlippery 18 = .ok (.iconst 1, 1) := by decide +kernel
theorem dX3_isSlippery_19 : decode cX3_isSlippery 19 = .ok (.goto 4, 3) := by decide +kernel
theorem dX3_isSlippery_22 : decode cX3_isSlippery 22 = .ok (.iconst 0, 1) := by decide +kernel
theorem dX3_isSlippery_23 : decode cX3_isSlippery 23 = .ok (.ireturn, 1) := by decide +kernel
theorem dX3_slip_0 : decode cX3_slip 0 = .ok (.aload_n 0, 1) := by decide +kernel
theorem dX3_slip_1 : decode cX3_slip 1 = .ok (.dup, 1) := by decide +kernel
theorem dX3_slip_2 : decode cX3_slip 2 = .ok (.getfield 83, 3) := by decide +kernel
theorem dX3_slip_5 : decode cX3_slip 5 = .ok (.iconst 1, 1) := by decide +kernel
theorem dX3_slip_6 : decode cX3_slip 6 = .ok (.iadd, 1) := by decide +kernel
theorem dX3_slip_7 : decode cX3_slip 7 = .ok (.putfield 83, 3) := by decide +kernel
theorem dX3_slip_10 : decode cX3_slip 10 = .ok (.aload_n 0, 1) := by decide +kernel
theorem dX3_slip_11 : decode cX3_slip 11 = .ok (.getfield 83, 3) := by decide +kernel
theorem dX3_slip_14 : decode cX3_slip 14 = .ok (.iconst 5, 1) := by decide +kernel
theorem dX3_slip_15 : decode cX3_slip 15 = .ok (.irem, 1) := by decide +kernel
theorem dX3_slip_16 : decode cX3_slip 16 = .ok (.ifCond .ne 22, 3) := by decide +kernel
theorem dX3_slip_19 : decode cX3_slip 19 = .ok (.aload_n 0, 1) := by decide +kernel
theorem dX3_slip_20 : decode cX3_slip 20 = .ok (.getfield 68, 3) := by decide +kernel
theorem dX3_slip_23 : decode cX3_slip 23 = .ok (.bipush 20, 2) := by decide +kernel
theorem dX3_slip_25 : decode cX3_slip 25 = .ok (.if_icmp .ge 13, 3) := by decide +kernel
theorem dX3_slip_28 : decode cX3_slip 28 = .ok (.aload_n 0, 1) := by decide +kernel
theorem dX3_slip_29 : decode cX3_slip 29 = .ok (.dup, 1) := by decide +kernel
theorem dX3_slip_30 : decode cX3_slip 30 = .ok (.getfield 68, 3) := by decide +kernel
theorem dX3_slip_33 : decode cX3_slip 33 = .ok (.iconst 1, 1) := by decide +kernel
theorem dX3_slip_34 : decode cX3_slip 34 = .ok (.iadd, 1) := by decide +kernel
theorem dX3_slip_35 : decode cX3_slip 35 = .ok (.putfield 68, 3) := by decide +kernel
theorem dX3_slip_38 : decode cX3_slip 38 = .ok (.return_, 1) := by decide +kernel
theorem dX3_chime_0 : decode cX3_chime 0 = .ok (.aload_n 0, 1) := by decide +kernel
theorem dX3_chime_1 : decode cX3_chime 1 = .ok (.getfield 62, 3) := by decide +kernel
theorem dX3_chime_4 : decode cX3_chime 4 = .ok (.bipush 15, 2) := by decide +kernel
theorem dX3_chime_6 : decode cX3_chime 6 = .ok (.irem, 1) := by decide +kernel
theorem dX3_chime_7 : decode cX3_chime 7 = .ok (.ifCond .ne 10, 3) := by decide +kernel
theorem dX3_chime_10 : decode cX3_chime 10 = .ok (.aload_n 0, 1) := by decide +kernel
theorem dX3_chime_11 : decode cX3_chime 11 = .ok (.invokevirtual 171, 3) := by decide +kernel
theorem dX3_chime_14 : decode cX3_chime 14 = .ok (.ifCond .eq 4, 3) := by decide +kernel
theorem dX3_chime_17 : decode cX3_chime 17 = .ok (.return_, 1) := by decide +kernel
theorem dX3_chime_18 : decode cX3_chime 18 = .ok (.aload_n 0, 1) := by decide +kernel
theorem dX3_chime_19 : decode cX3_chime 19 = .ok (.getfield 62, 3) := by decide +kernel
theorem dX3_chime_22 : decode cX3_chime 22 = .ok (.bipush 60, 2) := by decide +kernel
theorem dX3_chime_24 : decode cX3_chime 24 = .ok (.irem, 1) := by decide +kernel
theorem dX3_chime_25 : decode cX3_chime 25 = .ok (.bipush 15, 2) := by decide +kernel
theorem dX3_chime_27 : decode cX3_chime 27 = .ok (.idiv, 1) := by decide +kernel
theorem dX3_chime_28 : decode cX3_chime 28 = .ok (.istore_n 1, 1) := by decide +kernel
theorem dX3_chime_29 : decode cX3_chime 29 = .ok (.iload_n 1, 1) := by decide +kernel
theorem dX3_chime_30 : decode cX3_chime 30 = .ok (.ifCond .ne 7, 3) := by decide +kernel
theorem dX3_chime_33 : decode cX3_chime 33 = .ok (.iconst 4, 1) := by decide +kernel
theorem dX3_chime_34 : decode cX3_chime 34 = .ok (.goto 4, 3) := by decide +kernel
theorem dX3_chime_37 : decode cX3_chime 37 = .ok (.iload_n 1, 1) := by decide +kernel
theorem dX3_chime_38 : decode cX3_chime 38 = .ok (.istore_n 2, 1) := by decide +kernel
theorem dX3_chime_39 : decode cX3_chime 39 = .ok (.iload_n 2, 1) := by decide +kernel
theorem dX3_chime_40 : decode cX3_chime 40 = .ok (.aload_n 0, 1) := by decide +kernel
theorem dX3_chime_41 : decode cX3_chime 41 = .ok (.getfield 12, 3) := by decide +kernel
theorem dX3_chime_44 : decode cX3_chime 44 = .ok (.getfield 155, 3) := by decide +kernel
theorem dX3_chime_47 : decode cX3_chime 47 = .ok (.iconst 2, 1) := by decide +kernel
theorem dX3_chime_48 : decode cX3_chime 48 = .ok (.iaload, 1) := by decide +kernel
theorem dX3_chime_49 : decode cX3_chime 49 = .ok (.iconst 2, 1) := by decide +kernel
theorem dX3_chime_50 : decode cX3_chime 50 = .ok (.idiv, 1) := by decide +kernel
theorem dX3_chime_51 : decode cX3_chime 51 = .ok (.invokestatic 158, 3) := by decide +kernel
theorem dX3_chime_54 : decode cX3_chime 54 = .ok (.istore_n 3, 1) := by decide +kernel
theorem dX3_chime_55 : decode cX3_chime 55 = .ok (.aload_n 0, 1) := by decide +kernel
theorem dX3_chime_56 : decode cX3_chime 56 = .ok (.getfield 12, 3) := by decide +kernel
theorem dX3_chime_59 : decode cX3_chime 59 = .ok (.iconst 2, 1) := by decide +kernel
theorem dX3_chime_60 : decode cX3_chime 60 = .ok (.iload_n 3, 1) := by decide +kernel
theorem dX3_chime_61 : decode cX3_chime 61 = .ok (.iconst 2, 1) := by decide +kernel
theorem dX3_chime_62 : decode cX3_chime 62 = .ok (.imul, 1) := by decide +kernel
theorem dX3_chime_63 : decode cX3_chime 63 = .ok (.invokevirtual 161, 3) := by decide +kernel
theorem dX3_chime_66 : decode cX3_chime 66 = .ok (.aload_n 0, 1) := by decide +kernel
theorem dX3_chime_67 : decode cX3_chime 67 = .ok (.dup, 1) := by decide +kernel
theorem dX3_chime_68 : decode cX3_chime 68 = .ok (.getfield 77, 3) := by decide +kernel
theorem dX3_chime_71 : decode cX3_chime 71 = .ok (.iload_n 3, 1) := by decide +kernel
theorem dX3_chime_72 : decode cX3_chime 72 = .ok (.iadd, 1) := by decide +kernel
theorem dX3_chime_73 : decode cX3_chime 73 = .ok (.putfield 77, 3) := by decide +kernel
theorem dX3_chime_76 : decode cX3_chime 76 = .ok (.aload_n 0, 1) := by decide +kernel
theorem dX3_chime_77 : decode cX3_chime 77 = .ok (.dup, 1) := by decide +kernel
theorem dX3_chime_78 : decode cX3_chime 78 = .ok (.getfield 80, 3) := by decide +kernel
theorem dX3_chime_81 : decode cX3_chime 81 = .ok (.iload_n 2, 1) := by decide +kernel
theorem dX3_chime_82 : decode cX3_chime 82 = .ok (.iload_n 3, 1) := by decide +kernel
theorem dX3_chime_83 : decode cX3_chime 83 = .ok (.isub, 1) := by decide +kernel
theorem dX3_chime_84 : decode cX3_chime 84 = .ok (.iadd, 1) := by decide +kernel
theorem dX3_chime_85 : decode cX3_chime 85 = .ok (.putfield 80, 3) := by decide +kernel
theorem dX3_chime_88 : decode cX3_chime 88 = .ok (.return_, 1) := by decide +kernel
theorem dX3_owe_0 : decode cX3_owe 0 = .ok (.aload_n 0, 1) := by decide +kernel
theorem dX3_owe_1 : decode cX3_owe 1 = .ok (.getfield 62, 3) := by decide +kernel
theorem dX3_owe_4 : decode cX3_owe 4 = .ok (.bipush 60, 2) := by decide +kernel
theorem dX3_owe_6 : decode cX3_owe 6 = .ok (.irem, 1) := by decide +kernel
theorem dX3_owe_7 : decode cX3_owe 7 = .ok (.ifCond .eq 4, 3) := by decide +kernel
theorem dX3_owe_10 : decode cX3_owe 10 = .ok (.return_, 1) := by decide +kernel
theorem dX3_owe_11 : decode cX3_owe 11 = .ok (.aload_n 0, 1) := by decide +kernel
theorem dX3_owe_12 : decode cX3_owe 12 = .ok (.invokevirtual 171, 3) := by decide +kernel
theorem dX3_owe_15 : decode cX3_owe 15 = .ok (.ifCond .eq 17, 3) := by decide +kernel
theorem dX3_owe_18 : decode cX3_owe 18 = .ok (.aload_n 0, 1) := by decide +kernel
theorem dX3_owe_19 : decode cX3_owe 19 = .ok (.dup, 1) := by decide +kernel
theorem dX3_owe_20 : decode cX3_owe 20 = .ok (.getfield 74, 3) := by decide +kernel
theorem dX3_owe_23 : decode cX3_owe 23 = .ok (.aload_n 0, 1) := by decide +kernel
theorem dX3_owe_24 : decode cX3_owe 24 = .ok (.invokevirtual 92, 3) := by decide +kernel
theorem dX3_owe_27 : decode cX3_owe 27 = .ok (.iadd, 1) := by decide +kernel
theorem dX3_owe_28 : decode cX3_owe 28 = .ok (.putfield 74, 3) := by decide +kernel
theorem dX3_owe_31 : decode cX3_owe 31 = .ok (.return_, 1) := by decide +kernel
theorem dX3_owe_32 : decode cX3_owe 32 = .ok (.aload_n 0, 1) := by decide +kernel
theorem dX3_owe_33 : decode cX3_owe 33 = .ok (.getfield 28, 3) := by decide +kernel
theorem dX3_owe_36 : decode cX3_owe 36 = .ok (.getfield 152, 3) := by decide +kernel
theorem dX3_owe_39 : decode cX3_owe 39 = .ok (.iconst 4, 1) := by decide +kernel
theorem dX3_owe_40 : decode cX3_owe 40 = .ok (.if_icmp .ne 28, 3) := by decide +kernel
theorem dX3_owe_43 : decode cX3_owe 43 = .ok (.aload_n 0, 1) := by decide +kernel
theorem dX3_owe_44 : decode cX3_owe 44 = .ok (.dup, 1) := by decide +kernel
theorem dX3_owe_45 : decode cX3_owe 45 = .ok (.getfield 74, 3) := by decide +kernel
theorem dX3_owe_48 : decode cX3_owe 48 = .ok (.aload_n 0, 1) := by decide +kernel
theorem dX3_owe_49 : decode cX3_owe 49 = .ok (.getfield 28, 3) := by decide +kernel
theorem dX3_owe_52 : decode cX3_owe 52 = .ok (.getfield 174, 3) := by decide +kernel
theorem dX3_owe_55 : decode cX3_owe 55 = .ok (.iconst 0, 1) := by decide +kernel
theorem dX3_owe_56 : decode cX3_owe 56 = .ok (.iaload, 1) := by decide +kernel
theorem dX3_owe_57 : decode cX3_owe 57 = .ok (.iadd, 1) := by decide +kernel
theorem dX3_owe_58 : decode cX3_owe 58 = .ok (.putfield 74, 3) := by decide +kernel
theorem dX3_owe_61 : decode cX3_owe 61 = .ok (.aload_n 0, 1) := by decide +kernel
theorem dX3_owe_62 : decode cX3_owe 62 = .ok (.getfield 28, 3) := by decide +kernel
theorem dX3_owe_65 : decode cX3_owe 65 = .ok (.invokevirtual 177, 3) := by decide +kernel
theorem dX3_owe_68 : decode cX3_owe 68 = .ok (.aload_n 0, 1) := by decide +kernel
theorem dX3_owe_69 : decode cX3_owe 69 = .ok (.getfield 28, 3) := by decide +kernel
theorem dX3_owe_72 : decode cX3_owe 72 = .ok (.aload_n 0, 1) := by decide +kernel
theorem dX3_owe_73 : decode cX3_owe 73 = .ok (.invokevirtual 92, 3) := by decide +kernel
theorem dX3_owe_76 : decode cX3_owe 76 = .ok (.invokevirtual 180, 3) := by decide +kernel
theorem dX3_owe_79 : decode cX3_owe 79 = .ok (.return_, 1) := by decide +kernel
theorem dX3_strike_0 : decode cX3_strike 0 = .ok (.aload_n 0, 1) := by decide +kernel
theorem dX3_strike_1 : decode cX3_strike 1 = .ok (.getfield 28, 3) := by decide +kernel
theorem dX3_strike_4 : decode cX3_strike 4 = .ok (.getfield 152, 3) := by decide +kernel
theorem dX3_strike_7 : decode cX3_strike 7 = .ok (.ifCond .eq 10, 3) := by decide +kernel
theorem dX3_strike_10 : decode cX3_strike 10 = .ok (.aload_n 0, 1) := by decide +kernel
theorem dX3_strike_11 : decode cX3_strike 11 = .ok (.invokevirtual 171, 3) := by decide +kernel
theorem dX3_strike_14 : decode cX3_strike 14 = .ok (.ifCond .eq 4, 3) := by decide +kernel
theorem dX3_strike_17 : decode cX3_strike 17 = .ok (.return_, 1) := by decide +kernel
theorem dX3_strike_18 : decode cX3_strike 18 = .ok (.aload_n 0, 1) := by decide +kernel
theorem dX3_strike_19 : decode cX3_strike 19 = .ok (.getfield 32, 3) := by decide +kernel
theorem dX3_strike_22 : decode cX3_strike 22 = .ok (.iconst 3, 1) := by decide +kernel
theorem dX3_strike_23 : decode cX3_strike 23 = .ok (.iaload, 1) := by decide +kernel
theorem dX3_strike_24 : decode cX3_strike 24 = .ok (.aload_n 0, 1) := by decide +kernel
theorem dX3_strike_25 : decode cX3_strike 25 = .ok (.getfield 12, 3) := by decide +kernel
theorem dX3_strike_28 : decode cX3_strike 28 = .ok (.getfield 155, 3) := by decide +kernel
theorem dX3_strike_31 : decode cX3_strike 31 = .ok (.iconst 1, 1) := by decide +kernel
theorem dX3_strike_32 : decode cX3_strike 32 = .ok (.iaload, 1) := by decide +kernel
theorem dX3_strike_33 : decode cX3_strike 33 = .ok (.invokestatic 158, 3) := by decide +kernel
theorem dX3_strike_36 : decode cX3_strike 36 = .ok (.istore_n 1, 1) := by decide +kernel
theorem dX3_strike_37 : decode cX3_strike 37 = .ok (.iload_n 1, 1) := by decide +kernel
theorem dX3_strike_38 : decode cX3_strike 38 = .ok (.aload_n 0, 1) := by decide +kernel
theorem dX3_strike_39 : decode cX3_strike 39 = .ok (.getfield 28, 3) := by decide +kernel
theorem dX3_strike_42 : decode cX3_strike 42 = .ok (.getfield 174, 3) := by decide +kernel
theorem dX3_strike_45 : decode cX3_strike 45 = .ok (.iconst 0, 1) := by decide +kernel
theorem dX3_strike_46 : decode cX3_strike 46 = .ok (.iaload, 1) := by decide +kernel
theorem dX3_strike_47 : decode cX3_strike 47 = .ok (.invokestatic 158, 3) := by decide +kernel
theorem dX3_strike_50 : decode cX3_strike 50 = .ok (.istore_n 2, 1) := by decide +kernel
theorem dX3_strike_51 : decode cX3_strike 51 = .ok (.aload_n 0, 1) := by decide +kernel
theorem dX3_strike_52 : decode cX3_strike 52 = .ok (.getfield 12, 3) := by decide +kernel
theorem dX3_strike_55 : decode cX3_strike 55 = .ok (.iconst 1, 1) := by decide +kernel
theorem dX3_strike_56 : decode cX3_strike 56 = .ok (.iload_n 2, 1) := by decide +kernel
theorem dX3_strike_57 : decode cX3_strike 57 = .ok (.invokevirtual 161, 3) := by decide +kernel
theorem dX3_strike_60 : decode cX3_strike 60 = .ok (.aload_n 0, 1) := by decide +kernel
theorem dX3_strike_61 : decode cX3_strike 61 = .ok (.dup, 1) := by decide +kernel
theorem dX3_strike_62 : decode cX3_strike 62 = .ok (.getfield 71, 3) := by decide +kernel
theorem dX3_strike_65 : decode cX3_strike 65 = .ok (.iload_n 2, 1) := by decide +kernel
theorem dX3_strike_66 : decode cX3_strike 66 = .ok (.iadd, 1) := by decide +kernel
theorem dX3_strike_67 : decode cX3_strike 67 = .ok (.putfield 71, 3) := by decide +kernel
theorem dX3_strike_70 : decode cX3_strike 70 = .ok (.aload_n 0, 1) := by decide +kernel
theorem dX3_strike_71 : decode cX3_strike 71 = .ok (.getfield 28, 3) := by decide +kernel
theorem dX3_strike_74 : decode cX3_strike 74 = .ok (.iload_n 2, 1) := by decide +kernel
theorem dX3_strike_75 : decode cX3_strike 75 = .ok (.invokevirtual 184, 3) := by decide +kernel
theorem dX3_strike_78 : decode cX3_strike 78 = .ok (.return_, 1) := by decide +kernel
theorem dX3_isDueAndKeptOut_0 : decode cX3_isDueAndKeptOut 0 = .ok (.iload_n 1, 1) := by decide +kernel
theorem dX3_isDueAndKeptOut_1 : decode cX3_isDueAndKeptOut 1 = .ok (.ifCond .lt 60, 3) := by decide +kernel
theorem dX3_isDueAndKeptOut_4 : decode cX3_isDueAndKeptOut 4 = .ok (.iload_n 1, 1) := by decide +kernel
theorem dX3_isDueAndKeptOut_5 : decode cX3_isDueAndKeptOut 5 = .ok (.aload_n 0, 1) := by decide +kernel
theorem dX3_isDueAndKeptOut_6 : decode cX3_isDueAndKeptOut 6 = .ok (.getfield 21, 3) := by decide +kernel
theorem dX3_isDueAndKeptOut_9 : decode cX3_isDueAndKeptOut 9 = .ok (.getfield 187, 3) := by decide +kernel
theorem dX3_isDueAndKeptOut_12 : decode cX3_isDueAndKeptOut 12 = .ok (.if_icmp .ge 49, 3) := by decide +kernel
theorem dX3_isDueAndKeptOut_15 : decode cX3_isDueAndKeptOut 15 = .ok (.iload_n 1, 1) := by decide +kernel
theorem dX3_isDueAndKeptOut_16 : decode cX3_isDueAndKeptOut 16 = .ok (.bipush 6, 2) := by decide +kernel
theorem dX3_isDueAndKeptOut_18 : decode cX3_isDueAndKeptOut 18 = .ok (.if_icmp .ge 43, 3) := by decide +kernel
theorem dX3_isDueAndKeptOut_21 : decode cX3_isDueAndKeptOut 21 = .ok (.aload_n 0, 1) := by decide +kernel
theorem dX3_isDueAndKeptOut_22 : decode cX3_isDueAndKeptOut 22 = .ok (.getfield 21, 3) := by decide +kernel
theorem dX3_isDueAndKeptOut_25 : decode cX3_isDueAndKeptOut 25 = .ok (.getfield 146, 3) := by decide +kernel
theorem dX3_isDueAndKeptOut_28 : decode cX3_isDueAndKeptOut 28 = .ok (.iload_n 1, 1) := by decide +kernel
theorem dX3_isDueAndKeptOut_29 : decode cX3_isDueAndKeptOut 29 = .ok (.iaload, 1) := by decide +kernel
theorem dX3_isDueAndKeptOut_30 : decode cX3_isDueAndKeptOut 30 = .ok (.aload_n 0, 1) := by decide +kernel
theorem dX3_isDueAndKeptOut_31 : decode cX3_isDueAndKeptOut 31 = .ok (.getfield 59, 3) := by decide +kernel
theorem dX3_isDueAndKeptOut_34 : decode cX3_isDueAndKeptOut 34 = .ok (.if_icmp .gt 27, 3) := by decide +kernel
theorem dX3_isDueAndKeptOut_37 : decode cX3_isDueAndKeptOut 37 = .ok (.aload_n 0, 1) := by decide +kernel
theorem dX3_isDueAndKeptOut_38 : decode cX3_isDueAndKeptOut 38 = .ok (.getfield 21, 3) := by decide +kernel
theorem dX3_isDueAndKeptOut_41 : decode cX3_isDueAndKeptOut 41 = .ok (.getfield 134, 3) := by decide +kernel
theorem dX3_isDueAndKeptOut_44 : decode cX3_isDueAndKeptOut 44 = .ok (.iload_n 1, 1) := by decide +kernel
theorem dX3_isDueAndKeptOut_45 : decode cX3_isDueAndKeptOut 45 = .ok (.iaload, 1) := by decide +kernel
theorem dX3_isDueAndKeptOut_46 : decode cX3_isDueAndKeptOut 46 = .ok (.iconst 1, 1) := by decide +kernel
theorem dX3_isDueAndKeptOut_47 : decode cX3_isDueAndKeptOut 47 = .ok (.if_icmp .ne 14, 3) := by decide +kernel
theorem dX3_isDueAndKeptOut_50 : decode cX3_isDueAndKeptOut 50 = .ok (.aload_n 0, 1) := by decide +kernel
theorem dX3_isDueAndKeptOut_51 : decode cX3_isDueAndKeptOut 51 = .ok (.invokevirtual 127, 3) := by decide +kernel
theorem dX3_isDueAndKeptOut_54 : decode cX3_isDueAndKeptOut 54 = .ok (.ifCond .eq 7, 3) := by decide +kernel
theorem dX3_isDueAndKeptOut_57 : decode cX3_isDueAndKeptOut 57 = .ok (.iconst 1, 1) := by decide +kernel
theorem dX3_isDueAndKeptOut_58 : decode cX3_isDueAndKeptOut 58 = .ok (.goto 4, 3) := by decide +kernel
theorem dX3_isDueAndKeptOut_61 : decode cX3_isDueAndKeptOut 61 = .ok (.iconst 0, 1) := by decide +kernel
theorem dX3_isDueAndKeptOut_62 : decode cX3_isDueAndKeptOut 62 = .ok (.ireturn, 1) := by decide +kernel
theorem dX3_goingTurnsThatCome_0 : decode cX3_goingTurnsThatCome 0 = .ok (.aload_n 0, 1) := by decide +kernel
theorem dX3_goingTurnsThatCome_1 : decode cX3_goingTurnsThatCome 1 = .ok (.getfield 21, 3) := by decide +kernel
theorem dX3_goingTurnsThatCome_4 : decode cX3_goingTurnsThatCome 4 = .ok (.aload_n 0, 1) := by decide +kernel
theorem dX3_goingTurnsThatCome_5 : decode cX3_goingTurnsThatCome 5 = .ok (.getfield 59, 3) := by decide +kernel
theorem dX3_goingTurnsThatCome_8 : decode cX3_goingTurnsThatCome 8 = .ok (.aload_n 0, 1) := by decide +kernel
theorem dX3_goingTurnsThatCome_9 : decode cX3_goingTurnsThatCome 9 = .ok (.invokevirtual 127, 3) := by decide +kernel
theorem dX3_goingTurnsThatCome_12 : decode cX3_goingTurnsThatCome 12 = .ok (.invokevirtual 130, 3) := by decide +kernel
theorem dX3_goingTurnsThatCome_15 : decode cX3_goingTurnsThatCome 15 = .ok (.istore_n 1, 1) := by decide +kernel
theorem dX3_goingTurnsThatCome_16 : decode cX3_goingTurnsThatCome 16 = .ok (.iload_n 1, 1) := by decide +kernel
theorem dX3_goingTurnsThatCome_17 : decode cX3_goingTurnsThatCome 17 = .ok (.ifCond .lt 21, 3) := by decide +kernel
theorem dX3_goingTurnsThatCome_20 : decode cX3_goingTurnsThatCome 20 = .ok (.iload_n 1, 1) := by decide +kernel
theorem dX3_goingTurnsThatCome_21 : decode cX3_goingTurnsThatCome 21 = .ok (.bipush 6, 2) := by decide +kernel
theorem dX3_goingTurnsThatCome_23 : decode cX3_goingTurnsThatCome 23 = .ok (.if_icmp .ge 15, 3) := by decide +kernel
theorem dX3_goingTurnsThatCome_26 : decode cX3_goingTurnsThatCome 26 = .ok (.aload_n 0, 1) := by decide +kernel
theorem dX3_goingTurnsThatCome_27 : decode cX3_goingTurnsThatCome 27 = .ok (.getfield 21, 3) := by decide +kernel
theorem dX3_goingTurnsThatCome_30 : decode cX3_goingTurnsThatCome 30 = .ok (.getfield 134, 3) := by decide +kernel
theorem dX3_goingTurnsThatCome_33 : decode cX3_goingTurnsThatCome 33 = .ok (.iload_n 1, 1) := by decide +kernel
theorem dX3_goingTurnsThatCome_34 : decode cX3_goingTurnsThatCome 34 = .ok (.iaload, 1) := by decide +kernel
theorem dX3_goingTurnsThatCome_35 : decode cX3_goingTurnsThatCome 35 = .ok (.ifCond .eq 5, 3) := by decide +kernel
theorem dX3_goingTurnsThatCome_38 : decode cX3_goingTurnsThatCome 38 = .ok (.iconst 0, 1) := by decide +kernel
theorem dX3_goingTurnsThatCome_39 : decode cX3_goingTurnsThatCome 39 = .ok (.ireturn, 1) := by decide +kernel
theorem dX3_goingTurnsThatCome_40 : decode cX3_goingTurnsThatCome 40 = .ok (.aload_n 0, 1) := by decide +kernel
theorem dX3_goingTurnsThatCome_41 : decode cX3_goingTurnsThatCome 41 = .ok (.getfield 21, 3) := by decide +kernel
theorem dX3_goingTurnsThatCome_44 : decode cX3_goingTurnsThatCome 44 = .ok (.getfield 137, 3) := by decide +kernel
theorem dX3_goingTurnsThatCome_47 : decode cX3_goingTurnsThatCome 47 = .ok (.iload_n 1, 1) := by decide +kernel
theorem dX3_goingTurnsThatCome_48 : decode cX3_goingTurnsThatCome 48 = .ok (.iaload, 1) := by decide +kernel
theorem dX3_goingTurnsThatCome_49 : decode cX3_goingTurnsThatCome 49 = .ok (.ireturn, 1) := by decide +kernel
theorem dX3_reasonNotToGoOn_0 : decode cX3_reasonNotToGoOn 0 = .ok (.aload_n 0, 1) := by decide +kernel
theorem dX3_reasonNotToGoOn_1 : decode cX3_reasonNotToGoOn 1 = .ok (.invokevirtual 111, 3) := by decide +kernel
theorem dX3_reasonNotToGoOn_4 : decode cX3_reasonNotToGoOn 4 = .ok (.aload_n 0, 1) := by decide +kernel
theorem dX3_reasonNotToGoOn_5 : decode cX3_reasonNotToGoOn 5 = .ok (.invokevirtual 114, 3) := by decide +kernel
theorem dX3_reasonNotToGoOn_8 : decode cX3_reasonNotToGoOn 8 = .ok (.aload_n 0, 1) := by decide +kernel
theorem dX3_reasonNotToGoOn_9 : decode cX3_reasonNotToGoOn 9 = .ok (.getfield 45, 3) := by decide +kernel
theorem dX3_reasonNotToGoOn_12 : decode cX3_reasonNotToGoOn 12 = .ok (.ifCond .ne 5, 3) := by decide +kernel
theorem dX3_reasonNotToGoOn_15 : decode cX3_reasonNotToGoOn 15 = .ok (.iconst 1, 1) := by decide +kernel
theorem dX3_reasonNotToGoOn_16 : decode cX3_reasonNotToGoOn 16 = .ok (.ireturn, 1) := by decide +kernel
theorem dX3_reasonNotToGoOn_17 : decode cX3_reasonNotToGoOn 17 = .ok (.aload_n 0, 1) := by decide +kernel
theorem dX3_reasonNotToGoOn_18 : decode cX3_reasonNotToGoOn 18 = .ok (.invokevirtual 165, 3) := by decide +kernel
theorem dX3_reasonNotToGoOn_21 : decode cX3_reasonNotToGoOn 21 = .ok (.ifCond .eq 7, 3) := by decide +kernel
theorem dX3_reasonNotToGoOn_24 : decode cX3_reasonNotToGoOn 24 = .ok (.iconst 2, 1) := by decide +kernel
theorem dX3_reasonNotToGoOn_25 : decode cX3_reasonNotToGoOn 25 = .ok (.goto 4, 3) := by decide +kernel
theorem dX3_reasonNotToGoOn_28 : decode cX3_reasonNotToGoOn 28 = .ok (.iconst 0, 1) := by decide +kernel
theorem dX3_reasonNotToGoOn_29 : decode cX3_reasonNotToGoOn 29 = .ok (.ireturn, 1) := by decide +kernel
theorem dX3_reasonNotToStrike_0 : decode cX3_reasonNotToStrike 0 = .ok (.aload_n 0, 1) := by decide +kernel
theorem dX3_reasonNotToStrike_1 : decode cX3_reasonNotToStrike 1 = .ok (.invokevirtual 105, 3) := by decide +kernel
theorem dX3_reasonNotToStrike_4 : decode cX3_reasonNotToStrike 4 = .ok (.aload_n 0, 1) := by decide +kernel
theorem dX3_reasonNotToStrike_5 : decode cX3_reasonNotToStrike 5 = .ok (.getfield 28, 3) := by decide +kernel
theorem dX3_reasonNotToStrike_8 : decode cX3_reasonNotToStrike 8 = .ok (.getfield 152, 3) := by decide +kernel
theorem dX3_reasonNotToStrike_11 : decode cX3_reasonNotToStrike 11 = .ok (.ifCond .ne 5, 3) := by decide +kernel
theorem dX3_reasonNotToStrike_14 : decode cX3_reasonNotToStrike 14 = .ok (.iconst 1, 1) := by decide +kernel
theorem dX3_reasonNotToStrike_15 : decode cX3_reasonNotToStrike 15 = .ok (.ireturn, 1) := by decide +kernel
theorem dX3_reasonNotToStrike_16 : decode cX3_reasonNotToStrike 16 = .ok (.aload_n 0, 1) := by decide +kernel
theorem dX3_reasonNotToStrike_17 : decode cX3_reasonNotToStrike 17 = .ok (.invokevirtual 171, 3) := by decide +kernel
theorem dX3_reasonNotToStrike_20 : decode cX3_reasonNotToStrike 20 = .ok (.ifCond .eq 5, 3) := by decide +kernel
theorem dX3_reasonNotToStrike_23 : decode cX3_reasonNotToStrike 23 = .ok (.iconst 2, 1) := by decide +kernel
theorem dX3_reasonNotToStrike_24 : decode cX3_reasonNotToStrike 24 = .ok (.ireturn, 1) := by decide +kernel
theorem dX3_reasonNotToStrike_25 : decode cX3_reasonNotToStrike 25 = .ok (.aload_n 0, 1) := by decide +kernel
theorem dX3_reasonNotToStrike_26 : decode cX3_reasonNotToStrike 26 = .ok (.getfield 12, 3) := by decide +kernel
theorem dX3_reasonNotToStrike_29 : decode cX3_reasonNotToStrike 29 = .ok (.getfield 155, 3) := by decide +kernel
theorem dX3_reasonNotToStrike_32 : decode cX3_reasonNotToStrike 32 = .ok (.iconst 1, 1) := by decide +kernel
theorem dX3_reasonNotToStrike_33 : decode cX3_reasonNotToStrike 33 = .ok (.iaload, 1) := by decide +kernel
theorem dX3_reasonNotToStrike_34 : decode cX3_reasonNotToStrike 34 = .ok (.ifCond .ne 7, 3) := by decide +kernel
theorem dX3_reasonNotToStrike_37 : decode cX3_reasonNotToStrike 37 = .ok (.iconst 3, 1) := by decide +kernel
theorem dX3_reasonNotToStrike_38 : decode cX3_reasonNotToStrike 38 = .ok (.goto 4, 3) := by decide +kernel
theorem dX3_reasonNotToStrike_41 : decode cX3_reasonNotToStrike 41 = .ok (.iconst 0, 1) := by decide +kernel
theorem dX3_reasonNotToStrike_42 : decode cX3_reasonNotToStrike 42 = .ok (.ireturn, 1) := by decide +kernel
theorem dX3_reasonNotToCome_0 : decode cX3_reasonNotToCome 0 = .ok (.aload_n 0, 1) := by decide +kernel
theorem dX3_reasonNotToCome_1 : decode cX3_reasonNotToCome 1 = .ok (.getfield 21, 3) := by decide +kernel
theorem dX3_reasonNotToCome_4 : decode cX3_reasonNotToCome 4 = .ok (.getfield 187, 3) := by decide +kernel
theorem dX3_reasonNotToCome_7 : decode cX3_reasonNotToCome 7 = .ok (.ifCond .ne 5, 3) := by decide +kernel
theorem dX3_reasonNotToCome_10 : decode cX3_reasonNotToCome 10 = .ok (.iconst 1, 1) := by decide +kernel
theorem dX3_reasonNotToCome_11 : decode cX3_reasonNotToCome 11 = .ok (.ireturn, 1) := by decide +kernel
theorem dX3_reasonNotToCome_12 : decode cX3_reasonNotToCome 12 = .ok (.aload_n 0, 1) := by decide +kernel
theorem dX3_reasonNotToCome_13 : decode cX3_reasonNotToCome 13 = .ok (.getfield 21, 3) := by decide +kernel
theorem dX3_reasonNotToCome_16 : decode cX3_reasonNotToCome 16 = .ok (.aload_n 0, 1) := by decide +kernel
theorem dX3_reasonNotToCome_17 : decode cX3_reasonNotToCome 17 = .ok (.getfield 59, 3) := by decide +kernel
theorem dX3_reasonNotToCome_20 : decode cX3_reasonNotToCome 20 = .ok (.invokevirtual 188, 3) := by decide +kernel
theorem dX3_reasonNotToCome_23 : decode cX3_reasonNotToCome 23 = .ok (.ifCond .ne 5, 3) := by decide +kernel
theorem dX3_reasonNotToCome_26 : decode cX3_reasonNotToCome 26 = .ok (.iconst 2, 1) := by decide +kernel
theorem dX3_reasonNotToCome_27 : decode cX3_reasonNotToCome 27 = .ok (.ireturn, 1) := by decide +kernel
theorem dX3_reasonNotToCome_28 : decode cX3_reasonNotToCome 28 = .ok (.aload_n 0, 1) := by decide +kernel
theorem dX3_reasonNotToCome_29 : decode cX3_reasonNotToCome 29 = .ok (.getfield 21, 3) := by decide +kernel
theorem dX3_reasonNotToCome_32 : decode cX3_reasonNotToCome 32 = .ok (.aload_n 0, 1) := by decide +kernel
theorem dX3_reasonNotToCome_33 : decode cX3_reasonNotToCome 33 = .ok (.getfield 59, 3) := by decide +kernel
theorem dX3_reasonNotToCome_36 : decode cX3_reasonNotToCome 36 = .ok (.aload_n 0, 1) := by decide +kernel
theorem dX3_reasonNotToCome_37 : decode cX3_reasonNotToCome 37 = .ok (.invokevirtual 127, 3) := by decide +kernel
theorem dX3_reasonNotToCome_40 : decode cX3_reasonNotToCome 40 = .ok (.invokevirtual 130, 3) := by decide +kernel
theorem dX3_reasonNotToCome_43 : decode cX3_reasonNotToCome 43 = .ok (.iconst (-1), 1) := by decide +kernel
theorem dX3_reasonNotToCome_44 : decode cX3_reasonNotToCome 44 = .ok (.if_icmp .ne 7, 3) := by decide +kernel
theorem dX3_reasonNotToCome_47 : decode cX3_reasonNotToCome 47 = .ok (.iconst 3, 1) := by decide +kernel
theorem dX3_reasonNotToCome_48 : decode cX3_reasonNotToCome 48 = .ok (.goto 4, 3) := by decide +kernel
theorem dX3_reasonNotToCome_51 : decode cX3_reasonNotToCome 51 = .ok (.iconst 0, 1) := by decide +kernel
theorem dX3_reasonNotToCome_52 : decode cX3_reasonNotToCome 52 = .ok (.ireturn, 1) := by decide +kernel
theorem dX3_outcome_0 : decode cX3_outcome 0 = .ok (.iload_n 1, 1) := by decide +kernel
theorem dX3_outcome_1 : decode cX3_outcome 1 = .ok (.tableswitch 81 3 9 #[43, 48, 56, 61, 66, 71, 76], 43) := by decide +kernel
theorem dX3_outcome_44 : decode cX3_outcome 44 = .ok (.aload_n 0, 1) := by decide +kernel
theorem dX3_outcome_45 : decode cX3_outcome 45 = .ok (.getfield 62, 3) := by decide +kernel
theorem dX3_outcome_48 : decode cX3_outcome 48 = .ok (.ireturn, 1) := by decide +kernel
theorem dX3_outcome_49 : decode cX3_outcome 49 = .ok (.aload_n 0, 1) := by decide +kernel
theorem dX3_outcome_50 : decode cX3_outcome 50 = .ok (.getfield 28, 3) := by decide +kernel
theorem dX3_outcome_53 : decode cX3_outcome 53 = .ok (.invokevirtual 192, 3) := by decide +kernel
theorem dX3_outcome_56 : decode cX3_outcome 56 = .ok (.ireturn, 1) := by decide +kernel
theorem dX3_outcome_57 : decode cX3_outcome 57 = .ok (.aload_n 0, 1) := by decide +kernel
theorem dX3_outcome_58 : decode cX3_outcome 58 = .ok (.getfield 71, 3) := by decide +kernel
theorem dX3_outcome_61 : decode cX3_outcome 61 = .ok (.ireturn, 1) := by decide +kernel
theorem dX3_outcome_62 : decode cX3_outcome 62 = .ok (.aload_n 0, 1) := by decide +kernel
theorem dX3_outcome_63 : decode cX3_outcome 63 = .ok (.getfield 74, 3) := by decide +kernel
theorem dX3_outcome_66 : decode cX3_outcome 66 = .ok (.ireturn, 1) := by decide +kernel
theorem dX3_outcome_67 : decode cX3_outcome 67 = .ok (.aload_n 0, 1) := by decide +kernel
theorem dX3_outcome_68 : decode cX3_outcome 68 = .ok (.getfield 80, 3) := by decide +kernel
theorem dX3_outcome_71 : decode cX3_outcome 71 = .ok (.ireturn, 1) := by decide +kernel
theorem dX3_outcome_72 : decode cX3_outcome 72 = .ok (.aload_n 0, 1) := by decide +kernel
theorem dX3_outcome_73 : decode cX3_outcome 73 = .ok (.getfield 83, 3) := by decide +kernel
theorem dX3_outcome_76 : decode cX3_outcome 76 = .ok (.ireturn, 1) := by decide +kernel
theorem dX3_outcome_77 : decode cX3_outcome 77 = .ok (.aload_n 0, 1) := by decide +kernel
theorem dX3_outcome_78 : decode cX3_outcome 78 = .ok (.getfield 86, 3) := by decide +kernel
theorem dX3_outcome_81 : decode cX3_outcome 81 = .ok (.ireturn, 1) := by decide +kernel
theorem dX3_outcome_82 : decode cX3_outcome 82 = .ok (.iload_n 1, 1) := by decide +kernel
theorem dX3_outcome_83 : decode cX3_outcome 83 = .ok (.ifCond .lt 20, 3) := by decide +kernel
theorem dX3_outcome_86 : decode cX3_outcome 86 = .ok (.iload_n 1, 1) := by decide +kernel
theorem dX3_outcome_87 : decode cX3_outcome 87 = .ok (.iconst 3, 1) := by decide +kernel
theorem dX3_outcome_88 : decode cX3_outcome 88 = .ok (.if_icmp .ge 15, 3) := by decide +kernel
theorem dX3_outcome_91 : decode cX3_outcome 91 = .ok (.aload_n 0, 1) := by decide +kernel
theorem dX3_outcome_92 : decode cX3_outcome 92 = .ok (.getfield 12, 3) := by decide +kernel
theorem dX3_outcome_95 : decode cX3_outcome 95 = .ok (.getfield 155, 3) := by decide +kernel
theorem dX3_outcome_98 : decode cX3_outcome 98 = .ok (.iload_n 1, 1) := by decide +kernel
theorem dX3_outcome_99 : decode cX3_outcome 99 = .ok (.iaload, 1) := by decide +kernel
theorem dX3_outcome_100 : decode cX3_outcome 100 = .ok (.goto 4, 3) := by decide +kernel
theorem dX3_outcome_103 : decode cX3_outcome 103 = .ok (.iconst (-1), 1) := by decide +kernel
theorem dX3_outcome_104 : decode cX3_outcome 104 = .ok (.ireturn, 1) := by decide +kernel
theorem dX4_init_0 : decode cX4_init 0 = .ok (.aload_n 0, 1) := by decide +kernel
theorem dX4_init_1 : decode cX4_init 1 = .ok (.invokespecial 3, 3) := by decide +kernel
theorem dX4_init_4 : decode cX4_init 4 = .ok (.aload_n 0, 1) := by decide +kernel
theorem dX4_init_5 : decode cX4_init 5 = .ok (.bipush 60, 2) := by decide +kernel
theorem dX4_init_7 : decode cX4_init 7 = .ok (.newarray .char, 2) := by decide +kernel
theorem dX4_init_9 : decode cX4_init 9 = .ok (.putfield 9, 3) := by decide +kernel
theorem dX4_init_12 : decode cX4_init 12 = .ok (.aload_n 0, 1) := by decide +kernel
theorem dX4_init_13 : decode cX4_init 13 = .ok (.new 15, 3) := by decide +kernel
theorem dX4_init_16 : decode cX4_init 16 = .ok (.dup, 1) := by decide +kernel
theorem dX4_init_17 : decode cX4_init 17 = .ok (.invokespecial 17, 3) := by decide +kernel
theorem dX4_init_20 : decode cX4_init 20 = .ok (.putfield 18, 3) := by decide +kernel
theorem dX4_init_23 : decode cX4_init 23 = .ok (.return_, 1) := by decide +kernel
theorem dX4_add_0 : decode cX4_add 0 = .ok (.aload_n 0, 1) := by decide +kernel
theorem dX4_add_1 : decode cX4_add 1 = .ok (.getfield 22, 3) := by decide +kernel
theorem dX4_add_4 : decode cX4_add 4 = .ok (.ifCond .lt 12, 3) := by decide +kernel
theorem dX4_add_7 : decode cX4_add 7 = .ok (.aload_n 0, 1) := by decide +kernel
theorem dX4_add_8 : decode cX4_add 8 = .ok (.getfield 22, 3) := by decide +kernel
theorem dX4_add_11 : decode cX4_add 11 = .ok (.bipush 60, 2) := by decide +kernel
theorem dX4_add_13 : decode cX4_add 13 = .ok (.if_icmp .lt 4, 3) := by decide +kernel
theorem dX4_add_16 : decode cX4_add 16 = .ok (.return_, 1) := by decide +kernel
theorem dX4_add_17 : decode cX4_add 17 = .ok (.aload_n 0, 1) := by decide +kernel
theorem dX4_add_18 : decode cX4_add 18 = .ok (.getfield 9, 3) := by decide +kernel
theorem dX4_add_21 : decode cX4_add 21 = .ok (.aload_n 0, 1) := by decide +kernel
theorem dX4_add_22 : decode cX4_add 22 = .ok (.getfield 22, 3) := by decide +kernel
theorem dX4_add_25 : decode cX4_add 25 = .ok (.iload_n 1, 1) := by decide +kernel
theorem dX4_add_26 : decode cX4_add 26 = .ok (.castore, 1) := by decide +kernel
theorem dX4_add_27 : decode cX4_add 27 = .ok (.aload_n 0, 1) := by decide +kernel
theorem dX4_add_28 : decode cX4_add 28 = .ok (.dup, 1) := by decide +kernel
theorem dX4_add_29 : decode cX4_add 29 = .ok (.getfield 22, 3) := by decide +kernel
theorem dX4_add_32 : decode cX4_add 32 = .ok (.iconst 1, 1) := by decide +kernel
theorem dX4_add_33 : decode cX4_add 33 = .ok (.iadd, 1) := by decide +kernel
theorem dX4_add_34 : decode cX4_add 34 = .ok (.putfield 22, 3) := by decide +kernel
theorem dX4_add_37 : decode cX4_add 37 = .ok (.return_, 1) := by decide +kernel
theorem dX4_readToError_0 : decode cX4_readToError 0 = .ok (.aload_n 0, 1) := by decide +kernel
theorem dX4_readToError_1 : decode cX4_readToError 1 = .ok (.getfield 18, 3) := by decide +kernel
theorem dX4_readToError_4 : decode cX4_readToError 4 = .ok (.invokevirtual 26, 3) := by decide +kernel
theorem dX4_readToError_7 : decode cX4_readToError 7 = .ok (.iconst 0, 1) := by decide +kernel
theorem dX4_readToError_8 : decode cX4_readToError 8 = .ok (.istore_n 1, 1) := by decide +kernel
theorem dX4_readToError_9 : decode cX4_readToError 9 = .ok (.iload_n 1, 1) := by decide +kernel
theorem dX4_readToError_10 : decode cX4_readToError 10 = .ok (.aload_n 0, 1) := by decide +kernel
theorem dX4_readToError_11 : decode cX4_readToError 11 = .ok (.getfield 22, 3) := by decide +kernel
theorem dX4_readToError_14 : decode cX4_readToError 14 = .ok (.if_icmp .ge 33, 3) := by decide +kernel
theorem dX4_readToError_17 : decode cX4_readToError 17 = .ok (.iload_n 1, 1) := by decide +kernel
theorem dX4_readToError_18 : decode cX4_readToError 18 = .ok (.bipush 60, 2) := by decide +kernel
theorem dX4_readToError_20 : decode cX4_readToError 20 = .ok (.if_icmp .ge 27, 3) := by decide +kernel
theorem dX4_readToError_23 : decode cX4_readToError 23 = .ok (.aload_n 0, 1) := by decide +kernel
theorem dX4_readToError_24 : decode cX4_readToError 24 = .ok (.getfield 18, 3) := by decide +kernel
theorem dX4_readToError_27 : decode cX4_readToError 27 = .ok (.aload_n 0, 1) := by decide +kernel
theorem dX4_readToError_28 : decode cX4_readToError 28 = .ok (.getfield 9, 3) := by decide +kernel
theorem dX4_readToError_31 : decode cX4_readToError 31 = .ok (.iload_n 1, 1) := by decide +kernel
theorem dX4_readToError_32 : decode cX4_readToError 32 = .ok (.caload, 1) := by decide +kernel
theorem dX4_readToError_33 : decode cX4_readToError 33 = .ok (.invokevirtual 29, 3) := by decide +kernel
theorem dX4_readToError_36 : decode cX4_readToError 36 = .ok (.ifCond .ne 5, 3) := by decide +kernel
theorem dX4_readToError_39 : decode cX4_readToError 39 = .ok (.iload_n 1, 1) := by decide +kernel
theorem dX4_readToError_40 : decode cX4_readToError 40 = .ok (.ireturn, 1) := by decide +kernel
theorem dX4_readToError_41 : decode cX4_readToError 41 = .ok (.iinc 1 1, 3) := by decide +kernel
theorem dX4_readToError_44 : decode cX4_readToError 44 = .ok (.goto (-35), 3) := by decide +kernel
theorem dX4_readToError_47 : decode cX4_readToError 47 = .ok (.aload_n 0, 1) := by decide +kernel
theorem dX4_readToError_48 : decode cX4_readToError 48 = .ok (.getfield 22, 3) := by decide +kernel
theorem dX4_readToError_51 : decode cX4_readToError 51 = .ok (.ireturn, 1) := by decide +kernel
theorem dX4_isListOfRounds_0 : decode cX4_isListOfRounds 0 = .ok (.aload_n 0, 1) := by decide +kernel
theorem dX4_isListOfRounds_1 : decode cX4_isListOfRounds 1 = .ok (.invokevirtual 33, 3) := by decide +kernel
theorem dX4_isListOfRounds_4 : decode cX4_isListOfRounds 4 = .ok (.aload_n 0, 1) := by decide +kernel
theorem dX4_isListOfRounds_5 : decode cX4_isListOfRounds 5 = .ok (.getfield 22, 3) := by decide +kernel
theorem dX4_isListOfRounds_8 : decode cX4_isListOfRounds 8 = .ok (.if_icmp .ne 17, 3) := by decide +kernel
theorem dX4_isListOfRounds_11 : decode cX4_isListOfRounds 11 = .ok (.aload_n 0, 1) := by decide +kernel
theorem dX4_isListOfRounds_12 : decode cX4_isListOfRounds 12 = .ok (.getfield 18, 3) := by decide +kernel
theorem dX4_isListOfRounds_15 : decode cX4_isListOfRounds 15 = .ok (.invokevirtual 37, 3) := by decide +kernel
theorem dX4_isListOfRounds_18 : decode cX4_isListOfRounds 18 = .ok (.ifCond .eq 7, 3) := by decide +kernel
theorem dX4_isListOfRounds_21 : decode cX4_isListOfRounds 21 = .ok (.iconst 1, 1) := by decide +kernel
theorem dX4_isListOfRounds_22 : decode cX4_isListOfRounds 22 = .ok (.goto 4, 3) := by decide +kernel
theorem dX4_isListOfRounds_25 : decode cX4_isListOfRounds 25 = .ok (.iconst 0, 1) := by decide +kernel
theorem dX4_isListOfRounds_26 : decode cX4_isListOfRounds 26 = .ok (.ireturn, 1) := by decide +kernel
theorem dX4_separators_0 : decode cX4_separators 0 = .ok (.iconst 0, 1) := by decide +kernel
theorem dX4_separators_1 : decode cX4_separators 1 = .ok (.istore_n 1, 1) := by decide +kernel
theorem dX4_separators_2 : decode cX4_separators 2 = .ok (.iconst 0, 1) := by decide +kernel
theorem dX4_separators_3 : decode cX4_separators 3 = .ok (.istore_n 2, 1) := by decide +kernel
theorem dX4_separators_4 : decode cX4_separators 4 = .ok (.iload_n 2, 1) := by decide +kernel
theorem dX4_separators_5 : decode cX4_separators 5 = .ok (.aload_n 0, 1) := by decide +kernel
theorem dX4_separators_6 : decode cX4_separators 6 = .ok (.getfield 22, 3) := by decide +kernel
theorem dX4_separators_9 : decode cX4_separators 9 = .ok (.if_icmp .ge 29, 3) := by decide +kernel
theorem dX4_separators_12 : decode cX4_separators 12 = .ok (.iload_n 2, 1) := by decide +kernel
theorem dX4_separators_13 : decode cX4_separators 13 = .ok (.bipush 60, 2) := by decide +kernel
theorem dX4_separators_15 : decode cX4_separators 15 = .ok (.if_icmp .ge 23, 3) := by decide +kernel
theorem dX4_separators_18 : decode cX4_separators 18 = .ok (.aload_n 0, 1) := by decide +kernel
theorem dX4_separators_19 : decode cX4_separators 19 = .ok (.getfield 9, 3) := by decide +kernel
theorem dX4_separators_22 : decode cX4_separators 22 = .ok (.iload_n 2, 1) := by decide +kernel
theorem dX4_separators_23 : decode cX4_separators 23 = .ok (.caload, 1) := by decide +kernel
theorem dX4_separators_24 : decode cX4_separators 24 = .ok (.bipush 44, 2) := by decide +kernel
theorem dX4_separators_26 : decode cX4_separators 26 = .ok (.if_icmp .ne 6, 3) := by decide +kernel
theorem dX4_separators_29 : decode cX4_separators 29 = .ok (.iinc 1 1, 3) := by decide +kernel
theorem dX4_separators_32 : decode cX4_separators 32 = .ok (.iinc 2 1, 3) := by decide +kernel
theorem dX4_separators_35 : decode cX4_separators 35 = .ok (.goto (-31), 3) := by decide +kernel
theorem dX4_separators_38 : decode cX4_separators 38 = .ok (.iload_n 1, 1) := by decide +kernel
theorem dX4_separators_39 : decode cX4_separators 39 = .ok (.ireturn, 1) := by decide +kernel
theorem dX4_hireInto_0 : decode cX4_hireInto 0 = .ok (.aload_n 1, 1) := by decide +kernel
theorem dX4_hireInto_1 : decode cX4_hireInto 1 = .ok (.iconst 0, 1) := by decide +kernel
theorem dX4_hireInto_2 : decode cX4_hireInto 2 = .ok (.putfield 41, 3) := by decide +kernel
theorem dX4_hireInto_5 : decode cX4_hireInto 5 = .ok (.aload_n 0, 1) := by decide +kernel
theorem dX4_hireInto_6 : decode cX4_hireInto 6 = .ok (.getfield 18, 3) := by decide +kernel
theorem dX4_hireInto_9 : decode cX4_hireInto 9 = .ok (.invokevirtual 26, 3) := by decide +kernel
theorem dX4_hireInto_12 : decode cX4_hireInto 12 = .ok (.iconst 0, 1) := by decide +kernel
theorem dX4_hireInto_13 : decode cX4_hireInto 13 = .ok (.istore_n 3, 1) := by decide +kernel
theorem dX4_hireInto_14 : decode cX4_hireInto 14 = .ok (.iload_n 3, 1) := by decide +kernel
theorem dX4_hireInto_15 : decode cX4_hireInto 15 = .ok (.aload_n 0, 1) := by decide +kernel
theorem dX4_hireInto_16 : decode cX4_hireInto 16 = .ok (.getfield 22, 3) := by decide +kernel
theorem dX4_hireInto_19 : decode cX4_hireInto 19 = .ok (.if_icmp .ge 49, 3) := by decide +kernel
theorem dX4_hireInto_22 : decode cX4_hireInto 22 = .ok (.iload_n 3, 1) := by decide +kernel
theorem dX4_hireInto_23 : decode cX4_hireInto 23 = .ok (.bipush 60, 2) := by decide +kernel
theorem dX4_hireInto_25 : decode cX4_hireInto 25 = .ok (.if_icmp .ge 43, 3) := by decide +kernel
theorem dX4_hireInto_28 : decode cX4_hireInto 28 = .ok (.aload_n 0, 1) := by decide +kernel
theorem dX4_hireInto_29 : decode cX4_hireInto 29 = .ok (.getfield 9, 3) := by decide +kernel
theorem dX4_hireInto_32 : decode cX4_hireInto 32 = .ok (.iload_n 3, 1) := by decide +kernel
theorem dX4_hireInto_33 : decode cX4_hireInto 33 = .ok (.caload, 1) := by decide +kernel
theorem dX4_hireInto_34 : decode cX4_hireInto 34 = .ok (.bipush 44, 2) := by decide +kernel
theorem dX4_hireInto_36 : decode cX4_hireInto 36 = .ok (.if_icmp .ne 12, 3) := by decide +kernel
theorem dX4_hireInto_39 : decode cX4_hireInto 39 = .ok (.aload_n 0, 1) := by decide +kernel
theorem dX4_hireInto_40 : decode cX4_hireInto 40 = .ok (.getfield 18, 3) := by decide +kernel
theorem dX4_hireInto_43 : decode cX4_hireInto 43 = .ok (.aload_n 1, 1) := by decide +kernel
theorem dX4_hireInto_44 : decode cX4_hireInto 44 = .ok (.iload_n 2, 1) := by decide +kernel
theorem dX4_hireInto_45 : decode cX4_hireInto 45 = .ok (.invokevirtual 46, 3) := by decide +kernel
theorem dX4_hireInto_48 : decode cX4_hireInto 48 = .ok (.aload_n 0, 1) := by decide +kernel
theorem dX4_hireInto_49 : decode cX4_hireInto 49 = .ok (.getfield 18, 3) := by decide +kernel
theorem dX4_hireInto_52 : decode cX4_hireInto 52 = .ok (.aload_n 0, 1) := by decide +kernel
theorem dX4_hireInto_53 : decode cX4_hireInto 53 = .ok (.getfield 9, 3) := by decide +kernel
theorem dX4_hireInto_56 : decode cX4_hireInto 56 = .ok (.iload_n 3, 1) := by decide +kernel
theorem dX4_hireInto_57 : decode cX4_hireInto 57 = .ok (.caload, 1) := by decide +kernel
theorem dX4_hireInto_58 : decode cX4_hireInto 58 = .ok (.invokevirtual 29, 3) := by decide +kernel
theorem dX4_hireInto_61 : decode cX4_hireInto 61 = .ok (.pop, 1) := by decide +kernel
theorem dX4_hireInto_62 : decode cX4_hireInto 62 = .ok (.iinc 3 1, 3) := by decide +kernel
theorem dX4_hireInto_65 : decode cX4_hireInto 65 = .ok (.goto (-51), 3) := by decide +kernel
theorem dX4_hireInto_68 : decode cX4_hireInto 68 = .ok (.aload_n 0, 1) := by decide +kernel
theorem dX4_hireInto_69 : decode cX4_hireInto 69 = .ok (.getfield 18, 3) := by decide +kernel
theorem dX4_hireInto_72 : decode cX4_hireInto 72 = .ok (.aload_n 1, 1) := by decide +kernel
theorem dX4_hireInto_73 : decode cX4_hireInto 73 = .ok (.iload_n 2, 1) := by decide +kernel
theorem dX4_hireInto_74 : decode cX4_hireInto 74 = .ok (.invokevirtual 46, 3) := by decide +kernel
theorem dX4_hireInto_77 : decode cX4_hireInto 77 = .ok (.return_, 1) := by decide +kernel
theorem dX5_init_0 : decode cX5_init 0 = .ok (.aload_n 0, 1) := by decide +kernel
theorem dX5_init_1 : decode cX5_init 1 = .ok (.invokespecial 3, 3) := by decide +kernel
theorem dX5_init_4 : decode cX5_init 4 = .ok (.aload_n 0, 1) := by decide +kernel
theorem dX5_init_5 : decode cX5_init 5 = .ok (.iconst 3, 1) := by decide +kernel
theorem dX5_init_6 : decode cX5_init 6 = .ok (.newarray .int, 2) := by decide +kernel
theorem dX5_init_8 : decode cX5_init 8 = .ok (.putfield 9, 3) := by decide +kernel
theorem dX5_init_11 : decode cX5_init 11 = .ok (.aload_n 0, 1) := by decide +kernel
theorem dX5_init_12 : decode cX5_init 12 = .ok (.iconst 3, 1) := by decide +kernel
theorem dX5_init_13 : decode cX5_init 13 = .ok (.newarray .int, 2) := by decide +kernel
theorem dX5_init_15 : decode cX5_init 15 = .ok (.putfield 15, 3) := by decide +kernel
theorem dX5_init_18 : decode cX5_init 18 = .ok (.aload_n 0, 1) := by decide +kernel
theorem dX5_init_19 : decode cX5_init 19 = .ok (.iconst 3, 1) := by decide +kernel
theorem dX5_init_20 : decode cX5_init 20 = .ok (.newarray .int, 2) := by decide +kernel
theorem dX5_init_22 : decode cX5_init 22 = .ok (.putfield 18, 3) := by decide +kernel
theorem dX5_init_25 : decode cX5_init 25 = .ok (.iconst 0, 1) := by decide +kernel
theorem dX5_init_26 : decode cX5_init 26 = .ok (.istore_n 1, 1) := by decide +kernel
theorem dX5_init_27 : decode cX5_init 27 = .ok (.iload_n 1, 1) := by decide +kernel
theorem dX5_init_28 : decode cX5_init 28 = .ok (.iconst 3, 1) := by decide +kernel
theorem dX5_init_29 : decode cX5_init 29 = .ok (.if_icmp .ge 18, 3) := by decide +kernel
theorem dX5_init_32 : decode cX5_init 32 = .ok (.aload_n 0, 1) := by decide +kernel
theorem dX5_init_33 : decode cX5_init 33 = .ok (.getfield 9, 3) := by decide +kernel
theorem dX5_init_36 : decode cX5_init 36 = .ok (.iload_n 1, 1) := by decide +kernel
theorem dX5_init_37 : decode cX5_init 37 = .ok (.sipush 200, 3) := by decide +kernel
theorem dX5_init_40 : decode cX5_init 40 = .ok (.iastore, 1) := by decide +kernel
theorem dX5_init_41 : decode cX5_init 41 = .ok (.iinc 1 1, 3) := by decide +kernel
theorem dX5_init_44 : decode cX5_init 44 = .ok (.goto (-17), 3) := by decide +kernel
theorem dX5_init_47 : decode cX5_init 47 = .ok (.return_, 1) := by decide +kernel
theorem dX5_copyFrom_0 : decode cX5_copyFrom 0 = .ok (.iconst 0, 1) := by decide +kernel
theorem dX5_copyFrom_1 : decode cX5_copyFrom 1 = .ok (.istore_n 2, 1) := by decide +kernel
theorem dX5_copyFrom_2 : decode cX5_copyFrom 2 = .ok (.iload_n 2, 1) := by decide +kernel
theorem dX5_copyFrom_3 : decode cX5_copyFrom 3 = .ok (.iconst 3, 1) := by decide +kernel
theorem dX5_copyFrom_4 : decode cX5_copyFrom 4 = .ok (.if_icmp .ge 45, 3) := by decide +kernel
theorem dX5_copyFrom_7 : decode cX5_copyFrom 7 = .ok (.aload_n 0, 1) := by decide +kernel
theorem dX5_copyFrom_8 : decode cX5_copyFrom 8 = .ok (.getfield 9, 3) := by decide +kernel
theorem dX5_copyFrom_11 : decode cX5_copyFrom 11 = .ok (.iload_n 2, 1) := by decide +kernel
theorem dX5_copyFrom_12 : decode cX5_copyFrom 12 = .ok (.aload_n 1, 1) := by decide +kernel
theorem dX5_copyFrom_13 : decode cX5_copyFrom 13 = .ok (.getfield 9, 3) := by decide +kernel
theorem dX5_copyFrom_16 : decode cX5_copyFrom 16 = .ok (.iload_n 2, 1) := by decide +kernel
theorem dX5_copyFrom_17 : decode cX5_copyFrom 17 = .ok (.iaload, 1) := by decide +kernel
theorem dX5_copyFrom_18 : decode cX5_copyFrom 18 = .ok (.iastore, 1) := by decide +kernel
theorem dX5_copyFrom_19 : decode cX5_copyFrom 19 = .ok (.aload_n 0, 1) := by decide +kernel
theorem dX5_copyFrom_20 : decode cX5_copyFrom 20 = .ok (.getfield 15, 3) := by decide +kernel
theorem dX5_copyFrom_23 : decode cX5_copyFrom 23 = .ok (.iload_n 2, 1) := by decide +kernel
theorem dX5_copyFrom_24 : decode cX5_copyFrom 24 = .ok (.aload_n 1, 1) := by decide +kernel
theorem dX5_copyFrom_25 : decode cX5_copyFrom 25 = .ok (.getfield 15, 3) := by decide +kernel
theorem dX5_copyFrom_28 : decode cX5_copyFrom 28 = .ok (.iload_n 2, 1) := by decide +kernel
theorem dX5_copyFrom_29 : decode cX5_copyFrom 29 = .ok (.iaload, 1) := by decide +kernel
theorem dX5_copyFrom_30 : decode cX5_copyFrom 30 = .ok (.iastore, 1) := by decide +kernel
theorem dX5_copyFrom_31 : decode cX5_copyFrom 31 = .ok (.aload_n 0, 1) := by decide +kernel
theorem dX5_copyFrom_32 : decode cX5_copyFrom 32 = .ok (.getfield 18, 3) := by decide +kernel
theorem dX5_copyFrom_35 : decode cX5_copyFrom 35 = .ok (.iload_n 2, 1) := by decide +kernel
theorem dX5_copyFrom_36 : decode cX5_copyFrom 36 = .ok (.aload_n 1, 1) := by decide +kernel
theorem dX5_copyFrom_37 : decode cX5_copyFrom 37 = .ok (.getfield 18, 3) := by decide +kernel
theorem dX5_copyFrom_40 : decode cX5_copyFrom 40 = .ok (.iload_n 2, 1) := by decide +kernel
theorem dX5_copyFrom_41 : decode cX5_copyFrom 41 = .ok (.iaload, 1) := by decide +kernel
theorem dX5_copyFrom_42 : decode cX5_copyFrom 42 = .ok (.iastore, 1) := by decide +kernel
theorem dX5_copyFrom_43 : decode cX5_copyFrom 43 = .ok (.iinc 2 1, 3) := by decide +kernel
theorem dX5_copyFrom_46 : decode cX5_copyFrom 46 = .ok (.goto (-44), 3) := by decide +kernel
theorem dX5_copyFrom_49 : decode cX5_copyFrom 49 = .ok (.return_, 1) := by decide +kernel
theorem dX5_raise_0 : decode cX5_raise 0 = .ok (.iload_n 1, 1) := by decide +kernel
theorem dX5_raise_1 : decode cX5_raise 1 = .ok (.ifCond .lt 8, 3) := by decide +kernel
theorem dX5_raise_4 : decode cX5_raise 4 = .ok (.iload_n 1, 1) := by decide +kernel
theorem dX5_raise_5 : decode cX5_raise 5 = .ok (.iconst 3, 1) := by decide +kernel
theorem dX5_raise_6 : decode cX5_raise 6 = .ok (.if_icmp .lt 5, 3) := by decide +kernel
theorem dX5_raise_9 : decode cX5_raise 9 = .ok (.iconst 0, 1) := by decide +kernel
theorem dX5_raise_10 : decode cX5_raise 10 = .ok (.ireturn, 1) := by decide +kernel
theorem dX5_raise_11 : decode cX5_raise 11 = .ok (.iload_n 2, 1) := by decide +kernel
theorem dX5_raise_12 : decode cX5_raise 12 = .ok (.sipush 200, 3) := by decide +kernel
theorem dX5_raise_15 : decode cX5_raise 15 = .ok (.aload_n 0, 1) := by decide +kernel
theorem dX5_raise_16 : decode cX5_raise 16 = .ok (.getfield 9, 3) := by decide +kernel
theorem dX5_raise_19 : decode cX5_raise 19 = .ok (.iload_n 1, 1) := by decide +kernel
theorem dX5_raise_20 : decode cX5_raise 20 = .ok (.iaload, 1) := by decide +kernel
theorem dX5_raise_21 : decode cX5_raise 21 = .ok (.isub, 1) := by decide +kernel
theorem dX5_raise_22 : decode cX5_raise 22 = .ok (.invokestatic 21, 3) := by decide +kernel
theorem dX5_raise_25 : decode cX5_raise 25 = .ok (.istore_n 3, 1) := by decide +kernel
theorem dX5_raise_26 : decode cX5_raise 26 = .ok (.aload_n 0, 1) := by decide +kernel
theorem dX5_raise_27 : decode cX5_raise 27 = .ok (.getfield 9, 3) := by decide +kernel
theorem dX5_raise_30 : decode cX5_raise 30 = .ok (.iload_n 1, 1) := by decide +kernel
theorem dX5_raise_31 : decode cX5_raise 31 = .ok (.dup2, 1) := by decide +kernel
theorem dX5_raise_32 : decode cX5_raise 32 = .ok (.iaload, 1) := by decide +kernel
theorem dX5_raise_33 : decode cX5_raise 33 = .ok (.iload_n 3, 1) := by decide +kernel
theorem dX5_raise_34 : decode cX5_raise 34 = .ok (.iadd, 1) := by decide +kernel
theorem dX5_raise_35 : decode cX5_raise 35 = .ok (.iastore, 1) := by decide +kernel
theorem dX5_raise_36 : decode cX5_raise 36 = .ok (.aload_n 0, 1) := by decide +kernel
theorem dX5_raise_37 : decode cX5_raise 37 = .ok (.getfield 18, 3) := by decide +kernel
theorem dX5_raise_40 : decode cX5_raise 40 = .ok (.iload_n 1, 1) := by decide +kernel
theorem dX5_raise_41 : decode cX5_raise 41 = .ok (.dup2, 1) := by decide +kernel
theorem dX5_raise_42 : decode cX5_raise 42 = .ok (.iaload, 1) := by decide +kernel
theorem dX5_raise_43 : decode cX5_raise 43 = .ok (.iload_n 3, 1) := by decide +kernel
theorem dX5_raise_44 : decode cX5_raise 44 = .ok (.iadd, 1) := by decide +kernel
theorem dX5_raise_45 : decode cX5_raise 45 = .ok (.iastore, 1) := by decide +kernel
theorem dX5_raise_46 : decode cX5_raise 46 = .ok (.iload_n 3, 1) := by decide +kernel
theorem dX5_raise_47 : decode cX5_raise 47 = .ok (.ireturn, 1) := by decide +kernel
theorem dX5_take_0 : decode cX5_take 0 = .ok (.iload_n 1, 1) := by decide +kernel
theorem dX5_take_1 : decode cX5_take 1 = .ok (.ifCond .lt 8, 3) := by decide +kernel
theorem dX5_take_4 : decode cX5_take 4 = .ok (.iload_n 1, 1) := by decide +kernel
theorem dX5_take_5 : decode cX5_take 5 = .ok (.iconst 3, 1) := by decide +kernel
theorem dX5_take_6 : decode cX5_take 6 = .ok (.if_icmp .lt 4, 3) := by decide +kernel
theorem dX5_take_9 : decode cX5_take 9 = .ok (.return_, 1) := by decide +kernel
theorem dX5_take_10 : decode cX5_take 10 = .ok (.aload_n 0, 1) := by decide +kernel
theorem dX5_take_11 : decode cX5_take 11 = .ok (.getfield 9, 3) := by decide +kernel
theorem dX5_take_14 : decode cX5_take 14 = .ok (.iload_n 1, 1) := by decide +kernel
theorem dX5_take_15 : decode cX5_take 15 = .ok (.dup2, 1) := by decide +kernel
theorem dX5_take_16 : decode cX5_take 16 = .ok (.iaload, 1) := by decide +kernel
theorem dX5_take_17 : decode cX5_take 17 = .ok (.iload_n 2, 1) := by decide +kernel
theorem dX5_take_18 : decode cX5_take 18 = .ok (.isub, 1) := by decide +kernel
theorem dX5_take_19 : decode cX5_take 19 = .ok (.iastore, 1) := by decide +kernel
theorem dX5_take_20 : decode cX5_take 20 = .ok (.aload_n 0, 1) := by decide +kernel
theorem dX5_take_21 : decode cX5_take 21 = .ok (.getfield 15, 3) := by decide +kernel
theorem dX5_take_24 : decode cX5_take 24 = .ok (.iload_n 1, 1) := by decide +kernel
theorem dX5_take_25 : decode cX5_take 25 = .ok (.dup2, 1) := by decide +kernel
theorem dX5_take_26 : decode cX5_take 26 = .ok (.iaload, 1) := by decide +kernel
theorem dX5_take_27 : decode cX5_take 27 = .ok (.iload_n 2, 1) := by decide +kernel
theorem dX5_take_28 : decode cX5_take 28 = .ok (.iadd, 1) := by decide +kernel
theorem dX5_take_29 : decode cX5_take 29 = .ok (.iastore, 1) := by decide +kernel
theorem dX5_take_30 : decode cX5_take 30 = .ok (.return_, 1) := by decide +kernel
theorem dX5_firstDown_0 : decode cX5_firstDown 0 = .ok (.iconst 0, 1) := by decide +kernel
theorem dX5_firstDown_1 : decode cX5_firstDown 1 = .ok (.istore_n 1, 1) := by decide +kernel
theorem dX5_firstDown_2 : decode cX5_firstDown 2 = .ok (.iload_n 1, 1) := by decide +kernel
theorem dX5_firstDown_3 : decode cX5_firstDown 3 = .ok (.iconst 3, 1) := by decide +kernel
theorem dX5_firstDown_4 : decode cX5_firstDown 4 = .ok (.if_icmp .ge 20, 3) := by decide +kernel
theorem dX5_firstDown_7 : decode cX5_firstDown 7 = .ok (.aload_n 0, 1) := by decide +kernel
theorem dX5_firstDown_8 : decode cX5_firstDown 8 = .ok (.getfield 9, 3) := by decide +kernel
theorem dX5_firstDown_11 : decode cX5_firstDown 11 = .ok (.iload_n 1, 1) := by decide +kernel
theorem dX5_firstDown_12 : decode cX5_firstDown 12 = .ok (.iaload, 1) := by decide +kernel
theorem dX5_firstDown_13 : decode cX5_firstDown 13 = .ok (.ifCond .ne 5, 3) := by decide +kernel
theorem dX5_firstDown_16 : decode cX5_firstDown 16 = .ok (.iload_n 1, 1) := by decide +kernel
theorem dX5_firstDown_17 : decode cX5_firstDown 17 = .ok (.ireturn, 1) := by decide +kernel
theorem dX5_firstDown_18 : decode cX5_firstDown 18 = .ok (.iinc 1 1, 3) := by decide +kernel
theorem dX5_firstDown_21 : decode cX5_firstDown 21 = .ok (.goto (-19), 3) := by decide +kernel
theorem dX5_firstDown_24 : decode cX5_firstDown 24 = .ok (.iconst (-1), 1) := by decide +kernel
theorem dX5_firstDown_25 : decode cX5_firstDown 25 = .ok (.ireturn, 1) := by decide +kernel
theorem dX6_init_0 : decode cX6_init 0 = .ok (.aload_n 0, 1) := by decide +kernel
theorem dX6_init_1 : decode cX6_init 1 = .ok (.invokespecial 3, 3) := by decide +kernel
theorem dX6_init_4 : decode cX6_init 4 = .ok (.aload_n 0, 1) := by decide +kernel
theorem dX6_init_5 : decode cX6_init 5 = .ok (.bipush 6, 2) := by decide +kernel
theorem dX6_init_7 : decode cX6_init 7 = .ok (.newarray .int, 2) := by decide +kernel
theorem dX6_init_9 : decode cX6_init 9 = .ok (.putfield 9, 3) := by decide +kernel
theorem dX6_init_12 : decode cX6_init 12 = .ok (.aload_n 0, 1) := by decide +kernel
theorem dX6_init_13 : decode cX6_init 13 = .ok (.bipush 6, 2) := by decide +kernel
theorem dX6_init_15 : decode cX6_init 15 = .ok (.newarray .int, 2) := by decide +kernel
theorem dX6_init_17 : decode cX6_init 17 = .ok (.putfield 15, 3) := by decide +kernel
theorem dX6_init_20 : decode cX6_init 20 = .ok (.aload_n 0, 1) := by decide +kernel
theorem dX6_init_21 : decode cX6_init 21 = .ok (.bipush 6, 2) := by decide +kernel
theorem dX6_init_23 : decode cX6_init 23 = .ok (.newarray .int, 2) := by decide +kernel
theorem dX6_init_25 : decode cX6_init 25 = .ok (.putfield 18, 3) := by decide +kernel
theorem dX6_init_28 : decode cX6_init 28 = .ok (.aload_n 0, 1) := by decide +kernel
theorem dX6_init_29 : decode cX6_init 29 = .ok (.bipush 6, 2) := by decide +kernel
theorem dX6_init_31 : decode cX6_init 31 = .ok (.newarray .int, 2) := by decide +kernel
theorem dX6_init_33 : decode cX6_init 33 = .ok (.putfield 21, 3) := by decide +kernel
theorem dX6_init_36 : decode cX6_init 36 = .ok (.aload_n 0, 1) := by decide +kernel
theorem dX6_init_37 : decode cX6_init 37 = .ok (.bipush 6, 2) := by decide +kernel
theorem dX6_init_39 : decode cX6_init 39 = .ok (.newarray .int, 2) := by decide +kernel
theorem dX6_init_41 : decode cX6_init 41 = .ok (.putfield 24, 3) := by decide +kernel
theorem dX6_init_44 : decode cX6_init 44 = .ok (.return_, 1) := by decide +kernel
theorem dX6_copyFrom_0 : decode cX6_copyFrom 0 = .ok (.aload_n 0, 1) := by decide +kernel
theorem dX6_copyFrom_1 : decode cX6_copyFrom 1 = .ok (.aload_n 1, 1) := by decide +kernel
theorem dX6_copyFrom_2 : decode cX6_copyFrom 2 = .ok (.getfield 27, 3) := by decide +kernel
theorem dX6_copyFrom_5 : decode cX6_copyFrom 5 = .ok (.putfield 27, 3) := by decide +kernel
theorem dX6_copyFrom_8 : decode cX6_copyFrom 8 = .ok (.iconst 0, 1) := by decide +kernel
theorem dX6_copyFrom_9 : decode cX6_copyFrom 9 = .ok (.istore_n 2, 1) := by decide +kernel
theorem dX6_copyFrom_10 : decode cX6_copyFrom 10 = .ok (.iload_n 2, 1) := by decide +kernel
theorem dX6_copyFrom_11 : decode cX6_copyFrom 11 = .ok (.aload_n 0, 1) := by decide +kernel
theorem dX6_copyFrom_12 : decode cX6_copyFrom 12 = .ok (.getfield 27, 3) := by decide +kernel
theorem dX6_copyFrom_15 : decode cX6_copyFrom 15 = .ok (.if_icmp .ge 22, 3) := by decide +kernel
theorem dX6_copyFrom_18 : decode cX6_copyFrom 18 = .ok (.iload_n 2, 1) := by decide +kernel
theorem dX6_copyFrom_19 : decode cX6_copyFrom 19 = .ok (.bipush 6, 2) := by decide +kernel
theorem dX6_copyFrom_21 : decode cX6_copyFrom 21 = .ok (.if_icmp .ge 16, 3) := by decide +kernel
theorem dX6_copyFrom_24 : decode cX6_copyFrom 24 = .ok (.aload_n 0, 1) := by decide +kernel
theorem dX6_copyFrom_25 : decode cX6_copyFrom 25 = .ok (.aload_n 1, 1) := by decide +kernel
theorem dX6_copyFrom_26 : decode cX6_copyFrom 26 = .ok (.iload_n 2, 1) := by decide +kernel
theorem dX6_copyFrom_27 : decode cX6_copyFrom 27 = .ok (.iload_n 2, 1) := by decide +kernel
theorem dX6_copyFrom_28 : decode cX6_copyFrom 28 = .ok (.invokevirtual 31, 3) := by decide +kernel
theorem dX6_copyFrom_31 : decode cX6_copyFrom 31 = .ok (.iinc 2 1, 3) := by decide +kernel
theorem dX6_copyFrom_34 : decode cX6_copyFrom 34 = .ok (.goto (-24), 3) := by decide +kernel
theorem dX6_copyFrom_37 : decode cX6_copyFrom 37 = .ok (.return_, 1) := by decide +kernel
theorem dX6_copyWinder_0 : decode cX6_copyWinder 0 = .ok (.iload_n 2, 1) := by decide +kernel
theorem dX6_copyWinder_1 : decode cX6_copyWinder 1 = .ok (.ifCond .lt 19, 3) := by decide +kernel
theorem dX6_copyWinder_4 : decode cX6_copyWinder 4 = .ok (.iload_n 2, 1) := by decide +kernel
theorem dX6_copyWinder_5 : decode cX6_copyWinder 5 = .ok (.bipush 6, 2) := by decide +kernel
theorem dX6_copyWinder_7 : decode cX6_copyWinder 7 = .ok (.if_icmp .ge 13, 3) := by decide +kernel
theorem dX6_copyWinder_10 : decode cX6_copyWinder 10 = .ok (.iload_n 3, 1) := by decide +kernel
theorem dX6_copyWinder_11 : decode cX6_copyWinder 11 = .ok (.ifCond .lt 9, 3) := by decide +kernel
theorem dX6_copyWinder_14 : decode cX6_copyWinder 14 = .ok (.iload_n 3, 1) := by decide +kernel
theorem dX6_copyWinder_15 : decode cX6_copyWinder 15 = .ok (.bipush 6, 2) := by decide +kernel
theorem dX6_copyWinder_17 : decode cX6_copyWinder 17 = .ok (.if_icmp .lt 4, 3) := by decide +kernel
theorem dX6_copyWinder_20 : decode cX6_copyWinder 20 = .ok (.return_, 1) := by decide +kernel
theorem dX6_copyWinder_21 : decode cX6_copyWinder 21 = .ok (.aload_n 0, 1) := by decide +kernel
theorem dX6_copyWinder_22 : decode cX6_copyWinder 22 = .ok (.getfield 9, 3) := by decide +kernel
theorem dX6_copyWinder_25 : decode cX6_copyWinder 25 = .ok (.iload_n 3, 1) := by decide +kernel
theorem dX6_copyWinder_26 : decode cX6_copyWinder 26 = .ok (.aload_n 1, 1) := by decide +kernel
theorem dX6_copyWinder_27 : decode cX6_copyWinder 27 = .ok (.getfield 9, 3) := by decide +kernel
theorem dX6_copyWinder_30 : decode cX6_copyWinder 30 = .ok (.iload_n 2, 1) := by decide +kernel
theorem dX6_copyWinder_31 : decode cX6_copyWinder 31 = .ok (.iaload, 1) := by decide +kernel
theorem dX6_copyWinder_32 : decode cX6_copyWinder 32 = .ok (.iastore, 1) := by decide +kernel
theorem dX6_copyWinder_33 : decode cX6_copyWinder 33 = .ok (.aload_n 0, 1) := by decide +kernel
theorem dX6_copyWinder_34 : decode cX6_copyWinder 34 = .ok (.getfield 15, 3) := by decide +kernel
theorem dX6_copyWinder_37 : decode cX6_copyWinder 37 = .ok (.iload_n 3, 1) := by decide +kernel
theorem dX6_copyWinder_38 : decode cX6_copyWinder 38 = .ok (.aload_n 1, 1) := by decide +kernel
theorem dX6_copyWinder_39 : decode cX6_copyWinder 39 = .ok (.getfield 15, 3) := by decide +kernel
theorem dX6_copyWinder_42 : decode cX6_copyWinder 42 = .ok (.iload_n 2, 1) := by decide +kernel
theorem dX6_copyWinder_43 : decode cX6_copyWinder 43 = .ok (.iaload, 1) := by decide +kernel
theorem dX6_copyWinder_44 : decode cX6_copyWinder 44 = .ok (.iastore, 1) := by decide +kernel
theorem dX6_copyWinder_45 : decode cX6_copyWinder 45 = .ok (.aload_n 0, 1) := by decide +kernel
theorem dX6_copyWinder_46 : decode cX6_copyWinder 46 = .ok (.getfield 18, 3) := by decide +kernel
theorem dX6_copyWinder_49 : decode cX6_copyWinder 49 = .ok (.iload_n 3, 1) := by decide +kernel
theorem dX6_copyWinder_50 : decode cX6_copyWinder 50 = .ok (.aload_n 1, 1) := by decide +kernel
theorem dX6_copyWinder_51 : decode cX6_copyWinder 51 = .ok (.getfield 18, 3) := by decide +kernel
theorem dX6_copyWinder_54 : decode cX6_copyWinder 54 = .ok (.iload_n 2, 1) := by decide +kernel
theorem dX6_copyWinder_55 : decode cX6_copyWinder 55 = .ok (.iaload, 1) := by decide +kernel
theorem dX6_copyWinder_56 : decode cX6_copyWinder 56 = .ok (.iastore, 1) := by decide +kernel
theorem dX6_copyWinder_57 : decode cX6_copyWinder 57 = .ok (.aload_n 0, 1) := by decide +kernel
theorem dX6_copyWinder_58 : decode cX6_copyWinder 58 = .ok (.getfield 21, 3) := by decide +kernel
theorem dX6_copyWinder_61 : decode cX6_copyWinder 61 = .ok (.iload_n 3, 1) := by decide +kernel
theorem dX6_copyWinder_62 : decode cX6_copyWinder 62 = .ok (.aload_n 1, 1) := by decide +kernel
theorem dX6_copyWinder_63 : decode cX6_copyWinder 63 = .ok (.getfield 21, 3) := by decide +kernel
theorem dX6_copyWinder_66 : decode cX6_copyWinder 66 = .ok (.iload_n 2, 1) := by decide +kernel
theorem dX6_copyWinder_67 : decode cX6_copyWinder 67 = .ok (.iaload, 1) := by decide +kernel
theorem dX6_copyWinder_68 : decode cX6_copyWinder 68 = .ok (.iastore, 1) := by decide +kernel
theorem dX6_copyWinder_69 : decode cX6_copyWinder 69 = .ok (.aload_n 0, 1) := by decide +kernel
theorem dX6_copyWinder_70 : decode cX6_copyWinder 70 = .ok (.getfield 24, 3) := by decide +kernel
theorem dX6_copyWinder_73 : decode cX6_copyWinder 73 = .ok (.iload_n 3, 1) := by decide +kernel
theorem dX6_copyWinder_74 : decode cX6_copyWinder 74 = .ok (.aload_n 1, 1) := by decide +kernel
theorem dX6_copyWinder_75 : decode cX6_copyWinder 75 = .ok (.getfield 24, 3) := by decide +kernel
theorem dX6_copyWinder_78 : decode cX6_copyWinder 78 = .ok (.iload_n 2, 1) := by decide +kernel
theorem dX6_copyWinder_79 : decode cX6_copyWinder 79 = .ok (.iaload, 1) := by decide +kernel
theorem dX6_copyWinder_80 : decode cX6_copyWinder 80 = .ok (.iastore, 1) := by decide +kernel
theorem dX6_copyWinder_81 : decode cX6_copyWinder 81 = .ok (.return_, 1) := by decide +kernel
theorem dX6_add_0 : decode cX6_add 0 = .ok (.aload_n 0, 1) := by decide +kernel
theorem dX6_add_1 : decode cX6_add 1 = .ok (.getfield 27, 3) := by decide +kernel
theorem dX6_add_4 : decode cX6_add 4 = .ok (.ifCond .lt 12, 3) := by decide +kernel
theorem dX6_add_7 : decode cX6_add 7 = .ok (.aload_n 0, 1) := by decide +kernel
theorem dX6_add_8 : decode cX6_add 8 = .ok (.getfield 27, 3) := by decide +kernel
theorem dX6_add_11 : decode cX6_add 11 = .ok (.bipush 6, 2) := by decide +kernel
theorem dX6_add_13 : decode cX6_add 13 = .ok (.if_icmp .lt 4, 3) := by decide +kernel
theorem dX6_add_16 : decode cX6_add 16 = .ok (.return_, 1) := by decide +kernel
theorem dX6_add_17 : decode cX6_add 17 = .ok (.aload_n 0, 1) := by decide +kernel
theorem dX6_add_18 : decode cX6_add 18 = .ok (.getfield 9, 3) := by decide +kernel
theorem dX6_add_21 : decode cX6_add 21 = .ok (.aload_n 0, 1) := by decide +kernel
theorem dX6_add_22 : decode cX6_add 22 = .ok (.getfield 27, 3) := by decide +kernel
theorem dX6_add_25 : decode cX6_add 25 = .ok (.iload_n 1, 1) := by decide +kernel
theorem dX6_add_26 : decode cX6_add 26 = .ok (.iastore, 1) := by decide +kernel
theorem dX6_add_27 : decode cX6_add 27 = .ok (.aload_n 0, 1) := by decide +kernel
theorem dX6_add_28 : decode cX6_add 28 = .ok (.getfield 15, 3) := by decide +kernel
theorem dX6_add_31 : decode cX6_add 31 = .ok (.aload_n 0, 1) := by decide +kernel
theorem dX6_add_32 : decode cX6_add 32 = .ok (.getfield 27, 3) := by decide +kernel
theorem dX6_add_35 : decode cX6_add 35 = .ok (.iload_n 2, 1) := by decide +kernel
theorem dX6_add_36 : decode cX6_add 36 = .ok (.iastore, 1) := by decide +kernel
theorem dX6_add_37 : decode cX6_add 37 = .ok (.aload_n 0, 1) := by decide +kernel
theorem dX6_add_38 : decode cX6_add 38 = .ok (.getfield 18, 3) := by decide +kernel
theorem dX6_add_41 : decode cX6_add 41 = .ok (.aload_n 0, 1) := by decide +kernel
theorem dX6_add_42 : decode cX6_add 42 = .ok (.getfield 27, 3) := by decide +kernel
theorem dX6_add_45 : decode cX6_add 45 = .ok (.iload_n 3, 1) := by decide +kernel
theorem dX6_add_46 : decode cX6_add 46 = .ok (.iastore, 1) := by decide +kernel
theorem dX6_add_47 : decode cX6_add 47 = .ok (.aload_n 0, 1) := by decide +kernel
theorem dX6_add_48 : decode cX6_add 48 = .ok (.getfield 21, 3) := by decide +kernel
theorem dX6_add_51 : decode cX6_add 51 = .ok (.aload_n 0, 1) := by decide +kernel
theorem dX6_add_52 : decode cX6_add 52 = .ok (.getfield 27, 3) := by decide +kernel
theorem dX6_add_55 : decode cX6_add 55 = .ok (.iload 4, 2) := by decide +kernel
theorem dX6_add_57 : decode cX6_add 57 = .ok (.iastore, 1) := by decide +kernel
theorem dX6_add_58 : decode cX6_add 58 = .ok (.aload_n 0, 1) := by decide +kernel
theorem dX6_add_59 : decode cX6_add 59 = .ok (.getfield 24, 3) := by decide +kernel
theorem dX6_add_62 : decode cX6_add 62 = .ok (.aload_n 0, 1) := by decide +kernel
theorem dX6_add_63 : decode cX6_add 63 = .ok (.getfield 27, 3) := by decide +kernel
theorem dX6_add_66 : decode cX6_add 66 = .ok (.iconst 0, 1) := by decide +kernel
theorem dX6_add_67 : decode cX6_add 67 = .ok (.iastore, 1) := by decide +kernel
theorem dX6_add_68 : decode cX6_add 68 = .ok (.aload_n 0, 1) := by decide +kernel
theorem dX6_add_69 : decode cX6_add 69 = .ok (.dup, 1) := by decide +kernel
theorem dX6_add_70 : decode cX6_add 70 = .ok (.getfield 27, 3) := by decide +kernel
theorem dX6_add_73 : decode cX6_add 73 = .ok (.iconst 1, 1) := by decide +kernel
theorem dX6_add_74 : decode cX6_add 74 = .ok (.iadd, 1) := by decide +kernel
theorem dX6_add_75 : decode cX6_add 75 = .ok (.putfield 27, 3) := by decide +kernel
theorem dX6_add_78 : decode cX6_add 78 = .ok (.return_, 1) := by decide +kernel
theorem dX6_remove_0 : decode cX6_remove 0 = .ok (.iload_n 1, 1) := by decide +kernel
theorem dX6_remove_1 : decode cX6_remove 1 = .ok (.istore_n 2, 1) := by decide +kernel
theorem dX6_remove_2 : decode cX6_remove 2 = .ok (.iload_n 2, 1) := by decide +kernel
theorem dX6_remove_3 : decode cX6_remove 3 = .ok (.aload_n 0, 1) := by decide +kernel
theorem dX6_remove_4 : decode cX6_remove 4 = .ok (.getfield 27, 3) := by decide +kernel
theorem dX6_remove_7 : decode cX6_remove 7 = .ok (.iconst 1, 1) := by decide +kernel
theorem dX6_remove_8 : decode cX6_remove 8 = .ok (.isub, 1) := by decide +kernel
theorem dX6_remove_9 : decode cX6_remove 9 = .ok (.if_icmp .ge 18, 3) := by decide +kernel
theorem dX6_remove_12 : decode cX6_remove 12 = .ok (.aload_n 0, 1) := by decide +kernel
theorem dX6_remove_13 : decode cX6_remove 13 = .ok (.aload_n 0, 1) := by decide +kernel
theorem dX6_remove_14 : decode cX6_remove 14 = .ok (.iload_n 2, 1) := by decide +kernel
theorem dX6_remove_15 : decode cX6_remove 15 = .ok (.iconst 1, 1) := by decide +kernel
theorem dX6_remove_16 : decode cX6_remove 16 = .ok (.iadd, 1) := by decide +kernel
theorem dX6_remove_17 : decode cX6_remove 17 = .ok (.iload_n 2, 1) := by decide +kernel
theorem dX6_remove_18 : decode cX6_remove 18 = .ok (.invokevirtual 31, 3) := by decide +kernel
theorem dX6_remove_21 : decode cX6_remove 21 = .ok (.iinc 2 1, 3) := by decide +kernel
theorem dX6_remove_24 : decode cX6_remove 24 = .ok (.goto (-22), 3) := by decide +kernel
theorem dX6_remove_27 : decode cX6_remove 27 = .ok (.aload_n 0, 1) := by decide +kernel
theorem dX6_remove_28 : decode cX6_remove 28 = .ok (.dup, 1) := by decide +kernel
theorem dX6_remove_29 : decode cX6_remove 29 = .ok (.getfield 27, 3) := by decide +kernel
theorem dX6_remove_32 : decode cX6_remove 32 = .ok (.iconst 1, 1) := by decide +kernel
theorem dX6_remove_33 : decode cX6_remove 33 = .ok (.isub, 1) := by decide +kernel
theorem dX6_remove_34 : decode cX6_remove 34 = .ok (.putfield 27, 3) := by decide +kernel
theorem dX6_remove_37 : decode cX6_remove 37 = .ok (.return_, 1) := by decide +kernel
theorem dX6_isOneDue_0 : decode cX6_isOneDue 0 = .ok (.iconst 0, 1) := by decide +kernel
theorem dX6_isOneDue_1 : decode cX6_isOneDue 1 = .ok (.istore_n 2, 1) := by decide +kernel
theorem dX6_isOneDue_2 : decode cX6_isOneDue 2 = .ok (.iload_n 2, 1) := by decide +kernel
theorem dX6_isOneDue_3 : decode cX6_isOneDue 3 = .ok (.aload_n 0, 1) := by decide +kernel
theorem dX6_isOneDue_4 : decode cX6_isOneDue 4 = .ok (.getfield 27, 3) := by decide +kernel
theorem dX6_isOneDue_7 : decode cX6_isOneDue 7 = .ok (.if_icmp .ge 27, 3) := by decide +kernel
theorem dX6_isOneDue_10 : decode cX6_isOneDue 10 = .ok (.iload_n 2, 1) := by decide +kernel
theorem dX6_isOneDue_11 : decode cX6_isOneDue 11 = .ok (.bipush 6, 2) := by decide +kernel
theorem dX6_isOneDue_13 : decode cX6_isOneDue 13 = .ok (.if_icmp .ge 21, 3) := by decide +kernel
theorem dX6_isOneDue_16 : decode cX6_isOneDue 16 = .ok (.aload_n 0, 1) := by decide +kernel
theorem dX6_isOneDue_17 : decode cX6_isOneDue 17 = .ok (.getfield 21, 3) := by decide +kernel
theorem dX6_isOneDue_20 : decode cX6_isOneDue 20 = .ok (.iload_n 2, 1) := by decide +kernel
theorem dX6_isOneDue_21 : decode cX6_isOneDue 21 = .ok (.iaload, 1) := by decide +kernel
theorem dX6_isOneDue_22 : decode cX6_isOneDue 22 = .ok (.iload_n 1, 1) := by decide +kernel
theorem dX6_isOneDue_23 : decode cX6_isOneDue 23 = .ok (.if_icmp .gt 5, 3) := by decide +kernel
theorem dX6_isOneDue_26 : decode cX6_isOneDue 26 = .ok (.iconst 1, 1) := by decide +kernel
theorem dX6_isOneDue_27 : decode cX6_isOneDue 27 = .ok (.ireturn, 1) := by decide +kernel
theorem dX6_isOneDue_28 : decode cX6_isOneDue 28 = .ok (.iinc 2 1, 3) := by decide +kernel
theorem dX6_isOneDue_31 : decode cX6_isOneDue 31 = .ok (.goto (-29), 3) := by decide +kernel
theorem dX6_isOneDue_34 : decode cX6_isOneDue 34 = .ok (.iconst 0, 1) := by decide +kernel
theorem dX6_isOneDue_35 : decode cX6_isOneDue 35 = .ok (.ireturn, 1) := by decide +kernel
theorem dX6_whoComes_0 : decode cX6_whoComes 0 = .ok (.iconst (-1), 1) := by decide +kernel
theorem dX6_whoComes_1 : decode cX6_whoComes 1 = .ok (.istore_n 3, 1) := by decide +kernel
theorem dX6_whoComes_2 : decode cX6_whoComes 2 = .ok (.iload_n 1, 1) := by decide +kernel
theorem dX6_whoComes_3 : decode cX6_whoComes 3 = .ok (.iconst 1, 1) := by decide +kernel
theorem dX6_whoComes_4 : decode cX6_whoComes 4 = .ok (.iadd, 1) := by decide +kernel
theorem dX6_whoComes_5 : decode cX6_whoComes 5 = .ok (.istore 4, 2) := by decide +kernel
theorem dX6_whoComes_7 : decode cX6_whoComes 7 = .ok (.iconst 0, 1) := by decide +kernel
theorem dX6_whoComes_8 : decode cX6_whoComes 8 = .ok (.istore 5, 2) := by decide +kernel
theorem dX6_whoComes_10 : decode cX6_whoComes 10 = .ok (.iload 5, 2) := by decide +kernel
theorem dX6_whoComes_12 : decode cX6_whoComes 12 = .ok (.aload_n 0, 1) := by decide +kernel
theorem dX6_whoComes_13 : decode cX6_whoComes 13 = .ok (.getfield 27, 3) := by decide +kernel
theorem dX6_whoComes_16 : decode cX6_whoComes 16 = .ok (.if_icmp .ge 67, 3) := by decide +kernel
theorem dX6_whoComes_19 : decode cX6_whoComes 19 = .ok (.iload 5, 2) := by decide +kernel
theorem dX6_whoComes_21 : decode cX6_whoComes 21 = .ok (.bipush 6, 2) := by decide +kernel
theorem dX6_whoComes_23 : decode cX6_whoComes 23 = .ok (.if_icmp .ge 60, 3) := by decide +kernel
theorem dX6_whoComes_26 : decode cX6_whoComes 26 = .ok (.iload_n 2, 1) := by decide +kernel
theorem dX6_whoComes_27 : decode cX6_whoComes 27 = .ok (.ifCond .eq 18, 3) := by decide +kernel
theorem dX6_whoComes_30 : decode cX6_whoComes 30 = .ok (.aload_n 0, 1) := by decide +kernel
theorem dX6_whoComes_31 : decode cX6_whoComes 31 = .ok (.getfield 9, 3) := by decide +kernel
theorem dX6_whoComes_34 : decode cX6_whoComes 34 = .ok (.iload 5, 2) := by decide +kernel
theorem dX6_whoComes_36 : decode cX6_whoComes 36 = .ok (.iaload, 1) := by decide +kernel
theorem dX6_whoComes_37 : decode cX6_whoComes 37 = .ok (.iconst 1, 1) := by decide +kernel
theorem dX6_whoComes_38 : decode cX6_whoComes 38 = .ok (.if_icmp .ne 7, 3) := by decide +kernel
theorem dX6_whoComes_41 : decode cX6_whoComes 41 = .ok (.iconst 1, 1) := by decide +kernel
theorem dX6_whoComes_42 : decode cX6_whoComes 42 = .ok (.goto 4, 3) := by decide +kernel
theorem dX6_whoComes_45 : decode cX6_whoComes 45 = .ok (.iconst 0, 1) := by decide +kernel
theorem dX6_whoComes_46 : decode cX6_whoComes 46 = .ok (.istore 6, 2) := by decide +kernel
theorem dX6_whoComes_48 : decode cX6_whoComes 48 = .ok (.iload 6, 2) := by decide +kernel
theorem dX6_whoComes_50 : decode cX6_whoComes 50 = .ok (.ifCond .ne 27, 3) := by decide +kernel
theorem dX6_whoComes_53 : decode cX6_whoComes 53 = .ok (.aload_n 0, 1) := by decide +kernel
theorem dX6_whoComes_54 : decode cX6_whoComes 54 = .ok (.getfield 21, 3) := by decide +kernel
theorem dX6_whoComes_57 : decode cX6_whoComes 57 = .ok (.iload 5, 2) := by decide +kernel
theorem dX6_whoComes_59 : decode cX6_whoComes 59 = .ok (.iaload, 1) := by decide +kernel
theorem dX6_whoComes_60 : decode cX6_whoComes 60 = .ok (.iload 4, 2) := by decide +kernel
theorem dX6_whoComes_62 : decode cX6_whoComes 62 = .ok (.if_icmp .ge 15, 3) := by decide +kernel
theorem dX6_whoComes_65 : decode cX6_whoComes 65 = .ok (.iload 5, 2) := by decide +kernel
theorem dX6_whoComes_67 : decode cX6_whoComes 67 = .ok (.istore_n 3, 1) := by decide +kernel
theorem dX6_whoComes_68 : decode cX6_whoComes 68 = .ok (.aload_n 0, 1) := by decide +kernel
theorem dX6_whoComes_69 : decode cX6_whoComes 69 = .ok (.getfield 21, 3) := by decide +kernel
theorem dX6_whoComes_72 : decode cX6_whoComes 72 = .ok (.iload 5, 2) := by decide +kernel
theorem dX6_whoComes_74 : decode cX6_whoComes 74 = .ok (.iaload, 1) := by decide +kernel
theorem dX6_whoComes_75 : decode cX6_whoComes 75 = .ok (.istore 4, 2) := by decide +kernel
theorem dX6_whoComes_77 : decode cX6_whoComes 77 = .ok (.iinc 5 1, 3) := by decide +kernel
theorem dX6_whoComes_80 : decode cX6_whoComes 80 = .ok (.goto (-70), 3) := by decide +kernel
theorem dX6_whoComes_83 : decode cX6_whoComes 83 = .ok (.iload_n 3, 1) := by decide +kernel
theorem dX6_whoComes_84 : decode cX6_whoComes 84 = .ok (.ireturn, 1) := by decide +kernel
theorem dX7_init_0 : decode cX7_init 0 = .ok (.aload_n 0, 1) := by decide +kernel
theorem dX7_init_1 : decode cX7_init 1 = .ok (.invokespecial 1, 3) := by decide +kernel
theorem dX7_init_4 : decode cX7_init 4 = .ok (.aload_n 0, 1) := by decide +kernel
theorem dX7_init_5 : decode cX7_init 5 = .ok (.new 7, 3) := by decide +kernel
theorem dX7_init_8 : decode cX7_init 8 = .ok (.dup, 1) := by decide +kernel
theorem dX7_init_9 : decode cX7_init 9 = .ok (.invokespecial 9, 3) := by decide +kernel
theorem dX7_init_12 : decode cX7_init 12 = .ok (.putfield 10, 3) := by decide +kernel
theorem dX7_init_15 : decode cX7_init 15 = .ok (.aload_n 0, 1) := by decide +kernel
theorem dX7_init_16 : decode cX7_init 16 = .ok (.new 7, 3) := by decide +kernel
theorem dX7_init_19 : decode cX7_init 19 = .ok (.dup, 1) := by decide +kernel
theorem dX7_init_20 : decode cX7_init 20 = .ok (.invokespecial 9, 3) := by decide +kernel
theorem dX7_init_23 : decode cX7_init 23 = .ok (.putfield 16, 3) := by decide +kernel
theorem dX7_init_26 : decode cX7_init 26 = .ok (.aload_n 0, 1) := by decide +kernel
theorem dX7_init_27 : decode cX7_init 27 = .ok (.new 19, 3) := by decide +kernel
theorem dX7_init_30 : decode cX7_init 30 = .ok (.dup, 1) := by decide +kernel
theorem dX7_init_31 : decode cX7_init 31 = .ok (.invokespecial 21, 3) := by decide +kernel
theorem dX7_init_34 : decode cX7_init 34 = .ok (.putfield 22, 3) := by decide +kernel
theorem dX7_init_37 : decode cX7_init 37 = .ok (.aload_n 0, 1) := by decide +kernel
theorem dX7_init_38 : decode cX7_init 38 = .ok (.new 26, 3) := by decide +kernel
theorem dX7_init_41 : decode cX7_init 41 = .ok (.dup, 1) := by decide +kernel
theorem dX7_init_42 : decode cX7_init 42 = .ok (.invokespecial 28, 3) := by decide +kernel
theorem dX7_init_45 : decode cX7_init 45 = .ok (.putfield 29, 3) := by decide +kernel
theorem dX7_init_48 : decode cX7_init 48 = .ok (.aload_n 0, 1) := by decide +kernel
theorem dX7_init_49 : decode cX7_init 49 = .ok (.sipush 720, 3) := by decide +kernel
theorem dX7_init_52 : decode cX7_init 52 = .ok (.newarray .int, 2) := by decide +kernel
theorem dX7_init_54 : decode cX7_init 54 = .ok (.putfield 33, 3) := by decide +kernel
theorem dX7_init_57 : decode cX7_init 57 = .ok (.return_, 1) := by decide +kernel
theorem dX7_wind_0 : decode cX7_wind 0 = .ok (.iload_n 1, 1) := by decide +kernel
theorem dX7_wind_1 : decode cX7_wind 1 = .ok (.invokestatic 37, 3) := by decide +kernel
theorem dX7_wind_4 : decode cX7_wind 4 = .ok (.iload_n 2, 1) := by decide +kernel
theorem dX7_wind_5 : decode cX7_wind 5 = .ok (.iconst 1, 1) := by decide +kernel
theorem dX7_wind_6 : decode cX7_wind 6 = .ok (.sipush 200, 3) := by decide +kernel
theorem dX7_wind_9 : decode cX7_wind 9 = .ok (.invokestatic 41, 3) := by decide +kernel
theorem dX7_wind_12 : decode cX7_wind 12 = .ok (.aload_n 0, 1) := by decide +kernel
theorem dX7_wind_13 : decode cX7_wind 13 = .ok (.getfield 22, 3) := by decide +kernel
theorem dX7_wind_16 : decode cX7_wind 16 = .ok (.aload_n 0, 1) := by decide +kernel
theorem dX7_wind_17 : decode cX7_wind 17 = .ok (.getfield 10, 3) := by decide +kernel
theorem dX7_wind_20 : decode cX7_wind 20 = .ok (.invokevirtual 45, 3) := by decide +kernel
theorem dX7_wind_23 : decode cX7_wind 23 = .ok (.aload_n 0, 1) := by decide +kernel
theorem dX7_wind_24 : decode cX7_wind 24 = .ok (.getfield 10, 3) := by decide +kernel
theorem dX7_wind_27 : decode cX7_wind 27 = .ok (.getfield 49, 3) := by decide +kernel
theorem dX7_wind_30 : decode cX7_wind 30 = .ok (.iload_n 1, 1) := by decide +kernel
theorem dX7_wind_31 : decode cX7_wind 31 = .ok (.iload_n 2, 1) := by decide +kernel
theorem dX7_wind_32 : decode cX7_wind 32 = .ok (.invokevirtual 53, 3) := by decide +kernel
theorem dX7_wind_35 : decode cX7_wind 35 = .ok (.ireturn, 1) := by decide +kernel
theorem dX7_set_0 : decode cX7_set 0 = .ok (.iload_n 1, 1) := by decide +kernel
theorem dX7_set_1 : decode cX7_set 1 = .ok (.invokestatic 59, 3) := by decide +kernel
theorem dX7_set_4 : decode cX7_set 4 = .ok (.iload_n 2, 1) := by decide +kernel
theorem dX7_set_5 : decode cX7_set 5 = .ok (.getstatic 62, 3) := by decide +kernel
theorem dX7_set_8 : decode cX7_set 8 = .ok (.iload_n 1, 1) := by decide +kernel
theorem dX7_set_9 : decode cX7_set 9 = .ok (.iaload, 1) := by decide +kernel
theorem dX7_set_10 : decode cX7_set 10 = .ok (.getstatic 65, 3) := by decide +kernel
theorem dX7_set_13 : decode cX7_set 13 = .ok (.iload_n 1, 1) := by decide +kernel
theorem dX7_set_14 : decode cX7_set 14 = .ok (.iaload, 1) := by decide +kernel
theorem dX7_set_15 : decode cX7_set 15 = .ok (.invokestatic 41, 3) := by decide +kernel
theorem dX7_set_18 : decode cX7_set 18 = .ok (.aload_n 0, 1) := by decide +kernel
theorem dX7_set_19 : decode cX7_set 19 = .ok (.getfield 22, 3) := by decide +kernel
theorem dX7_set_22 : decode cX7_set 22 = .ok (.aload_n 0, 1) := by decide +kernel
theorem dX7_set_23 : decode cX7_set 23 = .ok (.getfield 10, 3) := by decide +kernel
theorem dX7_set_26 : decode cX7_set 26 = .ok (.invokevirtual 45, 3) := by decide +kernel
theorem dX7_set_29 : decode cX7_set 29 = .ok (.aload_n 0, 1) := by decide +kernel
theorem dX7_set_30 : decode cX7_set 30 = .ok (.getfield 10, 3) := by decide +kernel
theorem dX7_set_33 : decode cX7_set 33 = .ok (.getfield 68, 3) := by decide +kernel
theorem dX7_set_36 : decode cX7_set 36 = .ok (.iload_n 1, 1) := by decide +kernel
theorem dX7_set_37 : decode cX7_set 37 = .ok (.iaload, 1) := by decide +kernel
theorem dX7_set_38 : decode cX7_set 38 = .ok (.istore_n 3, 1) := by decide +kernel
theorem dX7_set_39 : decode cX7_set 39 = .ok (.aload_n 0, 1) := by decide +kernel
theorem dX7_set_40 : decode cX7_set 40 = .ok (.getfield 10, 3) := by decide +kernel
theorem dX7_set_43 : decode cX7_set 43 = .ok (.getfield 68, 3) := by decide +kernel
theorem dX7_set_46 : decode cX7_set 46 = .ok (.iload_n 1, 1) := by decide +kernel
theorem dX7_set_47 : decode cX7_set 47 = .ok (.iload_n 2, 1) := by decide +kernel
theorem dX7_set_48 : decode cX7_set 48 = .ok (.iastore, 1) := by decide +kernel
theorem dX7_set_49 : decode cX7_set 49 = .ok (.aload_n 0, 1) := by decide +kernel
theorem dX7_set_50 : decode cX7_set 50 = .ok (.getfield 10, 3) := by decide +kernel
theorem dX7_set_53 : decode cX7_set 53 = .ok (.aload_n 0, 1) := by decide +kernel
theorem dX7_set_54 : decode cX7_set 54 = .ok (.getfield 10, 3) := by decide +kernel
theorem dX7_set_57 : decode cX7_set 57 = .ok (.getfield 71, 3) := by decide +kernel
theorem dX7_set_60 : decode cX7_set 60 = .ok (.aload_n 0, 1) := by decide +kernel
theorem dX7_set_61 : decode cX7_set 61 = .ok (.getfield 10, 3) := by decide +kernel
theorem dX7_set_64 : decode cX7_set 64 = .ok (.getfield 68, 3) := by decide +kernel
theorem dX7_set_67 : decode cX7_set 67 = .ok (.iconst 0, 1) := by decide +kernel
theorem dX7_set_68 : decode cX7_set 68 = .ok (.iaload, 1) := by decide +kernel
theorem dX7_set_69 : decode cX7_set 69 = .ok (.invokestatic 75, 3) := by decide +kernel
theorem dX7_set_72 : decode cX7_set 72 = .ok (.putfield 71, 3) := by decide +kernel
theorem dX7_set_75 : decode cX7_set 75 = .ok (.iload_n 3, 1) := by decide +kernel
theorem dX7_set_76 : decode cX7_set 76 = .ok (.ireturn, 1) := by decide +kernel
theorem dX7_setSnow_0 : decode cX7_setSnow 0 = .ok (.iload_n 1, 1) := by decide +kernel
theorem dX7_setSnow_1 : decode cX7_setSnow 1 = .ok (.iconst 0, 1) := by decide +kernel
theorem dX7_setSnow_2 : decode cX7_setSnow 2 = .ok (.bipush 20, 2) := by decide +kernel
theorem dX7_setSnow_4 : decode cX7_setSnow 4 = .ok (.invokestatic 41, 3) := by decide +kernel
theorem dX7_setSnow_7 : decode cX7_setSnow 7 = .ok (.aload_n 0, 1) := by decide +kernel
theorem dX7_setSnow_8 : decode cX7_setSnow 8 = .ok (.getfield 22, 3) := by decide +kernel
theorem dX7_setSnow_11 : decode cX7_setSnow 11 = .ok (.aload_n 0, 1) := by decide +kernel
theorem dX7_setSnow_12 : decode cX7_setSnow 12 = .ok (.getfield 10, 3) := by decide +kernel
theorem dX7_setSnow_15 : decode cX7_setSnow 15 = .ok (.invokevirtual 45, 3) := by decide +kernel
theorem dX7_setSnow_18 : decode cX7_setSnow 18 = .ok (.aload_n 0, 1) := by decide +kernel
theorem dX7_setSnow_19 : decode cX7_setSnow 19 = .ok (.getfield 10, 3) := by decide +kernel
theorem dX7_setSnow_22 : decode cX7_setSnow 22 = .ok (.getfield 80, 3) := by decide +kernel
theorem dX7_setSnow_25 : decode cX7_setSnow 25 = .ok (.istore_n 2, 1) := by decide +kernel
theorem dX7_setSnow_26 : decode cX7_setSnow 26 = .ok (.aload_n 0, 1) := by decide +kernel
theorem dX7_setSnow_27 : decode cX7_setSnow 27 = .ok (.getfield 10, 3) := by decide +kernel
theorem dX7_setSnow_30 : decode cX7_setSnow 30 = .ok (.iload_n 1, 1) := by decide +kernel
theorem dX7_setSnow_31 : decode cX7_setSnow 31 = .ok (.putfield 80, 3) := by decide +kernel
theorem dX7_setSnow_34 : decode cX7_setSnow 34 = .ok (.iload_n 2, 1) := by decide +kernel
theorem dX7_setSnow_35 : decode cX7_setSnow 35 = .ok (.ireturn, 1) := by decide +kernel
theorem dX7_setHands_0 : decode cX7_setHands 0 = .ok (.iload_n 1, 1) := by decide +kernel
theorem dX7_setHands_1 : decode cX7_setHands 1 = .ok (.iconst 0, 1) := by decide +kernel
theorem dX7_setHands_2 : decode cX7_setHands 2 = .ok (.sipush 719, 3) := by decide +kernel
theorem dX7_setHands_5 : decode cX7_setHands 5 = .ok (.invokestatic 41, 3) := by decide +kernel
theorem dX7_setHands_8 : decode cX7_setHands 8 = .ok (.aload_n 0, 1) := by decide +kernel
theorem dX7_setHands_9 : decode cX7_setHands 9 = .ok (.getfield 22, 3) := by decide +kernel
theorem dX7_setHands_12 : decode cX7_setHands 12 = .ok (.aload_n 0, 1) := by decide +kernel
theorem dX7_setHands_13 : decode cX7_setHands 13 = .ok (.getfield 10, 3) := by decide +kernel
theorem dX7_setHands_16 : decode cX7_setHands 16 = .ok (.invokevirtual 45, 3) := by decide +kernel
theorem dX7_setHands_19 : decode cX7_setHands 19 = .ok (.aload_n 0, 1) := by decide +kernel
theorem dX7_setHands_20 : decode cX7_setHands 20 = .ok (.getfield 10, 3) := by decide +kernel
theorem dX7_setHands_23 : decode cX7_setHands 23 = .ok (.getfield 83, 3) := by decide +kernel
theorem dX7_setHands_26 : decode cX7_setHands 26 = .ok (.istore_n 2, 1) := by decide +kernel
theorem dX7_setHands_27 : decode cX7_setHands 27 = .ok (.aload_n 0, 1) := by decide +kernel
theorem dX7_setHands_28 : decode cX7_setHands 28 = .ok (.getfield 10, 3) := by decide +kernel
theorem dX7_setHands_31 : decode cX7_setHands 31 = .ok (.iload_n 1, 1) := by decide +kernel
theorem dX7_setHands_32 : decode cX7_setHands 32 = .ok (.putfield 83, 3) := by decide +kernel
theorem dX7_setHands_35 : decode cX7_setHands 35 = .ok (.iload_n 2, 1) := by decide +kernel
theorem dX7_setHands_36 : decode cX7_setHands 36 = .ok (.ireturn, 1) := by decide +kernel
theorem dX7_mend_0 : decode cX7_mend 0 = .ok (.aload_n 0, 1) := by decide +kernel
theorem dX7_mend_1 : decode cX7_mend 1 = .ok (.getfield 22, 3) := by decide +kernel
theorem dX7_mend_4 : decode cX7_mend 4 = .ok (.aload_n 0, 1) := by decide +kernel
theorem dX7_mend_5 : decode cX7_mend 5 = .ok (.getfield 10, 3) := by decide +kernel
theorem dX7_mend_8 : decode cX7_mend 8 = .ok (.invokevirtual 45, 3) := by decide +kernel
theorem dX7_mend_11 : decode cX7_mend 11 = .ok (.aload_n 0, 1) := by decide +kernel
theorem dX7_mend_12 : decode cX7_mend 12 = .ok (.getfield 10, 3) := by decide +kernel
theorem dX7_mend_15 : decode cX7_mend 15 = .ok (.getfield 86, 3) := by decide +kernel
theorem dX7_mend_18 : decode cX7_mend 18 = .ok (.istore_n 1, 1) := by decide +kernel
theorem dX7_mend_19 : decode cX7_mend 19 = .ok (.aload_n 0, 1) := by decide +kernel
theorem dX7_mend_20 : decode cX7_mend 20 = .ok (.getfield 10, 3) := by decide +kernel
theorem dX7_mend_23 : decode cX7_mend 23 = .ok (.iconst 0, 1) := by decide +kernel
theorem dX7_mend_24 : decode cX7_mend 24 = .ok (.putfield 86, 3) := by decide +kernel
theorem dX7_mend_27 : decode cX7_mend 27 = .ok (.iload_n 1, 1) := by decide +kernel
theorem dX7_mend_28 : decode cX7_mend 28 = .ok (.ireturn, 1) := by decide +kernel
theorem dX7_forgive_0 : decode cX7_forgive 0 = .ok (.aload_n 0, 1) := by decide +kernel
theorem dX7_forgive_1 : decode cX7_forgive 1 = .ok (.getfield 22, 3) := by decide +kernel
theorem dX7_forgive_4 : decode cX7_forgive 4 = .ok (.aload_n 0, 1) := by decide +kernel
theorem dX7_forgive_5 : decode cX7_forgive 5 = .ok (.getfield 10, 3) := by decide +kernel
theorem dX7_forgive_8 : decode cX7_forgive 8 = .ok (.invokevirtual 45, 3) := by decide +kernel
theorem dX7_forgive_11 : decode cX7_forgive 11 = .ok (.aload_n 0, 1) := by decide +kernel
theorem dX7_forgive_12 : decode cX7_forgive 12 = .ok (.getfield 10, 3) := by decide +kernel
theorem dX7_forgive_15 : decode cX7_forgive 15 = .ok (.getfield 89, 3) := by decide +kernel
theorem dX7_forgive_18 : decode cX7_forgive 18 = .ok (.invokevirtual 93, 3) := by decide +kernel
theorem dX7_forgive_21 : decode cX7_forgive 21 = .ok (.istore_n 1, 1) := by decide +kernel
theorem dX7_forgive_22 : decode cX7_forgive 22 = .ok (.aload_n 0, 1) := by decide +kernel
theorem dX7_forgive_23 : decode cX7_forgive 23 = .ok (.getfield 10, 3) := by decide +kernel
theorem dX7_forgive_26 : decode cX7_forgive 26 = .ok (.getfield 89, 3) := by decide +kernel
theorem dX7_forgive_29 : decode cX7_forgive 29 = .ok (.iconst 0, 1) := by decide +kernel
theorem dX7_forgive_30 : decode cX7_forgive 30 = .ok (.putfield 99, 3) := by decide +kernel
theorem dX7_forgive_33 : decode cX7_forgive 33 = .ok (.aload_n 0, 1) := by decide +kernel
theorem dX7_forgive_34 : decode cX7_forgive 34 = .ok (.getfield 10, 3) := by decide +kernel
theorem dX7_forgive_37 : decode cX7_forgive 37 = .ok (.dup, 1) := by decide +kernel
theorem dX7_forgive_38 : decode cX7_forgive 38 = .ok (.getfield 102, 3) := by decide +kernel
theorem dX7_forgive_41 : decode cX7_forgive 41 = .ok (.iload_n 1, 1) := by decide +kernel
theorem dX7_forgive_42 : decode cX7_forgive 42 = .ok (.iadd, 1) := by decide +kernel
theorem dX7_forgive_43 : decode cX7_forgive 43 = .ok (.putfield 102, 3) := by decide +kernel
theorem dX7_forgive_46 : decode cX7_forgive 46 = .ok (.iload_n 1, 1) := by decide +kernel
theorem dX7_forgive_47 : decode cX7_forgive 47 = .ok (.ireturn, 1) := by decide +kernel
theorem dX7_hire_0 : decode cX7_hire 0 = .ok (.iload_n 1, 1) := by decide +kernel
theorem dX7_hire_1 : decode cX7_hire 1 = .ok (.invokestatic 37, 3) := by decide +kernel
theorem dX7_hire_4 : decode cX7_hire 4 = .ok (.iload_n 2, 1) := by decide +kernel
theorem dX7_hire_5 : decode cX7_hire 5 = .ok (.iconst 1, 1) := by decide +kernel
theorem dX7_hire_6 : decode cX7_hire 6 = .ok (.sipush 200, 3) := by decide +kernel
theorem dX7_hire_9 : decode cX7_hire 9 = .ok (.invokestatic 41, 3) := by decide +kernel
theorem dX7_hire_12 : decode cX7_hire 12 = .ok (.iload_n 3, 1) := by decide +kernel
theorem dX7_hire_13 : decode cX7_hire 13 = .ok (.iconst 1, 1) := by decide +kernel
theorem dX7_hire_14 : decode cX7_hire 14 = .ok (.sipush 720, 3) := by decide +kernel
theorem dX7_hire_17 : decode cX7_hire 17 = .ok (.invokestatic 41, 3) := by decide +kernel
theorem dX7_hire_20 : decode cX7_hire 20 = .ok (.aload_n 0, 1) := by decide +kernel
theorem dX7_hire_21 : decode cX7_hire 21 = .ok (.getfield 10, 3) := by decide +kernel
theorem dX7_hire_24 : decode cX7_hire 24 = .ok (.getfield 105, 3) := by decide +kernel
theorem dX7_hire_27 : decode cX7_hire 27 = .ok (.getfield 109, 3) := by decide +kernel
theorem dX7_hire_30 : decode cX7_hire 30 = .ok (.bipush 6, 2) := by decide +kernel
theorem dX7_hire_32 : decode cX7_hire 32 = .ok (.if_icmp .lt 13, 3) := by decide +kernel
theorem dX7_hire_35 : decode cX7_hire 35 = .ok (.new 112, 3) := by decide +kernel
theorem dX7_hire_38 : decode cX7_hire 38 = .ok (.dup, 1) := by decide +kernel
theorem dX7_hire_39 : decode cX7_hire 39 = .ok (.ldc 114, 2) := by decide +kernel
theorem dX7_hire_41 : decode cX7_hire 41 = .ok (.invokespecial 116, 3) := by decide +kernel
theorem dX7_hire_44 : decode cX7_hire 44 = .ok (.athrow, 1) := by decide +kernel
theorem dX7_hire_45 : decode cX7_hire 45 = .ok (.aload_n 0, 1) := by decide +kernel
theorem dX7_hire_46 : decode cX7_hire 46 = .ok (.getfield 22, 3) := by decide +kernel
theorem dX7_hire_49 : decode cX7_hire 49 = .ok (.aload_n 0, 1) := by decide +kernel
theorem dX7_hire_50 : decode cX7_hire 50 = .ok (.getfield 10, 3) := by decide +kernel
theorem dX7_hire_53 : decode cX7_hire 53 = .ok (.invokevirtual 45, 3) := by decide +kernel
theorem dX7_hire_56 : decode cX7_hire 56 = .ok (.aload_n 0, 1) := by decide +kernel
theorem dX7_hire_57 : decode cX7_hire 57 = .ok (.getfield 10, 3) := by decide +kernel
theorem dX7_hire_60 : decode cX7_hire 60 = .ok (.getfield 105, 3) := by decide +kernel
theorem dX7_hire_63 : decode cX7_hire 63 = .ok (.iload_n 1, 1) := by decide +kernel
theorem dX7_hire_64 : decode cX7_hire 64 = .ok (.iload_n 2, 1) := by decide +kernel
theorem dX7_hire_65 : decode cX7_hire 65 = .ok (.iload_n 3, 1) := by decide +kernel
theorem dX7_hire_66 : decode cX7_hire 66 = .ok (.aload_n 0, 1) := by decide +kernel
theorem dX7_hire_67 : decode cX7_hire 67 = .ok (.getfield 10, 3) := by decide +kernel
theorem dX7_hire_70 : decode cX7_hire 70 = .ok (.getfield 119, 3) := by decide +kernel
theorem dX7_hire_73 : decode cX7_hire 73 = .ok (.iload_n 3, 1) := by decide +kernel
theorem dX7_hire_74 : decode cX7_hire 74 = .ok (.iadd, 1) := by decide +kernel
theorem dX7_hire_75 : decode cX7_hire 75 = .ok (.invokevirtual 122, 3) := by decide +kernel
theorem dX7_hire_78 : decode cX7_hire 78 = .ok (.aload_n 0, 1) := by decide +kernel
theorem dX7_hire_79 : decode cX7_hire 79 = .ok (.getfield 10, 3) := by decide +kernel
theorem dX7_hire_82 : decode cX7_hire 82 = .ok (.getfield 105, 3) := by decide +kernel
theorem dX7_hire_85 : decode cX7_hire 85 = .ok (.getfield 109, 3) := by decide +kernel
theorem dX7_hire_88 : decode cX7_hire 88 = .ok (.iconst 1, 1) := by decide +kernel
theorem dX7_hire_89 : decode cX7_hire 89 = .ok (.isub, 1) := by decide +kernel
theorem dX7_hire_90 : decode cX7_hire 90 = .ok (.ireturn, 1) := by decide +kernel
theorem dX7_dismiss_0 : decode cX7_dismiss 0 = .ok (.aload_n 0, 1) := by decide +kernel
theorem dX7_dismiss_1 : decode cX7_dismiss 1 = .ok (.iload_n 1, 1) := by decide +kernel
theorem dX7_dismiss_2 : decode cX7_dismiss 2 = .ok (.invokevirtual 126, 3) := by decide +kernel
theorem dX7_dismiss_5 : decode cX7_dismiss 5 = .ok (.aload_n 0, 1) := by decide +kernel
theorem dX7_dismiss_6 : decode cX7_dismiss 6 = .ok (.getfield 22, 3) := by decide +kernel
theorem dX7_dismiss_9 : decode cX7_dismiss 9 = .ok (.aload_n 0, 1) := by decide +kernel
theorem dX7_dismiss_10 : decode cX7_dismiss 10 = .ok (.getfield 10, 3) := by decide +kernel
theorem dX7_dismiss_13 : decode cX7_dismiss 13 = .ok (.invokevirtual 45, 3) := by decide +kernel
theorem dX7_dismiss_16 : decode cX7_dismiss 16 = .ok (.aload_n 0, 1) := by decide +kernel
theorem dX7_dismiss_17 : decode cX7_dismiss 17 = .ok (.getfield 10, 3) := by decide +kernel
theorem dX7_dismiss_20 : decode cX7_dismiss 20 = .ok (.getfield 105, 3) := by decide +kernel
theorem dX7_dismiss_23 : decode cX7_dismiss 23 = .ok (.iload_n 1, 1) := by decide +kernel
theorem dX7_dismiss_24 : decode cX7_dismiss 24 = .ok (.invokevirtual 129, 3) := by decide +kernel
theorem dX7_dismiss_27 : decode cX7_dismiss 27 = .ok (.aload_n 0, 1) := by decide +kernel
theorem dX7_dismiss_28 : decode cX7_dismiss 28 = .ok (.getfield 10, 3) := by decide +kernel
theorem dX7_dismiss_31 : decode cX7_dismiss 31 = .ok (.getfield 105, 3) := by decide +kernel
theorem dX7_dismiss_34 : decode cX7_dismiss 34 = .ok (.getfield 109, 3) := by decide +kernel
theorem dX7_dismiss_37 : decode cX7_dismiss 37 = .ok (.ireturn, 1) := by decide +kernel
theorem dX7_pass_0 : decode cX7_pass 0 = .ok (.iload_n 1, 1) := by decide +kernel
theorem dX7_pass_1 : decode cX7_pass 1 = .ok (.iconst 1, 1) := by decide +kernel
theorem dX7_pass_2 : decode cX7_pass 2 = .ok (.sipush 720, 3) := by decide +kernel
theorem dX7_pass_5 : decode cX7_pass 5 = .ok (.invokestatic 41, 3) := by decide +kernel
theorem dX7_pass_8 : decode cX7_pass 8 = .ok (.aload_n 0, 1) := by decide +kernel
theorem dX7_pass_9 : decode cX7_pass 9 = .ok (.getfield 10, 3) := by decide +kernel
theorem dX7_pass_12 : decode cX7_pass 12 = .ok (.getfield 119, 3) := by decide +kernel
theorem dX7_pass_15 : decode cX7_pass 15 = .ok (.iload_n 1, 1) := by decide +kernel
theorem dX7_pass_16 : decode cX7_pass 16 = .ok (.iadd, 1) := by decide +kernel
theorem dX7_pass_17 : decode cX7_pass 17 = .ok (.sipush 20000, 3) := by decide +kernel
theorem dX7_pass_20 : decode cX7_pass 20 = .ok (.if_icmp .le 13, 3) := by decide +kernel
theorem dX7_pass_23 : decode cX7_pass 23 = .ok (.new 112, 3) := by decide +kernel
theorem dX7_pass_26 : decode cX7_pass 26 = .ok (.dup, 1) := by decide +kernel
theorem dX7_pass_27 : decode cX7_pass 27 = .ok (.ldc 132, 2) := by decide +kernel
theorem dX7_pass_29 : decode cX7_pass 29 = .ok (.invokespecial 116, 3) := by decide +kernel
theorem dX7_pass_32 : decode cX7_pass 32 = .ok (.athrow, 1) := by decide +kernel
theorem dX7_pass_33 : decode cX7_pass 33 = .ok (.aload_n 0, 1) := by decide +kernel
theorem dX7_pass_34 : decode cX7_pass 34 = .ok (.getfield 22, 3) := by decide +kernel
theorem dX7_pass_37 : decode cX7_pass 37 = .ok (.aload_n 0, 1) := by decide +kernel
theorem dX7_pass_38 : decode cX7_pass 38 = .ok (.getfield 10, 3) := by decide +kernel
theorem dX7_pass_41 : decode cX7_pass 41 = .ok (.invokevirtual 45, 3) := by decide +kernel
theorem dX7_pass_44 : decode cX7_pass 44 = .ok (.aload_n 0, 1) := by decide +kernel
theorem dX7_pass_45 : decode cX7_pass 45 = .ok (.getfield 10, 3) := by decide +kernel
theorem dX7_pass_48 : decode cX7_pass 48 = .ok (.getfield 134, 3) := by decide +kernel
theorem dX7_pass_51 : decode cX7_pass 51 = .ok (.istore_n 2, 1) := by decide +kernel
theorem dX7_pass_52 : decode cX7_pass 52 = .ok (.aload_n 0, 1) := by decide +kernel
theorem dX7_pass_53 : decode cX7_pass 53 = .ok (.getfield 10, 3) := by decide +kernel
theorem dX7_pass_56 : decode cX7_pass 56 = .ok (.iload_n 1, 1) := by decide +kernel
theorem dX7_pass_57 : decode cX7_pass 57 = .ok (.invokevirtual 137, 3) := by decide +kernel
theorem dX7_pass_60 : decode cX7_pass 60 = .ok (.aload_n 0, 1) := by decide +kernel
theorem dX7_pass_61 : decode cX7_pass 61 = .ok (.getfield 10, 3) := by decide +kernel
theorem dX7_pass_64 : decode cX7_pass 64 = .ok (.getfield 134, 3) := by decide +kernel
theorem dX7_pass_67 : decode cX7_pass 67 = .ok (.iload_n 2, 1) := by decide +kernel
theorem dX7_pass_68 : decode cX7_pass 68 = .ok (.isub, 1) := by decide +kernel
theorem dX7_pass_69 : decode cX7_pass 69 = .ok (.ireturn, 1) := by decide +kernel
theorem dX7_append_0 : decode cX7_append 0 = .ok (.iload_n 1, 1) := by decide +kernel
theorem dX7_append_1 : decode cX7_append 1 = .ok (.bipush 33, 2) := by decide +kernel
theorem dX7_append_3 : decode cX7_append 3 = .ok (.bipush 126, 2) := by decide +kernel
theorem dX7_append_5 : decode cX7_append 5 = .ok (.invokestatic 41, 3) := by decide +kernel
theorem dX7_append_8 : decode cX7_append 8 = .ok (.aload_n 0, 1) := by decide +kernel
theorem dX7_append_9 : decode cX7_append 9 = .ok (.getfield 29, 3) := by decide +kernel
theorem dX7_append_12 : decode cX7_append 12 = .ok (.getfield 140, 3) := by decide +kernel
theorem dX7_append_15 : decode cX7_append 15 = .ok (.bipush 60, 2) := by decide +kernel
theorem dX7_append_17 : decode cX7_append 17 = .ok (.if_icmp .lt 13, 3) := by decide +kernel
theorem dX7_append_20 : decode cX7_append 20 = .ok (.new 112, 3) := by decide +kernel
theorem dX7_append_23 : decode cX7_append 23 = .ok (.dup, 1) := by decide +kernel
theorem dX7_append_24 : decode cX7_append 24 = .ok (.ldc 143, 2) := by decide +kernel
theorem dX7_append_26 : decode cX7_append 26 = .ok (.invokespecial 116, 3) := by decide +kernel
theorem dX7_append_29 : decode cX7_append 29 = .ok (.athrow, 1) := by decide +kernel
theorem dX7_append_30 : decode cX7_append 30 = .ok (.aload_n 0, 1) := by decide +kernel
theorem dX7_append_31 : decode cX7_append 31 = .ok (.getfield 29, 3) := by decide +kernel
theorem dX7_append_34 : decode cX7_append 34 = .ok (.iload_n 1, 1) := by decide +kernel
theorem dX7_append_35 : decode cX7_append 35 = .ok (.i2c, 1) := by decide +kernel
theorem dX7_append_36 : decode cX7_append 36 = .ok (.invokevirtual 145, 3) := by decide +kernel
theorem dX7_append_39 : decode cX7_append 39 = .ok (.aload_n 0, 1) := by decide +kernel
theorem dX7_append_40 : decode cX7_append 40 = .ok (.getfield 29, 3) := by decide +kernel
theorem dX7_append_43 : decode cX7_append 43 = .ok (.getfield 140, 3) := by decide +kernel
theorem dX7_append_46 : decode cX7_append 46 = .ok (.ireturn, 1) := by decide +kernel
theorem dX7_clearBuffer_0 : decode cX7_clearBuffer 0 = .ok (.aload_n 0, 1) := by decide +kernel
theorem dX7_clearBuffer_1 : decode cX7_clearBuffer 1 = .ok (.getfield 29, 3) := by decide +kernel
theorem dX7_clearBuffer_4 : decode cX7_clearBuffer 4 = .ok (.getfield 140, 3) := by decide +kernel
theorem dX7_clearBuffer_7 : decode cX7_clearBuffer 7 = .ok (.istore_n 1, 1) := by decide +kernel
theorem dX7_clearBuffer_8 : decode cX7_clearBuffer 8 = .ok (.aload_n 0, 1) := by decide +kernel
theorem dX7_clearBuffer_9 : decode cX7_clearBuffer 9 = .ok (.getfield 29, 3) := by decide +kernel
theorem dX7_clearBuffer_12 : decode cX7_clearBuffer 12 = .ok (.iconst 0, 1) := by decide +kernel
theorem dX7_clearBuffer_13 : decode cX7_clearBuffer 13 = .ok (.putfield 140, 3) := by decide +kernel
theorem dX7_clearBuffer_16 : decode cX7_clearBuffer 16 = .ok (.iload_n 1, 1) := by decide +kernel
theorem dX7_clearBuffer_17 : decode cX7_clearBuffer 17 = .ok (.ireturn, 1) := by decide +kernel
theorem dX7_firstError_0 : decode cX7_firstError 0 = .ok (.aload_n 0, 1) := by decide +kernel
theorem dX7_firstError_1 : decode cX7_firstError 1 = .ok (.getfield 29, 3) := by decide +kernel
theorem dX7_firstError_4 : decode cX7_firstError 4 = .ok (.invokevirtual 148, 3) := by decide +kernel
theorem dX7_firstError_7 : decode cX7_firstError 7 = .ok (.ireturn, 1) := by decide +kernel
theorem dX7_load_0 : decode cX7_load 0 = .ok (.aload_n 0, 1) := by decide +kernel
theorem dX7_load_1 : decode cX7_load 1 = .ok (.getfield 29, 3) := by decide +kernel
theorem dX7_load_4 : decode cX7_load 4 = .ok (.invokevirtual 151, 3) := by decide +kernel
theorem dX7_load_7 : decode cX7_load 7 = .ok (.ifCond .ne 13, 3) := by decide +kernel
theorem dX7_load_10 : decode cX7_load 10 = .ok (.new 155, 3) := by decide +kernel
theorem dX7_load_13 : decode cX7_load 13 = .ok (.dup, 1) := by decide +kernel
theorem dX7_load_14 : decode cX7_load 14 = .ok (.ldc 157, 2) := by decide +kernel
theorem dX7_load_16 : decode cX7_load 16 = .ok (.invokespecial 159, 3) := by decide +kernel
theorem dX7_load_19 : decode cX7_load 19 = .ok (.athrow, 1) := by decide +kernel
theorem dX7_load_20 : decode cX7_load 20 = .ok (.aload_n 0, 1) := by decide +kernel
theorem dX7_load_21 : decode cX7_load 21 = .ok (.getfield 29, 3) := by decide +kernel
theorem dX7_load_24 : decode cX7_load 24 = .ok (.invokevirtual 160, 3) := by decide +kernel
theorem dX7_load_27 : decode cX7_load 27 = .ok (.bipush 6, 2) := by decide +kernel
theorem dX7_load_29 : decode cX7_load 29 = .ok (.if_icmp .lt 13, 3) := by decide +kernel
theorem dX7_load_32 : decode cX7_load 32 = .ok (.new 112, 3) := by decide +kernel
theorem dX7_load_35 : decode cX7_load 35 = .ok (.dup, 1) := by decide +kernel
theorem dX7_load_36 : decode cX7_load 36 = .ok (.ldc 163, 2) := by decide +kernel
theorem dX7_load_38 : decode cX7_load 38 = .ok (.invokespecial 116, 3) := by decide +kernel
theorem dX7_load_41 : decode cX7_load 41 = .ok (.athrow, 1) := by decide +kernel
theorem dX7_load_42 : decode cX7_load 42 = .ok (.aload_n 0, 1) := by decide +kernel
theorem dX7_load_43 : decode cX7_load 43 = .ok (.getfield 22, 3) := by decide +kernel
theorem dX7_load_46 : decode cX7_load 46 = .ok (.aload_n 0, 1) := by decide +kernel
theorem dX7_load_47 : decode cX7_load 47 = .ok (.getfield 10, 3) := by decide +kernel
theorem dX7_load_50 : decode cX7_load 50 = .ok (.invokevirtual 45, 3) := by decide +kernel
theorem dX7_load_53 : decode cX7_load 53 = .ok (.aload_n 0, 1) := by decide +kernel
theorem dX7_load_54 : decode cX7_load 54 = .ok (.getfield 29, 3) := by decide +kernel
theorem dX7_load_57 : decode cX7_load 57 = .ok (.aload_n 0, 1) := by decide +kernel
theorem dX7_load_58 : decode cX7_load 58 = .ok (.getfield 10, 3) := by decide +kernel
theorem dX7_load_61 : decode cX7_load 61 = .ok (.getfield 105, 3) := by decide +kernel
theorem dX7_load_64 : decode cX7_load 64 = .ok (.aload_n 0, 1) := by decide +kernel
theorem dX7_load_65 : decode cX7_load 65 = .ok (.getfield 10, 3) := by decide +kernel
theorem dX7_load_68 : decode cX7_load 68 = .ok (.getfield 119, 3) := by decide +kernel
theorem dX7_load_71 : decode cX7_load 71 = .ok (.invokevirtual 165, 3) := by decide +kernel
theorem dX7_load_74 : decode cX7_load 74 = .ok (.aload_n 0, 1) := by decide +kernel
theorem dX7_load_75 : decode cX7_load 75 = .ok (.getfield 29, 3) := by decide +kernel
theorem dX7_load_78 : decode cX7_load 78 = .ok (.iconst 0, 1) := by decide +kernel
theorem dX7_load_79 : decode cX7_load 79 = .ok (.putfield 140, 3) := by decide +kernel
theorem dX7_load_82 : decode cX7_load 82 = .ok (.aload_n 0, 1) := by decide +kernel
theorem dX7_load_83 : decode cX7_load 83 = .ok (.getfield 10, 3) := by decide +kernel
theorem dX7_load_86 : decode cX7_load 86 = .ok (.getfield 105, 3) := by decide +kernel
theorem dX7_load_89 : decode cX7_load 89 = .ok (.getfield 109, 3) := by decide +kernel
theorem dX7_load_92 : decode cX7_load 92 = .ok (.ireturn, 1) := by decide +kernel
theorem dX7_undo_0 : decode cX7_undo 0 = .ok (.aload_n 0, 1) := by decide +kernel
theorem dX7_undo_1 : decode cX7_undo 1 = .ok (.getfield 22, 3) := by decide +kernel
theorem dX7_undo_4 : decode cX7_undo 4 = .ok (.getfield 169, 3) := by decide +kernel
theorem dX7_undo_7 : decode cX7_undo 7 = .ok (.ifCond .ne 13, 3) := by decide +kernel
theorem dX7_undo_10 : decode cX7_undo 10 = .ok (.new 112, 3) := by decide +kernel
theorem dX7_undo_13 : decode cX7_undo 13 = .ok (.dup, 1) := by decide +kernel
theorem dX7_undo_14 : decode cX7_undo 14 = .ok (.ldc 170, 2) := by decide +kernel
theorem dX7_undo_16 : decode cX7_undo 16 = .ok (.invokespecial 116, 3) := by decide +kernel
theorem dX7_undo_19 : decode cX7_undo 19 = .ok (.athrow, 1) := by decide +kernel
theorem dX7_undo_20 : decode cX7_undo 20 = .ok (.aload_n 0, 1) := by decide +kernel
theorem dX7_undo_21 : decode cX7_undo 21 = .ok (.getfield 22, 3) := by decide +kernel
theorem dX7_undo_24 : decode cX7_undo 24 = .ok (.aload_n 0, 1) := by decide +kernel
theorem dX7_undo_25 : decode cX7_undo 25 = .ok (.getfield 10, 3) := by decide +kernel
theorem dX7_undo_28 : decode cX7_undo 28 = .ok (.invokevirtual 172, 3) := by decide +kernel
theorem dX7_undo_31 : decode cX7_undo 31 = .ok (.aload_n 0, 1) := by decide +kernel
theorem dX7_undo_32 : decode cX7_undo 32 = .ok (.getfield 22, 3) := by decide +kernel
theorem dX7_undo_35 : decode cX7_undo 35 = .ok (.getfield 169, 3) := by decide +kernel
theorem dX7_undo_38 : decode cX7_undo 38 = .ok (.ireturn, 1) := by decide +kernel
theorem dX7_weight_0 : decode cX7_weight 0 = .ok (.iload_n 1, 1) := by decide +kernel
theorem dX7_weight_1 : decode cX7_weight 1 = .ok (.invokestatic 37, 3) := by decide +kernel
theorem dX7_weight_4 : decode cX7_weight 4 = .ok (.iload_n 2, 1) := by decide +kernel
theorem dX7_weight_5 : decode cX7_weight 5 = .ok (.tableswitch 66 0 2 #[27, 40, 53], 27) := by decide +kernel
theorem dX7_weight_32 : decode cX7_weight 32 = .ok (.aload_n 0, 1) := by decide +kernel
theorem dX7_weight_33 : decode cX7_weight 33 = .ok (.getfield 10, 3) := by decide +kernel
theorem dX7_weight_36 : decode cX7_weight 36 = .ok (.getfield 49, 3) := by decide +kernel
theorem dX7_weight_39 : decode cX7_weight 39 = .ok (.getfield 175, 3) := by decide +kernel
theorem dX7_weight_42 : decode cX7_weight 42 = .ok (.iload_n 1, 1) := by decide +kernel
theorem dX7_weight_43 : decode cX7_weight 43 = .ok (.iaload, 1) := by decide +kernel
theorem dX7_weight_44 : decode cX7_weight 44 = .ok (.ireturn, 1) := by decide +kernel
theorem dX7_weight_45 : decode cX7_weight 45 = .ok (.aload_n 0, 1) := by decide +kernel
theorem dX7_weight_46 : decode cX7_weight 46 = .ok (.getfield 10, 3) := by decide +kernel
theorem dX7_weight_49 : decode cX7_weight 49 = .ok (.getfield 49, 3) := by decide +kernel
theorem dX7_weight_52 : decode cX7_weight 52 = .ok (.getfield 178, 3) := by decide +kernel
theorem dX7_weight_55 : decode cX7_weight 55 = .ok (.iload_n 1, 1) := by decide +kernel
theorem dX7_weight_56 : decode cX7_weight 56 = .ok (.iaload, 1) := by decide +kernel
theorem dX7_weight_57 : decode cX7_weight 57 = .ok (.ireturn, 1) := by decide +kernel
theorem dX7_weight_58 : decode cX7_weight 58 = .ok (.aload_n 0, 1) := by decide +kernel
theorem dX7_weight_59 : decode cX7_weight 59 = .ok (.getfield 10, 3) := by decide +kernel
theorem dX7_weight_62 : decode cX7_weight 62 = .ok (.getfield 49, 3) := by decide +kernel
theorem dX7_weight_65 : decode cX7_weight 65 = .ok (.getfield 181, 3) := by decide +kernel
theorem dX7_weight_68 : decode cX7_weight 68 = .ok (.iload_n 1, 1) := by decide +kernel
theorem dX7_weight_69 : decode cX7_weight 69 = .ok (.iaload, 1) := by decide +kernel
theorem dX7_weight_70 : decode cX7_weight 70 = .ok (.ireturn, 1) := by decide +kernel
theorem dX7_weight_71 : decode cX7_weight 71 = .ok (.new 155, 3) := by decide +kernel
theorem dX7_weight_74 : decode cX7_weight 74 = .ok (.dup, 1) := by decide +kernel
theorem dX7_weight_75 : decode cX7_weight 75 = .ok (.ldc 184, 2) := by decide +kernel
theorem dX7_weight_77 : decode cX7_weight 77 = .ok (.invokespecial 159, 3) := by decide +kernel
theorem dX7_weight_80 : decode cX7_weight 80 = .ok (.athrow, 1) := by decide +kernel
theorem dX7_winder_0 : decode cX7_winder 0 = .ok (.aload_n 0, 1) := by decide +kernel
theorem dX7_winder_1 : decode cX7_winder 1 = .ok (.iload_n 1, 1) := by decide +kernel
theorem dX7_winder_2 : decode cX7_winder 2 = .ok (.invokevirtual 126, 3) := by decide +kernel
theorem dX7_winder_5 : decode cX7_winder 5 = .ok (.aload_n 0, 1) := by decide +kernel
theorem dX7_winder_6 : decode cX7_winder 6 = .ok (.getfield 10, 3) := by decide +kernel
theorem dX7_winder_9 : decode cX7_winder 9 = .ok (.getfield 105, 3) := by decide +kernel
theorem dX7_winder_12 : decode cX7_winder 12 = .ok (.astore_n 3, 1) := by decide +kernel
theorem dX7_winder_13 : decode cX7_winder 13 = .ok (.iload_n 2, 1) := by decide +kernel
theorem dX7_winder_14 : decode cX7_winder 14 = .ok (.tableswitch 102 0 5 #[38, 45, 52, 59, 78, 85], 38) := by decide +kernel
theorem dX7_winder_52 : decode cX7_winder 52 = .ok (.aload_n 3, 1) := by decide +kernel
theorem dX7_winder_53 : decode cX7_winder 53 = .ok (.getfield 186, 3) := by decide +kernel
theorem dX7_winder_56 : decode cX7_winder 56 = .ok (.iload_n 1, 1) := by decide +kernel
theorem dX7_winder_57 : decode cX7_winder 57 = .ok (.iaload, 1) := by decide +kernel
theorem dX7_winder_58 : decode cX7_winder 58 = .ok (.ireturn, 1) := by decide +kernel
theorem dX7_winder_59 : decode cX7_winder 59 = .ok (.aload_n 3, 1) := by decide +kernel
theorem dX7_winder_60 : decode cX7_winder 60 = .ok (.getfield 189, 3) := by decide +kernel
theorem dX7_winder_63 : decode cX7_winder 63 = .ok (.iload_n 1, 1) := by decide +kernel
theorem dX7_winder_64 : decode cX7_winder 64 = .ok (.iaload, 1) := by decide +kernel
theorem dX7_winder_65 : decode cX7_winder 65 = .ok (.ireturn, 1) := by decide +kernel
theorem dX7_winder_66 : decode cX7_winder 66 = .ok (.aload_n 3, 1) := by decide +kernel
theorem dX7_winder_67 : decode cX7_winder 67 = .ok (.getfield 192, 3) := by decide +kernel
theorem dX7_winder_70 : decode cX7_winder 70 = .ok (.iload_n 1, 1) := by decide +kernel
theorem dX7_winder_71 : decode cX7_winder 71 = .ok (.iaload, 1) := by decide +kernel
theorem dX7_winder_72 : decode cX7_winder 72 = .ok (.ireturn, 1) := by decide +kernel
theorem dX7_winder_73 : decode cX7_winder 73 = .ok (.iconst 0, 1) := by decide +kernel
theorem dX7_winder_74 : decode cX7_winder 74 = .ok (.aload_n 3, 1) := by decide +kernel
theorem dX7_winder_75 : decode cX7_winder 75 = .ok (.getfield 195, 3) := by decide +kernel
theorem dX7_winder_78 : decode cX7_winder 78 = .ok (.iload_n 1, 1) := by decide +kernel
theorem dX7_winder_79 : decode cX7_winder 79 = .ok (.iaload, 1) := by decide +kernel
theorem dX7_winder_80 : decode cX7_winder 80 = .ok (.aload_n 0, 1) := by decide +kernel
theorem dX7_winder_81 : decode cX7_winder 81 = .ok (.getfield 10, 3) := by decide +kernel
theorem dX7_winder_84 : decode cX7_winder 84 = .ok (.getfield 119, 3) := by decide +kernel
theorem dX7_winder_87 : decode cX7_winder 87 = .ok (.isub, 1) := by decide +kernel
theorem dX7_winder_88 : decode cX7_winder 88 = .ok (.invokestatic 198, 3) := by decide +kernel
theorem dX7_winder_91 : decode cX7_winder 91 = .ok (.ireturn, 1) := by decide +kernel
theorem dX7_winder_92 : decode cX7_winder 92 = .ok (.aload_n 3, 1) := by decide +kernel
theorem dX7_winder_93 : decode cX7_winder 93 = .ok (.getfield 201, 3) := by decide +kernel
theorem dX7_winder_96 : decode cX7_winder 96 = .ok (.iload_n 1, 1) := by decide +kernel
theorem dX7_winder_97 : decode cX7_winder 97 = .ok (.iaload, 1) := by decide +kernel
theorem dX7_winder_98 : decode cX7_winder 98 = .ok (.ireturn, 1) := by decide +kernel
theorem dX7_winder_99 : decode cX7_winder 99 = .ok (.aload_n 0, 1) := by decide +kernel
theorem dX7_winder_100 : decode cX7_winder 100 = .ok (.getfield 10, 3) := by decide +kernel
theorem dX7_winder_103 : decode cX7_winder 103 = .ok (.iload_n 1, 1) := by decide +kernel
theorem dX7_winder_104 : decode cX7_winder 104 = .ok (.invokevirtual 204, 3) := by decide +kernel
theorem dX7_winder_107 : decode cX7_winder 107 = .ok (.ifCond .eq 7, 3) := by decide +kernel
theorem dX7_winder_110 : decode cX7_winder 110 = .ok (.iconst 1, 1) := by decide +kernel
theorem dX7_winder_111 : decode cX7_winder 111 = .ok (.goto 4, 3) := by decide +kernel
theorem dX7_winder_114 : decode cX7_winder 114 = .ok (.iconst 0, 1) := by decide +kernel
theorem dX7_winder_115 : decode cX7_winder 115 = .ok (.ireturn, 1) := by decide +kernel
theorem dX7_winder_116 : decode cX7_winder 116 = .ok (.new 155, 3) := by decide +kernel
theorem dX7_winder_119 : decode cX7_winder 119 = .ok (.dup, 1) := by decide +kernel
theorem dX7_winder_120 : decode cX7_winder 120 = .ok (.ldc 184, 2) := by decide +kernel
theorem dX7_winder_122 : decode cX7_winder 122 = .ok (.invokespecial 159, 3) := by decide +kernel
theorem dX7_winder_125 : decode cX7_winder 125 = .ok (.athrow, 1) := by decide +kernel
theorem dX7_debt_0 : decode cX7_debt 0 = .ok (.iload_n 1, 1) := by decide +kernel
theorem dX7_debt_1 : decode cX7_debt 1 = .ok (.ifCond .lt 17, 3) := by decide +kernel
theorem dX7_debt_4 : decode cX7_debt 4 = .ok (.iload_n 1, 1) := by decide +kernel
theorem dX7_debt_5 : decode cX7_debt 5 = .ok (.aload_n 0, 1) := by decide +kernel
theorem dX7_debt_6 : decode cX7_debt 6 = .ok (.getfield 10, 3) := by decide +kernel
theorem dX7_debt_9 : decode cX7_debt 9 = .ok (.getfield 89, 3) := by decide +kernel
theorem dX7_debt_12 : decode cX7_debt 12 = .ok (.getfield 99, 3) := by decide +kernel
theorem dX7_debt_15 : decode cX7_debt 15 = .ok (.if_icmp .lt 13, 3) := by decide +kernel
theorem dX7_debt_18 : decode cX7_debt 18 = .ok (.new 208, 3) := by decide +kernel
theorem dX7_debt_21 : decode cX7_debt 21 = .ok (.dup, 1) := by decide +kernel
theorem dX7_debt_22 : decode cX7_debt 22 = .ok (.ldc 210, 2) := by decide +kernel
theorem dX7_debt_24 : decode cX7_debt 24 = .ok (.invokespecial 212, 3) := by decide +kernel
theorem dX7_debt_27 : decode cX7_debt 27 = .ok (.athrow, 1) := by decide +kernel
theorem dX7_debt_28 : decode cX7_debt 28 = .ok (.iload_n 2, 1) := by decide +kernel
theorem dX7_debt_29 : decode cX7_debt 29 = .ok (.lookupswitch 53 #[(0, 27), (1, 40)], 27) := by decide +kernel
theorem dX7_debt_56 : decode cX7_debt 56 = .ok (.aload_n 0, 1) := by decide +kernel
theorem dX7_debt_57 : decode cX7_debt 57 = .ok (.getfield 10, 3) := by decide +kernel
theorem dX7_debt_60 : decode cX7_debt 60 = .ok (.getfield 89, 3) := by decide +kernel
theorem dX7_debt_63 : decode cX7_debt 63 = .ok (.getfield 213, 3) := by decide +kernel
theorem dX7_debt_66 : decode cX7_debt 66 = .ok (.iload_n 1, 1) := by decide +kernel
theorem dX7_debt_67 : decode cX7_debt 67 = .ok (.iaload, 1) := by decide +kernel
theorem dX7_debt_68 : decode cX7_debt 68 = .ok (.ireturn, 1) := by decide +kernel
theorem dX7_debt_69 : decode cX7_debt 69 = .ok (.aload_n 0, 1) := by decide +kernel
theorem dX7_debt_70 : decode cX7_debt 70 = .ok (.getfield 10, 3) := by decide +kernel
theorem dX7_debt_73 : decode cX7_debt 73 = .ok (.getfield 89, 3) := by decide +kernel
theorem dX7_debt_76 : decode cX7_debt 76 = .ok (.getfield 216, 3) := by decide +kernel
theorem dX7_debt_79 : decode cX7_debt 79 = .ok (.iload_n 1, 1) := by decide +kernel
theorem dX7_debt_80 : decode cX7_debt 80 = .ok (.iaload, 1) := by decide +kernel
theorem dX7_debt_81 : decode cX7_debt 81 = .ok (.ireturn, 1) := by decide +kernel
theorem dX7_debt_82 : decode cX7_debt 82 = .ok (.new 155, 3) := by decide +kernel
theorem dX7_debt_85 : decode cX7_debt 85 = .ok (.dup, 1) := by decide +kernel
theorem dX7_debt_86 : decode cX7_debt 86 = .ok (.ldc 184, 2) := by decide +kernel
theorem dX7_debt_88 : decode cX7_debt 88 = .ok (.invokespecial 159, 3) := by decide +kernel
theorem dX7_debt_91 : decode cX7_debt 91 = .ok (.athrow, 1) := by decide +kernel
theorem dX7_count_0 : decode cX7_count 0 = .ok (.iload_n 1, 1) := by decide +kernel
theorem dX7_count_1 : decode cX7_count 1 = .ok (.tableswitch 262 0 17 #[87, 95, 103, 111, 119, 127, 138, 149, 157, 165, 173, 181, 189, 197, 205, 216, 238, 254], 87) := by decide +kernel
theorem dX7_count_88 : decode cX7_count 88 = .ok (.aload_n 0, 1) := by decide +kernel
theorem dX7_count_89 : decode cX7_count 89 = .ok (.getfield 10, 3) := by decide +kernel
theorem dX7_count_92 : decode cX7_count 92 = .ok (.getfield 119, 3) := by decide +kernel
theorem dX7_count_95 : decode cX7_count 95 = .ok (.ireturn, 1) := by decide +kernel
theorem dX7_count_96 : decode cX7_count 96 = .ok (.aload_n 0, 1) := by decide +kernel
theorem dX7_count_97 : decode cX7_count 97 = .ok (.getfield 10, 3) := by decide +kernel
theorem dX7_count_100 : decode cX7_count 100 = .ok (.getfield 83, 3) := by decide +kernel
theorem dX7_count_103 : decode cX7_count 103 = .ok (.ireturn, 1) := by decide +kernel
theorem dX7_count_104 : decode cX7_count 104 = .ok (.aload_n 0, 1) := by decide +kernel
theorem dX7_count_105 : decode cX7_count 105 = .ok (.getfield 10, 3) := by decide +kernel
theorem dX7_count_108 : decode cX7_count 108 = .ok (.getfield 71, 3) := by decide +kernel
theorem dX7_count_111 : decode cX7_count 111 = .ok (.ireturn, 1) := by decide +kernel
theorem dX7_count_112 : decode cX7_count 112 = .ok (.aload_n 0, 1) := by decide +kernel
theorem dX7_count_113 : decode cX7_count 113 = .ok (.getfield 10, 3) := by decide +kernel
theorem dX7_count_116 : decode cX7_count 116 = .ok (.getfield 80, 3) := by decide +kernel
theorem dX7_count_119 : decode cX7_count 119 = .ok (.ireturn, 1) := by decide +kernel
theorem dX7_count_120 : decode cX7_count 120 = .ok (.aload_n 0, 1) := by decide +kernel
theorem dX7_count_121 : decode cX7_count 121 = .ok (.getfield 10, 3) := by decide +kernel
theorem dX7_count_124 : decode cX7_count 124 = .ok (.getfield 86, 3) := by decide +kernel
theorem dX7_count_127 : decode cX7_count 127 = .ok (.ireturn, 1) := by decide +kernel
theorem dX7_count_128 : decode cX7_count 128 = .ok (.aload_n 0, 1) := by decide +kernel
theorem dX7_count_129 : decode cX7_count 129 = .ok (.getfield 10, 3) := by decide +kernel
theorem dX7_count_132 : decode cX7_count 132 = .ok (.getfield 89, 3) := by decide +kernel
theorem dX7_count_135 : decode cX7_count 135 = .ok (.getfield 99, 3) := by decide +kernel
theorem dX7_count_138 : decode cX7_count 138 = .ok (.ireturn, 1) := by decide +kernel
theorem dX7_count_139 : decode cX7_count 139 = .ok (.aload_n 0, 1) := by decide +kernel
theorem dX7_count_140 : decode cX7_count 140 = .ok (.getfield 10, 3) := by decide +kernel
theorem dX7_count_143 : decode cX7_count 143 = .ok (.getfield 89, 3) := by decide +kernel
theorem dX7_count_146 : decode cX7_count 146 = .ok (.invokevirtual 93, 3) := by decide +kernel
theorem dX7_count_149 : decode cX7_count 149 = .ok (.ireturn, 1) := by decide +kernel
theorem dX7_count_150 : decode cX7_count 150 = .ok (.aload_n 0, 1) := by decide +kernel
theorem dX7_count_151 : decode cX7_count 151 = .ok (.getfield 10, 3) := by decide +kernel
theorem dX7_count_154 : decode cX7_count 154 = .ok (.getfield 134, 3) := by decide +kernel
theorem dX7_count_157 : decode cX7_count 157 = .ok (.ireturn, 1) := by decide +kernel
theorem dX7_count_158 : decode cX7_count 158 = .ok (.aload_n 0, 1) := by decide +kernel
theorem dX7_count_159 : decode cX7_count 159 = .ok (.getfield 10, 3) := by decide +kernel
theorem dX7_count_162 : decode cX7_count 162 = .ok (.getfield 102, 3) := by decide +kernel
theorem dX7_count_165 : decode cX7_count 165 = .ok (.ireturn, 1) := by decide +kernel
theorem dX7_count_166 : decode cX7_count 166 = .ok (.aload_n 0, 1) := by decide +kernel
theorem dX7_count_167 : decode cX7_count 167 = .ok (.getfield 10, 3) := by decide +kernel
theorem dX7_count_170 : decode cX7_count 170 = .ok (.getfield 219, 3) := by decide +kernel
theorem dX7_count_173 : decode cX7_count 173 = .ok (.ireturn, 1) := by decide +kernel
theorem dX7_count_174 : decode cX7_count 174 = .ok (.aload_n 0, 1) := by decide +kernel
theorem dX7_count_175 : decode cX7_count 175 = .ok (.getfield 10, 3) := by decide +kernel
theorem dX7_count_178 : decode cX7_count 178 = .ok (.getfield 222, 3) := by decide +kernel
theorem dX7_count_181 : decode cX7_count 181 = .ok (.ireturn, 1) := by decide +kernel
theorem dX7_count_182 : decode cX7_count 182 = .ok (.aload_n 0, 1) := by decide +kernel
theorem dX7_count_183 : decode cX7_count 183 = .ok (.getfield 10, 3) := by decide +kernel
theorem dX7_count_186 : decode cX7_count 186 = .ok (.getfield 225, 3) := by decide +kernel
theorem dX7_count_189 : decode cX7_count 189 = .ok (.ireturn, 1) := by decide +kernel
theorem dX7_count_190 : decode cX7_count 190 = .ok (.aload_n 0, 1) := by decide +kernel
theorem dX7_count_191 : decode cX7_count 191 = .ok (.getfield 10, 3) := by decide +kernel
theorem dX7_count_194 : decode cX7_count 194 = .ok (.getfield 228, 3) := by decide +kernel
theorem dX7_count_197 : decode cX7_count 197 = .ok (.ireturn, 1) := by decide +kernel
theorem dX7_count_198 : decode cX7_count 198 = .ok (.aload_n 0, 1) := by decide +kernel
theorem dX7_count_199 : decode cX7_count 199 = .ok (.getfield 10, 3) := by decide +kernel
theorem dX7_count_202 : decode cX7_count 202 = .ok (.getfield 231, 3) := by decide +kernel
theorem dX7_count_205 : decode cX7_count 205 = .ok (.ireturn, 1) := by decide +kernel
theorem dX7_count_206 : decode cX7_count 206 = .ok (.aload_n 0, 1) := by decide +kernel
theorem dX7_count_207 : decode cX7_count 207 = .ok (.getfield 10, 3) := by decide +kernel
theorem dX7_count_210 : decode cX7_count 210 = .ok (.getfield 105, 3) := by decide +kernel
theorem dX7_count_213 : decode cX7_count 213 = .ok (.getfield 109, 3) := by decide +kernel
theorem dX7_count_216 : decode cX7_count 216 = .ok (.ireturn, 1) := by decide +kernel
theorem dX7_count_217 : decode cX7_count 217 = .ok (.aload_n 0, 1) := by decide +kernel
theorem dX7_count_218 : decode cX7_count 218 = .ok (.getfield 10, 3) := by decide +kernel
theorem dX7_count_221 : decode cX7_count 221 = .ok (.getfield 119, 3) := by decide +kernel
theorem dX7_count_224 : decode cX7_count 224 = .ok (.aload_n 0, 1) := by decide +kernel
theorem dX7_count_225 : decode cX7_count 225 = .ok (.getfield 10, 3) := by decide +kernel
theorem dX7_count_228 : decode cX7_count 228 = .ok (.getfield 83, 3) := by decide +kernel
theorem dX7_count_231 : decode cX7_count 231 = .ok (.isub, 1) := by decide +kernel
theorem dX7_count_232 : decode cX7_count 232 = .ok (.sipush 720, 3) := by decide +kernel
theorem dX7_count_235 : decode cX7_count 235 = .ok (.invokestatic 234, 3) := by decide +kernel
theorem dX7_count_238 : decode cX7_count 238 = .ok (.ireturn, 1) := by decide +kernel
theorem dX7_count_239 : decode cX7_count 239 = .ok (.aload_n 0, 1) := by decide +kernel
theorem dX7_count_240 : decode cX7_count 240 = .ok (.getfield 10, 3) := by decide +kernel
theorem dX7_count_243 : decode cX7_count 243 = .ok (.invokevirtual 237, 3) := by decide +kernel
theorem dX7_count_246 : decode cX7_count 246 = .ok (.ifCond .eq 7, 3) := by decide +kernel
theorem dX7_count_249 : decode cX7_count 249 = .ok (.iconst 1, 1) := by decide +kernel
theorem dX7_count_250 : decode cX7_count 250 = .ok (.goto 4, 3) := by decide +kernel
theorem dX7_count_253 : decode cX7_count 253 = .ok (.iconst 0, 1) := by decide +kernel
theorem dX7_count_254 : decode cX7_count 254 = .ok (.ireturn, 1) := by decide +kernel
theorem dX7_count_255 : decode cX7_count 255 = .ok (.aload_n 0, 1) := by decide +kernel
theorem dX7_count_256 : decode cX7_count 256 = .ok (.getfield 22, 3) := by decide +kernel
theorem dX7_count_259 : decode cX7_count 259 = .ok (.getfield 169, 3) := by decide +kernel
theorem dX7_count_262 : decode cX7_count 262 = .ok (.ireturn, 1) := by decide +kernel
theorem dX7_count_263 : decode cX7_count 263 = .ok (.new 155, 3) := by decide +kernel
theorem dX7_count_266 : decode cX7_count 266 = .ok (.dup, 1) := by decide +kernel
theorem dX7_count_267 : decode cX7_count 267 = .ok (.ldc 240, 2) := by decide +kernel
theorem dX7_count_269 : decode cX7_count 269 = .ok (.invokespecial 159, 3) := by decide +kernel
theorem dX7_count_272 : decode cX7_count 272 = .ok (.athrow, 1) := by decide +kernel
theorem dX7_setting_0 : decode cX7_setting 0 = .ok (.iload_n 1, 1) := by decide +kernel
theorem dX7_setting_1 : decode cX7_setting 1 = .ok (.invokestatic 59, 3) := by decide +kernel
theorem dX7_setting_4 : decode cX7_setting 4 = .ok (.aload_n 0, 1) := by decide +kernel
theorem dX7_setting_5 : decode cX7_setting 5 = .ok (.getfield 10, 3) := by decide +kernel
theorem dX7_setting_8 : decode cX7_setting 8 = .ok (.getfield 68, 3) := by decide +kernel
theorem dX7_setting_11 : decode cX7_setting 11 = .ok (.iload_n 1, 1) := by decide +kernel
theorem dX7_setting_12 : decode cX7_setting 12 = .ok (.iaload, 1) := by decide +kernel
theorem dX7_setting_13 : decode cX7_setting 13 = .ok (.ireturn, 1) := by decide +kernel
theorem dX7_why_0 : decode cX7_why 0 = .ok (.iload_n 1, 1) := by decide +kernel
theorem dX7_why_1 : decode cX7_why 1 = .ok (.iconst 0, 1) := by decide +kernel
theorem dX7_why_2 : decode cX7_why 2 = .ok (.iconst 2, 1) := by decide +kernel
theorem dX7_why_3 : decode cX7_why 3 = .ok (.invokestatic 41, 3) := by decide +kernel
theorem dX7_why_6 : decode cX7_why 6 = .ok (.aload_n 0, 1) := by decide +kernel
theorem dX7_why_7 : decode cX7_why 7 = .ok (.getfield 16, 3) := by decide +kernel
theorem dX7_why_10 : decode cX7_why 10 = .ok (.aload_n 0, 1) := by decide +kernel
theorem dX7_why_11 : decode cX7_why 11 = .ok (.getfield 10, 3) := by decide +kernel
theorem dX7_why_14 : decode cX7_why 14 = .ok (.invokevirtual 242, 3) := by decide +kernel
theorem dX7_why_17 : decode cX7_why 17 = .ok (.iload_n 1, 1) := by decide +kernel
theorem dX7_why_18 : decode cX7_why 18 = .ok (.lookupswitch 42 #[(0, 26), (1, 34)], 26) := by decide +kernel
theorem dX7_why_44 : decode cX7_why 44 = .ok (.aload_n 0, 1) := by decide +kernel
theorem dX7_why_45 : decode cX7_why 45 = .ok (.getfield 16, 3) := by decide +kernel
theorem dX7_why_48 : decode cX7_why 48 = .ok (.invokevirtual 245, 3) := by decide +kernel
theorem dX7_why_51 : decode cX7_why 51 = .ok (.ireturn, 1) := by decide +kernel
theorem dX7_why_52 : decode cX7_why 52 = .ok (.aload_n 0, 1) := by decide +kernel
theorem dX7_why_53 : decode cX7_why 53 = .ok (.getfield 16, 3) := by decide +kernel
theorem dX7_why_56 : decode cX7_why 56 = .ok (.invokevirtual 248, 3) := by decide +kernel
theorem dX7_why_59 : decode cX7_why 59 = .ok (.ireturn, 1) := by decide +kernel
theorem dX7_why_60 : decode cX7_why 60 = .ok (.aload_n 0, 1) := by decide +kernel
theorem dX7_why_61 : decode cX7_why 61 = .ok (.getfield 16, 3) := by decide +kernel
theorem dX7_why_64 : decode cX7_why 64 = .ok (.invokevirtual 251, 3) := by decide +kernel
theorem dX7_why_67 : decode cX7_why 67 = .ok (.ireturn, 1) := by decide +kernel
theorem dX7_ifPassed_0 : decode cX7_ifPassed 0 = .ok (.iload_n 1, 1) := by decide +kernel
theorem dX7_ifPassed_1 : decode cX7_ifPassed 1 = .ok (.iconst 1, 1) := by decide +kernel
theorem dX7_ifPassed_2 : decode cX7_ifPassed 2 = .ok (.sipush 720, 3) := by decide +kernel
theorem dX7_ifPassed_5 : decode cX7_ifPassed 5 = .ok (.invokestatic 41, 3) := by decide +kernel
theorem dX7_ifPassed_8 : decode cX7_ifPassed 8 = .ok (.iload_n 2, 1) := by decide +kernel
theorem dX7_ifPassed_9 : decode cX7_ifPassed 9 = .ok (.iconst 0, 1) := by decide +kernel
theorem dX7_ifPassed_10 : decode cX7_ifPassed 10 = .ok (.bipush 9, 2) := by decide +kernel
theorem dX7_ifPassed_12 : decode cX7_ifPassed 12 = .ok (.invokestatic 41, 3) := by decide +kernel
theorem dX7_ifPassed_15 : decode cX7_ifPassed 15 = .ok (.aload_n 0, 1) := by decide +kernel
theorem dX7_ifPassed_16 : decode cX7_ifPassed 16 = .ok (.getfield 16, 3) := by decide +kernel
theorem dX7_ifPassed_19 : decode cX7_ifPassed 19 = .ok (.aload_n 0, 1) := by decide +kernel
theorem dX7_ifPassed_20 : decode cX7_ifPassed 20 = .ok (.getfield 10, 3) := by decide +kernel
theorem dX7_ifPassed_23 : decode cX7_ifPassed 23 = .ok (.invokevirtual 242, 3) := by decide +kernel
theorem dX7_ifPassed_26 : decode cX7_ifPassed 26 = .ok (.aload_n 0, 1) := by decide +kernel
theorem dX7_ifPassed_27 : decode cX7_ifPassed 27 = .ok (.getfield 16, 3) := by decide +kernel
theorem dX7_ifPassed_30 : decode cX7_ifPassed 30 = .ok (.iload_n 1, 1) := by decide +kernel
theorem dX7_ifPassed_31 : decode cX7_ifPassed 31 = .ok (.invokevirtual 137, 3) := by decide +kernel
theorem dX7_ifPassed_34 : decode cX7_ifPassed 34 = .ok (.aload_n 0, 1) := by decide +kernel
theorem dX7_ifPassed_35 : decode cX7_ifPassed 35 = .ok (.getfield 16, 3) := by decide +kernel
theorem dX7_ifPassed_38 : decode cX7_ifPassed 38 = .ok (.iload_n 2, 1) := by decide +kernel
theorem dX7_ifPassed_39 : decode cX7_ifPassed 39 = .ok (.invokevirtual 254, 3) := by decide +kernel
theorem dX7_ifPassed_42 : decode cX7_ifPassed 42 = .ok (.ireturn, 1) := by decide +kernel
theorem dX7_standsIn_0 : decode cX7_standsIn 0 = .ok (.aload_n 0, 1) := by decide +kernel
theorem dX7_standsIn_1 : decode cX7_standsIn 1 = .ok (.getfield 16, 3) := by decide +kernel
theorem dX7_standsIn_4 : decode cX7_standsIn 4 = .ok (.aload_n 0, 1) := by decide +kernel
theorem dX7_standsIn_5 : decode cX7_standsIn 5 = .ok (.getfield 10, 3) := by decide +kernel
theorem dX7_standsIn_8 : decode cX7_standsIn 8 = .ok (.invokevirtual 242, 3) := by decide +kernel
theorem dX7_standsIn_11 : decode cX7_standsIn 11 = .ok (.iconst 0, 1) := by decide +kernel
theorem dX7_standsIn_12 : decode cX7_standsIn 12 = .ok (.istore_n 1, 1) := by decide +kernel
theorem dX7_standsIn_13 : decode cX7_standsIn 13 = .ok (.iload_n 1, 1) := by decide +kernel
theorem dX7_standsIn_14 : decode cX7_standsIn 14 = .ok (.sipush 1500, 3) := by decide +kernel
theorem dX7_standsIn_17 : decode cX7_standsIn 17 = .ok (.if_icmp .gt 35, 3) := by decide +kernel
theorem dX7_standsIn_20 : decode cX7_standsIn 20 = .ok (.aload_n 0, 1) := by decide +kernel
theorem dX7_standsIn_21 : decode cX7_standsIn 21 = .ok (.getfield 16, 3) := by decide +kernel
theorem dX7_standsIn_24 : decode cX7_standsIn 24 = .ok (.invokevirtual 258, 3) := by decide +kernel
theorem dX7_standsIn_27 : decode cX7_standsIn 27 = .ok (.aload_n 0, 1) := by decide +kernel
theorem dX7_standsIn_28 : decode cX7_standsIn 28 = .ok (.getfield 16, 3) := by decide +kernel
theorem dX7_standsIn_31 : decode cX7_standsIn 31 = .ok (.getfield 228, 3) := by decide +kernel
theorem dX7_standsIn_34 : decode cX7_standsIn 34 = .ok (.aload_n 0, 1) := by decide +kernel
theorem dX7_standsIn_35 : decode cX7_standsIn 35 = .ok (.getfield 10, 3) := by decide +kernel
theorem dX7_standsIn_38 : decode cX7_standsIn 38 = .ok (.getfield 228, 3) := by decide +kernel
theorem dX7_standsIn_41 : decode cX7_standsIn 41 = .ok (.if_icmp .le 5, 3) := by decide +kernel
theorem dX7_standsIn_44 : decode cX7_standsIn 44 = .ok (.iload_n 1, 1) := by decide +kernel
theorem dX7_standsIn_45 : decode cX7_standsIn 45 = .ok (.ireturn, 1) := by decide +kernel
theorem dX7_standsIn_46 : decode cX7_standsIn 46 = .ok (.iinc 1 1, 3) := by decide +kernel
theorem dX7_standsIn_49 : decode cX7_standsIn 49 = .ok (.goto (-36), 3) := by decide +kernel
theorem dX7_standsIn_52 : decode cX7_standsIn 52 = .ok (.iconst (-1), 1) := by decide +kernel
theorem dX7_standsIn_53 : decode cX7_standsIn 53 = .ok (.ireturn, 1) := by decide +kernel
theorem dX7_paidIn_0 : decode cX7_paidIn 0 = .ok (.aload_n 0, 1) := by decide +kernel
theorem dX7_paidIn_1 : decode cX7_paidIn 1 = .ok (.getfield 16, 3) := by decide +kernel
theorem dX7_paidIn_4 : decode cX7_paidIn 4 = .ok (.aload_n 0, 1) := by decide +kernel
theorem dX7_paidIn_5 : decode cX7_paidIn 5 = .ok (.getfield 10, 3) := by decide +kernel
theorem dX7_paidIn_8 : decode cX7_paidIn 8 = .ok (.invokevirtual 242, 3) := by decide +kernel
theorem dX7_paidIn_11 : decode cX7_paidIn 11 = .ok (.iconst 0, 1) := by decide +kernel
theorem dX7_paidIn_12 : decode cX7_paidIn 12 = .ok (.istore_n 1, 1) := by decide +kernel
theorem dX7_paidIn_13 : decode cX7_paidIn 13 = .ok (.iload_n 1, 1) := by decide +kernel
theorem dX7_paidIn_14 : decode cX7_paidIn 14 = .ok (.sipush 720, 3) := by decide +kernel
theorem dX7_paidIn_17 : decode cX7_paidIn 17 = .ok (.if_icmp .gt 31, 3) := by decide +kernel
theorem dX7_paidIn_20 : decode cX7_paidIn 20 = .ok (.aload_n 0, 1) := by decide +kernel
theorem dX7_paidIn_21 : decode cX7_paidIn 21 = .ok (.getfield 16, 3) := by decide +kernel
theorem dX7_paidIn_24 : decode cX7_paidIn 24 = .ok (.getfield 89, 3) := by decide +kernel
theorem dX7_paidIn_27 : decode cX7_paidIn 27 = .ok (.getfield 99, 3) := by decide +kernel
theorem dX7_paidIn_30 : decode cX7_paidIn 30 = .ok (.ifCond .ne 5, 3) := by decide +kernel
theorem dX7_paidIn_33 : decode cX7_paidIn 33 = .ok (.iload_n 1, 1) := by decide +kernel
theorem dX7_paidIn_34 : decode cX7_paidIn 34 = .ok (.ireturn, 1) := by decide +kernel
theorem dX7_paidIn_35 : decode cX7_paidIn 35 = .ok (.aload_n 0, 1) := by decide +kernel
theorem dX7_paidIn_36 : decode cX7_paidIn 36 = .ok (.getfield 16, 3) := by decide +kernel
theorem dX7_paidIn_39 : decode cX7_paidIn 39 = .ok (.invokevirtual 258, 3) := by decide +kernel
theorem dX7_paidIn_42 : decode cX7_paidIn 42 = .ok (.iinc 1 1, 3) := by decide +kernel
theorem dX7_paidIn_45 : decode cX7_paidIn 45 = .ok (.goto (-32), 3) := by decide +kernel
theorem dX7_paidIn_48 : decode cX7_paidIn 48 = .ok (.iconst (-1), 1) := by decide +kernel
theorem dX7_paidIn_49 : decode cX7_paidIn 49 = .ok (.ireturn, 1) := by decide +kernel
theorem dX7_leastTurns_0 : decode cX7_leastTurns 0 = .ok (.iload_n 1, 1) := by decide +kernel
theorem dX7_leastTurns_1 : decode cX7_leastTurns 1 = .ok (.iconst 1, 1) := by decide +kernel
theorem dX7_leastTurns_2 : decode cX7_leastTurns 2 = .ok (.sipush 720, 3) := by decide +kernel
theorem dX7_leastTurns_5 : decode cX7_leastTurns 5 = .ok (.invokestatic 41, 3) := by decide +kernel
theorem dX7_leastTurns_8 : decode cX7_leastTurns 8 = .ok (.aload_n 0, 1) := by decide +kernel
theorem dX7_leastTurns_9 : decode cX7_leastTurns 9 = .ok (.getfield 10, 3) := by decide +kernel
theorem dX7_leastTurns_12 : decode cX7_leastTurns 12 = .ok (.getfield 49, 3) := by decide +kernel
theorem dX7_leastTurns_15 : decode cX7_leastTurns 15 = .ok (.getfield 175, 3) := by decide +kernel
theorem dX7_leastTurns_18 : decode cX7_leastTurns 18 = .ok (.iconst 0, 1) := by decide +kernel
theorem dX7_leastTurns_19 : decode cX7_leastTurns 19 = .ok (.iaload, 1) := by decide +kernel
theorem dX7_leastTurns_20 : decode cX7_leastTurns 20 = .ok (.istore_n 2, 1) := by decide +kernel
theorem dX7_leastTurns_21 : decode cX7_leastTurns 21 = .ok (.aload_n 0, 1) := by decide +kernel
theorem dX7_leastTurns_22 : decode cX7_leastTurns 22 = .ok (.getfield 10, 3) := by decide +kernel
theorem dX7_leastTurns_25 : decode cX7_leastTurns 25 = .ok (.getfield 71, 3) := by decide +kernel
theorem dX7_leastTurns_28 : decode cX7_leastTurns 28 = .ok (.iload_n 2, 1) := by decide +kernel
theorem dX7_leastTurns_29 : decode cX7_leastTurns 29 = .ok (.iadd, 1) := by decide +kernel
theorem dX7_leastTurns_30 : decode cX7_leastTurns 30 = .ok (.aload_n 0, 1) := by decide +kernel
theorem dX7_leastTurns_31 : decode cX7_leastTurns 31 = .ok (.iload_n 1, 1) := by decide +kernel
theorem dX7_leastTurns_32 : decode cX7_leastTurns 32 = .ok (.invokevirtual 261, 3) := by decide +kernel
theorem dX7_leastTurns_35 : decode cX7_leastTurns 35 = .ok (.iadd, 1) := by decide +kernel
theorem dX7_leastTurns_36 : decode cX7_leastTurns 36 = .ok (.istore_n 3, 1) := by decide +kernel
theorem dX7_leastTurns_37 : decode cX7_leastTurns 37 = .ok (.iconst 0, 1) := by decide +kernel
theorem dX7_leastTurns_38 : decode cX7_leastTurns 38 = .ok (.iload_n 1, 1) := by decide +kernel
theorem dX7_leastTurns_39 : decode cX7_leastTurns 39 = .ok (.iload_n 3, 1) := by decide +kernel
theorem dX7_leastTurns_40 : decode cX7_leastTurns 40 = .ok (.isub, 1) := by decide +kernel
theorem dX7_leastTurns_41 : decode cX7_leastTurns 41 = .ok (.invokestatic 198, 3) := by decide +kernel
theorem dX7_leastTurns_44 : decode cX7_leastTurns 44 = .ok (.istore 4, 2) := by decide +kernel
theorem dX7_leastTurns_46 : decode cX7_leastTurns 46 = .ok (.iload 4, 2) := by decide +kernel
theorem dX7_leastTurns_48 : decode cX7_leastTurns 48 = .ok (.istore 5, 2) := by decide +kernel
theorem dX7_leastTurns_50 : decode cX7_leastTurns 50 = .ok (.iload 5, 2) := by decide +kernel
theorem dX7_leastTurns_52 : decode cX7_leastTurns 52 = .ok (.sipush 200, 3) := by decide +kernel
theorem dX7_leastTurns_55 : decode cX7_leastTurns 55 = .ok (.iload_n 2, 1) := by decide +kernel
theorem dX7_leastTurns_56 : decode cX7_leastTurns 56 = .ok (.isub, 1) := by decide +kernel
theorem dX7_leastTurns_57 : decode cX7_leastTurns 57 = .ok (.if_icmp .gt 24, 3) := by decide +kernel
theorem dX7_leastTurns_60 : decode cX7_leastTurns 60 = .ok (.aload_n 0, 1) := by decide +kernel
theorem dX7_leastTurns_61 : decode cX7_leastTurns 61 = .ok (.iload_n 1, 1) := by decide +kernel
theorem dX7_leastTurns_62 : decode cX7_leastTurns 62 = .ok (.iload_n 2, 1) := by decide +kernel
theorem dX7_leastTurns_63 : decode cX7_leastTurns 63 = .ok (.iload 5, 2) := by decide +kernel
theorem dX7_leastTurns_65 : decode cX7_leastTurns 65 = .ok (.iadd, 1) := by decide +kernel
theorem dX7_leastTurns_66 : decode cX7_leastTurns 66 = .ok (.invokevirtual 264, 3) := by decide +kernel
theorem dX7_leastTurns_69 : decode cX7_leastTurns 69 = .ok (.ifCond .eq 6, 3) := by decide +kernel
theorem dX7_leastTurns_72 : decode cX7_leastTurns 72 = .ok (.iload 5, 2) := by decide +kernel
theorem dX7_leastTurns_74 : decode cX7_leastTurns 74 = .ok (.ireturn, 1) := by decide +kernel
theorem dX7_leastTurns_75 : decode cX7_leastTurns 75 = .ok (.iinc 5 1, 3) := by decide +kernel
theorem dX7_leastTurns_78 : decode cX7_leastTurns 78 = .ok (.goto (-28), 3) := by decide +kernel
theorem dX7_leastTurns_81 : decode cX7_leastTurns 81 = .ok (.iconst (-1), 1) := by decide +kernel
theorem dX7_leastTurns_82 : decode cX7_leastTurns 82 = .ok (.ireturn, 1) := by decide +kernel
theorem dX7_downFirst_0 : decode cX7_downFirst 0 = .ok (.aload_n 0, 1) := by decide +kernel
theorem dX7_downFirst_1 : decode cX7_downFirst 1 = .ok (.getfield 16, 3) := by decide +kernel
theorem dX7_downFirst_4 : decode cX7_downFirst 4 = .ok (.aload_n 0, 1) := by decide +kernel
theorem dX7_downFirst_5 : decode cX7_downFirst 5 = .ok (.getfield 10, 3) := by decide +kernel
theorem dX7_downFirst_8 : decode cX7_downFirst 8 = .ok (.invokevirtual 242, 3) := by decide +kernel
theorem dX7_downFirst_11 : decode cX7_downFirst 11 = .ok (.iconst 0, 1) := by decide +kernel
theorem dX7_downFirst_12 : decode cX7_downFirst 12 = .ok (.istore_n 1, 1) := by decide +kernel
theorem dX7_downFirst_13 : decode cX7_downFirst 13 = .ok (.iload_n 1, 1) := by decide +kernel
theorem dX7_downFirst_14 : decode cX7_downFirst 14 = .ok (.sipush 1500, 3) := by decide +kernel
theorem dX7_downFirst_17 : decode cX7_downFirst 17 = .ok (.if_icmp .gt 34, 3) := by decide +kernel
theorem dX7_downFirst_20 : decode cX7_downFirst 20 = .ok (.aload_n 0, 1) := by decide +kernel
theorem dX7_downFirst_21 : decode cX7_downFirst 21 = .ok (.getfield 16, 3) := by decide +kernel
theorem dX7_downFirst_24 : decode cX7_downFirst 24 = .ok (.getfield 49, 3) := by decide +kernel
theorem dX7_downFirst_27 : decode cX7_downFirst 27 = .ok (.invokevirtual 268, 3) := by decide +kernel
theorem dX7_downFirst_30 : decode cX7_downFirst 30 = .ok (.istore_n 2, 1) := by decide +kernel
theorem dX7_downFirst_31 : decode cX7_downFirst 31 = .ok (.iload_n 2, 1) := by decide +kernel
theorem dX7_downFirst_32 : decode cX7_downFirst 32 = .ok (.iconst (-1), 1) := by decide +kernel
theorem dX7_downFirst_33 : decode cX7_downFirst 33 = .ok (.if_icmp .eq 5, 3) := by decide +kernel
theorem dX7_downFirst_36 : decode cX7_downFirst 36 = .ok (.iload_n 2, 1) := by decide +kernel
theorem dX7_downFirst_37 : decode cX7_downFirst 37 = .ok (.ireturn, 1) := by decide +kernel
theorem dX7_downFirst_38 : decode cX7_downFirst 38 = .ok (.aload_n 0, 1) := by decide +kernel
theorem dX7_downFirst_39 : decode cX7_downFirst 39 = .ok (.getfield 16, 3) := by decide +kernel
theorem dX7_downFirst_42 : decode cX7_downFirst 42 = .ok (.invokevirtual 258, 3) := by decide +kernel
theorem dX7_downFirst_45 : decode cX7_downFirst 45 = .ok (.iinc 1 1, 3) := by decide +kernel
theorem dX7_downFirst_48 : decode cX7_downFirst 48 = .ok (.goto (-35), 3) := by decide +kernel
theorem dX7_downFirst_51 : decode cX7_downFirst 51 = .ok (.iconst (-1), 1) := by decide +kernel
theorem dX7_downFirst_52 : decode cX7_downFirst 52 = .ok (.ireturn, 1) := by decide +kernel
theorem dX7_lostShare_0 : decode cX7_lostShare 0 = .ok (.aload_n 0, 1) := by decide +kernel
theorem dX7_lostShare_1 : decode cX7_lostShare 1 = .ok (.getfield 10, 3) := by decide +kernel
theorem dX7_lostShare_4 : decode cX7_lostShare 4 = .ok (.getfield 119, 3) := by decide +kernel
theorem dX7_lostShare_7 : decode cX7_lostShare 7 = .ok (.ifCond .gt 5, 3) := by decide +kernel
theorem dX7_lostShare_10 : decode cX7_lostShare 10 = .ok (.dconst 0, 1) := by decide +kernel
theorem dX7_lostShare_11 : decode cX7_lostShare 11 = .ok (.dreturn, 1) := by decide +kernel
theorem dX7_lostShare_12 : decode cX7_lostShare 12 = .ok (.aload_n 0, 1) := by decide +kernel
theorem dX7_lostShare_13 : decode cX7_lostShare 13 = .ok (.getfield 10, 3) := by decide +kernel
theorem dX7_lostShare_16 : decode cX7_lostShare 16 = .ok (.getfield 225, 3) := by decide +kernel
theorem dX7_lostShare_19 : decode cX7_lostShare 19 = .ok (.aload_n 0, 1) := by decide +kernel
theorem dX7_lostShare_20 : decode cX7_lostShare 20 = .ok (.getfield 10, 3) := by decide +kernel
theorem dX7_lostShare_23 : decode cX7_lostShare 23 = .ok (.getfield 228, 3) := by decide +kernel
theorem dX7_lostShare_26 : decode cX7_lostShare 26 = .ok (.iadd, 1) := by decide +kernel
theorem dX7_lostShare_27 : decode cX7_lostShare 27 = .ok (.i2d, 1) := by decide +kernel
theorem dX7_lostShare_28 : decode cX7_lostShare 28 = .ok (.aload_n 0, 1) := by decide +kernel
theorem dX7_lostShare_29 : decode cX7_lostShare 29 = .ok (.getfield 10, 3) := by decide +kernel
theorem dX7_lostShare_32 : decode cX7_lostShare 32 = .ok (.getfield 119, 3) := by decide +kernel
theorem dX7_lostShare_35 : decode cX7_lostShare 35 = .ok (.i2d, 1) := by decide +kernel
theorem dX7_lostShare_36 : decode cX7_lostShare 36 = .ok (.ddiv, 1) := by decide +kernel
theorem dX7_lostShare_37 : decode cX7_lostShare 37 = .ok (.dreturn, 1) := by decide +kernel
theorem dX7_digest_0 : decode cX7_digest 0 = .ok (.aload_n 0, 1) := by decide +kernel
theorem dX7_digest_1 : decode cX7_digest 1 = .ok (.ldc2_w 271, 3) := by decide +kernel
theorem dX7_digest_4 : decode cX7_digest 4 = .ok (.invokevirtual 273, 3) := by decide +kernel
theorem dX7_digest_7 : decode cX7_digest 7 = .ok (.lstore_n 1, 1) := by decide +kernel
theorem dX7_digest_8 : decode cX7_digest 8 = .ok (.iconst 0, 1) := by decide +kernel
theorem dX7_digest_9 : decode cX7_digest 9 = .ok (.istore_n 3, 1) := by decide +kernel
theorem dX7_digest_10 : decode cX7_digest 10 = .ok (.iload_n 3, 1) := by decide +kernel
theorem dX7_digest_11 : decode cX7_digest 11 = .ok (.iconst 3, 1) := by decide +kernel
theorem dX7_digest_12 : decode cX7_digest 12 = .ok (.if_icmp .ge 20, 3) := by decide +kernel
theorem dX7_digest_15 : decode cX7_digest 15 = .ok (.lload_n 1, 1) := by decide +kernel
theorem dX7_digest_16 : decode cX7_digest 16 = .ok (.aload_n 0, 1) := by decide +kernel
theorem dX7_digest_17 : decode cX7_digest 17 = .ok (.iload_n 3, 1) := by decide +kernel
theorem dX7_digest_18 : decode cX7_digest 18 = .ok (.invokevirtual 277, 3) := by decide +kernel
theorem dX7_digest_21 : decode cX7_digest 21 = .ok (.i2l, 1) := by decide +kernel
theorem dX7_digest_22 : decode cX7_digest 22 = .ok (.invokestatic 280, 3) := by decide +kernel
theorem dX7_digest_25 : decode cX7_digest 25 = .ok (.lstore_n 1, 1) := by decide +kernel
theorem dX7_digest_26 : decode cX7_digest 26 = .ok (.iinc 3 1, 3) := by decide +kernel
theorem dX7_digest_29 : decode cX7_digest 29 = .ok (.goto (-19), 3) := by decide +kernel
theorem dX7_digest_32 : decode cX7_digest 32 = .ok (.aload_n 0, 1) := by decide +kernel
theorem dX7_digest_33 : decode cX7_digest 33 = .ok (.getfield 16, 3) := by decide +kernel
theorem dX7_digest_36 : decode cX7_digest 36 = .ok (.aload_n 0, 1) := by decide +kernel
theorem dX7_digest_37 : decode cX7_digest 37 = .ok (.getfield 10, 3) := by decide +kernel
theorem dX7_digest_40 : decode cX7_digest 40 = .ok (.invokevirtual 242, 3) := by decide +kernel
theorem dX7_digest_43 : decode cX7_digest 43 = .ok (.aload_n 0, 1) := by decide +kernel
theorem dX7_digest_44 : decode cX7_digest 44 = .ok (.getfield 16, 3) := by decide +kernel
theorem dX7_digest_47 : decode cX7_digest 47 = .ok (.bipush 60, 2) := by decide +kernel
theorem dX7_digest_49 : decode cX7_digest 49 = .ok (.invokevirtual 137, 3) := by decide +kernel
theorem dX7_digest_52 : decode cX7_digest 52 = .ok (.iconst 0, 1) := by decide +kernel
theorem dX7_digest_53 : decode cX7_digest 53 = .ok (.istore_n 3, 1) := by decide +kernel
theorem dX7_digest_54 : decode cX7_digest 54 = .ok (.iload_n 3, 1) := by decide +kernel
theorem dX7_digest_55 : decode cX7_digest 55 = .ok (.bipush 10, 2) := by decide +kernel
theorem dX7_digest_57 : decode cX7_digest 57 = .ok (.if_icmp .ge 23, 3) := by decide +kernel
theorem dX7_digest_60 : decode cX7_digest 60 = .ok (.lload_n 1, 1) := by decide +kernel
theorem dX7_digest_61 : decode cX7_digest 61 = .ok (.aload_n 0, 1) := by decide +kernel
theorem dX7_digest_62 : decode cX7_digest 62 = .ok (.getfield 16, 3) := by decide +kernel
theorem dX7_digest_65 : decode cX7_digest 65 = .ok (.iload_n 3, 1) := by decide +kernel
theorem dX7_digest_66 : decode cX7_digest 66 = .ok (.invokevirtual 254, 3) := by decide +kernel
theorem dX7_digest_69 : decode cX7_digest 69 = .ok (.i2l, 1) := by decide +kernel
theorem dX7_digest_70 : decode cX7_digest 70 = .ok (.invokestatic 280, 3) := by decide +kernel
theorem dX7_digest_73 : decode cX7_digest 73 = .ok (.lstore_n 1, 1) := by decide +kernel
theorem dX7_digest_74 : decode cX7_digest 74 = .ok (.iinc 3 1, 3) := by decide +kernel
theorem dX7_digest_77 : decode cX7_digest 77 = .ok (.goto (-23), 3) := by decide +kernel
theorem dX7_digest_80 : decode cX7_digest 80 = .ok (.lload_n 1, 1) := by decide +kernel
theorem dX7_digest_81 : decode cX7_digest 81 = .ok (.aload_n 0, 1) := by decide +kernel
theorem dX7_digest_82 : decode cX7_digest 82 = .ok (.invokevirtual 284, 3) := by decide +kernel
theorem dX7_digest_85 : decode cX7_digest 85 = .ok (.i2l, 1) := by decide +kernel
theorem dX7_digest_86 : decode cX7_digest 86 = .ok (.invokestatic 280, 3) := by decide +kernel
theorem dX7_digest_89 : decode cX7_digest 89 = .ok (.lstore_n 1, 1) := by decide +kernel
theorem dX7_digest_90 : decode cX7_digest 90 = .ok (.lload_n 1, 1) := by decide +kernel
theorem dX7_digest_91 : decode cX7_digest 91 = .ok (.aload_n 0, 1) := by decide +kernel
theorem dX7_digest_92 : decode cX7_digest 92 = .ok (.invokevirtual 287, 3) := by decide +kernel
theorem dX7_digest_95 : decode cX7_digest 95 = .ok (.i2l, 1) := by decide +kernel
theorem dX7_digest_96 : decode cX7_digest 96 = .ok (.invokestatic 280, 3) := by decide +kernel
theorem dX7_digest_99 : decode cX7_digest 99 = .ok (.lstore_n 1, 1) := by decide +kernel
theorem dX7_digest_100 : decode cX7_digest 100 = .ok (.lload_n 1, 1) := by decide +kernel
theorem dX7_digest_101 : decode cX7_digest 101 = .ok (.aload_n 0, 1) := by decide +kernel
theorem dX7_digest_102 : decode cX7_digest 102 = .ok (.sipush 240, 3) := by decide +kernel
theorem dX7_digest_105 : decode cX7_digest 105 = .ok (.invokevirtual 290, 3) := by decide +kernel
theorem dX7_digest_108 : decode cX7_digest 108 = .ok (.i2l, 1) := by decide +kernel
theorem dX7_digest_109 : decode cX7_digest 109 = .ok (.invokestatic 280, 3) := by decide +kernel
theorem dX7_digest_112 : decode cX7_digest 112 = .ok (.lstore_n 1, 1) := by decide +kernel
theorem dX7_digest_113 : decode cX7_digest 113 = .ok (.lload_n 1, 1) := by decide +kernel
theorem dX7_digest_114 : decode cX7_digest 114 = .ok (.aload_n 0, 1) := by decide +kernel
theorem dX7_digest_115 : decode cX7_digest 115 = .ok (.invokevirtual 293, 3) := by decide +kernel
theorem dX7_digest_118 : decode cX7_digest 118 = .ok (.i2l, 1) := by decide +kernel
theorem dX7_digest_119 : decode cX7_digest 119 = .ok (.invokestatic 280, 3) := by decide +kernel
theorem dX7_digest_122 : decode cX7_digest 122 = .ok (.lstore_n 1, 1) := by decide +kernel
theorem dX7_digest_123 : decode cX7_digest 123 = .ok (.lload_n 1, 1) := by decide +kernel
theorem dX7_digest_124 : decode cX7_digest 124 = .ok (.aload_n 0, 1) := by decide +kernel
theorem dX7_digest_125 : decode cX7_digest 125 = .ok (.invokevirtual 296, 3) := by decide +kernel
theorem dX7_digest_128 : decode cX7_digest 128 = .ok (.invokestatic 300, 3) := by decide +kernel
theorem dX7_digest_131 : decode cX7_digest 131 = .ok (.invokestatic 280, 3) := by decide +kernel
theorem dX7_digest_134 : decode cX7_digest 134 = .ok (.lstore_n 1, 1) := by decide +kernel
theorem dX7_digest_135 : decode cX7_digest 135 = .ok (.aload_n 0, 1) := by decide +kernel
theorem dX7_digest_136 : decode cX7_digest 136 = .ok (.lload_n 1, 1) := by decide +kernel
theorem dX7_digest_137 : decode cX7_digest 137 = .ok (.invokevirtual 304, 3) := by decide +kernel
theorem dX7_digest_140 : decode cX7_digest 140 = .ok (.lreturn, 1) := by decide +kernel
theorem dX7_requireWeight_0 : decode cX7_requireWeight 0 = .ok (.iload_n 0, 1) := by decide +kernel
theorem dX7_requireWeight_1 : decode cX7_requireWeight 1 = .ok (.ifCond .lt 8, 3) := by decide +kernel
theorem dX7_requireWeight_4 : decode cX7_requireWeight 4 = .ok (.iload_n 0, 1) := by decide +kernel
theorem dX7_requireWeight_5 : decode cX7_requireWeight 5 = .ok (.iconst 3, 1) := by decide +kernel
theorem dX7_requireWeight_6 : decode cX7_requireWeight 6 = .ok (.if_icmp .lt 14, 3) := by decide +kernel
theorem dX7_requireWeight_9 : decode cX7_requireWeight 9 = .ok (.new 208, 3) := by decide +kernel
theorem dX7_requireWeight_12 : decode cX7_requireWeight 12 = .ok (.dup, 1) := by decide +kernel
theorem dX7_requireWeight_13 : decode cX7_requireWeight 13 = .ok (.ldc_w 307, 3) := by decide +kernel
theorem dX7_requireWeight_16 : decode cX7_requireWeight 16 = .ok (.invokespecial 212, 3) := by decide +kernel
theorem dX7_requireWeight_19 : decode cX7_requireWeight 19 = .ok (.athrow, 1) := by decide +kernel
theorem dX7_requireWeight_20 : decode cX7_requireWeight 20 = .ok (.return_, 1) := by decide +kernel
theorem dX7_requireSetting_0 : decode cX7_requireSetting 0 = .ok (.iload_n 0, 1) := by decide +kernel
theorem dX7_requireSetting_1 : decode cX7_requireSetting 1 = .ok (.ifCond .lt 9, 3) := by decide +kernel
theorem dX7_requireSetting_4 : decode cX7_requireSetting 4 = .ok (.iload_n 0, 1) := by decide +kernel
theorem dX7_requireSetting_5 : decode cX7_requireSetting 5 = .ok (.bipush 6, 2) := by decide +kernel
theorem dX7_requireSetting_7 : decode cX7_requireSetting 7 = .ok (.if_icmp .lt 14, 3) := by decide +kernel
theorem dX7_requireSetting_10 : decode cX7_requireSetting 10 = .ok (.new 208, 3) := by decide +kernel
theorem dX7_requireSetting_13 : decode cX7_requireSetting 13 = .ok (.dup, 1) := by decide +kernel
theorem dX7_requireSetting_14 : decode cX7_requireSetting 14 = .ok (.ldc_w 309, 3) := by decide +kernel
theorem dX7_requireSetting_17 : decode cX7_requireSetting 17 = .ok (.invokespecial 212, 3) := by decide +kernel
theorem dX7_requireSetting_20 : decode cX7_requireSetting 20 = .ok (.athrow, 1) := by decide +kernel
theorem dX7_requireSetting_21 : decode cX7_requireSetting 21 = .ok (.return_, 1) := by decide +kernel
theorem dX7_requireWinder_0 : decode cX7_requireWinder 0 = .ok (.iload_n 1, 1) := by decide +kernel
theorem dX7_requireWinder_1 : decode cX7_requireWinder 1 = .ok (.ifCond .lt 17, 3) := by decide +kernel
theorem dX7_requireWinder_4 : decode cX7_requireWinder 4 = .ok (.iload_n 1, 1) := by decide +kernel
theorem dX7_requireWinder_5 : decode cX7_requireWinder 5 = .ok (.aload_n 0, 1) := by decide +kernel
theorem dX7_requireWinder_6 : decode cX7_requireWinder 6 = .ok (.getfield 10, 3) := by decide +kernel
theorem dX7_requireWinder_9 : decode cX7_requireWinder 9 = .ok (.getfield 105, 3) := by decide +kernel
theorem dX7_requireWinder_12 : decode cX7_requireWinder 12 = .ok (.getfield 109, 3) := by decide +kernel
theorem dX7_requireWinder_15 : decode cX7_requireWinder 15 = .ok (.if_icmp .lt 14, 3) := by decide +kernel
theorem dX7_requireWinder_18 : decode cX7_requireWinder 18 = .ok (.new 208, 3) := by decide +kernel
theorem dX7_requireWinder_21 : decode cX7_requireWinder 21 = .ok (.dup, 1) := by decide +kernel
theorem dX7_requireWinder_22 : decode cX7_requireWinder 22 = .ok (.ldc_w 311, 3) := by decide +kernel
theorem dX7_requireWinder_25 : decode cX7_requireWinder 25 = .ok (.invokespecial 212, 3) := by decide +kernel
theorem dX7_requireWinder_28 : decode cX7_requireWinder 28 = .ok (.athrow, 1) := by decide +kernel
theorem dX7_requireWinder_29 : decode cX7_requireWinder 29 = .ok (.return_, 1) := by decide +kernel
theorem dX7_requireRange_0 : decode cX7_requireRange 0 = .ok (.iload_n 0, 1) := by decide +kernel
theorem dX7_requireRange_1 : decode cX7_requireRange 1 = .ok (.iload_n 1, 1) := by decide +kernel
theorem dX7_requireRange_2 : decode cX7_requireRange 2 = .ok (.if_icmp .lt 8, 3) := by decide +kernel
theorem dX7_requireRange_5 : decode cX7_requireRange 5 = .ok (.iload_n 0, 1) := by decide +kernel
theorem dX7_requireRange_6 : decode cX7_requireRange 6 = .ok (.iload_n 2, 1) := by decide +kernel
theorem dX7_requireRange_7 : decode cX7_requireRange 7 = .ok (.if_icmp .le 14, 3) := by decide +kernel
theorem dX7_requireRange_10 : decode cX7_requireRange 10 = .ok (.new 155, 3) := by decide +kernel
theorem dX7_requireRange_13 : decode cX7_requireRange 13 = .ok (.dup, 1) := by decide +kernel
theorem dX7_requireRange_14 : decode cX7_requireRange 14 = .ok (.ldc_w 313, 3) := by decide +kernel
theorem dX7_requireRange_17 : decode cX7_requireRange 17 = .ok (.invokespecial 159, 3) := by decide +kernel
theorem dX7_requireRange_20 : decode cX7_requireRange 20 = .ok (.athrow, 1) := by decide +kernel
theorem dX7_requireRange_21 : decode cX7_requireRange 21 = .ok (.return_, 1) := by decide +kernel
theorem dX7_noteGoingRounds_0 : decode cX7_noteGoingRounds 0 = .ok (.iconst 0, 1) := by decide +kernel
theorem dX7_noteGoingRounds_1 : decode cX7_noteGoingRounds 1 = .ok (.istore_n 2, 1) := by decide +kernel
theorem dX7_noteGoingRounds_2 : decode cX7_noteGoingRounds 2 = .ok (.aload_n 0, 1) := by decide +kernel
theorem dX7_noteGoingRounds_3 : decode cX7_noteGoingRounds 3 = .ok (.getfield 16, 3) := by decide +kernel
theorem dX7_noteGoingRounds_6 : decode cX7_noteGoingRounds 6 = .ok (.aload_n 0, 1) := by decide +kernel
theorem dX7_noteGoingRounds_7 : decode cX7_noteGoingRounds 7 = .ok (.getfield 10, 3) := by decide +kernel
theorem dX7_noteGoingRounds_10 : decode cX7_noteGoingRounds 10 = .ok (.invokevirtual 242, 3) := by decide +kernel
theorem dX7_noteGoingRounds_13 : decode cX7_noteGoingRounds 13 = .ok (.iconst 0, 1) := by decide +kernel
theorem dX7_noteGoingRounds_14 : decode cX7_noteGoingRounds 14 = .ok (.istore_n 3, 1) := by decide +kernel
theorem dX7_noteGoingRounds_15 : decode cX7_noteGoingRounds 15 = .ok (.iload_n 3, 1) := by decide +kernel
theorem dX7_noteGoingRounds_16 : decode cX7_noteGoingRounds 16 = .ok (.iload_n 1, 1) := by decide +kernel
theorem dX7_noteGoingRounds_17 : decode cX7_noteGoingRounds 17 = .ok (.if_icmp .ge 55, 3) := by decide +kernel
theorem dX7_noteGoingRounds_20 : decode cX7_noteGoingRounds 20 = .ok (.iload_n 3, 1) := by decide +kernel
theorem dX7_noteGoingRounds_21 : decode cX7_noteGoingRounds 21 = .ok (.aload_n 0, 1) := by decide +kernel
theorem dX7_noteGoingRounds_22 : decode cX7_noteGoingRounds 22 = .ok (.getfield 33, 3) := by decide +kernel
theorem dX7_noteGoingRounds_25 : decode cX7_noteGoingRounds 25 = .ok (.arraylength, 1) := by decide +kernel
theorem dX7_noteGoingRounds_26 : decode cX7_noteGoingRounds 26 = .ok (.if_icmp .ge 46, 3) := by decide +kernel
theorem dX7_noteGoingRounds_29 : decode cX7_noteGoingRounds 29 = .ok (.aload_n 0, 1) := by decide +kernel
theorem dX7_noteGoingRounds_30 : decode cX7_noteGoingRounds 30 = .ok (.getfield 33, 3) := by decide +kernel
theorem dX7_noteGoingRounds_33 : decode cX7_noteGoingRounds 33 = .ok (.iload_n 3, 1) := by decide +kernel
theorem dX7_noteGoingRounds_34 : decode cX7_noteGoingRounds 34 = .ok (.aload_n 0, 1) := by decide +kernel
theorem dX7_noteGoingRounds_35 : decode cX7_noteGoingRounds 35 = .ok (.getfield 16, 3) := by decide +kernel
theorem dX7_noteGoingRounds_38 : decode cX7_noteGoingRounds 38 = .ok (.invokevirtual 315, 3) := by decide +kernel
theorem dX7_noteGoingRounds_41 : decode cX7_noteGoingRounds 41 = .ok (.iastore, 1) := by decide +kernel
theorem dX7_noteGoingRounds_42 : decode cX7_noteGoingRounds 42 = .ok (.iload_n 2, 1) := by decide +kernel
theorem dX7_noteGoingRounds_43 : decode cX7_noteGoingRounds 43 = .ok (.aload_n 0, 1) := by decide +kernel
theorem dX7_noteGoingRounds_44 : decode cX7_noteGoingRounds 44 = .ok (.getfield 33, 3) := by decide +kernel
theorem dX7_noteGoingRounds_47 : decode cX7_noteGoingRounds 47 = .ok (.iload_n 3, 1) := by decide +kernel
theorem dX7_noteGoingRounds_48 : decode cX7_noteGoingRounds 48 = .ok (.iaload, 1) := by decide +kernel
theorem dX7_noteGoingRounds_49 : decode cX7_noteGoingRounds 49 = .ok (.iadd, 1) := by decide +kernel
theorem dX7_noteGoingRounds_50 : decode cX7_noteGoingRounds 50 = .ok (.istore_n 2, 1) := by decide +kernel
theorem dX7_noteGoingRounds_51 : decode cX7_noteGoingRounds 51 = .ok (.aload_n 0, 1) := by decide +kernel
theorem dX7_noteGoingRounds_52 : decode cX7_noteGoingRounds 52 = .ok (.getfield 16, 3) := by decide +kernel
theorem dX7_noteGoingRounds_55 : decode cX7_noteGoingRounds 55 = .ok (.iconst 1, 1) := by decide +kernel
theorem dX7_noteGoingRounds_56 : decode cX7_noteGoingRounds 56 = .ok (.putfield 71, 3) := by decide +kernel
theorem dX7_noteGoingRounds_59 : decode cX7_noteGoingRounds 59 = .ok (.aload_n 0, 1) := by decide +kernel
theorem dX7_noteGoingRounds_60 : decode cX7_noteGoingRounds 60 = .ok (.getfield 16, 3) := by decide +kernel
theorem dX7_noteGoingRounds_63 : decode cX7_noteGoingRounds 63 = .ok (.invokevirtual 258, 3) := by decide +kernel
theorem dX7_noteGoingRounds_66 : decode cX7_noteGoingRounds 66 = .ok (.iinc 3 1, 3) := by decide +kernel
theorem dX7_noteGoingRounds_69 : decode cX7_noteGoingRounds 69 = .ok (.goto (-54), 3) := by decide +kernel
theorem dX7_noteGoingRounds_72 : decode cX7_noteGoingRounds 72 = .ok (.iload_n 2, 1) := by decide +kernel
theorem dX7_noteGoingRounds_73 : decode cX7_noteGoingRounds 73 = .ok (.ireturn, 1) := by decide +kernel
theorem dX7_goesOnFor_0 : decode cX7_goesOnFor 0 = .ok (.aload_n 0, 1) := by decide +kernel
theorem dX7_goesOnFor_1 : decode cX7_goesOnFor 1 = .ok (.getfield 16, 3) := by decide +kernel
theorem dX7_goesOnFor_4 : decode cX7_goesOnFor 4 = .ok (.aload_n 0, 1) := by decide +kernel
theorem dX7_goesOnFor_5 : decode cX7_goesOnFor 5 = .ok (.getfield 10, 3) := by decide +kernel
theorem dX7_goesOnFor_8 : decode cX7_goesOnFor 8 = .ok (.getfield 71, 3) := by decide +kernel
theorem dX7_goesOnFor_11 : decode cX7_goesOnFor 11 = .ok (.putfield 71, 3) := by decide +kernel
theorem dX7_goesOnFor_14 : decode cX7_goesOnFor 14 = .ok (.aload_n 0, 1) := by decide +kernel
theorem dX7_goesOnFor_15 : decode cX7_goesOnFor 15 = .ok (.getfield 16, 3) := by decide +kernel
theorem dX7_goesOnFor_18 : decode cX7_goesOnFor 18 = .ok (.getfield 49, 3) := by decide +kernel
theorem dX7_goesOnFor_21 : decode cX7_goesOnFor 21 = .ok (.getfield 175, 3) := by decide +kernel
theorem dX7_goesOnFor_24 : decode cX7_goesOnFor 24 = .ok (.iconst 0, 1) := by decide +kernel
theorem dX7_goesOnFor_25 : decode cX7_goesOnFor 25 = .ok (.iload_n 2, 1) := by decide +kernel
theorem dX7_goesOnFor_26 : decode cX7_goesOnFor 26 = .ok (.iastore, 1) := by decide +kernel
theorem dX7_goesOnFor_27 : decode cX7_goesOnFor 27 = .ok (.iconst 0, 1) := by decide +kernel
theorem dX7_goesOnFor_28 : decode cX7_goesOnFor 28 = .ok (.istore_n 3, 1) := by decide +kernel
theorem dX7_goesOnFor_29 : decode cX7_goesOnFor 29 = .ok (.iload_n 3, 1) := by decide +kernel
theorem dX7_goesOnFor_30 : decode cX7_goesOnFor 30 = .ok (.iload_n 1, 1) := by decide +kernel
theorem dX7_goesOnFor_31 : decode cX7_goesOnFor 31 = .ok (.if_icmp .ge 68, 3) := by decide +kernel
theorem dX7_goesOnFor_34 : decode cX7_goesOnFor 34 = .ok (.iload_n 3, 1) := by decide +kernel
theorem dX7_goesOnFor_35 : decode cX7_goesOnFor 35 = .ok (.aload_n 0, 1) := by decide +kernel
theorem dX7_goesOnFor_36 : decode cX7_goesOnFor 36 = .ok (.getfield 33, 3) := by decide +kernel
theorem dX7_goesOnFor_39 : decode cX7_goesOnFor 39 = .ok (.arraylength, 1) := by decide +kernel
theorem dX7_goesOnFor_40 : decode cX7_goesOnFor 40 = .ok (.if_icmp .ge 59, 3) := by decide +kernel
theorem dX7_goesOnFor_43 : decode cX7_goesOnFor 43 = .ok (.aload_n 0, 1) := by decide +kernel
theorem dX7_goesOnFor_44 : decode cX7_goesOnFor 44 = .ok (.getfield 16, 3) := by decide +kernel
theorem dX7_goesOnFor_47 : decode cX7_goesOnFor 47 = .ok (.getfield 49, 3) := by decide +kernel
theorem dX7_goesOnFor_50 : decode cX7_goesOnFor 50 = .ok (.iconst 0, 1) := by decide +kernel
theorem dX7_goesOnFor_51 : decode cX7_goesOnFor 51 = .ok (.aload_n 0, 1) := by decide +kernel
theorem dX7_goesOnFor_52 : decode cX7_goesOnFor 52 = .ok (.getfield 33, 3) := by decide +kernel
theorem dX7_goesOnFor_55 : decode cX7_goesOnFor 55 = .ok (.iload_n 3, 1) := by decide +kernel
theorem dX7_goesOnFor_56 : decode cX7_goesOnFor 56 = .ok (.iaload, 1) := by decide +kernel
theorem dX7_goesOnFor_57 : decode cX7_goesOnFor 57 = .ok (.invokevirtual 53, 3) := by decide +kernel
theorem dX7_goesOnFor_60 : decode cX7_goesOnFor 60 = .ok (.pop, 1) := by decide +kernel
theorem dX7_goesOnFor_61 : decode cX7_goesOnFor 61 = .ok (.aload_n 0, 1) := by decide +kernel
theorem dX7_goesOnFor_62 : decode cX7_goesOnFor 62 = .ok (.getfield 16, 3) := by decide +kernel
theorem dX7_goesOnFor_65 : decode cX7_goesOnFor 65 = .ok (.invokevirtual 318, 3) := by decide +kernel
theorem dX7_goesOnFor_68 : decode cX7_goesOnFor 68 = .ok (.aload_n 0, 1) := by decide +kernel
theorem dX7_goesOnFor_69 : decode cX7_goesOnFor 69 = .ok (.getfield 16, 3) := by decide +kernel
theorem dX7_goesOnFor_72 : decode cX7_goesOnFor 72 = .ok (.getfield 71, 3) := by decide +kernel
theorem dX7_goesOnFor_75 : decode cX7_goesOnFor 75 = .ok (.ifCond .ne 5, 3) := by decide +kernel
theorem dX7_goesOnFor_78 : decode cX7_goesOnFor 78 = .ok (.iconst 0, 1) := by decide +kernel
theorem dX7_goesOnFor_79 : decode cX7_goesOnFor 79 = .ok (.ireturn, 1) := by decide +kernel
theorem dX7_goesOnFor_80 : decode cX7_goesOnFor 80 = .ok (.aload_n 0, 1) := by decide +kernel
theorem dX7_goesOnFor_81 : decode cX7_goesOnFor 81 = .ok (.getfield 16, 3) := by decide +kernel
theorem dX7_goesOnFor_84 : decode cX7_goesOnFor 84 = .ok (.dup, 1) := by decide +kernel
theorem dX7_goesOnFor_85 : decode cX7_goesOnFor 85 = .ok (.getfield 71, 3) := by decide +kernel
theorem dX7_goesOnFor_88 : decode cX7_goesOnFor 88 = .ok (.iconst 1, 1) := by decide +kernel
theorem dX7_goesOnFor_89 : decode cX7_goesOnFor 89 = .ok (.isub, 1) := by decide +kernel
theorem dX7_goesOnFor_90 : decode cX7_goesOnFor 90 = .ok (.putfield 71, 3) := by decide +kernel
theorem dX7_goesOnFor_93 : decode cX7_goesOnFor 93 = .ok (.iinc 3 1, 3) := by decide +kernel
theorem dX7_goesOnFor_96 : decode cX7_goesOnFor 96 = .ok (.goto (-67), 3) := by decide +kernel
theorem dX7_goesOnFor_99 : decode cX7_goesOnFor 99 = .ok (.iconst 1, 1) := by decide +kernel
theorem dX7_goesOnFor_100 : decode cX7_goesOnFor 100 = .ok (.ireturn, 1) := by decide +kernel
theorem dX7_hashWith_0 : decode cX7_hashWith 0 = .ok (.ldc2_w 321, 3) := by decide +kernel
theorem dX7_hashWith_3 : decode cX7_hashWith 3 = .ok (.lload_n 0, 1) := by decide +kernel
theorem dX7_hashWith_4 : decode cX7_hashWith 4 = .ok (.lmul, 1) := by decide +kernel
theorem dX7_hashWith_5 : decode cX7_hashWith 5 = .ok (.lload_n 2, 1) := by decide +kernel
theorem dX7_hashWith_6 : decode cX7_hashWith 6 = .ok (.ladd, 1) := by decide +kernel
theorem dX7_hashWith_7 : decode cX7_hashWith 7 = .ok (.lreturn, 1) := by decide +kernel
theorem dX7_hashOfParts_0 : decode cX7_hashOfParts 0 = .ok (.lload_n 1, 1) := by decide +kernel
theorem dX7_hashOfParts_1 : decode cX7_hashOfParts 1 = .ok (.lstore_n 3, 1) := by decide +kernel
theorem dX7_hashOfParts_2 : decode cX7_hashOfParts 2 = .ok (.iconst 0, 1) := by decide +kernel
theorem dX7_hashOfParts_3 : decode cX7_hashOfParts 3 = .ok (.istore 5, 2) := by decide +kernel
theorem dX7_hashOfParts_5 : decode cX7_hashOfParts 5 = .ok (.iload 5, 2) := by decide +kernel
theorem dX7_hashOfParts_7 : decode cX7_hashOfParts 7 = .ok (.bipush 18, 2) := by decide +kernel
theorem dX7_hashOfParts_9 : decode cX7_hashOfParts 9 = .ok (.if_icmp .ge 21, 3) := by decide +kernel
theorem dX7_hashOfParts_12 : decode cX7_hashOfParts 12 = .ok (.lload_n 3, 1) := by decide +kernel
theorem dX7_hashOfParts_13 : decode cX7_hashOfParts 13 = .ok (.aload_n 0, 1) := by decide +kernel
theorem dX7_hashOfParts_14 : decode cX7_hashOfParts 14 = .ok (.iload 5, 2) := by decide +kernel
theorem dX7_hashOfParts_16 : decode cX7_hashOfParts 16 = .ok (.invokevirtual 323, 3) := by decide +kernel
theorem dX7_hashOfParts_19 : decode cX7_hashOfParts 19 = .ok (.i2l, 1) := by decide +kernel
theorem dX7_hashOfParts_20 : decode cX7_hashOfParts 20 = .ok (.invokestatic 280, 3) := by decide +kernel
theorem dX7_hashOfParts_23 : decode cX7_hashOfParts 23 = .ok (.lstore_n 3, 1) := by decide +kernel
theorem dX7_hashOfParts_24 : decode cX7_hashOfParts 24 = .ok (.iinc 5 1, 3) := by decide +kernel
theorem dX7_hashOfParts_27 : decode cX7_hashOfParts 27 = .ok (.goto (-22), 3) := by decide +kernel
theorem dX7_hashOfParts_30 : decode cX7_hashOfParts 30 = .ok (.iconst 0, 1) := by decide +kernel
theorem dX7_hashOfParts_31 : decode cX7_hashOfParts 31 = .ok (.istore 5, 2) := by decide +kernel
theorem dX7_hashOfParts_33 : decode cX7_hashOfParts 33 = .ok (.iload 5, 2) := by decide +kernel
theorem dX7_hashOfParts_35 : decode cX7_hashOfParts 35 = .ok (.bipush 6, 2) := by decide +kernel
theorem dX7_hashOfParts_37 : decode cX7_hashOfParts 37 = .ok (.if_icmp .ge 21, 3) := by decide +kernel
theorem dX7_hashOfParts_40 : decode cX7_hashOfParts 40 = .ok (.lload_n 3, 1) := by decide +kernel
theorem dX7_hashOfParts_41 : decode cX7_hashOfParts 41 = .ok (.aload_n 0, 1) := by decide +kernel
theorem dX7_hashOfParts_42 : decode cX7_hashOfParts 42 = .ok (.iload 5, 2) := by decide +kernel
theorem dX7_hashOfParts_44 : decode cX7_hashOfParts 44 = .ok (.invokevirtual 326, 3) := by decide +kernel
theorem dX7_hashOfParts_47 : decode cX7_hashOfParts 47 = .ok (.i2l, 1) := by decide +kernel
theorem dX7_hashOfParts_48 : decode cX7_hashOfParts 48 = .ok (.invokestatic 280, 3) := by decide +kernel
theorem dX7_hashOfParts_51 : decode cX7_hashOfParts 51 = .ok (.lstore_n 3, 1) := by decide +kernel
theorem dX7_hashOfParts_52 : decode cX7_hashOfParts 52 = .ok (.iinc 5 1, 3) := by decide +kernel
theorem dX7_hashOfParts_55 : decode cX7_hashOfParts 55 = .ok (.goto (-22), 3) := by decide +kernel
theorem dX7_hashOfParts_58 : decode cX7_hashOfParts 58 = .ok (.iconst 0, 1) := by decide +kernel
theorem dX7_hashOfParts_59 : decode cX7_hashOfParts 59 = .ok (.istore 5, 2) := by decide +kernel
theorem dX7_hashOfParts_61 : decode cX7_hashOfParts 61 = .ok (.iload 5, 2) := by decide +kernel
theorem dX7_hashOfParts_63 : decode cX7_hashOfParts 63 = .ok (.iconst 3, 1) := by decide +kernel
theorem dX7_hashOfParts_64 : decode cX7_hashOfParts 64 = .ok (.if_icmp .ge 38, 3) := by decide +kernel
theorem dX7_hashOfParts_67 : decode cX7_hashOfParts 67 = .ok (.iconst 0, 1) := by decide +kernel
theorem dX7_hashOfParts_68 : decode cX7_hashOfParts 68 = .ok (.istore 6, 2) := by decide +kernel
theorem dX7_hashOfParts_70 : decode cX7_hashOfParts 70 = .ok (.iload 6, 2) := by decide +kernel
theorem dX7_hashOfParts_72 : decode cX7_hashOfParts 72 = .ok (.iconst 3, 1) := by decide +kernel
theorem dX7_hashOfParts_73 : decode cX7_hashOfParts 73 = .ok (.if_icmp .ge 23, 3) := by decide +kernel
theorem dX7_hashOfParts_76 : decode cX7_hashOfParts 76 = .ok (.lload_n 3, 1) := by decide +kernel
theorem dX7_hashOfParts_77 : decode cX7_hashOfParts 77 = .ok (.aload_n 0, 1) := by decide +kernel
theorem dX7_hashOfParts_78 : decode cX7_hashOfParts 78 = .ok (.iload 5, 2) := by decide +kernel
theorem dX7_hashOfParts_80 : decode cX7_hashOfParts 80 = .ok (.iload 6, 2) := by decide +kernel
theorem dX7_hashOfParts_82 : decode cX7_hashOfParts 82 = .ok (.invokevirtual 329, 3) := by decide +kernel
theorem dX7_hashOfParts_85 : decode cX7_hashOfParts 85 = .ok (.i2l, 1) := by decide +kernel
theorem dX7_hashOfParts_86 : decode cX7_hashOfParts 86 = .ok (.invokestatic 280, 3) := by decide +kernel
theorem dX7_hashOfParts_89 : decode cX7_hashOfParts 89 = .ok (.lstore_n 3, 1) := by decide +kernel
theorem dX7_hashOfParts_90 : decode cX7_hashOfParts 90 = .ok (.iinc 6 1, 3) := by decide +kernel
theorem dX7_hashOfParts_93 : decode cX7_hashOfParts 93 = .ok (.goto (-23), 3) := by decide +kernel
theorem dX7_hashOfParts_96 : decode cX7_hashOfParts 96 = .ok (.iinc 5 1, 3) := by decide +kernel
theorem dX7_hashOfParts_99 : decode cX7_hashOfParts 99 = .ok (.goto (-38), 3) := by decide +kernel
theorem dX7_hashOfParts_102 : decode cX7_hashOfParts 102 = .ok (.iconst 0, 1) := by decide +kernel
theorem dX7_hashOfParts_103 : decode cX7_hashOfParts 103 = .ok (.istore 5, 2) := by decide +kernel
theorem dX7_hashOfParts_105 : decode cX7_hashOfParts 105 = .ok (.iload 5, 2) := by decide +kernel
theorem dX7_hashOfParts_107 : decode cX7_hashOfParts 107 = .ok (.aload_n 0, 1) := by decide +kernel
theorem dX7_hashOfParts_108 : decode cX7_hashOfParts 108 = .ok (.getfield 10, 3) := by decide +kernel
theorem dX7_hashOfParts_111 : decode cX7_hashOfParts 111 = .ok (.getfield 105, 3) := by decide +kernel
theorem dX7_hashOfParts_114 : decode cX7_hashOfParts 114 = .ok (.getfield 109, 3) := by decide +kernel
theorem dX7_hashOfParts_117 : decode cX7_hashOfParts 117 = .ok (.if_icmp .ge 39, 3) := by decide +kernel
theorem dX7_hashOfParts_120 : decode cX7_hashOfParts 120 = .ok (.iconst 0, 1) := by decide +kernel
theorem dX7_hashOfParts_121 : decode cX7_hashOfParts 121 = .ok (.istore 6, 2) := by decide +kernel
theorem dX7_hashOfParts_123 : decode cX7_hashOfParts 123 = .ok (.iload 6, 2) := by decide +kernel
theorem dX7_hashOfParts_125 : decode cX7_hashOfParts 125 = .ok (.bipush 6, 2) := by decide +kernel
theorem dX7_hashOfParts_127 : decode cX7_hashOfParts 127 = .ok (.if_icmp .ge 23, 3) := by decide +kernel
theorem dX7_hashOfParts_130 : decode cX7_hashOfParts 130 = .ok (.lload_n 3, 1) := by decide +kernel
theorem dX7_hashOfParts_131 : decode cX7_hashOfParts 131 = .ok (.aload_n 0, 1) := by decide +kernel
theorem dX7_hashOfParts_132 : decode cX7_hashOfParts 132 = .ok (.iload 5, 2) := by decide +kernel
theorem dX7_hashOfParts_134 : decode cX7_hashOfParts 134 = .ok (.iload 6, 2) := by decide +kernel
theorem dX7_hashOfParts_136 : decode cX7_hashOfParts 136 = .ok (.invokevirtual 332, 3) := by decide +kernel
theorem dX7_hashOfParts_139 : decode cX7_hashOfParts 139 = .ok (.i2l, 1) := by decide +kernel
theorem dX7_hashOfParts_140 : decode cX7_hashOfParts 140 = .ok (.invokestatic 280, 3) := by decide +kernel
theorem dX7_hashOfParts_143 : decode cX7_hashOfParts 143 = .ok (.lstore_n 3, 1) := by decide +kernel
theorem dX7_hashOfParts_144 : decode cX7_hashOfParts 144 = .ok (.iinc 6 1, 3) := by decide +kernel
theorem dX7_hashOfParts_147 : decode cX7_hashOfParts 147 = .ok (.goto (-24), 3) := by decide +kernel
theorem dX7_hashOfParts_150 : decode cX7_hashOfParts 150 = .ok (.iinc 5 1, 3) := by decide +kernel
theorem dX7_hashOfParts_153 : decode cX7_hashOfParts 153 = .ok (.goto (-48), 3) := by decide +kernel
theorem dX7_hashOfParts_156 : decode cX7_hashOfParts 156 = .ok (.iconst 0, 1) := by decide +kernel
theorem dX7_hashOfParts_157 : decode cX7_hashOfParts 157 = .ok (.istore 5, 2) := by decide +kernel
theorem dX7_hashOfParts_159 : decode cX7_hashOfParts 159 = .ok (.iload 5, 2) := by decide +kernel
theorem dX7_hashOfParts_161 : decode cX7_hashOfParts 161 = .ok (.aload_n 0, 1) := by decide +kernel
theorem dX7_hashOfParts_162 : decode cX7_hashOfParts 162 = .ok (.getfield 10, 3) := by decide +kernel
theorem dX7_hashOfParts_165 : decode cX7_hashOfParts 165 = .ok (.getfield 89, 3) := by decide +kernel
theorem dX7_hashOfParts_168 : decode cX7_hashOfParts 168 = .ok (.getfield 99, 3) := by decide +kernel
theorem dX7_hashOfParts_171 : decode cX7_hashOfParts 171 = .ok (.if_icmp .ge 38, 3) := by decide +kernel
theorem dX7_hashOfParts_174 : decode cX7_hashOfParts 174 = .ok (.iconst 0, 1) := by decide +kernel
theorem dX7_hashOfParts_175 : decode cX7_hashOfParts 175 = .ok (.istore 6, 2) := by decide +kernel
theorem dX7_hashOfParts_177 : decode cX7_hashOfParts 177 = .ok (.iload 6, 2) := by decide +kernel
theorem dX7_hashOfParts_179 : decode cX7_hashOfParts 179 = .ok (.iconst 2, 1) := by decide +kernel
theorem dX7_hashOfParts_180 : decode cX7_hashOfParts 180 = .ok (.if_icmp .ge 23, 3) := by decide +kernel
theorem dX7_hashOfParts_183 : decode cX7_hashOfParts 183 = .ok (.lload_n 3, 1) := by decide +kernel
theorem dX7_hashOfParts_184 : decode cX7_hashOfParts 184 = .ok (.aload_n 0, 1) := by decide +kernel
theorem dX7_hashOfParts_185 : decode cX7_hashOfParts 185 = .ok (.iload 5, 2) := by decide +kernel
theorem dX7_hashOfParts_187 : decode cX7_hashOfParts 187 = .ok (.iload 6, 2) := by decide +kernel
theorem dX7_hashOfParts_189 : decode cX7_hashOfParts 189 = .ok (.invokevirtual 335, 3) := by decide +kernel
theorem dX7_hashOfParts_192 : decode cX7_hashOfParts 192 = .ok (.i2l, 1) := by decide +kernel
theorem dX7_hashOfParts_193 : decode cX7_hashOfParts 193 = .ok (.invokestatic 280, 3) := by decide +kernel
theorem dX7_hashOfParts_196 : decode cX7_hashOfParts 196 = .ok (.lstore_n 3, 1) := by decide +kernel
theorem dX7_hashOfParts_197 : decode cX7_hashOfParts 197 = .ok (.iinc 6 1, 3) := by decide +kernel
theorem dX7_hashOfParts_200 : decode cX7_hashOfParts 200 = .ok (.goto (-23), 3) := by decide +kernel
theorem dX7_hashOfParts_203 : decode cX7_hashOfParts 203 = .ok (.iinc 5 1, 3) := by decide +kernel
theorem dX7_hashOfParts_206 : decode cX7_hashOfParts 206 = .ok (.goto (-47), 3) := by decide +kernel
theorem dX7_hashOfParts_209 : decode cX7_hashOfParts 209 = .ok (.lload_n 3, 1) := by decide +kernel
theorem dX7_hashOfParts_210 : decode cX7_hashOfParts 210 = .ok (.lreturn, 1) := by decide +kernel
theorem dX7_hashOfText_0 : decode cX7_hashOfText 0 = .ok (.lload_n 1, 1) := by decide +kernel
theorem dX7_hashOfText_1 : decode cX7_hashOfText 1 = .ok (.aload_n 0, 1) := by decide +kernel
theorem dX7_hashOfText_2 : decode cX7_hashOfText 2 = .ok (.getfield 29, 3) := by decide +kernel
theorem dX7_hashOfText_5 : decode cX7_hashOfText 5 = .ok (.getfield 140, 3) := by decide +kernel
theorem dX7_hashOfText_8 : decode cX7_hashOfText 8 = .ok (.i2l, 1) := by decide +kernel
theorem dX7_hashOfText_9 : decode cX7_hashOfText 9 = .ok (.invokestatic 280, 3) := by decide +kernel
theorem dX7_hashOfText_12 : decode cX7_hashOfText 12 = .ok (.lstore_n 3, 1) := by decide +kernel
theorem dX7_hashOfText_13 : decode cX7_hashOfText 13 = .ok (.iconst 0, 1) := by decide +kernel
theorem dX7_hashOfText_14 : decode cX7_hashOfText 14 = .ok (.istore 5, 2) := by decide +kernel
theorem dX7_hashOfText_16 : decode cX7_hashOfText 16 = .ok (.iload 5, 2) := by decide +kernel
theorem dX7_hashOfText_18 : decode cX7_hashOfText 18 = .ok (.aload_n 0, 1) := by decide +kernel
theorem dX7_hashOfText_19 : decode cX7_hashOfText 19 = .ok (.getfield 29, 3) := by decide +kernel
theorem dX7_hashOfText_22 : decode cX7_hashOfText 22 = .ok (.getfield 140, 3) := by decide +kernel
theorem dX7_hashOfText_25 : decode cX7_hashOfText 25 = .ok (.if_icmp .ge 32, 3) := by decide +kernel
theorem dX7_hashOfText_28 : decode cX7_hashOfText 28 = .ok (.iload 5, 2) := by decide +kernel
theorem dX7_hashOfText_30 : decode cX7_hashOfText 30 = .ok (.bipush 60, 2) := by decide +kernel
theorem dX7_hashOfText_32 : decode cX7_hashOfText 32 = .ok (.if_icmp .ge 25, 3) := by decide +kernel
theorem dX7_hashOfText_35 : decode cX7_hashOfText 35 = .ok (.lload_n 3, 1) := by decide +kernel
theorem dX7_hashOfText_36 : decode cX7_hashOfText 36 = .ok (.aload_n 0, 1) := by decide +kernel
theorem dX7_hashOfText_37 : decode cX7_hashOfText 37 = .ok (.getfield 29, 3) := by decide +kernel
theorem dX7_hashOfText_40 : decode cX7_hashOfText 40 = .ok (.getfield 338, 3) := by decide +kernel
theorem dX7_hashOfText_43 : decode cX7_hashOfText 43 = .ok (.iload 5, 2) := by decide +kernel
theorem dX7_hashOfText_45 : decode cX7_hashOfText 45 = .ok (.caload, 1) := by decide +kernel
theorem dX7_hashOfText_46 : decode cX7_hashOfText 46 = .ok (.i2l, 1) := by decide +kernel
theorem dX7_hashOfText_47 : decode cX7_hashOfText 47 = .ok (.invokestatic 280, 3) := by decide +kernel
theorem dX7_hashOfText_50 : decode cX7_hashOfText 50 = .ok (.lstore_n 3, 1) := by decide +kernel
theorem dX7_hashOfText_51 : decode cX7_hashOfText 51 = .ok (.iinc 5 1, 3) := by decide +kernel
theorem dX7_hashOfText_54 : decode cX7_hashOfText 54 = .ok (.goto (-38), 3) := by decide +kernel
theorem dX7_hashOfText_57 : decode cX7_hashOfText 57 = .ok (.lload_n 3, 1) := by decide +kernel
theorem dX7_hashOfText_58 : decode cX7_hashOfText 58 = .ok (.lreturn, 1) := by decide +kernel
theorem dX7_bitsOfShare_0 : decode cX7_bitsOfShare 0 = .ok (.dload_n 0, 1) := by decide +kernel
theorem dX7_bitsOfShare_1 : decode cX7_bitsOfShare 1 = .ok (.dconst 0, 1) := by decide +kernel
theorem dX7_bitsOfShare_2 : decode cX7_bitsOfShare 2 = .ok (.dcmp .g, 1) := by decide +kernel
theorem dX7_bitsOfShare_3 : decode cX7_bitsOfShare 3 = .ok (.ifCond .gt 5, 3) := by decide +kernel
theorem dX7_bitsOfShare_6 : decode cX7_bitsOfShare 6 = .ok (.lconst 0, 1) := by decide +kernel
theorem dX7_bitsOfShare_7 : decode cX7_bitsOfShare 7 = .ok (.lreturn, 1) := by decide +kernel
theorem dX7_bitsOfShare_8 : decode cX7_bitsOfShare 8 = .ok (.dload_n 0, 1) := by decide +kernel
theorem dX7_bitsOfShare_9 : decode cX7_bitsOfShare 9 = .ok (.dstore_n 2, 1) := by decide +kernel
theorem dX7_bitsOfShare_10 : decode cX7_bitsOfShare 10 = .ok (.ldc2_w 342, 3) := by decide +kernel
theorem dX7_bitsOfShare_13 : decode cX7_bitsOfShare 13 = .ok (.lstore 4, 2) := by decide +kernel
theorem dX7_bitsOfShare_15 : decode cX7_bitsOfShare 15 = .ok (.dload_n 2, 1) := by decide +kernel
theorem dX7_bitsOfShare_16 : decode cX7_bitsOfShare 16 = .ok (.dconst 1, 1) := by decide +kernel
theorem dX7_bitsOfShare_17 : decode cX7_bitsOfShare 17 = .ok (.dcmp .g, 1) := by decide +kernel
theorem dX7_bitsOfShare_18 : decode cX7_bitsOfShare 18 = .ok (.ifCond .ge 25, 3) := by decide +kernel
theorem dX7_bitsOfShare_21 : decode cX7_bitsOfShare 21 = .ok (.lload 4, 2) := by decide +kernel
theorem dX7_bitsOfShare_23 : decode cX7_bitsOfShare 23 = .ok (.lconst 1, 1) := by decide +kernel
theorem dX7_bitsOfShare_24 : decode cX7_bitsOfShare 24 = .ok (.lcmp, 1) := by decide +kernel
theorem dX7_bitsOfShare_25 : decode cX7_bitsOfShare 25 = .ok (.ifCond .le 18, 3) := by decide +kernel
theorem dX7_bitsOfShare_28 : decode cX7_bitsOfShare 28 = .ok (.dload_n 2, 1) := by decide +kernel
theorem dX7_bitsOfShare_29 : decode cX7_bitsOfShare 29 = .ok (.ldc2_w 344, 3) := by decide +kernel
theorem dX7_bitsOfShare_32 : decode cX7_bitsOfShare 32 = .ok (.dmul, 1) := by decide +kernel
theorem dX7_bitsOfShare_33 : decode cX7_bitsOfShare 33 = .ok (.dstore_n 2, 1) := by decide +kernel
theorem dX7_bitsOfShare_34 : decode cX7_bitsOfShare 34 = .ok (.lload 4, 2) := by decide +kernel
theorem dX7_bitsOfShare_36 : decode cX7_bitsOfShare 36 = .ok (.lconst 1, 1) := by decide +kernel
theorem dX7_bitsOfShare_37 : decode cX7_bitsOfShare 37 = .ok (.lsub, 1) := by decide +kernel
theorem dX7_bitsOfShare_38 : decode cX7_bitsOfShare 38 = .ok (.lstore 4, 2) := by decide +kernel
theorem dX7_bitsOfShare_40 : decode cX7_bitsOfShare 40 = .ok (.goto (-25), 3) := by decide +kernel
theorem dX7_bitsOfShare_43 : decode cX7_bitsOfShare 43 = .ok (.dload_n 2, 1) := by decide +kernel
theorem dX7_bitsOfShare_44 : decode cX7_bitsOfShare 44 = .ok (.dconst 1, 1) := by decide +kernel
theorem dX7_bitsOfShare_45 : decode cX7_bitsOfShare 45 = .ok (.dsub, 1) := by decide +kernel
theorem dX7_bitsOfShare_46 : decode cX7_bitsOfShare 46 = .ok (.ldc2_w 346, 3) := by decide +kernel
theorem dX7_bitsOfShare_49 : decode cX7_bitsOfShare 49 = .ok (.dmul, 1) := by decide +kernel
theorem dX7_bitsOfShare_50 : decode cX7_bitsOfShare 50 = .ok (.d2l, 1) := by decide +kernel
theorem dX7_bitsOfShare_51 : decode cX7_bitsOfShare 51 = .ok (.lstore 6, 2) := by decide +kernel
theorem dX7_bitsOfShare_53 : decode cX7_bitsOfShare 53 = .ok (.lload 4, 2) := by decide +kernel
theorem dX7_bitsOfShare_55 : decode cX7_bitsOfShare 55 = .ok (.ldc2_w 348, 3) := by decide +kernel
theorem dX7_bitsOfShare_58 : decode cX7_bitsOfShare 58 = .ok (.lmul, 1) := by decide +kernel
theorem dX7_bitsOfShare_59 : decode cX7_bitsOfShare 59 = .ok (.lload 6, 2) := by decide +kernel
theorem dX7_bitsOfShare_61 : decode cX7_bitsOfShare 61 = .ok (.ladd, 1) := by decide +kernel
theorem dX7_bitsOfShare_62 : decode cX7_bitsOfShare 62 = .ok (.lreturn, 1) := by decide +kernel
theorem dX8_init_0 : decode cX8_init 0 = .ok (.aload_n 0, 1) := by decide +kernel
theorem dX8_init_1 : decode cX8_init 1 = .ok (.invokespecial 1, 3) := by decide +kernel
theorem dX8_init_4 : decode cX8_init 4 = .ok (.aload_n 0, 1) := by decide +kernel
theorem dX8_init_5 : decode cX8_init 5 = .ok (.bipush 67, 2) := by decide +kernel
theorem dX8_init_7 : decode cX8_init 7 = .ok (.newarray .int, 2) := by decide +kernel
theorem dX8_init_9 : decode cX8_init 9 = .ok (.putfield 7, 3) := by decide +kernel
theorem dX8_init_12 : decode cX8_init 12 = .ok (.aload_n 0, 1) := by decide +kernel
theorem dX8_init_13 : decode cX8_init 13 = .ok (.sipush 402, 3) := by decide +kernel
theorem dX8_init_16 : decode cX8_init 16 = .ok (.newarray .int, 2) := by decide +kernel
theorem dX8_init_18 : decode cX8_init 18 = .ok (.putfield 13, 3) := by decide +kernel
theorem dX8_init_21 : decode cX8_init 21 = .ok (.aload_n 0, 1) := by decide +kernel
theorem dX8_init_22 : decode cX8_init 22 = .ok (.bipush 60, 2) := by decide +kernel
theorem dX8_init_24 : decode cX8_init 24 = .ok (.newarray .int, 2) := by decide +kernel
theorem dX8_init_26 : decode cX8_init 26 = .ok (.putfield 16, 3) := by decide +kernel
theorem dX8_init_29 : decode cX8_init 29 = .ok (.aload_n 0, 1) := by decide +kernel
theorem dX8_init_30 : decode cX8_init 30 = .ok (.bipush 67, 2) := by decide +kernel
theorem dX8_init_32 : decode cX8_init 32 = .ok (.newarray .int, 2) := by decide +kernel
theorem dX8_init_34 : decode cX8_init 34 = .ok (.putfield 19, 3) := by decide +kernel
theorem dX8_init_37 : decode cX8_init 37 = .ok (.aload_n 0, 1) := by decide +kernel
theorem dX8_init_38 : decode cX8_init 38 = .ok (.bipush 63, 2) := by decide +kernel
theorem dX8_init_40 : decode cX8_init 40 = .ok (.newarray .int, 2) := by decide +kernel
theorem dX8_init_42 : decode cX8_init 42 = .ok (.putfield 22, 3) := by decide +kernel
theorem dX8_init_45 : decode cX8_init 45 = .ok (.aload_n 0, 1) := by decide +kernel
theorem dX8_init_46 : decode cX8_init 46 = .ok (.getfield 7, 3) := by decide +kernel
theorem dX8_init_49 : decode cX8_init 49 = .ok (.iconst 0, 1) := by decide +kernel
theorem dX8_init_50 : decode cX8_init 50 = .ok (.sipush 200, 3) := by decide +kernel
theorem dX8_init_53 : decode cX8_init 53 = .ok (.iastore, 1) := by decide +kernel
theorem dX8_init_54 : decode cX8_init 54 = .ok (.aload_n 0, 1) := by decide +kernel
theorem dX8_init_55 : decode cX8_init 55 = .ok (.getfield 7, 3) := by decide +kernel
theorem dX8_init_58 : decode cX8_init 58 = .ok (.iconst 1, 1) := by decide +kernel
theorem dX8_init_59 : decode cX8_init 59 = .ok (.sipush 200, 3) := by decide +kernel
theorem dX8_init_62 : decode cX8_init 62 = .ok (.iastore, 1) := by decide +kernel
theorem dX8_init_63 : decode cX8_init 63 = .ok (.aload_n 0, 1) := by decide +kernel
theorem dX8_init_64 : decode cX8_init 64 = .ok (.getfield 7, 3) := by decide +kernel
theorem dX8_init_67 : decode cX8_init 67 = .ok (.iconst 2, 1) := by decide +kernel
theorem dX8_init_68 : decode cX8_init 68 = .ok (.sipush 200, 3) := by decide +kernel
theorem dX8_init_71 : decode cX8_init 71 = .ok (.iastore, 1) := by decide +kernel
theorem dX8_init_72 : decode cX8_init 72 = .ok (.aload_n 0, 1) := by decide +kernel
theorem dX8_init_73 : decode cX8_init 73 = .ok (.getfield 7, 3) := by decide +kernel
theorem dX8_init_76 : decode cX8_init 76 = .ok (.bipush 9, 2) := by decide +kernel
theorem dX8_init_78 : decode cX8_init 78 = .ok (.bipush 10, 2) := by decide +kernel
theorem dX8_init_80 : decode cX8_init 80 = .ok (.iastore, 1) := by decide +kernel
theorem dX8_init_81 : decode cX8_init 81 = .ok (.aload_n 0, 1) := by decide +kernel
theorem dX8_init_82 : decode cX8_init 82 = .ok (.getfield 7, 3) := by decide +kernel
theorem dX8_init_85 : decode cX8_init 85 = .ok (.bipush 61, 2) := by decide +kernel
theorem dX8_init_87 : decode cX8_init 87 = .ok (.bipush 10, 2) := by decide +kernel
theorem dX8_init_89 : decode cX8_init 89 = .ok (.iastore, 1) := by decide +kernel
theorem dX8_init_90 : decode cX8_init 90 = .ok (.aload_n 0, 1) := by decide +kernel
theorem dX8_init_91 : decode cX8_init 91 = .ok (.getfield 7, 3) := by decide +kernel
theorem dX8_init_94 : decode cX8_init 94 = .ok (.bipush 62, 2) := by decide +kernel
theorem dX8_init_96 : decode cX8_init 96 = .ok (.iconst 2, 1) := by decide +kernel
theorem dX8_init_97 : decode cX8_init 97 = .ok (.iastore, 1) := by decide +kernel
theorem dX8_init_98 : decode cX8_init 98 = .ok (.aload_n 0, 1) := by decide +kernel
theorem dX8_init_99 : decode cX8_init 99 = .ok (.getfield 7, 3) := by decide +kernel
theorem dX8_init_102 : decode cX8_init 102 = .ok (.bipush 63, 2) := by decide +kernel
theorem dX8_init_104 : decode cX8_init 104 = .ok (.bipush 8, 2) := by decide +kernel
theorem dX8_init_106 : decode cX8_init 106 = .ok (.iastore, 1) := by decide +kernel
theorem dX8_init_107 : decode cX8_init 107 = .ok (.aload_n 0, 1) := by decide +kernel
theorem dX8_init_108 : decode cX8_init 108 = .ok (.getfield 7, 3) := by decide +kernel
theorem dX8_init_111 : decode cX8_init 111 = .ok (.bipush 64, 2) := by decide +kernel
theorem dX8_init_113 : decode cX8_init 113 = .ok (.bipush 6, 2) := by decide +kernel
theorem dX8_init_115 : decode cX8_init 115 = .ok (.iastore, 1) := by decide +kernel
theorem dX8_init_116 : decode cX8_init 116 = .ok (.aload_n 0, 1) := by decide +kernel
theorem dX8_init_117 : decode cX8_init 117 = .ok (.getfield 7, 3) := by decide +kernel
theorem dX8_init_120 : decode cX8_init 120 = .ok (.bipush 66, 2) := by decide +kernel
theorem dX8_init_122 : decode cX8_init 122 = .ok (.bipush 6, 2) := by decide +kernel
theorem dX8_init_124 : decode cX8_init 124 = .ok (.iastore, 1) := by decide +kernel
theorem dX8_init_125 : decode cX8_init 125 = .ok (.return_, 1) := by decide +kernel
theorem dX8_thrown_0 : decode cX8_thrown 0 = .ok (.aload_n 0, 1) := by decide +kernel
theorem dX8_thrown_1 : decode cX8_thrown 1 = .ok (.getfield 25, 3) := by decide +kernel
theorem dX8_thrown_4 : decode cX8_thrown 4 = .ok (.ireturn, 1) := by decide +kernel
theorem dX8_within_0 : decode cX8_within 0 = .ok (.iload_n 0, 1) := by decide +kernel
theorem dX8_within_1 : decode cX8_within 1 = .ok (.iload_n 1, 1) := by decide +kernel
theorem dX8_within_2 : decode cX8_within 2 = .ok (.if_icmp .lt 12, 3) := by decide +kernel
theorem dX8_within_5 : decode cX8_within 5 = .ok (.iload_n 0, 1) := by decide +kernel
theorem dX8_within_6 : decode cX8_within 6 = .ok (.iload_n 2, 1) := by decide +kernel
theorem dX8_within_7 : decode cX8_within 7 = .ok (.if_icmp .gt 7, 3) := by decide +kernel
theorem dX8_within_10 : decode cX8_within 10 = .ok (.iconst 1, 1) := by decide +kernel
theorem dX8_within_11 : decode cX8_within 11 = .ok (.goto 4, 3) := by decide +kernel
theorem dX8_within_14 : decode cX8_within 14 = .ok (.iconst 0, 1) := by decide +kernel
theorem dX8_within_15 : decode cX8_within 15 = .ok (.ireturn, 1) := by decide +kernel
theorem dX8_lesser_0 : decode cX8_lesser 0 = .ok (.iload_n 0, 1) := by decide +kernel
theorem dX8_lesser_1 : decode cX8_lesser 1 = .ok (.iload_n 1, 1) := by decide +kernel
theorem dX8_lesser_2 : decode cX8_lesser 2 = .ok (.if_icmp .ge 7, 3) := by decide +kernel
theorem dX8_lesser_5 : decode cX8_lesser 5 = .ok (.iload_n 0, 1) := by decide +kernel
theorem dX8_lesser_6 : decode cX8_lesser 6 = .ok (.goto 4, 3) := by decide +kernel
theorem dX8_lesser_9 : decode cX8_lesser 9 = .ok (.iload_n 1, 1) := by decide +kernel
theorem dX8_lesser_10 : decode cX8_lesser 10 = .ok (.ireturn, 1) := by decide +kernel
theorem dX8_save_0 : decode cX8_save 0 = .ok (.aload_n 0, 1) := by decide +kernel
theorem dX8_save_1 : decode cX8_save 1 = .ok (.getfield 29, 3) := by decide +kernel
theorem dX8_save_4 : decode cX8_save 4 = .ok (.bipush 6, 2) := by decide +kernel
theorem dX8_save_6 : decode cX8_save 6 = .ok (.if_icmp .ne 44, 3) := by decide +kernel
theorem dX8_save_9 : decode cX8_save 9 = .ok (.bipush 67, 2) := by decide +kernel
theorem dX8_save_11 : decode cX8_save 11 = .ok (.istore_n 1, 1) := by decide +kernel
theorem dX8_save_12 : decode cX8_save 12 = .ok (.iload_n 1, 1) := by decide +kernel
theorem dX8_save_13 : decode cX8_save 13 = .ok (.sipush 402, 3) := by decide +kernel
theorem dX8_save_16 : decode cX8_save 16 = .ok (.if_icmp .ge 24, 3) := by decide +kernel
theorem dX8_save_19 : decode cX8_save 19 = .ok (.aload_n 0, 1) := by decide +kernel
theorem dX8_save_20 : decode cX8_save 20 = .ok (.getfield 13, 3) := by decide +kernel
theorem dX8_save_23 : decode cX8_save 23 = .ok (.iload_n 1, 1) := by decide +kernel
theorem dX8_save_24 : decode cX8_save 24 = .ok (.bipush 67, 2) := by decide +kernel
theorem dX8_save_26 : decode cX8_save 26 = .ok (.isub, 1) := by decide +kernel
theorem dX8_save_27 : decode cX8_save 27 = .ok (.aload_n 0, 1) := by decide +kernel
theorem dX8_save_28 : decode cX8_save 28 = .ok (.getfield 13, 3) := by decide +kernel
theorem dX8_save_31 : decode cX8_save 31 = .ok (.iload_n 1, 1) := by decide +kernel
theorem dX8_save_32 : decode cX8_save 32 = .ok (.iaload, 1) := by decide +kernel
theorem dX8_save_33 : decode cX8_save 33 = .ok (.iastore, 1) := by decide +kernel
theorem dX8_save_34 : decode cX8_save 34 = .ok (.iinc 1 1, 3) := by decide +kernel
theorem dX8_save_37 : decode cX8_save 37 = .ok (.goto (-25), 3) := by decide +kernel
theorem dX8_save_40 : decode cX8_save 40 = .ok (.aload_n 0, 1) := by decide +kernel
theorem dX8_save_41 : decode cX8_save 41 = .ok (.dup, 1) := by decide +kernel
theorem dX8_save_42 : decode cX8_save 42 = .ok (.getfield 29, 3) := by decide +kernel
theorem dX8_save_45 : decode cX8_save 45 = .ok (.iconst 1, 1) := by decide +kernel
theorem dX8_save_46 : decode cX8_save 46 = .ok (.isub, 1) := by decide +kernel
theorem dX8_save_47 : decode cX8_save 47 = .ok (.putfield 29, 3) := by decide +kernel
theorem dX8_save_50 : decode cX8_save 50 = .ok (.iconst 0, 1) := by decide +kernel
theorem dX8_save_51 : decode cX8_save 51 = .ok (.istore_n 1, 1) := by decide +kernel
theorem dX8_save_52 : decode cX8_save 52 = .ok (.iload_n 1, 1) := by decide +kernel
theorem dX8_save_53 : decode cX8_save 53 = .ok (.bipush 67, 2) := by decide +kernel
theorem dX8_save_55 : decode cX8_save 55 = .ok (.if_icmp .ge 29, 3) := by decide +kernel
theorem dX8_save_58 : decode cX8_save 58 = .ok (.aload_n 0, 1) := by decide +kernel
theorem dX8_save_59 : decode cX8_save 59 = .ok (.getfield 13, 3) := by decide +kernel
theorem dX8_save_62 : decode cX8_save 62 = .ok (.bipush 67, 2) := by decide +kernel
theorem dX8_save_64 : decode cX8_save 64 = .ok (.aload_n 0, 1) := by decide +kernel
theorem dX8_save_65 : decode cX8_save 65 = .ok (.getfield 29, 3) := by decide +kernel
theorem dX8_save_68 : decode cX8_save 68 = .ok (.imul, 1) := by decide +kernel
theorem dX8_save_69 : decode cX8_save 69 = .ok (.iload_n 1, 1) := by decide +kernel
theorem dX8_save_70 : decode cX8_save 70 = .ok (.iadd, 1) := by decide +kernel
theorem dX8_save_71 : decode cX8_save 71 = .ok (.aload_n 0, 1) := by decide +kernel
theorem dX8_save_72 : decode cX8_save 72 = .ok (.getfield 7, 3) := by decide +kernel
theorem dX8_save_75 : decode cX8_save 75 = .ok (.iload_n 1, 1) := by decide +kernel
theorem dX8_save_76 : decode cX8_save 76 = .ok (.iaload, 1) := by decide +kernel
theorem dX8_save_77 : decode cX8_save 77 = .ok (.iastore, 1) := by decide +kernel
theorem dX8_save_78 : decode cX8_save 78 = .ok (.iinc 1 1, 3) := by decide +kernel
theorem dX8_save_81 : decode cX8_save 81 = .ok (.goto (-29), 3) := by decide +kernel
theorem dX8_save_84 : decode cX8_save 84 = .ok (.aload_n 0, 1) := by decide +kernel
theorem dX8_save_85 : decode cX8_save 85 = .ok (.dup, 1) := by decide +kernel
theorem dX8_save_86 : decode cX8_save 86 = .ok (.getfield 29, 3) := by decide +kernel
theorem dX8_save_89 : decode cX8_save 89 = .ok (.iconst 1, 1) := by decide +kernel
theorem dX8_save_90 : decode cX8_save 90 = .ok (.iadd, 1) := by decide +kernel
theorem dX8_save_91 : decode cX8_save 91 = .ok (.putfield 29, 3) := by decide +kernel
theorem dX8_save_94 : decode cX8_save 94 = .ok (.return_, 1) := by decide +kernel
theorem dX8_layAside_0 : decode cX8_layAside 0 = .ok (.iconst 0, 1) := by decide +kernel
theorem dX8_layAside_1 : decode cX8_layAside 1 = .ok (.istore_n 1, 1) := by decide +kernel
theorem dX8_layAside_2 : decode cX8_layAside 2 = .ok (.iload_n 1, 1) := by decide +kernel
theorem dX8_layAside_3 : decode cX8_layAside 3 = .ok (.bipush 67, 2) := by decide +kernel
theorem dX8_layAside_5 : decode cX8_layAside 5 = .ok (.if_icmp .ge 21, 3) := by decide +kernel
theorem dX8_layAside_8 : decode cX8_layAside 8 = .ok (.aload_n 0, 1) := by decide +kernel
theorem dX8_layAside_9 : decode cX8_layAside 9 = .ok (.getfield 19, 3) := by decide +kernel
theorem dX8_layAside_12 : decode cX8_layAside 12 = .ok (.iload_n 1, 1) := by decide +kernel
theorem dX8_layAside_13 : decode cX8_layAside 13 = .ok (.aload_n 0, 1) := by decide +kernel
theorem dX8_layAside_14 : decode cX8_layAside 14 = .ok (.getfield 7, 3) := by decide +kernel
theorem dX8_layAside_17 : decode cX8_layAside 17 = .ok (.iload_n 1, 1) := by decide +kernel
theorem dX8_layAside_18 : decode cX8_layAside 18 = .ok (.iaload, 1) := by decide +kernel
theorem dX8_layAside_19 : decode cX8_layAside 19 = .ok (.iastore, 1) := by decide +kernel
theorem dX8_layAside_20 : decode cX8_layAside 20 = .ok (.iinc 1 1, 3) := by decide +kernel
theorem dX8_layAside_23 : decode cX8_layAside 23 = .ok (.goto (-21), 3) := by decide +kernel
theorem dX8_layAside_26 : decode cX8_layAside 26 = .ok (.return_, 1) := by decide +kernel
theorem dX8_layBack_0 : decode cX8_layBack 0 = .ok (.iconst 0, 1) := by decide +kernel
theorem dX8_layBack_1 : decode cX8_layBack 1 = .ok (.istore_n 1, 1) := by decide +kernel
theorem dX8_layBack_2 : decode cX8_layBack 2 = .ok (.iload_n 1, 1) := by decide +kernel
theorem dX8_layBack_3 : decode cX8_layBack 3 = .ok (.bipush 67, 2) := by decide +kernel
theorem dX8_layBack_5 : decode cX8_layBack 5 = .ok (.if_icmp .ge 21, 3) := by decide +kernel
theorem dX8_layBack_8 : decode cX8_layBack 8 = .ok (.aload_n 0, 1) := by decide +kernel
theorem dX8_layBack_9 : decode cX8_layBack 9 = .ok (.getfield 7, 3) := by decide +kernel
theorem dX8_layBack_12 : decode cX8_layBack 12 = .ok (.iload_n 1, 1) := by decide +kernel
theorem dX8_layBack_13 : decode cX8_layBack 13 = .ok (.aload_n 0, 1) := by decide +kernel
theorem dX8_layBack_14 : decode cX8_layBack 14 = .ok (.getfield 19, 3) := by decide +kernel
theorem dX8_layBack_17 : decode cX8_layBack 17 = .ok (.iload_n 1, 1) := by decide +kernel
theorem dX8_layBack_18 : decode cX8_layBack 18 = .ok (.iaload, 1) := by decide +kernel
theorem dX8_layBack_19 : decode cX8_layBack 19 = .ok (.iastore, 1) := by decide +kernel
theorem dX8_layBack_20 : decode cX8_layBack 20 = .ok (.iinc 1 1, 3) := by decide +kernel
theorem dX8_layBack_23 : decode cX8_layBack 23 = .ok (.goto (-21), 3) := by decide +kernel
theorem dX8_layBack_26 : decode cX8_layBack 26 = .ok (.return_, 1) := by decide +kernel
theorem dX8_hourOf_0 : decode cX8_hourOf 0 = .ok (.iload_n 0, 1) := by decide +kernel
theorem dX8_hourOf_1 : decode cX8_hourOf 1 = .ok (.bipush 60, 2) := by decide +kernel
theorem dX8_hourOf_3 : decode cX8_hourOf 3 = .ok (.idiv, 1) := by decide +kernel
theorem dX8_hourOf_4 : decode cX8_hourOf 4 = .ok (.ifCond .ne 8, 3) := by decide +kernel
theorem dX8_hourOf_7 : decode cX8_hourOf 7 = .ok (.bipush 12, 2) := by decide +kernel
theorem dX8_hourOf_9 : decode cX8_hourOf 9 = .ok (.goto 7, 3) := by decide +kernel
theorem dX8_hourOf_12 : decode cX8_hourOf 12 = .ok (.iload_n 0, 1) := by decide +kernel
theorem dX8_hourOf_13 : decode cX8_hourOf 13 = .ok (.bipush 60, 2) := by decide +kernel
theorem dX8_hourOf_15 : decode cX8_hourOf 15 = .ok (.idiv, 1) := by decide +kernel
theorem dX8_hourOf_16 : decode cX8_hourOf 16 = .ok (.ireturn, 1) := by decide +kernel
theorem dX8_isSilent_0 : decode cX8_isSilent 0 = .ok (.aload_n 0, 1) := by decide +kernel
theorem dX8_isSilent_1 : decode cX8_isSilent 1 = .ok (.getfield 7, 3) := by decide +kernel
theorem dX8_isSilent_4 : decode cX8_isSilent 4 = .ok (.bipush 65, 2) := by decide +kernel
theorem dX8_isSilent_6 : decode cX8_isSilent 6 = .ok (.iaload, 1) := by decide +kernel
theorem dX8_isSilent_7 : decode cX8_isSilent 7 = .ok (.ifCond .le 41, 3) := by decide +kernel
theorem dX8_isSilent_10 : decode cX8_isSilent 10 = .ok (.aload_n 0, 1) := by decide +kernel
theorem dX8_isSilent_11 : decode cX8_isSilent 11 = .ok (.getfield 7, 3) := by decide +kernel
theorem dX8_isSilent_14 : decode cX8_isSilent 14 = .ok (.bipush 10, 2) := by decide +kernel
theorem dX8_isSilent_16 : decode cX8_isSilent 16 = .ok (.iaload, 1) := by decide +kernel
theorem dX8_isSilent_17 : decode cX8_isSilent 17 = .ok (.invokestatic 32, 3) := by decide +kernel
theorem dX8_isSilent_20 : decode cX8_isSilent 20 = .ok (.bipush 12, 2) := by decide +kernel
theorem dX8_isSilent_22 : decode cX8_isSilent 22 = .ok (.iadd, 1) := by decide +kernel
theorem dX8_isSilent_23 : decode cX8_isSilent 23 = .ok (.aload_n 0, 1) := by decide +kernel
theorem dX8_isSilent_24 : decode cX8_isSilent 24 = .ok (.getfield 7, 3) := by decide +kernel
theorem dX8_isSilent_27 : decode cX8_isSilent 27 = .ok (.bipush 65, 2) := by decide +kernel
theorem dX8_isSilent_29 : decode cX8_isSilent 29 = .ok (.iaload, 1) := by decide +kernel
theorem dX8_isSilent_30 : decode cX8_isSilent 30 = .ok (.isub, 1) := by decide +kernel
theorem dX8_isSilent_31 : decode cX8_isSilent 31 = .ok (.bipush 12, 2) := by decide +kernel
theorem dX8_isSilent_33 : decode cX8_isSilent 33 = .ok (.irem, 1) := by decide +kernel
theorem dX8_isSilent_34 : decode cX8_isSilent 34 = .ok (.aload_n 0, 1) := by decide +kernel
theorem dX8_isSilent_35 : decode cX8_isSilent 35 = .ok (.getfield 7, 3) := by decide +kernel
theorem dX8_isSilent_38 : decode cX8_isSilent 38 = .ok (.bipush 66, 2) := by decide +kernel
theorem dX8_isSilent_40 : decode cX8_isSilent 40 = .ok (.iaload, 1) := by decide +kernel
theorem dX8_isSilent_41 : decode cX8_isSilent 41 = .ok (.if_icmp .ge 7, 3) := by decide +kernel
theorem dX8_isSilent_44 : decode cX8_isSilent 44 = .ok (.iconst 1, 1) := by decide +kernel
theorem dX8_isSilent_45 : decode cX8_isSilent 45 = .ok (.goto 4, 3) := by decide +kernel
theorem dX8_isSilent_48 : decode cX8_isSilent 48 = .ok (.iconst 0, 1) := by decide +kernel
theorem dX8_isSilent_49 : decode cX8_isSilent 49 = .ok (.ireturn, 1) := by decide +kernel
theorem dX8_owed_0 : decode cX8_owed 0 = .ok (.iconst 0, 1) := by decide +kernel
theorem dX8_owed_1 : decode cX8_owed 1 = .ok (.istore_n 1, 1) := by decide +kernel
theorem dX8_owed_2 : decode cX8_owed 2 = .ok (.iconst 0, 1) := by decide +kernel
theorem dX8_owed_3 : decode cX8_owed 3 = .ok (.istore_n 2, 1) := by decide +kernel
theorem dX8_owed_4 : decode cX8_owed 4 = .ok (.iload_n 2, 1) := by decide +kernel
theorem dX8_owed_5 : decode cX8_owed 5 = .ok (.aload_n 0, 1) := by decide +kernel
theorem dX8_owed_6 : decode cX8_owed 6 = .ok (.getfield 7, 3) := by decide +kernel
theorem dX8_owed_9 : decode cX8_owed 9 = .ok (.bipush 52, 2) := by decide +kernel
theorem dX8_owed_11 : decode cX8_owed 11 = .ok (.iaload, 1) := by decide +kernel
theorem dX8_owed_12 : decode cX8_owed 12 = .ok (.if_icmp .ge 25, 3) := by decide +kernel
theorem dX8_owed_15 : decode cX8_owed 15 = .ok (.iload_n 1, 1) := by decide +kernel
theorem dX8_owed_16 : decode cX8_owed 16 = .ok (.aload_n 0, 1) := by decide +kernel
theorem dX8_owed_17 : decode cX8_owed 17 = .ok (.getfield 7, 3) := by decide +kernel
theorem dX8_owed_20 : decode cX8_owed 20 = .ok (.bipush 53, 2) := by decide +kernel
theorem dX8_owed_22 : decode cX8_owed 22 = .ok (.iconst 2, 1) := by decide +kernel
theorem dX8_owed_23 : decode cX8_owed 23 = .ok (.iload_n 2, 1) := by decide +kernel
theorem dX8_owed_24 : decode cX8_owed 24 = .ok (.imul, 1) := by decide +kernel
theorem dX8_owed_25 : decode cX8_owed 25 = .ok (.iadd, 1) := by decide +kernel
theorem dX8_owed_26 : decode cX8_owed 26 = .ok (.iconst 1, 1) := by decide +kernel
theorem dX8_owed_27 : decode cX8_owed 27 = .ok (.iadd, 1) := by decide +kernel
theorem dX8_owed_28 : decode cX8_owed 28 = .ok (.iaload, 1) := by decide +kernel
theorem dX8_owed_29 : decode cX8_owed 29 = .ok (.iadd, 1) := by decide +kernel
theorem dX8_owed_30 : decode cX8_owed 30 = .ok (.istore_n 1, 1) := by decide +kernel
theorem dX8_owed_31 : decode cX8_owed 31 = .ok (.iinc 2 1, 3) := by decide +kernel
theorem dX8_owed_34 : decode cX8_owed 34 = .ok (.goto (-30), 3) := by decide +kernel
theorem dX8_owed_37 : decode cX8_owed 37 = .ok (.iload_n 1, 1) := by decide +kernel
theorem dX8_owed_38 : decode cX8_owed 38 = .ok (.ireturn, 1) := by decide +kernel
theorem dX8_at_0 : decode cX8_at 0 = .ok (.bipush 22, 2) := by decide +kernel
theorem dX8_at_2 : decode cX8_at 2 = .ok (.iconst 5, 1) := by decide +kernel
theorem dX8_at_3 : decode cX8_at 3 = .ok (.iload_n 0, 1) := by decide +kernel
theorem dX8_at_4 : decode cX8_at 4 = .ok (.imul, 1) := by decide +kernel
theorem dX8_at_5 : decode cX8_at 5 = .ok (.iadd, 1) := by decide +kernel
theorem dX8_at_6 : decode cX8_at 6 = .ok (.ireturn, 1) := by decide +kernel
theorem dX8_isDue_0 : decode cX8_isDue 0 = .ok (.aload_n 0, 1) := by decide +kernel
theorem dX8_isDue_1 : decode cX8_isDue 1 = .ok (.getfield 7, 3) := by decide +kernel
theorem dX8_isDue_4 : decode cX8_isDue 4 = .ok (.iload_n 1, 1) := by decide +kernel
theorem dX8_isDue_5 : decode cX8_isDue 5 = .ok (.invokestatic 36, 3) := by decide +kernel
theorem dX8_isDue_8 : decode cX8_isDue 8 = .ok (.iconst 3, 1) := by decide +kernel
theorem dX8_isDue_9 : decode cX8_isDue 9 = .ok (.iadd, 1) := by decide +kernel
theorem dX8_isDue_10 : decode cX8_isDue 10 = .ok (.iaload, 1) := by decide +kernel
theorem dX8_isDue_11 : decode cX8_isDue 11 = .ok (.aload_n 0, 1) := by decide +kernel
theorem dX8_isDue_12 : decode cX8_isDue 12 = .ok (.getfield 7, 3) := by decide +kernel
theorem dX8_isDue_15 : decode cX8_isDue 15 = .ok (.bipush 13, 2) := by decide +kernel
theorem dX8_isDue_17 : decode cX8_isDue 17 = .ok (.iaload, 1) := by decide +kernel
theorem dX8_isDue_18 : decode cX8_isDue 18 = .ok (.if_icmp .gt 7, 3) := by decide +kernel
theorem dX8_isDue_21 : decode cX8_isDue 21 = .ok (.iconst 1, 1) := by decide +kernel
theorem dX8_isDue_22 : decode cX8_isDue 22 = .ok (.goto 4, 3) := by decide +kernel
theorem dX8_isDue_25 : decode cX8_isDue 25 = .ok (.iconst 0, 1) := by decide +kernel
theorem dX8_isDue_26 : decode cX8_isDue 26 = .ok (.ireturn, 1) := by decide +kernel
theorem dX8_isKept_0 : decode cX8_isKept 0 = .ok (.aload_n 0, 1) := by decide +kernel
theorem dX8_isKept_1 : decode cX8_isKept 1 = .ok (.getfield 7, 3) := by decide +kernel
theorem dX8_isKept_4 : decode cX8_isKept 4 = .ok (.iload_n 1, 1) := by decide +kernel
theorem dX8_isKept_5 : decode cX8_isKept 5 = .ok (.invokestatic 36, 3) := by decide +kernel
theorem dX8_isKept_8 : decode cX8_isKept 8 = .ok (.iaload, 1) := by decide +kernel
theorem dX8_isKept_9 : decode cX8_isKept 9 = .ok (.iconst 1, 1) := by decide +kernel
theorem dX8_isKept_10 : decode cX8_isKept 10 = .ok (.if_icmp .ne 26, 3) := by decide +kernel
theorem dX8_isKept_13 : decode cX8_isKept 13 = .ok (.aload_n 0, 1) := by decide +kernel
theorem dX8_isKept_14 : decode cX8_isKept 14 = .ok (.getfield 7, 3) := by decide +kernel
theorem dX8_isKept_17 : decode cX8_isKept 17 = .ok (.bipush 52, 2) := by decide +kernel
theorem dX8_isKept_19 : decode cX8_isKept 19 = .ok (.iaload, 1) := by decide +kernel
theorem dX8_isKept_20 : decode cX8_isKept 20 = .ok (.ifCond .le 16, 3) := by decide +kernel
theorem dX8_isKept_23 : decode cX8_isKept 23 = .ok (.aload_n 0, 1) := by decide +kernel
theorem dX8_isKept_24 : decode cX8_isKept 24 = .ok (.getfield 7, 3) := by decide +kernel
theorem dX8_isKept_27 : decode cX8_isKept 27 = .ok (.iconst 1, 1) := by decide +kernel
theorem dX8_isKept_28 : decode cX8_isKept 28 = .ok (.iaload, 1) := by decide +kernel
theorem dX8_isKept_29 : decode cX8_isKept 29 = .ok (.ifCond .eq 7, 3) := by decide +kernel
theorem dX8_isKept_32 : decode cX8_isKept 32 = .ok (.iconst 1, 1) := by decide +kernel
theorem dX8_isKept_33 : decode cX8_isKept 33 = .ok (.goto 4, 3) := by decide +kernel
theorem dX8_isKept_36 : decode cX8_isKept 36 = .ok (.iconst 0, 1) := by decide +kernel
theorem dX8_isKept_37 : decode cX8_isKept 37 = .ok (.ireturn, 1) := by decide +kernel
theorem dX8_comer_0 : decode cX8_comer 0 = .ok (.iconst (-1), 1) := by decide +kernel
theorem dX8_comer_1 : decode cX8_comer 1 = .ok (.istore_n 1, 1) := by decide +kernel
theorem dX8_comer_2 : decode cX8_comer 2 = .ok (.iconst 0, 1) := by decide +kernel
theorem dX8_comer_3 : decode cX8_comer 3 = .ok (.istore_n 2, 1) := by decide +kernel
theorem dX8_comer_4 : decode cX8_comer 4 = .ok (.iload_n 2, 1) := by decide +kernel
theorem dX8_comer_5 : decode cX8_comer 5 = .ok (.aload_n 0, 1) := by decide +kernel
theorem dX8_comer_6 : decode cX8_comer 6 = .ok (.getfield 7, 3) := by decide +kernel
theorem dX8_comer_9 : decode cX8_comer 9 = .ok (.bipush 21, 2) := by decide +kernel
theorem dX8_comer_11 : decode cX8_comer 11 = .ok (.iaload, 1) := by decide +kernel
theorem dX8_comer_12 : decode cX8_comer 12 = .ok (.if_icmp .ge 71, 3) := by decide +kernel
theorem dX8_comer_15 : decode cX8_comer 15 = .ok (.aload_n 0, 1) := by decide +kernel
theorem dX8_comer_16 : decode cX8_comer 16 = .ok (.iload_n 2, 1) := by decide +kernel
theorem dX8_comer_17 : decode cX8_comer 17 = .ok (.invokevirtual 39, 3) := by decide +kernel
theorem dX8_comer_20 : decode cX8_comer 20 = .ok (.ifCond .eq 15, 3) := by decide +kernel
theorem dX8_comer_23 : decode cX8_comer 23 = .ok (.aload_n 0, 1) := by decide +kernel
theorem dX8_comer_24 : decode cX8_comer 24 = .ok (.iload_n 2, 1) := by decide +kernel
theorem dX8_comer_25 : decode cX8_comer 25 = .ok (.invokevirtual 43, 3) := by decide +kernel
theorem dX8_comer_28 : decode cX8_comer 28 = .ok (.ifCond .ne 7, 3) := by decide +kernel
theorem dX8_comer_31 : decode cX8_comer 31 = .ok (.iconst 1, 1) := by decide +kernel
theorem dX8_comer_32 : decode cX8_comer 32 = .ok (.goto 4, 3) := by decide +kernel
theorem dX8_comer_35 : decode cX8_comer 35 = .ok (.iconst 0, 1) := by decide +kernel
theorem dX8_comer_36 : decode cX8_comer 36 = .ok (.istore_n 3, 1) := by decide +kernel
theorem dX8_comer_37 : decode cX8_comer 37 = .ok (.iload_n 3, 1) := by decide +kernel
theorem dX8_comer_38 : decode cX8_comer 38 = .ok (.ifCond .eq 37, 3) := by decide +kernel
theorem dX8_comer_41 : decode cX8_comer 41 = .ok (.iload_n 1, 1) := by decide +kernel
theorem dX8_comer_42 : decode cX8_comer 42 = .ok (.iconst (-1), 1) := by decide +kernel
theorem dX8_comer_43 : decode cX8_comer 43 = .ok (.if_icmp .eq 28, 3) := by decide +kernel
theorem dX8_comer_46 : decode cX8_comer 46 = .ok (.aload_n 0, 1) := by decide +kernel
theorem dX8_comer_47 : decode cX8_comer 47 = .ok (.getfield 7, 3) := by decide +kernel
theorem dX8_comer_50 : decode cX8_comer 50 = .ok (.iload_n 2, 1) := by decide +kernel
theorem dX8_comer_51 : decode cX8_comer 51 = .ok (.invokestatic 36, 3) := by decide +kernel
theorem dX8_comer_54 : decode cX8_comer 54 = .ok (.iconst 3, 1) := by decide +kernel
theorem dX8_comer_55 : decode cX8_comer 55 = .ok (.iadd, 1) := by decide +kernel
theorem dX8_comer_56 : decode cX8_comer 56 = .ok (.iaload, 1) := by decide +kernel
theorem dX8_comer_57 : decode cX8_comer 57 = .ok (.aload_n 0, 1) := by decide +kernel
theorem dX8_comer_58 : decode cX8_comer 58 = .ok (.getfield 7, 3) := by decide +kernel
theorem dX8_comer_61 : decode cX8_comer 61 = .ok (.iload_n 1, 1) := by decide +kernel
theorem dX8_comer_62 : decode cX8_comer 62 = .ok (.invokestatic 36, 3) := by decide +kernel
theorem dX8_comer_65 : decode cX8_comer 65 = .ok (.iconst 3, 1) := by decide +kernel
theorem dX8_comer_66 : decode cX8_comer 66 = .ok (.iadd, 1) := by decide +kernel
theorem dX8_comer_67 : decode cX8_comer 67 = .ok (.iaload, 1) := by decide +kernel
theorem dX8_comer_68 : decode cX8_comer 68 = .ok (.if_icmp .ge 7, 3) := by decide +kernel
theorem dX8_comer_71 : decode cX8_comer 71 = .ok (.iload_n 2, 1) := by decide +kernel
theorem dX8_comer_72 : decode cX8_comer 72 = .ok (.goto 4, 3) := by decide +kernel
theorem dX8_comer_75 : decode cX8_comer 75 = .ok (.iload_n 1, 1) := by decide +kernel
theorem dX8_comer_76 : decode cX8_comer 76 = .ok (.istore_n 1, 1) := by decide +kernel
theorem dX8_comer_77 : decode cX8_comer 77 = .ok (.iinc 2 1, 3) := by decide +kernel
theorem dX8_comer_80 : decode cX8_comer 80 = .ok (.goto (-76), 3) := by decide +kernel
theorem dX8_comer_83 : decode cX8_comer 83 = .ok (.iload_n 1, 1) := by decide +kernel
theorem dX8_comer_84 : decode cX8_comer 84 = .ok (.ireturn, 1) := by decide +kernel
theorem dX8_winds_0 : decode cX8_winds 0 = .ok (.iload_n 2, 1) := by decide +kernel
theorem dX8_winds_1 : decode cX8_winds 1 = .ok (.sipush 200, 3) := by decide +kernel
theorem dX8_winds_4 : decode cX8_winds 4 = .ok (.aload_n 0, 1) := by decide +kernel
theorem dX8_winds_5 : decode cX8_winds 5 = .ok (.getfield 7, 3) := by decide +kernel
theorem dX8_winds_8 : decode cX8_winds 8 = .ok (.iconst 0, 1) := by decide +kernel
theorem dX8_winds_9 : decode cX8_winds 9 = .ok (.iload_n 1, 1) := by decide +kernel
theorem dX8_winds_10 : decode cX8_winds 10 = .ok (.iadd, 1) := by decide +kernel
theorem dX8_winds_11 : decode cX8_winds 11 = .ok (.iaload, 1) := by decide +kernel
theorem dX8_winds_12 : decode cX8_winds 12 = .ok (.isub, 1) := by decide +kernel
theorem dX8_winds_13 : decode cX8_winds 13 = .ok (.invokestatic 46, 3) := by decide +kernel
theorem dX8_winds_16 : decode cX8_winds 16 = .ok (.istore_n 3, 1) := by decide +kernel
theorem dX8_winds_17 : decode cX8_winds 17 = .ok (.aload_n 0, 1) := by decide +kernel
theorem dX8_winds_18 : decode cX8_winds 18 = .ok (.getfield 7, 3) := by decide +kernel
theorem dX8_winds_21 : decode cX8_winds 21 = .ok (.iconst 0, 1) := by decide +kernel
theorem dX8_winds_22 : decode cX8_winds 22 = .ok (.iload_n 1, 1) := by decide +kernel
theorem dX8_winds_23 : decode cX8_winds 23 = .ok (.iadd, 1) := by decide +kernel
theorem dX8_winds_24 : decode cX8_winds 24 = .ok (.dup2, 1) := by decide +kernel
theorem dX8_winds_25 : decode cX8_winds 25 = .ok (.iaload, 1) := by decide +kernel
theorem dX8_winds_26 : decode cX8_winds 26 = .ok (.iload_n 3, 1) := by decide +kernel
theorem dX8_winds_27 : decode cX8_winds 27 = .ok (.iadd, 1) := by decide +kernel
theorem dX8_winds_28 : decode cX8_winds 28 = .ok (.iastore, 1) := by decide +kernel
theorem dX8_winds_29 : decode cX8_winds 29 = .ok (.aload_n 0, 1) := by decide +kernel
theorem dX8_winds_30 : decode cX8_winds 30 = .ok (.getfield 7, 3) := by decide +kernel
theorem dX8_winds_33 : decode cX8_winds 33 = .ok (.bipush 6, 2) := by decide +kernel
theorem dX8_winds_35 : decode cX8_winds 35 = .ok (.iload_n 1, 1) := by decide +kernel
theorem dX8_winds_36 : decode cX8_winds 36 = .ok (.iadd, 1) := by decide +kernel
theorem dX8_winds_37 : decode cX8_winds 37 = .ok (.dup2, 1) := by decide +kernel
theorem dX8_winds_38 : decode cX8_winds 38 = .ok (.iaload, 1) := by decide +kernel
theorem dX8_winds_39 : decode cX8_winds 39 = .ok (.iload_n 3, 1) := by decide +kernel
theorem dX8_winds_40 : decode cX8_winds 40 = .ok (.iadd, 1) := by decide +kernel
theorem dX8_winds_41 : decode cX8_winds 41 = .ok (.iastore, 1) := by decide +kernel
theorem dX8_winds_42 : decode cX8_winds 42 = .ok (.iload_n 3, 1) := by decide +kernel
theorem dX8_winds_43 : decode cX8_winds 43 = .ok (.ireturn, 1) := by decide +kernel
theorem dX8_takes_0 : decode cX8_takes 0 = .ok (.aload_n 0, 1) := by decide +kernel
theorem dX8_takes_1 : decode cX8_takes 1 = .ok (.getfield 7, 3) := by decide +kernel
theorem dX8_takes_4 : decode cX8_takes 4 = .ok (.iconst 0, 1) := by decide +kernel
theorem dX8_takes_5 : decode cX8_takes 5 = .ok (.iload_n 1, 1) := by decide +kernel
theorem dX8_takes_6 : decode cX8_takes 6 = .ok (.iadd, 1) := by decide +kernel
theorem dX8_takes_7 : decode cX8_takes 7 = .ok (.dup2, 1) := by decide +kernel
theorem dX8_takes_8 : decode cX8_takes 8 = .ok (.iaload, 1) := by decide +kernel
theorem dX8_takes_9 : decode cX8_takes 9 = .ok (.iload_n 2, 1) := by decide +kernel
theorem dX8_takes_10 : decode cX8_takes 10 = .ok (.isub, 1) := by decide +kernel
theorem dX8_takes_11 : decode cX8_takes 11 = .ok (.iastore, 1) := by decide +kernel
theorem dX8_takes_12 : decode cX8_takes 12 = .ok (.aload_n 0, 1) := by decide +kernel
theorem dX8_takes_13 : decode cX8_takes 13 = .ok (.getfield 7, 3) := by decide +kernel
theorem dX8_takes_16 : decode cX8_takes 16 = .ok (.iconst 3, 1) := by decide +kernel
theorem dX8_takes_17 : decode cX8_takes 17 = .ok (.iload_n 1, 1) := by decide +kernel
theorem dX8_takes_18 : decode cX8_takes 18 = .ok (.iadd, 1) := by decide +kernel
theorem dX8_takes_19 : decode cX8_takes 19 = .ok (.dup2, 1) := by decide +kernel
theorem dX8_takes_20 : decode cX8_takes 20 = .ok (.iaload, 1) := by decide +kernel
theorem dX8_takes_21 : decode cX8_takes 21 = .ok (.iload_n 2, 1) := by decide +kernel
theorem dX8_takes_22 : decode cX8_takes 22 = .ok (.iadd, 1) := by decide +kernel
theorem dX8_takes_23 : decode cX8_takes 23 = .ok (.iastore, 1) := by decide +kernel
theorem dX8_takes_24 : decode cX8_takes 24 = .ok (.return_, 1) := by decide +kernel
theorem dX8_partOne_0 : decode cX8_partOne 0 = .ok (.aload_n 0, 1) := by decide +kernel
theorem dX8_partOne_1 : decode cX8_partOne 1 = .ok (.invokevirtual 50, 3) := by decide +kernel
theorem dX8_partOne_4 : decode cX8_partOne 4 = .ok (.istore_n 1, 1) := by decide +kernel
theorem dX8_partOne_5 : decode cX8_partOne 5 = .ok (.iload_n 1, 1) := by decide +kernel
theorem dX8_partOne_6 : decode cX8_partOne 6 = .ok (.iconst (-1), 1) := by decide +kernel
theorem dX8_partOne_7 : decode cX8_partOne 7 = .ok (.if_icmp .eq 73, 3) := by decide +kernel
theorem dX8_partOne_10 : decode cX8_partOne 10 = .ok (.aload_n 0, 1) := by decide +kernel
theorem dX8_partOne_11 : decode cX8_partOne 11 = .ok (.aload_n 0, 1) := by decide +kernel
theorem dX8_partOne_12 : decode cX8_partOne 12 = .ok (.getfield 7, 3) := by decide +kernel
theorem dX8_partOne_15 : decode cX8_partOne 15 = .ok (.iload_n 1, 1) := by decide +kernel
theorem dX8_partOne_16 : decode cX8_partOne 16 = .ok (.invokestatic 36, 3) := by decide +kernel
theorem dX8_partOne_19 : decode cX8_partOne 19 = .ok (.iaload, 1) := by decide +kernel
theorem dX8_partOne_20 : decode cX8_partOne 20 = .ok (.aload_n 0, 1) := by decide +kernel
theorem dX8_partOne_21 : decode cX8_partOne 21 = .ok (.getfield 7, 3) := by decide +kernel
theorem dX8_partOne_24 : decode cX8_partOne 24 = .ok (.iload_n 1, 1) := by decide +kernel
theorem dX8_partOne_25 : decode cX8_partOne 25 = .ok (.invokestatic 36, 3) := by decide +kernel
theorem dX8_partOne_28 : decode cX8_partOne 28 = .ok (.iconst 1, 1) := by decide +kernel
theorem dX8_partOne_29 : decode cX8_partOne 29 = .ok (.iadd, 1) := by decide +kernel
theorem dX8_partOne_30 : decode cX8_partOne 30 = .ok (.iaload, 1) := by decide +kernel
theorem dX8_partOne_31 : decode cX8_partOne 31 = .ok (.invokevirtual 54, 3) := by decide +kernel
theorem dX8_partOne_34 : decode cX8_partOne 34 = .ok (.istore_n 2, 1) := by decide +kernel
theorem dX8_partOne_35 : decode cX8_partOne 35 = .ok (.aload_n 0, 1) := by decide +kernel
theorem dX8_partOne_36 : decode cX8_partOne 36 = .ok (.getfield 7, 3) := by decide +kernel
theorem dX8_partOne_39 : decode cX8_partOne 39 = .ok (.iload_n 1, 1) := by decide +kernel
theorem dX8_partOne_40 : decode cX8_partOne 40 = .ok (.invokestatic 36, 3) := by decide +kernel
theorem dX8_partOne_43 : decode cX8_partOne 43 = .ok (.iconst 3, 1) := by decide +kernel
theorem dX8_partOne_44 : decode cX8_partOne 44 = .ok (.iadd, 1) := by decide +kernel
theorem dX8_partOne_45 : decode cX8_partOne 45 = .ok (.aload_n 0, 1) := by decide +kernel
theorem dX8_partOne_46 : decode cX8_partOne 46 = .ok (.getfield 7, 3) := by decide +kernel
theorem dX8_partOne_49 : decode cX8_partOne 49 = .ok (.bipush 13, 2) := by decide +kernel
theorem dX8_partOne_51 : decode cX8_partOne 51 = .ok (.iaload, 1) := by decide +kernel
theorem dX8_partOne_52 : decode cX8_partOne 52 = .ok (.aload_n 0, 1) := by decide +kernel
theorem dX8_partOne_53 : decode cX8_partOne 53 = .ok (.getfield 7, 3) := by decide +kernel
theorem dX8_partOne_56 : decode cX8_partOne 56 = .ok (.iload_n 1, 1) := by decide +kernel
theorem dX8_partOne_57 : decode cX8_partOne 57 = .ok (.invokestatic 36, 3) := by decide +kernel
theorem dX8_partOne_60 : decode cX8_partOne 60 = .ok (.iconst 2, 1) := by decide +kernel
theorem dX8_partOne_61 : decode cX8_partOne 61 = .ok (.iadd, 1) := by decide +kernel
theorem dX8_partOne_62 : decode cX8_partOne 62 = .ok (.iaload, 1) := by decide +kernel
theorem dX8_partOne_63 : decode cX8_partOne 63 = .ok (.iadd, 1) := by decide +kernel
theorem dX8_partOne_64 : decode cX8_partOne 64 = .ok (.iastore, 1) := by decide +kernel
theorem dX8_partOne_65 : decode cX8_partOne 65 = .ok (.aload_n 0, 1) := by decide +kernel
theorem dX8_partOne_66 : decode cX8_partOne 66 = .ok (.getfield 7, 3) := by decide +kernel
theorem dX8_partOne_69 : decode cX8_partOne 69 = .ok (.iload_n 1, 1) := by decide +kernel
theorem dX8_partOne_70 : decode cX8_partOne 70 = .ok (.invokestatic 36, 3) := by decide +kernel
theorem dX8_partOne_73 : decode cX8_partOne 73 = .ok (.iconst 4, 1) := by decide +kernel
theorem dX8_partOne_74 : decode cX8_partOne 74 = .ok (.iadd, 1) := by decide +kernel
theorem dX8_partOne_75 : decode cX8_partOne 75 = .ok (.dup2, 1) := by decide +kernel
theorem dX8_partOne_76 : decode cX8_partOne 76 = .ok (.iaload, 1) := by decide +kernel
theorem dX8_partOne_77 : decode cX8_partOne 77 = .ok (.iconst 1, 1) := by decide +kernel
theorem dX8_partOne_78 : decode cX8_partOne 78 = .ok (.iadd, 1) := by decide +kernel
theorem dX8_partOne_79 : decode cX8_partOne 79 = .ok (.iastore, 1) := by decide +kernel
theorem dX8_partOne_80 : decode cX8_partOne 80 = .ok (.return_, 1) := by decide +kernel
theorem dX8_partTwo_0 : decode cX8_partTwo 0 = .ok (.aload_n 0, 1) := by decide +kernel
theorem dX8_partTwo_1 : decode cX8_partTwo 1 = .ok (.getfield 7, 3) := by decide +kernel
theorem dX8_partTwo_4 : decode cX8_partTwo 4 = .ok (.bipush 9, 2) := by decide +kernel
theorem dX8_partTwo_6 : decode cX8_partTwo 6 = .ok (.iaload, 1) := by decide +kernel
theorem dX8_partTwo_7 : decode cX8_partTwo 7 = .ok (.aload_n 0, 1) := by decide +kernel
theorem dX8_partTwo_8 : decode cX8_partTwo 8 = .ok (.getfield 7, 3) := by decide +kernel
theorem dX8_partTwo_11 : decode cX8_partTwo 11 = .ok (.bipush 62, 2) := by decide +kernel
theorem dX8_partTwo_13 : decode cX8_partTwo 13 = .ok (.iaload, 1) := by decide +kernel
theorem dX8_partTwo_14 : decode cX8_partTwo 14 = .ok (.if_icmp .gt 82, 3) := by decide +kernel
theorem dX8_partTwo_17 : decode cX8_partTwo 17 = .ok (.aload_n 0, 1) := by decide +kernel
theorem dX8_partTwo_18 : decode cX8_partTwo 18 = .ok (.getfield 7, 3) := by decide +kernel
theorem dX8_partTwo_21 : decode cX8_partTwo 21 = .ok (.bipush 9, 2) := by decide +kernel
theorem dX8_partTwo_23 : decode cX8_partTwo 23 = .ok (.iaload, 1) := by decide +kernel
theorem dX8_partTwo_24 : decode cX8_partTwo 24 = .ok (.aload_n 0, 1) := by decide +kernel
theorem dX8_partTwo_25 : decode cX8_partTwo 25 = .ok (.getfield 7, 3) := by decide +kernel
theorem dX8_partTwo_28 : decode cX8_partTwo 28 = .ok (.bipush 61, 2) := by decide +kernel
theorem dX8_partTwo_30 : decode cX8_partTwo 30 = .ok (.iaload, 1) := by decide +kernel
theorem dX8_partTwo_31 : decode cX8_partTwo 31 = .ok (.if_icmp .ge 65, 3) := by decide +kernel
theorem dX8_partTwo_34 : decode cX8_partTwo 34 = .ok (.aload_n 0, 1) := by decide +kernel
theorem dX8_partTwo_35 : decode cX8_partTwo 35 = .ok (.getfield 7, 3) := by decide +kernel
theorem dX8_partTwo_38 : decode cX8_partTwo 38 = .ok (.iconst 0, 1) := by decide +kernel
theorem dX8_partTwo_39 : decode cX8_partTwo 39 = .ok (.iaload, 1) := by decide +kernel
theorem dX8_partTwo_40 : decode cX8_partTwo 40 = .ok (.ifCond .eq 56, 3) := by decide +kernel
theorem dX8_partTwo_43 : decode cX8_partTwo 43 = .ok (.aload_n 0, 1) := by decide +kernel
theorem dX8_partTwo_44 : decode cX8_partTwo 44 = .ok (.getfield 7, 3) := by decide +kernel
theorem dX8_partTwo_47 : decode cX8_partTwo 47 = .ok (.bipush 61, 2) := by decide +kernel
theorem dX8_partTwo_49 : decode cX8_partTwo 49 = .ok (.iaload, 1) := by decide +kernel
theorem dX8_partTwo_50 : decode cX8_partTwo 50 = .ok (.aload_n 0, 1) := by decide +kernel
theorem dX8_partTwo_51 : decode cX8_partTwo 51 = .ok (.getfield 7, 3) := by decide +kernel
theorem dX8_partTwo_54 : decode cX8_partTwo 54 = .ok (.bipush 9, 2) := by decide +kernel
theorem dX8_partTwo_56 : decode cX8_partTwo 56 = .ok (.iaload, 1) := by decide +kernel
theorem dX8_partTwo_57 : decode cX8_partTwo 57 = .ok (.isub, 1) := by decide +kernel
theorem dX8_partTwo_58 : decode cX8_partTwo 58 = .ok (.aload_n 0, 1) := by decide +kernel
theorem dX8_partTwo_59 : decode cX8_partTwo 59 = .ok (.getfield 7, 3) := by decide +kernel
theorem dX8_partTwo_62 : decode cX8_partTwo 62 = .ok (.iconst 0, 1) := by decide +kernel
theorem dX8_partTwo_63 : decode cX8_partTwo 63 = .ok (.iaload, 1) := by decide +kernel
theorem dX8_partTwo_64 : decode cX8_partTwo 64 = .ok (.invokestatic 46, 3) := by decide +kernel
theorem dX8_partTwo_67 : decode cX8_partTwo 67 = .ok (.istore_n 1, 1) := by decide +kernel
theorem dX8_partTwo_68 : decode cX8_partTwo 68 = .ok (.aload_n 0, 1) := by decide +kernel
theorem dX8_partTwo_69 : decode cX8_partTwo 69 = .ok (.iconst 0, 1) := by decide +kernel
theorem dX8_partTwo_70 : decode cX8_partTwo 70 = .ok (.iload_n 1, 1) := by decide +kernel
theorem dX8_partTwo_71 : decode cX8_partTwo 71 = .ok (.invokevirtual 57, 3) := by decide +kernel
theorem dX8_partTwo_74 : decode cX8_partTwo 74 = .ok (.aload_n 0, 1) := by decide +kernel
theorem dX8_partTwo_75 : decode cX8_partTwo 75 = .ok (.getfield 7, 3) := by decide +kernel
theorem dX8_partTwo_78 : decode cX8_partTwo 78 = .ok (.bipush 9, 2) := by decide +kernel
theorem dX8_partTwo_80 : decode cX8_partTwo 80 = .ok (.dup2, 1) := by decide +kernel
theorem dX8_partTwo_81 : decode cX8_partTwo 81 = .ok (.iaload, 1) := by decide +kernel
theorem dX8_partTwo_82 : decode cX8_partTwo 82 = .ok (.iload_n 1, 1) := by decide +kernel
theorem dX8_partTwo_83 : decode cX8_partTwo 83 = .ok (.iadd, 1) := by decide +kernel
theorem dX8_partTwo_84 : decode cX8_partTwo 84 = .ok (.iastore, 1) := by decide +kernel
theorem dX8_partTwo_85 : decode cX8_partTwo 85 = .ok (.aload_n 0, 1) := by decide +kernel
theorem dX8_partTwo_86 : decode cX8_partTwo 86 = .ok (.getfield 7, 3) := by decide +kernel
theorem dX8_partTwo_89 : decode cX8_partTwo 89 = .ok (.bipush 20, 2) := by decide +kernel
theorem dX8_partTwo_91 : decode cX8_partTwo 91 = .ok (.dup2, 1) := by decide +kernel
theorem dX8_partTwo_92 : decode cX8_partTwo 92 = .ok (.iaload, 1) := by decide +kernel
theorem dX8_partTwo_93 : decode cX8_partTwo 93 = .ok (.iconst 1, 1) := by decide +kernel
theorem dX8_partTwo_94 : decode cX8_partTwo 94 = .ok (.iadd, 1) := by decide +kernel
theorem dX8_partTwo_95 : decode cX8_partTwo 95 = .ok (.iastore, 1) := by decide +kernel
theorem dX8_partTwo_96 : decode cX8_partTwo 96 = .ok (.return_, 1) := by decide +kernel
theorem dX8_partThree_0 : decode cX8_partThree 0 = .ok (.aload_n 0, 1) := by decide +kernel
theorem dX8_partThree_1 : decode cX8_partThree 1 = .ok (.getfield 7, 3) := by decide +kernel
theorem dX8_partThree_4 : decode cX8_partThree 4 = .ok (.bipush 9, 2) := by decide +kernel
theorem dX8_partThree_6 : decode cX8_partThree 6 = .ok (.iaload, 1) := by decide +kernel
theorem dX8_partThree_7 : decode cX8_partThree 7 = .ok (.ifCond .ne 16, 3) := by decide +kernel
theorem dX8_partThree_10 : decode cX8_partThree 10 = .ok (.aload_n 0, 1) := by decide +kernel
theorem dX8_partThree_11 : decode cX8_partThree 11 = .ok (.getfield 7, 3) := by decide +kernel
theorem dX8_partThree_14 : decode cX8_partThree 14 = .ok (.bipush 19, 2) := by decide +kernel
theorem dX8_partThree_16 : decode cX8_partThree 16 = .ok (.dup2, 1) := by decide +kernel
theorem dX8_partThree_17 : decode cX8_partThree 17 = .ok (.iaload, 1) := by decide +kernel
theorem dX8_partThree_18 : decode cX8_partThree 18 = .ok (.iconst 1, 1) := by decide +kernel
theorem dX8_partThree_19 : decode cX8_partThree 19 = .ok (.iadd, 1) := by decide +kernel
theorem dX8_partThree_20 : decode cX8_partThree 20 = .ok (.iastore, 1) := by decide +kernel
theorem dX8_partThree_21 : decode cX8_partThree 21 = .ok (.iconst 1, 1) := by decide +kernel
theorem dX8_partThree_22 : decode cX8_partThree 22 = .ok (.ireturn, 1) := by decide +kernel
theorem dX8_partThree_23 : decode cX8_partThree 23 = .ok (.aload_n 0, 1) := by decide +kernel
theorem dX8_partThree_24 : decode cX8_partThree 24 = .ok (.getfield 7, 3) := by decide +kernel
theorem dX8_partThree_27 : decode cX8_partThree 27 = .ok (.bipush 9, 2) := by decide +kernel
theorem dX8_partThree_29 : decode cX8_partThree 29 = .ok (.dup2, 1) := by decide +kernel
theorem dX8_partThree_30 : decode cX8_partThree 30 = .ok (.iaload, 1) := by decide +kernel
theorem dX8_partThree_31 : decode cX8_partThree 31 = .ok (.iconst 1, 1) := by decide +kernel
theorem dX8_partThree_32 : decode cX8_partThree 32 = .ok (.isub, 1) := by decide +kernel
theorem dX8_partThree_33 : decode cX8_partThree 33 = .ok (.iastore, 1) := by decide +kernel
theorem dX8_partThree_34 : decode cX8_partThree 34 = .ok (.aload_n 0, 1) := by decide +kernel
theorem dX8_partThree_35 : decode cX8_partThree 35 = .ok (.getfield 7, 3) := by decide +kernel
theorem dX8_partThree_38 : decode cX8_partThree 38 = .ok (.bipush 11, 2) := by decide +kernel
theorem dX8_partThree_40 : decode cX8_partThree 40 = .ok (.iaload, 1) := by decide +kernel
theorem dX8_partThree_41 : decode cX8_partThree 41 = .ok (.aload_n 0, 1) := by decide +kernel
theorem dX8_partThree_42 : decode cX8_partThree 42 = .ok (.getfield 7, 3) := by decide +kernel
theorem dX8_partThree_45 : decode cX8_partThree 45 = .ok (.bipush 63, 2) := by decide +kernel
theorem dX8_partThree_47 : decode cX8_partThree 47 = .ok (.iaload, 1) := by decide +kernel
theorem dX8_partThree_48 : decode cX8_partThree 48 = .ok (.aload_n 0, 1) := by decide +kernel
theorem dX8_partThree_49 : decode cX8_partThree 49 = .ok (.getfield 7, 3) := by decide +kernel
theorem dX8_partThree_52 : decode cX8_partThree 52 = .ok (.bipush 12, 2) := by decide +kernel
theorem dX8_partThree_54 : decode cX8_partThree 54 = .ok (.iaload, 1) := by decide +kernel
theorem dX8_partThree_55 : decode cX8_partThree 55 = .ok (.isub, 1) := by decide +kernel
theorem dX8_partThree_56 : decode cX8_partThree 56 = .ok (.if_icmp .le 55, 3) := by decide +kernel
theorem dX8_partThree_59 : decode cX8_partThree 59 = .ok (.aload_n 0, 1) := by decide +kernel
theorem dX8_partThree_60 : decode cX8_partThree 60 = .ok (.getfield 7, 3) := by decide +kernel
theorem dX8_partThree_63 : decode cX8_partThree 63 = .ok (.bipush 18, 2) := by decide +kernel
theorem dX8_partThree_65 : decode cX8_partThree 65 = .ok (.dup2, 1) := by decide +kernel
theorem dX8_partThree_66 : decode cX8_partThree 66 = .ok (.iaload, 1) := by decide +kernel
theorem dX8_partThree_67 : decode cX8_partThree 67 = .ok (.iconst 1, 1) := by decide +kernel
theorem dX8_partThree_68 : decode cX8_partThree 68 = .ok (.iadd, 1) := by decide +kernel
theorem dX8_partThree_69 : decode cX8_partThree 69 = .ok (.iastore, 1) := by decide +kernel
theorem dX8_partThree_70 : decode cX8_partThree 70 = .ok (.aload_n 0, 1) := by decide +kernel
theorem dX8_partThree_71 : decode cX8_partThree 71 = .ok (.getfield 7, 3) := by decide +kernel
theorem dX8_partThree_74 : decode cX8_partThree 74 = .ok (.bipush 12, 2) := by decide +kernel
theorem dX8_partThree_76 : decode cX8_partThree 76 = .ok (.dup2, 1) := by decide +kernel
theorem dX8_partThree_77 : decode cX8_partThree 77 = .ok (.iaload, 1) := by decide +kernel
theorem dX8_partThree_78 : decode cX8_partThree 78 = .ok (.aload_n 0, 1) := by decide +kernel
theorem dX8_partThree_79 : decode cX8_partThree 79 = .ok (.getfield 7, 3) := by decide +kernel
theorem dX8_partThree_82 : decode cX8_partThree 82 = .ok (.bipush 18, 2) := by decide +kernel
theorem dX8_partThree_84 : decode cX8_partThree 84 = .ok (.iaload, 1) := by decide +kernel
theorem dX8_partThree_85 : decode cX8_partThree 85 = .ok (.iconst 5, 1) := by decide +kernel
theorem dX8_partThree_86 : decode cX8_partThree 86 = .ok (.irem, 1) := by decide +kernel
theorem dX8_partThree_87 : decode cX8_partThree 87 = .ok (.ifCond .ne 19, 3) := by decide +kernel
theorem dX8_partThree_90 : decode cX8_partThree 90 = .ok (.aload_n 0, 1) := by decide +kernel
theorem dX8_partThree_91 : decode cX8_partThree 91 = .ok (.getfield 7, 3) := by decide +kernel
theorem dX8_partThree_94 : decode cX8_partThree 94 = .ok (.bipush 12, 2) := by decide +kernel
theorem dX8_partThree_96 : decode cX8_partThree 96 = .ok (.iaload, 1) := by decide +kernel
theorem dX8_partThree_97 : decode cX8_partThree 97 = .ok (.bipush 20, 2) := by decide +kernel
theorem dX8_partThree_99 : decode cX8_partThree 99 = .ok (.if_icmp .ge 7, 3) := by decide +kernel
theorem dX8_partThree_102 : decode cX8_partThree 102 = .ok (.iconst 1, 1) := by decide +kernel
theorem dX8_partThree_103 : decode cX8_partThree 103 = .ok (.goto 4, 3) := by decide +kernel
theorem dX8_partThree_106 : decode cX8_partThree 106 = .ok (.iconst 0, 1) := by decide +kernel
theorem dX8_partThree_107 : decode cX8_partThree 107 = .ok (.iadd, 1) := by decide +kernel
theorem dX8_partThree_108 : decode cX8_partThree 108 = .ok (.iastore, 1) := by decide +kernel
theorem dX8_partThree_109 : decode cX8_partThree 109 = .ok (.iconst 2, 1) := by decide +kernel
theorem dX8_partThree_110 : decode cX8_partThree 110 = .ok (.ireturn, 1) := by decide +kernel
theorem dX8_partThree_111 : decode cX8_partThree 111 = .ok (.aload_n 0, 1) := by decide +kernel
theorem dX8_partThree_112 : decode cX8_partThree 112 = .ok (.getfield 7, 3) := by decide +kernel
theorem dX8_partThree_115 : decode cX8_partThree 115 = .ok (.bipush 10, 2) := by decide +kernel
theorem dX8_partThree_117 : decode cX8_partThree 117 = .ok (.aload_n 0, 1) := by decide +kernel
theorem dX8_partThree_118 : decode cX8_partThree 118 = .ok (.getfield 7, 3) := by decide +kernel
theorem dX8_partThree_121 : decode cX8_partThree 121 = .ok (.bipush 10, 2) := by decide +kernel
theorem dX8_partThree_123 : decode cX8_partThree 123 = .ok (.iaload, 1) := by decide +kernel
theorem dX8_partThree_124 : decode cX8_partThree 124 = .ok (.iconst 1, 1) := by decide +kernel
theorem dX8_partThree_125 : decode cX8_partThree 125 = .ok (.iadd, 1) := by decide +kernel
theorem dX8_partThree_126 : decode cX8_partThree 126 = .ok (.sipush 720, 3) := by decide +kernel
theorem dX8_partThree_129 : decode cX8_partThree 129 = .ok (.irem, 1) := by decide +kernel
theorem dX8_partThree_130 : decode cX8_partThree 130 = .ok (.iastore, 1) := by decide +kernel
theorem dX8_partThree_131 : decode cX8_partThree 131 = .ok (.iconst 0, 1) := by decide +kernel
theorem dX8_partThree_132 : decode cX8_partThree 132 = .ok (.ireturn, 1) := by decide +kernel
theorem dX8_partFour_0 : decode cX8_partFour 0 = .ok (.aload_n 0, 1) := by decide +kernel
theorem dX8_partFour_1 : decode cX8_partFour 1 = .ok (.getfield 7, 3) := by decide +kernel
theorem dX8_partFour_4 : decode cX8_partFour 4 = .ok (.bipush 10, 2) := by decide +kernel
theorem dX8_partFour_6 : decode cX8_partFour 6 = .ok (.iaload, 1) := by decide +kernel
theorem dX8_partFour_7 : decode cX8_partFour 7 = .ok (.bipush 60, 2) := by decide +kernel
theorem dX8_partFour_9 : decode cX8_partFour 9 = .ok (.irem, 1) := by decide +kernel
theorem dX8_partFour_10 : decode cX8_partFour 10 = .ok (.bipush 15, 2) := by decide +kernel
theorem dX8_partFour_12 : decode cX8_partFour 12 = .ok (.idiv, 1) := by decide +kernel
theorem dX8_partFour_13 : decode cX8_partFour 13 = .ok (.istore_n 1, 1) := by decide +kernel
theorem dX8_partFour_14 : decode cX8_partFour 14 = .ok (.iload_n 1, 1) := by decide +kernel
theorem dX8_partFour_15 : decode cX8_partFour 15 = .ok (.ifCond .ne 7, 3) := by decide +kernel
theorem dX8_partFour_18 : decode cX8_partFour 18 = .ok (.iconst 4, 1) := by decide +kernel
theorem dX8_partFour_19 : decode cX8_partFour 19 = .ok (.goto 4, 3) := by decide +kernel
theorem dX8_partFour_22 : decode cX8_partFour 22 = .ok (.iload_n 1, 1) := by decide +kernel
theorem dX8_partFour_23 : decode cX8_partFour 23 = .ok (.istore_n 2, 1) := by decide +kernel
theorem dX8_partFour_24 : decode cX8_partFour 24 = .ok (.iconst 0, 1) := by decide +kernel
theorem dX8_partFour_25 : decode cX8_partFour 25 = .ok (.istore_n 3, 1) := by decide +kernel
theorem dX8_partFour_26 : decode cX8_partFour 26 = .ok (.iload_n 3, 1) := by decide +kernel
theorem dX8_partFour_27 : decode cX8_partFour 27 = .ok (.iload_n 2, 1) := by decide +kernel
theorem dX8_partFour_28 : decode cX8_partFour 28 = .ok (.if_icmp .ge 70, 3) := by decide +kernel
theorem dX8_partFour_31 : decode cX8_partFour 31 = .ok (.aload_n 0, 1) := by decide +kernel
theorem dX8_partFour_32 : decode cX8_partFour 32 = .ok (.getfield 7, 3) := by decide +kernel
theorem dX8_partFour_35 : decode cX8_partFour 35 = .ok (.bipush 10, 2) := by decide +kernel
theorem dX8_partFour_37 : decode cX8_partFour 37 = .ok (.iaload, 1) := by decide +kernel
theorem dX8_partFour_38 : decode cX8_partFour 38 = .ok (.bipush 15, 2) := by decide +kernel
theorem dX8_partFour_40 : decode cX8_partFour 40 = .ok (.irem, 1) := by decide +kernel
theorem dX8_partFour_41 : decode cX8_partFour 41 = .ok (.ifCond .ne 57, 3) := by decide +kernel
theorem dX8_partFour_44 : decode cX8_partFour 44 = .ok (.aload_n 0, 1) := by decide +kernel
theorem dX8_partFour_45 : decode cX8_partFour 45 = .ok (.invokevirtual 61, 3) := by decide +kernel
theorem dX8_partFour_48 : decode cX8_partFour 48 = .ok (.ifCond .ne 50, 3) := by decide +kernel
theorem dX8_partFour_51 : decode cX8_partFour 51 = .ok (.aload_n 0, 1) := by decide +kernel
theorem dX8_partFour_52 : decode cX8_partFour 52 = .ok (.getfield 7, 3) := by decide +kernel
theorem dX8_partFour_55 : decode cX8_partFour 55 = .ok (.iconst 2, 1) := by decide +kernel
theorem dX8_partFour_56 : decode cX8_partFour 56 = .ok (.iaload, 1) := by decide +kernel
theorem dX8_partFour_57 : decode cX8_partFour 57 = .ok (.iconst 2, 1) := by decide +kernel
theorem dX8_partFour_58 : decode cX8_partFour 58 = .ok (.if_icmp .ge 17, 3) := by decide +kernel
theorem dX8_partFour_61 : decode cX8_partFour 61 = .ok (.aload_n 0, 1) := by decide +kernel
theorem dX8_partFour_62 : decode cX8_partFour 62 = .ok (.getfield 7, 3) := by decide +kernel
theorem dX8_partFour_65 : decode cX8_partFour 65 = .ok (.bipush 17, 2) := by decide +kernel
theorem dX8_partFour_67 : decode cX8_partFour 67 = .ok (.dup2, 1) := by decide +kernel
theorem dX8_partFour_68 : decode cX8_partFour 68 = .ok (.iaload, 1) := by decide +kernel
theorem dX8_partFour_69 : decode cX8_partFour 69 = .ok (.iload_n 2, 1) := by decide +kernel
theorem dX8_partFour_70 : decode cX8_partFour 70 = .ok (.iload_n 3, 1) := by decide +kernel
theorem dX8_partFour_71 : decode cX8_partFour 71 = .ok (.isub, 1) := by decide +kernel
theorem dX8_partFour_72 : decode cX8_partFour 72 = .ok (.iadd, 1) := by decide +kernel
theorem dX8_partFour_73 : decode cX8_partFour 73 = .ok (.iastore, 1) := by decide +kernel
theorem dX8_partFour_74 : decode cX8_partFour 74 = .ok (.return_, 1) := by decide +kernel
theorem dX8_partFour_75 : decode cX8_partFour 75 = .ok (.aload_n 0, 1) := by decide +kernel
theorem dX8_partFour_76 : decode cX8_partFour 76 = .ok (.iconst 2, 1) := by decide +kernel
theorem dX8_partFour_77 : decode cX8_partFour 77 = .ok (.iconst 2, 1) := by decide +kernel
theorem dX8_partFour_78 : decode cX8_partFour 78 = .ok (.invokevirtual 57, 3) := by decide +kernel
theorem dX8_partFour_81 : decode cX8_partFour 81 = .ok (.aload_n 0, 1) := by decide +kernel
theorem dX8_partFour_82 : decode cX8_partFour 82 = .ok (.getfield 7, 3) := by decide +kernel
theorem dX8_partFour_85 : decode cX8_partFour 85 = .ok (.bipush 16, 2) := by decide +kernel
theorem dX8_partFour_87 : decode cX8_partFour 87 = .ok (.dup2, 1) := by decide +kernel
theorem dX8_partFour_88 : decode cX8_partFour 88 = .ok (.iaload, 1) := by decide +kernel
theorem dX8_partFour_89 : decode cX8_partFour 89 = .ok (.iconst 1, 1) := by decide +kernel
theorem dX8_partFour_90 : decode cX8_partFour 90 = .ok (.iadd, 1) := by decide +kernel
theorem dX8_partFour_91 : decode cX8_partFour 91 = .ok (.iastore, 1) := by decide +kernel
theorem dX8_partFour_92 : decode cX8_partFour 92 = .ok (.iinc 3 1, 3) := by decide +kernel
theorem dX8_partFour_95 : decode cX8_partFour 95 = .ok (.goto (-69), 3) := by decide +kernel
theorem dX8_partFour_98 : decode cX8_partFour 98 = .ok (.return_, 1) := by decide +kernel
theorem dX8_dropDebt_0 : decode cX8_dropDebt 0 = .ok (.aload_n 0, 1) := by decide +kernel
theorem dX8_dropDebt_1 : decode cX8_dropDebt 1 = .ok (.getfield 7, 3) := by decide +kernel
theorem dX8_dropDebt_4 : decode cX8_dropDebt 4 = .ok (.bipush 52, 2) := by decide +kernel
theorem dX8_dropDebt_6 : decode cX8_dropDebt 6 = .ok (.dup2, 1) := by decide +kernel
theorem dX8_dropDebt_7 : decode cX8_dropDebt 7 = .ok (.iaload, 1) := by decide +kernel
theorem dX8_dropDebt_8 : decode cX8_dropDebt 8 = .ok (.iconst 1, 1) := by decide +kernel
theorem dX8_dropDebt_9 : decode cX8_dropDebt 9 = .ok (.isub, 1) := by decide +kernel
theorem dX8_dropDebt_10 : decode cX8_dropDebt 10 = .ok (.iastore, 1) := by decide +kernel
theorem dX8_dropDebt_11 : decode cX8_dropDebt 11 = .ok (.iconst 0, 1) := by decide +kernel
theorem dX8_dropDebt_12 : decode cX8_dropDebt 12 = .ok (.istore_n 1, 1) := by decide +kernel
theorem dX8_dropDebt_13 : decode cX8_dropDebt 13 = .ok (.iload_n 1, 1) := by decide +kernel
theorem dX8_dropDebt_14 : decode cX8_dropDebt 14 = .ok (.iconst 2, 1) := by decide +kernel
theorem dX8_dropDebt_15 : decode cX8_dropDebt 15 = .ok (.aload_n 0, 1) := by decide +kernel
theorem dX8_dropDebt_16 : decode cX8_dropDebt 16 = .ok (.getfield 7, 3) := by decide +kernel
theorem dX8_dropDebt_19 : decode cX8_dropDebt 19 = .ok (.bipush 52, 2) := by decide +kernel
theorem dX8_dropDebt_21 : decode cX8_dropDebt 21 = .ok (.iaload, 1) := by decide +kernel
theorem dX8_dropDebt_22 : decode cX8_dropDebt 22 = .ok (.imul, 1) := by decide +kernel
theorem dX8_dropDebt_23 : decode cX8_dropDebt 23 = .ok (.if_icmp .ge 27, 3) := by decide +kernel
theorem dX8_dropDebt_26 : decode cX8_dropDebt 26 = .ok (.aload_n 0, 1) := by decide +kernel
theorem dX8_dropDebt_27 : decode cX8_dropDebt 27 = .ok (.getfield 7, 3) := by decide +kernel
theorem dX8_dropDebt_30 : decode cX8_dropDebt 30 = .ok (.bipush 53, 2) := by decide +kernel
theorem dX8_dropDebt_32 : decode cX8_dropDebt 32 = .ok (.iload_n 1, 1) := by decide +kernel
theorem dX8_dropDebt_33 : decode cX8_dropDebt 33 = .ok (.iadd, 1) := by decide +kernel
theorem dX8_dropDebt_34 : decode cX8_dropDebt 34 = .ok (.aload_n 0, 1) := by decide +kernel
theorem dX8_dropDebt_35 : decode cX8_dropDebt 35 = .ok (.getfield 7, 3) := by decide +kernel
theorem dX8_dropDebt_38 : decode cX8_dropDebt 38 = .ok (.bipush 55, 2) := by decide +kernel
theorem dX8_dropDebt_40 : decode cX8_dropDebt 40 = .ok (.iload_n 1, 1) := by decide +kernel
theorem dX8_dropDebt_41 : decode cX8_dropDebt 41 = .ok (.iadd, 1) := by decide +kernel
theorem dX8_dropDebt_42 : decode cX8_dropDebt 42 = .ok (.iaload, 1) := by decide +kernel
theorem dX8_dropDebt_43 : decode cX8_dropDebt 43 = .ok (.iastore, 1) := by decide +kernel
theorem dX8_dropDebt_44 : decode cX8_dropDebt 44 = .ok (.iinc 1 1, 3) := by decide +kernel
theorem dX8_dropDebt_47 : decode cX8_dropDebt 47 = .ok (.goto (-34), 3) := by decide +kernel
theorem dX8_dropDebt_50 : decode cX8_dropDebt 50 = .ok (.return_, 1) := by decide +kernel
theorem dX8_partFive_0 : decode cX8_partFive 0 = .ok (.aload_n 0, 1) := by decide +kernel
theorem dX8_partFive_1 : decode cX8_partFive 1 = .ok (.getfield 7, 3) := by decide +kernel
theorem dX8_partFive_4 : decode cX8_partFive 4 = .ok (.bipush 10, 2) := by decide +kernel
theorem dX8_partFive_6 : decode cX8_partFive 6 = .ok (.iaload, 1) := by decide +kernel
theorem dX8_partFive_7 : decode cX8_partFive 7 = .ok (.invokestatic 32, 3) := by decide +kernel
theorem dX8_partFive_10 : decode cX8_partFive 10 = .ok (.istore_n 1, 1) := by decide +kernel
theorem dX8_partFive_11 : decode cX8_partFive 11 = .ok (.aload_n 0, 1) := by decide +kernel
theorem dX8_partFive_12 : decode cX8_partFive 12 = .ok (.getfield 7, 3) := by decide +kernel
theorem dX8_partFive_15 : decode cX8_partFive 15 = .ok (.bipush 10, 2) := by decide +kernel
theorem dX8_partFive_17 : decode cX8_partFive 17 = .ok (.iaload, 1) := by decide +kernel
theorem dX8_partFive_18 : decode cX8_partFive 18 = .ok (.bipush 60, 2) := by decide +kernel
theorem dX8_partFive_20 : decode cX8_partFive 20 = .ok (.irem, 1) := by decide +kernel
theorem dX8_partFive_21 : decode cX8_partFive 21 = .ok (.ifCond .eq 4, 3) := by decide +kernel
theorem dX8_partFive_24 : decode cX8_partFive 24 = .ok (.return_, 1) := by decide +kernel
theorem dX8_partFive_25 : decode cX8_partFive 25 = .ok (.aload_n 0, 1) := by decide +kernel
theorem dX8_partFive_26 : decode cX8_partFive 26 = .ok (.invokevirtual 61, 3) := by decide +kernel
theorem dX8_partFive_29 : decode cX8_partFive 29 = .ok (.ifCond .eq 15, 3) := by decide +kernel
theorem dX8_partFive_32 : decode cX8_partFive 32 = .ok (.aload_n 0, 1) := by decide +kernel
theorem dX8_partFive_33 : decode cX8_partFive 33 = .ok (.getfield 7, 3) := by decide +kernel
theorem dX8_partFive_36 : decode cX8_partFive 36 = .ok (.bipush 15, 2) := by decide +kernel
theorem dX8_partFive_38 : decode cX8_partFive 38 = .ok (.dup2, 1) := by decide +kernel
theorem dX8_partFive_39 : decode cX8_partFive 39 = .ok (.iaload, 1) := by decide +kernel
theorem dX8_partFive_40 : decode cX8_partFive 40 = .ok (.iload_n 1, 1) := by decide +kernel
theorem dX8_partFive_41 : decode cX8_partFive 41 = .ok (.iadd, 1) := by decide +kernel
theorem dX8_partFive_42 : decode cX8_partFive 42 = .ok (.iastore, 1) := by decide +kernel
theorem dX8_partFive_43 : decode cX8_partFive 43 = .ok (.return_, 1) := by decide +kernel
theorem dX8_partFive_44 : decode cX8_partFive 44 = .ok (.aload_n 0, 1) := by decide +kernel
theorem dX8_partFive_45 : decode cX8_partFive 45 = .ok (.getfield 7, 3) := by decide +kernel
theorem dX8_partFive_48 : decode cX8_partFive 48 = .ok (.bipush 52, 2) := by decide +kernel
theorem dX8_partFive_50 : decode cX8_partFive 50 = .ok (.iaload, 1) := by decide +kernel
theorem dX8_partFive_51 : decode cX8_partFive 51 = .ok (.iconst 4, 1) := by decide +kernel
theorem dX8_partFive_52 : decode cX8_partFive 52 = .ok (.if_icmp .ne 24, 3) := by decide +kernel
theorem dX8_partFive_55 : decode cX8_partFive 55 = .ok (.aload_n 0, 1) := by decide +kernel
theorem dX8_partFive_56 : decode cX8_partFive 56 = .ok (.getfield 7, 3) := by decide +kernel
theorem dX8_partFive_59 : decode cX8_partFive 59 = .ok (.bipush 15, 2) := by decide +kernel
theorem dX8_partFive_61 : decode cX8_partFive 61 = .ok (.dup2, 1) := by decide +kernel
theorem dX8_partFive_62 : decode cX8_partFive 62 = .ok (.iaload, 1) := by decide +kernel
theorem dX8_partFive_63 : decode cX8_partFive 63 = .ok (.aload_n 0, 1) := by decide +kernel
theorem dX8_partFive_64 : decode cX8_partFive 64 = .ok (.getfield 7, 3) := by decide +kernel
theorem dX8_partFive_67 : decode cX8_partFive 67 = .ok (.bipush 54, 2) := by decide +kernel
theorem dX8_partFive_69 : decode cX8_partFive 69 = .ok (.iaload, 1) := by decide +kernel
theorem dX8_partFive_70 : decode cX8_partFive 70 = .ok (.iadd, 1) := by decide +kernel
theorem dX8_partFive_71 : decode cX8_partFive 71 = .ok (.iastore, 1) := by decide +kernel
theorem dX8_partFive_72 : decode cX8_partFive 72 = .ok (.aload_n 0, 1) := by decide +kernel
theorem dX8_partFive_73 : decode cX8_partFive 73 = .ok (.invokevirtual 65, 3) := by decide +kernel
theorem dX8_partFive_76 : decode cX8_partFive 76 = .ok (.aload_n 0, 1) := by decide +kernel
theorem dX8_partFive_77 : decode cX8_partFive 77 = .ok (.getfield 7, 3) := by decide +kernel
theorem dX8_partFive_80 : decode cX8_partFive 80 = .ok (.bipush 53, 2) := by decide +kernel
theorem dX8_partFive_82 : decode cX8_partFive 82 = .ok (.iconst 2, 1) := by decide +kernel
theorem dX8_partFive_83 : decode cX8_partFive 83 = .ok (.aload_n 0, 1) := by decide +kernel
theorem dX8_partFive_84 : decode cX8_partFive 84 = .ok (.getfield 7, 3) := by decide +kernel
theorem dX8_partFive_87 : decode cX8_partFive 87 = .ok (.bipush 52, 2) := by decide +kernel
theorem dX8_partFive_89 : decode cX8_partFive 89 = .ok (.iaload, 1) := by decide +kernel
theorem dX8_partFive_90 : decode cX8_partFive 90 = .ok (.imul, 1) := by decide +kernel
theorem dX8_partFive_91 : decode cX8_partFive 91 = .ok (.iadd, 1) := by decide +kernel
theorem dX8_partFive_92 : decode cX8_partFive 92 = .ok (.iload_n 1, 1) := by decide +kernel
theorem dX8_partFive_93 : decode cX8_partFive 93 = .ok (.iastore, 1) := by decide +kernel
theorem dX8_partFive_94 : decode cX8_partFive 94 = .ok (.aload_n 0, 1) := by decide +kernel
theorem dX8_partFive_95 : decode cX8_partFive 95 = .ok (.getfield 7, 3) := by decide +kernel
theorem dX8_partFive_98 : decode cX8_partFive 98 = .ok (.bipush 53, 2) := by decide +kernel
theorem dX8_partFive_100 : decode cX8_partFive 100 = .ok (.iconst 2, 1) := by decide +kernel
theorem dX8_partFive_101 : decode cX8_partFive 101 = .ok (.aload_n 0, 1) := by decide +kernel
theorem dX8_partFive_102 : decode cX8_partFive 102 = .ok (.getfield 7, 3) := by decide +kernel
theorem dX8_partFive_105 : decode cX8_partFive 105 = .ok (.bipush 52, 2) := by decide +kernel
theorem dX8_partFive_107 : decode cX8_partFive 107 = .ok (.iaload, 1) := by decide +kernel
theorem dX8_partFive_108 : decode cX8_partFive 108 = .ok (.imul, 1) := by decide +kernel
theorem dX8_partFive_109 : decode cX8_partFive 109 = .ok (.iadd, 1) := by decide +kernel
theorem dX8_partFive_110 : decode cX8_partFive 110 = .ok (.iconst 1, 1) := by decide +kernel
theorem dX8_partFive_111 : decode cX8_partFive 111 = .ok (.iadd, 1) := by decide +kernel
theorem dX8_partFive_112 : decode cX8_partFive 112 = .ok (.iload_n 1, 1) := by decide +kernel
theorem dX8_partFive_113 : decode cX8_partFive 113 = .ok (.iastore, 1) := by decide +kernel
theorem dX8_partFive_114 : decode cX8_partFive 114 = .ok (.aload_n 0, 1) := by decide +kernel
theorem dX8_partFive_115 : decode cX8_partFive 115 = .ok (.getfield 7, 3) := by decide +kernel
theorem dX8_partFive_118 : decode cX8_partFive 118 = .ok (.bipush 52, 2) := by decide +kernel
theorem dX8_partFive_120 : decode cX8_partFive 120 = .ok (.dup2, 1) := by decide +kernel
theorem dX8_partFive_121 : decode cX8_partFive 121 = .ok (.iaload, 1) := by decide +kernel
theorem dX8_partFive_122 : decode cX8_partFive 122 = .ok (.iconst 1, 1) := by decide +kernel
theorem dX8_partFive_123 : decode cX8_partFive 123 = .ok (.iadd, 1) := by decide +kernel
theorem dX8_partFive_124 : decode cX8_partFive 124 = .ok (.iastore, 1) := by decide +kernel
theorem dX8_partFive_125 : decode cX8_partFive 125 = .ok (.return_, 1) := by decide +kernel
theorem dX8_partSix_0 : decode cX8_partSix 0 = .ok (.aload_n 0, 1) := by decide +kernel
theorem dX8_partSix_1 : decode cX8_partSix 1 = .ok (.getfield 7, 3) := by decide +kernel
theorem dX8_partSix_4 : decode cX8_partSix 4 = .ok (.bipush 52, 2) := by decide +kernel
theorem dX8_partSix_6 : decode cX8_partSix 6 = .ok (.iaload, 1) := by decide +kernel
theorem dX8_partSix_7 : decode cX8_partSix 7 = .ok (.ifCond .eq 10, 3) := by decide +kernel
theorem dX8_partSix_10 : decode cX8_partSix 10 = .ok (.aload_n 0, 1) := by decide +kernel
theorem dX8_partSix_11 : decode cX8_partSix 11 = .ok (.invokevirtual 61, 3) := by decide +kernel
theorem dX8_partSix_14 : decode cX8_partSix 14 = .ok (.ifCond .eq 4, 3) := by decide +kernel
theorem dX8_partSix_17 : decode cX8_partSix 17 = .ok (.return_, 1) := by decide +kernel
theorem dX8_partSix_18 : decode cX8_partSix 18 = .ok (.aload_n 0, 1) := by decide +kernel
theorem dX8_partSix_19 : decode cX8_partSix 19 = .ok (.getfield 7, 3) := by decide +kernel
theorem dX8_partSix_22 : decode cX8_partSix 22 = .ok (.bipush 64, 2) := by decide +kernel
theorem dX8_partSix_24 : decode cX8_partSix 24 = .ok (.iaload, 1) := by decide +kernel
theorem dX8_partSix_25 : decode cX8_partSix 25 = .ok (.aload_n 0, 1) := by decide +kernel
theorem dX8_partSix_26 : decode cX8_partSix 26 = .ok (.getfield 7, 3) := by decide +kernel
theorem dX8_partSix_29 : decode cX8_partSix 29 = .ok (.bipush 54, 2) := by decide +kernel
theorem dX8_partSix_31 : decode cX8_partSix 31 = .ok (.iaload, 1) := by decide +kernel
theorem dX8_partSix_32 : decode cX8_partSix 32 = .ok (.aload_n 0, 1) := by decide +kernel
theorem dX8_partSix_33 : decode cX8_partSix 33 = .ok (.getfield 7, 3) := by decide +kernel
theorem dX8_partSix_36 : decode cX8_partSix 36 = .ok (.iconst 1, 1) := by decide +kernel
theorem dX8_partSix_37 : decode cX8_partSix 37 = .ok (.iaload, 1) := by decide +kernel
theorem dX8_partSix_38 : decode cX8_partSix 38 = .ok (.invokestatic 46, 3) := by decide +kernel
theorem dX8_partSix_41 : decode cX8_partSix 41 = .ok (.invokestatic 46, 3) := by decide +kernel
theorem dX8_partSix_44 : decode cX8_partSix 44 = .ok (.istore_n 1, 1) := by decide +kernel
theorem dX8_partSix_45 : decode cX8_partSix 45 = .ok (.aload_n 0, 1) := by decide +kernel
theorem dX8_partSix_46 : decode cX8_partSix 46 = .ok (.iconst 1, 1) := by decide +kernel
theorem dX8_partSix_47 : decode cX8_partSix 47 = .ok (.iload_n 1, 1) := by decide +kernel
theorem dX8_partSix_48 : decode cX8_partSix 48 = .ok (.invokevirtual 57, 3) := by decide +kernel
theorem dX8_partSix_51 : decode cX8_partSix 51 = .ok (.aload_n 0, 1) := by decide +kernel
theorem dX8_partSix_52 : decode cX8_partSix 52 = .ok (.getfield 7, 3) := by decide +kernel
theorem dX8_partSix_55 : decode cX8_partSix 55 = .ok (.bipush 54, 2) := by decide +kernel
theorem dX8_partSix_57 : decode cX8_partSix 57 = .ok (.dup2, 1) := by decide +kernel
theorem dX8_partSix_58 : decode cX8_partSix 58 = .ok (.iaload, 1) := by decide +kernel
theorem dX8_partSix_59 : decode cX8_partSix 59 = .ok (.iload_n 1, 1) := by decide +kernel
theorem dX8_partSix_60 : decode cX8_partSix 60 = .ok (.isub, 1) := by decide +kernel
theorem dX8_partSix_61 : decode cX8_partSix 61 = .ok (.iastore, 1) := by decide +kernel
theorem dX8_partSix_62 : decode cX8_partSix 62 = .ok (.aload_n 0, 1) := by decide +kernel
theorem dX8_partSix_63 : decode cX8_partSix 63 = .ok (.getfield 7, 3) := by decide +kernel
theorem dX8_partSix_66 : decode cX8_partSix 66 = .ok (.bipush 14, 2) := by decide +kernel
theorem dX8_partSix_68 : decode cX8_partSix 68 = .ok (.dup2, 1) := by decide +kernel
theorem dX8_partSix_69 : decode cX8_partSix 69 = .ok (.iaload, 1) := by decide +kernel
theorem dX8_partSix_70 : decode cX8_partSix 70 = .ok (.iload_n 1, 1) := by decide +kernel
theorem dX8_partSix_71 : decode cX8_partSix 71 = .ok (.iadd, 1) := by decide +kernel
theorem dX8_partSix_72 : decode cX8_partSix 72 = .ok (.iastore, 1) := by decide +kernel
theorem dX8_partSix_73 : decode cX8_partSix 73 = .ok (.aload_n 0, 1) := by decide +kernel
theorem dX8_partSix_74 : decode cX8_partSix 74 = .ok (.getfield 7, 3) := by decide +kernel
theorem dX8_partSix_77 : decode cX8_partSix 77 = .ok (.bipush 54, 2) := by decide +kernel
theorem dX8_partSix_79 : decode cX8_partSix 79 = .ok (.iaload, 1) := by decide +kernel
theorem dX8_partSix_80 : decode cX8_partSix 80 = .ok (.ifCond .ne 7, 3) := by decide +kernel
theorem dX8_partSix_83 : decode cX8_partSix 83 = .ok (.aload_n 0, 1) := by decide +kernel
theorem dX8_partSix_84 : decode cX8_partSix 84 = .ok (.invokevirtual 65, 3) := by decide +kernel
theorem dX8_partSix_87 : decode cX8_partSix 87 = .ok (.return_, 1) := by decide +kernel
theorem dX8_firstParts_0 : decode cX8_firstParts 0 = .ok (.aload_n 0, 1) := by decide +kernel
theorem dX8_firstParts_1 : decode cX8_firstParts 1 = .ok (.invokevirtual 68, 3) := by decide +kernel
theorem dX8_firstParts_4 : decode cX8_firstParts 4 = .ok (.aload_n 0, 1) := by decide +kernel
theorem dX8_firstParts_5 : decode cX8_firstParts 5 = .ok (.invokevirtual 71, 3) := by decide +kernel
theorem dX8_firstParts_8 : decode cX8_firstParts 8 = .ok (.aload_n 0, 1) := by decide +kernel
theorem dX8_firstParts_9 : decode cX8_firstParts 9 = .ok (.invokevirtual 74, 3) := by decide +kernel
theorem dX8_firstParts_12 : decode cX8_firstParts 12 = .ok (.istore_n 1, 1) := by decide +kernel
theorem dX8_firstParts_13 : decode cX8_firstParts 13 = .ok (.iload_n 1, 1) := by decide +kernel
theorem dX8_firstParts_14 : decode cX8_firstParts 14 = .ok (.ifCond .ne 11, 3) := by decide +kernel
theorem dX8_firstParts_17 : decode cX8_firstParts 17 = .ok (.aload_n 0, 1) := by decide +kernel
theorem dX8_firstParts_18 : decode cX8_firstParts 18 = .ok (.invokevirtual 77, 3) := by decide +kernel
theorem dX8_firstParts_21 : decode cX8_firstParts 21 = .ok (.aload_n 0, 1) := by decide +kernel
theorem dX8_firstParts_22 : decode cX8_firstParts 22 = .ok (.invokevirtual 80, 3) := by decide +kernel
theorem dX8_firstParts_25 : decode cX8_firstParts 25 = .ok (.iload_n 1, 1) := by decide +kernel
theorem dX8_firstParts_26 : decode cX8_firstParts 26 = .ok (.ireturn, 1) := by decide +kernel
theorem dX8_minute_0 : decode cX8_minute 0 = .ok (.aload_n 0, 1) := by decide +kernel
theorem dX8_minute_1 : decode cX8_minute 1 = .ok (.invokevirtual 83, 3) := by decide +kernel
theorem dX8_minute_4 : decode cX8_minute 4 = .ok (.istore_n 1, 1) := by decide +kernel
theorem dX8_minute_5 : decode cX8_minute 5 = .ok (.aload_n 0, 1) := by decide +kernel
theorem dX8_minute_6 : decode cX8_minute 6 = .ok (.invokevirtual 86, 3) := by decide +kernel
theorem dX8_minute_9 : decode cX8_minute 9 = .ok (.aload_n 0, 1) := by decide +kernel
theorem dX8_minute_10 : decode cX8_minute 10 = .ok (.getfield 7, 3) := by decide +kernel
theorem dX8_minute_13 : decode cX8_minute 13 = .ok (.bipush 13, 2) := by decide +kernel
theorem dX8_minute_15 : decode cX8_minute 15 = .ok (.dup2, 1) := by decide +kernel
theorem dX8_minute_16 : decode cX8_minute 16 = .ok (.iaload, 1) := by decide +kernel
theorem dX8_minute_17 : decode cX8_minute 17 = .ok (.iconst 1, 1) := by decide +kernel
theorem dX8_minute_18 : decode cX8_minute 18 = .ok (.iadd, 1) := by decide +kernel
theorem dX8_minute_19 : decode cX8_minute 19 = .ok (.iastore, 1) := by decide +kernel
theorem dX8_minute_20 : decode cX8_minute 20 = .ok (.iload_n 1, 1) := by decide +kernel
theorem dX8_minute_21 : decode cX8_minute 21 = .ok (.iconst 1, 1) := by decide +kernel
theorem dX8_minute_22 : decode cX8_minute 22 = .ok (.if_icmp .ne 7, 3) := by decide +kernel
theorem dX8_minute_25 : decode cX8_minute 25 = .ok (.iconst 1, 1) := by decide +kernel
theorem dX8_minute_26 : decode cX8_minute 26 = .ok (.goto 4, 3) := by decide +kernel
theorem dX8_minute_29 : decode cX8_minute 29 = .ok (.iconst 0, 1) := by decide +kernel
theorem dX8_minute_30 : decode cX8_minute 30 = .ok (.ireturn, 1) := by decide +kernel
theorem dX8_goOn_0 : decode cX8_goOn 0 = .ok (.iconst 0, 1) := by decide +kernel
theorem dX8_goOn_1 : decode cX8_goOn 1 = .ok (.istore_n 2, 1) := by decide +kernel
theorem dX8_goOn_2 : decode cX8_goOn 2 = .ok (.iload_n 2, 1) := by decide +kernel
theorem dX8_goOn_3 : decode cX8_goOn 3 = .ok (.iload_n 1, 1) := by decide +kernel
theorem dX8_goOn_4 : decode cX8_goOn 4 = .ok (.if_icmp .ge 14, 3) := by decide +kernel
theorem dX8_goOn_7 : decode cX8_goOn 7 = .ok (.aload_n 0, 1) := by decide +kernel
theorem dX8_goOn_8 : decode cX8_goOn 8 = .ok (.invokevirtual 89, 3) := by decide +kernel
theorem dX8_goOn_11 : decode cX8_goOn 11 = .ok (.istore_n 3, 1) := by decide +kernel
theorem dX8_goOn_12 : decode cX8_goOn 12 = .ok (.iinc 2 1, 3) := by decide +kernel
theorem dX8_goOn_15 : decode cX8_goOn 15 = .ok (.goto (-13), 3) := by decide +kernel
theorem dX8_goOn_18 : decode cX8_goOn 18 = .ok (.return_, 1) := by decide +kernel
theorem dX8_isWeight_0 : decode cX8_isWeight 0 = .ok (.iload_n 0, 1) := by decide +kernel
theorem dX8_isWeight_1 : decode cX8_isWeight 1 = .ok (.iconst 0, 1) := by decide +kernel
theorem dX8_isWeight_2 : decode cX8_isWeight 2 = .ok (.iconst 2, 1) := by decide +kernel
theorem dX8_isWeight_3 : decode cX8_isWeight 3 = .ok (.invokestatic 92, 3) := by decide +kernel
theorem dX8_isWeight_6 : decode cX8_isWeight 6 = .ok (.ireturn, 1) := by decide +kernel
theorem dX8_areTurns_0 : decode cX8_areTurns 0 = .ok (.iload_n 0, 1) := by decide +kernel
theorem dX8_areTurns_1 : decode cX8_areTurns 1 = .ok (.iconst 1, 1) := by decide +kernel
theorem dX8_areTurns_2 : decode cX8_areTurns 2 = .ok (.sipush 200, 3) := by decide +kernel
theorem dX8_areTurns_5 : decode cX8_areTurns 5 = .ok (.invokestatic 92, 3) := by decide +kernel
theorem dX8_areTurns_8 : decode cX8_areTurns 8 = .ok (.ireturn, 1) := by decide +kernel
theorem dX8_isPeriod_0 : decode cX8_isPeriod 0 = .ok (.iload_n 0, 1) := by decide +kernel
theorem dX8_isPeriod_1 : decode cX8_isPeriod 1 = .ok (.iconst 1, 1) := by decide +kernel
theorem dX8_isPeriod_2 : decode cX8_isPeriod 2 = .ok (.sipush 720, 3) := by decide +kernel
theorem dX8_isPeriod_5 : decode cX8_isPeriod 5 = .ok (.invokestatic 92, 3) := by decide +kernel
theorem dX8_isPeriod_8 : decode cX8_isPeriod 8 = .ok (.ireturn, 1) := by decide +kernel
theorem dX8_wind_0 : decode cX8_wind 0 = .ok (.aload_n 0, 1) := by decide +kernel
theorem dX8_wind_1 : decode cX8_wind 1 = .ok (.iload_n 1, 1) := by decide +kernel
theorem dX8_wind_2 : decode cX8_wind 2 = .ok (.invokestatic 96, 3) := by decide +kernel
theorem dX8_wind_5 : decode cX8_wind 5 = .ok (.ifCond .ne 7, 3) := by decide +kernel
theorem dX8_wind_8 : decode cX8_wind 8 = .ok (.iconst 1, 1) := by decide +kernel
theorem dX8_wind_9 : decode cX8_wind 9 = .ok (.goto 15, 3) := by decide +kernel
theorem dX8_wind_12 : decode cX8_wind 12 = .ok (.iload_n 2, 1) := by decide +kernel
theorem dX8_wind_13 : decode cX8_wind 13 = .ok (.invokestatic 99, 3) := by decide +kernel
theorem dX8_wind_16 : decode cX8_wind 16 = .ok (.ifCond .eq 7, 3) := by decide +kernel
theorem dX8_wind_19 : decode cX8_wind 19 = .ok (.iconst 0, 1) := by decide +kernel
theorem dX8_wind_20 : decode cX8_wind 20 = .ok (.goto 4, 3) := by decide +kernel
theorem dX8_wind_23 : decode cX8_wind 23 = .ok (.iconst 2, 1) := by decide +kernel
theorem dX8_wind_24 : decode cX8_wind 24 = .ok (.putfield 25, 3) := by decide +kernel
theorem dX8_wind_27 : decode cX8_wind 27 = .ok (.aload_n 0, 1) := by decide +kernel
theorem dX8_wind_28 : decode cX8_wind 28 = .ok (.getfield 25, 3) := by decide +kernel
theorem dX8_wind_31 : decode cX8_wind 31 = .ok (.ifCond .le 5, 3) := by decide +kernel
theorem dX8_wind_34 : decode cX8_wind 34 = .ok (.iconst 0, 1) := by decide +kernel
theorem dX8_wind_35 : decode cX8_wind 35 = .ok (.ireturn, 1) := by decide +kernel
theorem dX8_wind_36 : decode cX8_wind 36 = .ok (.aload_n 0, 1) := by decide +kernel
theorem dX8_wind_37 : decode cX8_wind 37 = .ok (.invokevirtual 102, 3) := by decide +kernel
theorem dX8_wind_40 : decode cX8_wind 40 = .ok (.aload_n 0, 1) := by decide +kernel
theorem dX8_wind_41 : decode cX8_wind 41 = .ok (.iload_n 1, 1) := by decide +kernel
theorem dX8_wind_42 : decode cX8_wind 42 = .ok (.iload_n 2, 1) := by decide +kernel
theorem dX8_wind_43 : decode cX8_wind 43 = .ok (.invokevirtual 54, 3) := by decide +kernel
theorem dX8_wind_46 : decode cX8_wind 46 = .ok (.ireturn, 1) := by decide +kernel
theorem dX8_isValue_0 : decode cX8_isValue 0 = .ok (.iload_n 0, 1) := by decide +kernel
theorem dX8_isValue_1 : decode cX8_isValue 1 = .ok (.tableswitch 67 0 4 #[35, 43, 51, 67, 59], 35) := by decide +kernel
theorem dX8_isValue_36 : decode cX8_isValue 36 = .ok (.iload_n 1, 1) := by decide +kernel
theorem dX8_isValue_37 : decode cX8_isValue 37 = .ok (.iconst 2, 1) := by decide +kernel
theorem dX8_isValue_38 : decode cX8_isValue 38 = .ok (.bipush 30, 2) := by decide +kernel
theorem dX8_isValue_40 : decode cX8_isValue 40 = .ok (.invokestatic 92, 3) := by decide +kernel
theorem dX8_isValue_43 : decode cX8_isValue 43 = .ok (.ireturn, 1) := by decide +kernel
theorem dX8_isValue_44 : decode cX8_isValue 44 = .ok (.iload_n 1, 1) := by decide +kernel
theorem dX8_isValue_45 : decode cX8_isValue 45 = .ok (.iconst 0, 1) := by decide +kernel
theorem dX8_isValue_46 : decode cX8_isValue 46 = .ok (.bipush 20, 2) := by decide +kernel
theorem dX8_isValue_48 : decode cX8_isValue 48 = .ok (.invokestatic 92, 3) := by decide +kernel
theorem dX8_isValue_51 : decode cX8_isValue 51 = .ok (.ireturn, 1) := by decide +kernel
theorem dX8_isValue_52 : decode cX8_isValue 52 = .ok (.iload_n 1, 1) := by decide +kernel
theorem dX8_isValue_53 : decode cX8_isValue 53 = .ok (.iconst 1, 1) := by decide +kernel
theorem dX8_isValue_54 : decode cX8_isValue 54 = .ok (.bipush 20, 2) := by decide +kernel
theorem dX8_isValue_56 : decode cX8_isValue 56 = .ok (.invokestatic 92, 3) := by decide +kernel
theorem dX8_isValue_59 : decode cX8_isValue 59 = .ok (.ireturn, 1) := by decide +kernel
theorem dX8_isValue_60 : decode cX8_isValue 60 = .ok (.iload_n 1, 1) := by decide +kernel
theorem dX8_isValue_61 : decode cX8_isValue 61 = .ok (.iconst 0, 1) := by decide +kernel
theorem dX8_isValue_62 : decode cX8_isValue 62 = .ok (.bipush 12, 2) := by decide +kernel
theorem dX8_isValue_64 : decode cX8_isValue 64 = .ok (.invokestatic 92, 3) := by decide +kernel
theorem dX8_isValue_67 : decode cX8_isValue 67 = .ok (.ireturn, 1) := by decide +kernel
theorem dX8_isValue_68 : decode cX8_isValue 68 = .ok (.iload_n 1, 1) := by decide +kernel
theorem dX8_isValue_69 : decode cX8_isValue 69 = .ok (.iconst 1, 1) := by decide +kernel
theorem dX8_isValue_70 : decode cX8_isValue 70 = .ok (.bipush 12, 2) := by decide +kernel
theorem dX8_isValue_72 : decode cX8_isValue 72 = .ok (.invokestatic 92, 3) := by decide +kernel
theorem dX8_isValue_75 : decode cX8_isValue 75 = .ok (.ireturn, 1) := by decide +kernel
theorem dX8_set_0 : decode cX8_set 0 = .ok (.aload_n 0, 1) := by decide +kernel
theorem dX8_set_1 : decode cX8_set 1 = .ok (.iload_n 1, 1) := by decide +kernel
theorem dX8_set_2 : decode cX8_set 2 = .ok (.iconst 0, 1) := by decide +kernel
theorem dX8_set_3 : decode cX8_set 3 = .ok (.iconst 5, 1) := by decide +kernel
theorem dX8_set_4 : decode cX8_set 4 = .ok (.invokestatic 92, 3) := by decide +kernel
theorem dX8_set_7 : decode cX8_set 7 = .ok (.ifCond .ne 7, 3) := by decide +kernel
theorem dX8_set_10 : decode cX8_set 10 = .ok (.iconst 1, 1) := by decide +kernel
theorem dX8_set_11 : decode cX8_set 11 = .ok (.goto 16, 3) := by decide +kernel
theorem dX8_set_14 : decode cX8_set 14 = .ok (.iload_n 1, 1) := by decide +kernel
theorem dX8_set_15 : decode cX8_set 15 = .ok (.iload_n 2, 1) := by decide +kernel
theorem dX8_set_16 : decode cX8_set 16 = .ok (.invokestatic 105, 3) := by decide +kernel
theorem dX8_set_19 : decode cX8_set 19 = .ok (.ifCond .eq 7, 3) := by decide +kernel
theorem dX8_set_22 : decode cX8_set 22 = .ok (.iconst 0, 1) := by decide +kernel
theorem dX8_set_23 : decode cX8_set 23 = .ok (.goto 4, 3) := by decide +kernel
theorem dX8_set_26 : decode cX8_set 26 = .ok (.iconst 2, 1) := by decide +kernel
theorem dX8_set_27 : decode cX8_set 27 = .ok (.putfield 25, 3) := by decide +kernel
theorem dX8_set_30 : decode cX8_set 30 = .ok (.aload_n 0, 1) := by decide +kernel
theorem dX8_set_31 : decode cX8_set 31 = .ok (.getfield 25, 3) := by decide +kernel
theorem dX8_set_34 : decode cX8_set 34 = .ok (.ifCond .le 5, 3) := by decide +kernel
theorem dX8_set_37 : decode cX8_set 37 = .ok (.iconst 0, 1) := by decide +kernel
theorem dX8_set_38 : decode cX8_set 38 = .ok (.ireturn, 1) := by decide +kernel
theorem dX8_set_39 : decode cX8_set 39 = .ok (.aload_n 0, 1) := by decide +kernel
theorem dX8_set_40 : decode cX8_set 40 = .ok (.invokevirtual 102, 3) := by decide +kernel
theorem dX8_set_43 : decode cX8_set 43 = .ok (.aload_n 0, 1) := by decide +kernel
theorem dX8_set_44 : decode cX8_set 44 = .ok (.getfield 7, 3) := by decide +kernel
theorem dX8_set_47 : decode cX8_set 47 = .ok (.bipush 61, 2) := by decide +kernel
theorem dX8_set_49 : decode cX8_set 49 = .ok (.iload_n 1, 1) := by decide +kernel
theorem dX8_set_50 : decode cX8_set 50 = .ok (.iadd, 1) := by decide +kernel
theorem dX8_set_51 : decode cX8_set 51 = .ok (.iaload, 1) := by decide +kernel
theorem dX8_set_52 : decode cX8_set 52 = .ok (.istore_n 3, 1) := by decide +kernel
theorem dX8_set_53 : decode cX8_set 53 = .ok (.aload_n 0, 1) := by decide +kernel
theorem dX8_set_54 : decode cX8_set 54 = .ok (.getfield 7, 3) := by decide +kernel
theorem dX8_set_57 : decode cX8_set 57 = .ok (.bipush 61, 2) := by decide +kernel
theorem dX8_set_59 : decode cX8_set 59 = .ok (.iload_n 1, 1) := by decide +kernel
theorem dX8_set_60 : decode cX8_set 60 = .ok (.iadd, 1) := by decide +kernel
theorem dX8_set_61 : decode cX8_set 61 = .ok (.iload_n 2, 1) := by decide +kernel
theorem dX8_set_62 : decode cX8_set 62 = .ok (.iastore, 1) := by decide +kernel
theorem dX8_set_63 : decode cX8_set 63 = .ok (.aload_n 0, 1) := by decide +kernel
theorem dX8_set_64 : decode cX8_set 64 = .ok (.getfield 7, 3) := by decide +kernel
theorem dX8_set_67 : decode cX8_set 67 = .ok (.bipush 9, 2) := by decide +kernel
theorem dX8_set_69 : decode cX8_set 69 = .ok (.aload_n 0, 1) := by decide +kernel
theorem dX8_set_70 : decode cX8_set 70 = .ok (.getfield 7, 3) := by decide +kernel
theorem dX8_set_73 : decode cX8_set 73 = .ok (.bipush 9, 2) := by decide +kernel
theorem dX8_set_75 : decode cX8_set 75 = .ok (.iaload, 1) := by decide +kernel
theorem dX8_set_76 : decode cX8_set 76 = .ok (.aload_n 0, 1) := by decide +kernel
theorem dX8_set_77 : decode cX8_set 77 = .ok (.getfield 7, 3) := by decide +kernel
theorem dX8_set_80 : decode cX8_set 80 = .ok (.bipush 61, 2) := by decide +kernel
theorem dX8_set_82 : decode cX8_set 82 = .ok (.iaload, 1) := by decide +kernel
theorem dX8_set_83 : decode cX8_set 83 = .ok (.invokestatic 46, 3) := by decide +kernel
theorem dX8_set_86 : decode cX8_set 86 = .ok (.iastore, 1) := by decide +kernel
theorem dX8_set_87 : decode cX8_set 87 = .ok (.iload_n 3, 1) := by decide +kernel
theorem dX8_set_88 : decode cX8_set 88 = .ok (.ireturn, 1) := by decide +kernel
theorem dX8_setSnow_0 : decode cX8_setSnow 0 = .ok (.aload_n 0, 1) := by decide +kernel
theorem dX8_setSnow_1 : decode cX8_setSnow 1 = .ok (.iload_n 1, 1) := by decide +kernel
theorem dX8_setSnow_2 : decode cX8_setSnow 2 = .ok (.iconst 0, 1) := by decide +kernel
theorem dX8_setSnow_3 : decode cX8_setSnow 3 = .ok (.bipush 20, 2) := by decide +kernel
theorem dX8_setSnow_5 : decode cX8_setSnow 5 = .ok (.invokestatic 92, 3) := by decide +kernel
theorem dX8_setSnow_8 : decode cX8_setSnow 8 = .ok (.ifCond .eq 7, 3) := by decide +kernel
theorem dX8_setSnow_11 : decode cX8_setSnow 11 = .ok (.iconst 0, 1) := by decide +kernel
theorem dX8_setSnow_12 : decode cX8_setSnow 12 = .ok (.goto 4, 3) := by decide +kernel
theorem dX8_setSnow_15 : decode cX8_setSnow 15 = .ok (.iconst 1, 1) := by decide +kernel
theorem dX8_setSnow_16 : decode cX8_setSnow 16 = .ok (.putfield 25, 3) := by decide +kernel
theorem dX8_setSnow_19 : decode cX8_setSnow 19 = .ok (.aload_n 0, 1) := by decide +kernel
theorem dX8_setSnow_20 : decode cX8_setSnow 20 = .ok (.getfield 25, 3) := by decide +kernel
theorem dX8_setSnow_23 : decode cX8_setSnow 23 = .ok (.ifCond .le 5, 3) := by decide +kernel
theorem dX8_setSnow_26 : decode cX8_setSnow 26 = .ok (.iconst 0, 1) := by decide +kernel
theorem dX8_setSnow_27 : decode cX8_setSnow 27 = .ok (.ireturn, 1) := by decide +kernel
theorem dX8_setSnow_28 : decode cX8_setSnow 28 = .ok (.aload_n 0, 1) := by decide +kernel
theorem dX8_setSnow_29 : decode cX8_setSnow 29 = .ok (.invokevirtual 102, 3) := by decide +kernel
theorem dX8_setSnow_32 : decode cX8_setSnow 32 = .ok (.aload_n 0, 1) := by decide +kernel
theorem dX8_setSnow_33 : decode cX8_setSnow 33 = .ok (.getfield 7, 3) := by decide +kernel
theorem dX8_setSnow_36 : decode cX8_setSnow 36 = .ok (.bipush 11, 2) := by decide +kernel
theorem dX8_setSnow_38 : decode cX8_setSnow 38 = .ok (.iaload, 1) := by decide +kernel
theorem dX8_setSnow_39 : decode cX8_setSnow 39 = .ok (.istore_n 2, 1) := by decide +kernel
theorem dX8_setSnow_40 : decode cX8_setSnow 40 = .ok (.aload_n 0, 1) := by decide +kernel
theorem dX8_setSnow_41 : decode cX8_setSnow 41 = .ok (.getfield 7, 3) := by decide +kernel
theorem dX8_setSnow_44 : decode cX8_setSnow 44 = .ok (.bipush 11, 2) := by decide +kernel
theorem dX8_setSnow_46 : decode cX8_setSnow 46 = .ok (.iload_n 1, 1) := by decide +kernel
theorem dX8_setSnow_47 : decode cX8_setSnow 47 = .ok (.iastore, 1) := by decide +kernel
theorem dX8_setSnow_48 : decode cX8_setSnow 48 = .ok (.iload_n 2, 1) := by decide +kernel
theorem dX8_setSnow_49 : decode cX8_setSnow 49 = .ok (.ireturn, 1) := by decide +kernel
theorem dX8_setHands_0 : decode cX8_setHands 0 = .ok (.aload_n 0, 1) := by decide +kernel
theorem dX8_setHands_1 : decode cX8_setHands 1 = .ok (.iload_n 1, 1) := by decide +kernel
theorem dX8_setHands_2 : decode cX8_setHands 2 = .ok (.iconst 0, 1) := by decide +kernel
theorem dX8_setHands_3 : decode cX8_setHands 3 = .ok (.sipush 719, 3) := by decide +kernel
theorem dX8_setHands_6 : decode cX8_setHands 6 = .ok (.invokestatic 92, 3) := by decide +kernel
theorem dX8_setHands_9 : decode cX8_setHands 9 = .ok (.ifCond .eq 7, 3) := by decide +kernel
theorem dX8_setHands_12 : decode cX8_setHands 12 = .ok (.iconst 0, 1) := by decide +kernel
theorem dX8_setHands_13 : decode cX8_setHands 13 = .ok (.goto 4, 3) := by decide +kernel
theorem dX8_setHands_16 : decode cX8_setHands 16 = .ok (.iconst 1, 1) := by decide +kernel
theorem dX8_setHands_17 : decode cX8_setHands 17 = .ok (.putfield 25, 3) := by decide +kernel
theorem dX8_setHands_20 : decode cX8_setHands 20 = .ok (.aload_n 0, 1) := by decide +kernel
theorem dX8_setHands_21 : decode cX8_setHands 21 = .ok (.getfield 25, 3) := by decide +kernel
theorem dX8_setHands_24 : decode cX8_setHands 24 = .ok (.ifCond .le 5, 3) := by decide +kernel
theorem dX8_setHands_27 : decode cX8_setHands 27 = .ok (.iconst 0, 1) := by decide +kernel
theorem dX8_setHands_28 : decode cX8_setHands 28 = .ok (.ireturn, 1) := by decide +kernel
theorem dX8_setHands_29 : decode cX8_setHands 29 = .ok (.aload_n 0, 1) := by decide +kernel
theorem dX8_setHands_30 : decode cX8_setHands 30 = .ok (.invokevirtual 102, 3) := by decide +kernel
theorem dX8_setHands_33 : decode cX8_setHands 33 = .ok (.aload_n 0, 1) := by decide +kernel
theorem dX8_setHands_34 : decode cX8_setHands 34 = .ok (.getfield 7, 3) := by decide +kernel
theorem dX8_setHands_37 : decode cX8_setHands 37 = .ok (.bipush 10, 2) := by decide +kernel
theorem dX8_setHands_39 : decode cX8_setHands 39 = .ok (.iaload, 1) := by decide +kernel
theorem dX8_setHands_40 : decode cX8_setHands 40 = .ok (.istore_n 2, 1) := by decide +kernel
theorem dX8_setHands_41 : decode cX8_setHands 41 = .ok (.aload_n 0, 1) := by decide +kernel
theorem dX8_setHands_42 : decode cX8_setHands 42 = .ok (.getfield 7, 3) := by decide +kernel
theorem dX8_setHands_45 : decode cX8_setHands 45 = .ok (.bipush 10, 2) := by decide +kernel
theorem dX8_setHands_47 : decode cX8_setHands 47 = .ok (.iload_n 1, 1) := by decide +kernel
theorem dX8_setHands_48 : decode cX8_setHands 48 = .ok (.iastore, 1) := by decide +kernel
theorem dX8_setHands_49 : decode cX8_setHands 49 = .ok (.iload_n 2, 1) := by decide +kernel
theorem dX8_setHands_50 : decode cX8_setHands 50 = .ok (.ireturn, 1) := by decide +kernel
theorem dX8_mend_0 : decode cX8_mend 0 = .ok (.aload_n 0, 1) := by decide +kernel
theorem dX8_mend_1 : decode cX8_mend 1 = .ok (.iconst 0, 1) := by decide +kernel
theorem dX8_mend_2 : decode cX8_mend 2 = .ok (.putfield 25, 3) := by decide +kernel
theorem dX8_mend_5 : decode cX8_mend 5 = .ok (.aload_n 0, 1) := by decide +kernel
theorem dX8_mend_6 : decode cX8_mend 6 = .ok (.invokevirtual 102, 3) := by decide +kernel
theorem dX8_mend_9 : decode cX8_mend 9 = .ok (.aload_n 0, 1) := by decide +kernel
theorem dX8_mend_10 : decode cX8_mend 10 = .ok (.getfield 7, 3) := by decide +kernel
theorem dX8_mend_13 : decode cX8_mend 13 = .ok (.bipush 12, 2) := by decide +kernel
theorem dX8_mend_15 : decode cX8_mend 15 = .ok (.iaload, 1) := by decide +kernel
theorem dX8_mend_16 : decode cX8_mend 16 = .ok (.istore_n 1, 1) := by decide +kernel
theorem dX8_mend_17 : decode cX8_mend 17 = .ok (.aload_n 0, 1) := by decide +kernel
theorem dX8_mend_18 : decode cX8_mend 18 = .ok (.getfield 7, 3) := by decide +kernel
theorem dX8_mend_21 : decode cX8_mend 21 = .ok (.bipush 12, 2) := by decide +kernel
theorem dX8_mend_23 : decode cX8_mend 23 = .ok (.iconst 0, 1) := by decide +kernel
theorem dX8_mend_24 : decode cX8_mend 24 = .ok (.iastore, 1) := by decide +kernel
theorem dX8_mend_25 : decode cX8_mend 25 = .ok (.iload_n 1, 1) := by decide +kernel
theorem dX8_mend_26 : decode cX8_mend 26 = .ok (.ireturn, 1) := by decide +kernel
theorem dX8_forgive_0 : decode cX8_forgive 0 = .ok (.aload_n 0, 1) := by decide +kernel
theorem dX8_forgive_1 : decode cX8_forgive 1 = .ok (.iconst 0, 1) := by decide +kernel
theorem dX8_forgive_2 : decode cX8_forgive 2 = .ok (.putfield 25, 3) := by decide +kernel
theorem dX8_forgive_5 : decode cX8_forgive 5 = .ok (.aload_n 0, 1) := by decide +kernel
theorem dX8_forgive_6 : decode cX8_forgive 6 = .ok (.invokevirtual 102, 3) := by decide +kernel
theorem dX8_forgive_9 : decode cX8_forgive 9 = .ok (.aload_n 0, 1) := by decide +kernel
theorem dX8_forgive_10 : decode cX8_forgive 10 = .ok (.invokevirtual 109, 3) := by decide +kernel
theorem dX8_forgive_13 : decode cX8_forgive 13 = .ok (.istore_n 1, 1) := by decide +kernel
theorem dX8_forgive_14 : decode cX8_forgive 14 = .ok (.aload_n 0, 1) := by decide +kernel
theorem dX8_forgive_15 : decode cX8_forgive 15 = .ok (.getfield 7, 3) := by decide +kernel
theorem dX8_forgive_18 : decode cX8_forgive 18 = .ok (.bipush 15, 2) := by decide +kernel
theorem dX8_forgive_20 : decode cX8_forgive 20 = .ok (.dup2, 1) := by decide +kernel
theorem dX8_forgive_21 : decode cX8_forgive 21 = .ok (.iaload, 1) := by decide +kernel
theorem dX8_forgive_22 : decode cX8_forgive 22 = .ok (.iload_n 1, 1) := by decide +kernel
theorem dX8_forgive_23 : decode cX8_forgive 23 = .ok (.iadd, 1) := by decide +kernel
theorem dX8_forgive_24 : decode cX8_forgive 24 = .ok (.iastore, 1) := by decide +kernel
theorem dX8_forgive_25 : decode cX8_forgive 25 = .ok (.aload_n 0, 1) := by decide +kernel
theorem dX8_forgive_26 : decode cX8_forgive 26 = .ok (.getfield 7, 3) := by decide +kernel
theorem dX8_forgive_29 : decode cX8_forgive 29 = .ok (.bipush 52, 2) := by decide +kernel
theorem dX8_forgive_31 : decode cX8_forgive 31 = .ok (.iconst 0, 1) := by decide +kernel
theorem dX8_forgive_32 : decode cX8_forgive 32 = .ok (.iastore, 1) := by decide +kernel
theorem dX8_forgive_33 : decode cX8_forgive 33 = .ok (.iload_n 1, 1) := by decide +kernel
theorem dX8_forgive_34 : decode cX8_forgive 34 = .ok (.ireturn, 1) := by decide +kernel
theorem dX8_comes_0 : decode cX8_comes 0 = .ok (.aload_n 0, 1) := by decide +kernel
theorem dX8_comes_1 : decode cX8_comes 1 = .ok (.getfield 7, 3) := by decide +kernel
theorem dX8_comes_4 : decode cX8_comes 4 = .ok (.bipush 21, 2) := by decide +kernel
theorem dX8_comes_6 : decode cX8_comes 6 = .ok (.iaload, 1) := by decide +kernel
theorem dX8_comes_7 : decode cX8_comes 7 = .ok (.invokestatic 36, 3) := by decide +kernel
theorem dX8_comes_10 : decode cX8_comes 10 = .ok (.istore 4, 2) := by decide +kernel
theorem dX8_comes_12 : decode cX8_comes 12 = .ok (.aload_n 0, 1) := by decide +kernel
theorem dX8_comes_13 : decode cX8_comes 13 = .ok (.getfield 7, 3) := by decide +kernel
theorem dX8_comes_16 : decode cX8_comes 16 = .ok (.iload 4, 2) := by decide +kernel
theorem dX8_comes_18 : decode cX8_comes 18 = .ok (.iload_n 1, 1) := by decide +kernel
theorem dX8_comes_19 : decode cX8_comes 19 = .ok (.iastore, 1) := by decide +kernel
theorem dX8_comes_20 : decode cX8_comes 20 = .ok (.aload_n 0, 1) := by decide +kernel
theorem dX8_comes_21 : decode cX8_comes 21 = .ok (.getfield 7, 3) := by decide +kernel
theorem dX8_comes_24 : decode cX8_comes 24 = .ok (.iload 4, 2) := by decide +kernel
theorem dX8_comes_26 : decode cX8_comes 26 = .ok (.iconst 1, 1) := by decide +kernel
theorem dX8_comes_27 : decode cX8_comes 27 = .ok (.iadd, 1) := by decide +kernel
theorem dX8_comes_28 : decode cX8_comes 28 = .ok (.iload_n 2, 1) := by decide +kernel
theorem dX8_comes_29 : decode cX8_comes 29 = .ok (.iastore, 1) := by decide +kernel
theorem dX8_comes_30 : decode cX8_comes 30 = .ok (.aload_n 0, 1) := by decide +kernel
theorem dX8_comes_31 : decode cX8_comes 31 = .ok (.getfield 7, 3) := by decide +kernel
theorem dX8_comes_34 : decode cX8_comes 34 = .ok (.iload 4, 2) := by decide +kernel
theorem dX8_comes_36 : decode cX8_comes 36 = .ok (.iconst 2, 1) := by decide +kernel
theorem dX8_comes_37 : decode cX8_comes 37 = .ok (.iadd, 1) := by decide +kernel
theorem dX8_comes_38 : decode cX8_comes 38 = .ok (.iload_n 3, 1) := by decide +kernel
theorem dX8_comes_39 : decode cX8_comes 39 = .ok (.iastore, 1) := by decide +kernel
theorem dX8_comes_40 : decode cX8_comes 40 = .ok (.aload_n 0, 1) := by decide +kernel
theorem dX8_comes_41 : decode cX8_comes 41 = .ok (.getfield 7, 3) := by decide +kernel
theorem dX8_comes_44 : decode cX8_comes 44 = .ok (.iload 4, 2) := by decide +kernel
theorem dX8_comes_46 : decode cX8_comes 46 = .ok (.iconst 3, 1) := by decide +kernel
theorem dX8_comes_47 : decode cX8_comes 47 = .ok (.iadd, 1) := by decide +kernel
theorem dX8_comes_48 : decode cX8_comes 48 = .ok (.aload_n 0, 1) := by decide +kernel
theorem dX8_comes_49 : decode cX8_comes 49 = .ok (.getfield 7, 3) := by decide +kernel
theorem dX8_comes_52 : decode cX8_comes 52 = .ok (.bipush 13, 2) := by decide +kernel
theorem dX8_comes_54 : decode cX8_comes 54 = .ok (.iaload, 1) := by decide +kernel
theorem dX8_comes_55 : decode cX8_comes 55 = .ok (.iload_n 3, 1) := by decide +kernel
theorem dX8_comes_56 : decode cX8_comes 56 = .ok (.iadd, 1) := by decide +kernel
theorem dX8_comes_57 : decode cX8_comes 57 = .ok (.iastore, 1) := by decide +kernel
theorem dX8_comes_58 : decode cX8_comes 58 = .ok (.aload_n 0, 1) := by decide +kernel
theorem dX8_comes_59 : decode cX8_comes 59 = .ok (.getfield 7, 3) := by decide +kernel
theorem dX8_comes_62 : decode cX8_comes 62 = .ok (.iload 4, 2) := by decide +kernel
theorem dX8_comes_64 : decode cX8_comes 64 = .ok (.iconst 4, 1) := by decide +kernel
theorem dX8_comes_65 : decode cX8_comes 65 = .ok (.iadd, 1) := by decide +kernel
theorem dX8_comes_66 : decode cX8_comes 66 = .ok (.iconst 0, 1) := by decide +kernel
theorem dX8_comes_67 : decode cX8_comes 67 = .ok (.iastore, 1) := by decide +kernel
theorem dX8_comes_68 : decode cX8_comes 68 = .ok (.aload_n 0, 1) := by decide +kernel
theorem dX8_comes_69 : decode cX8_comes 69 = .ok (.getfield 7, 3) := by decide +kernel
theorem dX8_comes_72 : decode cX8_comes 72 = .ok (.bipush 21, 2) := by decide +kernel
theorem dX8_comes_74 : decode cX8_comes 74 = .ok (.dup2, 1) := by decide +kernel
theorem dX8_comes_75 : decode cX8_comes 75 = .ok (.iaload, 1) := by decide +kernel
theorem dX8_comes_76 : decode cX8_comes 76 = .ok (.iconst 1, 1) := by decide +kernel
theorem dX8_comes_77 : decode cX8_comes 77 = .ok (.iadd, 1) := by decide +kernel
theorem dX8_comes_78 : decode cX8_comes 78 = .ok (.iastore, 1) := by decide +kernel
theorem dX8_comes_79 : decode cX8_comes 79 = .ok (.return_, 1) := by decide +kernel
theorem dX8_hire_0 : decode cX8_hire 0 = .ok (.aload_n 0, 1) := by decide +kernel
theorem dX8_hire_1 : decode cX8_hire 1 = .ok (.iload_n 1, 1) := by decide +kernel
theorem dX8_hire_2 : decode cX8_hire 2 = .ok (.invokestatic 96, 3) := by decide +kernel
theorem dX8_hire_5 : decode cX8_hire 5 = .ok (.ifCond .ne 7, 3) := by decide +kernel
theorem dX8_hire_8 : decode cX8_hire 8 = .ok (.iconst 1, 1) := by decide +kernel
theorem dX8_hire_9 : decode cX8_hire 9 = .ok (.goto 38, 3) := by decide +kernel
theorem dX8_hire_12 : decode cX8_hire 12 = .ok (.iload_n 2, 1) := by decide +kernel
theorem dX8_hire_13 : decode cX8_hire 13 = .ok (.invokestatic 99, 3) := by decide +kernel
theorem dX8_hire_16 : decode cX8_hire 16 = .ok (.ifCond .eq 10, 3) := by decide +kernel
theorem dX8_hire_19 : decode cX8_hire 19 = .ok (.iload_n 3, 1) := by decide +kernel
theorem dX8_hire_20 : decode cX8_hire 20 = .ok (.invokestatic 112, 3) := by decide +kernel
theorem dX8_hire_23 : decode cX8_hire 23 = .ok (.ifCond .ne 7, 3) := by decide +kernel
theorem dX8_hire_26 : decode cX8_hire 26 = .ok (.iconst 2, 1) := by decide +kernel
theorem dX8_hire_27 : decode cX8_hire 27 = .ok (.goto 20, 3) := by decide +kernel
theorem dX8_hire_30 : decode cX8_hire 30 = .ok (.aload_n 0, 1) := by decide +kernel
theorem dX8_hire_31 : decode cX8_hire 31 = .ok (.getfield 7, 3) := by decide +kernel
theorem dX8_hire_34 : decode cX8_hire 34 = .ok (.bipush 21, 2) := by decide +kernel
theorem dX8_hire_36 : decode cX8_hire 36 = .ok (.iaload, 1) := by decide +kernel
theorem dX8_hire_37 : decode cX8_hire 37 = .ok (.bipush 6, 2) := by decide +kernel
theorem dX8_hire_39 : decode cX8_hire 39 = .ok (.if_icmp .ne 7, 3) := by decide +kernel
theorem dX8_hire_42 : decode cX8_hire 42 = .ok (.iconst 3, 1) := by decide +kernel
theorem dX8_hire_43 : decode cX8_hire 43 = .ok (.goto 4, 3) := by decide +kernel
theorem dX8_hire_46 : decode cX8_hire 46 = .ok (.iconst 0, 1) := by decide +kernel
theorem dX8_hire_47 : decode cX8_hire 47 = .ok (.putfield 25, 3) := by decide +kernel
theorem dX8_hire_50 : decode cX8_hire 50 = .ok (.aload_n 0, 1) := by decide +kernel
theorem dX8_hire_51 : decode cX8_hire 51 = .ok (.getfield 25, 3) := by decide +kernel
theorem dX8_hire_54 : decode cX8_hire 54 = .ok (.ifCond .le 5, 3) := by decide +kernel
theorem dX8_hire_57 : decode cX8_hire 57 = .ok (.iconst 0, 1) := by decide +kernel
theorem dX8_hire_58 : decode cX8_hire 58 = .ok (.ireturn, 1) := by decide +kernel
theorem dX8_hire_59 : decode cX8_hire 59 = .ok (.aload_n 0, 1) := by decide +kernel
theorem dX8_hire_60 : decode cX8_hire 60 = .ok (.invokevirtual 102, 3) := by decide +kernel
theorem dX8_hire_63 : decode cX8_hire 63 = .ok (.aload_n 0, 1) := by decide +kernel
theorem dX8_hire_64 : decode cX8_hire 64 = .ok (.iload_n 1, 1) := by decide +kernel
theorem dX8_hire_65 : decode cX8_hire 65 = .ok (.iload_n 2, 1) := by decide +kernel
theorem dX8_hire_66 : decode cX8_hire 66 = .ok (.iload_n 3, 1) := by decide +kernel
theorem dX8_hire_67 : decode cX8_hire 67 = .ok (.invokevirtual 115, 3) := by decide +kernel
theorem dX8_hire_70 : decode cX8_hire 70 = .ok (.aload_n 0, 1) := by decide +kernel
theorem dX8_hire_71 : decode cX8_hire 71 = .ok (.getfield 7, 3) := by decide +kernel
theorem dX8_hire_74 : decode cX8_hire 74 = .ok (.bipush 21, 2) := by decide +kernel
theorem dX8_hire_76 : decode cX8_hire 76 = .ok (.iaload, 1) := by decide +kernel
theorem dX8_hire_77 : decode cX8_hire 77 = .ok (.iconst 1, 1) := by decide +kernel
theorem dX8_hire_78 : decode cX8_hire 78 = .ok (.isub, 1) := by decide +kernel
theorem dX8_hire_79 : decode cX8_hire 79 = .ok (.ireturn, 1) := by decide +kernel
theorem dX8_isWinder_0 : decode cX8_isWinder 0 = .ok (.iload_n 1, 1) := by decide +kernel
theorem dX8_isWinder_1 : decode cX8_isWinder 1 = .ok (.iconst 0, 1) := by decide +kernel
theorem dX8_isWinder_2 : decode cX8_isWinder 2 = .ok (.aload_n 0, 1) := by decide +kernel
theorem dX8_isWinder_3 : decode cX8_isWinder 3 = .ok (.getfield 7, 3) := by decide +kernel
theorem dX8_isWinder_6 : decode cX8_isWinder 6 = .ok (.bipush 21, 2) := by decide +kernel
theorem dX8_isWinder_8 : decode cX8_isWinder 8 = .ok (.iaload, 1) := by decide +kernel
theorem dX8_isWinder_9 : decode cX8_isWinder 9 = .ok (.iconst 1, 1) := by decide +kernel
theorem dX8_isWinder_10 : decode cX8_isWinder 10 = .ok (.isub, 1) := by decide +kernel
theorem dX8_isWinder_11 : decode cX8_isWinder 11 = .ok (.invokestatic 92, 3) := by decide +kernel
theorem dX8_isWinder_14 : decode cX8_isWinder 14 = .ok (.ireturn, 1) := by decide +kernel
theorem dX8_dismiss_0 : decode cX8_dismiss 0 = .ok (.aload_n 0, 1) := by decide +kernel
theorem dX8_dismiss_1 : decode cX8_dismiss 1 = .ok (.aload_n 0, 1) := by decide +kernel
theorem dX8_dismiss_2 : decode cX8_dismiss 2 = .ok (.iload_n 1, 1) := by decide +kernel
theorem dX8_dismiss_3 : decode cX8_dismiss 3 = .ok (.invokevirtual 119, 3) := by decide +kernel
theorem dX8_dismiss_6 : decode cX8_dismiss 6 = .ok (.ifCond .eq 7, 3) := by decide +kernel
theorem dX8_dismiss_9 : decode cX8_dismiss 9 = .ok (.iconst 0, 1) := by decide +kernel
theorem dX8_dismiss_10 : decode cX8_dismiss 10 = .ok (.goto 4, 3) := by decide +kernel
theorem dX8_dismiss_13 : decode cX8_dismiss 13 = .ok (.iconst 1, 1) := by decide +kernel
theorem dX8_dismiss_14 : decode cX8_dismiss 14 = .ok (.putfield 25, 3) := by decide +kernel
theorem dX8_dismiss_17 : decode cX8_dismiss 17 = .ok (.aload_n 0, 1) := by decide +kernel
theorem dX8_dismiss_18 : decode cX8_dismiss 18 = .ok (.getfield 25, 3) := by decide +kernel
theorem dX8_dismiss_21 : decode cX8_dismiss 21 = .ok (.ifCond .le 5, 3) := by decide +kernel
theorem dX8_dismiss_24 : decode cX8_dismiss 24 = .ok (.iconst 0, 1) := by decide +kernel
theorem dX8_dismiss_25 : decode cX8_dismiss 25 = .ok (.ireturn, 1) := by decide +kernel
theorem dX8_dismiss_26 : decode cX8_dismiss 26 = .ok (.aload_n 0, 1) := by decide +kernel
theorem dX8_dismiss_27 : decode cX8_dismiss 27 = .ok (.invokevirtual 102, 3) := by decide +kernel
theorem dX8_dismiss_30 : decode cX8_dismiss 30 = .ok (.aload_n 0, 1) := by decide +kernel
theorem dX8_dismiss_31 : decode cX8_dismiss 31 = .ok (.getfield 7, 3) := by decide +kernel
theorem dX8_dismiss_34 : decode cX8_dismiss 34 = .ok (.bipush 21, 2) := by decide +kernel
theorem dX8_dismiss_36 : decode cX8_dismiss 36 = .ok (.dup2, 1) := by decide +kernel
theorem dX8_dismiss_37 : decode cX8_dismiss 37 = .ok (.iaload, 1) := by decide +kernel
theorem dX8_dismiss_38 : decode cX8_dismiss 38 = .ok (.iconst 1, 1) := by decide +kernel
theorem dX8_dismiss_39 : decode cX8_dismiss 39 = .ok (.isub, 1) := by decide +kernel
theorem dX8_dismiss_40 : decode cX8_dismiss 40 = .ok (.iastore, 1) := by decide +kernel
theorem dX8_dismiss_41 : decode cX8_dismiss 41 = .ok (.iload_n 1, 1) := by decide +kernel
theorem dX8_dismiss_42 : decode cX8_dismiss 42 = .ok (.invokestatic 36, 3) := by decide +kernel
theorem dX8_dismiss_45 : decode cX8_dismiss 45 = .ok (.istore_n 2, 1) := by decide +kernel
theorem dX8_dismiss_46 : decode cX8_dismiss 46 = .ok (.iload_n 2, 1) := by decide +kernel
theorem dX8_dismiss_47 : decode cX8_dismiss 47 = .ok (.aload_n 0, 1) := by decide +kernel
theorem dX8_dismiss_48 : decode cX8_dismiss 48 = .ok (.getfield 7, 3) := by decide +kernel
theorem dX8_dismiss_51 : decode cX8_dismiss 51 = .ok (.bipush 21, 2) := by decide +kernel
theorem dX8_dismiss_53 : decode cX8_dismiss 53 = .ok (.iaload, 1) := by decide +kernel
theorem dX8_dismiss_54 : decode cX8_dismiss 54 = .ok (.invokestatic 36, 3) := by decide +kernel
theorem dX8_dismiss_57 : decode cX8_dismiss 57 = .ok (.if_icmp .ge 23, 3) := by decide +kernel
theorem dX8_dismiss_60 : decode cX8_dismiss 60 = .ok (.aload_n 0, 1) := by decide +kernel
theorem dX8_dismiss_61 : decode cX8_dismiss 61 = .ok (.getfield 7, 3) := by decide +kernel
theorem dX8_dismiss_64 : decode cX8_dismiss 64 = .ok (.iload_n 2, 1) := by decide +kernel
theorem dX8_dismiss_65 : decode cX8_dismiss 65 = .ok (.aload_n 0, 1) := by decide +kernel
theorem dX8_dismiss_66 : decode cX8_dismiss 66 = .ok (.getfield 7, 3) := by decide +kernel
theorem dX8_dismiss_69 : decode cX8_dismiss 69 = .ok (.iload_n 2, 1) := by decide +kernel
theorem dX8_dismiss_70 : decode cX8_dismiss 70 = .ok (.iconst 5, 1) := by decide +kernel
theorem dX8_dismiss_71 : decode cX8_dismiss 71 = .ok (.iadd, 1) := by decide +kernel
theorem dX8_dismiss_72 : decode cX8_dismiss 72 = .ok (.iaload, 1) := by decide +kernel
theorem dX8_dismiss_73 : decode cX8_dismiss 73 = .ok (.iastore, 1) := by decide +kernel
theorem dX8_dismiss_74 : decode cX8_dismiss 74 = .ok (.iinc 2 1, 3) := by decide +kernel
theorem dX8_dismiss_77 : decode cX8_dismiss 77 = .ok (.goto (-31), 3) := by decide +kernel
theorem dX8_dismiss_80 : decode cX8_dismiss 80 = .ok (.aload_n 0, 1) := by decide +kernel
theorem dX8_dismiss_81 : decode cX8_dismiss 81 = .ok (.getfield 7, 3) := by decide +kernel
theorem dX8_dismiss_84 : decode cX8_dismiss 84 = .ok (.bipush 21, 2) := by decide +kernel
theorem dX8_dismiss_86 : decode cX8_dismiss 86 = .ok (.iaload, 1) := by decide +kernel
theorem dX8_dismiss_87 : decode cX8_dismiss 87 = .ok (.ireturn, 1) := by decide +kernel
theorem dX8_pass_0 : decode cX8_pass 0 = .ok (.aload_n 0, 1) := by decide +kernel
theorem dX8_pass_1 : decode cX8_pass 1 = .ok (.iload_n 1, 1) := by decide +kernel
theorem dX8_pass_2 : decode cX8_pass 2 = .ok (.iconst 1, 1) := by decide +kernel
theorem dX8_pass_3 : decode cX8_pass 3 = .ok (.sipush 720, 3) := by decide +kernel
theorem dX8_pass_6 : decode cX8_pass 6 = .ok (.invokestatic 92, 3) := by decide +kernel
theorem dX8_pass_9 : decode cX8_pass 9 = .ok (.ifCond .ne 7, 3) := by decide +kernel
theorem dX8_pass_12 : decode cX8_pass 12 = .ok (.iconst 1, 1) := by decide +kernel
theorem dX8_pass_13 : decode cX8_pass 13 = .ok (.goto 23, 3) := by decide +kernel
theorem dX8_pass_16 : decode cX8_pass 16 = .ok (.aload_n 0, 1) := by decide +kernel
theorem dX8_pass_17 : decode cX8_pass 17 = .ok (.getfield 7, 3) := by decide +kernel
theorem dX8_pass_20 : decode cX8_pass 20 = .ok (.bipush 13, 2) := by decide +kernel
theorem dX8_pass_22 : decode cX8_pass 22 = .ok (.iaload, 1) := by decide +kernel
theorem dX8_pass_23 : decode cX8_pass 23 = .ok (.iload_n 1, 1) := by decide +kernel
theorem dX8_pass_24 : decode cX8_pass 24 = .ok (.iadd, 1) := by decide +kernel
theorem dX8_pass_25 : decode cX8_pass 25 = .ok (.sipush 20000, 3) := by decide +kernel
theorem dX8_pass_28 : decode cX8_pass 28 = .ok (.if_icmp .le 7, 3) := by decide +kernel
theorem dX8_pass_31 : decode cX8_pass 31 = .ok (.iconst 2, 1) := by decide +kernel
theorem dX8_pass_32 : decode cX8_pass 32 = .ok (.goto 4, 3) := by decide +kernel
theorem dX8_pass_35 : decode cX8_pass 35 = .ok (.iconst 0, 1) := by decide +kernel
theorem dX8_pass_36 : decode cX8_pass 36 = .ok (.putfield 25, 3) := by decide +kernel
theorem dX8_pass_39 : decode cX8_pass 39 = .ok (.aload_n 0, 1) := by decide +kernel
theorem dX8_pass_40 : decode cX8_pass 40 = .ok (.getfield 25, 3) := by decide +kernel
theorem dX8_pass_43 : decode cX8_pass 43 = .ok (.ifCond .le 5, 3) := by decide +kernel
theorem dX8_pass_46 : decode cX8_pass 46 = .ok (.iconst 0, 1) := by decide +kernel
theorem dX8_pass_47 : decode cX8_pass 47 = .ok (.ireturn, 1) := by decide +kernel
theorem dX8_pass_48 : decode cX8_pass 48 = .ok (.aload_n 0, 1) := by decide +kernel
theorem dX8_pass_49 : decode cX8_pass 49 = .ok (.invokevirtual 102, 3) := by decide +kernel
theorem dX8_pass_52 : decode cX8_pass 52 = .ok (.aload_n 0, 1) := by decide +kernel
theorem dX8_pass_53 : decode cX8_pass 53 = .ok (.getfield 7, 3) := by decide +kernel
theorem dX8_pass_56 : decode cX8_pass 56 = .ok (.bipush 14, 2) := by decide +kernel
theorem dX8_pass_58 : decode cX8_pass 58 = .ok (.iaload, 1) := by decide +kernel
theorem dX8_pass_59 : decode cX8_pass 59 = .ok (.istore_n 2, 1) := by decide +kernel
theorem dX8_pass_60 : decode cX8_pass 60 = .ok (.aload_n 0, 1) := by decide +kernel
theorem dX8_pass_61 : decode cX8_pass 61 = .ok (.iload_n 1, 1) := by decide +kernel
theorem dX8_pass_62 : decode cX8_pass 62 = .ok (.invokevirtual 122, 3) := by decide +kernel
theorem dX8_pass_65 : decode cX8_pass 65 = .ok (.aload_n 0, 1) := by decide +kernel
theorem dX8_pass_66 : decode cX8_pass 66 = .ok (.getfield 7, 3) := by decide +kernel
theorem dX8_pass_69 : decode cX8_pass 69 = .ok (.bipush 14, 2) := by decide +kernel
theorem dX8_pass_71 : decode cX8_pass 71 = .ok (.iaload, 1) := by decide +kernel
theorem dX8_pass_72 : decode cX8_pass 72 = .ok (.iload_n 2, 1) := by decide +kernel
theorem dX8_pass_73 : decode cX8_pass 73 = .ok (.isub, 1) := by decide +kernel
theorem dX8_pass_74 : decode cX8_pass 74 = .ok (.ireturn, 1) := by decide +kernel
theorem dX8_append_0 : decode cX8_append 0 = .ok (.aload_n 0, 1) := by decide +kernel
theorem dX8_append_1 : decode cX8_append 1 = .ok (.iload_n 1, 1) := by decide +kernel
theorem dX8_append_2 : decode cX8_append 2 = .ok (.bipush 33, 2) := by decide +kernel
theorem dX8_append_4 : decode cX8_append 4 = .ok (.bipush 126, 2) := by decide +kernel
theorem dX8_append_6 : decode cX8_append 6 = .ok (.invokestatic 92, 3) := by decide +kernel
theorem dX8_append_9 : decode cX8_append 9 = .ok (.ifCond .ne 7, 3) := by decide +kernel
theorem dX8_append_12 : decode cX8_append 12 = .ok (.iconst 1, 1) := by decide +kernel
theorem dX8_append_13 : decode cX8_append 13 = .ok (.goto 17, 3) := by decide +kernel
theorem dX8_append_16 : decode cX8_append 16 = .ok (.aload_n 0, 1) := by decide +kernel
theorem dX8_append_17 : decode cX8_append 17 = .ok (.getfield 126, 3) := by decide +kernel
theorem dX8_append_20 : decode cX8_append 20 = .ok (.bipush 60, 2) := by decide +kernel
theorem dX8_append_22 : decode cX8_append 22 = .ok (.if_icmp .ne 7, 3) := by decide +kernel
theorem dX8_append_25 : decode cX8_append 25 = .ok (.iconst 2, 1) := by decide +kernel
theorem dX8_append_26 : decode cX8_append 26 = .ok (.goto 4, 3) := by decide +kernel
theorem dX8_append_29 : decode cX8_append 29 = .ok (.iconst 0, 1) := by decide +kernel
theorem dX8_append_30 : decode cX8_append 30 = .ok (.putfield 25, 3) := by decide +kernel
theorem dX8_append_33 : decode cX8_append 33 = .ok (.aload_n 0, 1) := by decide +kernel
theorem dX8_append_34 : decode cX8_append 34 = .ok (.getfield 25, 3) := by decide +kernel
theorem dX8_append_37 : decode cX8_append 37 = .ok (.ifCond .le 5, 3) := by decide +kernel
theorem dX8_append_40 : decode cX8_append 40 = .ok (.iconst 0, 1) := by decide +kernel
theorem dX8_append_41 : decode cX8_append 41 = .ok (.ireturn, 1) := by decide +kernel
theorem dX8_append_42 : decode cX8_append 42 = .ok (.aload_n 0, 1) := by decide +kernel
theorem dX8_append_43 : decode cX8_append 43 = .ok (.getfield 16, 3) := by decide +kernel
theorem dX8_append_46 : decode cX8_append 46 = .ok (.aload_n 0, 1) := by decide +kernel
theorem dX8_append_47 : decode cX8_append 47 = .ok (.getfield 126, 3) := by decide +kernel
theorem dX8_append_50 : decode cX8_append 50 = .ok (.iload_n 1, 1) := by decide +kernel
theorem dX8_append_51 : decode cX8_append 51 = .ok (.iastore, 1) := by decide +kernel
theorem dX8_append_52 : decode cX8_append 52 = .ok (.aload_n 0, 1) := by decide +kernel
theorem dX8_append_53 : decode cX8_append 53 = .ok (.dup, 1) := by decide +kernel
theorem dX8_append_54 : decode cX8_append 54 = .ok (.getfield 126, 3) := by decide +kernel
theorem dX8_append_57 : decode cX8_append 57 = .ok (.iconst 1, 1) := by decide +kernel
theorem dX8_append_58 : decode cX8_append 58 = .ok (.iadd, 1) := by decide +kernel
theorem dX8_append_59 : decode cX8_append 59 = .ok (.putfield 126, 3) := by decide +kernel
theorem dX8_append_62 : decode cX8_append 62 = .ok (.aload_n 0, 1) := by decide +kernel
theorem dX8_append_63 : decode cX8_append 63 = .ok (.getfield 126, 3) := by decide +kernel
theorem dX8_append_66 : decode cX8_append 66 = .ok (.ireturn, 1) := by decide +kernel
theorem dX8_clearBuffer_0 : decode cX8_clearBuffer 0 = .ok (.aload_n 0, 1) := by decide +kernel
theorem dX8_clearBuffer_1 : decode cX8_clearBuffer 1 = .ok (.iconst 0, 1) := by decide +kernel
theorem dX8_clearBuffer_2 : decode cX8_clearBuffer 2 = .ok (.putfield 25, 3) := by decide +kernel
theorem dX8_clearBuffer_5 : decode cX8_clearBuffer 5 = .ok (.aload_n 0, 1) := by decide +kernel
theorem dX8_clearBuffer_6 : decode cX8_clearBuffer 6 = .ok (.getfield 126, 3) := by decide +kernel
theorem dX8_clearBuffer_9 : decode cX8_clearBuffer 9 = .ok (.istore_n 1, 1) := by decide +kernel
theorem dX8_clearBuffer_10 : decode cX8_clearBuffer 10 = .ok (.aload_n 0, 1) := by decide +kernel
theorem dX8_clearBuffer_11 : decode cX8_clearBuffer 11 = .ok (.iconst 0, 1) := by decide +kernel
theorem dX8_clearBuffer_12 : decode cX8_clearBuffer 12 = .ok (.putfield 126, 3) := by decide +kernel
theorem dX8_clearBuffer_15 : decode cX8_clearBuffer 15 = .ok (.iload_n 1, 1) := by decide +kernel
theorem dX8_clearBuffer_16 : decode cX8_clearBuffer 16 = .ok (.ireturn, 1) := by decide +kernel
theorem dX8_takesDigit_0 : decode cX8_takesDigit 0 = .ok (.iconst 3, 1) := by decide +kernel
theorem dX8_takesDigit_1 : decode cX8_takesDigit 1 = .ok (.aload_n 0, 1) := by decide +kernel
theorem dX8_takesDigit_2 : decode cX8_takesDigit 2 = .ok (.getfield 129, 3) := by decide +kernel
theorem dX8_takesDigit_5 : decode cX8_takesDigit 5 = .ok (.imul, 1) := by decide +kernel
theorem dX8_takesDigit_6 : decode cX8_takesDigit 6 = .ok (.aload_n 0, 1) := by decide +kernel
theorem dX8_takesDigit_7 : decode cX8_takesDigit 7 = .ok (.getfield 132, 3) := by decide +kernel
theorem dX8_takesDigit_10 : decode cX8_takesDigit 10 = .ok (.iadd, 1) := by decide +kernel
theorem dX8_takesDigit_11 : decode cX8_takesDigit 11 = .ok (.istore_n 2, 1) := by decide +kernel
theorem dX8_takesDigit_12 : decode cX8_takesDigit 12 = .ok (.bipush 10, 2) := by decide +kernel
theorem dX8_takesDigit_14 : decode cX8_takesDigit 14 = .ok (.aload_n 0, 1) := by decide +kernel
theorem dX8_takesDigit_15 : decode cX8_takesDigit 15 = .ok (.getfield 22, 3) := by decide +kernel
theorem dX8_takesDigit_18 : decode cX8_takesDigit 18 = .ok (.iload_n 2, 1) := by decide +kernel
theorem dX8_takesDigit_19 : decode cX8_takesDigit 19 = .ok (.iaload, 1) := by decide +kernel
theorem dX8_takesDigit_20 : decode cX8_takesDigit 20 = .ok (.imul, 1) := by decide +kernel
theorem dX8_takesDigit_21 : decode cX8_takesDigit 21 = .ok (.iload_n 1, 1) := by decide +kernel
theorem dX8_takesDigit_22 : decode cX8_takesDigit 22 = .ok (.iadd, 1) := by decide +kernel
theorem dX8_takesDigit_23 : decode cX8_takesDigit 23 = .ok (.bipush 48, 2) := by decide +kernel
theorem dX8_takesDigit_25 : decode cX8_takesDigit 25 = .ok (.isub, 1) := by decide +kernel
theorem dX8_takesDigit_26 : decode cX8_takesDigit 26 = .ok (.istore_n 3, 1) := by decide +kernel
theorem dX8_takesDigit_27 : decode cX8_takesDigit 27 = .ok (.iload_n 1, 1) := by decide +kernel
theorem dX8_takesDigit_28 : decode cX8_takesDigit 28 = .ok (.bipush 48, 2) := by decide +kernel
theorem dX8_takesDigit_30 : decode cX8_takesDigit 30 = .ok (.bipush 57, 2) := by decide +kernel
theorem dX8_takesDigit_32 : decode cX8_takesDigit 32 = .ok (.invokestatic 92, 3) := by decide +kernel
theorem dX8_takesDigit_35 : decode cX8_takesDigit 35 = .ok (.ifCond .eq 33, 3) := by decide +kernel
theorem dX8_takesDigit_38 : decode cX8_takesDigit 38 = .ok (.iload_n 3, 1) := by decide +kernel
theorem dX8_takesDigit_39 : decode cX8_takesDigit 39 = .ok (.iconst 1, 1) := by decide +kernel
theorem dX8_takesDigit_40 : decode cX8_takesDigit 40 = .ok (.if_icmp .lt 28, 3) := by decide +kernel
theorem dX8_takesDigit_43 : decode cX8_takesDigit 43 = .ok (.iload_n 3, 1) := by decide +kernel
theorem dX8_takesDigit_44 : decode cX8_takesDigit 44 = .ok (.aload_n 0, 1) := by decide +kernel
theorem dX8_takesDigit_45 : decode cX8_takesDigit 45 = .ok (.getfield 132, 3) := by decide +kernel
theorem dX8_takesDigit_48 : decode cX8_takesDigit 48 = .ok (.iconst 1, 1) := by decide +kernel
theorem dX8_takesDigit_49 : decode cX8_takesDigit 49 = .ok (.if_icmp .ne 9, 3) := by decide +kernel
theorem dX8_takesDigit_52 : decode cX8_takesDigit 52 = .ok (.sipush 200, 3) := by decide +kernel
theorem dX8_takesDigit_55 : decode cX8_takesDigit 55 = .ok (.goto 6, 3) := by decide +kernel
theorem dX8_takesDigit_58 : decode cX8_takesDigit 58 = .ok (.sipush 720, 3) := by decide +kernel
theorem dX8_takesDigit_61 : decode cX8_takesDigit 61 = .ok (.if_icmp .gt 7, 3) := by decide +kernel
theorem dX8_takesDigit_64 : decode cX8_takesDigit 64 = .ok (.iconst 1, 1) := by decide +kernel
theorem dX8_takesDigit_65 : decode cX8_takesDigit 65 = .ok (.goto 4, 3) := by decide +kernel
theorem dX8_takesDigit_68 : decode cX8_takesDigit 68 = .ok (.iconst 0, 1) := by decide +kernel
theorem dX8_takesDigit_69 : decode cX8_takesDigit 69 = .ok (.istore 4, 2) := by decide +kernel
theorem dX8_takesDigit_71 : decode cX8_takesDigit 71 = .ok (.aload_n 0, 1) := by decide +kernel
theorem dX8_takesDigit_72 : decode cX8_takesDigit 72 = .ok (.getfield 22, 3) := by decide +kernel
theorem dX8_takesDigit_75 : decode cX8_takesDigit 75 = .ok (.iload_n 2, 1) := by decide +kernel
theorem dX8_takesDigit_76 : decode cX8_takesDigit 76 = .ok (.iload 4, 2) := by decide +kernel
theorem dX8_takesDigit_78 : decode cX8_takesDigit 78 = .ok (.ifCond .eq 7, 3) := by decide +kernel
theorem dX8_takesDigit_81 : decode cX8_takesDigit 81 = .ok (.iload_n 3, 1) := by decide +kernel
theorem dX8_takesDigit_82 : decode cX8_takesDigit 82 = .ok (.goto 9, 3) := by decide +kernel
theorem dX8_takesDigit_85 : decode cX8_takesDigit 85 = .ok (.aload_n 0, 1) := by decide +kernel
theorem dX8_takesDigit_86 : decode cX8_takesDigit 86 = .ok (.getfield 22, 3) := by decide +kernel
theorem dX8_takesDigit_89 : decode cX8_takesDigit 89 = .ok (.iload_n 2, 1) := by decide +kernel
theorem dX8_takesDigit_90 : decode cX8_takesDigit 90 = .ok (.iaload, 1) := by decide +kernel
theorem dX8_takesDigit_91 : decode cX8_takesDigit 91 = .ok (.iastore, 1) := by decide +kernel
theorem dX8_takesDigit_92 : decode cX8_takesDigit 92 = .ok (.iload 4, 2) := by decide +kernel
theorem dX8_takesDigit_94 : decode cX8_takesDigit 94 = .ok (.ireturn, 1) := by decide +kernel
theorem dX8_takesLetter_0 : decode cX8_takesLetter 0 = .ok (.iload_n 1, 1) := by decide +kernel
theorem dX8_takesLetter_1 : decode cX8_takesLetter 1 = .ok (.bipush 103, 2) := by decide +kernel
theorem dX8_takesLetter_3 : decode cX8_takesLetter 3 = .ok (.if_icmp .ne 7, 3) := by decide +kernel
theorem dX8_takesLetter_6 : decode cX8_takesLetter 6 = .ok (.iconst 0, 1) := by decide +kernel
theorem dX8_takesLetter_7 : decode cX8_takesLetter 7 = .ok (.goto 24, 3) := by decide +kernel
theorem dX8_takesLetter_10 : decode cX8_takesLetter 10 = .ok (.iload_n 1, 1) := by decide +kernel
theorem dX8_takesLetter_11 : decode cX8_takesLetter 11 = .ok (.bipush 115, 2) := by decide +kernel
theorem dX8_takesLetter_13 : decode cX8_takesLetter 13 = .ok (.if_icmp .ne 7, 3) := by decide +kernel
theorem dX8_takesLetter_16 : decode cX8_takesLetter 16 = .ok (.iconst 1, 1) := by decide +kernel
theorem dX8_takesLetter_17 : decode cX8_takesLetter 17 = .ok (.goto 14, 3) := by decide +kernel
theorem dX8_takesLetter_20 : decode cX8_takesLetter 20 = .ok (.iload_n 1, 1) := by decide +kernel
theorem dX8_takesLetter_21 : decode cX8_takesLetter 21 = .ok (.bipush 99, 2) := by decide +kernel
theorem dX8_takesLetter_23 : decode cX8_takesLetter 23 = .ok (.if_icmp .ne 7, 3) := by decide +kernel
theorem dX8_takesLetter_26 : decode cX8_takesLetter 26 = .ok (.iconst 2, 1) := by decide +kernel
theorem dX8_takesLetter_27 : decode cX8_takesLetter 27 = .ok (.goto 4, 3) := by decide +kernel
theorem dX8_takesLetter_30 : decode cX8_takesLetter 30 = .ok (.iconst (-1), 1) := by decide +kernel
theorem dX8_takesLetter_31 : decode cX8_takesLetter 31 = .ok (.istore_n 2, 1) := by decide +kernel
theorem dX8_takesLetter_32 : decode cX8_takesLetter 32 = .ok (.aload_n 0, 1) := by decide +kernel
theorem dX8_takesLetter_33 : decode cX8_takesLetter 33 = .ok (.getfield 22, 3) := by decide +kernel
theorem dX8_takesLetter_36 : decode cX8_takesLetter 36 = .ok (.iconst 3, 1) := by decide +kernel
theorem dX8_takesLetter_37 : decode cX8_takesLetter 37 = .ok (.aload_n 0, 1) := by decide +kernel
theorem dX8_takesLetter_38 : decode cX8_takesLetter 38 = .ok (.getfield 129, 3) := by decide +kernel
theorem dX8_takesLetter_41 : decode cX8_takesLetter 41 = .ok (.imul, 1) := by decide +kernel
theorem dX8_takesLetter_42 : decode cX8_takesLetter 42 = .ok (.iload_n 2, 1) := by decide +kernel
theorem dX8_takesLetter_43 : decode cX8_takesLetter 43 = .ok (.iastore, 1) := by decide +kernel
theorem dX8_takesLetter_44 : decode cX8_takesLetter 44 = .ok (.aload_n 0, 1) := by decide +kernel
theorem dX8_takesLetter_45 : decode cX8_takesLetter 45 = .ok (.getfield 22, 3) := by decide +kernel
theorem dX8_takesLetter_48 : decode cX8_takesLetter 48 = .ok (.iconst 3, 1) := by decide +kernel
theorem dX8_takesLetter_49 : decode cX8_takesLetter 49 = .ok (.aload_n 0, 1) := by decide +kernel
theorem dX8_takesLetter_50 : decode cX8_takesLetter 50 = .ok (.getfield 129, 3) := by decide +kernel
theorem dX8_takesLetter_53 : decode cX8_takesLetter 53 = .ok (.imul, 1) := by decide +kernel
theorem dX8_takesLetter_54 : decode cX8_takesLetter 54 = .ok (.iconst 1, 1) := by decide +kernel
theorem dX8_takesLetter_55 : decode cX8_takesLetter 55 = .ok (.iadd, 1) := by decide +kernel
theorem dX8_takesLetter_56 : decode cX8_takesLetter 56 = .ok (.iconst 0, 1) := by decide +kernel
theorem dX8_takesLetter_57 : decode cX8_takesLetter 57 = .ok (.iastore, 1) := by decide +kernel
theorem dX8_takesLetter_58 : decode cX8_takesLetter 58 = .ok (.aload_n 0, 1) := by decide +kernel
theorem dX8_takesLetter_59 : decode cX8_takesLetter 59 = .ok (.getfield 22, 3) := by decide +kernel
theorem dX8_takesLetter_62 : decode cX8_takesLetter 62 = .ok (.iconst 3, 1) := by decide +kernel
theorem dX8_takesLetter_63 : decode cX8_takesLetter 63 = .ok (.aload_n 0, 1) := by decide +kernel
theorem dX8_takesLetter_64 : decode cX8_takesLetter 64 = .ok (.getfield 129, 3) := by decide +kernel
theorem dX8_takesLetter_67 : decode cX8_takesLetter 67 = .ok (.imul, 1) := by decide +kernel
theorem dX8_takesLetter_68 : decode cX8_takesLetter 68 = .ok (.iconst 2, 1) := by decide +kernel
theorem dX8_takesLetter_69 : decode cX8_takesLetter 69 = .ok (.iadd, 1) := by decide +kernel
theorem dX8_takesLetter_70 : decode cX8_takesLetter 70 = .ok (.iconst 0, 1) := by decide +kernel
theorem dX8_takesLetter_71 : decode cX8_takesLetter 71 = .ok (.iastore, 1) := by decide +kernel
theorem dX8_takesLetter_72 : decode cX8_takesLetter 72 = .ok (.aload_n 0, 1) := by decide +kernel
theorem dX8_takesLetter_73 : decode cX8_takesLetter 73 = .ok (.iconst 1, 1) := by decide +kernel
theorem dX8_takesLetter_74 : decode cX8_takesLetter 74 = .ok (.putfield 132, 3) := by decide +kernel
theorem dX8_takesLetter_77 : decode cX8_takesLetter 77 = .ok (.iload_n 2, 1) := by decide +kernel
theorem dX8_takesLetter_78 : decode cX8_takesLetter 78 = .ok (.iconst (-1), 1) := by decide +kernel
theorem dX8_takesLetter_79 : decode cX8_takesLetter 79 = .ok (.if_icmp .eq 7, 3) := by decide +kernel
theorem dX8_takesLetter_82 : decode cX8_takesLetter 82 = .ok (.iconst 1, 1) := by decide +kernel
theorem dX8_takesLetter_83 : decode cX8_takesLetter 83 = .ok (.goto 4, 3) := by decide +kernel
theorem dX8_takesLetter_86 : decode cX8_takesLetter 86 = .ok (.iconst 0, 1) := by decide +kernel
theorem dX8_takesLetter_87 : decode cX8_takesLetter 87 = .ok (.ireturn, 1) := by decide +kernel
theorem dX8_takes__0 : decode cX8_takes_ 0 = .ok (.aload_n 0, 1) := by decide +kernel
theorem dX8_takes__1 : decode cX8_takes_ 1 = .ok (.getfield 132, 3) := by decide +kernel
theorem dX8_takes__4 : decode cX8_takes_ 4 = .ok (.ifCond .ne 9, 3) := by decide +kernel
theorem dX8_takes__7 : decode cX8_takes_ 7 = .ok (.aload_n 0, 1) := by decide +kernel
theorem dX8_takes__8 : decode cX8_takes_ 8 = .ok (.iload_n 1, 1) := by decide +kernel
theorem dX8_takes__9 : decode cX8_takes_ 9 = .ok (.invokevirtual 135, 3) := by decide +kernel
theorem dX8_takes__12 : decode cX8_takes_ 12 = .ok (.ireturn, 1) := by decide +kernel
theorem dX8_takes__13 : decode cX8_takes_ 13 = .ok (.aload_n 0, 1) := by decide +kernel
theorem dX8_takes__14 : decode cX8_takes_ 14 = .ok (.getfield 22, 3) := by decide +kernel
theorem dX8_takes__17 : decode cX8_takes_ 17 = .ok (.iconst 3, 1) := by decide +kernel
theorem dX8_takes__18 : decode cX8_takes_ 18 = .ok (.aload_n 0, 1) := by decide +kernel
theorem dX8_takes__19 : decode cX8_takes_ 19 = .ok (.getfield 129, 3) := by decide +kernel
theorem dX8_takes__22 : decode cX8_takes_ 22 = .ok (.imul, 1) := by decide +kernel
theorem dX8_takes__23 : decode cX8_takes_ 23 = .ok (.aload_n 0, 1) := by decide +kernel
theorem dX8_takes__24 : decode cX8_takes_ 24 = .ok (.getfield 132, 3) := by decide +kernel
theorem dX8_takes__27 : decode cX8_takes_ 27 = .ok (.iadd, 1) := by decide +kernel
theorem dX8_takes__28 : decode cX8_takes_ 28 = .ok (.iaload, 1) := by decide +kernel
theorem dX8_takes__29 : decode cX8_takes_ 29 = .ok (.ifCond .le 7, 3) := by decide +kernel
theorem dX8_takes__32 : decode cX8_takes_ 32 = .ok (.iconst 1, 1) := by decide +kernel
theorem dX8_takes__33 : decode cX8_takes_ 33 = .ok (.goto 4, 3) := by decide +kernel
theorem dX8_takes__36 : decode cX8_takes_ 36 = .ok (.iconst 0, 1) := by decide +kernel
theorem dX8_takes__37 : decode cX8_takes_ 37 = .ok (.istore_n 2, 1) := by decide +kernel
theorem dX8_takes__38 : decode cX8_takes_ 38 = .ok (.aload_n 0, 1) := by decide +kernel
theorem dX8_takes__39 : decode cX8_takes_ 39 = .ok (.getfield 132, 3) := by decide +kernel
theorem dX8_takes__42 : decode cX8_takes_ 42 = .ok (.iconst 1, 1) := by decide +kernel
theorem dX8_takes__43 : decode cX8_takes_ 43 = .ok (.if_icmp .ne 20, 3) := by decide +kernel
theorem dX8_takes__46 : decode cX8_takes_ 46 = .ok (.iload_n 1, 1) := by decide +kernel
theorem dX8_takes__47 : decode cX8_takes_ 47 = .ok (.bipush 47, 2) := by decide +kernel
theorem dX8_takes__49 : decode cX8_takes_ 49 = .ok (.if_icmp .ne 14, 3) := by decide +kernel
theorem dX8_takes__52 : decode cX8_takes_ 52 = .ok (.iload_n 2, 1) := by decide +kernel
theorem dX8_takes__53 : decode cX8_takes_ 53 = .ok (.ifCond .eq 10, 3) := by decide +kernel
theorem dX8_takes__56 : decode cX8_takes_ 56 = .ok (.aload_n 0, 1) := by decide +kernel
theorem dX8_takes__57 : decode cX8_takes_ 57 = .ok (.iconst 2, 1) := by decide +kernel
theorem dX8_takes__58 : decode cX8_takes_ 58 = .ok (.putfield 132, 3) := by decide +kernel
theorem dX8_takes__61 : decode cX8_takes_ 61 = .ok (.iconst 1, 1) := by decide +kernel
theorem dX8_takes__62 : decode cX8_takes_ 62 = .ok (.ireturn, 1) := by decide +kernel
theorem dX8_takes__63 : decode cX8_takes_ 63 = .ok (.aload_n 0, 1) := by decide +kernel
theorem dX8_takes__64 : decode cX8_takes_ 64 = .ok (.getfield 132, 3) := by decide +kernel
theorem dX8_takes__67 : decode cX8_takes_ 67 = .ok (.iconst 2, 1) := by decide +kernel
theorem dX8_takes__68 : decode cX8_takes_ 68 = .ok (.if_icmp .ne 30, 3) := by decide +kernel
theorem dX8_takes__71 : decode cX8_takes_ 71 = .ok (.iload_n 1, 1) := by decide +kernel
theorem dX8_takes__72 : decode cX8_takes_ 72 = .ok (.bipush 44, 2) := by decide +kernel
theorem dX8_takes__74 : decode cX8_takes_ 74 = .ok (.if_icmp .ne 24, 3) := by decide +kernel
theorem dX8_takes__77 : decode cX8_takes_ 77 = .ok (.iload_n 2, 1) := by decide +kernel
theorem dX8_takes__78 : decode cX8_takes_ 78 = .ok (.ifCond .eq 20, 3) := by decide +kernel
theorem dX8_takes__81 : decode cX8_takes_ 81 = .ok (.aload_n 0, 1) := by decide +kernel
theorem dX8_takes__82 : decode cX8_takes_ 82 = .ok (.dup, 1) := by decide +kernel
theorem dX8_takes__83 : decode cX8_takes_ 83 = .ok (.getfield 129, 3) := by decide +kernel
theorem dX8_takes__86 : decode cX8_takes_ 86 = .ok (.iconst 1, 1) := by decide +kernel
theorem dX8_takes__87 : decode cX8_takes_ 87 = .ok (.iadd, 1) := by decide +kernel
theorem dX8_takes__88 : decode cX8_takes_ 88 = .ok (.putfield 129, 3) := by decide +kernel
theorem dX8_takes__91 : decode cX8_takes_ 91 = .ok (.aload_n 0, 1) := by decide +kernel
theorem dX8_takes__92 : decode cX8_takes_ 92 = .ok (.iconst 0, 1) := by decide +kernel
theorem dX8_takes__93 : decode cX8_takes_ 93 = .ok (.putfield 132, 3) := by decide +kernel
theorem dX8_takes__96 : decode cX8_takes_ 96 = .ok (.iconst 1, 1) := by decide +kernel
theorem dX8_takes__97 : decode cX8_takes_ 97 = .ok (.ireturn, 1) := by decide +kernel
theorem dX8_takes__98 : decode cX8_takes_ 98 = .ok (.aload_n 0, 1) := by decide +kernel
theorem dX8_takes__99 : decode cX8_takes_ 99 = .ok (.iload_n 1, 1) := by decide +kernel
theorem dX8_takes__100 : decode cX8_takes_ 100 = .ok (.invokevirtual 138, 3) := by decide +kernel
theorem dX8_takes__103 : decode cX8_takes_ 103 = .ok (.ireturn, 1) := by decide +kernel
theorem dX8_rightUpTo_0 : decode cX8_rightUpTo 0 = .ok (.aload_n 0, 1) := by decide +kernel
theorem dX8_rightUpTo_1 : decode cX8_rightUpTo 1 = .ok (.iconst 0, 1) := by decide +kernel
theorem dX8_rightUpTo_2 : decode cX8_rightUpTo 2 = .ok (.putfield 129, 3) := by decide +kernel
theorem dX8_rightUpTo_5 : decode cX8_rightUpTo 5 = .ok (.aload_n 0, 1) := by decide +kernel
theorem dX8_rightUpTo_6 : decode cX8_rightUpTo 6 = .ok (.iconst 0, 1) := by decide +kernel
theorem dX8_rightUpTo_7 : decode cX8_rightUpTo 7 = .ok (.putfield 132, 3) := by decide +kernel
theorem dX8_rightUpTo_10 : decode cX8_rightUpTo 10 = .ok (.iconst 0, 1) := by decide +kernel
theorem dX8_rightUpTo_11 : decode cX8_rightUpTo 11 = .ok (.istore_n 1, 1) := by decide +kernel
theorem dX8_rightUpTo_12 : decode cX8_rightUpTo 12 = .ok (.iload_n 1, 1) := by decide +kernel
theorem dX8_rightUpTo_13 : decode cX8_rightUpTo 13 = .ok (.aload_n 0, 1) := by decide +kernel
theorem dX8_rightUpTo_14 : decode cX8_rightUpTo 14 = .ok (.getfield 126, 3) := by decide +kernel
theorem dX8_rightUpTo_17 : decode cX8_rightUpTo 17 = .ok (.if_icmp .ge 22, 3) := by decide +kernel
theorem dX8_rightUpTo_20 : decode cX8_rightUpTo 20 = .ok (.aload_n 0, 1) := by decide +kernel
theorem dX8_rightUpTo_21 : decode cX8_rightUpTo 21 = .ok (.aload_n 0, 1) := by decide +kernel
theorem dX8_rightUpTo_22 : decode cX8_rightUpTo 22 = .ok (.getfield 16, 3) := by decide +kernel
theorem dX8_rightUpTo_25 : decode cX8_rightUpTo 25 = .ok (.iload_n 1, 1) := by decide +kernel
theorem dX8_rightUpTo_26 : decode cX8_rightUpTo 26 = .ok (.iaload, 1) := by decide +kernel
theorem dX8_rightUpTo_27 : decode cX8_rightUpTo 27 = .ok (.invokevirtual 141, 3) := by decide +kernel
theorem dX8_rightUpTo_30 : decode cX8_rightUpTo 30 = .ok (.ifCond .eq 9, 3) := by decide +kernel
theorem dX8_rightUpTo_33 : decode cX8_rightUpTo 33 = .ok (.iinc 1 1, 3) := by decide +kernel
theorem dX8_rightUpTo_36 : decode cX8_rightUpTo 36 = .ok (.goto (-24), 3) := by decide +kernel
theorem dX8_rightUpTo_39 : decode cX8_rightUpTo 39 = .ok (.iload_n 1, 1) := by decide +kernel
theorem dX8_rightUpTo_40 : decode cX8_rightUpTo 40 = .ok (.ireturn, 1) := by decide +kernel
theorem dX8_firstError_0 : decode cX8_firstError 0 = .ok (.aload_n 0, 1) := by decide +kernel
theorem dX8_firstError_1 : decode cX8_firstError 1 = .ok (.iconst 0, 1) := by decide +kernel
theorem dX8_firstError_2 : decode cX8_firstError 2 = .ok (.putfield 25, 3) := by decide +kernel
theorem dX8_firstError_5 : decode cX8_firstError 5 = .ok (.aload_n 0, 1) := by decide +kernel
theorem dX8_firstError_6 : decode cX8_firstError 6 = .ok (.invokevirtual 143, 3) := by decide +kernel
theorem dX8_firstError_9 : decode cX8_firstError 9 = .ok (.ireturn, 1) := by decide +kernel
theorem dX8_load_0 : decode cX8_load 0 = .ok (.aload_n 0, 1) := by decide +kernel
theorem dX8_load_1 : decode cX8_load 1 = .ok (.invokevirtual 143, 3) := by decide +kernel
theorem dX8_load_4 : decode cX8_load 4 = .ok (.aload_n 0, 1) := by decide +kernel
theorem dX8_load_5 : decode cX8_load 5 = .ok (.getfield 126, 3) := by decide +kernel
theorem dX8_load_8 : decode cX8_load 8 = .ok (.if_icmp .ne 31, 3) := by decide +kernel
theorem dX8_load_11 : decode cX8_load 11 = .ok (.aload_n 0, 1) := by decide +kernel
theorem dX8_load_12 : decode cX8_load 12 = .ok (.getfield 132, 3) := by decide +kernel
theorem dX8_load_15 : decode cX8_load 15 = .ok (.iconst 2, 1) := by decide +kernel
theorem dX8_load_16 : decode cX8_load 16 = .ok (.if_icmp .ne 23, 3) := by decide +kernel
theorem dX8_load_19 : decode cX8_load 19 = .ok (.aload_n 0, 1) := by decide +kernel
theorem dX8_load_20 : decode cX8_load 20 = .ok (.getfield 22, 3) := by decide +kernel
theorem dX8_load_23 : decode cX8_load 23 = .ok (.iconst 3, 1) := by decide +kernel
theorem dX8_load_24 : decode cX8_load 24 = .ok (.aload_n 0, 1) := by decide +kernel
theorem dX8_load_25 : decode cX8_load 25 = .ok (.getfield 129, 3) := by decide +kernel
theorem dX8_load_28 : decode cX8_load 28 = .ok (.imul, 1) := by decide +kernel
theorem dX8_load_29 : decode cX8_load 29 = .ok (.iconst 2, 1) := by decide +kernel
theorem dX8_load_30 : decode cX8_load 30 = .ok (.iadd, 1) := by decide +kernel
theorem dX8_load_31 : decode cX8_load 31 = .ok (.iaload, 1) := by decide +kernel
theorem dX8_load_32 : decode cX8_load 32 = .ok (.ifCond .le 7, 3) := by decide +kernel
theorem dX8_load_35 : decode cX8_load 35 = .ok (.iconst 1, 1) := by decide +kernel
theorem dX8_load_36 : decode cX8_load 36 = .ok (.goto 4, 3) := by decide +kernel
theorem dX8_load_39 : decode cX8_load 39 = .ok (.iconst 0, 1) := by decide +kernel
theorem dX8_load_40 : decode cX8_load 40 = .ok (.istore_n 1, 1) := by decide +kernel
theorem dX8_load_41 : decode cX8_load 41 = .ok (.aload_n 0, 1) := by decide +kernel
theorem dX8_load_42 : decode cX8_load 42 = .ok (.iload_n 1, 1) := by decide +kernel
theorem dX8_load_43 : decode cX8_load 43 = .ok (.ifCond .ne 7, 3) := by decide +kernel
theorem dX8_load_46 : decode cX8_load 46 = .ok (.iconst 1, 1) := by decide +kernel
theorem dX8_load_47 : decode cX8_load 47 = .ok (.goto 19, 3) := by decide +kernel
theorem dX8_load_50 : decode cX8_load 50 = .ok (.aload_n 0, 1) := by decide +kernel
theorem dX8_load_51 : decode cX8_load 51 = .ok (.getfield 129, 3) := by decide +kernel
theorem dX8_load_54 : decode cX8_load 54 = .ok (.iconst 1, 1) := by decide +kernel
theorem dX8_load_55 : decode cX8_load 55 = .ok (.iadd, 1) := by decide +kernel
theorem dX8_load_56 : decode cX8_load 56 = .ok (.bipush 6, 2) := by decide +kernel
theorem dX8_load_58 : decode cX8_load 58 = .ok (.if_icmp .le 7, 3) := by decide +kernel
theorem dX8_load_61 : decode cX8_load 61 = .ok (.iconst 2, 1) := by decide +kernel
theorem dX8_load_62 : decode cX8_load 62 = .ok (.goto 4, 3) := by decide +kernel
theorem dX8_load_65 : decode cX8_load 65 = .ok (.iconst 0, 1) := by decide +kernel
theorem dX8_load_66 : decode cX8_load 66 = .ok (.putfield 25, 3) := by decide +kernel
theorem dX8_load_69 : decode cX8_load 69 = .ok (.aload_n 0, 1) := by decide +kernel
theorem dX8_load_70 : decode cX8_load 70 = .ok (.getfield 25, 3) := by decide +kernel
theorem dX8_load_73 : decode cX8_load 73 = .ok (.ifCond .le 5, 3) := by decide +kernel
theorem dX8_load_76 : decode cX8_load 76 = .ok (.iconst 0, 1) := by decide +kernel
theorem dX8_load_77 : decode cX8_load 77 = .ok (.ireturn, 1) := by decide +kernel
theorem dX8_load_78 : decode cX8_load 78 = .ok (.aload_n 0, 1) := by decide +kernel
theorem dX8_load_79 : decode cX8_load 79 = .ok (.invokevirtual 102, 3) := by decide +kernel
theorem dX8_load_82 : decode cX8_load 82 = .ok (.aload_n 0, 1) := by decide +kernel
theorem dX8_load_83 : decode cX8_load 83 = .ok (.iconst 0, 1) := by decide +kernel
theorem dX8_load_84 : decode cX8_load 84 = .ok (.putfield 126, 3) := by decide +kernel
theorem dX8_load_87 : decode cX8_load 87 = .ok (.aload_n 0, 1) := by decide +kernel
theorem dX8_load_88 : decode cX8_load 88 = .ok (.getfield 7, 3) := by decide +kernel
theorem dX8_load_91 : decode cX8_load 91 = .ok (.bipush 21, 2) := by decide +kernel
theorem dX8_load_93 : decode cX8_load 93 = .ok (.iconst 0, 1) := by decide +kernel
theorem dX8_load_94 : decode cX8_load 94 = .ok (.iastore, 1) := by decide +kernel
theorem dX8_load_95 : decode cX8_load 95 = .ok (.iconst 0, 1) := by decide +kernel
theorem dX8_load_96 : decode cX8_load 96 = .ok (.istore_n 2, 1) := by decide +kernel
theorem dX8_load_97 : decode cX8_load 97 = .ok (.iload_n 2, 1) := by decide +kernel
theorem dX8_load_98 : decode cX8_load 98 = .ok (.aload_n 0, 1) := by decide +kernel
theorem dX8_load_99 : decode cX8_load 99 = .ok (.getfield 129, 3) := by decide +kernel
theorem dX8_load_102 : decode cX8_load 102 = .ok (.if_icmp .gt 41, 3) := by decide +kernel
theorem dX8_load_105 : decode cX8_load 105 = .ok (.aload_n 0, 1) := by decide +kernel
theorem dX8_load_106 : decode cX8_load 106 = .ok (.aload_n 0, 1) := by decide +kernel
theorem dX8_load_107 : decode cX8_load 107 = .ok (.getfield 22, 3) := by decide +kernel
theorem dX8_load_110 : decode cX8_load 110 = .ok (.iconst 3, 1) := by decide +kernel
theorem dX8_load_111 : decode cX8_load 111 = .ok (.iload_n 2, 1) := by decide +kernel
theorem dX8_load_112 : decode cX8_load 112 = .ok (.imul, 1) := by decide +kernel
theorem dX8_load_113 : decode cX8_load 113 = .ok (.iaload, 1) := by decide +kernel
theorem dX8_load_114 : decode cX8_load 114 = .ok (.aload_n 0, 1) := by decide +kernel
theorem dX8_load_115 : decode cX8_load 115 = .ok (.getfield 22, 3) := by decide +kernel
theorem dX8_load_118 : decode cX8_load 118 = .ok (.iconst 3, 1) := by decide +kernel
theorem dX8_load_119 : decode cX8_load 119 = .ok (.iload_n 2, 1) := by decide +kernel
theorem dX8_load_120 : decode cX8_load 120 = .ok (.imul, 1) := by decide +kernel
theorem dX8_load_121 : decode cX8_load 121 = .ok (.iconst 1, 1) := by decide +kernel
theorem dX8_load_122 : decode cX8_load 122 = .ok (.iadd, 1) := by decide +kernel
theorem dX8_load_123 : decode cX8_load 123 = .ok (.iaload, 1) := by decide +kernel
theorem dX8_load_124 : decode cX8_load 124 = .ok (.aload_n 0, 1) := by decide +kernel
theorem dX8_load_125 : decode cX8_load 125 = .ok (.getfield 22, 3) := by decide +kernel
theorem dX8_load_128 : decode cX8_load 128 = .ok (.iconst 3, 1) := by decide +kernel
theorem dX8_load_129 : decode cX8_load 129 = .ok (.iload_n 2, 1) := by decide +kernel
theorem dX8_load_130 : decode cX8_load 130 = .ok (.imul, 1) := by decide +kernel
theorem dX8_load_131 : decode cX8_load 131 = .ok (.iconst 2, 1) := by decide +kernel
theorem dX8_load_132 : decode cX8_load 132 = .ok (.iadd, 1) := by decide +kernel
theorem dX8_load_133 : decode cX8_load 133 = .ok (.iaload, 1) := by decide +kernel
theorem dX8_load_134 : decode cX8_load 134 = .ok (.invokevirtual 115, 3) := by decide +kernel
theorem dX8_load_137 : decode cX8_load 137 = .ok (.iinc 2 1, 3) := by decide +kernel
theorem dX8_load_140 : decode cX8_load 140 = .ok (.goto (-43), 3) := by decide +kernel
theorem dX8_load_143 : decode cX8_load 143 = .ok (.aload_n 0, 1) := by decide +kernel
theorem dX8_load_144 : decode cX8_load 144 = .ok (.getfield 7, 3) := by decide +kernel
theorem dX8_load_147 : decode cX8_load 147 = .ok (.bipush 21, 2) := by decide +kernel
theorem dX8_load_149 : decode cX8_load 149 = .ok (.iaload, 1) := by decide +kernel
theorem dX8_load_150 : decode cX8_load 150 = .ok (.ireturn, 1) := by decide +kernel
theorem dX8_undo_0 : decode cX8_undo 0 = .ok (.aload_n 0, 1) := by decide +kernel
theorem dX8_undo_1 : decode cX8_undo 1 = .ok (.aload_n 0, 1) := by decide +kernel
theorem dX8_undo_2 : decode cX8_undo 2 = .ok (.getfield 29, 3) := by decide +kernel
theorem dX8_undo_5 : decode cX8_undo 5 = .ok (.ifCond .le 7, 3) := by decide +kernel
theorem dX8_undo_8 : decode cX8_undo 8 = .ok (.iconst 0, 1) := by decide +kernel
theorem dX8_undo_9 : decode cX8_undo 9 = .ok (.goto 4, 3) := by decide +kernel
theorem dX8_undo_12 : decode cX8_undo 12 = .ok (.iconst 1, 1) := by decide +kernel
theorem dX8_undo_13 : decode cX8_undo 13 = .ok (.putfield 25, 3) := by decide +kernel
theorem dX8_undo_16 : decode cX8_undo 16 = .ok (.aload_n 0, 1) := by decide +kernel
theorem dX8_undo_17 : decode cX8_undo 17 = .ok (.getfield 25, 3) := by decide +kernel
theorem dX8_undo_20 : decode cX8_undo 20 = .ok (.ifCond .le 5, 3) := by decide +kernel
theorem dX8_undo_23 : decode cX8_undo 23 = .ok (.iconst 0, 1) := by decide +kernel
theorem dX8_undo_24 : decode cX8_undo 24 = .ok (.ireturn, 1) := by decide +kernel
theorem dX8_undo_25 : decode cX8_undo 25 = .ok (.aload_n 0, 1) := by decide +kernel
theorem dX8_undo_26 : decode cX8_undo 26 = .ok (.dup, 1) := by decide +kernel
theorem dX8_undo_27 : decode cX8_undo 27 = .ok (.getfield 29, 3) := by decide +kernel
theorem dX8_undo_30 : decode cX8_undo 30 = .ok (.iconst 1, 1) := by decide +kernel
theorem dX8_undo_31 : decode cX8_undo 31 = .ok (.isub, 1) := by decide +kernel
theorem dX8_undo_32 : decode cX8_undo 32 = .ok (.putfield 29, 3) := by decide +kernel
theorem dX8_undo_35 : decode cX8_undo 35 = .ok (.iconst 0, 1) := by decide +kernel
theorem dX8_undo_36 : decode cX8_undo 36 = .ok (.istore_n 1, 1) := by decide +kernel
theorem dX8_undo_37 : decode cX8_undo 37 = .ok (.iload_n 1, 1) := by decide +kernel
theorem dX8_undo_38 : decode cX8_undo 38 = .ok (.bipush 67, 2) := by decide +kernel
theorem dX8_undo_40 : decode cX8_undo 40 = .ok (.if_icmp .ge 29, 3) := by decide +kernel
theorem dX8_undo_43 : decode cX8_undo 43 = .ok (.aload_n 0, 1) := by decide +kernel
theorem dX8_undo_44 : decode cX8_undo 44 = .ok (.getfield 7, 3) := by decide +kernel
theorem dX8_undo_47 : decode cX8_undo 47 = .ok (.iload_n 1, 1) := by decide +kernel
theorem dX8_undo_48 : decode cX8_undo 48 = .ok (.aload_n 0, 1) := by decide +kernel
theorem dX8_undo_49 : decode cX8_undo 49 = .ok (.getfield 13, 3) := by decide +kernel
theorem dX8_undo_52 : decode cX8_undo 52 = .ok (.bipush 67, 2) := by decide +kernel
theorem dX8_undo_54 : decode cX8_undo 54 = .ok (.aload_n 0, 1) := by decide +kernel
theorem dX8_undo_55 : decode cX8_undo 55 = .ok (.getfield 29, 3) := by decide +kernel
theorem dX8_undo_58 : decode cX8_undo 58 = .ok (.imul, 1) := by decide +kernel
theorem dX8_undo_59 : decode cX8_undo 59 = .ok (.iload_n 1, 1) := by decide +kernel
theorem dX8_undo_60 : decode cX8_undo 60 = .ok (.iadd, 1) := by decide +kernel
theorem dX8_undo_61 : decode cX8_undo 61 = .ok (.iaload, 1) := by decide +kernel
theorem dX8_undo_62 : decode cX8_undo 62 = .ok (.iastore, 1) := by decide +kernel
theorem dX8_undo_63 : decode cX8_undo 63 = .ok (.iinc 1 1, 3) := by decide +kernel
theorem dX8_undo_66 : decode cX8_undo 66 = .ok (.goto (-29), 3) := by decide +kernel
theorem dX8_undo_69 : decode cX8_undo 69 = .ok (.aload_n 0, 1) := by decide +kernel
theorem dX8_undo_70 : decode cX8_undo 70 = .ok (.getfield 29, 3) := by decide +kernel
theorem dX8_undo_73 : decode cX8_undo 73 = .ok (.ireturn, 1) := by decide +kernel
theorem dX8_weightNow_0 : decode cX8_weightNow 0 = .ok (.aload_n 0, 1) := by decide +kernel
theorem dX8_weightNow_1 : decode cX8_weightNow 1 = .ok (.getfield 7, 3) := by decide +kernel
theorem dX8_weightNow_4 : decode cX8_weightNow 4 = .ok (.iconst 3, 1) := by decide +kernel
theorem dX8_weightNow_5 : decode cX8_weightNow 5 = .ok (.iload_n 2, 1) := by decide +kernel
theorem dX8_weightNow_6 : decode cX8_weightNow 6 = .ok (.imul, 1) := by decide +kernel
theorem dX8_weightNow_7 : decode cX8_weightNow 7 = .ok (.iload_n 1, 1) := by decide +kernel
theorem dX8_weightNow_8 : decode cX8_weightNow 8 = .ok (.iadd, 1) := by decide +kernel
theorem dX8_weightNow_9 : decode cX8_weightNow 9 = .ok (.iaload, 1) := by decide +kernel
theorem dX8_weightNow_10 : decode cX8_weightNow 10 = .ok (.ireturn, 1) := by decide +kernel
theorem dX8_weight_0 : decode cX8_weight 0 = .ok (.aload_n 0, 1) := by decide +kernel
theorem dX8_weight_1 : decode cX8_weight 1 = .ok (.iload_n 1, 1) := by decide +kernel
theorem dX8_weight_2 : decode cX8_weight 2 = .ok (.invokestatic 96, 3) := by decide +kernel
theorem dX8_weight_5 : decode cX8_weight 5 = .ok (.ifCond .ne 7, 3) := by decide +kernel
theorem dX8_weight_8 : decode cX8_weight 8 = .ok (.iconst 1, 1) := by decide +kernel
theorem dX8_weight_9 : decode cX8_weight 9 = .ok (.goto 17, 3) := by decide +kernel
theorem dX8_weight_12 : decode cX8_weight 12 = .ok (.iload_n 2, 1) := by decide +kernel
theorem dX8_weight_13 : decode cX8_weight 13 = .ok (.iconst 0, 1) := by decide +kernel
theorem dX8_weight_14 : decode cX8_weight 14 = .ok (.iconst 2, 1) := by decide +kernel
theorem dX8_weight_15 : decode cX8_weight 15 = .ok (.invokestatic 92, 3) := by decide +kernel
theorem dX8_weight_18 : decode cX8_weight 18 = .ok (.ifCond .eq 7, 3) := by decide +kernel
theorem dX8_weight_21 : decode cX8_weight 21 = .ok (.iconst 0, 1) := by decide +kernel
theorem dX8_weight_22 : decode cX8_weight 22 = .ok (.goto 4, 3) := by decide +kernel
theorem dX8_weight_25 : decode cX8_weight 25 = .ok (.iconst 2, 1) := by decide +kernel
theorem dX8_weight_26 : decode cX8_weight 26 = .ok (.putfield 25, 3) := by decide +kernel
theorem dX8_weight_29 : decode cX8_weight 29 = .ok (.aload_n 0, 1) := by decide +kernel
theorem dX8_weight_30 : decode cX8_weight 30 = .ok (.getfield 25, 3) := by decide +kernel
theorem dX8_weight_33 : decode cX8_weight 33 = .ok (.ifCond .le 7, 3) := by decide +kernel
theorem dX8_weight_36 : decode cX8_weight 36 = .ok (.iconst 0, 1) := by decide +kernel
theorem dX8_weight_37 : decode cX8_weight 37 = .ok (.goto 9, 3) := by decide +kernel
theorem dX8_weight_40 : decode cX8_weight 40 = .ok (.aload_n 0, 1) := by decide +kernel
theorem dX8_weight_41 : decode cX8_weight 41 = .ok (.iload_n 1, 1) := by decide +kernel
theorem dX8_weight_42 : decode cX8_weight 42 = .ok (.iload_n 2, 1) := by decide +kernel
theorem dX8_weight_43 : decode cX8_weight 43 = .ok (.invokevirtual 146, 3) := by decide +kernel
theorem dX8_weight_46 : decode cX8_weight 46 = .ok (.ireturn, 1) := by decide +kernel
theorem dX8_winderNow_0 : decode cX8_winderNow 0 = .ok (.iload_n 1, 1) := by decide +kernel
theorem dX8_winderNow_1 : decode cX8_winderNow 1 = .ok (.invokestatic 36, 3) := by decide +kernel
theorem dX8_winderNow_4 : decode cX8_winderNow 4 = .ok (.istore_n 3, 1) := by decide +kernel
theorem dX8_winderNow_5 : decode cX8_winderNow 5 = .ok (.iload_n 2, 1) := by decide +kernel
theorem dX8_winderNow_6 : decode cX8_winderNow 6 = .ok (.tableswitch 86 3 5 #[26, 55, 64], 26) := by decide +kernel
theorem dX8_winderNow_32 : decode cX8_winderNow 32 = .ok (.aload_n 0, 1) := by decide +kernel
theorem dX8_winderNow_33 : decode cX8_winderNow 33 = .ok (.iload_n 1, 1) := by decide +kernel
theorem dX8_winderNow_34 : decode cX8_winderNow 34 = .ok (.invokevirtual 39, 3) := by decide +kernel
theorem dX8_winderNow_37 : decode cX8_winderNow 37 = .ok (.ifCond .eq 7, 3) := by decide +kernel
theorem dX8_winderNow_40 : decode cX8_winderNow 40 = .ok (.iconst 0, 1) := by decide +kernel
theorem dX8_winderNow_41 : decode cX8_winderNow 41 = .ok (.goto 19, 3) := by decide +kernel
theorem dX8_winderNow_44 : decode cX8_winderNow 44 = .ok (.aload_n 0, 1) := by decide +kernel
theorem dX8_winderNow_45 : decode cX8_winderNow 45 = .ok (.getfield 7, 3) := by decide +kernel
theorem dX8_winderNow_48 : decode cX8_winderNow 48 = .ok (.iload_n 3, 1) := by decide +kernel
theorem dX8_winderNow_49 : decode cX8_winderNow 49 = .ok (.iconst 3, 1) := by decide +kernel
theorem dX8_winderNow_50 : decode cX8_winderNow 50 = .ok (.iadd, 1) := by decide +kernel
theorem dX8_winderNow_51 : decode cX8_winderNow 51 = .ok (.iaload, 1) := by decide +kernel
theorem dX8_winderNow_52 : decode cX8_winderNow 52 = .ok (.aload_n 0, 1) := by decide +kernel
theorem dX8_winderNow_53 : decode cX8_winderNow 53 = .ok (.getfield 7, 3) := by decide +kernel
theorem dX8_winderNow_56 : decode cX8_winderNow 56 = .ok (.bipush 13, 2) := by decide +kernel
theorem dX8_winderNow_58 : decode cX8_winderNow 58 = .ok (.iaload, 1) := by decide +kernel
theorem dX8_winderNow_59 : decode cX8_winderNow 59 = .ok (.isub, 1) := by decide +kernel
theorem dX8_winderNow_60 : decode cX8_winderNow 60 = .ok (.ireturn, 1) := by decide +kernel
theorem dX8_winderNow_61 : decode cX8_winderNow 61 = .ok (.aload_n 0, 1) := by decide +kernel
theorem dX8_winderNow_62 : decode cX8_winderNow 62 = .ok (.getfield 7, 3) := by decide +kernel
theorem dX8_winderNow_65 : decode cX8_winderNow 65 = .ok (.iload_n 3, 1) := by decide +kernel
theorem dX8_winderNow_66 : decode cX8_winderNow 66 = .ok (.iconst 4, 1) := by decide +kernel
theorem dX8_winderNow_67 : decode cX8_winderNow 67 = .ok (.iadd, 1) := by decide +kernel
theorem dX8_winderNow_68 : decode cX8_winderNow 68 = .ok (.iaload, 1) := by decide +kernel
theorem dX8_winderNow_69 : decode cX8_winderNow 69 = .ok (.ireturn, 1) := by decide +kernel
theorem dX8_winderNow_70 : decode cX8_winderNow 70 = .ok (.aload_n 0, 1) := by decide +kernel
theorem dX8_winderNow_71 : decode cX8_winderNow 71 = .ok (.iload_n 1, 1) := by decide +kernel
theorem dX8_winderNow_72 : decode cX8_winderNow 72 = .ok (.invokevirtual 39, 3) := by decide +kernel
theorem dX8_winderNow_75 : decode cX8_winderNow 75 = .ok (.ifCond .eq 15, 3) := by decide +kernel
theorem dX8_winderNow_78 : decode cX8_winderNow 78 = .ok (.aload_n 0, 1) := by decide +kernel
theorem dX8_winderNow_79 : decode cX8_winderNow 79 = .ok (.iload_n 1, 1) := by decide +kernel
theorem dX8_winderNow_80 : decode cX8_winderNow 80 = .ok (.invokevirtual 43, 3) := by decide +kernel
theorem dX8_winderNow_83 : decode cX8_winderNow 83 = .ok (.ifCond .eq 7, 3) := by decide +kernel
theorem dX8_winderNow_86 : decode cX8_winderNow 86 = .ok (.iconst 1, 1) := by decide +kernel
theorem dX8_winderNow_87 : decode cX8_winderNow 87 = .ok (.goto 4, 3) := by decide +kernel
theorem dX8_winderNow_90 : decode cX8_winderNow 90 = .ok (.iconst 0, 1) := by decide +kernel
theorem dX8_winderNow_91 : decode cX8_winderNow 91 = .ok (.ireturn, 1) := by decide +kernel
theorem dX8_winderNow_92 : decode cX8_winderNow 92 = .ok (.aload_n 0, 1) := by decide +kernel
theorem dX8_winderNow_93 : decode cX8_winderNow 93 = .ok (.getfield 7, 3) := by decide +kernel
theorem dX8_winderNow_96 : decode cX8_winderNow 96 = .ok (.iload_n 3, 1) := by decide +kernel
theorem dX8_winderNow_97 : decode cX8_winderNow 97 = .ok (.iload_n 2, 1) := by decide +kernel
theorem dX8_winderNow_98 : decode cX8_winderNow 98 = .ok (.iadd, 1) := by decide +kernel
theorem dX8_winderNow_99 : decode cX8_winderNow 99 = .ok (.iaload, 1) := by decide +kernel
theorem dX8_winderNow_100 : decode cX8_winderNow 100 = .ok (.ireturn, 1) := by decide +kernel
theorem dX8_winder_0 : decode cX8_winder 0 = .ok (.aload_n 0, 1) := by decide +kernel
theorem dX8_winder_1 : decode cX8_winder 1 = .ok (.aload_n 0, 1) := by decide +kernel
theorem dX8_winder_2 : decode cX8_winder 2 = .ok (.iload_n 1, 1) := by decide +kernel
theorem dX8_winder_3 : decode cX8_winder 3 = .ok (.invokevirtual 119, 3) := by decide +kernel
theorem dX8_winder_6 : decode cX8_winder 6 = .ok (.ifCond .ne 7, 3) := by decide +kernel
theorem dX8_winder_9 : decode cX8_winder 9 = .ok (.iconst 1, 1) := by decide +kernel
theorem dX8_winder_10 : decode cX8_winder 10 = .ok (.goto 17, 3) := by decide +kernel
theorem dX8_winder_13 : decode cX8_winder 13 = .ok (.iload_n 2, 1) := by decide +kernel
theorem dX8_winder_14 : decode cX8_winder 14 = .ok (.iconst 0, 1) := by decide +kernel
theorem dX8_winder_15 : decode cX8_winder 15 = .ok (.iconst 5, 1) := by decide +kernel
theorem dX8_winder_16 : decode cX8_winder 16 = .ok (.invokestatic 92, 3) := by decide +kernel
theorem dX8_winder_19 : decode cX8_winder 19 = .ok (.ifCond .eq 7, 3) := by decide +kernel
theorem dX8_winder_22 : decode cX8_winder 22 = .ok (.iconst 0, 1) := by decide +kernel
theorem dX8_winder_23 : decode cX8_winder 23 = .ok (.goto 4, 3) := by decide +kernel
theorem dX8_winder_26 : decode cX8_winder 26 = .ok (.iconst 2, 1) := by decide +kernel
theorem dX8_winder_27 : decode cX8_winder 27 = .ok (.putfield 25, 3) := by decide +kernel
theorem dX8_winder_30 : decode cX8_winder 30 = .ok (.aload_n 0, 1) := by decide +kernel
theorem dX8_winder_31 : decode cX8_winder 31 = .ok (.getfield 25, 3) := by decide +kernel
theorem dX8_winder_34 : decode cX8_winder 34 = .ok (.ifCond .le 7, 3) := by decide +kernel
theorem dX8_winder_37 : decode cX8_winder 37 = .ok (.iconst 0, 1) := by decide +kernel
theorem dX8_winder_38 : decode cX8_winder 38 = .ok (.goto 9, 3) := by decide +kernel
theorem dX8_winder_41 : decode cX8_winder 41 = .ok (.aload_n 0, 1) := by decide +kernel
theorem dX8_winder_42 : decode cX8_winder 42 = .ok (.iload_n 1, 1) := by decide +kernel
theorem dX8_winder_43 : decode cX8_winder 43 = .ok (.iload_n 2, 1) := by decide +kernel
theorem dX8_winder_44 : decode cX8_winder 44 = .ok (.invokevirtual 149, 3) := by decide +kernel
theorem dX8_winder_47 : decode cX8_winder 47 = .ok (.ireturn, 1) := by decide +kernel
theorem dX8_debt_0 : decode cX8_debt 0 = .ok (.aload_n 0, 1) := by decide +kernel
theorem dX8_debt_1 : decode cX8_debt 1 = .ok (.iload_n 1, 1) := by decide +kernel
theorem dX8_debt_2 : decode cX8_debt 2 = .ok (.iconst 0, 1) := by decide +kernel
theorem dX8_debt_3 : decode cX8_debt 3 = .ok (.aload_n 0, 1) := by decide +kernel
theorem dX8_debt_4 : decode cX8_debt 4 = .ok (.getfield 7, 3) := by decide +kernel
theorem dX8_debt_7 : decode cX8_debt 7 = .ok (.bipush 52, 2) := by decide +kernel
theorem dX8_debt_9 : decode cX8_debt 9 = .ok (.iaload, 1) := by decide +kernel
theorem dX8_debt_10 : decode cX8_debt 10 = .ok (.iconst 1, 1) := by decide +kernel
theorem dX8_debt_11 : decode cX8_debt 11 = .ok (.isub, 1) := by decide +kernel
theorem dX8_debt_12 : decode cX8_debt 12 = .ok (.invokestatic 92, 3) := by decide +kernel
theorem dX8_debt_15 : decode cX8_debt 15 = .ok (.ifCond .ne 7, 3) := by decide +kernel
theorem dX8_debt_18 : decode cX8_debt 18 = .ok (.iconst 1, 1) := by decide +kernel
theorem dX8_debt_19 : decode cX8_debt 19 = .ok (.goto 17, 3) := by decide +kernel
theorem dX8_debt_22 : decode cX8_debt 22 = .ok (.iload_n 2, 1) := by decide +kernel
theorem dX8_debt_23 : decode cX8_debt 23 = .ok (.iconst 0, 1) := by decide +kernel
theorem dX8_debt_24 : decode cX8_debt 24 = .ok (.iconst 1, 1) := by decide +kernel
theorem dX8_debt_25 : decode cX8_debt 25 = .ok (.invokestatic 92, 3) := by decide +kernel
theorem dX8_debt_28 : decode cX8_debt 28 = .ok (.ifCond .eq 7, 3) := by decide +kernel
theorem dX8_debt_31 : decode cX8_debt 31 = .ok (.iconst 0, 1) := by decide +kernel
theorem dX8_debt_32 : decode cX8_debt 32 = .ok (.goto 4, 3) := by decide +kernel
theorem dX8_debt_35 : decode cX8_debt 35 = .ok (.iconst 2, 1) := by decide +kernel
theorem dX8_debt_36 : decode cX8_debt 36 = .ok (.putfield 25, 3) := by decide +kernel
theorem dX8_debt_39 : decode cX8_debt 39 = .ok (.aload_n 0, 1) := by decide +kernel
theorem dX8_debt_40 : decode cX8_debt 40 = .ok (.getfield 25, 3) := by decide +kernel
theorem dX8_debt_43 : decode cX8_debt 43 = .ok (.ifCond .le 7, 3) := by decide +kernel
theorem dX8_debt_46 : decode cX8_debt 46 = .ok (.iconst 0, 1) := by decide +kernel
theorem dX8_debt_47 : decode cX8_debt 47 = .ok (.goto 16, 3) := by decide +kernel
theorem dX8_debt_50 : decode cX8_debt 50 = .ok (.aload_n 0, 1) := by decide +kernel
theorem dX8_debt_51 : decode cX8_debt 51 = .ok (.getfield 7, 3) := by decide +kernel
theorem dX8_debt_54 : decode cX8_debt 54 = .ok (.bipush 53, 2) := by decide +kernel
theorem dX8_debt_56 : decode cX8_debt 56 = .ok (.iconst 2, 1) := by decide +kernel
theorem dX8_debt_57 : decode cX8_debt 57 = .ok (.iload_n 1, 1) := by decide +kernel
theorem dX8_debt_58 : decode cX8_debt 58 = .ok (.imul, 1) := by decide +kernel
theorem dX8_debt_59 : decode cX8_debt 59 = .ok (.iadd, 1) := by decide +kernel
theorem dX8_debt_60 : decode cX8_debt 60 = .ok (.iload_n 2, 1) := by decide +kernel
theorem dX8_debt_61 : decode cX8_debt 61 = .ok (.iadd, 1) := by decide +kernel
theorem dX8_debt_62 : decode cX8_debt 62 = .ok (.iaload, 1) := by decide +kernel
theorem dX8_debt_63 : decode cX8_debt 63 = .ok (.ireturn, 1) := by decide +kernel
theorem dX8_counted_0 : decode cX8_counted 0 = .ok (.iload_n 1, 1) := by decide +kernel
theorem dX8_counted_1 : decode cX8_counted 1 = .ok (.tableswitch 190 0 17 #[87, 95, 103, 111, 119, 127, 135, 190, 190, 190, 190, 190, 190, 190, 140, 148, 172, 185], 87) := by decide +kernel
theorem dX8_counted_88 : decode cX8_counted 88 = .ok (.aload_n 0, 1) := by decide +kernel
theorem dX8_counted_89 : decode cX8_counted 89 = .ok (.getfield 7, 3) := by decide +kernel
theorem dX8_counted_92 : decode cX8_counted 92 = .ok (.bipush 13, 2) := by decide +kernel
theorem dX8_counted_94 : decode cX8_counted 94 = .ok (.iaload, 1) := by decide +kernel
theorem dX8_counted_95 : decode cX8_counted 95 = .ok (.ireturn, 1) := by decide +kernel
theorem dX8_counted_96 : decode cX8_counted 96 = .ok (.aload_n 0, 1) := by decide +kernel
theorem dX8_counted_97 : decode cX8_counted 97 = .ok (.getfield 7, 3) := by decide +kernel
theorem dX8_counted_100 : decode cX8_counted 100 = .ok (.bipush 10, 2) := by decide +kernel
theorem dX8_counted_102 : decode cX8_counted 102 = .ok (.iaload, 1) := by decide +kernel
theorem dX8_counted_103 : decode cX8_counted 103 = .ok (.ireturn, 1) := by decide +kernel
theorem dX8_counted_104 : decode cX8_counted 104 = .ok (.aload_n 0, 1) := by decide +kernel
theorem dX8_counted_105 : decode cX8_counted 105 = .ok (.getfield 7, 3) := by decide +kernel
theorem dX8_counted_108 : decode cX8_counted 108 = .ok (.bipush 9, 2) := by decide +kernel
theorem dX8_counted_110 : decode cX8_counted 110 = .ok (.iaload, 1) := by decide +kernel
theorem dX8_counted_111 : decode cX8_counted 111 = .ok (.ireturn, 1) := by decide +kernel
theorem dX8_counted_112 : decode cX8_counted 112 = .ok (.aload_n 0, 1) := by decide +kernel
theorem dX8_counted_113 : decode cX8_counted 113 = .ok (.getfield 7, 3) := by decide +kernel
theorem dX8_counted_116 : decode cX8_counted 116 = .ok (.bipush 11, 2) := by decide +kernel
theorem dX8_counted_118 : decode cX8_counted 118 = .ok (.iaload, 1) := by decide +kernel
theorem dX8_counted_119 : decode cX8_counted 119 = .ok (.ireturn, 1) := by decide +kernel
theorem dX8_counted_120 : decode cX8_counted 120 = .ok (.aload_n 0, 1) := by decide +kernel
theorem dX8_counted_121 : decode cX8_counted 121 = .ok (.getfield 7, 3) := by decide +kernel
theorem dX8_counted_124 : decode cX8_counted 124 = .ok (.bipush 12, 2) := by decide +kernel
theorem dX8_counted_126 : decode cX8_counted 126 = .ok (.iaload, 1) := by decide +kernel
theorem dX8_counted_127 : decode cX8_counted 127 = .ok (.ireturn, 1) := by decide +kernel
theorem dX8_counted_128 : decode cX8_counted 128 = .ok (.aload_n 0, 1) := by decide +kernel
theorem dX8_counted_129 : decode cX8_counted 129 = .ok (.getfield 7, 3) := by decide +kernel
theorem dX8_counted_132 : decode cX8_counted 132 = .ok (.bipush 52, 2) := by decide +kernel
theorem dX8_counted_134 : decode cX8_counted 134 = .ok (.iaload, 1) := by decide +kernel
theorem dX8_counted_135 : decode cX8_counted 135 = .ok (.ireturn, 1) := by decide +kernel
theorem dX8_counted_136 : decode cX8_counted 136 = .ok (.aload_n 0, 1) := by decide +kernel
theorem dX8_counted_137 : decode cX8_counted 137 = .ok (.invokevirtual 109, 3) := by decide +kernel
theorem dX8_counted_140 : decode cX8_counted 140 = .ok (.ireturn, 1) := by decide +kernel
theorem dX8_counted_141 : decode cX8_counted 141 = .ok (.aload_n 0, 1) := by decide +kernel
theorem dX8_counted_142 : decode cX8_counted 142 = .ok (.getfield 7, 3) := by decide +kernel
theorem dX8_counted_145 : decode cX8_counted 145 = .ok (.bipush 21, 2) := by decide +kernel
theorem dX8_counted_147 : decode cX8_counted 147 = .ok (.iaload, 1) := by decide +kernel
theorem dX8_counted_148 : decode cX8_counted 148 = .ok (.ireturn, 1) := by decide +kernel
theorem dX8_counted_149 : decode cX8_counted 149 = .ok (.aload_n 0, 1) := by decide +kernel
theorem dX8_counted_150 : decode cX8_counted 150 = .ok (.getfield 7, 3) := by decide +kernel
theorem dX8_counted_153 : decode cX8_counted 153 = .ok (.bipush 13, 2) := by decide +kernel
theorem dX8_counted_155 : decode cX8_counted 155 = .ok (.iaload, 1) := by decide +kernel
theorem dX8_counted_156 : decode cX8_counted 156 = .ok (.sipush 720, 3) := by decide +kernel
theorem dX8_counted_159 : decode cX8_counted 159 = .ok (.iadd, 1) := by decide +kernel
theorem dX8_counted_160 : decode cX8_counted 160 = .ok (.aload_n 0, 1) := by decide +kernel
theorem dX8_counted_161 : decode cX8_counted 161 = .ok (.getfield 7, 3) := by decide +kernel
theorem dX8_counted_164 : decode cX8_counted 164 = .ok (.bipush 10, 2) := by decide +kernel
theorem dX8_counted_166 : decode cX8_counted 166 = .ok (.iaload, 1) := by decide +kernel
theorem dX8_counted_167 : decode cX8_counted 167 = .ok (.isub, 1) := by decide +kernel
theorem dX8_counted_168 : decode cX8_counted 168 = .ok (.sipush 720, 3) := by decide +kernel
theorem dX8_counted_171 : decode cX8_counted 171 = .ok (.irem, 1) := by decide +kernel
theorem dX8_counted_172 : decode cX8_counted 172 = .ok (.ireturn, 1) := by decide +kernel
theorem dX8_counted_173 : decode cX8_counted 173 = .ok (.aload_n 0, 1) := by decide +kernel
theorem dX8_counted_174 : decode cX8_counted 174 = .ok (.invokevirtual 61, 3) := by decide +kernel
theorem dX8_counted_177 : decode cX8_counted 177 = .ok (.ifCond .eq 7, 3) := by decide +kernel
theorem dX8_counted_180 : decode cX8_counted 180 = .ok (.iconst 1, 1) := by decide +kernel
theorem dX8_counted_181 : decode cX8_counted 181 = .ok (.goto 4, 3) := by decide +kernel
theorem dX8_counted_184 : decode cX8_counted 184 = .ok (.iconst 0, 1) := by decide +kernel
theorem dX8_counted_185 : decode cX8_counted 185 = .ok (.ireturn, 1) := by decide +kernel
theorem dX8_counted_186 : decode cX8_counted 186 = .ok (.aload_n 0, 1) := by decide +kernel
theorem dX8_counted_187 : decode cX8_counted 187 = .ok (.getfield 29, 3) := by decide +kernel
theorem dX8_counted_190 : decode cX8_counted 190 = .ok (.ireturn, 1) := by decide +kernel
theorem dX8_counted_191 : decode cX8_counted 191 = .ok (.aload_n 0, 1) := by decide +kernel
theorem dX8_counted_192 : decode cX8_counted 192 = .ok (.getfield 7, 3) := by decide +kernel
theorem dX8_counted_195 : decode cX8_counted 195 = .ok (.bipush 14, 2) := by decide +kernel
theorem dX8_counted_197 : decode cX8_counted 197 = .ok (.iload_n 1, 1) := by decide +kernel
theorem dX8_counted_198 : decode cX8_counted 198 = .ok (.iadd, 1) := by decide +kernel
theorem dX8_counted_199 : decode cX8_counted 199 = .ok (.bipush 7, 2) := by decide +kernel
theorem dX8_counted_201 : decode cX8_counted 201 = .ok (.isub, 1) := by decide +kernel
theorem dX8_counted_202 : decode cX8_counted 202 = .ok (.iaload, 1) := by decide +kernel
theorem dX8_counted_203 : decode cX8_counted 203 = .ok (.ireturn, 1) := by decide +kernel
theorem dX8_count_0 : decode cX8_count 0 = .ok (.aload_n 0, 1) := by decide +kernel
theorem dX8_count_1 : decode cX8_count 1 = .ok (.iload_n 1, 1) := by decide +kernel
theorem dX8_count_2 : decode cX8_count 2 = .ok (.iconst 0, 1) := by decide +kernel
theorem dX8_count_3 : decode cX8_count 3 = .ok (.bipush 17, 2) := by decide +kernel
theorem dX8_count_5 : decode cX8_count 5 = .ok (.invokestatic 92, 3) := by decide +kernel
theorem dX8_count_8 : decode cX8_count 8 = .ok (.ifCond .eq 7, 3) := by decide +kernel
theorem dX8_count_11 : decode cX8_count 11 = .ok (.iconst 0, 1) := by decide +kernel
theorem dX8_count_12 : decode cX8_count 12 = .ok (.goto 4, 3) := by decide +kernel
theorem dX8_count_15 : decode cX8_count 15 = .ok (.iconst 1, 1) := by decide +kernel
theorem dX8_count_16 : decode cX8_count 16 = .ok (.putfield 25, 3) := by decide +kernel
theorem dX8_count_19 : decode cX8_count 19 = .ok (.aload_n 0, 1) := by decide +kernel
theorem dX8_count_20 : decode cX8_count 20 = .ok (.getfield 25, 3) := by decide +kernel
theorem dX8_count_23 : decode cX8_count 23 = .ok (.ifCond .le 7, 3) := by decide +kernel
theorem dX8_count_26 : decode cX8_count 26 = .ok (.iconst 0, 1) := by decide +kernel
theorem dX8_count_27 : decode cX8_count 27 = .ok (.goto 8, 3) := by decide +kernel
theorem dX8_count_30 : decode cX8_count 30 = .ok (.aload_n 0, 1) := by decide +kernel
theorem dX8_count_31 : decode cX8_count 31 = .ok (.iload_n 1, 1) := by decide +kernel
theorem dX8_count_32 : decode cX8_count 32 = .ok (.invokevirtual 152, 3) := by decide +kernel
theorem dX8_count_35 : decode cX8_count 35 = .ok (.ireturn, 1) := by decide +kernel
theorem dX8_setting_0 : decode cX8_setting 0 = .ok (.aload_n 0, 1) := by decide +kernel
theorem dX8_setting_1 : decode cX8_setting 1 = .ok (.iload_n 1, 1) := by decide +kernel
theorem dX8_setting_2 : decode cX8_setting 2 = .ok (.iconst 0, 1) := by decide +kernel
theorem dX8_setting_3 : decode cX8_setting 3 = .ok (.iconst 5, 1) := by decide +kernel
theorem dX8_setting_4 : decode cX8_setting 4 = .ok (.invokestatic 92, 3) := by decide +kernel
theorem dX8_setting_7 : decode cX8_setting 7 = .ok (.ifCond .eq 7, 3) := by decide +kernel
theorem dX8_setting_10 : decode cX8_setting 10 = .ok (.iconst 0, 1) := by decide +kernel
theorem dX8_setting_11 : decode cX8_setting 11 = .ok (.goto 4, 3) := by decide +kernel
theorem dX8_setting_14 : decode cX8_setting 14 = .ok (.iconst 1, 1) := by decide +kernel
theorem dX8_setting_15 : decode cX8_setting 15 = .ok (.putfield 25, 3) := by decide +kernel
theorem dX8_setting_18 : decode cX8_setting 18 = .ok (.aload_n 0, 1) := by decide +kernel
theorem dX8_setting_19 : decode cX8_setting 19 = .ok (.getfield 25, 3) := by decide +kernel
theorem dX8_setting_22 : decode cX8_setting 22 = .ok (.ifCond .le 7, 3) := by decide +kernel
theorem dX8_setting_25 : decode cX8_setting 25 = .ok (.iconst 0, 1) := by decide +kernel
theorem dX8_setting_26 : decode cX8_setting 26 = .ok (.goto 12, 3) := by decide +kernel
theorem dX8_setting_29 : decode cX8_setting 29 = .ok (.aload_n 0, 1) := by decide +kernel
theorem dX8_setting_30 : decode cX8_setting 30 = .ok (.getfield 7, 3) := by decide +kernel
theorem dX8_setting_33 : decode cX8_setting 33 = .ok (.bipush 61, 2) := by decide +kernel
theorem dX8_setting_35 : decode cX8_setting 35 = .ok (.iload_n 1, 1) := by decide +kernel
theorem dX8_setting_36 : decode cX8_setting 36 = .ok (.iadd, 1) := by decide +kernel
theorem dX8_setting_37 : decode cX8_setting 37 = .ok (.iaload, 1) := by decide +kernel
theorem dX8_setting_38 : decode cX8_setting 38 = .ok (.ireturn, 1) := by decide +kernel
theorem dX8_dueMany_0 : decode cX8_dueMany 0 = .ok (.iconst 0, 1) := by decide +kernel
theorem dX8_dueMany_1 : decode cX8_dueMany 1 = .ok (.istore_n 1, 1) := by decide +kernel
theorem dX8_dueMany_2 : decode cX8_dueMany 2 = .ok (.iconst 0, 1) := by decide +kernel
theorem dX8_dueMany_3 : decode cX8_dueMany 3 = .ok (.istore_n 2, 1) := by decide +kernel
theorem dX8_dueMany_4 : decode cX8_dueMany 4 = .ok (.iload_n 2, 1) := by decide +kernel
theorem dX8_dueMany_5 : decode cX8_dueMany 5 = .ok (.aload_n 0, 1) := by decide +kernel
theorem dX8_dueMany_6 : decode cX8_dueMany 6 = .ok (.getfield 7, 3) := by decide +kernel
theorem dX8_dueMany_9 : decode cX8_dueMany 9 = .ok (.bipush 21, 2) := by decide +kernel
theorem dX8_dueMany_11 : decode cX8_dueMany 11 = .ok (.iaload, 1) := by decide +kernel
theorem dX8_dueMany_12 : decode cX8_dueMany 12 = .ok (.if_icmp .ge 25, 3) := by decide +kernel
theorem dX8_dueMany_15 : decode cX8_dueMany 15 = .ok (.iload_n 1, 1) := by decide +kernel
theorem dX8_dueMany_16 : decode cX8_dueMany 16 = .ok (.aload_n 0, 1) := by decide +kernel
theorem dX8_dueMany_17 : decode cX8_dueMany 17 = .ok (.iload_n 2, 1) := by decide +kernel
theorem dX8_dueMany_18 : decode cX8_dueMany 18 = .ok (.invokevirtual 39, 3) := by decide +kernel
theorem dX8_dueMany_21 : decode cX8_dueMany 21 = .ok (.ifCond .eq 7, 3) := by decide +kernel
theorem dX8_dueMany_24 : decode cX8_dueMany 24 = .ok (.iconst 1, 1) := by decide +kernel
theorem dX8_dueMany_25 : decode cX8_dueMany 25 = .ok (.goto 4, 3) := by decide +kernel
theorem dX8_dueMany_28 : decode cX8_dueMany 28 = .ok (.iconst 0, 1) := by decide +kernel
theorem dX8_dueMany_29 : decode cX8_dueMany 29 = .ok (.iadd, 1) := by decide +kernel
theorem dX8_dueMany_30 : decode cX8_dueMany 30 = .ok (.istore_n 1, 1) := by decide +kernel
theorem dX8_dueMany_31 : decode cX8_dueMany 31 = .ok (.iinc 2 1, 3) := by decide +kernel
theorem dX8_dueMany_34 : decode cX8_dueMany 34 = .ok (.goto (-30), 3) := by decide +kernel
theorem dX8_dueMany_37 : decode cX8_dueMany 37 = .ok (.iload_n 1, 1) := by decide +kernel
theorem dX8_dueMany_38 : decode cX8_dueMany 38 = .ok (.ireturn, 1) := by decide +kernel
theorem dX8_whyNoStroke_0 : decode cX8_whyNoStroke 0 = .ok (.aload_n 0, 1) := by decide +kernel
theorem dX8_whyNoStroke_1 : decode cX8_whyNoStroke 1 = .ok (.getfield 7, 3) := by decide +kernel
theorem dX8_whyNoStroke_4 : decode cX8_whyNoStroke 4 = .ok (.bipush 52, 2) := by decide +kernel
theorem dX8_whyNoStroke_6 : decode cX8_whyNoStroke 6 = .ok (.iaload, 1) := by decide +kernel
theorem dX8_whyNoStroke_7 : decode cX8_whyNoStroke 7 = .ok (.ifCond .ne 5, 3) := by decide +kernel
theorem dX8_whyNoStroke_10 : decode cX8_whyNoStroke 10 = .ok (.iconst 1, 1) := by decide +kernel
theorem dX8_whyNoStroke_11 : decode cX8_whyNoStroke 11 = .ok (.ireturn, 1) := by decide +kernel
theorem dX8_whyNoStroke_12 : decode cX8_whyNoStroke 12 = .ok (.aload_n 0, 1) := by decide +kernel
theorem dX8_whyNoStroke_13 : decode cX8_whyNoStroke 13 = .ok (.invokevirtual 61, 3) := by decide +kernel
theorem dX8_whyNoStroke_16 : decode cX8_whyNoStroke 16 = .ok (.ifCond .eq 7, 3) := by decide +kernel
theorem dX8_whyNoStroke_19 : decode cX8_whyNoStroke 19 = .ok (.iconst 2, 1) := by decide +kernel
theorem dX8_whyNoStroke_20 : decode cX8_whyNoStroke 20 = .ok (.goto 17, 3) := by decide +kernel
theorem dX8_whyNoStroke_23 : decode cX8_whyNoStroke 23 = .ok (.aload_n 0, 1) := by decide +kernel
theorem dX8_whyNoStroke_24 : decode cX8_whyNoStroke 24 = .ok (.getfield 7, 3) := by decide +kernel
theorem dX8_whyNoStroke_27 : decode cX8_whyNoStroke 27 = .ok (.iconst 1, 1) := by decide +kernel
theorem dX8_whyNoStroke_28 : decode cX8_whyNoStroke 28 = .ok (.iaload, 1) := by decide +kernel
theorem dX8_whyNoStroke_29 : decode cX8_whyNoStroke 29 = .ok (.ifCond .ne 7, 3) := by decide +kernel
theorem dX8_whyNoStroke_32 : decode cX8_whyNoStroke 32 = .ok (.iconst 3, 1) := by decide +kernel
theorem dX8_whyNoStroke_33 : decode cX8_whyNoStroke 33 = .ok (.goto 4, 3) := by decide +kernel
theorem dX8_whyNoStroke_36 : decode cX8_whyNoStroke 36 = .ok (.iconst 0, 1) := by decide +kernel
theorem dX8_whyNoStroke_37 : decode cX8_whyNoStroke 37 = .ok (.ireturn, 1) := by decide +kernel
theorem dX8_whyNow_0 : decode cX8_whyNow 0 = .ok (.iload_n 1, 1) := by decide +kernel
theorem dX8_whyNow_1 : decode cX8_whyNow 1 = .ok (.iconst 2, 1) := by decide +kernel
theorem dX8_whyNow_2 : decode cX8_whyNow 2 = .ok (.if_icmp .ne 42, 3) := by decide +kernel
theorem dX8_whyNow_5 : decode cX8_whyNow 5 = .ok (.aload_n 0, 1) := by decide +kernel
theorem dX8_whyNow_6 : decode cX8_whyNow 6 = .ok (.invokevirtual 50, 3) := by decide +kernel
theorem dX8_whyNow_9 : decode cX8_whyNow 9 = .ok (.iconst (-1), 1) := by decide +kernel
theorem dX8_whyNow_10 : decode cX8_whyNow 10 = .ok (.if_icmp .eq 7, 3) := by decide +kernel
theorem dX8_whyNow_13 : decode cX8_whyNow 13 = .ok (.iconst 0, 1) := by decide +kernel
theorem dX8_whyNow_14 : decode cX8_whyNow 14 = .ok (.goto 29, 3) := by decide +kernel
theorem dX8_whyNow_17 : decode cX8_whyNow 17 = .ok (.aload_n 0, 1) := by decide +kernel
theorem dX8_whyNow_18 : decode cX8_whyNow 18 = .ok (.getfield 7, 3) := by decide +kernel
theorem dX8_whyNow_21 : decode cX8_whyNow 21 = .ok (.bipush 21, 2) := by decide +kernel
theorem dX8_whyNow_23 : decode cX8_whyNow 23 = .ok (.iaload, 1) := by decide +kernel
theorem dX8_whyNow_24 : decode cX8_whyNow 24 = .ok (.ifCond .ne 7, 3) := by decide +kernel
theorem dX8_whyNow_27 : decode cX8_whyNow 27 = .ok (.iconst 1, 1) := by decide +kernel
theorem dX8_whyNow_28 : decode cX8_whyNow 28 = .ok (.goto 15, 3) := by decide +kernel
theorem dX8_whyNow_31 : decode cX8_whyNow 31 = .ok (.aload_n 0, 1) := by decide +kernel
theorem dX8_whyNow_32 : decode cX8_whyNow 32 = .ok (.invokevirtual 155, 3) := by decide +kernel
theorem dX8_whyNow_35 : decode cX8_whyNow 35 = .ok (.ifCond .ne 7, 3) := by decide +kernel
theorem dX8_whyNow_38 : decode cX8_whyNow 38 = .ok (.iconst 2, 1) := by decide +kernel
theorem dX8_whyNow_39 : decode cX8_whyNow 39 = .ok (.goto 4, 3) := by decide +kernel
theorem dX8_whyNow_42 : decode cX8_whyNow 42 = .ok (.iconst 3, 1) := by decide +kernel
theorem dX8_whyNow_43 : decode cX8_whyNow 43 = .ok (.ireturn, 1) := by decide +kernel
theorem dX8_whyNow_44 : decode cX8_whyNow 44 = .ok (.aload_n 0, 1) := by decide +kernel
theorem dX8_whyNow_45 : decode cX8_whyNow 45 = .ok (.invokevirtual 158, 3) := by decide +kernel
theorem dX8_whyNow_48 : decode cX8_whyNow 48 = .ok (.aload_n 0, 1) := by decide +kernel
theorem dX8_whyNow_49 : decode cX8_whyNow 49 = .ok (.invokevirtual 83, 3) := by decide +kernel
theorem dX8_whyNow_52 : decode cX8_whyNow 52 = .ok (.istore_n 2, 1) := by decide +kernel
theorem dX8_whyNow_53 : decode cX8_whyNow 53 = .ok (.iload_n 1, 1) := by decide +kernel
theorem dX8_whyNow_54 : decode cX8_whyNow 54 = .ok (.ifCond .ne 7, 3) := by decide +kernel
theorem dX8_whyNow_57 : decode cX8_whyNow 57 = .ok (.iload_n 2, 1) := by decide +kernel
theorem dX8_whyNow_58 : decode cX8_whyNow 58 = .ok (.goto 7, 3) := by decide +kernel
theorem dX8_whyNow_61 : decode cX8_whyNow 61 = .ok (.aload_n 0, 1) := by decide +kernel
theorem dX8_whyNow_62 : decode cX8_whyNow 62 = .ok (.invokevirtual 161, 3) := by decide +kernel
theorem dX8_whyNow_65 : decode cX8_whyNow 65 = .ok (.istore_n 3, 1) := by decide +kernel
theorem dX8_whyNow_66 : decode cX8_whyNow 66 = .ok (.aload_n 0, 1) := by decide +kernel
theorem dX8_whyNow_67 : decode cX8_whyNow 67 = .ok (.invokevirtual 164, 3) := by decide +kernel
theorem dX8_whyNow_70 : decode cX8_whyNow 70 = .ok (.iload_n 3, 1) := by decide +kernel
theorem dX8_whyNow_71 : decode cX8_whyNow 71 = .ok (.ireturn, 1) := by decide +kernel
theorem dX8_why_0 : decode cX8_why 0 = .ok (.aload_n 0, 1) := by decide +kernel
theorem dX8_why_1 : decode cX8_why 1 = .ok (.iload_n 1, 1) := by decide +kernel
theorem dX8_why_2 : decode cX8_why 2 = .ok (.iconst 0, 1) := by decide +kernel
theorem dX8_why_3 : decode cX8_why 3 = .ok (.iconst 2, 1) := by decide +kernel
theorem dX8_why_4 : decode cX8_why 4 = .ok (.invokestatic 92, 3) := by decide +kernel
theorem dX8_why_7 : decode cX8_why 7 = .ok (.ifCond .eq 7, 3) := by decide +kernel
theorem dX8_why_10 : decode cX8_why 10 = .ok (.iconst 0, 1) := by decide +kernel
theorem dX8_why_11 : decode cX8_why 11 = .ok (.goto 4, 3) := by decide +kernel
theorem dX8_why_14 : decode cX8_why 14 = .ok (.iconst 1, 1) := by decide +kernel
theorem dX8_why_15 : decode cX8_why 15 = .ok (.putfield 25, 3) := by decide +kernel
theorem dX8_why_18 : decode cX8_why 18 = .ok (.aload_n 0, 1) := by decide +kernel
theorem dX8_why_19 : decode cX8_why 19 = .ok (.getfield 25, 3) := by decide +kernel
theorem dX8_why_22 : decode cX8_why 22 = .ok (.ifCond .le 7, 3) := by decide +kernel
theorem dX8_why_25 : decode cX8_why 25 = .ok (.iconst 0, 1) := by decide +kernel
theorem dX8_why_26 : decode cX8_why 26 = .ok (.goto 8, 3) := by decide +kernel
theorem dX8_why_29 : decode cX8_why 29 = .ok (.aload_n 0, 1) := by decide +kernel
theorem dX8_why_30 : decode cX8_why 30 = .ok (.iload_n 1, 1) := by decide +kernel
theorem dX8_why_31 : decode cX8_why 31 = .ok (.invokevirtual 167, 3) := by decide +kernel
theorem dX8_why_34 : decode cX8_why 34 = .ok (.ireturn, 1) := by decide +kernel
theorem dX8_toldNow_0 : decode cX8_toldNow 0 = .ok (.iload_n 1, 1) := by decide +kernel
theorem dX8_toldNow_1 : decode cX8_toldNow 1 = .ok (.tableswitch 96 3 9 #[43, 51, 56, 64, 72, 80, 88], 43) := by decide +kernel
theorem dX8_toldNow_44 : decode cX8_toldNow 44 = .ok (.aload_n 0, 1) := by decide +kernel
theorem dX8_toldNow_45 : decode cX8_toldNow 45 = .ok (.getfield 7, 3) := by decide +kernel
theorem dX8_toldNow_48 : decode cX8_toldNow 48 = .ok (.bipush 10, 2) := by decide +kernel
theorem dX8_toldNow_50 : decode cX8_toldNow 50 = .ok (.iaload, 1) := by decide +kernel
theorem dX8_toldNow_51 : decode cX8_toldNow 51 = .ok (.ireturn, 1) := by decide +kernel
theorem dX8_toldNow_52 : decode cX8_toldNow 52 = .ok (.aload_n 0, 1) := by decide +kernel
theorem dX8_toldNow_53 : decode cX8_toldNow 53 = .ok (.invokevirtual 109, 3) := by decide +kernel
theorem dX8_toldNow_56 : decode cX8_toldNow 56 = .ok (.ireturn, 1) := by decide +kernel
theorem dX8_toldNow_57 : decode cX8_toldNow 57 = .ok (.aload_n 0, 1) := by decide +kernel
theorem dX8_toldNow_58 : decode cX8_toldNow 58 = .ok (.getfield 7, 3) := by decide +kernel
theorem dX8_toldNow_61 : decode cX8_toldNow 61 = .ok (.bipush 14, 2) := by decide +kernel
theorem dX8_toldNow_63 : decode cX8_toldNow 63 = .ok (.iaload, 1) := by decide +kernel
theorem dX8_toldNow_64 : decode cX8_toldNow 64 = .ok (.ireturn, 1) := by decide +kernel
theorem dX8_toldNow_65 : decode cX8_toldNow 65 = .ok (.aload_n 0, 1) := by decide +kernel
theorem dX8_toldNow_66 : decode cX8_toldNow 66 = .ok (.getfield 7, 3) := by decide +kernel
theorem dX8_toldNow_69 : decode cX8_toldNow 69 = .ok (.bipush 15, 2) := by decide +kernel
theorem dX8_toldNow_71 : decode cX8_toldNow 71 = .ok (.iaload, 1) := by decide +kernel
theorem dX8_toldNow_72 : decode cX8_toldNow 72 = .ok (.ireturn, 1) := by decide +kernel
theorem dX8_toldNow_73 : decode cX8_toldNow 73 = .ok (.aload_n 0, 1) := by decide +kernel
theorem dX8_toldNow_74 : decode cX8_toldNow 74 = .ok (.getfield 7, 3) := by decide +kernel
theorem dX8_toldNow_77 : decode cX8_toldNow 77 = .ok (.bipush 17, 2) := by decide +kernel
theorem dX8_toldNow_79 : decode cX8_toldNow 79 = .ok (.iaload, 1) := by decide +kernel
theorem dX8_toldNow_80 : decode cX8_toldNow 80 = .ok (.ireturn, 1) := by decide +kernel
theorem dX8_toldNow_81 : decode cX8_toldNow 81 = .ok (.aload_n 0, 1) := by decide +kernel
theorem dX8_toldNow_82 : decode cX8_toldNow 82 = .ok (.getfield 7, 3) := by decide +kernel
theorem dX8_toldNow_85 : decode cX8_toldNow 85 = .ok (.bipush 18, 2) := by decide +kernel
theorem dX8_toldNow_87 : decode cX8_toldNow 87 = .ok (.iaload, 1) := by decide +kernel
theorem dX8_toldNow_88 : decode cX8_toldNow 88 = .ok (.ireturn, 1) := by decide +kernel
theorem dX8_toldNow_89 : decode cX8_toldNow 89 = .ok (.aload_n 0, 1) := by decide +kernel
theorem dX8_toldNow_90 : decode cX8_toldNow 90 = .ok (.getfield 7, 3) := by decide +kernel
theorem dX8_toldNow_93 : decode cX8_toldNow 93 = .ok (.bipush 19, 2) := by decide +kernel
theorem dX8_toldNow_95 : decode cX8_toldNow 95 = .ok (.iaload, 1) := by decide +kernel
theorem dX8_toldNow_96 : decode cX8_toldNow 96 = .ok (.ireturn, 1) := by decide +kernel
theorem dX8_toldNow_97 : decode cX8_toldNow 97 = .ok (.aload_n 0, 1) := by decide +kernel
theorem dX8_toldNow_98 : decode cX8_toldNow 98 = .ok (.getfield 7, 3) := by decide +kernel
theorem dX8_toldNow_101 : decode cX8_toldNow 101 = .ok (.iconst 0, 1) := by decide +kernel
theorem dX8_toldNow_102 : decode cX8_toldNow 102 = .ok (.iload_n 1, 1) := by decide +kernel
theorem dX8_toldNow_103 : decode cX8_toldNow 103 = .ok (.iadd, 1) := by decide +kernel
theorem dX8_toldNow_104 : decode cX8_toldNow 104 = .ok (.iaload, 1) := by decide +kernel
theorem dX8_toldNow_105 : decode cX8_toldNow 105 = .ok (.ireturn, 1) := by decide +kernel
theorem dX8_passed_0 : decode cX8_passed 0 = .ok (.aload_n 0, 1) := by decide +kernel
theorem dX8_passed_1 : decode cX8_passed 1 = .ok (.invokevirtual 158, 3) := by decide +kernel
theorem dX8_passed_4 : decode cX8_passed 4 = .ok (.aload_n 0, 1) := by decide +kernel
theorem dX8_passed_5 : decode cX8_passed 5 = .ok (.iload_n 1, 1) := by decide +kernel
theorem dX8_passed_6 : decode cX8_passed 6 = .ok (.invokevirtual 122, 3) := by decide +kernel
theorem dX8_passed_9 : decode cX8_passed 9 = .ok (.aload_n 0, 1) := by decide +kernel
theorem dX8_passed_10 : decode cX8_passed 10 = .ok (.iload_n 2, 1) := by decide +kernel
theorem dX8_passed_11 : decode cX8_passed 11 = .ok (.invokevirtual 170, 3) := by decide +kernel
theorem dX8_passed_14 : decode cX8_passed 14 = .ok (.istore_n 3, 1) := by decide +kernel
theorem dX8_passed_15 : decode cX8_passed 15 = .ok (.aload_n 0, 1) := by decide +kernel
theorem dX8_passed_16 : decode cX8_passed 16 = .ok (.invokevirtual 164, 3) := by decide +kernel
theorem dX8_passed_19 : decode cX8_passed 19 = .ok (.iload_n 3, 1) := by decide +kernel
theorem dX8_passed_20 : decode cX8_passed 20 = .ok (.ireturn, 1) := by decide +kernel
theorem dX8_ifPassed_0 : decode cX8_ifPassed 0 = .ok (.aload_n 0, 1) := by decide +kernel
theorem dX8_ifPassed_1 : decode cX8_ifPassed 1 = .ok (.iload_n 1, 1) := by decide +kernel
theorem dX8_ifPassed_2 : decode cX8_ifPassed 2 = .ok (.iconst 1, 1) := by decide +kernel
theorem dX8_ifPassed_3 : decode cX8_ifPassed 3 = .ok (.sipush 720, 3) := by decide +kernel
theorem dX8_ifPassed_6 : decode cX8_ifPassed 6 = .ok (.invokestatic 92, 3) := by decide +kernel
theorem dX8_ifPassed_9 : decode cX8_ifPassed 9 = .ok (.ifCond .eq 17, 3) := by decide +kernel
theorem dX8_ifPassed_12 : decode cX8_ifPassed 12 = .ok (.iload_n 2, 1) := by decide +kernel
theorem dX8_ifPassed_13 : decode cX8_ifPassed 13 = .ok (.iconst 0, 1) := by decide +kernel
theorem dX8_ifPassed_14 : decode cX8_ifPassed 14 = .ok (.bipush 9, 2) := by decide +kernel
theorem dX8_ifPassed_16 : decode cX8_ifPassed 16 = .ok (.invokestatic 92, 3) := by decide +kernel
theorem dX8_ifPassed_19 : decode cX8_ifPassed 19 = .ok (.ifCond .eq 7, 3) := by decide +kernel
theorem dX8_ifPassed_22 : decode cX8_ifPassed 22 = .ok (.iconst 0, 1) := by decide +kernel
theorem dX8_ifPassed_23 : decode cX8_ifPassed 23 = .ok (.goto 4, 3) := by decide +kernel
theorem dX8_ifPassed_26 : decode cX8_ifPassed 26 = .ok (.iconst 1, 1) := by decide +kernel
theorem dX8_ifPassed_27 : decode cX8_ifPassed 27 = .ok (.putfield 25, 3) := by decide +kernel
theorem dX8_ifPassed_30 : decode cX8_ifPassed 30 = .ok (.aload_n 0, 1) := by decide +kernel
theorem dX8_ifPassed_31 : decode cX8_ifPassed 31 = .ok (.getfield 25, 3) := by decide +kernel
theorem dX8_ifPassed_34 : decode cX8_ifPassed 34 = .ok (.ifCond .le 7, 3) := by decide +kernel
theorem dX8_ifPassed_37 : decode cX8_ifPassed 37 = .ok (.iconst 0, 1) := by decide +kernel
theorem dX8_ifPassed_38 : decode cX8_ifPassed 38 = .ok (.goto 9, 3) := by decide +kernel
theorem dX8_ifPassed_41 : decode cX8_ifPassed 41 = .ok (.aload_n 0, 1) := by decide +kernel
theorem dX8_ifPassed_42 : decode cX8_ifPassed 42 = .ok (.iload_n 1, 1) := by decide +kernel
theorem dX8_ifPassed_43 : decode cX8_ifPassed 43 = .ok (.iload_n 2, 1) := by decide +kernel
theorem dX8_ifPassed_44 : decode cX8_ifPassed 44 = .ok (.invokevirtual 173, 3) := by decide +kernel
theorem dX8_ifPassed_47 : decode cX8_ifPassed 47 = .ok (.ireturn, 1) := by decide +kernel
theorem dX8_standing_0 : decode cX8_standing 0 = .ok (.aload_n 0, 1) := by decide +kernel
theorem dX8_standing_1 : decode cX8_standing 1 = .ok (.invokevirtual 158, 3) := by decide +kernel
theorem dX8_standing_4 : decode cX8_standing 4 = .ok (.iconst (-1), 1) := by decide +kernel
theorem dX8_standing_5 : decode cX8_standing 5 = .ok (.istore_n 1, 1) := by decide +kernel
theorem dX8_standing_6 : decode cX8_standing 6 = .ok (.iconst 0, 1) := by decide +kernel
theorem dX8_standing_7 : decode cX8_standing 7 = .ok (.istore_n 2, 1) := by decide +kernel
theorem dX8_standing_8 : decode cX8_standing 8 = .ok (.iload_n 2, 1) := by decide +kernel
theorem dX8_standing_9 : decode cX8_standing 9 = .ok (.sipush 1500, 3) := by decide +kernel
theorem dX8_standing_12 : decode cX8_standing 12 = .ok (.if_icmp .gt 27, 3) := by decide +kernel
theorem dX8_standing_15 : decode cX8_standing 15 = .ok (.iload_n 1, 1) := by decide +kernel
theorem dX8_standing_16 : decode cX8_standing 16 = .ok (.iconst (-1), 1) := by decide +kernel
theorem dX8_standing_17 : decode cX8_standing 17 = .ok (.if_icmp .ne 22, 3) := by decide +kernel
theorem dX8_standing_20 : decode cX8_standing 20 = .ok (.aload_n 0, 1) := by decide +kernel
theorem dX8_standing_21 : decode cX8_standing 21 = .ok (.invokevirtual 89, 3) := by decide +kernel
theorem dX8_standing_24 : decode cX8_standing 24 = .ok (.ifCond .eq 7, 3) := by decide +kernel
theorem dX8_standing_27 : decode cX8_standing 27 = .ok (.iload_n 2, 1) := by decide +kernel
theorem dX8_standing_28 : decode cX8_standing 28 = .ok (.goto 4, 3) := by decide +kernel
theorem dX8_standing_31 : decode cX8_standing 31 = .ok (.iconst (-1), 1) := by decide +kernel
theorem dX8_standing_32 : decode cX8_standing 32 = .ok (.istore_n 1, 1) := by decide +kernel
theorem dX8_standing_33 : decode cX8_standing 33 = .ok (.iinc 2 1, 3) := by decide +kernel
theorem dX8_standing_36 : decode cX8_standing 36 = .ok (.goto (-28), 3) := by decide +kernel
theorem dX8_standing_39 : decode cX8_standing 39 = .ok (.aload_n 0, 1) := by decide +kernel
theorem dX8_standing_40 : decode cX8_standing 40 = .ok (.invokevirtual 164, 3) := by decide +kernel
theorem dX8_standing_43 : decode cX8_standing 43 = .ok (.iload_n 1, 1) := by decide +kernel
theorem dX8_standing_44 : decode cX8_standing 44 = .ok (.ireturn, 1) := by decide +kernel
theorem dX8_standsIn_0 : decode cX8_standsIn 0 = .ok (.aload_n 0, 1) := by decide +kernel
theorem dX8_standsIn_1 : decode cX8_standsIn 1 = .ok (.iconst 0, 1) := by decide +kernel
theorem dX8_standsIn_2 : decode cX8_standsIn 2 = .ok (.putfield 25, 3) := by decide +kernel
theorem dX8_standsIn_5 : decode cX8_standsIn 5 = .ok (.aload_n 0, 1) := by decide +kernel
theorem dX8_standsIn_6 : decode cX8_standsIn 6 = .ok (.invokevirtual 176, 3) := by decide +kernel
theorem dX8_standsIn_9 : decode cX8_standsIn 9 = .ok (.ireturn, 1) := by decide +kernel
theorem dX8_paid_0 : decode cX8_paid 0 = .ok (.aload_n 0, 1) := by decide +kernel
theorem dX8_paid_1 : decode cX8_paid 1 = .ok (.invokevirtual 158, 3) := by decide +kernel
theorem dX8_paid_4 : decode cX8_paid 4 = .ok (.iconst 0, 1) := by decide +kernel
theorem dX8_paid_5 : decode cX8_paid 5 = .ok (.istore_n 1, 1) := by decide +kernel
theorem dX8_paid_6 : decode cX8_paid 6 = .ok (.iload_n 1, 1) := by decide +kernel
theorem dX8_paid_7 : decode cX8_paid 7 = .ok (.sipush 720, 3) := by decide +kernel
theorem dX8_paid_10 : decode cX8_paid 10 = .ok (.if_icmp .ge 24, 3) := by decide +kernel
theorem dX8_paid_13 : decode cX8_paid 13 = .ok (.aload_n 0, 1) := by decide +kernel
theorem dX8_paid_14 : decode cX8_paid 14 = .ok (.getfield 7, 3) := by decide +kernel
theorem dX8_paid_17 : decode cX8_paid 17 = .ok (.bipush 52, 2) := by decide +kernel
theorem dX8_paid_19 : decode cX8_paid 19 = .ok (.iaload, 1) := by decide +kernel
theorem dX8_paid_20 : decode cX8_paid 20 = .ok (.ifCond .le 14, 3) := by decide +kernel
theorem dX8_paid_23 : decode cX8_paid 23 = .ok (.aload_n 0, 1) := by decide +kernel
theorem dX8_paid_24 : decode cX8_paid 24 = .ok (.invokevirtual 89, 3) := by decide +kernel
theorem dX8_paid_27 : decode cX8_paid 27 = .ok (.istore_n 2, 1) := by decide +kernel
theorem dX8_paid_28 : decode cX8_paid 28 = .ok (.iinc 1 1, 3) := by decide +kernel
theorem dX8_paid_31 : decode cX8_paid 31 = .ok (.goto (-25), 3) := by decide +kernel
theorem dX8_paid_34 : decode cX8_paid 34 = .ok (.aload_n 0, 1) := by decide +kernel
theorem dX8_paid_35 : decode cX8_paid 35 = .ok (.getfield 7, 3) := by decide +kernel
theorem dX8_paid_38 : decode cX8_paid 38 = .ok (.bipush 52, 2) := by decide +kernel
theorem dX8_paid_40 : decode cX8_paid 40 = .ok (.iaload, 1) := by decide +kernel
theorem dX8_paid_41 : decode cX8_paid 41 = .ok (.ifCond .ne 7, 3) := by decide +kernel
theorem dX8_paid_44 : decode cX8_paid 44 = .ok (.iload_n 1, 1) := by decide +kernel
theorem dX8_paid_45 : decode cX8_paid 45 = .ok (.goto 4, 3) := by decide +kernel
theorem dX8_paid_48 : decode cX8_paid 48 = .ok (.iconst (-1), 1) := by decide +kernel
theorem dX8_paid_49 : decode cX8_paid 49 = .ok (.istore_n 2, 1) := by decide +kernel
theorem dX8_paid_50 : decode cX8_paid 50 = .ok (.aload_n 0, 1) := by decide +kernel
theorem dX8_paid_51 : decode cX8_paid 51 = .ok (.invokevirtual 164, 3) := by decide +kernel
theorem dX8_paid_54 : decode cX8_paid 54 = .ok (.iload_n 2, 1) := by decide +kernel
theorem dX8_paid_55 : decode cX8_paid 55 = .ok (.ireturn, 1) := by decide +kernel
theorem dX8_paidIn_0 : decode cX8_paidIn 0 = .ok (.aload_n 0, 1) := by decide +kernel
theorem dX8_paidIn_1 : decode cX8_paidIn 1 = .ok (.iconst 0, 1) := by decide +kernel
theorem dX8_paidIn_2 : decode cX8_paidIn 2 = .ok (.putfield 25, 3) := by decide +kernel
theorem dX8_paidIn_5 : decode cX8_paidIn 5 = .ok (.aload_n 0, 1) := by decide +kernel
theorem dX8_paidIn_6 : decode cX8_paidIn 6 = .ok (.invokevirtual 179, 3) := by decide +kernel
theorem dX8_paidIn_9 : decode cX8_paidIn 9 = .ok (.ireturn, 1) := by decide +kernel
theorem dX8_goesOn_0 : decode cX8_goesOn 0 = .ok (.aload_n 0, 1) := by decide +kernel
theorem dX8_goesOn_1 : decode cX8_goesOn 1 = .ok (.invokevirtual 158, 3) := by decide +kernel
theorem dX8_goesOn_4 : decode cX8_goesOn 4 = .ok (.aload_n 0, 1) := by decide +kernel
theorem dX8_goesOn_5 : decode cX8_goesOn 5 = .ok (.getfield 7, 3) := by decide +kernel
theorem dX8_goesOn_8 : decode cX8_goesOn 8 = .ok (.iconst 0, 1) := by decide +kernel
theorem dX8_goesOn_9 : decode cX8_goesOn 9 = .ok (.dup2, 1) := by decide +kernel
theorem dX8_goesOn_10 : decode cX8_goesOn 10 = .ok (.iaload, 1) := by decide +kernel
theorem dX8_goesOn_11 : decode cX8_goesOn 11 = .ok (.iload_n 1, 1) := by decide +kernel
theorem dX8_goesOn_12 : decode cX8_goesOn 12 = .ok (.iadd, 1) := by decide +kernel
theorem dX8_goesOn_13 : decode cX8_goesOn 13 = .ok (.iastore, 1) := by decide +kernel
theorem dX8_goesOn_14 : decode cX8_goesOn 14 = .ok (.iconst 0, 1) := by decide +kernel
theorem dX8_goesOn_15 : decode cX8_goesOn 15 = .ok (.istore_n 3, 1) := by decide +kernel
theorem dX8_goesOn_16 : decode cX8_goesOn 16 = .ok (.iconst 0, 1) := by decide +kernel
theorem dX8_goesOn_17 : decode cX8_goesOn 17 = .ok (.istore 4, 2) := by decide +kernel
theorem dX8_goesOn_19 : decode cX8_goesOn 19 = .ok (.iload 4, 2) := by decide +kernel
theorem dX8_goesOn_21 : decode cX8_goesOn 21 = .ok (.iload_n 2, 1) := by decide +kernel
theorem dX8_goesOn_22 : decode cX8_goesOn 22 = .ok (.if_icmp .ge 18, 3) := by decide +kernel
theorem dX8_goesOn_25 : decode cX8_goesOn 25 = .ok (.iload_n 3, 1) := by decide +kernel
theorem dX8_goesOn_26 : decode cX8_goesOn 26 = .ok (.ifCond .ne 14, 3) := by decide +kernel
theorem dX8_goesOn_29 : decode cX8_goesOn 29 = .ok (.aload_n 0, 1) := by decide +kernel
theorem dX8_goesOn_30 : decode cX8_goesOn 30 = .ok (.invokevirtual 89, 3) := by decide +kernel
theorem dX8_goesOn_33 : decode cX8_goesOn 33 = .ok (.istore_n 3, 1) := by decide +kernel
theorem dX8_goesOn_34 : decode cX8_goesOn 34 = .ok (.iinc 4 1, 3) := by decide +kernel
theorem dX8_goesOn_37 : decode cX8_goesOn 37 = .ok (.goto (-18), 3) := by decide +kernel
theorem dX8_goesOn_40 : decode cX8_goesOn 40 = .ok (.aload_n 0, 1) := by decide +kernel
theorem dX8_goesOn_41 : decode cX8_goesOn 41 = .ok (.invokevirtual 164, 3) := by decide +kernel
theorem dX8_goesOn_44 : decode cX8_goesOn 44 = .ok (.iload_n 3, 1) := by decide +kernel
theorem dX8_goesOn_45 : decode cX8_goesOn 45 = .ok (.ifCond .ne 7, 3) := by decide +kernel
theorem dX8_goesOn_48 : decode cX8_goesOn 48 = .ok (.iconst 1, 1) := by decide +kernel
theorem dX8_goesOn_49 : decode cX8_goesOn 49 = .ok (.goto 4, 3) := by decide +kernel
theorem dX8_goesOn_52 : decode cX8_goesOn 52 = .ok (.iconst 0, 1) := by decide +kernel
theorem dX8_goesOn_53 : decode cX8_goesOn 53 = .ok (.ireturn, 1) := by decide +kernel
theorem dX8_least_0 : decode cX8_least 0 = .ok (.iconst 0, 1) := by decide +kernel
theorem dX8_least_1 : decode cX8_least 1 = .ok (.istore_n 2, 1) := by decide +kernel
theorem dX8_least_2 : decode cX8_least 2 = .ok (.iload_n 2, 1) := by decide +kernel
theorem dX8_least_3 : decode cX8_least 3 = .ok (.sipush 200, 3) := by decide +kernel
theorem dX8_least_6 : decode cX8_least 6 = .ok (.aload_n 0, 1) := by decide +kernel
theorem dX8_least_7 : decode cX8_least 7 = .ok (.getfield 7, 3) := by decide +kernel
theorem dX8_least_10 : decode cX8_least 10 = .ok (.iconst 0, 1) := by decide +kernel
theorem dX8_least_11 : decode cX8_least 11 = .ok (.iaload, 1) := by decide +kernel
theorem dX8_least_12 : decode cX8_least 12 = .ok (.isub, 1) := by decide +kernel
theorem dX8_least_13 : decode cX8_least 13 = .ok (.if_icmp .gt 20, 3) := by decide +kernel
theorem dX8_least_16 : decode cX8_least 16 = .ok (.aload_n 0, 1) := by decide +kernel
theorem dX8_least_17 : decode cX8_least 17 = .ok (.iload_n 2, 1) := by decide +kernel
theorem dX8_least_18 : decode cX8_least 18 = .ok (.iload_n 1, 1) := by decide +kernel
theorem dX8_least_19 : decode cX8_least 19 = .ok (.invokevirtual 182, 3) := by decide +kernel
theorem dX8_least_22 : decode cX8_least 22 = .ok (.ifCond .eq 5, 3) := by decide +kernel
theorem dX8_least_25 : decode cX8_least 25 = .ok (.iload_n 2, 1) := by decide +kernel
theorem dX8_least_26 : decode cX8_least 26 = .ok (.ireturn, 1) := by decide +kernel
theorem dX8_least_27 : decode cX8_least 27 = .ok (.iinc 2 1, 3) := by decide +kernel
theorem dX8_least_30 : decode cX8_least 30 = .ok (.goto (-28), 3) := by decide +kernel
theorem dX8_least_33 : decode cX8_least 33 = .ok (.iconst (-1), 1) := by decide +kernel
theorem dX8_least_34 : decode cX8_least 34 = .ok (.ireturn, 1) := by decide +kernel
theorem dX8_leastTurns_0 : decode cX8_leastTurns 0 = .ok (.aload_n 0, 1) := by decide +kernel
theorem dX8_leastTurns_1 : decode cX8_leastTurns 1 = .ok (.iload_n 1, 1) := by decide +kernel
theorem dX8_leastTurns_2 : decode cX8_leastTurns 2 = .ok (.iconst 1, 1) := by decide +kernel
theorem dX8_leastTurns_3 : decode cX8_leastTurns 3 = .ok (.sipush 720, 3) := by decide +kernel
theorem dX8_leastTurns_6 : decode cX8_leastTurns 6 = .ok (.invokestatic 92, 3) := by decide +kernel
theorem dX8_leastTurns_9 : decode cX8_leastTurns 9 = .ok (.ifCond .eq 7, 3) := by decide +kernel
theorem dX8_leastTurns_12 : decode cX8_leastTurns 12 = .ok (.iconst 0, 1) := by decide +kernel
theorem dX8_leastTurns_13 : decode cX8_leastTurns 13 = .ok (.goto 4, 3) := by decide +kernel
theorem dX8_leastTurns_16 : decode cX8_leastTurns 16 = .ok (.iconst 1, 1) := by decide +kernel
theorem dX8_leastTurns_17 : decode cX8_leastTurns 17 = .ok (.putfield 25, 3) := by decide +kernel
theorem dX8_leastTurns_20 : decode cX8_leastTurns 20 = .ok (.aload_n 0, 1) := by decide +kernel
theorem dX8_leastTurns_21 : decode cX8_leastTurns 21 = .ok (.getfield 25, 3) := by decide +kernel
theorem dX8_leastTurns_24 : decode cX8_leastTurns 24 = .ok (.ifCond .le 7, 3) := by decide +kernel
theorem dX8_leastTurns_27 : decode cX8_leastTurns 27 = .ok (.iconst 0, 1) := by decide +kernel
theorem dX8_leastTurns_28 : decode cX8_leastTurns 28 = .ok (.goto 8, 3) := by decide +kernel
theorem dX8_leastTurns_31 : decode cX8_leastTurns 31 = .ok (.aload_n 0, 1) := by decide +kernel
theorem dX8_leastTurns_32 : decode cX8_leastTurns 32 = .ok (.iload_n 1, 1) := by decide +kernel
theorem dX8_leastTurns_33 : decode cX8_leastTurns 33 = .ok (.invokevirtual 185, 3) := by decide +kernel
theorem dX8_leastTurns_36 : decode cX8_leastTurns 36 = .ok (.ireturn, 1) := by decide +kernel
theorem dX8_downNow_0 : decode cX8_downNow 0 = .ok (.aload_n 0, 1) := by decide +kernel
theorem dX8_downNow_1 : decode cX8_downNow 1 = .ok (.getfield 7, 3) := by decide +kernel
theorem dX8_downNow_4 : decode cX8_downNow 4 = .ok (.iconst 0, 1) := by decide +kernel
theorem dX8_downNow_5 : decode cX8_downNow 5 = .ok (.iaload, 1) := by decide +kernel
theorem dX8_downNow_6 : decode cX8_downNow 6 = .ok (.ifCond .ne 7, 3) := by decide +kernel
theorem dX8_downNow_9 : decode cX8_downNow 9 = .ok (.iconst 0, 1) := by decide +kernel
theorem dX8_downNow_10 : decode cX8_downNow 10 = .ok (.goto 30, 3) := by decide +kernel
theorem dX8_downNow_13 : decode cX8_downNow 13 = .ok (.aload_n 0, 1) := by decide +kernel
theorem dX8_downNow_14 : decode cX8_downNow 14 = .ok (.getfield 7, 3) := by decide +kernel
theorem dX8_downNow_17 : decode cX8_downNow 17 = .ok (.iconst 1, 1) := by decide +kernel
theorem dX8_downNow_18 : decode cX8_downNow 18 = .ok (.iaload, 1) := by decide +kernel
theorem dX8_downNow_19 : decode cX8_downNow 19 = .ok (.ifCond .ne 7, 3) := by decide +kernel
theorem dX8_downNow_22 : decode cX8_downNow 22 = .ok (.iconst 1, 1) := by decide +kernel
theorem dX8_downNow_23 : decode cX8_downNow 23 = .ok (.goto 17, 3) := by decide +kernel
theorem dX8_downNow_26 : decode cX8_downNow 26 = .ok (.aload_n 0, 1) := by decide +kernel
theorem dX8_downNow_27 : decode cX8_downNow 27 = .ok (.getfield 7, 3) := by decide +kernel
theorem dX8_downNow_30 : decode cX8_downNow 30 = .ok (.iconst 2, 1) := by decide +kernel
theorem dX8_downNow_31 : decode cX8_downNow 31 = .ok (.iaload, 1) := by decide +kernel
theorem dX8_downNow_32 : decode cX8_downNow 32 = .ok (.ifCond .ne 7, 3) := by decide +kernel
theorem dX8_downNow_35 : decode cX8_downNow 35 = .ok (.iconst 2, 1) := by decide +kernel
theorem dX8_downNow_36 : decode cX8_downNow 36 = .ok (.goto 4, 3) := by decide +kernel
theorem dX8_downNow_39 : decode cX8_downNow 39 = .ok (.iconst (-1), 1) := by decide +kernel
theorem dX8_downNow_40 : decode cX8_downNow 40 = .ok (.ireturn, 1) := by decide +kernel
theorem dX8_firstDown_0 : decode cX8_firstDown 0 = .ok (.aload_n 0, 1) := by decide +kernel
theorem dX8_firstDown_1 : decode cX8_firstDown 1 = .ok (.invokevirtual 158, 3) := by decide +kernel
theorem dX8_firstDown_4 : decode cX8_firstDown 4 = .ok (.iconst 0, 1) := by decide +kernel
theorem dX8_firstDown_5 : decode cX8_firstDown 5 = .ok (.istore_n 1, 1) := by decide +kernel
theorem dX8_firstDown_6 : decode cX8_firstDown 6 = .ok (.iload_n 1, 1) := by decide +kernel
theorem dX8_firstDown_7 : decode cX8_firstDown 7 = .ok (.sipush 1500, 3) := by decide +kernel
theorem dX8_firstDown_10 : decode cX8_firstDown 10 = .ok (.if_icmp .ge 22, 3) := by decide +kernel
theorem dX8_firstDown_13 : decode cX8_firstDown 13 = .ok (.aload_n 0, 1) := by decide +kernel
theorem dX8_firstDown_14 : decode cX8_firstDown 14 = .ok (.invokevirtual 188, 3) := by decide +kernel
theorem dX8_firstDown_17 : decode cX8_firstDown 17 = .ok (.iconst (-1), 1) := by decide +kernel
theorem dX8_firstDown_18 : decode cX8_firstDown 18 = .ok (.if_icmp .ne 14, 3) := by decide +kernel
theorem dX8_firstDown_21 : decode cX8_firstDown 21 = .ok (.aload_n 0, 1) := by decide +kernel
theorem dX8_firstDown_22 : decode cX8_firstDown 22 = .ok (.invokevirtual 89, 3) := by decide +kernel
theorem dX8_firstDown_25 : decode cX8_firstDown 25 = .ok (.istore_n 2, 1) := by decide +kernel
theorem dX8_firstDown_26 : decode cX8_firstDown 26 = .ok (.iinc 1 1, 3) := by decide +kernel
theorem dX8_firstDown_29 : decode cX8_firstDown 29 = .ok (.goto (-23), 3) := by decide +kernel
theorem dX8_firstDown_32 : decode cX8_firstDown 32 = .ok (.aload_n 0, 1) := by decide +kernel
theorem dX8_firstDown_33 : decode cX8_firstDown 33 = .ok (.invokevirtual 188, 3) := by decide +kernel
theorem dX8_firstDown_36 : decode cX8_firstDown 36 = .ok (.istore_n 1, 1) := by decide +kernel
theorem dX8_firstDown_37 : decode cX8_firstDown 37 = .ok (.aload_n 0, 1) := by decide +kernel
theorem dX8_firstDown_38 : decode cX8_firstDown 38 = .ok (.invokevirtual 164, 3) := by decide +kernel
theorem dX8_firstDown_41 : decode cX8_firstDown 41 = .ok (.iload_n 1, 1) := by decide +kernel
theorem dX8_firstDown_42 : decode cX8_firstDown 42 = .ok (.ireturn, 1) := by decide +kernel
theorem dX8_downFirst_0 : decode cX8_downFirst 0 = .ok (.aload_n 0, 1) := by decide +kernel
theorem dX8_downFirst_1 : decode cX8_downFirst 1 = .ok (.iconst 0, 1) := by decide +kernel
theorem dX8_downFirst_2 : decode cX8_downFirst 2 = .ok (.putfield 25, 3) := by decide +kernel
theorem dX8_downFirst_5 : decode cX8_downFirst 5 = .ok (.aload_n 0, 1) := by decide +kernel
theorem dX8_downFirst_6 : decode cX8_downFirst 6 = .ok (.invokevirtual 191, 3) := by decide +kernel
theorem dX8_downFirst_9 : decode cX8_downFirst 9 = .ok (.ireturn, 1) := by decide +kernel
theorem dX8_lost_0 : decode cX8_lost 0 = .ok (.aload_n 0, 1) := by decide +kernel
theorem dX8_lost_1 : decode cX8_lost 1 = .ok (.getfield 7, 3) := by decide +kernel
theorem dX8_lost_4 : decode cX8_lost 4 = .ok (.bipush 13, 2) := by decide +kernel
theorem dX8_lost_6 : decode cX8_lost 6 = .ok (.iaload, 1) := by decide +kernel
theorem dX8_lost_7 : decode cX8_lost 7 = .ok (.ifCond .ne 7, 3) := by decide +kernel
theorem dX8_lost_10 : decode cX8_lost 10 = .ok (.dconst 0, 1) := by decide +kernel
theorem dX8_lost_11 : decode cX8_lost 11 = .ok (.goto 28, 3) := by decide +kernel
theorem dX8_lost_14 : decode cX8_lost 14 = .ok (.aload_n 0, 1) := by decide +kernel
theorem dX8_lost_15 : decode cX8_lost 15 = .ok (.getfield 7, 3) := by decide +kernel
theorem dX8_lost_18 : decode cX8_lost 18 = .ok (.bipush 18, 2) := by decide +kernel
theorem dX8_lost_20 : decode cX8_lost 20 = .ok (.iaload, 1) := by decide +kernel
theorem dX8_lost_21 : decode cX8_lost 21 = .ok (.aload_n 0, 1) := by decide +kernel
theorem dX8_lost_22 : decode cX8_lost 22 = .ok (.getfield 7, 3) := by decide +kernel
theorem dX8_lost_25 : decode cX8_lost 25 = .ok (.bipush 19, 2) := by decide +kernel
theorem dX8_lost_27 : decode cX8_lost 27 = .ok (.iaload, 1) := by decide +kernel
theorem dX8_lost_28 : decode cX8_lost 28 = .ok (.iadd, 1) := by decide +kernel
theorem dX8_lost_29 : decode cX8_lost 29 = .ok (.i2d, 1) := by decide +kernel
theorem dX8_lost_30 : decode cX8_lost 30 = .ok (.aload_n 0, 1) := by decide +kernel
theorem dX8_lost_31 : decode cX8_lost 31 = .ok (.getfield 7, 3) := by decide +kernel
theorem dX8_lost_34 : decode cX8_lost 34 = .ok (.bipush 13, 2) := by decide +kernel
theorem dX8_lost_36 : decode cX8_lost 36 = .ok (.iaload, 1) := by decide +kernel
theorem dX8_lost_37 : decode cX8_lost 37 = .ok (.i2d, 1) := by decide +kernel
theorem dX8_lost_38 : decode cX8_lost 38 = .ok (.ddiv, 1) := by decide +kernel
theorem dX8_lost_39 : decode cX8_lost 39 = .ok (.dreturn, 1) := by decide +kernel
theorem dX8_lostShare_0 : decode cX8_lostShare 0 = .ok (.aload_n 0, 1) := by decide +kernel
theorem dX8_lostShare_1 : decode cX8_lostShare 1 = .ok (.iconst 0, 1) := by decide +kernel
theorem dX8_lostShare_2 : decode cX8_lostShare 2 = .ok (.putfield 25, 3) := by decide +kernel
theorem dX8_lostShare_5 : decode cX8_lostShare 5 = .ok (.aload_n 0, 1) := by decide +kernel
theorem dX8_lostShare_6 : decode cX8_lostShare 6 = .ok (.invokevirtual 194, 3) := by decide +kernel
theorem dX8_lostShare_9 : decode cX8_lostShare 9 = .ok (.dreturn, 1) := by decide +kernel
theorem dX8_mix_0 : decode cX8_mix 0 = .ok (.aload_n 0, 1) := by decide +kernel
theorem dX8_mix_1 : decode cX8_mix 1 = .ok (.ldc2_w 198, 3) := by decide +kernel
theorem dX8_mix_4 : decode cX8_mix 4 = .ok (.aload_n 0, 1) := by decide +kernel
theorem dX8_mix_5 : decode cX8_mix 5 = .ok (.getfield 200, 3) := by decide +kernel
theorem dX8_mix_8 : decode cX8_mix 8 = .ok (.lmul, 1) := by decide +kernel
theorem dX8_mix_9 : decode cX8_mix 9 = .ok (.lload_n 1, 1) := by decide +kernel
theorem dX8_mix_10 : decode cX8_mix 10 = .ok (.ladd, 1) := by decide +kernel
theorem dX8_mix_11 : decode cX8_mix 11 = .ok (.putfield 200, 3) := by decide +kernel
theorem dX8_mix_14 : decode cX8_mix 14 = .ok (.return_, 1) := by decide +kernel
theorem dX8_digest_0 : decode cX8_digest 0 = .ok (.aload_n 0, 1) := by decide +kernel
theorem dX8_digest_1 : decode cX8_digest 1 = .ok (.iconst 0, 1) := by decide +kernel
theorem dX8_digest_2 : decode cX8_digest 2 = .ok (.putfield 25, 3) := by decide +kernel
theorem dX8_digest_5 : decode cX8_digest 5 = .ok (.aload_n 0, 1) := by decide +kernel
theorem dX8_digest_6 : decode cX8_digest 6 = .ok (.ldc2_w 204, 3) := by decide +kernel
theorem dX8_digest_9 : decode cX8_digest 9 = .ok (.putfield 200, 3) := by decide +kernel
theorem dX8_digest_12 : decode cX8_digest 12 = .ok (.iconst 0, 1) := by decide +kernel
theorem dX8_digest_13 : decode cX8_digest 13 = .ok (.istore_n 1, 1) := by decide +kernel
theorem dX8_digest_14 : decode cX8_digest 14 = .ok (.iload_n 1, 1) := by decide +kernel
theorem dX8_digest_15 : decode cX8_digest 15 = .ok (.bipush 18, 2) := by decide +kernel
theorem dX8_digest_17 : decode cX8_digest 17 = .ok (.if_icmp .ge 19, 3) := by decide +kernel
theorem dX8_digest_20 : decode cX8_digest 20 = .ok (.aload_n 0, 1) := by decide +kernel
theorem dX8_digest_21 : decode cX8_digest 21 = .ok (.aload_n 0, 1) := by decide +kernel
theorem dX8_digest_22 : decode cX8_digest 22 = .ok (.iload_n 1, 1) := by decide +kernel
theorem dX8_digest_23 : decode cX8_digest 23 = .ok (.invokevirtual 152, 3) := by decide +kernel
theorem dX8_digest_26 : decode cX8_digest 26 = .ok (.i2l, 1) := by decide +kernel
theorem dX8_digest_27 : decode cX8_digest 27 = .ok (.invokevirtual 206, 3) := by decide +kernel
theorem dX8_digest_30 : decode cX8_digest 30 = .ok (.iinc 1 1, 3) := by decide +kernel
theorem dX8_digest_33 : decode cX8_digest 33 = .ok (.goto (-19), 3) := by decide +kernel
theorem dX8_digest_36 : decode cX8_digest 36 = .ok (.iconst 0, 1) := by decide +kernel
theorem dX8_digest_37 : decode cX8_digest 37 = .ok (.istore_n 1, 1) := by decide +kernel
theorem dX8_digest_38 : decode cX8_digest 38 = .ok (.iload_n 1, 1) := by decide +kernel
theorem dX8_digest_39 : decode cX8_digest 39 = .ok (.bipush 6, 2) := by decide +kernel
theorem dX8_digest_41 : decode cX8_digest 41 = .ok (.if_icmp .ge 23, 3) := by decide +kernel
theorem dX8_digest_44 : decode cX8_digest 44 = .ok (.aload_n 0, 1) := by decide +kernel
theorem dX8_digest_45 : decode cX8_digest 45 = .ok (.aload_n 0, 1) := by decide +kernel
theorem dX8_digest_46 : decode cX8_digest 46 = .ok (.getfield 7, 3) := by decide +kernel
theorem dX8_digest_49 : decode cX8_digest 49 = .ok (.bipush 61, 2) := by decide +kernel
theorem dX8_digest_51 : decode cX8_digest 51 = .ok (.iload_n 1, 1) := by decide +kernel
theorem dX8_digest_52 : decode cX8_digest 52 = .ok (.iadd, 1) := by decide +kernel
theorem dX8_digest_53 : decode cX8_digest 53 = .ok (.iaload, 1) := by decide +kernel
theorem dX8_digest_54 : decode cX8_digest 54 = .ok (.i2l, 1) := by decide +kernel
theorem dX8_digest_55 : decode cX8_digest 55 = .ok (.invokevirtual 206, 3) := by decide +kernel
theorem dX8_digest_58 : decode cX8_digest 58 = .ok (.iinc 1 1, 3) := by decide +kernel
theorem dX8_digest_61 : decode cX8_digest 61 = .ok (.goto (-23), 3) := by decide +kernel
theorem dX8_digest_64 : decode cX8_digest 64 = .ok (.iconst 0, 1) := by decide +kernel
theorem dX8_digest_65 : decode cX8_digest 65 = .ok (.istore_n 1, 1) := by decide +kernel
theorem dX8_digest_66 : decode cX8_digest 66 = .ok (.iload_n 1, 1) := by decide +kernel
theorem dX8_digest_67 : decode cX8_digest 67 = .ok (.bipush 9, 2) := by decide +kernel
theorem dX8_digest_69 : decode cX8_digest 69 = .ok (.if_icmp .ge 24, 3) := by decide +kernel
theorem dX8_digest_72 : decode cX8_digest 72 = .ok (.aload_n 0, 1) := by decide +kernel
theorem dX8_digest_73 : decode cX8_digest 73 = .ok (.aload_n 0, 1) := by decide +kernel
theorem dX8_digest_74 : decode cX8_digest 74 = .ok (.iload_n 1, 1) := by decide +kernel
theorem dX8_digest_75 : decode cX8_digest 75 = .ok (.iconst 3, 1) := by decide +kernel
theorem dX8_digest_76 : decode cX8_digest 76 = .ok (.idiv, 1) := by decide +kernel
theorem dX8_digest_77 : decode cX8_digest 77 = .ok (.iload_n 1, 1) := by decide +kernel
theorem dX8_digest_78 : decode cX8_digest 78 = .ok (.iconst 3, 1) := by decide +kernel
theorem dX8_digest_79 : decode cX8_digest 79 = .ok (.irem, 1) := by decide +kernel
theorem dX8_digest_80 : decode cX8_digest 80 = .ok (.invokevirtual 146, 3) := by decide +kernel
theorem dX8_digest_83 : decode cX8_digest 83 = .ok (.i2l, 1) := by decide +kernel
theorem dX8_digest_84 : decode cX8_digest 84 = .ok (.invokevirtual 206, 3) := by decide +kernel
theorem dX8_digest_87 : decode cX8_digest 87 = .ok (.iinc 1 1, 3) := by decide +kernel
theorem dX8_digest_90 : decode cX8_digest 90 = .ok (.goto (-24), 3) := by decide +kernel
theorem dX8_digest_93 : decode cX8_digest 93 = .ok (.iconst 0, 1) := by decide +kernel
theorem dX8_digest_94 : decode cX8_digest 94 = .ok (.istore_n 1, 1) := by decide +kernel
theorem dX8_digest_95 : decode cX8_digest 95 = .ok (.iload_n 1, 1) := by decide +kernel
theorem dX8_digest_96 : decode cX8_digest 96 = .ok (.bipush 6, 2) := by decide +kernel
theorem dX8_digest_98 : decode cX8_digest 98 = .ok (.aload_n 0, 1) := by decide +kernel
theorem dX8_digest_99 : decode cX8_digest 99 = .ok (.getfield 7, 3) := by decide +kernel
theorem dX8_digest_102 : decode cX8_digest 102 = .ok (.bipush 21, 2) := by decide +kernel
theorem dX8_digest_104 : decode cX8_digest 104 = .ok (.iaload, 1) := by decide +kernel
theorem dX8_digest_105 : decode cX8_digest 105 = .ok (.imul, 1) := by decide +kernel
theorem dX8_digest_106 : decode cX8_digest 106 = .ok (.if_icmp .ge 26, 3) := by decide +kernel
theorem dX8_digest_109 : decode cX8_digest 109 = .ok (.aload_n 0, 1) := by decide +kernel
theorem dX8_digest_110 : decode cX8_digest 110 = .ok (.aload_n 0, 1) := by decide +kernel
theorem dX8_digest_111 : decode cX8_digest 111 = .ok (.iload_n 1, 1) := by decide +kernel
theorem dX8_digest_112 : decode cX8_digest 112 = .ok (.bipush 6, 2) := by decide +kernel
theorem dX8_digest_114 : decode cX8_digest 114 = .ok (.idiv, 1) := by decide +kernel
theorem dX8_digest_115 : decode cX8_digest 115 = .ok (.iload_n 1, 1) := by decide +kernel
theorem dX8_digest_116 : decode cX8_digest 116 = .ok (.bipush 6, 2) := by decide +kernel
theorem dX8_digest_118 : decode cX8_digest 118 = .ok (.irem, 1) := by decide +kernel
theorem dX8_digest_119 : decode cX8_digest 119 = .ok (.invokevirtual 149, 3) := by decide +kernel
theorem dX8_digest_122 : decode cX8_digest 122 = .ok (.i2l, 1) := by decide +kernel
theorem dX8_digest_123 : decode cX8_digest 123 = .ok (.invokevirtual 206, 3) := by decide +kernel
theorem dX8_digest_126 : decode cX8_digest 126 = .ok (.iinc 1 1, 3) := by decide +kernel
theorem dX8_digest_129 : decode cX8_digest 129 = .ok (.goto (-34), 3) := by decide +kernel
theorem dX8_digest_132 : decode cX8_digest 132 = .ok (.iconst 0, 1) := by decide +kernel
theorem dX8_digest_133 : decode cX8_digest 133 = .ok (.istore_n 1, 1) := by decide +kernel
theorem dX8_digest_134 : decode cX8_digest 134 = .ok (.iload_n 1, 1) := by decide +kernel
theorem dX8_digest_135 : decode cX8_digest 135 = .ok (.iconst 2, 1) := by decide +kernel
theorem dX8_digest_136 : decode cX8_digest 136 = .ok (.aload_n 0, 1) := by decide +kernel
theorem dX8_digest_137 : decode cX8_digest 137 = .ok (.getfield 7, 3) := by decide +kernel
theorem dX8_digest_140 : decode cX8_digest 140 = .ok (.bipush 52, 2) := by decide +kernel
theorem dX8_digest_142 : decode cX8_digest 142 = .ok (.iaload, 1) := by decide +kernel
theorem dX8_digest_143 : decode cX8_digest 143 = .ok (.imul, 1) := by decide +kernel
theorem dX8_digest_144 : decode cX8_digest 144 = .ok (.if_icmp .ge 23, 3) := by decide +kernel
theorem dX8_digest_147 : decode cX8_digest 147 = .ok (.aload_n 0, 1) := by decide +kernel
theorem dX8_digest_148 : decode cX8_digest 148 = .ok (.aload_n 0, 1) := by decide +kernel
theorem dX8_digest_149 : decode cX8_digest 149 = .ok (.getfield 7, 3) := by decide +kernel
theorem dX8_digest_152 : decode cX8_digest 152 = .ok (.bipush 53, 2) := by decide +kernel
theorem dX8_digest_154 : decode cX8_digest 154 = .ok (.iload_n 1, 1) := by decide +kernel
theorem dX8_digest_155 : decode cX8_digest 155 = .ok (.iadd, 1) := by decide +kernel
theorem dX8_digest_156 : decode cX8_digest 156 = .ok (.iaload, 1) := by decide +kernel
theorem dX8_digest_157 : decode cX8_digest 157 = .ok (.i2l, 1) := by decide +kernel
theorem dX8_digest_158 : decode cX8_digest 158 = .ok (.invokevirtual 206, 3) := by decide +kernel
theorem dX8_digest_161 : decode cX8_digest 161 = .ok (.iinc 1 1, 3) := by decide +kernel
theorem dX8_digest_164 : decode cX8_digest 164 = .ok (.goto (-30), 3) := by decide +kernel
theorem dX8_digest_167 : decode cX8_digest 167 = .ok (.iconst 0, 1) := by decide +kernel
theorem dX8_digest_168 : decode cX8_digest 168 = .ok (.istore_n 1, 1) := by decide +kernel
theorem dX8_digest_169 : decode cX8_digest 169 = .ok (.iload_n 1, 1) := by decide +kernel
theorem dX8_digest_170 : decode cX8_digest 170 = .ok (.iconst 3, 1) := by decide +kernel
theorem dX8_digest_171 : decode cX8_digest 171 = .ok (.if_icmp .ge 19, 3) := by decide +kernel
theorem dX8_digest_174 : decode cX8_digest 174 = .ok (.aload_n 0, 1) := by decide +kernel
theorem dX8_digest_175 : decode cX8_digest 175 = .ok (.aload_n 0, 1) := by decide +kernel
theorem dX8_digest_176 : decode cX8_digest 176 = .ok (.iload_n 1, 1) := by decide +kernel
theorem dX8_digest_177 : decode cX8_digest 177 = .ok (.invokevirtual 167, 3) := by decide +kernel
theorem dX8_digest_180 : decode cX8_digest 180 = .ok (.i2l, 1) := by decide +kernel
theorem dX8_digest_181 : decode cX8_digest 181 = .ok (.invokevirtual 206, 3) := by decide +kernel
theorem dX8_digest_184 : decode cX8_digest 184 = .ok (.iinc 1 1, 3) := by decide +kernel
theorem dX8_digest_187 : decode cX8_digest 187 = .ok (.goto (-18), 3) := by decide +kernel
theorem dX8_digest_190 : decode cX8_digest 190 = .ok (.iconst 0, 1) := by decide +kernel
theorem dX8_digest_191 : decode cX8_digest 191 = .ok (.istore_n 1, 1) := by decide +kernel
theorem dX8_digest_192 : decode cX8_digest 192 = .ok (.iload_n 1, 1) := by decide +kernel
theorem dX8_digest_193 : decode cX8_digest 193 = .ok (.bipush 10, 2) := by decide +kernel
theorem dX8_digest_195 : decode cX8_digest 195 = .ok (.if_icmp .ge 21, 3) := by decide +kernel
theorem dX8_digest_198 : decode cX8_digest 198 = .ok (.aload_n 0, 1) := by decide +kernel
theorem dX8_digest_199 : decode cX8_digest 199 = .ok (.aload_n 0, 1) := by decide +kernel
theorem dX8_digest_200 : decode cX8_digest 200 = .ok (.bipush 60, 2) := by decide +kernel
theorem dX8_digest_202 : decode cX8_digest 202 = .ok (.iload_n 1, 1) := by decide +kernel
theorem dX8_digest_203 : decode cX8_digest 203 = .ok (.invokevirtual 173, 3) := by decide +kernel
theorem dX8_digest_206 : decode cX8_digest 206 = .ok (.i2l, 1) := by decide +kernel
theorem dX8_digest_207 : decode cX8_digest 207 = .ok (.invokevirtual 206, 3) := by decide +kernel
theorem dX8_digest_210 : decode cX8_digest 210 = .ok (.iinc 1 1, 3) := by decide +kernel
theorem dX8_digest_213 : decode cX8_digest 213 = .ok (.goto (-21), 3) := by decide +kernel
theorem dX8_digest_216 : decode cX8_digest 216 = .ok (.aload_n 0, 1) := by decide +kernel
theorem dX8_digest_217 : decode cX8_digest 217 = .ok (.aload_n 0, 1) := by decide +kernel
theorem dX8_digest_218 : decode cX8_digest 218 = .ok (.invokevirtual 176, 3) := by decide +kernel
theorem dX8_digest_221 : decode cX8_digest 221 = .ok (.i2l, 1) := by decide +kernel
theorem dX8_digest_222 : decode cX8_digest 222 = .ok (.invokevirtual 206, 3) := by decide +kernel
theorem dX8_digest_225 : decode cX8_digest 225 = .ok (.aload_n 0, 1) := by decide +kernel
theorem dX8_digest_226 : decode cX8_digest 226 = .ok (.aload_n 0, 1) := by decide +kernel
theorem dX8_digest_227 : decode cX8_digest 227 = .ok (.invokevirtual 179, 3) := by decide +kernel
theorem dX8_digest_230 : decode cX8_digest 230 = .ok (.i2l, 1) := by decide +kernel
theorem dX8_digest_231 : decode cX8_digest 231 = .ok (.invokevirtual 206, 3) := by decide +kernel
theorem dX8_digest_234 : decode cX8_digest 234 = .ok (.aload_n 0, 1) := by decide +kernel
theorem dX8_digest_235 : decode cX8_digest 235 = .ok (.aload_n 0, 1) := by decide +kernel
theorem dX8_digest_236 : decode cX8_digest 236 = .ok (.sipush 240, 3) := by decide +kernel
theorem dX8_digest_239 : decode cX8_digest 239 = .ok (.invokevirtual 185, 3) := by decide +kernel
theorem dX8_digest_242 : decode cX8_digest 242 = .ok (.i2l, 1) := by decide +kernel
theorem dX8_digest_243 : decode cX8_digest 243 = .ok (.invokevirtual 206, 3) := by decide +kernel
theorem dX8_digest_246 : decode cX8_digest 246 = .ok (.aload_n 0, 1) := by decide +kernel
theorem dX8_digest_247 : decode cX8_digest 247 = .ok (.aload_n 0, 1) := by decide +kernel
theorem dX8_digest_248 : decode cX8_digest 248 = .ok (.invokevirtual 191, 3) := by decide +kernel
theorem dX8_digest_251 : decode cX8_digest 251 = .ok (.i2l, 1) := by decide +kernel
theorem dX8_digest_252 : decode cX8_digest 252 = .ok (.invokevirtual 206, 3) := by decide +kernel
theorem dX8_digest_255 : decode cX8_digest 255 = .ok (.aload_n 0, 1) := by decide +kernel
theorem dX8_digest_256 : decode cX8_digest 256 = .ok (.aload_n 0, 1) := by decide +kernel
theorem dX8_digest_257 : decode cX8_digest 257 = .ok (.invokevirtual 194, 3) := by decide +kernel
theorem dX8_digest_260 : decode cX8_digest 260 = .ok (.invokestatic 210, 3) := by decide +kernel
theorem dX8_digest_263 : decode cX8_digest 263 = .ok (.invokevirtual 206, 3) := by decide +kernel
theorem dX8_digest_266 : decode cX8_digest 266 = .ok (.aload_n 0, 1) := by decide +kernel
theorem dX8_digest_267 : decode cX8_digest 267 = .ok (.aload_n 0, 1) := by decide +kernel
theorem dX8_digest_268 : decode cX8_digest 268 = .ok (.getfield 126, 3) := by decide +kernel
theorem dX8_digest_271 : decode cX8_digest 271 = .ok (.i2l, 1) := by decide +kernel
theorem dX8_digest_272 : decode cX8_digest 272 = .ok (.invokevirtual 206, 3) := by decide +kernel
theorem dX8_digest_275 : decode cX8_digest 275 = .ok (.iconst 0, 1) := by decide +kernel
theorem dX8_digest_276 : decode cX8_digest 276 = .ok (.istore_n 1, 1) := by decide +kernel
theorem dX8_digest_277 : decode cX8_digest 277 = .ok (.iload_n 1, 1) := by decide +kernel
theorem dX8_digest_278 : decode cX8_digest 278 = .ok (.aload_n 0, 1) := by decide +kernel
theorem dX8_digest_279 : decode cX8_digest 279 = .ok (.getfield 126, 3) := by decide +kernel
theorem dX8_digest_282 : decode cX8_digest 282 = .ok (.if_icmp .ge 20, 3) := by decide +kernel
theorem dX8_digest_285 : decode cX8_digest 285 = .ok (.aload_n 0, 1) := by decide +kernel
theorem dX8_digest_286 : decode cX8_digest 286 = .ok (.aload_n 0, 1) := by decide +kernel
theorem dX8_digest_287 : decode cX8_digest 287 = .ok (.getfield 16, 3) := by decide +kernel
theorem dX8_digest_290 : decode cX8_digest 290 = .ok (.iload_n 1, 1) := by decide +kernel
theorem dX8_digest_291 : decode cX8_digest 291 = .ok (.iaload, 1) := by decide +kernel
theorem dX8_digest_292 : decode cX8_digest 292 = .ok (.i2l, 1) := by decide +kernel
theorem dX8_digest_293 : decode cX8_digest 293 = .ok (.invokevirtual 206, 3) := by decide +kernel
theorem dX8_digest_296 : decode cX8_digest 296 = .ok (.iinc 1 1, 3) := by decide +kernel
theorem dX8_digest_299 : decode cX8_digest 299 = .ok (.goto (-22), 3) := by decide +kernel
theorem dX8_digest_302 : decode cX8_digest 302 = .ok (.aload_n 0, 1) := by decide +kernel
theorem dX8_digest_303 : decode cX8_digest 303 = .ok (.getfield 200, 3) := by decide +kernel
theorem dX8_digest_306 : decode cX8_digest 306 = .ok (.lreturn, 1) := by decide +kernel
theorem dJxe99ae_isNaN_b9ae7_0 : decode cJxe99ae_isNaN_b9ae7 0 = .ok (.dload_n 0, 1) := by decide +kernel
theorem dJxe99ae_isNaN_b9ae7_1 : decode cJxe99ae_isNaN_b9ae7 1 = .ok (.dload_n 0, 1) := by decide +kernel
theorem dJxe99ae_isNaN_b9ae7_2 : decode cJxe99ae_isNaN_b9ae7 2 = .ok (.dcmp .l, 1) := by decide +kernel
theorem dJxe99ae_isNaN_b9ae7_3 : decode cJxe99ae_isNaN_b9ae7 3 = .ok (.ifCond .eq 7, 3) := by decide +kernel
theorem dJxe99ae_isNaN_b9ae7_6 : decode cJxe99ae_isNaN_b9ae7 6 = .ok (.iconst 1, 1) := by decide +kernel
theorem dJxe99ae_isNaN_b9ae7_7 : decode cJxe99ae_isNaN_b9ae7 7 = .ok (.goto 4, 3) := by decide +kernel
theorem dJxe99ae_isNaN_b9ae7_10 : decode cJxe99ae_isNaN_b9ae7 10 = .ok (.iconst 0, 1) := by decide +kernel
theorem dJxe99ae_isNaN_b9ae7_11 : decode cJxe99ae_isNaN_b9ae7 11 = .ok (.ireturn, 1) := by decide +kernel
theorem dJxe99ae_doubleToLongBits_ccdee_0 : decode cJxe99ae_doubleToLongBits_ccdee 0 = .ok (.dload_n 0, 1) := by decide +kernel
theorem dJxe99ae_doubleToLongBits_ccdee_1 : decode cJxe99ae_doubleToLongBits_ccdee 1 = .ok (.invokestatic 122, 3) := by decide +kernel
theorem dJxe99ae_doubleToLongBits_ccdee_4 : decode cJxe99ae_doubleToLongBits_ccdee 4 = .ok (.ifCond .ne 8, 3) := by decide +kernel
theorem dJxe99ae_doubleToLongBits_ccdee_7 : decode cJxe99ae_doubleToLongBits_ccdee 7 = .ok (.dload_n 0, 1) := by decide +kernel
theorem dJxe99ae_doubleToLongBits_ccdee_8 : decode cJxe99ae_doubleToLongBits_ccdee 8 = .ok (.invokestatic 134, 3) := by decide +kernel
theorem dJxe99ae_doubleToLongBits_ccdee_11 : decode cJxe99ae_doubleToLongBits_ccdee 11 = .ok (.lreturn, 1) := by decide +kernel
theorem dJxe99ae_doubleToLongBits_ccdee_12 : decode cJxe99ae_doubleToLongBits_ccdee 12 = .ok (.ldc2_w 137, 3) := by decide +kernel
theorem dJxe99ae_doubleToLongBits_ccdee_15 : decode cJxe99ae_doubleToLongBits_ccdee 15 = .ok (.lreturn, 1) := by decide +kernel
theorem dJ9_floorMod_7cf53_0 : decode cJ9_floorMod_7cf53 0 = .ok (.iload_n 0, 1) := by decide +kernel
theorem dJ9_floorMod_7cf53_1 : decode cJ9_floorMod_7cf53 1 = .ok (.iload_n 1, 1) := by decide +kernel
theorem dJ9_floorMod_7cf53_2 : decode cJ9_floorMod_7cf53 2 = .ok (.irem, 1) := by decide +kernel
theorem dJ9_floorMod_7cf53_3 : decode cJ9_floorMod_7cf53 3 = .ok (.istore_n 2, 1) := by decide +kernel
theorem dJ9_floorMod_7cf53_4 : decode cJ9_floorMod_7cf53 4 = .ok (.iload_n 0, 1) := by decide +kernel
theorem dJ9_floorMod_7cf53_5 : decode cJ9_floorMod_7cf53 5 = .ok (.iload_n 1, 1) := by decide +kernel
theorem dJ9_floorMod_7cf53_6 : decode cJ9_floorMod_7cf53 6 = .ok (.ixor, 1) := by decide +kernel
theorem dJ9_floorMod_7cf53_7 : decode cJ9_floorMod_7cf53 7 = .ok (.ifCond .ge 11, 3) := by decide +kernel
theorem dJ9_floorMod_7cf53_10 : decode cJ9_floorMod_7cf53 10 = .ok (.iload_n 2, 1) := by decide +kernel
theorem dJ9_floorMod_7cf53_11 : decode cJ9_floorMod_7cf53 11 = .ok (.ifCond .eq 7, 3) := by decide +kernel
theorem dJ9_floorMod_7cf53_14 : decode cJ9_floorMod_7cf53 14 = .ok (.iload_n 2, 1) := by decide +kernel
theorem dJ9_floorMod_7cf53_15 : decode cJ9_floorMod_7cf53 15 = .ok (.iload_n 1, 1) := by decide +kernel
theorem dJ9_floorMod_7cf53_16 : decode cJ9_floorMod_7cf53 16 = .ok (.iadd, 1) := by decide +kernel
theorem dJ9_floorMod_7cf53_17 : decode cJ9_floorMod_7cf53 17 = .ok (.ireturn, 1) := by decide +kernel
theorem dJ9_floorMod_7cf53_18 : decode cJ9_floorMod_7cf53 18 = .ok (.iload_n 2, 1) := by decide +kernel
theorem dJ9_floorMod_7cf53_19 : decode cJ9_floorMod_7cf53 19 = .ok (.ireturn, 1) := by decide +kernel
theorem dJ9_max_7cf53_0 : decode cJ9_max_7cf53 0 = .ok (.iload_n 0, 1) := by decide +kernel
theorem dJ9_max_7cf53_1 : decode cJ9_max_7cf53 1 = .ok (.iload_n 1, 1) := by decide +kernel
theorem dJ9_max_7cf53_2 : decode cJ9_max_7cf53 2 = .ok (.if_icmp .lt 7, 3) := by decide +kernel
theorem dJ9_max_7cf53_5 : decode cJ9_max_7cf53 5 = .ok (.iload_n 0, 1) := by decide +kernel
theorem dJ9_max_7cf53_6 : decode cJ9_max_7cf53 6 = .ok (.goto 4, 3) := by decide +kernel
theorem dJ9_max_7cf53_9 : decode cJ9_max_7cf53 9 = .ok (.iload_n 1, 1) := by decide +kernel
theorem dJ9_max_7cf53_10 : decode cJ9_max_7cf53 10 = .ok (.ireturn, 1) := by decide +kernel
theorem dJ9_min_7cf53_0 : decode cJ9_min_7cf53 0 = .ok (.iload_n 0, 1) := by decide +kernel
theorem dJ9_min_7cf53_1 : decode cJ9_min_7cf53 1 = .ok (.iload_n 1, 1) := by decide +kernel
theorem dJ9_min_7cf53_2 : decode cJ9_min_7cf53 2 = .ok (.if_icmp .gt 7, 3) := by decide +kernel
theorem dJ9_min_7cf53_5 : decode cJ9_min_7cf53 5 = .ok (.iload_n 0, 1) := by decide +kernel
theorem dJ9_min_7cf53_6 : decode cJ9_min_7cf53 6 = .ok (.goto 4, 3) := by decide +kernel
theorem dJ9_min_7cf53_9 : decode cJ9_min_7cf53 9 = .ok (.iload_n 1, 1) := by decide +kernel
theorem dJ9_min_7cf53_10 : decode cJ9_min_7cf53 10 = .ok (.ireturn, 1) := by decide +kernel
