theorem dX0_init_0 : decode cX0_init 0 = .ok (.aload_n 0, 1) := by decide +kernel
theorem dX0_init_1 : decode cX0_init 1 = .ok (.invokespecial 3, 3) := by decide +kernel
theorem dX0_init_4 : decode cX0_init 4 = .ok (.aload_n 0, 1) := by decide +kernel
theorem dX0_init_5 : decode cX0_init 5 = .ok (.iconst 0, 1) := by decide +kernel
theorem dX0_init_6 : decode cX0_init 6 = .ok (.putfield 9, 3) := by decide +kernel
theorem dX0_init_9 : decode cX0_init 9 = .ok (.aload_n 0, 1) := by decide +kernel
theorem dX0_init_10 : decode cX0_init 10 = .ok (.bipush 6, 2) := by decide +kernel
theorem dX0_init_12 : decode cX0_init 12 = .ok (.newarray .int, 2) := by decide +kernel
theorem dX0_init_14 : decode cX0_init 14 = .ok (.putfield 15, 3) := by decide +kernel
theorem dX0_init_17 : decode cX0_init 17 = .ok (.aload_n 0, 1) := by decide +kernel
theorem dX0_init_18 : decode cX0_init 18 = .ok (.bipush 6, 2) := by decide +kernel
theorem dX0_init_20 : decode cX0_init 20 = .ok (.newarray .int, 2) := by decide +kernel
theorem dX0_init_22 : decode cX0_init 22 = .ok (.putfield 19, 3) := by decide +kernel
theorem dX0_init_25 : decode cX0_init 25 = .ok (.aload_n 0, 1) := by decide +kernel
theorem dX0_init_26 : decode cX0_init 26 = .ok (.bipush 48, 2) := by decide +kernel
theorem dX0_init_28 : decode cX0_init 28 = .ok (.newarray .boolean, 2) := by decide +kernel
theorem dX0_init_30 : decode cX0_init 30 = .ok (.putfield 22, 3) := by decide +kernel
theorem dX0_init_33 : decode cX0_init 33 = .ok (.aload_n 0, 1) := by decide +kernel
theorem dX0_init_34 : decode cX0_init 34 = .ok (.bipush 48, 2) := by decide +kernel
theorem dX0_init_36 : decode cX0_init 36 = .ok (.newarray .int, 2) := by decide +kernel
theorem dX0_init_38 : decode cX0_init 38 = .ok (.putfield 26, 3) := by decide +kernel
theorem dX0_init_41 : decode cX0_init 41 = .ok (.aload_n 0, 1) := by decide +kernel
theorem dX0_init_42 : decode cX0_init 42 = .ok (.bipush 48, 2) := by decide +kernel
theorem dX0_init_44 : decode cX0_init 44 = .ok (.newarray .int, 2) := by decide +kernel
theorem dX0_init_46 : decode cX0_init 46 = .ok (.putfield 29, 3) := by decide +kernel
theorem dX0_init_49 : decode cX0_init 49 = .ok (.return_, 1) := by decide +kernel
theorem dX0_clear_0 : decode cX0_clear 0 = .ok (.aload_n 0, 1) := by decide +kernel
theorem dX0_clear_1 : decode cX0_clear 1 = .ok (.iconst 0, 1) := by decide +kernel
theorem dX0_clear_2 : decode cX0_clear 2 = .ok (.putfield 9, 3) := by decide +kernel
theorem dX0_clear_5 : decode cX0_clear 5 = .ok (.iconst 0, 1) := by decide +kernel
theorem dX0_clear_6 : decode cX0_clear 6 = .ok (.istore_n 1, 1) := by decide +kernel
theorem dX0_clear_7 : decode cX0_clear 7 = .ok (.iload_n 1, 1) := by decide +kernel
theorem dX0_clear_8 : decode cX0_clear 8 = .ok (.bipush 48, 2) := by decide +kernel
theorem dX0_clear_10 : decode cX0_clear 10 = .ok (.if_icmp .ge 16, 3) := by decide +kernel
theorem dX0_clear_13 : decode cX0_clear 13 = .ok (.aload_n 0, 1) := by decide +kernel
theorem dX0_clear_14 : decode cX0_clear 14 = .ok (.getfield 22, 3) := by decide +kernel
theorem dX0_clear_17 : decode cX0_clear 17 = .ok (.iload_n 1, 1) := by decide +kernel
theorem dX0_clear_18 : decode cX0_clear 18 = .ok (.iconst 0, 1) := by decide +kernel
theorem dX0_clear_19 : decode cX0_clear 19 = .ok (.bastore, 1) := by decide +kernel
theorem dX0_clear_20 : decode cX0_clear 20 = .ok (.iinc 1 1, 3) := by decide +kernel
theorem dX0_clear_23 : decode cX0_clear 23 = .ok (.goto (-16), 3) := by decide +kernel
theorem dX0_clear_26 : decode cX0_clear 26 = .ok (.return_, 1) := by decide +kernel
theorem dX0_has_0 : decode cX0_has 0 = .ok (.iload_n 1, 1) := by decide +kernel
theorem dX0_has_1 : decode cX0_has 1 = .ok (.iconst 0, 1) := by decide +kernel
theorem dX0_has_2 : decode cX0_has 2 = .ok (.aload_n 0, 1) := by decide +kernel
theorem dX0_has_3 : decode cX0_has 3 = .ok (.getfield 9, 3) := by decide +kernel
theorem dX0_has_6 : decode cX0_has 6 = .ok (.iconst 1, 1) := by decide +kernel
theorem dX0_has_7 : decode cX0_has 7 = .ok (.isub, 1) := by decide +kernel
theorem dX0_has_8 : decode cX0_has 8 = .ok (.invokestatic 32, 3) := by decide +kernel
theorem dX0_has_11 : decode cX0_has 11 = .ok (.ireturn, 1) := by decide +kernel
theorem dX0_isTaken_0 : decode cX0_isTaken 0 = .ok (.iconst 0, 1) := by decide +kernel
theorem dX0_isTaken_1 : decode cX0_isTaken 1 = .ok (.istore_n 2, 1) := by decide +kernel
theorem dX0_isTaken_2 : decode cX0_isTaken 2 = .ok (.iload_n 2, 1) := by decide +kernel
theorem dX0_isTaken_3 : decode cX0_isTaken 3 = .ok (.aload_n 0, 1) := by decide +kernel
theorem dX0_isTaken_4 : decode cX0_isTaken 4 = .ok (.getfield 9, 3) := by decide +kernel
theorem dX0_isTaken_7 : decode cX0_isTaken 7 = .ok (.if_icmp .ge 21, 3) := by decide +kernel
theorem dX0_isTaken_10 : decode cX0_isTaken 10 = .ok (.aload_n 0, 1) := by decide +kernel
theorem dX0_isTaken_11 : decode cX0_isTaken 11 = .ok (.getfield 15, 3) := by decide +kernel
theorem dX0_isTaken_14 : decode cX0_isTaken 14 = .ok (.iload_n 2, 1) := by decide +kernel
theorem dX0_isTaken_15 : decode cX0_isTaken 15 = .ok (.iaload, 1) := by decide +kernel
theorem dX0_isTaken_16 : decode cX0_isTaken 16 = .ok (.iload_n 1, 1) := by decide +kernel
theorem dX0_isTaken_17 : decode cX0_isTaken 17 = .ok (.if_icmp .ne 5, 3) := by decide +kernel
theorem dX0_isTaken_20 : decode cX0_isTaken 20 = .ok (.iconst 1, 1) := by decide +kernel
theorem dX0_isTaken_21 : decode cX0_isTaken 21 = .ok (.ireturn, 1) := by decide +kernel
theorem dX0_isTaken_22 : decode cX0_isTaken 22 = .ok (.iinc 2 1, 3) := by decide +kernel
theorem dX0_isTaken_25 : decode cX0_isTaken 25 = .ok (.goto (-23), 3) := by decide +kernel
theorem dX0_isTaken_28 : decode cX0_isTaken 28 = .ok (.iconst 0, 1) := by decide +kernel
theorem dX0_isTaken_29 : decode cX0_isTaken 29 = .ok (.ireturn, 1) := by decide +kernel
theorem dX0_open_0 : decode cX0_open 0 = .ok (.aload_n 0, 1) := by decide +kernel
theorem dX0_open_1 : decode cX0_open 1 = .ok (.getfield 9, 3) := by decide +kernel
theorem dX0_open_4 : decode cX0_open 4 = .ok (.istore_n 2, 1) := by decide +kernel
theorem dX0_open_5 : decode cX0_open 5 = .ok (.aload_n 0, 1) := by decide +kernel
theorem dX0_open_6 : decode cX0_open 6 = .ok (.getfield 15, 3) := by decide +kernel
theorem dX0_open_9 : decode cX0_open 9 = .ok (.iload_n 2, 1) := by decide +kernel
theorem dX0_open_10 : decode cX0_open 10 = .ok (.iload_n 1, 1) := by decide +kernel
theorem dX0_open_11 : decode cX0_open 11 = .ok (.iastore, 1) := by decide +kernel
theorem dX0_open_12 : decode cX0_open 12 = .ok (.aload_n 0, 1) := by decide +kernel
theorem dX0_open_13 : decode cX0_open 13 = .ok (.getfield 19, 3) := by decide +kernel
theorem dX0_open_16 : decode cX0_open 16 = .ok (.iload_n 2, 1) := by decide +kernel
theorem dX0_open_17 : decode cX0_open 17 = .ok (.bipush 10, 2) := by decide +kernel
theorem dX0_open_19 : decode cX0_open 19 = .ok (.iastore, 1) := by decide +kernel
theorem dX0_open_20 : decode cX0_open 20 = .ok (.aload_n 0, 1) := by decide +kernel
theorem dX0_open_21 : decode cX0_open 21 = .ok (.iload_n 2, 1) := by decide +kernel
theorem dX0_open_22 : decode cX0_open 22 = .ok (.iconst 1, 1) := by decide +kernel
theorem dX0_open_23 : decode cX0_open 23 = .ok (.iadd, 1) := by decide +kernel
theorem dX0_open_24 : decode cX0_open 24 = .ok (.putfield 9, 3) := by decide +kernel
theorem dX0_open_27 : decode cX0_open 27 = .ok (.iload_n 2, 1) := by decide +kernel
theorem dX0_open_28 : decode cX0_open 28 = .ok (.ireturn, 1) := by decide +kernel
theorem dX0_build_0 : decode cX0_build 0 = .ok (.aload_n 0, 1) := by decide +kernel
theorem dX0_build_1 : decode cX0_build 1 = .ok (.getfield 22, 3) := by decide +kernel
theorem dX0_build_4 : decode cX0_build 4 = .ok (.iload_n 1, 1) := by decide +kernel
theorem dX0_build_5 : decode cX0_build 5 = .ok (.iconst 1, 1) := by decide +kernel
theorem dX0_build_6 : decode cX0_build 6 = .ok (.bastore, 1) := by decide +kernel
theorem dX0_build_7 : decode cX0_build 7 = .ok (.aload_n 0, 1) := by decide +kernel
theorem dX0_build_8 : decode cX0_build 8 = .ok (.getfield 26, 3) := by decide +kernel
theorem dX0_build_11 : decode cX0_build 11 = .ok (.iload_n 1, 1) := by decide +kernel
theorem dX0_build_12 : decode cX0_build 12 = .ok (.iload_n 2, 1) := by decide +kernel
theorem dX0_build_13 : decode cX0_build 13 = .ok (.iastore, 1) := by decide +kernel
theorem dX0_build_14 : decode cX0_build 14 = .ok (.aload_n 0, 1) := by decide +kernel
theorem dX0_build_15 : decode cX0_build 15 = .ok (.getfield 29, 3) := by decide +kernel
theorem dX0_build_18 : decode cX0_build 18 = .ok (.iload_n 1, 1) := by decide +kernel
theorem dX0_build_19 : decode cX0_build 19 = .ok (.iload_n 3, 1) := by decide +kernel
theorem dX0_build_20 : decode cX0_build 20 = .ok (.iastore, 1) := by decide +kernel
theorem dX0_build_21 : decode cX0_build 21 = .ok (.return_, 1) := by decide +kernel
theorem dX1_init_0 : decode cX1_init 0 = .ok (.aload_n 0, 1) := by decide +kernel
theorem dX1_init_1 : decode cX1_init 1 = .ok (.invokespecial 3, 3) := by decide +kernel
theorem dX1_init_4 : decode cX1_init 4 = .ok (.aload_n 0, 1) := by decide +kernel
theorem dX1_init_5 : decode cX1_init 5 = .ok (.iconst 0, 1) := by decide +kernel
theorem dX1_init_6 : decode cX1_init 6 = .ok (.putfield 9, 3) := by decide +kernel
theorem dX1_init_9 : decode cX1_init 9 = .ok (.aload_n 0, 1) := by decide +kernel
theorem dX1_init_10 : decode cX1_init 10 = .ok (.iconst 0, 1) := by decide +kernel
theorem dX1_init_11 : decode cX1_init 11 = .ok (.putfield 15, 3) := by decide +kernel
theorem dX1_init_14 : decode cX1_init 14 = .ok (.aload_n 0, 1) := by decide +kernel
theorem dX1_init_15 : decode cX1_init 15 = .ok (.iconst 1, 1) := by decide +kernel
theorem dX1_init_16 : decode cX1_init 16 = .ok (.putfield 18, 3) := by decide +kernel
theorem dX1_init_19 : decode cX1_init 19 = .ok (.aload_n 0, 1) := by decide +kernel
theorem dX1_init_20 : decode cX1_init 20 = .ok (.new 21, 3) := by decide +kernel
theorem dX1_init_23 : decode cX1_init 23 = .ok (.dup, 1) := by decide +kernel
theorem dX1_init_24 : decode cX1_init 24 = .ok (.invokespecial 23, 3) := by decide +kernel
theorem dX1_init_27 : decode cX1_init 27 = .ok (.putfield 24, 3) := by decide +kernel
theorem dX1_init_30 : decode cX1_init 30 = .ok (.aload_n 0, 1) := by decide +kernel
theorem dX1_init_31 : decode cX1_init 31 = .ok (.new 28, 3) := by decide +kernel
theorem dX1_init_34 : decode cX1_init 34 = .ok (.dup, 1) := by decide +kernel
theorem dX1_init_35 : decode cX1_init 35 = .ok (.invokespecial 30, 3) := by decide +kernel
theorem dX1_init_38 : decode cX1_init 38 = .ok (.putfield 31, 3) := by decide +kernel
theorem dX1_init_41 : decode cX1_init 41 = .ok (.aload_n 0, 1) := by decide +kernel
theorem dX1_init_42 : decode cX1_init 42 = .ok (.sipush 200, 3) := by decide +kernel
theorem dX1_init_45 : decode cX1_init 45 = .ok (.newarray .int, 2) := by decide +kernel
theorem dX1_init_47 : decode cX1_init 47 = .ok (.putfield 35, 3) := by decide +kernel
theorem dX1_init_50 : decode cX1_init 50 = .ok (.aload_n 0, 1) := by decide +kernel
theorem dX1_init_51 : decode cX1_init 51 = .ok (.bipush 20, 2) := by decide +kernel
theorem dX1_init_53 : decode cX1_init 53 = .ok (.newarray .int, 2) := by decide +kernel
theorem dX1_init_55 : decode cX1_init 55 = .ok (.putfield 39, 3) := by decide +kernel
theorem dX1_init_58 : decode cX1_init 58 = .ok (.return_, 1) := by decide +kernel
theorem dX1_renew_0 : decode cX1_renew 0 = .ok (.aload_n 0, 1) := by decide +kernel
theorem dX1_renew_1 : decode cX1_renew 1 = .ok (.iconst 0, 1) := by decide +kernel
theorem dX1_renew_2 : decode cX1_renew 2 = .ok (.putfield 9, 3) := by decide +kernel
theorem dX1_renew_5 : decode cX1_renew 5 = .ok (.aload_n 0, 1) := by decide +kernel
theorem dX1_renew_6 : decode cX1_renew 6 = .ok (.iconst 0, 1) := by decide +kernel
theorem dX1_renew_7 : decode cX1_renew 7 = .ok (.putfield 15, 3) := by decide +kernel
theorem dX1_renew_10 : decode cX1_renew 10 = .ok (.aload_n 0, 1) := by decide +kernel
theorem dX1_renew_11 : decode cX1_renew 11 = .ok (.iconst 1, 1) := by decide +kernel
theorem dX1_renew_12 : decode cX1_renew 12 = .ok (.putfield 18, 3) := by decide +kernel
theorem dX1_renew_15 : decode cX1_renew 15 = .ok (.aload_n 0, 1) := by decide +kernel
theorem dX1_renew_16 : decode cX1_renew 16 = .ok (.getfield 35, 3) := by decide +kernel
theorem dX1_renew_19 : decode cX1_renew 19 = .ok (.iconst 0, 1) := by decide +kernel
theorem dX1_renew_20 : decode cX1_renew 20 = .ok (.iconst 0, 1) := by decide +kernel
theorem dX1_renew_21 : decode cX1_renew 21 = .ok (.iastore, 1) := by decide +kernel
theorem dX1_renew_22 : decode cX1_renew 22 = .ok (.aload_n 0, 1) := by decide +kernel
theorem dX1_renew_23 : decode cX1_renew 23 = .ok (.getfield 24, 3) := by decide +kernel
theorem dX1_renew_26 : decode cX1_renew 26 = .ok (.iload_n 1, 1) := by decide +kernel
theorem dX1_renew_27 : decode cX1_renew 27 = .ok (.invokevirtual 42, 3) := by decide +kernel
theorem dX1_renew_30 : decode cX1_renew 30 = .ok (.aload_n 0, 1) := by decide +kernel
theorem dX1_renew_31 : decode cX1_renew 31 = .ok (.getfield 31, 3) := by decide +kernel
theorem dX1_renew_34 : decode cX1_renew 34 = .ok (.invokevirtual 46, 3) := by decide +kernel
theorem dX1_renew_37 : decode cX1_renew 37 = .ok (.return_, 1) := by decide +kernel
theorem dX1_copyFrom_0 : decode cX1_copyFrom 0 = .ok (.aload_n 0, 1) := by decide +kernel
theorem dX1_copyFrom_1 : decode cX1_copyFrom 1 = .ok (.aload_n 1, 1) := by decide +kernel
theorem dX1_copyFrom_2 : decode cX1_copyFrom 2 = .ok (.getfield 9, 3) := by decide +kernel
theorem dX1_copyFrom_5 : decode cX1_copyFrom 5 = .ok (.putfield 9, 3) := by decide +kernel
theorem dX1_copyFrom_8 : decode cX1_copyFrom 8 = .ok (.aload_n 0, 1) := by decide +kernel
theorem dX1_copyFrom_9 : decode cX1_copyFrom 9 = .ok (.aload_n 1, 1) := by decide +kernel
theorem dX1_copyFrom_10 : decode cX1_copyFrom 10 = .ok (.getfield 15, 3) := by decide +kernel
theorem dX1_copyFrom_13 : decode cX1_copyFrom 13 = .ok (.putfield 15, 3) := by decide +kernel
theorem dX1_copyFrom_16 : decode cX1_copyFrom 16 = .ok (.aload_n 0, 1) := by decide +kernel
theorem dX1_copyFrom_17 : decode cX1_copyFrom 17 = .ok (.aload_n 1, 1) := by decide +kernel
theorem dX1_copyFrom_18 : decode cX1_copyFrom 18 = .ok (.getfield 18, 3) := by decide +kernel
theorem dX1_copyFrom_21 : decode cX1_copyFrom 21 = .ok (.putfield 18, 3) := by decide +kernel
theorem dX1_copyFrom_24 : decode cX1_copyFrom 24 = .ok (.aload_n 0, 1) := by decide +kernel
theorem dX1_copyFrom_25 : decode cX1_copyFrom 25 = .ok (.getfield 24, 3) := by decide +kernel
theorem dX1_copyFrom_28 : decode cX1_copyFrom 28 = .ok (.aload_n 1, 1) := by decide +kernel
theorem dX1_copyFrom_29 : decode cX1_copyFrom 29 = .ok (.getfield 24, 3) := by decide +kernel
theorem dX1_copyFrom_32 : decode cX1_copyFrom 32 = .ok (.invokevirtual 49, 3) := by decide +kernel
theorem dX1_copyFrom_35 : decode cX1_copyFrom 35 = .ok (.aload_n 0, 1) := by decide +kernel
theorem dX1_copyFrom_36 : decode cX1_copyFrom 36 = .ok (.getfield 31, 3) := by decide +kernel
theorem dX1_copyFrom_39 : decode cX1_copyFrom 39 = .ok (.aload_n 1, 1) := by decide +kernel
theorem dX1_copyFrom_40 : decode cX1_copyFrom 40 = .ok (.getfield 31, 3) := by decide +kernel
theorem dX1_copyFrom_43 : decode cX1_copyFrom 43 = .ok (.invokevirtual 53, 3) := by decide +kernel
theorem dX1_copyFrom_46 : decode cX1_copyFrom 46 = .ok (.aload_n 1, 1) := by decide +kernel
theorem dX1_copyFrom_47 : decode cX1_copyFrom 47 = .ok (.getfield 35, 3) := by decide +kernel
theorem dX1_copyFrom_50 : decode cX1_copyFrom 50 = .ok (.iconst 0, 1) := by decide +kernel
theorem dX1_copyFrom_51 : decode cX1_copyFrom 51 = .ok (.aload_n 0, 1) := by decide +kernel
theorem dX1_copyFrom_52 : decode cX1_copyFrom 52 = .ok (.getfield 35, 3) := by decide +kernel
theorem dX1_copyFrom_55 : decode cX1_copyFrom 55 = .ok (.iconst 0, 1) := by decide +kernel
theorem dX1_copyFrom_56 : decode cX1_copyFrom 56 = .ok (.aload_n 0, 1) := by decide +kernel
theorem dX1_copyFrom_57 : decode cX1_copyFrom 57 = .ok (.getfield 18, 3) := by decide +kernel
theorem dX1_copyFrom_60 : decode cX1_copyFrom 60 = .ok (.invokestatic 56, 3) := by decide +kernel
theorem dX1_copyFrom_63 : decode cX1_copyFrom 63 = .ok (.aload_n 1, 1) := by decide +kernel
theorem dX1_copyFrom_64 : decode cX1_copyFrom 64 = .ok (.getfield 39, 3) := by decide +kernel
theorem dX1_copyFrom_67 : decode cX1_copyFrom 67 = .ok (.iconst 0, 1) := by decide +kernel
theorem dX1_copyFrom_68 : decode cX1_copyFrom 68 = .ok (.aload_n 0, 1) := by decide +kernel
theorem dX1_copyFrom_69 : decode cX1_copyFrom 69 = .ok (.getfield 39, 3) := by decide +kernel
theorem dX1_copyFrom_72 : decode cX1_copyFrom 72 = .ok (.iconst 0, 1) := by decide +kernel
theorem dX1_copyFrom_73 : decode cX1_copyFrom 73 = .ok (.bipush 20, 2) := by decide +kernel
theorem dX1_copyFrom_75 : decode cX1_copyFrom 75 = .ok (.invokestatic 56, 3) := by decide +kernel
theorem dX1_copyFrom_78 : decode cX1_copyFrom 78 = .ok (.return_, 1) := by decide +kernel
theorem dX1_flow_0 : decode cX1_flow 0 = .ok (.aload_n 0, 1) := by decide +kernel
theorem dX1_flow_1 : decode cX1_flow 1 = .ok (.getfield 35, 3) := by decide +kernel
theorem dX1_flow_4 : decode cX1_flow 4 = .ok (.aload_n 0, 1) := by decide +kernel
theorem dX1_flow_5 : decode cX1_flow 5 = .ok (.getfield 18, 3) := by decide +kernel
theorem dX1_flow_8 : decode cX1_flow 8 = .ok (.iconst 0, 1) := by decide +kernel
theorem dX1_flow_9 : decode cX1_flow 9 = .ok (.iastore, 1) := by decide +kernel
theorem dX1_flow_10 : decode cX1_flow 10 = .ok (.iconst 0, 1) := by decide +kernel
theorem dX1_flow_11 : decode cX1_flow 11 = .ok (.istore 5, 2) := by decide +kernel
theorem dX1_flow_13 : decode cX1_flow 13 = .ok (.iload 5, 2) := by decide +kernel
theorem dX1_flow_15 : decode cX1_flow 15 = .ok (.iload_n 2, 1) := by decide +kernel
theorem dX1_flow_16 : decode cX1_flow 16 = .ok (.if_icmp .ge 27, 3) := by decide +kernel
theorem dX1_flow_19 : decode cX1_flow 19 = .ok (.aload_n 0, 1) := by decide +kernel
theorem dX1_flow_20 : decode cX1_flow 20 = .ok (.aload_n 1, 1) := by decide +kernel
theorem dX1_flow_21 : decode cX1_flow 21 = .ok (.aload_n 3, 1) := by decide +kernel
theorem dX1_flow_22 : decode cX1_flow 22 = .ok (.aload 4, 2) := by decide +kernel
theorem dX1_flow_24 : decode cX1_flow 24 = .ok (.invokevirtual 62, 3) := by decide +kernel
theorem dX1_flow_27 : decode cX1_flow 27 = .ok (.istore 6, 2) := by decide +kernel
theorem dX1_flow_29 : decode cX1_flow 29 = .ok (.iload 6, 2) := by decide +kernel
theorem dX1_flow_31 : decode cX1_flow 31 = .ok (.ifCond .eq 6, 3) := by decide +kernel
theorem dX1_flow_34 : decode cX1_flow 34 = .ok (.iload 6, 2) := by decide +kernel
theorem dX1_flow_36 : decode cX1_flow 36 = .ok (.ireturn, 1) := by decide +kernel
theorem dX1_flow_37 : decode cX1_flow 37 = .ok (.iinc 5 1, 3) := by decide +kernel
theorem dX1_flow_40 : decode cX1_flow 40 = .ok (.goto (-27), 3) := by decide +kernel
theorem dX1_flow_43 : decode cX1_flow 43 = .ok (.iconst 0, 1) := by decide +kernel
theorem dX1_flow_44 : decode cX1_flow 44 = .ok (.ireturn, 1) := by decide +kernel
theorem dX1_step_0 : decode cX1_step 0 = .ok (.aload_n 1, 1) := by decide +kernel
theorem dX1_step_1 : decode cX1_step 1 = .ok (.getfield 66, 3) := by decide +kernel
theorem dX1_step_4 : decode cX1_step 4 = .ok (.istore 4, 2) := by decide +kernel
theorem dX1_step_6 : decode cX1_step 6 = .ok (.aload_n 2, 1) := by decide +kernel
theorem dX1_step_7 : decode cX1_step 7 = .ok (.getfield 71, 3) := by decide +kernel
theorem dX1_step_10 : decode cX1_step 10 = .ok (.iload 4, 2) := by decide +kernel
theorem dX1_step_12 : decode cX1_step 12 = .ok (.baload, 1) := by decide +kernel
theorem dX1_step_13 : decode cX1_step 13 = .ok (.ifCond .eq 25, 3) := by decide +kernel
theorem dX1_step_16 : decode cX1_step 16 = .ok (.aload_n 0, 1) := by decide +kernel
theorem dX1_step_17 : decode cX1_step 17 = .ok (.getfield 31, 3) := by decide +kernel
theorem dX1_step_20 : decode cX1_step 20 = .ok (.getfield 77, 3) := by decide +kernel
theorem dX1_step_23 : decode cX1_step 23 = .ok (.iload 4, 2) := by decide +kernel
theorem dX1_step_25 : decode cX1_step 25 = .ok (.iaload, 1) := by decide +kernel
theorem dX1_step_26 : decode cX1_step 26 = .ok (.iconst 1, 1) := by decide +kernel
theorem dX1_step_27 : decode cX1_step 27 = .ok (.isub, 1) := by decide +kernel
theorem dX1_step_28 : decode cX1_step 28 = .ok (.aload_n 2, 1) := by decide +kernel
theorem dX1_step_29 : decode cX1_step 29 = .ok (.getfield 80, 3) := by decide +kernel
theorem dX1_step_32 : decode cX1_step 32 = .ok (.iload 4, 2) := by decide +kernel
theorem dX1_step_34 : decode cX1_step 34 = .ok (.iaload, 1) := by decide +kernel
theorem dX1_step_35 : decode cX1_step 35 = .ok (.if_icmp .ge 5, 3) := by decide +kernel
theorem dX1_step_38 : decode cX1_step 38 = .ok (.iconst 1, 1) := by decide +kernel
theorem dX1_step_39 : decode cX1_step 39 = .ok (.ireturn, 1) := by decide +kernel
theorem dX1_step_40 : decode cX1_step 40 = .ok (.aload_n 1, 1) := by decide +kernel
theorem dX1_step_41 : decode cX1_step 41 = .ok (.getfield 83, 3) := by decide +kernel
theorem dX1_step_44 : decode cX1_step 44 = .ok (.iconst 1, 1) := by decide +kernel
theorem dX1_step_45 : decode cX1_step 45 = .ok (.isub, 1) := by decide +kernel
theorem dX1_step_46 : decode cX1_step 46 = .ok (.istore 5, 2) := by decide +kernel
theorem dX1_step_48 : decode cX1_step 48 = .ok (.aload_n 0, 1) := by decide +kernel
theorem dX1_step_49 : decode cX1_step 49 = .ok (.iload 5, 2) := by decide +kernel
theorem dX1_step_51 : decode cX1_step 51 = .ok (.aload_n 1, 1) := by decide +kernel
theorem dX1_step_52 : decode cX1_step 52 = .ok (.getfield 86, 3) := by decide +kernel
theorem dX1_step_55 : decode cX1_step 55 = .ok (.aload_n 2, 1) := by decide +kernel
theorem dX1_step_56 : decode cX1_step 56 = .ok (.aload_n 3, 1) := by decide +kernel
theorem dX1_step_57 : decode cX1_step 57 = .ok (.invokevirtual 89, 3) := by decide +kernel
theorem dX1_step_60 : decode cX1_step 60 = .ok (.istore 6, 2) := by decide +kernel
theorem dX1_step_62 : decode cX1_step 62 = .ok (.iload 6, 2) := by decide +kernel
theorem dX1_step_64 : decode cX1_step 64 = .ok (.iconst (-1), 1) := by decide +kernel
theorem dX1_step_65 : decode cX1_step 65 = .ok (.if_icmp .eq 27, 3) := by decide +kernel
theorem dX1_step_68 : decode cX1_step 68 = .ok (.aload_n 0, 1) := by decide +kernel
theorem dX1_step_69 : decode cX1_step 69 = .ok (.getfield 31, 3) := by decide +kernel
theorem dX1_step_72 : decode cX1_step 72 = .ok (.getfield 77, 3) := by decide +kernel
theorem dX1_step_75 : decode cX1_step 75 = .ok (.iload 6, 2) := by decide +kernel
theorem dX1_step_77 : decode cX1_step 77 = .ok (.iaload, 1) := by decide +kernel
theorem dX1_step_78 : decode cX1_step 78 = .ok (.iconst 1, 1) := by decide +kernel
theorem dX1_step_79 : decode cX1_step 79 = .ok (.iadd, 1) := by decide +kernel
theorem dX1_step_80 : decode cX1_step 80 = .ok (.aload_n 2, 1) := by decide +kernel
theorem dX1_step_81 : decode cX1_step 81 = .ok (.getfield 93, 3) := by decide +kernel
theorem dX1_step_84 : decode cX1_step 84 = .ok (.iload 6, 2) := by decide +kernel
theorem dX1_step_86 : decode cX1_step 86 = .ok (.iaload, 1) := by decide +kernel
theorem dX1_step_87 : decode cX1_step 87 = .ok (.if_icmp .le 5, 3) := by decide +kernel
theorem dX1_step_90 : decode cX1_step 90 = .ok (.iconst 2, 1) := by decide +kernel
theorem dX1_step_91 : decode cX1_step 91 = .ok (.ireturn, 1) := by decide +kernel
theorem dX1_step_92 : decode cX1_step 92 = .ok (.aload_n 0, 1) := by decide +kernel
theorem dX1_step_93 : decode cX1_step 93 = .ok (.iload 5, 2) := by decide +kernel
theorem dX1_step_95 : decode cX1_step 95 = .ok (.iload 6, 2) := by decide +kernel
theorem dX1_step_97 : decode cX1_step 97 = .ok (.aload_n 1, 1) := by decide +kernel
theorem dX1_step_98 : decode cX1_step 98 = .ok (.getfield 86, 3) := by decide +kernel
theorem dX1_step_101 : decode cX1_step 101 = .ok (.invokevirtual 96, 3) := by decide +kernel
theorem dX1_step_104 : decode cX1_step 104 = .ok (.aload_n 0, 1) := by decide +kernel
theorem dX1_step_105 : decode cX1_step 105 = .ok (.getfield 24, 3) := by decide +kernel
theorem dX1_step_108 : decode cX1_step 108 = .ok (.aload_n 1, 1) := by decide +kernel
theorem dX1_step_109 : decode cX1_step 109 = .ok (.getfield 100, 3) := by decide +kernel
theorem dX1_step_112 : decode cX1_step 112 = .ok (.iload 5, 2) := by decide +kernel
theorem dX1_step_114 : decode cX1_step 114 = .ok (.invokevirtual 103, 3) := by decide +kernel
theorem dX1_step_117 : decode cX1_step 117 = .ok (.aload_n 0, 1) := by decide +kernel
theorem dX1_step_118 : decode cX1_step 118 = .ok (.getfield 24, 3) := by decide +kernel
theorem dX1_step_121 : decode cX1_step 121 = .ok (.aload_n 1, 1) := by decide +kernel
theorem dX1_step_122 : decode cX1_step 122 = .ok (.getfield 100, 3) := by decide +kernel
theorem dX1_step_125 : decode cX1_step 125 = .ok (.aload_n 0, 1) := by decide +kernel
theorem dX1_step_126 : decode cX1_step 126 = .ok (.getfield 18, 3) := by decide +kernel
theorem dX1_step_129 : decode cX1_step 129 = .ok (.aload_n 1, 1) := by decide +kernel
theorem dX1_step_130 : decode cX1_step 130 = .ok (.getfield 107, 3) := by decide +kernel
theorem dX1_step_133 : decode cX1_step 133 = .ok (.invokevirtual 110, 3) := by decide +kernel
theorem dX1_step_136 : decode cX1_step 136 = .ok (.aload_n 0, 1) := by decide +kernel
theorem dX1_step_137 : decode cX1_step 137 = .ok (.getfield 31, 3) := by decide +kernel
theorem dX1_step_140 : decode cX1_step 140 = .ok (.iload 4, 2) := by decide +kernel
theorem dX1_step_142 : decode cX1_step 142 = .ok (.invokevirtual 113, 3) := by decide +kernel
theorem dX1_step_145 : decode cX1_step 145 = .ok (.aload_n 0, 1) := by decide +kernel
theorem dX1_step_146 : decode cX1_step 146 = .ok (.getfield 24, 3) := by decide +kernel
theorem dX1_step_149 : decode cX1_step 149 = .ok (.aload_n 1, 1) := by decide +kernel
theorem dX1_step_150 : decode cX1_step 150 = .ok (.getfield 100, 3) := by decide +kernel
theorem dX1_step_153 : decode cX1_step 153 = .ok (.aload_n 1, 1) := by decide +kernel
theorem dX1_step_154 : decode cX1_step 154 = .ok (.getfield 83, 3) := by decide +kernel
theorem dX1_step_157 : decode cX1_step 157 = .ok (.aload_n 3, 1) := by decide +kernel
theorem dX1_step_158 : decode cX1_step 158 = .ok (.invokevirtual 116, 3) := by decide +kernel
theorem dX1_step_161 : decode cX1_step 161 = .ok (.aload_n 0, 1) := by decide +kernel
theorem dX1_step_162 : decode cX1_step 162 = .ok (.getfield 24, 3) := by decide +kernel
theorem dX1_step_165 : decode cX1_step 165 = .ok (.aload_n 1, 1) := by decide +kernel
theorem dX1_step_166 : decode cX1_step 166 = .ok (.getfield 100, 3) := by decide +kernel
theorem dX1_step_169 : decode cX1_step 169 = .ok (.aload_n 3, 1) := by decide +kernel
theorem dX1_step_170 : decode cX1_step 170 = .ok (.invokevirtual 120, 3) := by decide +kernel
theorem dX1_step_173 : decode cX1_step 173 = .ok (.ifCond .ne 16, 3) := by decide +kernel
theorem dX1_step_176 : decode cX1_step 176 = .ok (.aload_n 0, 1) := by decide +kernel
theorem dX1_step_177 : decode cX1_step 177 = .ok (.getfield 24, 3) := by decide +kernel
theorem dX1_step_180 : decode cX1_step 180 = .ok (.iload 5, 2) := by decide +kernel
theorem dX1_step_182 : decode cX1_step 182 = .ok (.aload_n 3, 1) := by decide +kernel
theorem dX1_step_183 : decode cX1_step 183 = .ok (.invokevirtual 120, 3) := by decide +kernel
theorem dX1_step_186 : decode cX1_step 186 = .ok (.ifCond .eq 7, 3) := by decide +kernel
theorem dX1_step_189 : decode cX1_step 189 = .ok (.iconst 1, 1) := by decide +kernel
theorem dX1_step_190 : decode cX1_step 190 = .ok (.goto 4, 3) := by decide +kernel
theorem dX1_step_193 : decode cX1_step 193 = .ok (.iconst 0, 1) := by decide +kernel
theorem dX1_step_194 : decode cX1_step 194 = .ok (.istore 7, 2) := by decide +kernel
theorem dX1_step_196 : decode cX1_step 196 = .ok (.iload 7, 2) := by decide +kernel
theorem dX1_step_198 : decode cX1_step 198 = .ok (.ifCond .eq 7, 3) := by decide +kernel
theorem dX1_step_201 : decode cX1_step 201 = .ok (.iconst 3, 1) := by decide +kernel
theorem dX1_step_202 : decode cX1_step 202 = .ok (.goto 4, 3) := by decide +kernel
theorem dX1_step_205 : decode cX1_step 205 = .ok (.iconst 0, 1) := by decide +kernel
theorem dX1_step_206 : decode cX1_step 206 = .ok (.ireturn, 1) := by decide +kernel
theorem dX1_letOut_0 : decode cX1_letOut 0 = .ok (.aload_n 0, 1) := by decide +kernel
theorem dX1_letOut_1 : decode cX1_letOut 1 = .ok (.getfield 35, 3) := by decide +kernel
theorem dX1_letOut_4 : decode cX1_letOut 4 = .ok (.aload_n 0, 1) := by decide +kernel
theorem dX1_letOut_5 : decode cX1_letOut 5 = .ok (.getfield 24, 3) := by decide +kernel
theorem dX1_letOut_8 : decode cX1_letOut 8 = .ok (.getfield 124, 3) := by decide +kernel
theorem dX1_letOut_11 : decode cX1_letOut 11 = .ok (.iload_n 1, 1) := by decide +kernel
theorem dX1_letOut_12 : decode cX1_letOut 12 = .ok (.iaload, 1) := by decide +kernel
theorem dX1_letOut_13 : decode cX1_letOut 13 = .ok (.dup2, 1) := by decide +kernel
theorem dX1_letOut_14 : decode cX1_letOut 14 = .ok (.iaload, 1) := by decide +kernel
theorem dX1_letOut_15 : decode cX1_letOut 15 = .ok (.iconst 1, 1) := by decide +kernel
theorem dX1_letOut_16 : decode cX1_letOut 16 = .ok (.iadd, 1) := by decide +kernel
theorem dX1_letOut_17 : decode cX1_letOut 17 = .ok (.iastore, 1) := by decide +kernel
theorem dX1_letOut_18 : decode cX1_letOut 18 = .ok (.iload_n 2, 1) := by decide +kernel
theorem dX1_letOut_19 : decode cX1_letOut 19 = .ok (.iconst (-1), 1) := by decide +kernel
theorem dX1_letOut_20 : decode cX1_letOut 20 = .ok (.if_icmp .ne 19, 3) := by decide +kernel
theorem dX1_letOut_23 : decode cX1_letOut 23 = .ok (.aload_n 0, 1) := by decide +kernel
theorem dX1_letOut_24 : decode cX1_letOut 24 = .ok (.getfield 31, 3) := by decide +kernel
theorem dX1_letOut_27 : decode cX1_letOut 27 = .ok (.getfield 127, 3) := by decide +kernel
theorem dX1_letOut_30 : decode cX1_letOut 30 = .ok (.iload_n 3, 1) := by decide +kernel
theorem dX1_letOut_31 : decode cX1_letOut 31 = .ok (.dup2, 1) := by decide +kernel
theorem dX1_letOut_32 : decode cX1_letOut 32 = .ok (.iaload, 1) := by decide +kernel
theorem dX1_letOut_33 : decode cX1_letOut 33 = .ok (.iconst 1, 1) := by decide +kernel
theorem dX1_letOut_34 : decode cX1_letOut 34 = .ok (.iadd, 1) := by decide +kernel
theorem dX1_letOut_35 : decode cX1_letOut 35 = .ok (.iastore, 1) := by decide +kernel
theorem dX1_letOut_36 : decode cX1_letOut 36 = .ok (.goto 27, 3) := by decide +kernel
theorem dX1_letOut_39 : decode cX1_letOut 39 = .ok (.aload_n 0, 1) := by decide +kernel
theorem dX1_letOut_40 : decode cX1_letOut 40 = .ok (.getfield 31, 3) := by decide +kernel
theorem dX1_letOut_43 : decode cX1_letOut 43 = .ok (.iload_n 2, 1) := by decide +kernel
theorem dX1_letOut_44 : decode cX1_letOut 44 = .ok (.aload_n 0, 1) := by decide +kernel
theorem dX1_letOut_45 : decode cX1_letOut 45 = .ok (.getfield 24, 3) := by decide +kernel
theorem dX1_letOut_48 : decode cX1_letOut 48 = .ok (.iload_n 1, 1) := by decide +kernel
theorem dX1_letOut_49 : decode cX1_letOut 49 = .ok (.invokevirtual 130, 3) := by decide +kernel
theorem dX1_letOut_52 : decode cX1_letOut 52 = .ok (.ifCond .ne 7, 3) := by decide +kernel
theorem dX1_letOut_55 : decode cX1_letOut 55 = .ok (.iconst 1, 1) := by decide +kernel
theorem dX1_letOut_56 : decode cX1_letOut 56 = .ok (.goto 4, 3) := by decide +kernel
theorem dX1_letOut_59 : decode cX1_letOut 59 = .ok (.iconst 0, 1) := by decide +kernel
theorem dX1_letOut_60 : decode cX1_letOut 60 = .ok (.invokevirtual 134, 3) := by decide +kernel
theorem dX1_letOut_63 : decode cX1_letOut 63 = .ok (.return_, 1) := by decide +kernel
theorem dX1_sinkFor_0 : decode cX1_sinkFor 0 = .ok (.iload_n 2, 1) := by decide +kernel
theorem dX1_sinkFor_1 : decode cX1_sinkFor 1 = .ok (.aload_n 0, 1) := by decide +kernel
theorem dX1_sinkFor_2 : decode cX1_sinkFor 2 = .ok (.getfield 24, 3) := by decide +kernel
theorem dX1_sinkFor_5 : decode cX1_sinkFor 5 = .ok (.getfield 138, 3) := by decide +kernel
theorem dX1_sinkFor_8 : decode cX1_sinkFor 8 = .ok (.iload_n 1, 1) := by decide +kernel
theorem dX1_sinkFor_9 : decode cX1_sinkFor 9 = .ok (.iaload, 1) := by decide +kernel
theorem dX1_sinkFor_10 : decode cX1_sinkFor 10 = .ok (.invokestatic 141, 3) := by decide +kernel
theorem dX1_sinkFor_13 : decode cX1_sinkFor 13 = .ok (.istore 5, 2) := by decide +kernel
theorem dX1_sinkFor_15 : decode cX1_sinkFor 15 = .ok (.aload_n 0, 1) := by decide +kernel
theorem dX1_sinkFor_16 : decode cX1_sinkFor 16 = .ok (.getfield 24, 3) := by decide +kernel
theorem dX1_sinkFor_19 : decode cX1_sinkFor 19 = .ok (.iload_n 1, 1) := by decide +kernel
theorem dX1_sinkFor_20 : decode cX1_sinkFor 20 = .ok (.invokevirtual 130, 3) := by decide +kernel
theorem dX1_sinkFor_23 : decode cX1_sinkFor 23 = .ok (.ifCond .eq 20, 3) := by decide +kernel
theorem dX1_sinkFor_26 : decode cX1_sinkFor 26 = .ok (.aload_n 3, 1) := by decide +kernel
theorem dX1_sinkFor_27 : decode cX1_sinkFor 27 = .ok (.getfield 71, 3) := by decide +kernel
theorem dX1_sinkFor_30 : decode cX1_sinkFor 30 = .ok (.iload 5, 2) := by decide +kernel
theorem dX1_sinkFor_32 : decode cX1_sinkFor 32 = .ok (.baload, 1) := by decide +kernel
theorem dX1_sinkFor_33 : decode cX1_sinkFor 33 = .ok (.ifCond .eq 8, 3) := by decide +kernel
theorem dX1_sinkFor_36 : decode cX1_sinkFor 36 = .ok (.iload 5, 2) := by decide +kernel
theorem dX1_sinkFor_38 : decode cX1_sinkFor 38 = .ok (.goto 4, 3) := by decide +kernel
theorem dX1_sinkFor_41 : decode cX1_sinkFor 41 = .ok (.iconst (-1), 1) := by decide +kernel
theorem dX1_sinkFor_42 : decode cX1_sinkFor 42 = .ok (.ireturn, 1) := by decide +kernel
theorem dX1_sinkFor_43 : decode cX1_sinkFor 43 = .ok (.aload_n 3, 1) := by decide +kernel
theorem dX1_sinkFor_44 : decode cX1_sinkFor 44 = .ok (.getfield 71, 3) := by decide +kernel
theorem dX1_sinkFor_47 : decode cX1_sinkFor 47 = .ok (.iload 5, 2) := by decide +kernel
theorem dX1_sinkFor_49 : decode cX1_sinkFor 49 = .ok (.baload, 1) := by decide +kernel
theorem dX1_sinkFor_50 : decode cX1_sinkFor 50 = .ok (.ifCond .eq 33, 3) := by decide +kernel
theorem dX1_sinkFor_53 : decode cX1_sinkFor 53 = .ok (.aload_n 0, 1) := by decide +kernel
theorem dX1_sinkFor_54 : decode cX1_sinkFor 54 = .ok (.getfield 31, 3) := by decide +kernel
theorem dX1_sinkFor_57 : decode cX1_sinkFor 57 = .ok (.iload 5, 2) := by decide +kernel
theorem dX1_sinkFor_59 : decode cX1_sinkFor 59 = .ok (.aload 4, 2) := by decide +kernel
theorem dX1_sinkFor_61 : decode cX1_sinkFor 61 = .ok (.getfield 145, 3) := by decide +kernel
theorem dX1_sinkFor_64 : decode cX1_sinkFor 64 = .ok (.aload_n 0, 1) := by decide +kernel
theorem dX1_sinkFor_65 : decode cX1_sinkFor 65 = .ok (.getfield 24, 3) := by decide +kernel
theorem dX1_sinkFor_68 : decode cX1_sinkFor 68 = .ok (.getfield 138, 3) := by decide +kernel
theorem dX1_sinkFor_71 : decode cX1_sinkFor 71 = .ok (.iload_n 1, 1) := by decide +kernel
theorem dX1_sinkFor_72 : decode cX1_sinkFor 72 = .ok (.iaload, 1) := by decide +kernel
theorem dX1_sinkFor_73 : decode cX1_sinkFor 73 = .ok (.iaload, 1) := by decide +kernel
theorem dX1_sinkFor_74 : decode cX1_sinkFor 74 = .ok (.invokevirtual 150, 3) := by decide +kernel
theorem dX1_sinkFor_77 : decode cX1_sinkFor 77 = .ok (.ifCond .eq 6, 3) := by decide +kernel
theorem dX1_sinkFor_80 : decode cX1_sinkFor 80 = .ok (.iload 5, 2) := by decide +kernel
theorem dX1_sinkFor_82 : decode cX1_sinkFor 82 = .ok (.ireturn, 1) := by decide +kernel
theorem dX1_sinkFor_83 : decode cX1_sinkFor 83 = .ok (.iload_n 2, 1) := by decide +kernel
theorem dX1_sinkFor_84 : decode cX1_sinkFor 84 = .ok (.aload_n 0, 1) := by decide +kernel
theorem dX1_sinkFor_85 : decode cX1_sinkFor 85 = .ok (.getfield 24, 3) := by decide +kernel
theorem dX1_sinkFor_88 : decode cX1_sinkFor 88 = .ok (.getfield 154, 3) := by decide +kernel
theorem dX1_sinkFor_91 : decode cX1_sinkFor 91 = .ok (.iload_n 1, 1) := by decide +kernel
theorem dX1_sinkFor_92 : decode cX1_sinkFor 92 = .ok (.iaload, 1) := by decide +kernel
theorem dX1_sinkFor_93 : decode cX1_sinkFor 93 = .ok (.invokestatic 141, 3) := by decide +kernel
theorem dX1_sinkFor_96 : decode cX1_sinkFor 96 = .ok (.istore 6, 2) := by decide +kernel
theorem dX1_sinkFor_98 : decode cX1_sinkFor 98 = .ok (.aload_n 3, 1) := by decide +kernel
theorem dX1_sinkFor_99 : decode cX1_sinkFor 99 = .ok (.getfield 71, 3) := by decide +kernel
theorem dX1_sinkFor_102 : decode cX1_sinkFor 102 = .ok (.iload 6, 2) := by decide +kernel
theorem dX1_sinkFor_104 : decode cX1_sinkFor 104 = .ok (.baload, 1) := by decide +kernel
theorem dX1_sinkFor_105 : decode cX1_sinkFor 105 = .ok (.ifCond .eq 33, 3) := by decide +kernel
theorem dX1_sinkFor_108 : decode cX1_sinkFor 108 = .ok (.aload_n 0, 1) := by decide +kernel
theorem dX1_sinkFor_109 : decode cX1_sinkFor 109 = .ok (.getfield 31, 3) := by decide +kernel
theorem dX1_sinkFor_112 : decode cX1_sinkFor 112 = .ok (.iload 6, 2) := by decide +kernel
theorem dX1_sinkFor_114 : decode cX1_sinkFor 114 = .ok (.aload 4, 2) := by decide +kernel
theorem dX1_sinkFor_116 : decode cX1_sinkFor 116 = .ok (.getfield 145, 3) := by decide +kernel
theorem dX1_sinkFor_119 : decode cX1_sinkFor 119 = .ok (.aload_n 0, 1) := by decide +kernel
theorem dX1_sinkFor_120 : decode cX1_sinkFor 120 = .ok (.getfield 24, 3) := by decide +kernel
theorem dX1_sinkFor_123 : decode cX1_sinkFor 123 = .ok (.getfield 154, 3) := by decide +kernel
theorem dX1_sinkFor_126 : decode cX1_sinkFor 126 = .ok (.iload_n 1, 1) := by decide +kernel
theorem dX1_sinkFor_127 : decode cX1_sinkFor 127 = .ok (.iaload, 1) := by decide +kernel
theorem dX1_sinkFor_128 : decode cX1_sinkFor 128 = .ok (.iaload, 1) := by decide +kernel
theorem dX1_sinkFor_129 : decode cX1_sinkFor 129 = .ok (.invokevirtual 150, 3) := by decide +kernel
theorem dX1_sinkFor_132 : decode cX1_sinkFor 132 = .ok (.ifCond .eq 6, 3) := by decide +kernel
theorem dX1_sinkFor_135 : decode cX1_sinkFor 135 = .ok (.iload 6, 2) := by decide +kernel
theorem dX1_sinkFor_137 : decode cX1_sinkFor 137 = .ok (.ireturn, 1) := by decide +kernel
theorem dX1_sinkFor_138 : decode cX1_sinkFor 138 = .ok (.iconst (-1), 1) := by decide +kernel
theorem dX1_sinkFor_139 : decode cX1_sinkFor 139 = .ok (.ireturn, 1) := by decide +kernel
theorem dX1_pass_0 : decode cX1_pass 0 = .ok (.iconst 0, 1) := by decide +kernel
theorem dX1_pass_1 : decode cX1_pass 1 = .ok (.istore_n 3, 1) := by decide +kernel
theorem dX1_pass_2 : decode cX1_pass 2 = .ok (.iload_n 3, 1) := by decide +kernel
theorem dX1_pass_3 : decode cX1_pass 3 = .ok (.iload_n 1, 1) := by decide +kernel
theorem dX1_pass_4 : decode cX1_pass 4 = .ok (.if_icmp .ge 36, 3) := by decide +kernel
theorem dX1_pass_7 : decode cX1_pass 7 = .ok (.aload_n 0, 1) := by decide +kernel
theorem dX1_pass_8 : decode cX1_pass 8 = .ok (.dup, 1) := by decide +kernel
theorem dX1_pass_9 : decode cX1_pass 9 = .ok (.getfield 15, 3) := by decide +kernel
theorem dX1_pass_12 : decode cX1_pass 12 = .ok (.aload_n 2, 1) := by decide +kernel
theorem dX1_pass_13 : decode cX1_pass 13 = .ok (.aload_n 0, 1) := by decide +kernel
theorem dX1_pass_14 : decode cX1_pass 14 = .ok (.getfield 9, 3) := by decide +kernel
theorem dX1_pass_17 : decode cX1_pass 17 = .ok (.invokevirtual 157, 3) := by decide +kernel
theorem dX1_pass_20 : decode cX1_pass 20 = .ok (.iadd, 1) := by decide +kernel
theorem dX1_pass_21 : decode cX1_pass 21 = .ok (.putfield 15, 3) := by decide +kernel
theorem dX1_pass_24 : decode cX1_pass 24 = .ok (.aload_n 0, 1) := by decide +kernel
theorem dX1_pass_25 : decode cX1_pass 25 = .ok (.dup, 1) := by decide +kernel
theorem dX1_pass_26 : decode cX1_pass 26 = .ok (.getfield 9, 3) := by decide +kernel
theorem dX1_pass_29 : decode cX1_pass 29 = .ok (.iconst 1, 1) := by decide +kernel
theorem dX1_pass_30 : decode cX1_pass 30 = .ok (.iadd, 1) := by decide +kernel
theorem dX1_pass_31 : decode cX1_pass 31 = .ok (.putfield 9, 3) := by decide +kernel
theorem dX1_pass_34 : decode cX1_pass 34 = .ok (.iinc 3 1, 3) := by decide +kernel
theorem dX1_pass_37 : decode cX1_pass 37 = .ok (.goto (-35), 3) := by decide +kernel
theorem dX1_pass_40 : decode cX1_pass 40 = .ok (.return_, 1) := by decide +kernel
theorem dX2_init_0 : decode cX2_init 0 = .ok (.aload_n 0, 1) := by decide +kernel
theorem dX2_init_1 : decode cX2_init 1 = .ok (.invokespecial 3, 3) := by decide +kernel
theorem dX2_init_4 : decode cX2_init 4 = .ok (.aload_n 0, 1) := by decide +kernel
theorem dX2_init_5 : decode cX2_init 5 = .ok (.iconst 0, 1) := by decide +kernel
theorem dX2_init_6 : decode cX2_init 6 = .ok (.putfield 9, 3) := by decide +kernel
theorem dX2_init_9 : decode cX2_init 9 = .ok (.aload_n 0, 1) := by decide +kernel
theorem dX2_init_10 : decode cX2_init 10 = .ok (.bipush 120, 2) := by decide +kernel
theorem dX2_init_12 : decode cX2_init 12 = .ok (.newarray .int, 2) := by decide +kernel
theorem dX2_init_14 : decode cX2_init 14 = .ok (.putfield 15, 3) := by decide +kernel
theorem dX2_init_17 : decode cX2_init 17 = .ok (.aload_n 0, 1) := by decide +kernel
theorem dX2_init_18 : decode cX2_init 18 = .ok (.bipush 120, 2) := by decide +kernel
theorem dX2_init_20 : decode cX2_init 20 = .ok (.newarray .int, 2) := by decide +kernel
theorem dX2_init_22 : decode cX2_init 22 = .ok (.putfield 19, 3) := by decide +kernel
theorem dX2_init_25 : decode cX2_init 25 = .ok (.aload_n 0, 1) := by decide +kernel
theorem dX2_init_26 : decode cX2_init 26 = .ok (.bipush 120, 2) := by decide +kernel
theorem dX2_init_28 : decode cX2_init 28 = .ok (.newarray .int, 2) := by decide +kernel
theorem dX2_init_30 : decode cX2_init 30 = .ok (.putfield 22, 3) := by decide +kernel
theorem dX2_init_33 : decode cX2_init 33 = .ok (.aload_n 0, 1) := by decide +kernel
theorem dX2_init_34 : decode cX2_init 34 = .ok (.bipush 120, 2) := by decide +kernel
theorem dX2_init_36 : decode cX2_init 36 = .ok (.newarray .int, 2) := by decide +kernel
theorem dX2_init_38 : decode cX2_init 38 = .ok (.putfield 25, 3) := by decide +kernel
theorem dX2_init_41 : decode cX2_init 41 = .ok (.return_, 1) := by decide +kernel
theorem dX2_renew_0 : decode cX2_renew 0 = .ok (.aload_n 0, 1) := by decide +kernel
theorem dX2_renew_1 : decode cX2_renew 1 = .ok (.iload_n 1, 1) := by decide +kernel
theorem dX2_renew_2 : decode cX2_renew 2 = .ok (.putfield 9, 3) := by decide +kernel
theorem dX2_renew_5 : decode cX2_renew 5 = .ok (.iconst 0, 1) := by decide +kernel
theorem dX2_renew_6 : decode cX2_renew 6 = .ok (.istore_n 2, 1) := by decide +kernel
theorem dX2_renew_7 : decode cX2_renew 7 = .ok (.iload_n 2, 1) := by decide +kernel
theorem dX2_renew_8 : decode cX2_renew 8 = .ok (.aload_n 0, 1) := by decide +kernel
theorem dX2_renew_9 : decode cX2_renew 9 = .ok (.getfield 9, 3) := by decide +kernel
theorem dX2_renew_12 : decode cX2_renew 12 = .ok (.if_icmp .ge 16, 3) := by decide +kernel
theorem dX2_renew_15 : decode cX2_renew 15 = .ok (.aload_n 0, 1) := by decide +kernel
theorem dX2_renew_16 : decode cX2_renew 16 = .ok (.iload_n 2, 1) := by decide +kernel
theorem dX2_renew_17 : decode cX2_renew 17 = .ok (.iconst 0, 1) := by decide +kernel
theorem dX2_renew_18 : decode cX2_renew 18 = .ok (.iconst 0, 1) := by decide +kernel
theorem dX2_renew_19 : decode cX2_renew 19 = .ok (.invokevirtual 28, 3) := by decide +kernel
theorem dX2_renew_22 : decode cX2_renew 22 = .ok (.iinc 2 1, 3) := by decide +kernel
theorem dX2_renew_25 : decode cX2_renew 25 = .ok (.goto (-18), 3) := by decide +kernel
theorem dX2_renew_28 : decode cX2_renew 28 = .ok (.return_, 1) := by decide +kernel
theorem dX2_copyFrom_0 : decode cX2_copyFrom 0 = .ok (.aload_n 0, 1) := by decide +kernel
theorem dX2_copyFrom_1 : decode cX2_copyFrom 1 = .ok (.aload_n 1, 1) := by decide +kernel
theorem dX2_copyFrom_2 : decode cX2_copyFrom 2 = .ok (.getfield 9, 3) := by decide +kernel
theorem dX2_copyFrom_5 : decode cX2_copyFrom 5 = .ok (.putfield 9, 3) := by decide +kernel
theorem dX2_copyFrom_8 : decode cX2_copyFrom 8 = .ok (.aload_n 1, 1) := by decide +kernel
theorem dX2_copyFrom_9 : decode cX2_copyFrom 9 = .ok (.getfield 15, 3) := by decide +kernel
theorem dX2_copyFrom_12 : decode cX2_copyFrom 12 = .ok (.iconst 0, 1) := by decide +kernel
theorem dX2_copyFrom_13 : decode cX2_copyFrom 13 = .ok (.aload_n 0, 1) := by decide +kernel
theorem dX2_copyFrom_14 : decode cX2_copyFrom 14 = .ok (.getfield 15, 3) := by decide +kernel
theorem dX2_copyFrom_17 : decode cX2_copyFrom 17 = .ok (.iconst 0, 1) := by decide +kernel
theorem dX2_copyFrom_18 : decode cX2_copyFrom 18 = .ok (.aload_n 0, 1) := by decide +kernel
theorem dX2_copyFrom_19 : decode cX2_copyFrom 19 = .ok (.getfield 9, 3) := by decide +kernel
theorem dX2_copyFrom_22 : decode cX2_copyFrom 22 = .ok (.invokestatic 32, 3) := by decide +kernel
theorem dX2_copyFrom_25 : decode cX2_copyFrom 25 = .ok (.aload_n 1, 1) := by decide +kernel
theorem dX2_copyFrom_26 : decode cX2_copyFrom 26 = .ok (.getfield 19, 3) := by decide +kernel
theorem dX2_copyFrom_29 : decode cX2_copyFrom 29 = .ok (.iconst 0, 1) := by decide +kernel
theorem dX2_copyFrom_30 : decode cX2_copyFrom 30 = .ok (.aload_n 0, 1) := by decide +kernel
theorem dX2_copyFrom_31 : decode cX2_copyFrom 31 = .ok (.getfield 19, 3) := by decide +kernel
theorem dX2_copyFrom_34 : decode cX2_copyFrom 34 = .ok (.iconst 0, 1) := by decide +kernel
theorem dX2_copyFrom_35 : decode cX2_copyFrom 35 = .ok (.aload_n 0, 1) := by decide +kernel
theorem dX2_copyFrom_36 : decode cX2_copyFrom 36 = .ok (.getfield 9, 3) := by decide +kernel
theorem dX2_copyFrom_39 : decode cX2_copyFrom 39 = .ok (.invokestatic 32, 3) := by decide +kernel
theorem dX2_copyFrom_42 : decode cX2_copyFrom 42 = .ok (.aload_n 1, 1) := by decide +kernel
theorem dX2_copyFrom_43 : decode cX2_copyFrom 43 = .ok (.getfield 22, 3) := by decide +kernel
theorem dX2_copyFrom_46 : decode cX2_copyFrom 46 = .ok (.iconst 0, 1) := by decide +kernel
theorem dX2_copyFrom_47 : decode cX2_copyFrom 47 = .ok (.aload_n 0, 1) := by decide +kernel
theorem dX2_copyFrom_48 : decode cX2_copyFrom 48 = .ok (.getfield 22, 3) := by decide +kernel
theorem dX2_copyFrom_51 : decode cX2_copyFrom 51 = .ok (.iconst 0, 1) := by decide +kernel
theorem dX2_copyFrom_52 : decode cX2_copyFrom 52 = .ok (.aload_n 0, 1) := by decide +kernel
theorem dX2_copyFrom_53 : decode cX2_copyFrom 53 = .ok (.getfield 9, 3) := by decide +kernel
theorem dX2_copyFrom_56 : decode cX2_copyFrom 56 = .ok (.invokestatic 32, 3) := by decide +kernel
theorem dX2_copyFrom_59 : decode cX2_copyFrom 59 = .ok (.aload_n 1, 1) := by decide +kernel
theorem dX2_copyFrom_60 : decode cX2_copyFrom 60 = .ok (.getfield 25, 3) := by decide +kernel
theorem dX2_copyFrom_63 : decode cX2_copyFrom 63 = .ok (.iconst 0, 1) := by decide +kernel
theorem dX2_copyFrom_64 : decode cX2_copyFrom 64 = .ok (.aload_n 0, 1) := by decide +kernel
theorem dX2_copyFrom_65 : decode cX2_copyFrom 65 = .ok (.getfield 25, 3) := by decide +kernel
theorem dX2_copyFrom_68 : decode cX2_copyFrom 68 = .ok (.iconst 0, 1) := by decide +kernel
theorem dX2_copyFrom_69 : decode cX2_copyFrom 69 = .ok (.aload_n 0, 1) := by decide +kernel
theorem dX2_copyFrom_70 : decode cX2_copyFrom 70 = .ok (.getfield 9, 3) := by decide +kernel
theorem dX2_copyFrom_73 : decode cX2_copyFrom 73 = .ok (.invokestatic 32, 3) := by decide +kernel
theorem dX2_copyFrom_76 : decode cX2_copyFrom 76 = .ok (.return_, 1) := by decide +kernel
theorem dX2_put_0 : decode cX2_put 0 = .ok (.aload_n 0, 1) := by decide +kernel
theorem dX2_put_1 : decode cX2_put 1 = .ok (.getfield 15, 3) := by decide +kernel
theorem dX2_put_4 : decode cX2_put 4 = .ok (.iload_n 1, 1) := by decide +kernel
theorem dX2_put_5 : decode cX2_put 5 = .ok (.iload_n 2, 1) := by decide +kernel
theorem dX2_put_6 : decode cX2_put 6 = .ok (.iastore, 1) := by decide +kernel
theorem dX2_put_7 : decode cX2_put 7 = .ok (.aload_n 0, 1) := by decide +kernel
theorem dX2_put_8 : decode cX2_put 8 = .ok (.getfield 19, 3) := by decide +kernel
theorem dX2_put_11 : decode cX2_put 11 = .ok (.iload_n 1, 1) := by decide +kernel
theorem dX2_put_12 : decode cX2_put 12 = .ok (.iload_n 3, 1) := by decide +kernel
theorem dX2_put_13 : decode cX2_put 13 = .ok (.iastore, 1) := by decide +kernel
theorem dX2_put_14 : decode cX2_put 14 = .ok (.aload_n 0, 1) := by decide +kernel
theorem dX2_put_15 : decode cX2_put 15 = .ok (.getfield 22, 3) := by decide +kernel
theorem dX2_put_18 : decode cX2_put 18 = .ok (.iload_n 1, 1) := by decide +kernel
theorem dX2_put_19 : decode cX2_put 19 = .ok (.iconst (-1), 1) := by decide +kernel
theorem dX2_put_20 : decode cX2_put 20 = .ok (.iastore, 1) := by decide +kernel
theorem dX2_put_21 : decode cX2_put 21 = .ok (.aload_n 0, 1) := by decide +kernel
theorem dX2_put_22 : decode cX2_put 22 = .ok (.getfield 25, 3) := by decide +kernel
theorem dX2_put_25 : decode cX2_put 25 = .ok (.iload_n 1, 1) := by decide +kernel
theorem dX2_put_26 : decode cX2_put 26 = .ok (.iconst 0, 1) := by decide +kernel
theorem dX2_put_27 : decode cX2_put 27 = .ok (.iastore, 1) := by decide +kernel
theorem dX2_put_28 : decode cX2_put 28 = .ok (.return_, 1) := by decide +kernel
theorem dX2_moveOn_0 : decode cX2_moveOn 0 = .ok (.iload_n 2, 1) := by decide +kernel
theorem dX2_moveOn_1 : decode cX2_moveOn 1 = .ok (.iload_n 1, 1) := by decide +kernel
theorem dX2_moveOn_2 : decode cX2_moveOn 2 = .ok (.isub, 1) := by decide +kernel
theorem dX2_moveOn_3 : decode cX2_moveOn 3 = .ok (.istore_n 3, 1) := by decide +kernel
theorem dX2_moveOn_4 : decode cX2_moveOn 4 = .ok (.aload_n 0, 1) := by decide +kernel
theorem dX2_moveOn_5 : decode cX2_moveOn 5 = .ok (.getfield 15, 3) := by decide +kernel
theorem dX2_moveOn_8 : decode cX2_moveOn 8 = .ok (.iload_n 1, 1) := by decide +kernel
theorem dX2_moveOn_9 : decode cX2_moveOn 9 = .ok (.aload_n 0, 1) := by decide +kernel
theorem dX2_moveOn_10 : decode cX2_moveOn 10 = .ok (.getfield 15, 3) := by decide +kernel
theorem dX2_moveOn_13 : decode cX2_moveOn 13 = .ok (.iload_n 1, 1) := by decide +kernel
theorem dX2_moveOn_14 : decode cX2_moveOn 14 = .ok (.iconst 1, 1) := by decide +kernel
theorem dX2_moveOn_15 : decode cX2_moveOn 15 = .ok (.iadd, 1) := by decide +kernel
theorem dX2_moveOn_16 : decode cX2_moveOn 16 = .ok (.iload_n 3, 1) := by decide +kernel
theorem dX2_moveOn_17 : decode cX2_moveOn 17 = .ok (.invokestatic 32, 3) := by decide +kernel
theorem dX2_moveOn_20 : decode cX2_moveOn 20 = .ok (.aload_n 0, 1) := by decide +kernel
theorem dX2_moveOn_21 : decode cX2_moveOn 21 = .ok (.getfield 19, 3) := by decide +kernel
theorem dX2_moveOn_24 : decode cX2_moveOn 24 = .ok (.iload_n 1, 1) := by decide +kernel
theorem dX2_moveOn_25 : decode cX2_moveOn 25 = .ok (.aload_n 0, 1) := by decide +kernel
theorem dX2_moveOn_26 : decode cX2_moveOn 26 = .ok (.getfield 19, 3) := by decide +kernel
theorem dX2_moveOn_29 : decode cX2_moveOn 29 = .ok (.iload_n 1, 1) := by decide +kernel
theorem dX2_moveOn_30 : decode cX2_moveOn 30 = .ok (.iconst 1, 1) := by decide +kernel
theorem dX2_moveOn_31 : decode cX2_moveOn 31 = .ok (.iadd, 1) := by decide +kernel
theorem dX2_moveOn_32 : decode cX2_moveOn 32 = .ok (.iload_n 3, 1) := by decide +kernel
theorem dX2_moveOn_33 : decode cX2_moveOn 33 = .ok (.invokestatic 32, 3) := by decide +kernel
theorem dX2_moveOn_36 : decode cX2_moveOn 36 = .ok (.aload_n 0, 1) := by decide +kernel
theorem dX2_moveOn_37 : decode cX2_moveOn 37 = .ok (.getfield 22, 3) := by decide +kernel
theorem dX2_moveOn_40 : decode cX2_moveOn 40 = .ok (.iload_n 1, 1) := by decide +kernel
theorem dX2_moveOn_41 : decode cX2_moveOn 41 = .ok (.aload_n 0, 1) := by decide +kernel
theorem dX2_moveOn_42 : decode cX2_moveOn 42 = .ok (.getfield 22, 3) := by decide +kernel
theorem dX2_moveOn_45 : decode cX2_moveOn 45 = .ok (.iload_n 1, 1) := by decide +kernel
theorem dX2_moveOn_46 : decode cX2_moveOn 46 = .ok (.iconst 1, 1) := by decide +kernel
theorem dX2_moveOn_47 : decode cX2_moveOn 47 = .ok (.iadd, 1) := by decide +kernel
theorem dX2_moveOn_48 : decode cX2_moveOn 48 = .ok (.iload_n 3, 1) := by decide +kernel
theorem dX2_moveOn_49 : decode cX2_moveOn 49 = .ok (.invokestatic 32, 3) := by decide +kernel
theorem dX2_moveOn_52 : decode cX2_moveOn 52 = .ok (.aload_n 0, 1) := by decide +kernel
theorem dX2_moveOn_53 : decode cX2_moveOn 53 = .ok (.getfield 25, 3) := by decide +kernel
theorem dX2_moveOn_56 : decode cX2_moveOn 56 = .ok (.iload_n 1, 1) := by decide +kernel
theorem dX2_moveOn_57 : decode cX2_moveOn 57 = .ok (.aload_n 0, 1) := by decide +kernel
theorem dX2_moveOn_58 : decode cX2_moveOn 58 = .ok (.getfield 25, 3) := by decide +kernel
theorem dX2_moveOn_61 : decode cX2_moveOn 61 = .ok (.iload_n 1, 1) := by decide +kernel
theorem dX2_moveOn_62 : decode cX2_moveOn 62 = .ok (.iconst 1, 1) := by decide +kernel
theorem dX2_moveOn_63 : decode cX2_moveOn 63 = .ok (.iadd, 1) := by decide +kernel
theorem dX2_moveOn_64 : decode cX2_moveOn 64 = .ok (.iload_n 3, 1) := by decide +kernel
theorem dX2_moveOn_65 : decode cX2_moveOn 65 = .ok (.invokestatic 32, 3) := by decide +kernel
theorem dX2_moveOn_68 : decode cX2_moveOn 68 = .ok (.return_, 1) := by decide +kernel
theorem dX2_isPure_0 : decode cX2_isPure 0 = .ok (.aload_n 0, 1) := by decide +kernel
theorem dX2_isPure_1 : decode cX2_isPure 1 = .ok (.getfield 22, 3) := by decide +kernel
theorem dX2_isPure_4 : decode cX2_isPure 4 = .ok (.iload_n 1, 1) := by decide +kernel
theorem dX2_isPure_5 : decode cX2_isPure 5 = .ok (.iaload, 1) := by decide +kernel
theorem dX2_isPure_6 : decode cX2_isPure 6 = .ok (.iconst (-1), 1) := by decide +kernel
theorem dX2_isPure_7 : decode cX2_isPure 7 = .ok (.if_icmp .ne 7, 3) := by decide +kernel
theorem dX2_isPure_10 : decode cX2_isPure 10 = .ok (.iconst 1, 1) := by decide +kernel
theorem dX2_isPure_11 : decode cX2_isPure 11 = .ok (.goto 4, 3) := by decide +kernel
theorem dX2_isPure_14 : decode cX2_isPure 14 = .ok (.iconst 0, 1) := by decide +kernel
theorem dX2_isPure_15 : decode cX2_isPure 15 = .ok (.ireturn, 1) := by decide +kernel
theorem dX2_neighbourToBegin_0 : decode cX2_neighbourToBegin 0 = .ok (.iload_n 1, 1) := by decide +kernel
theorem dX2_neighbourToBegin_1 : decode cX2_neighbourToBegin 1 = .ok (.iconst 1, 1) := by decide +kernel
theorem dX2_neighbourToBegin_2 : decode cX2_neighbourToBegin 2 = .ok (.isub, 1) := by decide +kernel
theorem dX2_neighbourToBegin_3 : decode cX2_neighbourToBegin 3 = .ok (.istore_n 2, 1) := by decide +kernel
theorem dX2_neighbourToBegin_4 : decode cX2_neighbourToBegin 4 = .ok (.iload_n 2, 1) := by decide +kernel
theorem dX2_neighbourToBegin_5 : decode cX2_neighbourToBegin 5 = .ok (.ifCond .lt 19, 3) := by decide +kernel
theorem dX2_neighbourToBegin_8 : decode cX2_neighbourToBegin 8 = .ok (.aload_n 0, 1) := by decide +kernel
theorem dX2_neighbourToBegin_9 : decode cX2_neighbourToBegin 9 = .ok (.iload_n 2, 1) := by decide +kernel
theorem dX2_neighbourToBegin_10 : decode cX2_neighbourToBegin 10 = .ok (.invokevirtual 38, 3) := by decide +kernel
theorem dX2_neighbourToBegin_13 : decode cX2_neighbourToBegin 13 = .ok (.ifCond .eq 5, 3) := by decide +kernel
theorem dX2_neighbourToBegin_16 : decode cX2_neighbourToBegin 16 = .ok (.iload_n 2, 1) := by decide +kernel
theorem dX2_neighbourToBegin_17 : decode cX2_neighbourToBegin 17 = .ok (.ireturn, 1) := by decide +kernel
theorem dX2_neighbourToBegin_18 : decode cX2_neighbourToBegin 18 = .ok (.iinc 2 (-1), 3) := by decide +kernel
theorem dX2_neighbourToBegin_21 : decode cX2_neighbourToBegin 21 = .ok (.goto (-17), 3) := by decide +kernel
theorem dX2_neighbourToBegin_24 : decode cX2_neighbourToBegin 24 = .ok (.iconst (-1), 1) := by decide +kernel
theorem dX2_neighbourToBegin_25 : decode cX2_neighbourToBegin 25 = .ok (.ireturn, 1) := by decide +kernel
theorem dX2_neighbourToEnd_0 : decode cX2_neighbourToEnd 0 = .ok (.iload_n 1, 1) := by decide +kernel
theorem dX2_neighbourToEnd_1 : decode cX2_neighbourToEnd 1 = .ok (.iconst 1, 1) := by decide +kernel
theorem dX2_neighbourToEnd_2 : decode cX2_neighbourToEnd 2 = .ok (.iadd, 1) := by decide +kernel
theorem dX2_neighbourToEnd_3 : decode cX2_neighbourToEnd 3 = .ok (.istore_n 2, 1) := by decide +kernel
theorem dX2_neighbourToEnd_4 : decode cX2_neighbourToEnd 4 = .ok (.iload_n 2, 1) := by decide +kernel
theorem dX2_neighbourToEnd_5 : decode cX2_neighbourToEnd 5 = .ok (.aload_n 0, 1) := by decide +kernel
theorem dX2_neighbourToEnd_6 : decode cX2_neighbourToEnd 6 = .ok (.getfield 9, 3) := by decide +kernel
theorem dX2_neighbourToEnd_9 : decode cX2_neighbourToEnd 9 = .ok (.if_icmp .ge 19, 3) := by decide +kernel
theorem dX2_neighbourToEnd_12 : decode cX2_neighbourToEnd 12 = .ok (.aload_n 0, 1) := by decide +kernel
theorem dX2_neighbourToEnd_13 : decode cX2_neighbourToEnd 13 = .ok (.iload_n 2, 1) := by decide +kernel
theorem dX2_neighbourToEnd_14 : decode cX2_neighbourToEnd 14 = .ok (.invokevirtual 38, 3) := by decide +kernel
theorem dX2_neighbourToEnd_17 : decode cX2_neighbourToEnd 17 = .ok (.ifCond .eq 5, 3) := by decide +kernel
theorem dX2_neighbourToEnd_20 : decode cX2_neighbourToEnd 20 = .ok (.iload_n 2, 1) := by decide +kernel
theorem dX2_neighbourToEnd_21 : decode cX2_neighbourToEnd 21 = .ok (.ireturn, 1) := by decide +kernel
theorem dX2_neighbourToEnd_22 : decode cX2_neighbourToEnd 22 = .ok (.iinc 2 1, 3) := by decide +kernel
theorem dX2_neighbourToEnd_25 : decode cX2_neighbourToEnd 25 = .ok (.goto (-21), 3) := by decide +kernel
theorem dX2_neighbourToEnd_28 : decode cX2_neighbourToEnd 28 = .ok (.iconst (-1), 1) := by decide +kernel
theorem dX2_neighbourToEnd_29 : decode cX2_neighbourToEnd 29 = .ok (.ireturn, 1) := by decide +kernel
theorem dX2_isBorder_0 : decode cX2_isBorder 0 = .ok (.aload_n 0, 1) := by decide +kernel
theorem dX2_isBorder_1 : decode cX2_isBorder 1 = .ok (.iload_n 1, 1) := by decide +kernel
theorem dX2_isBorder_2 : decode cX2_isBorder 2 = .ok (.invokevirtual 38, 3) := by decide +kernel
theorem dX2_isBorder_5 : decode cX2_isBorder 5 = .ok (.ifCond .ne 5, 3) := by decide +kernel
theorem dX2_isBorder_8 : decode cX2_isBorder 8 = .ok (.iconst 0, 1) := by decide +kernel
theorem dX2_isBorder_9 : decode cX2_isBorder 9 = .ok (.ireturn, 1) := by decide +kernel
theorem dX2_isBorder_10 : decode cX2_isBorder 10 = .ok (.aload_n 0, 1) := by decide +kernel
theorem dX2_isBorder_11 : decode cX2_isBorder 11 = .ok (.iload_n 1, 1) := by decide +kernel
theorem dX2_isBorder_12 : decode cX2_isBorder 12 = .ok (.invokevirtual 42, 3) := by decide +kernel
theorem dX2_isBorder_15 : decode cX2_isBorder 15 = .ok (.istore_n 2, 1) := by decide +kernel
theorem dX2_isBorder_16 : decode cX2_isBorder 16 = .ok (.iload_n 2, 1) := by decide +kernel
theorem dX2_isBorder_17 : decode cX2_isBorder 17 = .ok (.iconst (-1), 1) := by decide +kernel
theorem dX2_isBorder_18 : decode cX2_isBorder 18 = .ok (.if_icmp .eq 22, 3) := by decide +kernel
theorem dX2_isBorder_21 : decode cX2_isBorder 21 = .ok (.aload_n 0, 1) := by decide +kernel
theorem dX2_isBorder_22 : decode cX2_isBorder 22 = .ok (.getfield 19, 3) := by decide +kernel
theorem dX2_isBorder_25 : decode cX2_isBorder 25 = .ok (.iload_n 2, 1) := by decide +kernel
theorem dX2_isBorder_26 : decode cX2_isBorder 26 = .ok (.iaload, 1) := by decide +kernel
theorem dX2_isBorder_27 : decode cX2_isBorder 27 = .ok (.aload_n 0, 1) := by decide +kernel
theorem dX2_isBorder_28 : decode cX2_isBorder 28 = .ok (.getfield 19, 3) := by decide +kernel
theorem dX2_isBorder_31 : decode cX2_isBorder 31 = .ok (.iload_n 1, 1) := by decide +kernel
theorem dX2_isBorder_32 : decode cX2_isBorder 32 = .ok (.iaload, 1) := by decide +kernel
theorem dX2_isBorder_33 : decode cX2_isBorder 33 = .ok (.if_icmp .eq 7, 3) := by decide +kernel
theorem dX2_isBorder_36 : decode cX2_isBorder 36 = .ok (.iconst 1, 1) := by decide +kernel
theorem dX2_isBorder_37 : decode cX2_isBorder 37 = .ok (.goto 4, 3) := by decide +kernel
theorem dX2_isBorder_40 : decode cX2_isBorder 40 = .ok (.iconst 0, 1) := by decide +kernel
theorem dX2_isBorder_41 : decode cX2_isBorder 41 = .ok (.ireturn, 1) := by decide +kernel
theorem dX2_countBorders_0 : decode cX2_countBorders 0 = .ok (.iconst 0, 1) := by decide +kernel
theorem dX2_countBorders_1 : decode cX2_countBorders 1 = .ok (.istore_n 1, 1) := by decide +kernel
theorem dX2_countBorders_2 : decode cX2_countBorders 2 = .ok (.iconst 0, 1) := by decide +kernel
theorem dX2_countBorders_3 : decode cX2_countBorders 3 = .ok (.istore_n 2, 1) := by decide +kernel
theorem dX2_countBorders_4 : decode cX2_countBorders 4 = .ok (.iload_n 2, 1) := by decide +kernel
theorem dX2_countBorders_5 : decode cX2_countBorders 5 = .ok (.aload_n 0, 1) := by decide +kernel
theorem dX2_countBorders_6 : decode cX2_countBorders 6 = .ok (.getfield 9, 3) := by decide +kernel
theorem dX2_countBorders_9 : decode cX2_countBorders 9 = .ok (.if_icmp .ge 20, 3) := by decide +kernel
theorem dX2_countBorders_12 : decode cX2_countBorders 12 = .ok (.aload_n 0, 1) := by decide +kernel
theorem dX2_countBorders_13 : decode cX2_countBorders 13 = .ok (.iload_n 2, 1) := by decide +kernel
theorem dX2_countBorders_14 : decode cX2_countBorders 14 = .ok (.invokevirtual 46, 3) := by decide +kernel
theorem dX2_countBorders_17 : decode cX2_countBorders 17 = .ok (.ifCond .eq 6, 3) := by decide +kernel
theorem dX2_countBorders_20 : decode cX2_countBorders 20 = .ok (.iinc 1 1, 3) := by decide +kernel
theorem dX2_countBorders_23 : decode cX2_countBorders 23 = .ok (.iinc 2 1, 3) := by decide +kernel
theorem dX2_countBorders_26 : decode cX2_countBorders 26 = .ok (.goto (-22), 3) := by decide +kernel
theorem dX2_countBorders_29 : decode cX2_countBorders 29 = .ok (.iload_n 1, 1) := by decide +kernel
theorem dX2_countBorders_30 : decode cX2_countBorders 30 = .ok (.ireturn, 1) := by decide +kernel
theorem dX2_countMixed_0 : decode cX2_countMixed 0 = .ok (.iconst 0, 1) := by decide +kernel
theorem dX2_countMixed_1 : decode cX2_countMixed 1 = .ok (.istore_n 1, 1) := by decide +kernel
theorem dX2_countMixed_2 : decode cX2_countMixed 2 = .ok (.iconst 0, 1) := by decide +kernel
theorem dX2_countMixed_3 : decode cX2_countMixed 3 = .ok (.istore_n 2, 1) := by decide +kernel
theorem dX2_countMixed_4 : decode cX2_countMixed 4 = .ok (.iload_n 2, 1) := by decide +kernel
theorem dX2_countMixed_5 : decode cX2_countMixed 5 = .ok (.aload_n 0, 1) := by decide +kernel
theorem dX2_countMixed_6 : decode cX2_countMixed 6 = .ok (.getfield 9, 3) := by decide +kernel
theorem dX2_countMixed_9 : decode cX2_countMixed 9 = .ok (.if_icmp .ge 20, 3) := by decide +kernel
theorem dX2_countMixed_12 : decode cX2_countMixed 12 = .ok (.aload_n 0, 1) := by decide +kernel
theorem dX2_countMixed_13 : decode cX2_countMixed 13 = .ok (.iload_n 2, 1) := by decide +kernel
theorem dX2_countMixed_14 : decode cX2_countMixed 14 = .ok (.invokevirtual 38, 3) := by decide +kernel
theorem dX2_countMixed_17 : decode cX2_countMixed 17 = .ok (.ifCond .ne 6, 3) := by decide +kernel
theorem dX2_countMixed_20 : decode cX2_countMixed 20 = .ok (.iinc 1 1, 3) := by decide +kernel
theorem dX2_countMixed_23 : decode cX2_countMixed 23 = .ok (.iinc 2 1, 3) := by decide +kernel
theorem dX2_countMixed_26 : decode cX2_countMixed 26 = .ok (.goto (-22), 3) := by decide +kernel
theorem dX2_countMixed_29 : decode cX2_countMixed 29 = .ok (.iload_n 1, 1) := by decide +kernel
theorem dX2_countMixed_30 : decode cX2_countMixed 30 = .ok (.ireturn, 1) := by decide +kernel
theorem dX2_countOf_0 : decode cX2_countOf 0 = .ok (.iconst 0, 1) := by decide +kernel
theorem dX2_countOf_1 : decode cX2_countOf 1 = .ok (.istore_n 2, 1) := by decide +kernel
theorem dX2_countOf_2 : decode cX2_countOf 2 = .ok (.iconst 0, 1) := by decide +kernel
theorem dX2_countOf_3 : decode cX2_countOf 3 = .ok (.istore_n 3, 1) := by decide +kernel
theorem dX2_countOf_4 : decode cX2_countOf 4 = .ok (.iload_n 3, 1) := by decide +kernel
theorem dX2_countOf_5 : decode cX2_countOf 5 = .ok (.aload_n 0, 1) := by decide +kernel
theorem dX2_countOf_6 : decode cX2_countOf 6 = .ok (.getfield 9, 3) := by decide +kernel
theorem dX2_countOf_9 : decode cX2_countOf 9 = .ok (.if_icmp .ge 22, 3) := by decide +kernel
theorem dX2_countOf_12 : decode cX2_countOf 12 = .ok (.aload_n 0, 1) := by decide +kernel
theorem dX2_countOf_13 : decode cX2_countOf 13 = .ok (.getfield 15, 3) := by decide +kernel
theorem dX2_countOf_16 : decode cX2_countOf 16 = .ok (.iload_n 3, 1) := by decide +kernel
theorem dX2_countOf_17 : decode cX2_countOf 17 = .ok (.iaload, 1) := by decide +kernel
theorem dX2_countOf_18 : decode cX2_countOf 18 = .ok (.iload_n 1, 1) := by decide +kernel
theorem dX2_countOf_19 : decode cX2_countOf 19 = .ok (.if_icmp .ne 6, 3) := by decide +kernel
theorem dX2_countOf_22 : decode cX2_countOf 22 = .ok (.iinc 2 1, 3) := by decide +kernel
theorem dX2_countOf_25 : decode cX2_countOf 25 = .ok (.iinc 3 1, 3) := by decide +kernel
theorem dX2_countOf_28 : decode cX2_countOf 28 = .ok (.goto (-24), 3) := by decide +kernel
theorem dX2_countOf_31 : decode cX2_countOf 31 = .ok (.iload_n 2, 1) := by decide +kernel
theorem dX2_countOf_32 : decode cX2_countOf 32 = .ok (.ireturn, 1) := by decide +kernel
theorem dX2_leastOf_0 : decode cX2_leastOf 0 = .ok (.iconst 0, 1) := by decide +kernel
theorem dX2_leastOf_1 : decode cX2_leastOf 1 = .ok (.istore_n 2, 1) := by decide +kernel
theorem dX2_leastOf_2 : decode cX2_leastOf 2 = .ok (.iload_n 2, 1) := by decide +kernel
theorem dX2_leastOf_3 : decode cX2_leastOf 3 = .ok (.aload_n 0, 1) := by decide +kernel
theorem dX2_leastOf_4 : decode cX2_leastOf 4 = .ok (.getfield 9, 3) := by decide +kernel
theorem dX2_leastOf_7 : decode cX2_leastOf 7 = .ok (.if_icmp .ge 21, 3) := by decide +kernel
theorem dX2_leastOf_10 : decode cX2_leastOf 10 = .ok (.aload_n 0, 1) := by decide +kernel
theorem dX2_leastOf_11 : decode cX2_leastOf 11 = .ok (.getfield 15, 3) := by decide +kernel
theorem dX2_leastOf_14 : decode cX2_leastOf 14 = .ok (.iload_n 2, 1) := by decide +kernel
theorem dX2_leastOf_15 : decode cX2_leastOf 15 = .ok (.iaload, 1) := by decide +kernel
theorem dX2_leastOf_16 : decode cX2_leastOf 16 = .ok (.iload_n 1, 1) := by decide +kernel
theorem dX2_leastOf_17 : decode cX2_leastOf 17 = .ok (.if_icmp .ne 5, 3) := by decide +kernel
theorem dX2_leastOf_20 : decode cX2_leastOf 20 = .ok (.iload_n 2, 1) := by decide +kernel
theorem dX2_leastOf_21 : decode cX2_leastOf 21 = .ok (.ireturn, 1) := by decide +kernel
theorem dX2_leastOf_22 : decode cX2_leastOf 22 = .ok (.iinc 2 1, 3) := by decide +kernel
theorem dX2_leastOf_25 : decode cX2_leastOf 25 = .ok (.goto (-23), 3) := by decide +kernel
theorem dX2_leastOf_28 : decode cX2_leastOf 28 = .ok (.iconst (-1), 1) := by decide +kernel
theorem dX2_leastOf_29 : decode cX2_leastOf 29 = .ok (.ireturn, 1) := by decide +kernel
theorem dX2_greatestOf_0 : decode cX2_greatestOf 0 = .ok (.aload_n 0, 1) := by decide +kernel
theorem dX2_greatestOf_1 : decode cX2_greatestOf 1 = .ok (.getfield 9, 3) := by decide +kernel
theorem dX2_greatestOf_4 : decode cX2_greatestOf 4 = .ok (.iconst 1, 1) := by decide +kernel
theorem dX2_greatestOf_5 : decode cX2_greatestOf 5 = .ok (.isub, 1) := by decide +kernel
theorem dX2_greatestOf_6 : decode cX2_greatestOf 6 = .ok (.istore_n 2, 1) := by decide +kernel
theorem dX2_greatestOf_7 : decode cX2_greatestOf 7 = .ok (.iload_n 2, 1) := by decide +kernel
theorem dX2_greatestOf_8 : decode cX2_greatestOf 8 = .ok (.ifCond .lt 21, 3) := by decide +kernel
theorem dX2_greatestOf_11 : decode cX2_greatestOf 11 = .ok (.aload_n 0, 1) := by decide +kernel
theorem dX2_greatestOf_12 : decode cX2_greatestOf 12 = .ok (.getfield 15, 3) := by decide +kernel
theorem dX2_greatestOf_15 : decode cX2_greatestOf 15 = .ok (.iload_n 2, 1) := by decide +kernel
theorem dX2_greatestOf_16 : decode cX2_greatestOf 16 = .ok (.iaload, 1) := by decide +kernel
theorem dX2_greatestOf_17 : decode cX2_greatestOf 17 = .ok (.iload_n 1, 1) := by decide +kernel
theorem dX2_greatestOf_18 : decode cX2_greatestOf 18 = .ok (.if_icmp .ne 5, 3) := by decide +kernel
theorem dX2_greatestOf_21 : decode cX2_greatestOf 21 = .ok (.iload_n 2, 1) := by decide +kernel
theorem dX2_greatestOf_22 : decode cX2_greatestOf 22 = .ok (.ireturn, 1) := by decide +kernel
theorem dX2_greatestOf_23 : decode cX2_greatestOf 23 = .ok (.iinc 2 (-1), 3) := by decide +kernel
theorem dX2_greatestOf_26 : decode cX2_greatestOf 26 = .ok (.goto (-19), 3) := by decide +kernel
theorem dX2_greatestOf_29 : decode cX2_greatestOf 29 = .ok (.iconst (-1), 1) := by decide +kernel
theorem dX2_greatestOf_30 : decode cX2_greatestOf 30 = .ok (.ireturn, 1) := by decide +kernel
theorem dX2_mixBorders_0 : decode cX2_mixBorders 0 = .ok (.iconst (-1), 1) := by decide +kernel
theorem dX2_mixBorders_1 : decode cX2_mixBorders 1 = .ok (.istore 4, 2) := by decide +kernel
theorem dX2_mixBorders_3 : decode cX2_mixBorders 3 = .ok (.iload_n 2, 1) := by decide +kernel
theorem dX2_mixBorders_4 : decode cX2_mixBorders 4 = .ok (.iconst 1, 1) := by decide +kernel
theorem dX2_mixBorders_5 : decode cX2_mixBorders 5 = .ok (.isub, 1) := by decide +kernel
theorem dX2_mixBorders_6 : decode cX2_mixBorders 6 = .ok (.istore 5, 2) := by decide +kernel
theorem dX2_mixBorders_8 : decode cX2_mixBorders 8 = .ok (.iload 5, 2) := by decide +kernel
theorem dX2_mixBorders_10 : decode cX2_mixBorders 10 = .ok (.iload_n 1, 1) := by decide +kernel
theorem dX2_mixBorders_11 : decode cX2_mixBorders 11 = .ok (.if_icmp .lt 81, 3) := by decide +kernel
theorem dX2_mixBorders_14 : decode cX2_mixBorders 14 = .ok (.aload_n 0, 1) := by decide +kernel
theorem dX2_mixBorders_15 : decode cX2_mixBorders 15 = .ok (.iload 5, 2) := by decide +kernel
theorem dX2_mixBorders_17 : decode cX2_mixBorders 17 = .ok (.invokevirtual 38, 3) := by decide +kernel
theorem dX2_mixBorders_20 : decode cX2_mixBorders 20 = .ok (.ifCond .ne 6, 3) := by decide +kernel
theorem dX2_mixBorders_23 : decode cX2_mixBorders 23 = .ok (.goto 63, 3) := by decide +kernel
theorem dX2_mixBorders_26 : decode cX2_mixBorders 26 = .ok (.iload 4, 2) := by decide +kernel
theorem dX2_mixBorders_28 : decode cX2_mixBorders 28 = .ok (.iconst (-1), 1) := by decide +kernel
theorem dX2_mixBorders_29 : decode cX2_mixBorders 29 = .ok (.if_icmp .eq 53, 3) := by decide +kernel
theorem dX2_mixBorders_32 : decode cX2_mixBorders 32 = .ok (.aload_n 0, 1) := by decide +kernel
theorem dX2_mixBorders_33 : decode cX2_mixBorders 33 = .ok (.getfield 19, 3) := by decide +kernel
theorem dX2_mixBorders_36 : decode cX2_mixBorders 36 = .ok (.iload 5, 2) := by decide +kernel
theorem dX2_mixBorders_38 : decode cX2_mixBorders 38 = .ok (.iaload, 1) := by decide +kernel
theorem dX2_mixBorders_39 : decode cX2_mixBorders 39 = .ok (.aload_n 0, 1) := by decide +kernel
theorem dX2_mixBorders_40 : decode cX2_mixBorders 40 = .ok (.getfield 19, 3) := by decide +kernel
theorem dX2_mixBorders_43 : decode cX2_mixBorders 43 = .ok (.iload 4, 2) := by decide +kernel
theorem dX2_mixBorders_45 : decode cX2_mixBorders 45 = .ok (.iaload, 1) := by decide +kernel
theorem dX2_mixBorders_46 : decode cX2_mixBorders 46 = .ok (.if_icmp .eq 36, 3) := by decide +kernel
theorem dX2_mixBorders_49 : decode cX2_mixBorders 49 = .ok (.aload_n 0, 1) := by decide +kernel
theorem dX2_mixBorders_50 : decode cX2_mixBorders 50 = .ok (.iload 5, 2) := by decide +kernel
theorem dX2_mixBorders_52 : decode cX2_mixBorders 52 = .ok (.iload 4, 2) := by decide +kernel
theorem dX2_mixBorders_54 : decode cX2_mixBorders 54 = .ok (.aload_n 3, 1) := by decide +kernel
theorem dX2_mixBorders_55 : decode cX2_mixBorders 55 = .ok (.invokevirtual 49, 3) := by decide +kernel
theorem dX2_mixBorders_58 : decode cX2_mixBorders 58 = .ok (.istore 6, 2) := by decide +kernel
theorem dX2_mixBorders_60 : decode cX2_mixBorders 60 = .ok (.iload 6, 2) := by decide +kernel
theorem dX2_mixBorders_62 : decode cX2_mixBorders 62 = .ok (.iload_n 1, 1) := by decide +kernel
theorem dX2_mixBorders_63 : decode cX2_mixBorders 63 = .ok (.if_icmp .lt 19, 3) := by decide +kernel
theorem dX2_mixBorders_66 : decode cX2_mixBorders 66 = .ok (.iload 6, 2) := by decide +kernel
theorem dX2_mixBorders_68 : decode cX2_mixBorders 68 = .ok (.iload_n 2, 1) := by decide +kernel
theorem dX2_mixBorders_69 : decode cX2_mixBorders 69 = .ok (.if_icmp .ge 13, 3) := by decide +kernel
theorem dX2_mixBorders_72 : decode cX2_mixBorders 72 = .ok (.aload_n 0, 1) := by decide +kernel
theorem dX2_mixBorders_73 : decode cX2_mixBorders 73 = .ok (.iload 5, 2) := by decide +kernel
theorem dX2_mixBorders_75 : decode cX2_mixBorders 75 = .ok (.iload 4, 2) := by decide +kernel
theorem dX2_mixBorders_77 : decode cX2_mixBorders 77 = .ok (.iload 6, 2) := by decide +kernel
theorem dX2_mixBorders_79 : decode cX2_mixBorders 79 = .ok (.invokevirtual 53, 3) := by decide +kernel
theorem dX2_mixBorders_82 : decode cX2_mixBorders 82 = .ok (.iload 5, 2) := by decide +kernel
theorem dX2_mixBorders_84 : decode cX2_mixBorders 84 = .ok (.istore 4, 2) := by decide +kernel
theorem dX2_mixBorders_86 : decode cX2_mixBorders 86 = .ok (.iinc 5 (-1), 3) := by decide +kernel
theorem dX2_mixBorders_89 : decode cX2_mixBorders 89 = .ok (.goto (-81), 3) := by decide +kernel
theorem dX2_mixBorders_92 : decode cX2_mixBorders 92 = .ok (.return_, 1) := by decide +kernel
theorem dX2_farSide_0 : decode cX2_farSide 0 = .ok (.aload_n 3, 1) := by decide +kernel
theorem dX2_farSide_1 : decode cX2_farSide 1 = .ok (.aload_n 0, 1) := by decide +kernel
theorem dX2_farSide_2 : decode cX2_farSide 2 = .ok (.getfield 19, 3) := by decide +kernel
theorem dX2_farSide_5 : decode cX2_farSide 5 = .ok (.iload_n 1, 1) := by decide +kernel
theorem dX2_farSide_6 : decode cX2_farSide 6 = .ok (.iaload, 1) := by decide +kernel
theorem dX2_farSide_7 : decode cX2_farSide 7 = .ok (.aload_n 0, 1) := by decide +kernel
theorem dX2_farSide_8 : decode cX2_farSide 8 = .ok (.getfield 19, 3) := by decide +kernel
theorem dX2_farSide_11 : decode cX2_farSide 11 = .ok (.iload_n 2, 1) := by decide +kernel
theorem dX2_farSide_12 : decode cX2_farSide 12 = .ok (.iaload, 1) := by decide +kernel
theorem dX2_farSide_13 : decode cX2_farSide 13 = .ok (.invokevirtual 56, 3) := by decide +kernel
theorem dX2_farSide_16 : decode cX2_farSide 16 = .ok (.istore 4, 2) := by decide +kernel
theorem dX2_farSide_18 : decode cX2_farSide 18 = .ok (.iload 4, 2) := by decide +kernel
theorem dX2_farSide_20 : decode cX2_farSide 20 = .ok (.ifCond .ne 5, 3) := by decide +kernel
theorem dX2_farSide_23 : decode cX2_farSide 23 = .ok (.iconst (-1), 1) := by decide +kernel
theorem dX2_farSide_24 : decode cX2_farSide 24 = .ok (.ireturn, 1) := by decide +kernel
theorem dX2_farSide_25 : decode cX2_farSide 25 = .ok (.aload_n 0, 1) := by decide +kernel
theorem dX2_farSide_26 : decode cX2_farSide 26 = .ok (.getfield 25, 3) := by decide +kernel
theorem dX2_farSide_29 : decode cX2_farSide 29 = .ok (.iload_n 2, 1) := by decide +kernel
theorem dX2_farSide_30 : decode cX2_farSide 30 = .ok (.iaload, 1) := by decide +kernel
theorem dX2_farSide_31 : decode cX2_farSide 31 = .ok (.iload 4, 2) := by decide +kernel
theorem dX2_farSide_33 : decode cX2_farSide 33 = .ok (.if_icmp .ge 13, 3) := by decide +kernel
theorem dX2_farSide_36 : decode cX2_farSide 36 = .ok (.aload_n 0, 1) := by decide +kernel
theorem dX2_farSide_37 : decode cX2_farSide 37 = .ok (.getfield 25, 3) := by decide +kernel
theorem dX2_farSide_40 : decode cX2_farSide 40 = .ok (.iload_n 2, 1) := by decide +kernel
theorem dX2_farSide_41 : decode cX2_farSide 41 = .ok (.dup2, 1) := by decide +kernel
theorem dX2_farSide_42 : decode cX2_farSide 42 = .ok (.iaload, 1) := by decide +kernel
theorem dX2_farSide_43 : decode cX2_farSide 43 = .ok (.iconst 1, 1) := by decide +kernel
theorem dX2_farSide_44 : decode cX2_farSide 44 = .ok (.iadd, 1) := by decide +kernel
theorem dX2_farSide_45 : decode cX2_farSide 45 = .ok (.iastore, 1) := by decide +kernel
theorem dX2_farSide_46 : decode cX2_farSide 46 = .ok (.aload_n 0, 1) := by decide +kernel
theorem dX2_farSide_47 : decode cX2_farSide 47 = .ok (.getfield 25, 3) := by decide +kernel
theorem dX2_farSide_50 : decode cX2_farSide 50 = .ok (.iload_n 2, 1) := by decide +kernel
theorem dX2_farSide_51 : decode cX2_farSide 51 = .ok (.iaload, 1) := by decide +kernel
theorem dX2_farSide_52 : decode cX2_farSide 52 = .ok (.iload 4, 2) := by decide +kernel
theorem dX2_farSide_54 : decode cX2_farSide 54 = .ok (.if_icmp .ge 5, 3) := by decide +kernel
theorem dX2_farSide_57 : decode cX2_farSide 57 = .ok (.iconst (-1), 1) := by decide +kernel
theorem dX2_farSide_58 : decode cX2_farSide 58 = .ok (.ireturn, 1) := by decide +kernel
theorem dX2_farSide_59 : decode cX2_farSide 59 = .ok (.aload_n 0, 1) := by decide +kernel
theorem dX2_farSide_60 : decode cX2_farSide 60 = .ok (.iload_n 1, 1) := by decide +kernel
theorem dX2_farSide_61 : decode cX2_farSide 61 = .ok (.iload_n 2, 1) := by decide +kernel
theorem dX2_farSide_62 : decode cX2_farSide 62 = .ok (.invokevirtual 62, 3) := by decide +kernel
theorem dX2_farSide_65 : decode cX2_farSide 65 = .ok (.ifCond .eq 9, 3) := by decide +kernel
theorem dX2_farSide_68 : decode cX2_farSide 68 = .ok (.iload_n 1, 1) := by decide +kernel
theorem dX2_farSide_69 : decode cX2_farSide 69 = .ok (.iconst 1, 1) := by decide +kernel
theorem dX2_farSide_70 : decode cX2_farSide 70 = .ok (.isub, 1) := by decide +kernel
theorem dX2_farSide_71 : decode cX2_farSide 71 = .ok (.goto 6, 3) := by decide +kernel
theorem dX2_farSide_74 : decode cX2_farSide 74 = .ok (.iload_n 2, 1) := by decide +kernel
theorem dX2_farSide_75 : decode cX2_farSide 75 = .ok (.iconst 1, 1) := by decide +kernel
theorem dX2_farSide_76 : decode cX2_farSide 76 = .ok (.iadd, 1) := by decide +kernel
theorem dX2_farSide_77 : decode cX2_farSide 77 = .ok (.ireturn, 1) := by decide +kernel
theorem dX2_hindIsNext_0 : decode cX2_hindIsNext 0 = .ok (.iload_n 2, 1) := by decide +kernel
theorem dX2_hindIsNext_1 : decode cX2_hindIsNext 1 = .ok (.iload_n 1, 1) := by decide +kernel
theorem dX2_hindIsNext_2 : decode cX2_hindIsNext 2 = .ok (.isub, 1) := by decide +kernel
theorem dX2_hindIsNext_3 : decode cX2_hindIsNext 3 = .ok (.iconst 1, 1) := by decide +kernel
theorem dX2_hindIsNext_4 : decode cX2_hindIsNext 4 = .ok (.isub, 1) := by decide +kernel
theorem dX2_hindIsNext_5 : decode cX2_hindIsNext 5 = .ok (.istore_n 3, 1) := by decide +kernel
theorem dX2_hindIsNext_6 : decode cX2_hindIsNext 6 = .ok (.iload_n 3, 1) := by decide +kernel
theorem dX2_hindIsNext_7 : decode cX2_hindIsNext 7 = .ok (.iconst 2, 1) := by decide +kernel
theorem dX2_hindIsNext_8 : decode cX2_hindIsNext 8 = .ok (.irem, 1) := by decide +kernel
theorem dX2_hindIsNext_9 : decode cX2_hindIsNext 9 = .ok (.ifCond .ne 7, 3) := by decide +kernel
theorem dX2_hindIsNext_12 : decode cX2_hindIsNext 12 = .ok (.iconst 1, 1) := by decide +kernel
theorem dX2_hindIsNext_13 : decode cX2_hindIsNext 13 = .ok (.goto 4, 3) := by decide +kernel
theorem dX2_hindIsNext_16 : decode cX2_hindIsNext 16 = .ok (.iconst 0, 1) := by decide +kernel
theorem dX2_hindIsNext_17 : decode cX2_hindIsNext 17 = .ok (.ireturn, 1) := by decide +kernel
theorem dX2_mixOne_0 : decode cX2_mixOne 0 = .ok (.aload_n 0, 1) := by decide +kernel
theorem dX2_mixOne_1 : decode cX2_mixOne 1 = .ok (.iload_n 1, 1) := by decide +kernel
theorem dX2_mixOne_2 : decode cX2_mixOne 2 = .ok (.iload_n 2, 1) := by decide +kernel
theorem dX2_mixOne_3 : decode cX2_mixOne 3 = .ok (.invokevirtual 62, 3) := by decide +kernel
theorem dX2_mixOne_6 : decode cX2_mixOne 6 = .ok (.istore 4, 2) := by decide +kernel
theorem dX2_mixOne_8 : decode cX2_mixOne 8 = .ok (.iload 4, 2) := by decide +kernel
theorem dX2_mixOne_10 : decode cX2_mixOne 10 = .ok (.ifCond .eq 7, 3) := by decide +kernel
theorem dX2_mixOne_13 : decode cX2_mixOne 13 = .ok (.iload_n 1, 1) := by decide +kernel
theorem dX2_mixOne_14 : decode cX2_mixOne 14 = .ok (.goto 4, 3) := by decide +kernel
theorem dX2_mixOne_17 : decode cX2_mixOne 17 = .ok (.iload_n 2, 1) := by decide +kernel
theorem dX2_mixOne_18 : decode cX2_mixOne 18 = .ok (.istore 5, 2) := by decide +kernel
theorem dX2_mixOne_20 : decode cX2_mixOne 20 = .ok (.aload_n 0, 1) := by decide +kernel
theorem dX2_mixOne_21 : decode cX2_mixOne 21 = .ok (.iload_n 3, 1) := by decide +kernel
theorem dX2_mixOne_22 : decode cX2_mixOne 22 = .ok (.invokevirtual 38, 3) := by decide +kernel
theorem dX2_mixOne_25 : decode cX2_mixOne 25 = .ok (.ifCond .eq 19, 3) := by decide +kernel
theorem dX2_mixOne_28 : decode cX2_mixOne 28 = .ok (.aload_n 0, 1) := by decide +kernel
theorem dX2_mixOne_29 : decode cX2_mixOne 29 = .ok (.getfield 15, 3) := by decide +kernel
theorem dX2_mixOne_32 : decode cX2_mixOne 32 = .ok (.iload_n 3, 1) := by decide +kernel
theorem dX2_mixOne_33 : decode cX2_mixOne 33 = .ok (.iaload, 1) := by decide +kernel
theorem dX2_mixOne_34 : decode cX2_mixOne 34 = .ok (.aload_n 0, 1) := by decide +kernel
theorem dX2_mixOne_35 : decode cX2_mixOne 35 = .ok (.getfield 15, 3) := by decide +kernel
theorem dX2_mixOne_38 : decode cX2_mixOne 38 = .ok (.iload 5, 2) := by decide +kernel
theorem dX2_mixOne_40 : decode cX2_mixOne 40 = .ok (.iaload, 1) := by decide +kernel
theorem dX2_mixOne_41 : decode cX2_mixOne 41 = .ok (.if_icmp .eq 4, 3) := by decide +kernel
theorem dX2_mixOne_44 : decode cX2_mixOne 44 = .ok (.return_, 1) := by decide +kernel
theorem dX2_mixOne_45 : decode cX2_mixOne 45 = .ok (.aload_n 0, 1) := by decide +kernel
theorem dX2_mixOne_46 : decode cX2_mixOne 46 = .ok (.getfield 19, 3) := by decide +kernel
theorem dX2_mixOne_49 : decode cX2_mixOne 49 = .ok (.iload_n 1, 1) := by decide +kernel
theorem dX2_mixOne_50 : decode cX2_mixOne 50 = .ok (.iaload, 1) := by decide +kernel
theorem dX2_mixOne_51 : decode cX2_mixOne 51 = .ok (.istore 6, 2) := by decide +kernel
theorem dX2_mixOne_53 : decode cX2_mixOne 53 = .ok (.aload_n 0, 1) := by decide +kernel
theorem dX2_mixOne_54 : decode cX2_mixOne 54 = .ok (.getfield 19, 3) := by decide +kernel
theorem dX2_mixOne_57 : decode cX2_mixOne 57 = .ok (.iload_n 2, 1) := by decide +kernel
theorem dX2_mixOne_58 : decode cX2_mixOne 58 = .ok (.iaload, 1) := by decide +kernel
theorem dX2_mixOne_59 : decode cX2_mixOne 59 = .ok (.istore 7, 2) := by decide +kernel
theorem dX2_mixOne_61 : decode cX2_mixOne 61 = .ok (.aload_n 0, 1) := by decide +kernel
theorem dX2_mixOne_62 : decode cX2_mixOne 62 = .ok (.getfield 19, 3) := by decide +kernel
theorem dX2_mixOne_65 : decode cX2_mixOne 65 = .ok (.iload 5, 2) := by decide +kernel
theorem dX2_mixOne_67 : decode cX2_mixOne 67 = .ok (.iload 6, 2) := by decide +kernel
theorem dX2_mixOne_69 : decode cX2_mixOne 69 = .ok (.iastore, 1) := by decide +kernel
theorem dX2_mixOne_70 : decode cX2_mixOne 70 = .ok (.aload_n 0, 1) := by decide +kernel
theorem dX2_mixOne_71 : decode cX2_mixOne 71 = .ok (.getfield 22, 3) := by decide +kernel
theorem dX2_mixOne_74 : decode cX2_mixOne 74 = .ok (.iload 5, 2) := by decide +kernel
theorem dX2_mixOne_76 : decode cX2_mixOne 76 = .ok (.iload 7, 2) := by decide +kernel
theorem dX2_mixOne_78 : decode cX2_mixOne 78 = .ok (.iastore, 1) := by decide +kernel
theorem dX2_mixOne_79 : decode cX2_mixOne 79 = .ok (.aload_n 0, 1) := by decide +kernel
theorem dX2_mixOne_80 : decode cX2_mixOne 80 = .ok (.getfield 25, 3) := by decide +kernel
theorem dX2_mixOne_83 : decode cX2_mixOne 83 = .ok (.iload 4, 2) := by decide +kernel
theorem dX2_mixOne_85 : decode cX2_mixOne 85 = .ok (.ifCond .eq 7, 3) := by decide +kernel
theorem dX2_mixOne_88 : decode cX2_mixOne 88 = .ok (.iload_n 2, 1) := by decide +kernel
theorem dX2_mixOne_89 : decode cX2_mixOne 89 = .ok (.goto 4, 3) := by decide +kernel
theorem dX2_mixOne_92 : decode cX2_mixOne 92 = .ok (.iload_n 3, 1) := by decide +kernel
theorem dX2_mixOne_93 : decode cX2_mixOne 93 = .ok (.iconst 0, 1) := by decide +kernel
theorem dX2_mixOne_94 : decode cX2_mixOne 94 = .ok (.iastore, 1) := by decide +kernel
theorem dX2_mixOne_95 : decode cX2_mixOne 95 = .ok (.return_, 1) := by decide +kernel
theorem dX2_clashesAt_0 : decode cX2_clashesAt 0 = .ok (.aload_n 0, 1) := by decide +kernel
theorem dX2_clashesAt_1 : decode cX2_clashesAt 1 = .ok (.iload_n 1, 1) := by decide +kernel
theorem dX2_clashesAt_2 : decode cX2_clashesAt 2 = .ok (.invokevirtual 42, 3) := by decide +kernel
theorem dX2_clashesAt_5 : decode cX2_clashesAt 5 = .ok (.istore_n 3, 1) := by decide +kernel
theorem dX2_clashesAt_6 : decode cX2_clashesAt 6 = .ok (.aload_n 0, 1) := by decide +kernel
theorem dX2_clashesAt_7 : decode cX2_clashesAt 7 = .ok (.iload_n 1, 1) := by decide +kernel
theorem dX2_clashesAt_8 : decode cX2_clashesAt 8 = .ok (.invokevirtual 66, 3) := by decide +kernel
theorem dX2_clashesAt_11 : decode cX2_clashesAt 11 = .ok (.istore 4, 2) := by decide +kernel
theorem dX2_clashesAt_13 : decode cX2_clashesAt 13 = .ok (.aload_n 0, 1) := by decide +kernel
theorem dX2_clashesAt_14 : decode cX2_clashesAt 14 = .ok (.iload_n 1, 1) := by decide +kernel
theorem dX2_clashesAt_15 : decode cX2_clashesAt 15 = .ok (.invokevirtual 38, 3) := by decide +kernel
theorem dX2_clashesAt_18 : decode cX2_clashesAt 18 = .ok (.ifCond .ne 12, 3) := by decide +kernel
theorem dX2_clashesAt_21 : decode cX2_clashesAt 21 = .ok (.aload_n 0, 1) := by decide +kernel
theorem dX2_clashesAt_22 : decode cX2_clashesAt 22 = .ok (.iload_n 3, 1) := by decide +kernel
theorem dX2_clashesAt_23 : decode cX2_clashesAt 23 = .ok (.iload 4, 2) := by decide +kernel
theorem dX2_clashesAt_25 : decode cX2_clashesAt 25 = .ok (.aload_n 2, 1) := by decide +kernel
theorem dX2_clashesAt_26 : decode cX2_clashesAt 26 = .ok (.invokevirtual 69, 3) := by decide +kernel
theorem dX2_clashesAt_29 : decode cX2_clashesAt 29 = .ok (.ireturn, 1) := by decide +kernel
theorem dX2_clashesAt_30 : decode cX2_clashesAt 30 = .ok (.aload_n 0, 1) := by decide +kernel
theorem dX2_clashesAt_31 : decode cX2_clashesAt 31 = .ok (.iload_n 3, 1) := by decide +kernel
theorem dX2_clashesAt_32 : decode cX2_clashesAt 32 = .ok (.iload_n 1, 1) := by decide +kernel
theorem dX2_clashesAt_33 : decode cX2_clashesAt 33 = .ok (.aload_n 2, 1) := by decide +kernel
theorem dX2_clashesAt_34 : decode cX2_clashesAt 34 = .ok (.invokevirtual 69, 3) := by decide +kernel
theorem dX2_clashesAt_37 : decode cX2_clashesAt 37 = .ok (.ifCond .ne 14, 3) := by decide +kernel
theorem dX2_clashesAt_40 : decode cX2_clashesAt 40 = .ok (.aload_n 0, 1) := by decide +kernel
theorem dX2_clashesAt_41 : decode cX2_clashesAt 41 = .ok (.iload_n 1, 1) := by decide +kernel
theorem dX2_clashesAt_42 : decode cX2_clashesAt 42 = .ok (.iload 4, 2) := by decide +kernel
theorem dX2_clashesAt_44 : decode cX2_clashesAt 44 = .ok (.aload_n 2, 1) := by decide +kernel
theorem dX2_clashesAt_45 : decode cX2_clashesAt 45 = .ok (.invokevirtual 69, 3) := by decide +kernel
theorem dX2_clashesAt_48 : decode cX2_clashesAt 48 = .ok (.ifCond .eq 7, 3) := by decide +kernel
theorem dX2_clashesAt_51 : decode cX2_clashesAt 51 = .ok (.iconst 1, 1) := by decide +kernel
theorem dX2_clashesAt_52 : decode cX2_clashesAt 52 = .ok (.goto 4, 3) := by decide +kernel
theorem dX2_clashesAt_55 : decode cX2_clashesAt 55 = .ok (.iconst 0, 1) := by decide +kernel
theorem dX2_clashesAt_56 : decode cX2_clashesAt 56 = .ok (.ireturn, 1) := by decide +kernel
theorem dX2_clash_0 : decode cX2_clash 0 = .ok (.iload_n 1, 1) := by decide +kernel
theorem dX2_clash_1 : decode cX2_clash 1 = .ok (.iconst (-1), 1) := by decide +kernel
theorem dX2_clash_2 : decode cX2_clash 2 = .ok (.if_icmp .eq 31, 3) := by decide +kernel
theorem dX2_clash_5 : decode cX2_clash 5 = .ok (.iload_n 2, 1) := by decide +kernel
theorem dX2_clash_6 : decode cX2_clash 6 = .ok (.iconst (-1), 1) := by decide +kernel
theorem dX2_clash_7 : decode cX2_clash 7 = .ok (.if_icmp .eq 26, 3) := by decide +kernel
theorem dX2_clash_10 : decode cX2_clash 10 = .ok (.aload_n 3, 1) := by decide +kernel
theorem dX2_clash_11 : decode cX2_clash 11 = .ok (.aload_n 0, 1) := by decide +kernel
theorem dX2_clash_12 : decode cX2_clash 12 = .ok (.getfield 19, 3) := by decide +kernel
theorem dX2_clash_15 : decode cX2_clash 15 = .ok (.iload_n 1, 1) := by decide +kernel
theorem dX2_clash_16 : decode cX2_clash 16 = .ok (.iaload, 1) := by decide +kernel
theorem dX2_clash_17 : decode cX2_clash 17 = .ok (.aload_n 0, 1) := by decide +kernel
theorem dX2_clash_18 : decode cX2_clash 18 = .ok (.getfield 19, 3) := by decide +kernel
theorem dX2_clash_21 : decode cX2_clash 21 = .ok (.iload_n 2, 1) := by decide +kernel
theorem dX2_clash_22 : decode cX2_clash 22 = .ok (.iaload, 1) := by decide +kernel
theorem dX2_clash_23 : decode cX2_clash 23 = .ok (.invokevirtual 73, 3) := by decide +kernel
theorem dX2_clash_26 : decode cX2_clash 26 = .ok (.ifCond .ne 7, 3) := by decide +kernel
theorem dX2_clash_29 : decode cX2_clash 29 = .ok (.iconst 1, 1) := by decide +kernel
theorem dX2_clash_30 : decode cX2_clash 30 = .ok (.goto 4, 3) := by decide +kernel
theorem dX2_clash_33 : decode cX2_clash 33 = .ok (.iconst 0, 1) := by decide +kernel
theorem dX2_clash_34 : decode cX2_clash 34 = .ok (.ireturn, 1) := by decide +kernel
theorem dX3_init_0 : decode cX3_init 0 = .ok (.aload_n 0, 1) := by decide +kernel
theorem dX3_init_1 : decode cX3_init 1 = .ok (.invokespecial 1, 3) := by decide +kernel
theorem dX3_init_4 : decode cX3_init 4 = .ok (.aload_n 0, 1) := by decide +kernel
theorem dX3_init_5 : decode cX3_init 5 = .ok (.iconst 0, 1) := by decide +kernel
theorem dX3_init_6 : decode cX3_init 6 = .ok (.putfield 7, 3) := by decide +kernel
theorem dX3_init_9 : decode cX3_init 9 = .ok (.aload_n 0, 1) := by decide +kernel
theorem dX3_init_10 : decode cX3_init 10 = .ok (.iconst 0, 1) := by decide +kernel
theorem dX3_init_11 : decode cX3_init 11 = .ok (.putfield 13, 3) := by decide +kernel
theorem dX3_init_14 : decode cX3_init 14 = .ok (.aload_n 0, 1) := by decide +kernel
theorem dX3_init_15 : decode cX3_init 15 = .ok (.iconst 0, 1) := by decide +kernel
theorem dX3_init_16 : decode cX3_init 16 = .ok (.putfield 16, 3) := by decide +kernel
theorem dX3_init_19 : decode cX3_init 19 = .ok (.aload_n 0, 1) := by decide +kernel
theorem dX3_init_20 : decode cX3_init 20 = .ok (.iconst 0, 1) := by decide +kernel
theorem dX3_init_21 : decode cX3_init 21 = .ok (.putfield 19, 3) := by decide +kernel
theorem dX3_init_24 : decode cX3_init 24 = .ok (.aload_n 0, 1) := by decide +kernel
theorem dX3_init_25 : decode cX3_init 25 = .ok (.iconst 0, 1) := by decide +kernel
theorem dX3_init_26 : decode cX3_init 26 = .ok (.putfield 22, 3) := by decide +kernel
theorem dX3_init_29 : decode cX3_init 29 = .ok (.return_, 1) := by decide +kernel
theorem dX3_set_0 : decode cX3_set 0 = .ok (.aload_n 0, 1) := by decide +kernel
theorem dX3_set_1 : decode cX3_set 1 = .ok (.iload_n 3, 1) := by decide +kernel
theorem dX3_set_2 : decode cX3_set 2 = .ok (.putfield 7, 3) := by decide +kernel
theorem dX3_set_5 : decode cX3_set 5 = .ok (.aload_n 0, 1) := by decide +kernel
theorem dX3_set_6 : decode cX3_set 6 = .ok (.iload_n 1, 1) := by decide +kernel
theorem dX3_set_7 : decode cX3_set 7 = .ok (.iload_n 3, 1) := by decide +kernel
theorem dX3_set_8 : decode cX3_set 8 = .ok (.invokestatic 25, 3) := by decide +kernel
theorem dX3_set_11 : decode cX3_set 11 = .ok (.putfield 13, 3) := by decide +kernel
theorem dX3_set_14 : decode cX3_set 14 = .ok (.aload_n 0, 1) := by decide +kernel
theorem dX3_set_15 : decode cX3_set 15 = .ok (.iload_n 2, 1) := by decide +kernel
theorem dX3_set_16 : decode cX3_set 16 = .ok (.putfield 16, 3) := by decide +kernel
theorem dX3_set_19 : decode cX3_set 19 = .ok (.aload_n 0, 1) := by decide +kernel
theorem dX3_set_20 : decode cX3_set 20 = .ok (.aload 4, 2) := by decide +kernel
theorem dX3_set_22 : decode cX3_set 22 = .ok (.getfield 31, 3) := by decide +kernel
theorem dX3_set_25 : decode cX3_set 25 = .ok (.iload_n 1, 1) := by decide +kernel
theorem dX3_set_26 : decode cX3_set 26 = .ok (.iaload, 1) := by decide +kernel
theorem dX3_set_27 : decode cX3_set 27 = .ok (.putfield 19, 3) := by decide +kernel
theorem dX3_set_30 : decode cX3_set 30 = .ok (.aload_n 0, 1) := by decide +kernel
theorem dX3_set_31 : decode cX3_set 31 = .ok (.aload 4, 2) := by decide +kernel
theorem dX3_set_33 : decode cX3_set 33 = .ok (.getfield 31, 3) := by decide +kernel
theorem dX3_set_36 : decode cX3_set 36 = .ok (.iload_n 2, 1) := by decide +kernel
theorem dX3_set_37 : decode cX3_set 37 = .ok (.iaload, 1) := by decide +kernel
theorem dX3_set_38 : decode cX3_set 38 = .ok (.putfield 22, 3) := by decide +kernel
theorem dX3_set_41 : decode cX3_set 41 = .ok (.return_, 1) := by decide +kernel
theorem dX4_init_0 : decode cX4_init 0 = .ok (.aload_n 0, 1) := by decide +kernel
theorem dX4_init_1 : decode cX4_init 1 = .ok (.invokespecial 3, 3) := by decide +kernel
theorem dX4_init_4 : decode cX4_init 4 = .ok (.aload_n 0, 1) := by decide +kernel
theorem dX4_init_5 : decode cX4_init 5 = .ok (.bipush 48, 2) := by decide +kernel
theorem dX4_init_7 : decode cX4_init 7 = .ok (.newarray .int, 2) := by decide +kernel
theorem dX4_init_9 : decode cX4_init 9 = .ok (.putfield 9, 3) := by decide +kernel
theorem dX4_init_12 : decode cX4_init 12 = .ok (.aload_n 0, 1) := by decide +kernel
theorem dX4_init_13 : decode cX4_init 13 = .ok (.bipush 48, 2) := by decide +kernel
theorem dX4_init_15 : decode cX4_init 15 = .ok (.newarray .int, 2) := by decide +kernel
theorem dX4_init_17 : decode cX4_init 17 = .ok (.putfield 15, 3) := by decide +kernel
theorem dX4_init_20 : decode cX4_init 20 = .ok (.aload_n 0, 1) := by decide +kernel
theorem dX4_init_21 : decode cX4_init 21 = .ok (.bipush 48, 2) := by decide +kernel
theorem dX4_init_23 : decode cX4_init 23 = .ok (.newarray .int, 2) := by decide +kernel
theorem dX4_init_25 : decode cX4_init 25 = .ok (.putfield 18, 3) := by decide +kernel
theorem dX4_init_28 : decode cX4_init 28 = .ok (.aload_n 0, 1) := by decide +kernel
theorem dX4_init_29 : decode cX4_init 29 = .ok (.bipush 6, 2) := by decide +kernel
theorem dX4_init_31 : decode cX4_init 31 = .ok (.newarray .int, 2) := by decide +kernel
theorem dX4_init_33 : decode cX4_init 33 = .ok (.putfield 21, 3) := by decide +kernel
theorem dX4_init_36 : decode cX4_init 36 = .ok (.return_, 1) := by decide +kernel
theorem dX4_clear_0 : decode cX4_clear 0 = .ok (.aload_n 0, 1) := by decide +kernel
theorem dX4_clear_1 : decode cX4_clear 1 = .ok (.getfield 21, 3) := by decide +kernel
theorem dX4_clear_4 : decode cX4_clear 4 = .ok (.iconst 0, 1) := by decide +kernel
theorem dX4_clear_5 : decode cX4_clear 5 = .ok (.invokestatic 24, 3) := by decide +kernel
theorem dX4_clear_8 : decode cX4_clear 8 = .ok (.return_, 1) := by decide +kernel
theorem dX4_copyFrom_0 : decode cX4_copyFrom 0 = .ok (.aload_n 1, 1) := by decide +kernel
theorem dX4_copyFrom_1 : decode cX4_copyFrom 1 = .ok (.getfield 9, 3) := by decide +kernel
theorem dX4_copyFrom_4 : decode cX4_copyFrom 4 = .ok (.iconst 0, 1) := by decide +kernel
theorem dX4_copyFrom_5 : decode cX4_copyFrom 5 = .ok (.aload_n 0, 1) := by decide +kernel
theorem dX4_copyFrom_6 : decode cX4_copyFrom 6 = .ok (.getfield 9, 3) := by decide +kernel
theorem dX4_copyFrom_9 : decode cX4_copyFrom 9 = .ok (.iconst 0, 1) := by decide +kernel
theorem dX4_copyFrom_10 : decode cX4_copyFrom 10 = .ok (.bipush 48, 2) := by decide +kernel
theorem dX4_copyFrom_12 : decode cX4_copyFrom 12 = .ok (.invokestatic 30, 3) := by decide +kernel
theorem dX4_copyFrom_15 : decode cX4_copyFrom 15 = .ok (.aload_n 1, 1) := by decide +kernel
theorem dX4_copyFrom_16 : decode cX4_copyFrom 16 = .ok (.getfield 15, 3) := by decide +kernel
theorem dX4_copyFrom_19 : decode cX4_copyFrom 19 = .ok (.iconst 0, 1) := by decide +kernel
theorem dX4_copyFrom_20 : decode cX4_copyFrom 20 = .ok (.aload_n 0, 1) := by decide +kernel
theorem dX4_copyFrom_21 : decode cX4_copyFrom 21 = .ok (.getfield 15, 3) := by decide +kernel
theorem dX4_copyFrom_24 : decode cX4_copyFrom 24 = .ok (.iconst 0, 1) := by decide +kernel
theorem dX4_copyFrom_25 : decode cX4_copyFrom 25 = .ok (.bipush 48, 2) := by decide +kernel
theorem dX4_copyFrom_27 : decode cX4_copyFrom 27 = .ok (.invokestatic 30, 3) := by decide +kernel
theorem dX4_copyFrom_30 : decode cX4_copyFrom 30 = .ok (.aload_n 1, 1) := by decide +kernel
theorem dX4_copyFrom_31 : decode cX4_copyFrom 31 = .ok (.getfield 18, 3) := by decide +kernel
theorem dX4_copyFrom_34 : decode cX4_copyFrom 34 = .ok (.iconst 0, 1) := by decide +kernel
theorem dX4_copyFrom_35 : decode cX4_copyFrom 35 = .ok (.aload_n 0, 1) := by decide +kernel
theorem dX4_copyFrom_36 : decode cX4_copyFrom 36 = .ok (.getfield 18, 3) := by decide +kernel
theorem dX4_copyFrom_39 : decode cX4_copyFrom 39 = .ok (.iconst 0, 1) := by decide +kernel
theorem dX4_copyFrom_40 : decode cX4_copyFrom 40 = .ok (.bipush 48, 2) := by decide +kernel
theorem dX4_copyFrom_42 : decode cX4_copyFrom 42 = .ok (.invokestatic 30, 3) := by decide +kernel
theorem dX4_copyFrom_45 : decode cX4_copyFrom 45 = .ok (.aload_n 1, 1) := by decide +kernel
theorem dX4_copyFrom_46 : decode cX4_copyFrom 46 = .ok (.getfield 21, 3) := by decide +kernel
theorem dX4_copyFrom_49 : decode cX4_copyFrom 49 = .ok (.iconst 0, 1) := by decide +kernel
theorem dX4_copyFrom_50 : decode cX4_copyFrom 50 = .ok (.aload_n 0, 1) := by decide +kernel
theorem dX4_copyFrom_51 : decode cX4_copyFrom 51 = .ok (.getfield 21, 3) := by decide +kernel
theorem dX4_copyFrom_54 : decode cX4_copyFrom 54 = .ok (.iconst 0, 1) := by decide +kernel
theorem dX4_copyFrom_55 : decode cX4_copyFrom 55 = .ok (.bipush 6, 2) := by decide +kernel
theorem dX4_copyFrom_57 : decode cX4_copyFrom 57 = .ok (.invokestatic 30, 3) := by decide +kernel
theorem dX4_copyFrom_60 : decode cX4_copyFrom 60 = .ok (.return_, 1) := by decide +kernel
theorem dX4_fill_0 : decode cX4_fill 0 = .ok (.aload_n 0, 1) := by decide +kernel
theorem dX4_fill_1 : decode cX4_fill 1 = .ok (.getfield 9, 3) := by decide +kernel
theorem dX4_fill_4 : decode cX4_fill 4 = .ok (.iload_n 1, 1) := by decide +kernel
theorem dX4_fill_5 : decode cX4_fill 5 = .ok (.iload_n 2, 1) := by decide +kernel
theorem dX4_fill_6 : decode cX4_fill 6 = .ok (.iastore, 1) := by decide +kernel
theorem dX4_fill_7 : decode cX4_fill 7 = .ok (.aload_n 0, 1) := by decide +kernel
theorem dX4_fill_8 : decode cX4_fill 8 = .ok (.getfield 15, 3) := by decide +kernel
theorem dX4_fill_11 : decode cX4_fill 11 = .ok (.iload_n 1, 1) := by decide +kernel
theorem dX4_fill_12 : decode cX4_fill 12 = .ok (.iconst 0, 1) := by decide +kernel
theorem dX4_fill_13 : decode cX4_fill 13 = .ok (.iastore, 1) := by decide +kernel
theorem dX4_fill_14 : decode cX4_fill 14 = .ok (.aload_n 0, 1) := by decide +kernel
