theorem dX4_fill_15 : decode cX4_fill 15 = .ok (.getfield 18, 3) := by decide +kernel
theorem dX4_fill_18 : decode cX4_fill 18 = .ok (.iload_n 1, 1) := by decide +kernel
theorem dX4_fill_19 : decode cX4_fill 19 = .ok (.iconst 0, 1) := by decide +kernel
theorem dX4_fill_20 : decode cX4_fill 20 = .ok (.iastore, 1) := by decide +kernel
theorem dX4_fill_21 : decode cX4_fill 21 = .ok (.return_, 1) := by decide +kernel
theorem dX4_bearsForeign_0 : decode cX4_bearsForeign 0 = .ok (.aload_n 0, 1) := by decide +kernel
theorem dX4_bearsForeign_1 : decode cX4_bearsForeign 1 = .ok (.getfield 15, 3) := by decide +kernel
theorem dX4_bearsForeign_4 : decode cX4_bearsForeign 4 = .ok (.iload_n 1, 1) := by decide +kernel
theorem dX4_bearsForeign_5 : decode cX4_bearsForeign 5 = .ok (.iaload, 1) := by decide +kernel
theorem dX4_bearsForeign_6 : decode cX4_bearsForeign 6 = .ok (.iconst 1, 1) := by decide +kernel
theorem dX4_bearsForeign_7 : decode cX4_bearsForeign 7 = .ok (.iadd, 1) := by decide +kernel
theorem dX4_bearsForeign_8 : decode cX4_bearsForeign 8 = .ok (.bipush 100, 2) := by decide +kernel
theorem dX4_bearsForeign_10 : decode cX4_bearsForeign 10 = .ok (.imul, 1) := by decide +kernel
theorem dX4_bearsForeign_11 : decode cX4_bearsForeign 11 = .ok (.iload_n 2, 1) := by decide +kernel
theorem dX4_bearsForeign_12 : decode cX4_bearsForeign 12 = .ok (.aload_n 0, 1) := by decide +kernel
theorem dX4_bearsForeign_13 : decode cX4_bearsForeign 13 = .ok (.getfield 9, 3) := by decide +kernel
theorem dX4_bearsForeign_16 : decode cX4_bearsForeign 16 = .ok (.iload_n 1, 1) := by decide +kernel
theorem dX4_bearsForeign_17 : decode cX4_bearsForeign 17 = .ok (.iaload, 1) := by decide +kernel
theorem dX4_bearsForeign_18 : decode cX4_bearsForeign 18 = .ok (.iconst 1, 1) := by decide +kernel
theorem dX4_bearsForeign_19 : decode cX4_bearsForeign 19 = .ok (.iadd, 1) := by decide +kernel
theorem dX4_bearsForeign_20 : decode cX4_bearsForeign 20 = .ok (.imul, 1) := by decide +kernel
theorem dX4_bearsForeign_21 : decode cX4_bearsForeign 21 = .ok (.if_icmp .gt 7, 3) := by decide +kernel
theorem dX4_bearsForeign_24 : decode cX4_bearsForeign 24 = .ok (.iconst 1, 1) := by decide +kernel
theorem dX4_bearsForeign_25 : decode cX4_bearsForeign 25 = .ok (.goto 4, 3) := by decide +kernel
theorem dX4_bearsForeign_28 : decode cX4_bearsForeign 28 = .ok (.iconst 0, 1) := by decide +kernel
theorem dX4_bearsForeign_29 : decode cX4_bearsForeign 29 = .ok (.ireturn, 1) := by decide +kernel
theorem dX4_putOne_0 : decode cX4_putOne 0 = .ok (.aload_n 0, 1) := by decide +kernel
theorem dX4_putOne_1 : decode cX4_putOne 1 = .ok (.getfield 9, 3) := by decide +kernel
theorem dX4_putOne_4 : decode cX4_putOne 4 = .ok (.iload_n 1, 1) := by decide +kernel
theorem dX4_putOne_5 : decode cX4_putOne 5 = .ok (.dup2, 1) := by decide +kernel
theorem dX4_putOne_6 : decode cX4_putOne 6 = .ok (.iaload, 1) := by decide +kernel
theorem dX4_putOne_7 : decode cX4_putOne 7 = .ok (.iconst 1, 1) := by decide +kernel
theorem dX4_putOne_8 : decode cX4_putOne 8 = .ok (.iadd, 1) := by decide +kernel
theorem dX4_putOne_9 : decode cX4_putOne 9 = .ok (.iastore, 1) := by decide +kernel
theorem dX4_putOne_10 : decode cX4_putOne 10 = .ok (.aload_n 0, 1) := by decide +kernel
theorem dX4_putOne_11 : decode cX4_putOne 11 = .ok (.getfield 18, 3) := by decide +kernel
theorem dX4_putOne_14 : decode cX4_putOne 14 = .ok (.iload_n 1, 1) := by decide +kernel
theorem dX4_putOne_15 : decode cX4_putOne 15 = .ok (.dup2, 1) := by decide +kernel
theorem dX4_putOne_16 : decode cX4_putOne 16 = .ok (.iaload, 1) := by decide +kernel
theorem dX4_putOne_17 : decode cX4_putOne 17 = .ok (.iconst 1, 1) := by decide +kernel
theorem dX4_putOne_18 : decode cX4_putOne 18 = .ok (.iadd, 1) := by decide +kernel
theorem dX4_putOne_19 : decode cX4_putOne 19 = .ok (.iastore, 1) := by decide +kernel
theorem dX4_putOne_20 : decode cX4_putOne 20 = .ok (.iload_n 2, 1) := by decide +kernel
theorem dX4_putOne_21 : decode cX4_putOne 21 = .ok (.ifCond .eq 13, 3) := by decide +kernel
theorem dX4_putOne_24 : decode cX4_putOne 24 = .ok (.aload_n 0, 1) := by decide +kernel
theorem dX4_putOne_25 : decode cX4_putOne 25 = .ok (.getfield 15, 3) := by decide +kernel
theorem dX4_putOne_28 : decode cX4_putOne 28 = .ok (.iload_n 1, 1) := by decide +kernel
theorem dX4_putOne_29 : decode cX4_putOne 29 = .ok (.dup2, 1) := by decide +kernel
theorem dX4_putOne_30 : decode cX4_putOne 30 = .ok (.iaload, 1) := by decide +kernel
theorem dX4_putOne_31 : decode cX4_putOne 31 = .ok (.iconst 1, 1) := by decide +kernel
theorem dX4_putOne_32 : decode cX4_putOne 32 = .ok (.iadd, 1) := by decide +kernel
theorem dX4_putOne_33 : decode cX4_putOne 33 = .ok (.iastore, 1) := by decide +kernel
theorem dX4_putOne_34 : decode cX4_putOne 34 = .ok (.return_, 1) := by decide +kernel
theorem dX4_takeOne_0 : decode cX4_takeOne 0 = .ok (.aload_n 0, 1) := by decide +kernel
theorem dX4_takeOne_1 : decode cX4_takeOne 1 = .ok (.getfield 9, 3) := by decide +kernel
theorem dX4_takeOne_4 : decode cX4_takeOne 4 = .ok (.iload_n 1, 1) := by decide +kernel
theorem dX4_takeOne_5 : decode cX4_takeOne 5 = .ok (.dup2, 1) := by decide +kernel
theorem dX4_takeOne_6 : decode cX4_takeOne 6 = .ok (.iaload, 1) := by decide +kernel
theorem dX4_takeOne_7 : decode cX4_takeOne 7 = .ok (.iconst 1, 1) := by decide +kernel
theorem dX4_takeOne_8 : decode cX4_takeOne 8 = .ok (.isub, 1) := by decide +kernel
theorem dX4_takeOne_9 : decode cX4_takeOne 9 = .ok (.iastore, 1) := by decide +kernel
theorem dX4_takeOne_10 : decode cX4_takeOne 10 = .ok (.aload_n 0, 1) := by decide +kernel
theorem dX4_takeOne_11 : decode cX4_takeOne 11 = .ok (.getfield 15, 3) := by decide +kernel
theorem dX4_takeOne_14 : decode cX4_takeOne 14 = .ok (.iload_n 1, 1) := by decide +kernel
theorem dX4_takeOne_15 : decode cX4_takeOne 15 = .ok (.aload_n 0, 1) := by decide +kernel
theorem dX4_takeOne_16 : decode cX4_takeOne 16 = .ok (.getfield 15, 3) := by decide +kernel
theorem dX4_takeOne_19 : decode cX4_takeOne 19 = .ok (.iload_n 1, 1) := by decide +kernel
theorem dX4_takeOne_20 : decode cX4_takeOne 20 = .ok (.iaload, 1) := by decide +kernel
theorem dX4_takeOne_21 : decode cX4_takeOne 21 = .ok (.aload_n 0, 1) := by decide +kernel
theorem dX4_takeOne_22 : decode cX4_takeOne 22 = .ok (.getfield 9, 3) := by decide +kernel
theorem dX4_takeOne_25 : decode cX4_takeOne 25 = .ok (.iload_n 1, 1) := by decide +kernel
theorem dX4_takeOne_26 : decode cX4_takeOne 26 = .ok (.iaload, 1) := by decide +kernel
theorem dX4_takeOne_27 : decode cX4_takeOne 27 = .ok (.invokestatic 36, 3) := by decide +kernel
theorem dX4_takeOne_30 : decode cX4_takeOne 30 = .ok (.iastore, 1) := by decide +kernel
theorem dX4_takeOne_31 : decode cX4_takeOne 31 = .ok (.return_, 1) := by decide +kernel
theorem dX4_slopOfAll_0 : decode cX4_slopOfAll 0 = .ok (.iconst 0, 1) := by decide +kernel
theorem dX4_slopOfAll_1 : decode cX4_slopOfAll 1 = .ok (.istore_n 1, 1) := by decide +kernel
theorem dX4_slopOfAll_2 : decode cX4_slopOfAll 2 = .ok (.iconst 0, 1) := by decide +kernel
theorem dX4_slopOfAll_3 : decode cX4_slopOfAll 3 = .ok (.istore_n 2, 1) := by decide +kernel
theorem dX4_slopOfAll_4 : decode cX4_slopOfAll 4 = .ok (.iload_n 2, 1) := by decide +kernel
theorem dX4_slopOfAll_5 : decode cX4_slopOfAll 5 = .ok (.bipush 6, 2) := by decide +kernel
theorem dX4_slopOfAll_7 : decode cX4_slopOfAll 7 = .ok (.if_icmp .ge 18, 3) := by decide +kernel
theorem dX4_slopOfAll_10 : decode cX4_slopOfAll 10 = .ok (.iload_n 1, 1) := by decide +kernel
theorem dX4_slopOfAll_11 : decode cX4_slopOfAll 11 = .ok (.aload_n 0, 1) := by decide +kernel
theorem dX4_slopOfAll_12 : decode cX4_slopOfAll 12 = .ok (.getfield 21, 3) := by decide +kernel
theorem dX4_slopOfAll_15 : decode cX4_slopOfAll 15 = .ok (.iload_n 2, 1) := by decide +kernel
theorem dX4_slopOfAll_16 : decode cX4_slopOfAll 16 = .ok (.iaload, 1) := by decide +kernel
theorem dX4_slopOfAll_17 : decode cX4_slopOfAll 17 = .ok (.iadd, 1) := by decide +kernel
theorem dX4_slopOfAll_18 : decode cX4_slopOfAll 18 = .ok (.istore_n 1, 1) := by decide +kernel
theorem dX4_slopOfAll_19 : decode cX4_slopOfAll 19 = .ok (.iinc 2 1, 3) := by decide +kernel
theorem dX4_slopOfAll_22 : decode cX4_slopOfAll 22 = .ok (.goto (-18), 3) := by decide +kernel
theorem dX4_slopOfAll_25 : decode cX4_slopOfAll 25 = .ok (.iload_n 1, 1) := by decide +kernel
theorem dX4_slopOfAll_26 : decode cX4_slopOfAll 26 = .ok (.ireturn, 1) := by decide +kernel
theorem dX5_init_0 : decode cX5_init 0 = .ok (.aload_n 0, 1) := by decide +kernel
theorem dX5_init_1 : decode cX5_init 1 = .ok (.invokespecial 3, 3) := by decide +kernel
theorem dX5_init_4 : decode cX5_init 4 = .ok (.aload_n 0, 1) := by decide +kernel
theorem dX5_init_5 : decode cX5_init 5 = .ok (.bipush 64, 2) := by decide +kernel
theorem dX5_init_7 : decode cX5_init 7 = .ok (.newarray .boolean, 2) := by decide +kernel
theorem dX5_init_9 : decode cX5_init 9 = .ok (.putfield 9, 3) := by decide +kernel
theorem dX5_init_12 : decode cX5_init 12 = .ok (.aload_n 0, 1) := by decide +kernel
theorem dX5_init_13 : decode cX5_init 13 = .ok (.bipush 64, 2) := by decide +kernel
theorem dX5_init_15 : decode cX5_init 15 = .ok (.newarray .int, 2) := by decide +kernel
theorem dX5_init_17 : decode cX5_init 17 = .ok (.putfield 15, 3) := by decide +kernel
theorem dX5_init_20 : decode cX5_init 20 = .ok (.aload_n 0, 1) := by decide +kernel
theorem dX5_init_21 : decode cX5_init 21 = .ok (.bipush 8, 2) := by decide +kernel
theorem dX5_init_23 : decode cX5_init 23 = .ok (.newarray .int, 2) := by decide +kernel
theorem dX5_init_25 : decode cX5_init 25 = .ok (.putfield 19, 3) := by decide +kernel
theorem dX5_init_28 : decode cX5_init 28 = .ok (.aload_n 0, 1) := by decide +kernel
theorem dX5_init_29 : decode cX5_init 29 = .ok (.bipush 24, 2) := by decide +kernel
theorem dX5_init_31 : decode cX5_init 31 = .ok (.newarray .int, 2) := by decide +kernel
theorem dX5_init_33 : decode cX5_init 33 = .ok (.putfield 22, 3) := by decide +kernel
theorem dX5_init_36 : decode cX5_init 36 = .ok (.iconst 0, 1) := by decide +kernel
theorem dX5_init_37 : decode cX5_init 37 = .ok (.istore_n 1, 1) := by decide +kernel
theorem dX5_init_38 : decode cX5_init 38 = .ok (.iload_n 1, 1) := by decide +kernel
theorem dX5_init_39 : decode cX5_init 39 = .ok (.aload_n 0, 1) := by decide +kernel
theorem dX5_init_40 : decode cX5_init 40 = .ok (.getfield 9, 3) := by decide +kernel
theorem dX5_init_43 : decode cX5_init 43 = .ok (.arraylength, 1) := by decide +kernel
theorem dX5_init_44 : decode cX5_init 44 = .ok (.if_icmp .ge 16, 3) := by decide +kernel
theorem dX5_init_47 : decode cX5_init 47 = .ok (.aload_n 0, 1) := by decide +kernel
theorem dX5_init_48 : decode cX5_init 48 = .ok (.getfield 9, 3) := by decide +kernel
theorem dX5_init_51 : decode cX5_init 51 = .ok (.iload_n 1, 1) := by decide +kernel
theorem dX5_init_52 : decode cX5_init 52 = .ok (.iconst 1, 1) := by decide +kernel
theorem dX5_init_53 : decode cX5_init 53 = .ok (.bastore, 1) := by decide +kernel
theorem dX5_init_54 : decode cX5_init 54 = .ok (.iinc 1 1, 3) := by decide +kernel
theorem dX5_init_57 : decode cX5_init 57 = .ok (.goto (-19), 3) := by decide +kernel
theorem dX5_init_60 : decode cX5_init 60 = .ok (.aload_n 0, 1) := by decide +kernel
theorem dX5_init_61 : decode cX5_init 61 = .ok (.getfield 22, 3) := by decide +kernel
theorem dX5_init_64 : decode cX5_init 64 = .ok (.iconst 1, 1) := by decide +kernel
theorem dX5_init_65 : decode cX5_init 65 = .ok (.invokestatic 25, 3) := by decide +kernel
theorem dX5_init_68 : decode cX5_init 68 = .ok (.return_, 1) := by decide +kernel
theorem dX5_tellPair_0 : decode cX5_tellPair 0 = .ok (.aload_n 0, 1) := by decide +kernel
theorem dX5_tellPair_1 : decode cX5_tellPair 1 = .ok (.getfield 9, 3) := by decide +kernel
theorem dX5_tellPair_4 : decode cX5_tellPair 4 = .ok (.iload_n 1, 1) := by decide +kernel
theorem dX5_tellPair_5 : decode cX5_tellPair 5 = .ok (.bipush 8, 2) := by decide +kernel
theorem dX5_tellPair_7 : decode cX5_tellPair 7 = .ok (.imul, 1) := by decide +kernel
theorem dX5_tellPair_8 : decode cX5_tellPair 8 = .ok (.iload_n 2, 1) := by decide +kernel
theorem dX5_tellPair_9 : decode cX5_tellPair 9 = .ok (.iadd, 1) := by decide +kernel
theorem dX5_tellPair_10 : decode cX5_tellPair 10 = .ok (.iload_n 3, 1) := by decide +kernel
theorem dX5_tellPair_11 : decode cX5_tellPair 11 = .ok (.bastore, 1) := by decide +kernel
theorem dX5_tellPair_12 : decode cX5_tellPair 12 = .ok (.aload_n 0, 1) := by decide +kernel
theorem dX5_tellPair_13 : decode cX5_tellPair 13 = .ok (.getfield 15, 3) := by decide +kernel
theorem dX5_tellPair_16 : decode cX5_tellPair 16 = .ok (.iload_n 1, 1) := by decide +kernel
theorem dX5_tellPair_17 : decode cX5_tellPair 17 = .ok (.bipush 8, 2) := by decide +kernel
theorem dX5_tellPair_19 : decode cX5_tellPair 19 = .ok (.imul, 1) := by decide +kernel
theorem dX5_tellPair_20 : decode cX5_tellPair 20 = .ok (.iload_n 2, 1) := by decide +kernel
theorem dX5_tellPair_21 : decode cX5_tellPair 21 = .ok (.iadd, 1) := by decide +kernel
theorem dX5_tellPair_22 : decode cX5_tellPair 22 = .ok (.iload 4, 2) := by decide +kernel
theorem dX5_tellPair_24 : decode cX5_tellPair 24 = .ok (.iastore, 1) := by decide +kernel
theorem dX5_tellPair_25 : decode cX5_tellPair 25 = .ok (.return_, 1) := by decide +kernel
theorem dX5_mayFollow_0 : decode cX5_mayFollow 0 = .ok (.aload_n 0, 1) := by decide +kernel
theorem dX5_mayFollow_1 : decode cX5_mayFollow 1 = .ok (.getfield 9, 3) := by decide +kernel
theorem dX5_mayFollow_4 : decode cX5_mayFollow 4 = .ok (.iload_n 1, 1) := by decide +kernel
theorem dX5_mayFollow_5 : decode cX5_mayFollow 5 = .ok (.bipush 8, 2) := by decide +kernel
theorem dX5_mayFollow_7 : decode cX5_mayFollow 7 = .ok (.imul, 1) := by decide +kernel
theorem dX5_mayFollow_8 : decode cX5_mayFollow 8 = .ok (.iload_n 2, 1) := by decide +kernel
theorem dX5_mayFollow_9 : decode cX5_mayFollow 9 = .ok (.iadd, 1) := by decide +kernel
theorem dX5_mayFollow_10 : decode cX5_mayFollow 10 = .ok (.baload, 1) := by decide +kernel
theorem dX5_mayFollow_11 : decode cX5_mayFollow 11 = .ok (.ireturn, 1) := by decide +kernel
theorem dX5_mixOf_0 : decode cX5_mixOf 0 = .ok (.aload_n 0, 1) := by decide +kernel
theorem dX5_mixOf_1 : decode cX5_mixOf 1 = .ok (.getfield 15, 3) := by decide +kernel
theorem dX5_mixOf_4 : decode cX5_mixOf 4 = .ok (.iload_n 1, 1) := by decide +kernel
theorem dX5_mixOf_5 : decode cX5_mixOf 5 = .ok (.bipush 8, 2) := by decide +kernel
theorem dX5_mixOf_7 : decode cX5_mixOf 7 = .ok (.imul, 1) := by decide +kernel
theorem dX5_mixOf_8 : decode cX5_mixOf 8 = .ok (.iload_n 2, 1) := by decide +kernel
theorem dX5_mixOf_9 : decode cX5_mixOf 9 = .ok (.iadd, 1) := by decide +kernel
theorem dX5_mixOf_10 : decode cX5_mixOf 10 = .ok (.iaload, 1) := by decide +kernel
theorem dX5_mixOf_11 : decode cX5_mixOf 11 = .ok (.ireturn, 1) := by decide +kernel
theorem dX5_priceAt_0 : decode cX5_priceAt 0 = .ok (.aload_n 0, 1) := by decide +kernel
theorem dX5_priceAt_1 : decode cX5_priceAt 1 = .ok (.getfield 22, 3) := by decide +kernel
theorem dX5_priceAt_4 : decode cX5_priceAt 4 = .ok (.iload_n 1, 1) := by decide +kernel
theorem dX5_priceAt_5 : decode cX5_priceAt 5 = .ok (.bipush 24, 2) := by decide +kernel
theorem dX5_priceAt_7 : decode cX5_priceAt 7 = .ok (.invokestatic 31, 3) := by decide +kernel
theorem dX5_priceAt_10 : decode cX5_priceAt 10 = .ok (.iaload, 1) := by decide +kernel
theorem dX5_priceAt_11 : decode cX5_priceAt 11 = .ok (.ireturn, 1) := by decide +kernel
theorem dX6_init_0 : decode cX6_init 0 = .ok (.aload_n 0, 1) := by decide +kernel
theorem dX6_init_1 : decode cX6_init 1 = .ok (.invokespecial 3, 3) := by decide +kernel
theorem dX6_init_4 : decode cX6_init 4 = .ok (.aload_n 0, 1) := by decide +kernel
theorem dX6_init_5 : decode cX6_init 5 = .ok (.iconst 0, 1) := by decide +kernel
theorem dX6_init_6 : decode cX6_init 6 = .ok (.putfield 9, 3) := by decide +kernel
theorem dX6_init_9 : decode cX6_init 9 = .ok (.aload_n 0, 1) := by decide +kernel
theorem dX6_init_10 : decode cX6_init 10 = .ok (.bipush 20, 2) := by decide +kernel
theorem dX6_init_12 : decode cX6_init 12 = .ok (.newarray .int, 2) := by decide +kernel
theorem dX6_init_14 : decode cX6_init 14 = .ok (.putfield 15, 3) := by decide +kernel
theorem dX6_init_17 : decode cX6_init 17 = .ok (.aload_n 0, 1) := by decide +kernel
theorem dX6_init_18 : decode cX6_init 18 = .ok (.bipush 20, 2) := by decide +kernel
theorem dX6_init_20 : decode cX6_init 20 = .ok (.newarray .int, 2) := by decide +kernel
theorem dX6_init_22 : decode cX6_init 22 = .ok (.putfield 19, 3) := by decide +kernel
theorem dX6_init_25 : decode cX6_init 25 = .ok (.aload_n 0, 1) := by decide +kernel
theorem dX6_init_26 : decode cX6_init 26 = .ok (.bipush 20, 2) := by decide +kernel
theorem dX6_init_28 : decode cX6_init 28 = .ok (.newarray .int, 2) := by decide +kernel
theorem dX6_init_30 : decode cX6_init 30 = .ok (.putfield 22, 3) := by decide +kernel
theorem dX6_init_33 : decode cX6_init 33 = .ok (.aload_n 0, 1) := by decide +kernel
theorem dX6_init_34 : decode cX6_init 34 = .ok (.bipush 20, 2) := by decide +kernel
theorem dX6_init_36 : decode cX6_init 36 = .ok (.newarray .int, 2) := by decide +kernel
theorem dX6_init_38 : decode cX6_init 38 = .ok (.putfield 25, 3) := by decide +kernel
theorem dX6_init_41 : decode cX6_init 41 = .ok (.return_, 1) := by decide +kernel
theorem dX6_tell_0 : decode cX6_tell 0 = .ok (.aload_n 0, 1) := by decide +kernel
theorem dX6_tell_1 : decode cX6_tell 1 = .ok (.getfield 9, 3) := by decide +kernel
theorem dX6_tell_4 : decode cX6_tell 4 = .ok (.istore 5, 2) := by decide +kernel
theorem dX6_tell_6 : decode cX6_tell 6 = .ok (.aload_n 0, 1) := by decide +kernel
theorem dX6_tell_7 : decode cX6_tell 7 = .ok (.getfield 15, 3) := by decide +kernel
theorem dX6_tell_10 : decode cX6_tell 10 = .ok (.iload 5, 2) := by decide +kernel
theorem dX6_tell_12 : decode cX6_tell 12 = .ok (.iload_n 1, 1) := by decide +kernel
theorem dX6_tell_13 : decode cX6_tell 13 = .ok (.iastore, 1) := by decide +kernel
theorem dX6_tell_14 : decode cX6_tell 14 = .ok (.aload_n 0, 1) := by decide +kernel
theorem dX6_tell_15 : decode cX6_tell 15 = .ok (.getfield 19, 3) := by decide +kernel
theorem dX6_tell_18 : decode cX6_tell 18 = .ok (.iload 5, 2) := by decide +kernel
theorem dX6_tell_20 : decode cX6_tell 20 = .ok (.iload_n 2, 1) := by decide +kernel
theorem dX6_tell_21 : decode cX6_tell 21 = .ok (.iastore, 1) := by decide +kernel
theorem dX6_tell_22 : decode cX6_tell 22 = .ok (.aload_n 0, 1) := by decide +kernel
theorem dX6_tell_23 : decode cX6_tell 23 = .ok (.getfield 22, 3) := by decide +kernel
theorem dX6_tell_26 : decode cX6_tell 26 = .ok (.iload 5, 2) := by decide +kernel
theorem dX6_tell_28 : decode cX6_tell 28 = .ok (.iload_n 3, 1) := by decide +kernel
theorem dX6_tell_29 : decode cX6_tell 29 = .ok (.iastore, 1) := by decide +kernel
theorem dX6_tell_30 : decode cX6_tell 30 = .ok (.aload_n 0, 1) := by decide +kernel
theorem dX6_tell_31 : decode cX6_tell 31 = .ok (.getfield 25, 3) := by decide +kernel
theorem dX6_tell_34 : decode cX6_tell 34 = .ok (.iload 5, 2) := by decide +kernel
theorem dX6_tell_36 : decode cX6_tell 36 = .ok (.iload 4, 2) := by decide +kernel
theorem dX6_tell_38 : decode cX6_tell 38 = .ok (.iastore, 1) := by decide +kernel
theorem dX6_tell_39 : decode cX6_tell 39 = .ok (.aload_n 0, 1) := by decide +kernel
theorem dX6_tell_40 : decode cX6_tell 40 = .ok (.iload 5, 2) := by decide +kernel
theorem dX6_tell_42 : decode cX6_tell 42 = .ok (.iconst 1, 1) := by decide +kernel
theorem dX6_tell_43 : decode cX6_tell 43 = .ok (.iadd, 1) := by decide +kernel
theorem dX6_tell_44 : decode cX6_tell 44 = .ok (.putfield 9, 3) := by decide +kernel
theorem dX6_tell_47 : decode cX6_tell 47 = .ok (.iload 5, 2) := by decide +kernel
theorem dX6_tell_49 : decode cX6_tell 49 = .ok (.ireturn, 1) := by decide +kernel
theorem dX6_wanting_0 : decode cX6_wanting 0 = .ok (.aload_n 2, 1) := by decide +kernel
theorem dX6_wanting_1 : decode cX6_wanting 1 = .ok (.getfield 28, 3) := by decide +kernel
theorem dX6_wanting_4 : decode cX6_wanting 4 = .ok (.aload_n 0, 1) := by decide +kernel
theorem dX6_wanting_5 : decode cX6_wanting 5 = .ok (.getfield 15, 3) := by decide +kernel
theorem dX6_wanting_8 : decode cX6_wanting 8 = .ok (.iload_n 1, 1) := by decide +kernel
theorem dX6_wanting_9 : decode cX6_wanting 9 = .ok (.iaload, 1) := by decide +kernel
theorem dX6_wanting_10 : decode cX6_wanting 10 = .ok (.iaload, 1) := by decide +kernel
theorem dX6_wanting_11 : decode cX6_wanting 11 = .ok (.aload_n 0, 1) := by decide +kernel
theorem dX6_wanting_12 : decode cX6_wanting 12 = .ok (.getfield 25, 3) := by decide +kernel
theorem dX6_wanting_15 : decode cX6_wanting 15 = .ok (.iload_n 1, 1) := by decide +kernel
theorem dX6_wanting_16 : decode cX6_wanting 16 = .ok (.iaload, 1) := by decide +kernel
theorem dX6_wanting_17 : decode cX6_wanting 17 = .ok (.isub, 1) := by decide +kernel
theorem dX6_wanting_18 : decode cX6_wanting 18 = .ok (.istore_n 3, 1) := by decide +kernel
theorem dX6_wanting_19 : decode cX6_wanting 19 = .ok (.iconst 0, 1) := by decide +kernel
theorem dX6_wanting_20 : decode cX6_wanting 20 = .ok (.aload_n 0, 1) := by decide +kernel
theorem dX6_wanting_21 : decode cX6_wanting 21 = .ok (.getfield 19, 3) := by decide +kernel
theorem dX6_wanting_24 : decode cX6_wanting 24 = .ok (.iload_n 1, 1) := by decide +kernel
theorem dX6_wanting_25 : decode cX6_wanting 25 = .ok (.iaload, 1) := by decide +kernel
theorem dX6_wanting_26 : decode cX6_wanting 26 = .ok (.iload_n 3, 1) := by decide +kernel
theorem dX6_wanting_27 : decode cX6_wanting 27 = .ok (.isub, 1) := by decide +kernel
theorem dX6_wanting_28 : decode cX6_wanting 28 = .ok (.invokestatic 33, 3) := by decide +kernel
theorem dX6_wanting_31 : decode cX6_wanting 31 = .ok (.ireturn, 1) := by decide +kernel
theorem dX6_keep_0 : decode cX6_keep 0 = .ok (.iconst 0, 1) := by decide +kernel
theorem dX6_keep_1 : decode cX6_keep 1 = .ok (.istore_n 2, 1) := by decide +kernel
theorem dX6_keep_2 : decode cX6_keep 2 = .ok (.iload_n 2, 1) := by decide +kernel
theorem dX6_keep_3 : decode cX6_keep 3 = .ok (.aload_n 0, 1) := by decide +kernel
theorem dX6_keep_4 : decode cX6_keep 4 = .ok (.getfield 9, 3) := by decide +kernel
theorem dX6_keep_7 : decode cX6_keep 7 = .ok (.if_icmp .ge 41, 3) := by decide +kernel
theorem dX6_keep_10 : decode cX6_keep 10 = .ok (.aload_n 1, 1) := by decide +kernel
theorem dX6_keep_11 : decode cX6_keep 11 = .ok (.getfield 39, 3) := by decide +kernel
theorem dX6_keep_14 : decode cX6_keep 14 = .ok (.iload_n 2, 1) := by decide +kernel
theorem dX6_keep_15 : decode cX6_keep 15 = .ok (.iaload, 1) := by decide +kernel
theorem dX6_keep_16 : decode cX6_keep 16 = .ok (.iconst (-1), 1) := by decide +kernel
theorem dX6_keep_17 : decode cX6_keep 17 = .ok (.if_icmp .ne 25, 3) := by decide +kernel
theorem dX6_keep_20 : decode cX6_keep 20 = .ok (.aload_n 0, 1) := by decide +kernel
theorem dX6_keep_21 : decode cX6_keep 21 = .ok (.iload_n 2, 1) := by decide +kernel
theorem dX6_keep_22 : decode cX6_keep 22 = .ok (.aload_n 1, 1) := by decide +kernel
theorem dX6_keep_23 : decode cX6_keep 23 = .ok (.getfield 44, 3) := by decide +kernel
theorem dX6_keep_26 : decode cX6_keep 26 = .ok (.invokevirtual 48, 3) := by decide +kernel
theorem dX6_keep_29 : decode cX6_keep 29 = .ok (.ifCond .ne 13, 3) := by decide +kernel
theorem dX6_keep_32 : decode cX6_keep 32 = .ok (.aload_n 1, 1) := by decide +kernel
theorem dX6_keep_33 : decode cX6_keep 33 = .ok (.getfield 39, 3) := by decide +kernel
theorem dX6_keep_36 : decode cX6_keep 36 = .ok (.iload_n 2, 1) := by decide +kernel
theorem dX6_keep_37 : decode cX6_keep 37 = .ok (.aload_n 1, 1) := by decide +kernel
theorem dX6_keep_38 : decode cX6_keep 38 = .ok (.getfield 52, 3) := by decide +kernel
theorem dX6_keep_41 : decode cX6_keep 41 = .ok (.iastore, 1) := by decide +kernel
theorem dX6_keep_42 : decode cX6_keep 42 = .ok (.iinc 2 1, 3) := by decide +kernel
theorem dX6_keep_45 : decode cX6_keep 45 = .ok (.goto (-43), 3) := by decide +kernel
theorem dX6_keep_48 : decode cX6_keep 48 = .ok (.return_, 1) := by decide +kernel
theorem dX6_lateBy_0 : decode cX6_lateBy 0 = .ok (.aload_n 2, 1) := by decide +kernel
theorem dX6_lateBy_1 : decode cX6_lateBy 1 = .ok (.getfield 39, 3) := by decide +kernel
theorem dX6_lateBy_4 : decode cX6_lateBy 4 = .ok (.iload_n 1, 1) := by decide +kernel
theorem dX6_lateBy_5 : decode cX6_lateBy 5 = .ok (.iaload, 1) := by decide +kernel
theorem dX6_lateBy_6 : decode cX6_lateBy 6 = .ok (.iconst (-1), 1) := by decide +kernel
theorem dX6_lateBy_7 : decode cX6_lateBy 7 = .ok (.if_icmp .ne 10, 3) := by decide +kernel
theorem dX6_lateBy_10 : decode cX6_lateBy 10 = .ok (.aload_n 2, 1) := by decide +kernel
theorem dX6_lateBy_11 : decode cX6_lateBy 11 = .ok (.getfield 52, 3) := by decide +kernel
theorem dX6_lateBy_14 : decode cX6_lateBy 14 = .ok (.goto 9, 3) := by decide +kernel
theorem dX6_lateBy_17 : decode cX6_lateBy 17 = .ok (.aload_n 2, 1) := by decide +kernel
theorem dX6_lateBy_18 : decode cX6_lateBy 18 = .ok (.getfield 39, 3) := by decide +kernel
theorem dX6_lateBy_21 : decode cX6_lateBy 21 = .ok (.iload_n 1, 1) := by decide +kernel
theorem dX6_lateBy_22 : decode cX6_lateBy 22 = .ok (.iaload, 1) := by decide +kernel
theorem dX6_lateBy_23 : decode cX6_lateBy 23 = .ok (.istore_n 3, 1) := by decide +kernel
theorem dX6_lateBy_24 : decode cX6_lateBy 24 = .ok (.iconst 0, 1) := by decide +kernel
theorem dX6_lateBy_25 : decode cX6_lateBy 25 = .ok (.iload_n 3, 1) := by decide +kernel
theorem dX6_lateBy_26 : decode cX6_lateBy 26 = .ok (.aload_n 0, 1) := by decide +kernel
theorem dX6_lateBy_27 : decode cX6_lateBy 27 = .ok (.getfield 22, 3) := by decide +kernel
theorem dX6_lateBy_30 : decode cX6_lateBy 30 = .ok (.iload_n 1, 1) := by decide +kernel
theorem dX6_lateBy_31 : decode cX6_lateBy 31 = .ok (.iaload, 1) := by decide +kernel
theorem dX6_lateBy_32 : decode cX6_lateBy 32 = .ok (.isub, 1) := by decide +kernel
theorem dX6_lateBy_33 : decode cX6_lateBy 33 = .ok (.invokestatic 33, 3) := by decide +kernel
theorem dX6_lateBy_36 : decode cX6_lateBy 36 = .ok (.ireturn, 1) := by decide +kernel
theorem dX6_lateByAll_0 : decode cX6_lateByAll 0 = .ok (.iconst 0, 1) := by decide +kernel
theorem dX6_lateByAll_1 : decode cX6_lateByAll 1 = .ok (.istore_n 2, 1) := by decide +kernel
theorem dX6_lateByAll_2 : decode cX6_lateByAll 2 = .ok (.iconst 0, 1) := by decide +kernel
theorem dX6_lateByAll_3 : decode cX6_lateByAll 3 = .ok (.istore_n 3, 1) := by decide +kernel
theorem dX6_lateByAll_4 : decode cX6_lateByAll 4 = .ok (.iload_n 3, 1) := by decide +kernel
theorem dX6_lateByAll_5 : decode cX6_lateByAll 5 = .ok (.aload_n 0, 1) := by decide +kernel
theorem dX6_lateByAll_6 : decode cX6_lateByAll 6 = .ok (.getfield 9, 3) := by decide +kernel
theorem dX6_lateByAll_9 : decode cX6_lateByAll 9 = .ok (.if_icmp .ge 18, 3) := by decide +kernel
theorem dX6_lateByAll_12 : decode cX6_lateByAll 12 = .ok (.iload_n 2, 1) := by decide +kernel
theorem dX6_lateByAll_13 : decode cX6_lateByAll 13 = .ok (.aload_n 0, 1) := by decide +kernel
theorem dX6_lateByAll_14 : decode cX6_lateByAll 14 = .ok (.iload_n 3, 1) := by decide +kernel
theorem dX6_lateByAll_15 : decode cX6_lateByAll 15 = .ok (.aload_n 1, 1) := by decide +kernel
theorem dX6_lateByAll_16 : decode cX6_lateByAll 16 = .ok (.invokevirtual 55, 3) := by decide +kernel
theorem dX6_lateByAll_19 : decode cX6_lateByAll 19 = .ok (.iadd, 1) := by decide +kernel
theorem dX6_lateByAll_20 : decode cX6_lateByAll 20 = .ok (.istore_n 2, 1) := by decide +kernel
theorem dX6_lateByAll_21 : decode cX6_lateByAll 21 = .ok (.iinc 3 1, 3) := by decide +kernel
theorem dX6_lateByAll_24 : decode cX6_lateByAll 24 = .ok (.goto (-20), 3) := by decide +kernel
theorem dX6_lateByAll_27 : decode cX6_lateByAll 27 = .ok (.iload_n 2, 1) := by decide +kernel
theorem dX6_lateByAll_28 : decode cX6_lateByAll 28 = .ok (.ireturn, 1) := by decide +kernel
theorem dX7_init_0 : decode cX7_init 0 = .ok (.aload_n 0, 1) := by decide +kernel
theorem dX7_init_1 : decode cX7_init 1 = .ok (.invokespecial 3, 3) := by decide +kernel
theorem dX7_init_4 : decode cX7_init 4 = .ok (.aload_n 0, 1) := by decide +kernel
theorem dX7_init_5 : decode cX7_init 5 = .ok (.new 9, 3) := by decide +kernel
theorem dX7_init_8 : decode cX7_init 8 = .ok (.dup, 1) := by decide +kernel
theorem dX7_init_9 : decode cX7_init 9 = .ok (.invokespecial 11, 3) := by decide +kernel
theorem dX7_init_12 : decode cX7_init 12 = .ok (.putfield 12, 3) := by decide +kernel
theorem dX7_init_15 : decode cX7_init 15 = .ok (.aload_n 0, 1) := by decide +kernel
theorem dX7_init_16 : decode cX7_init 16 = .ok (.new 16, 3) := by decide +kernel
theorem dX7_init_19 : decode cX7_init 19 = .ok (.dup, 1) := by decide +kernel
theorem dX7_init_20 : decode cX7_init 20 = .ok (.invokespecial 18, 3) := by decide +kernel
theorem dX7_init_23 : decode cX7_init 23 = .ok (.putfield 19, 3) := by decide +kernel
theorem dX7_init_26 : decode cX7_init 26 = .ok (.aload_n 0, 1) := by decide +kernel
theorem dX7_init_27 : decode cX7_init 27 = .ok (.new 23, 3) := by decide +kernel
theorem dX7_init_30 : decode cX7_init 30 = .ok (.dup, 1) := by decide +kernel
theorem dX7_init_31 : decode cX7_init 31 = .ok (.invokespecial 25, 3) := by decide +kernel
theorem dX7_init_34 : decode cX7_init 34 = .ok (.putfield 26, 3) := by decide +kernel
theorem dX7_init_37 : decode cX7_init 37 = .ok (.aload_n 0, 1) := by decide +kernel
theorem dX7_init_38 : decode cX7_init 38 = .ok (.new 30, 3) := by decide +kernel
theorem dX7_init_41 : decode cX7_init 41 = .ok (.dup, 1) := by decide +kernel
theorem dX7_init_42 : decode cX7_init 42 = .ok (.invokespecial 32, 3) := by decide +kernel
theorem dX7_init_45 : decode cX7_init 45 = .ok (.putfield 33, 3) := by decide +kernel
theorem dX7_init_48 : decode cX7_init 48 = .ok (.aload_n 0, 1) := by decide +kernel
theorem dX7_init_49 : decode cX7_init 49 = .ok (.sipush 200, 3) := by decide +kernel
theorem dX7_init_52 : decode cX7_init 52 = .ok (.newarray .int, 2) := by decide +kernel
theorem dX7_init_54 : decode cX7_init 54 = .ok (.putfield 37, 3) := by decide +kernel
theorem dX7_init_57 : decode cX7_init 57 = .ok (.aload_n 0, 1) := by decide +kernel
theorem dX7_init_58 : decode cX7_init 58 = .ok (.sipush 200, 3) := by decide +kernel
theorem dX7_init_61 : decode cX7_init 61 = .ok (.newarray .int, 2) := by decide +kernel
theorem dX7_init_63 : decode cX7_init 63 = .ok (.putfield 41, 3) := by decide +kernel
theorem dX7_init_66 : decode cX7_init 66 = .ok (.aload_n 0, 1) := by decide +kernel
theorem dX7_init_67 : decode cX7_init 67 = .ok (.new 44, 3) := by decide +kernel
theorem dX7_init_70 : decode cX7_init 70 = .ok (.dup, 1) := by decide +kernel
theorem dX7_init_71 : decode cX7_init 71 = .ok (.invokespecial 46, 3) := by decide +kernel
theorem dX7_init_74 : decode cX7_init 74 = .ok (.putfield 47, 3) := by decide +kernel
theorem dX7_init_77 : decode cX7_init 77 = .ok (.aload_n 0, 1) := by decide +kernel
theorem dX7_init_78 : decode cX7_init 78 = .ok (.sipush 200, 3) := by decide +kernel
theorem dX7_init_81 : decode cX7_init 81 = .ok (.anewarray 44, 3) := by decide +kernel
theorem dX7_init_84 : decode cX7_init 84 = .ok (.putfield 51, 3) := by decide +kernel
theorem dX7_init_87 : decode cX7_init 87 = .ok (.aload_n 0, 1) := by decide +kernel
theorem dX7_init_88 : decode cX7_init 88 = .ok (.iconst 0, 1) := by decide +kernel
theorem dX7_init_89 : decode cX7_init 89 = .ok (.putfield 55, 3) := by decide +kernel
theorem dX7_init_92 : decode cX7_init 92 = .ok (.aload_n 0, 1) := by decide +kernel
theorem dX7_init_93 : decode cX7_init 93 = .ok (.getfield 41, 3) := by decide +kernel
theorem dX7_init_96 : decode cX7_init 96 = .ok (.iconst 0, 1) := by decide +kernel
theorem dX7_init_97 : decode cX7_init 97 = .ok (.iconst (-1), 1) := by decide +kernel
theorem dX7_init_98 : decode cX7_init 98 = .ok (.iastore, 1) := by decide +kernel
theorem dX7_init_99 : decode cX7_init 99 = .ok (.aload_n 0, 1) := by decide +kernel
theorem dX7_init_100 : decode cX7_init 100 = .ok (.getfield 47, 3) := by decide +kernel
theorem dX7_init_103 : decode cX7_init 103 = .ok (.bipush 20, 2) := by decide +kernel
theorem dX7_init_105 : decode cX7_init 105 = .ok (.invokevirtual 59, 3) := by decide +kernel
theorem dX7_init_108 : decode cX7_init 108 = .ok (.return_, 1) := by decide +kernel
theorem dX7_line_0 : decode cX7_line 0 = .ok (.iload_n 1, 1) := by decide +kernel
theorem dX7_line_1 : decode cX7_line 1 = .ok (.iconst 4, 1) := by decide +kernel
theorem dX7_line_2 : decode cX7_line 2 = .ok (.bipush 120, 2) := by decide +kernel
theorem dX7_line_4 : decode cX7_line 4 = .ok (.invokestatic 63, 3) := by decide +kernel
theorem dX7_line_7 : decode cX7_line 7 = .ok (.ifCond .ne 6, 3) := by decide +kernel
theorem dX7_line_10 : decode cX7_line 10 = .ok (.bipush (-2), 2) := by decide +kernel
theorem dX7_line_12 : decode cX7_line 12 = .ok (.ireturn, 1) := by decide +kernel
theorem dX7_line_13 : decode cX7_line 13 = .ok (.aload_n 0, 1) := by decide +kernel
theorem dX7_line_14 : decode cX7_line 14 = .ok (.getfield 19, 3) := by decide +kernel
theorem dX7_line_17 : decode cX7_line 17 = .ok (.invokevirtual 67, 3) := by decide +kernel
theorem dX7_line_20 : decode cX7_line 20 = .ok (.aload_n 0, 1) := by decide +kernel
theorem dX7_line_21 : decode cX7_line 21 = .ok (.getfield 26, 3) := by decide +kernel
theorem dX7_line_24 : decode cX7_line 24 = .ok (.iconst 0, 1) := by decide +kernel
theorem dX7_line_25 : decode cX7_line 25 = .ok (.putfield 70, 3) := by decide +kernel
theorem dX7_line_28 : decode cX7_line 28 = .ok (.aload_n 0, 1) := by decide +kernel
theorem dX7_line_29 : decode cX7_line 29 = .ok (.getfield 47, 3) := by decide +kernel
theorem dX7_line_32 : decode cX7_line 32 = .ok (.iload_n 1, 1) := by decide +kernel
theorem dX7_line_33 : decode cX7_line 33 = .ok (.invokevirtual 59, 3) := by decide +kernel
theorem dX7_line_36 : decode cX7_line 36 = .ok (.aload_n 0, 1) := by decide +kernel
theorem dX7_line_37 : decode cX7_line 37 = .ok (.iconst 0, 1) := by decide +kernel
theorem dX7_line_38 : decode cX7_line 38 = .ok (.putfield 55, 3) := by decide +kernel
theorem dX7_line_41 : decode cX7_line 41 = .ok (.iconst 0, 1) := by decide +kernel
theorem dX7_line_42 : decode cX7_line 42 = .ok (.ireturn, 1) := by decide +kernel
theorem dX7_door_0 : decode cX7_door 0 = .ok (.iload_n 1, 1) := by decide +kernel
theorem dX7_door_1 : decode cX7_door 1 = .ok (.iconst 0, 1) := by decide +kernel
theorem dX7_door_2 : decode cX7_door 2 = .ok (.aload_n 0, 1) := by decide +kernel
theorem dX7_door_3 : decode cX7_door 3 = .ok (.getfield 47, 3) := by decide +kernel
theorem dX7_door_6 : decode cX7_door 6 = .ok (.getfield 73, 3) := by decide +kernel
theorem dX7_door_9 : decode cX7_door 9 = .ok (.getfield 77, 3) := by decide +kernel
theorem dX7_door_12 : decode cX7_door 12 = .ok (.invokestatic 63, 3) := by decide +kernel
theorem dX7_door_15 : decode cX7_door 15 = .ok (.ifCond .ne 6, 3) := by decide +kernel
theorem dX7_door_18 : decode cX7_door 18 = .ok (.bipush (-2), 2) := by decide +kernel
theorem dX7_door_20 : decode cX7_door 20 = .ok (.ireturn, 1) := by decide +kernel
theorem dX7_door_21 : decode cX7_door 21 = .ok (.aload_n 0, 1) := by decide +kernel
theorem dX7_door_22 : decode cX7_door 22 = .ok (.getfield 19, 3) := by decide +kernel
theorem dX7_door_25 : decode cX7_door 25 = .ok (.iload_n 1, 1) := by decide +kernel
theorem dX7_door_26 : decode cX7_door 26 = .ok (.invokevirtual 80, 3) := by decide +kernel
theorem dX7_door_29 : decode cX7_door 29 = .ok (.ifCond .eq 6, 3) := by decide +kernel
theorem dX7_door_32 : decode cX7_door 32 = .ok (.bipush (-3), 2) := by decide +kernel
theorem dX7_door_34 : decode cX7_door 34 = .ok (.ireturn, 1) := by decide +kernel
theorem dX7_door_35 : decode cX7_door 35 = .ok (.aload_n 0, 1) := by decide +kernel
theorem dX7_door_36 : decode cX7_door 36 = .ok (.getfield 19, 3) := by decide +kernel
theorem dX7_door_39 : decode cX7_door 39 = .ok (.getfield 84, 3) := by decide +kernel
theorem dX7_door_42 : decode cX7_door 42 = .ok (.bipush 6, 2) := by decide +kernel
theorem dX7_door_44 : decode cX7_door 44 = .ok (.if_icmp .lt 6, 3) := by decide +kernel
theorem dX7_door_47 : decode cX7_door 47 = .ok (.bipush (-4), 2) := by decide +kernel
theorem dX7_door_49 : decode cX7_door 49 = .ok (.ireturn, 1) := by decide +kernel
theorem dX7_door_50 : decode cX7_door 50 = .ok (.aload_n 0, 1) := by decide +kernel
theorem dX7_door_51 : decode cX7_door 51 = .ok (.iconst 0, 1) := by decide +kernel
theorem dX7_door_52 : decode cX7_door 52 = .ok (.putfield 55, 3) := by decide +kernel
theorem dX7_door_55 : decode cX7_door 55 = .ok (.aload_n 0, 1) := by decide +kernel
theorem dX7_door_56 : decode cX7_door 56 = .ok (.getfield 19, 3) := by decide +kernel
theorem dX7_door_59 : decode cX7_door 59 = .ok (.iload_n 1, 1) := by decide +kernel
theorem dX7_door_60 : decode cX7_door 60 = .ok (.invokevirtual 85, 3) := by decide +kernel
theorem dX7_door_63 : decode cX7_door 63 = .ok (.ireturn, 1) := by decide +kernel
theorem dX7_tank_0 : decode cX7_tank 0 = .ok (.aload_n 0, 1) := by decide +kernel
theorem dX7_tank_1 : decode cX7_tank 1 = .ok (.getfield 19, 3) := by decide +kernel
theorem dX7_tank_4 : decode cX7_tank 4 = .ok (.iload_n 1, 1) := by decide +kernel
theorem dX7_tank_5 : decode cX7_tank 5 = .ok (.invokevirtual 89, 3) := by decide +kernel
theorem dX7_tank_8 : decode cX7_tank 8 = .ok (.ifCond .eq 10, 3) := by decide +kernel
theorem dX7_tank_11 : decode cX7_tank 11 = .ok (.iload_n 2, 1) := by decide +kernel
theorem dX7_tank_12 : decode cX7_tank 12 = .ok (.invokestatic 92, 3) := by decide +kernel
theorem dX7_tank_15 : decode cX7_tank 15 = .ok (.ifCond .ne 5, 3) := by decide +kernel
theorem dX7_tank_18 : decode cX7_tank 18 = .ok (.iconst (-1), 1) := by decide +kernel
theorem dX7_tank_19 : decode cX7_tank 19 = .ok (.ireturn, 1) := by decide +kernel
theorem dX7_tank_20 : decode cX7_tank 20 = .ok (.iload 4, 2) := by decide +kernel
theorem dX7_tank_22 : decode cX7_tank 22 = .ok (.iconst 0, 1) := by decide +kernel
theorem dX7_tank_23 : decode cX7_tank 23 = .ok (.sipush 10000, 3) := by decide +kernel
theorem dX7_tank_26 : decode cX7_tank 26 = .ok (.invokestatic 63, 3) := by decide +kernel
theorem dX7_tank_29 : decode cX7_tank 29 = .ok (.ifCond .eq 24, 3) := by decide +kernel
theorem dX7_tank_32 : decode cX7_tank 32 = .ok (.iload_n 3, 1) := by decide +kernel
theorem dX7_tank_33 : decode cX7_tank 33 = .ok (.iconst 0, 1) := by decide +kernel
theorem dX7_tank_34 : decode cX7_tank 34 = .ok (.iload 4, 2) := by decide +kernel
theorem dX7_tank_36 : decode cX7_tank 36 = .ok (.invokestatic 63, 3) := by decide +kernel
theorem dX7_tank_39 : decode cX7_tank 39 = .ok (.ifCond .eq 14, 3) := by decide +kernel
theorem dX7_tank_42 : decode cX7_tank 42 = .ok (.iload 5, 2) := by decide +kernel
theorem dX7_tank_44 : decode cX7_tank 44 = .ok (.iload_n 3, 1) := by decide +kernel
theorem dX7_tank_45 : decode cX7_tank 45 = .ok (.iload 4, 2) := by decide +kernel
theorem dX7_tank_47 : decode cX7_tank 47 = .ok (.invokestatic 63, 3) := by decide +kernel
theorem dX7_tank_50 : decode cX7_tank 50 = .ok (.ifCond .ne 6, 3) := by decide +kernel
theorem dX7_tank_53 : decode cX7_tank 53 = .ok (.bipush (-2), 2) := by decide +kernel
theorem dX7_tank_55 : decode cX7_tank 55 = .ok (.ireturn, 1) := by decide +kernel
theorem dX7_tank_56 : decode cX7_tank 56 = .ok (.iload_n 1, 1) := by decide +kernel
theorem dX7_tank_57 : decode cX7_tank 57 = .ok (.iload_n 2, 1) := by decide +kernel
theorem dX7_tank_58 : decode cX7_tank 58 = .ok (.invokestatic 95, 3) := by decide +kernel
theorem dX7_tank_61 : decode cX7_tank 61 = .ok (.istore 6, 2) := by decide +kernel
theorem dX7_tank_63 : decode cX7_tank 63 = .ok (.aload_n 0, 1) := by decide +kernel
theorem dX7_tank_64 : decode cX7_tank 64 = .ok (.getfield 19, 3) := by decide +kernel
theorem dX7_tank_67 : decode cX7_tank 67 = .ok (.getfield 99, 3) := by decide +kernel
theorem dX7_tank_70 : decode cX7_tank 70 = .ok (.iload 6, 2) := by decide +kernel
theorem dX7_tank_72 : decode cX7_tank 72 = .ok (.baload, 1) := by decide +kernel
theorem dX7_tank_73 : decode cX7_tank 73 = .ok (.ifCond .eq 6, 3) := by decide +kernel
theorem dX7_tank_76 : decode cX7_tank 76 = .ok (.bipush (-3), 2) := by decide +kernel
theorem dX7_tank_78 : decode cX7_tank 78 = .ok (.ireturn, 1) := by decide +kernel
theorem dX7_tank_79 : decode cX7_tank 79 = .ok (.aload_n 0, 1) := by decide +kernel
theorem dX7_tank_80 : decode cX7_tank 80 = .ok (.getfield 19, 3) := by decide +kernel
theorem dX7_tank_83 : decode cX7_tank 83 = .ok (.iload 6, 2) := by decide +kernel
theorem dX7_tank_85 : decode cX7_tank 85 = .ok (.iload_n 3, 1) := by decide +kernel
theorem dX7_tank_86 : decode cX7_tank 86 = .ok (.iload 4, 2) := by decide +kernel
theorem dX7_tank_88 : decode cX7_tank 88 = .ok (.invokevirtual 103, 3) := by decide +kernel
theorem dX7_tank_91 : decode cX7_tank 91 = .ok (.aload_n 0, 1) := by decide +kernel
theorem dX7_tank_92 : decode cX7_tank 92 = .ok (.getfield 47, 3) := by decide +kernel
theorem dX7_tank_95 : decode cX7_tank 95 = .ok (.getfield 107, 3) := by decide +kernel
theorem dX7_tank_98 : decode cX7_tank 98 = .ok (.iload 6, 2) := by decide +kernel
theorem dX7_tank_100 : decode cX7_tank 100 = .ok (.iload 5, 2) := by decide +kernel
theorem dX7_tank_102 : decode cX7_tank 102 = .ok (.invokevirtual 111, 3) := by decide +kernel
theorem dX7_tank_105 : decode cX7_tank 105 = .ok (.aload_n 0, 1) := by decide +kernel
theorem dX7_tank_106 : decode cX7_tank 106 = .ok (.iconst 0, 1) := by decide +kernel
theorem dX7_tank_107 : decode cX7_tank 107 = .ok (.putfield 55, 3) := by decide +kernel
theorem dX7_tank_110 : decode cX7_tank 110 = .ok (.iconst 0, 1) := by decide +kernel
theorem dX7_tank_111 : decode cX7_tank 111 = .ok (.ireturn, 1) := by decide +kernel
theorem dX7_follow_0 : decode cX7_follow 0 = .ok (.iload_n 1, 1) := by decide +kernel
theorem dX7_follow_1 : decode cX7_follow 1 = .ok (.invokestatic 92, 3) := by decide +kernel
theorem dX7_follow_4 : decode cX7_follow 4 = .ok (.ifCond .eq 10, 3) := by decide +kernel
theorem dX7_follow_7 : decode cX7_follow 7 = .ok (.iload_n 2, 1) := by decide +kernel
theorem dX7_follow_8 : decode cX7_follow 8 = .ok (.invokestatic 92, 3) := by decide +kernel
theorem dX7_follow_11 : decode cX7_follow 11 = .ok (.ifCond .ne 5, 3) := by decide +kernel
theorem dX7_follow_14 : decode cX7_follow 14 = .ok (.iconst (-1), 1) := by decide +kernel
theorem dX7_follow_15 : decode cX7_follow 15 = .ok (.ireturn, 1) := by decide +kernel
theorem dX7_follow_16 : decode cX7_follow 16 = .ok (.iload_n 3, 1) := by decide +kernel
theorem dX7_follow_17 : decode cX7_follow 17 = .ok (.iconst 0, 1) := by decide +kernel
theorem dX7_follow_18 : decode cX7_follow 18 = .ok (.iconst 1, 1) := by decide +kernel
theorem dX7_follow_19 : decode cX7_follow 19 = .ok (.invokestatic 63, 3) := by decide +kernel
theorem dX7_follow_22 : decode cX7_follow 22 = .ok (.ifCond .eq 15, 3) := by decide +kernel
theorem dX7_follow_25 : decode cX7_follow 25 = .ok (.iload 4, 2) := by decide +kernel
theorem dX7_follow_27 : decode cX7_follow 27 = .ok (.iconst 0, 1) := by decide +kernel
theorem dX7_follow_28 : decode cX7_follow 28 = .ok (.sipush 200, 3) := by decide +kernel
theorem dX7_follow_31 : decode cX7_follow 31 = .ok (.invokestatic 63, 3) := by decide +kernel
theorem dX7_follow_34 : decode cX7_follow 34 = .ok (.ifCond .ne 6, 3) := by decide +kernel
theorem dX7_follow_37 : decode cX7_follow 37 = .ok (.bipush (-2), 2) := by decide +kernel
theorem dX7_follow_39 : decode cX7_follow 39 = .ok (.ireturn, 1) := by decide +kernel
theorem dX7_follow_40 : decode cX7_follow 40 = .ok (.iload_n 3, 1) := by decide +kernel
theorem dX7_follow_41 : decode cX7_follow 41 = .ok (.ifCond .ne 11, 3) := by decide +kernel
theorem dX7_follow_44 : decode cX7_follow 44 = .ok (.iload_n 1, 1) := by decide +kernel
theorem dX7_follow_45 : decode cX7_follow 45 = .ok (.iload_n 2, 1) := by decide +kernel
theorem dX7_follow_46 : decode cX7_follow 46 = .ok (.if_icmp .ne 6, 3) := by decide +kernel
theorem dX7_follow_49 : decode cX7_follow 49 = .ok (.bipush (-3), 2) := by decide +kernel
theorem dX7_follow_51 : decode cX7_follow 51 = .ok (.ireturn, 1) := by decide +kernel
theorem dX7_follow_52 : decode cX7_follow 52 = .ok (.aload_n 0, 1) := by decide +kernel
theorem dX7_follow_53 : decode cX7_follow 53 = .ok (.getfield 12, 3) := by decide +kernel
theorem dX7_follow_56 : decode cX7_follow 56 = .ok (.iload_n 1, 1) := by decide +kernel
theorem dX7_follow_57 : decode cX7_follow 57 = .ok (.iload_n 2, 1) := by decide +kernel
theorem dX7_follow_58 : decode cX7_follow 58 = .ok (.iload_n 3, 1) := by decide +kernel
theorem dX7_follow_59 : decode cX7_follow 59 = .ok (.iconst 1, 1) := by decide +kernel
theorem dX7_follow_60 : decode cX7_follow 60 = .ok (.if_icmp .ne 7, 3) := by decide +kernel
theorem dX7_follow_63 : decode cX7_follow 63 = .ok (.iconst 1, 1) := by decide +kernel
theorem dX7_follow_64 : decode cX7_follow 64 = .ok (.goto 4, 3) := by decide +kernel
theorem dX7_follow_67 : decode cX7_follow 67 = .ok (.iconst 0, 1) := by decide +kernel
theorem dX7_follow_68 : decode cX7_follow 68 = .ok (.iload 4, 2) := by decide +kernel
theorem dX7_follow_70 : decode cX7_follow 70 = .ok (.invokevirtual 117, 3) := by decide +kernel
theorem dX7_follow_73 : decode cX7_follow 73 = .ok (.aload_n 0, 1) := by decide +kernel
theorem dX7_follow_74 : decode cX7_follow 74 = .ok (.iconst 0, 1) := by decide +kernel
theorem dX7_follow_75 : decode cX7_follow 75 = .ok (.putfield 55, 3) := by decide +kernel
theorem dX7_follow_78 : decode cX7_follow 78 = .ok (.iconst 0, 1) := by decide +kernel
theorem dX7_follow_79 : decode cX7_follow 79 = .ok (.ireturn, 1) := by decide +kernel
theorem dX7_grace_0 : decode cX7_grace 0 = .ok (.iload_n 1, 1) := by decide +kernel
theorem dX7_grace_1 : decode cX7_grace 1 = .ok (.invokestatic 92, 3) := by decide +kernel
theorem dX7_grace_4 : decode cX7_grace 4 = .ok (.ifCond .ne 5, 3) := by decide +kernel
theorem dX7_grace_7 : decode cX7_grace 7 = .ok (.iconst (-1), 1) := by decide +kernel
theorem dX7_grace_8 : decode cX7_grace 8 = .ok (.ireturn, 1) := by decide +kernel
theorem dX7_grace_9 : decode cX7_grace 9 = .ok (.iload_n 2, 1) := by decide +kernel
theorem dX7_grace_10 : decode cX7_grace 10 = .ok (.iconst 0, 1) := by decide +kernel
theorem dX7_grace_11 : decode cX7_grace 11 = .ok (.bipush 100, 2) := by decide +kernel
theorem dX7_grace_13 : decode cX7_grace 13 = .ok (.invokestatic 63, 3) := by decide +kernel
theorem dX7_grace_16 : decode cX7_grace 16 = .ok (.ifCond .ne 6, 3) := by decide +kernel
theorem dX7_grace_19 : decode cX7_grace 19 = .ok (.bipush (-2), 2) := by decide +kernel
theorem dX7_grace_21 : decode cX7_grace 21 = .ok (.ireturn, 1) := by decide +kernel
theorem dX7_grace_22 : decode cX7_grace 22 = .ok (.aload_n 0, 1) := by decide +kernel
theorem dX7_grace_23 : decode cX7_grace 23 = .ok (.iconst 0, 1) := by decide +kernel
theorem dX7_grace_24 : decode cX7_grace 24 = .ok (.putfield 55, 3) := by decide +kernel
theorem dX7_grace_27 : decode cX7_grace 27 = .ok (.aload_n 0, 1) := by decide +kernel
theorem dX7_grace_28 : decode cX7_grace 28 = .ok (.getfield 12, 3) := by decide +kernel
theorem dX7_grace_31 : decode cX7_grace 31 = .ok (.getfield 121, 3) := by decide +kernel
theorem dX7_grace_34 : decode cX7_grace 34 = .ok (.iload_n 1, 1) := by decide +kernel
theorem dX7_grace_35 : decode cX7_grace 35 = .ok (.iload_n 2, 1) := by decide +kernel
theorem dX7_grace_36 : decode cX7_grace 36 = .ok (.invokestatic 124, 3) := by decide +kernel
theorem dX7_grace_39 : decode cX7_grace 39 = .ok (.ireturn, 1) := by decide +kernel
theorem dX7_rate_0 : decode cX7_rate 0 = .ok (.aload_n 0, 1) := by decide +kernel
theorem dX7_rate_1 : decode cX7_rate 1 = .ok (.getfield 19, 3) := by decide +kernel
theorem dX7_rate_4 : decode cX7_rate 4 = .ok (.iload_n 1, 1) := by decide +kernel
theorem dX7_rate_5 : decode cX7_rate 5 = .ok (.invokevirtual 89, 3) := by decide +kernel
theorem dX7_rate_8 : decode cX7_rate 8 = .ok (.ifCond .ne 5, 3) := by decide +kernel
theorem dX7_rate_11 : decode cX7_rate 11 = .ok (.iconst (-1), 1) := by decide +kernel
theorem dX7_rate_12 : decode cX7_rate 12 = .ok (.ireturn, 1) := by decide +kernel
theorem dX7_rate_13 : decode cX7_rate 13 = .ok (.iload_n 2, 1) := by decide +kernel
theorem dX7_rate_14 : decode cX7_rate 14 = .ok (.iconst 1, 1) := by decide +kernel
theorem dX7_rate_15 : decode cX7_rate 15 = .ok (.bipush 60, 2) := by decide +kernel
theorem dX7_rate_17 : decode cX7_rate 17 = .ok (.invokestatic 63, 3) := by decide +kernel
theorem dX7_rate_20 : decode cX7_rate 20 = .ok (.ifCond .ne 6, 3) := by decide +kernel
theorem dX7_rate_23 : decode cX7_rate 23 = .ok (.bipush (-2), 2) := by decide +kernel
theorem dX7_rate_25 : decode cX7_rate 25 = .ok (.ireturn, 1) := by decide +kernel
theorem dX7_rate_26 : decode cX7_rate 26 = .ok (.aload_n 0, 1) := by decide +kernel
theorem dX7_rate_27 : decode cX7_rate 27 = .ok (.iconst 0, 1) := by decide +kernel
theorem dX7_rate_28 : decode cX7_rate 28 = .ok (.putfield 55, 3) := by decide +kernel
theorem dX7_rate_31 : decode cX7_rate 31 = .ok (.aload_n 0, 1) := by decide +kernel
theorem dX7_rate_32 : decode cX7_rate 32 = .ok (.getfield 19, 3) := by decide +kernel
theorem dX7_rate_35 : decode cX7_rate 35 = .ok (.getfield 128, 3) := by decide +kernel
theorem dX7_rate_38 : decode cX7_rate 38 = .ok (.iload_n 1, 1) := by decide +kernel
theorem dX7_rate_39 : decode cX7_rate 39 = .ok (.iload_n 2, 1) := by decide +kernel
theorem dX7_rate_40 : decode cX7_rate 40 = .ok (.invokestatic 124, 3) := by decide +kernel
theorem dX7_rate_43 : decode cX7_rate 43 = .ok (.ireturn, 1) := by decide +kernel
theorem dX7_price_0 : decode cX7_price 0 = .ok (.iload_n 1, 1) := by decide +kernel
theorem dX7_price_1 : decode cX7_price 1 = .ok (.iconst 0, 1) := by decide +kernel
theorem dX7_price_2 : decode cX7_price 2 = .ok (.bipush 23, 2) := by decide +kernel
theorem dX7_price_4 : decode cX7_price 4 = .ok (.invokestatic 63, 3) := by decide +kernel
theorem dX7_price_7 : decode cX7_price 7 = .ok (.ifCond .ne 5, 3) := by decide +kernel
theorem dX7_price_10 : decode cX7_price 10 = .ok (.iconst (-1), 1) := by decide +kernel
theorem dX7_price_11 : decode cX7_price 11 = .ok (.ireturn, 1) := by decide +kernel
theorem dX7_price_12 : decode cX7_price 12 = .ok (.iload_n 2, 1) := by decide +kernel
theorem dX7_price_13 : decode cX7_price 13 = .ok (.iconst 0, 1) := by decide +kernel
theorem dX7_price_14 : decode cX7_price 14 = .ok (.bipush 100, 2) := by decide +kernel
theorem dX7_price_16 : decode cX7_price 16 = .ok (.invokestatic 63, 3) := by decide +kernel
theorem dX7_price_19 : decode cX7_price 19 = .ok (.ifCond .ne 6, 3) := by decide +kernel
theorem dX7_price_22 : decode cX7_price 22 = .ok (.bipush (-2), 2) := by decide +kernel
theorem dX7_price_24 : decode cX7_price 24 = .ok (.ireturn, 1) := by decide +kernel
theorem dX7_price_25 : decode cX7_price 25 = .ok (.aload_n 0, 1) := by decide +kernel
theorem dX7_price_26 : decode cX7_price 26 = .ok (.iconst 0, 1) := by decide +kernel
theorem dX7_price_27 : decode cX7_price 27 = .ok (.putfield 55, 3) := by decide +kernel
theorem dX7_price_30 : decode cX7_price 30 = .ok (.aload_n 0, 1) := by decide +kernel
theorem dX7_price_31 : decode cX7_price 31 = .ok (.getfield 12, 3) := by decide +kernel
theorem dX7_price_34 : decode cX7_price 34 = .ok (.getfield 131, 3) := by decide +kernel
theorem dX7_price_37 : decode cX7_price 37 = .ok (.iload_n 1, 1) := by decide +kernel
theorem dX7_price_38 : decode cX7_price 38 = .ok (.iload_n 2, 1) := by decide +kernel
theorem dX7_price_39 : decode cX7_price 39 = .ok (.invokestatic 124, 3) := by decide +kernel
theorem dX7_price_42 : decode cX7_price 42 = .ok (.ireturn, 1) := by decide +kernel
theorem dX7_wish_0 : decode cX7_wish 0 = .ok (.aload_n 0, 1) := by decide +kernel
theorem dX7_wish_1 : decode cX7_wish 1 = .ok (.iload_n 1, 1) := by decide +kernel
theorem dX7_wish_2 : decode cX7_wish 2 = .ok (.iload_n 2, 1) := by decide +kernel
theorem dX7_wish_3 : decode cX7_wish 3 = .ok (.invokevirtual 134, 3) := by decide +kernel
theorem dX7_wish_6 : decode cX7_wish 6 = .ok (.ifCond .ne 5, 3) := by decide +kernel
theorem dX7_wish_9 : decode cX7_wish 9 = .ok (.iconst (-1), 1) := by decide +kernel
theorem dX7_wish_10 : decode cX7_wish 10 = .ok (.ireturn, 1) := by decide +kernel
theorem dX7_wish_11 : decode cX7_wish 11 = .ok (.iload_n 3, 1) := by decide +kernel
theorem dX7_wish_12 : decode cX7_wish 12 = .ok (.iconst 1, 1) := by decide +kernel
theorem dX7_wish_13 : decode cX7_wish 13 = .ok (.sipush 1000, 3) := by decide +kernel
theorem dX7_wish_16 : decode cX7_wish 16 = .ok (.invokestatic 63, 3) := by decide +kernel
theorem dX7_wish_19 : decode cX7_wish 19 = .ok (.ifCond .eq 14, 3) := by decide +kernel
theorem dX7_wish_22 : decode cX7_wish 22 = .ok (.iload 4, 2) := by decide +kernel
theorem dX7_wish_24 : decode cX7_wish 24 = .ok (.iconst 0, 1) := by decide +kernel
theorem dX7_wish_25 : decode cX7_wish 25 = .ok (.ldc 138, 2) := by decide +kernel
theorem dX7_wish_27 : decode cX7_wish 27 = .ok (.invokestatic 63, 3) := by decide +kernel
theorem dX7_wish_30 : decode cX7_wish 30 = .ok (.ifCond .ne 6, 3) := by decide +kernel
theorem dX7_wish_33 : decode cX7_wish 33 = .ok (.bipush (-2), 2) := by decide +kernel
theorem dX7_wish_35 : decode cX7_wish 35 = .ok (.ireturn, 1) := by decide +kernel
theorem dX7_wish_36 : decode cX7_wish 36 = .ok (.aload_n 0, 1) := by decide +kernel
theorem dX7_wish_37 : decode cX7_wish 37 = .ok (.getfield 26, 3) := by decide +kernel
theorem dX7_wish_40 : decode cX7_wish 40 = .ok (.getfield 70, 3) := by decide +kernel
theorem dX7_wish_43 : decode cX7_wish 43 = .ok (.bipush 20, 2) := by decide +kernel
theorem dX7_wish_45 : decode cX7_wish 45 = .ok (.if_icmp .lt 6, 3) := by decide +kernel
theorem dX7_wish_48 : decode cX7_wish 48 = .ok (.bipush (-4), 2) := by decide +kernel
theorem dX7_wish_50 : decode cX7_wish 50 = .ok (.ireturn, 1) := by decide +kernel
theorem dX7_wish_51 : decode cX7_wish 51 = .ok (.aload_n 0, 1) := by decide +kernel
theorem dX7_wish_52 : decode cX7_wish 52 = .ok (.iconst 0, 1) := by decide +kernel
theorem dX7_wish_53 : decode cX7_wish 53 = .ok (.putfield 55, 3) := by decide +kernel
theorem dX7_wish_56 : decode cX7_wish 56 = .ok (.iload_n 1, 1) := by decide +kernel
theorem dX7_wish_57 : decode cX7_wish 57 = .ok (.iload_n 2, 1) := by decide +kernel
theorem dX7_wish_58 : decode cX7_wish 58 = .ok (.invokestatic 95, 3) := by decide +kernel
theorem dX7_wish_61 : decode cX7_wish 61 = .ok (.istore 5, 2) := by decide +kernel
theorem dX7_wish_63 : decode cX7_wish 63 = .ok (.aload_n 0, 1) := by decide +kernel
theorem dX7_wish_64 : decode cX7_wish 64 = .ok (.getfield 47, 3) := by decide +kernel
theorem dX7_wish_67 : decode cX7_wish 67 = .ok (.getfield 139, 3) := by decide +kernel
theorem dX7_wish_70 : decode cX7_wish 70 = .ok (.aload_n 0, 1) := by decide +kernel
theorem dX7_wish_71 : decode cX7_wish 71 = .ok (.getfield 26, 3) := by decide +kernel
theorem dX7_wish_74 : decode cX7_wish 74 = .ok (.getfield 70, 3) := by decide +kernel
theorem dX7_wish_77 : decode cX7_wish 77 = .ok (.iconst (-1), 1) := by decide +kernel
theorem dX7_wish_78 : decode cX7_wish 78 = .ok (.iastore, 1) := by decide +kernel
theorem dX7_wish_79 : decode cX7_wish 79 = .ok (.aload_n 0, 1) := by decide +kernel
theorem dX7_wish_80 : decode cX7_wish 80 = .ok (.getfield 26, 3) := by decide +kernel
theorem dX7_wish_83 : decode cX7_wish 83 = .ok (.iload 5, 2) := by decide +kernel
theorem dX7_wish_85 : decode cX7_wish 85 = .ok (.iload_n 3, 1) := by decide +kernel
theorem dX7_wish_86 : decode cX7_wish 86 = .ok (.iload 4, 2) := by decide +kernel
theorem dX7_wish_88 : decode cX7_wish 88 = .ok (.aload_n 0, 1) := by decide +kernel
theorem dX7_wish_89 : decode cX7_wish 89 = .ok (.getfield 47, 3) := by decide +kernel
theorem dX7_wish_92 : decode cX7_wish 92 = .ok (.getfield 107, 3) := by decide +kernel
theorem dX7_wish_95 : decode cX7_wish 95 = .ok (.getfield 142, 3) := by decide +kernel
theorem dX7_wish_98 : decode cX7_wish 98 = .ok (.iload 5, 2) := by decide +kernel
theorem dX7_wish_100 : decode cX7_wish 100 = .ok (.iaload, 1) := by decide +kernel
theorem dX7_wish_101 : decode cX7_wish 101 = .ok (.invokevirtual 145, 3) := by decide +kernel
theorem dX7_wish_104 : decode cX7_wish 104 = .ok (.ireturn, 1) := by decide +kernel
theorem dX7_push_0 : decode cX7_push 0 = .ok (.aload_n 0, 1) := by decide +kernel
theorem dX7_push_1 : decode cX7_push 1 = .ok (.iload_n 1, 1) := by decide +kernel
theorem dX7_push_2 : decode cX7_push 2 = .ok (.iload_n 2, 1) := by decide +kernel
theorem dX7_push_3 : decode cX7_push 3 = .ok (.iload_n 3, 1) := by decide +kernel
theorem dX7_push_4 : decode cX7_push 4 = .ok (.iload 4, 2) := by decide +kernel
theorem dX7_push_6 : decode cX7_push 6 = .ok (.invokevirtual 149, 3) := by decide +kernel
theorem dX7_push_9 : decode cX7_push 9 = .ok (.istore 5, 2) := by decide +kernel
theorem dX7_push_11 : decode cX7_push 11 = .ok (.iload 5, 2) := by decide +kernel
theorem dX7_push_13 : decode cX7_push 13 = .ok (.ifCond .lt 13, 3) := by decide +kernel
theorem dX7_push_16 : decode cX7_push 16 = .ok (.aload_n 0, 1) := by decide +kernel
theorem dX7_push_17 : decode cX7_push 17 = .ok (.dup, 1) := by decide +kernel
theorem dX7_push_18 : decode cX7_push 18 = .ok (.getfield 55, 3) := by decide +kernel
theorem dX7_push_21 : decode cX7_push 21 = .ok (.iconst 1, 1) := by decide +kernel
theorem dX7_push_22 : decode cX7_push 22 = .ok (.iadd, 1) := by decide +kernel
theorem dX7_push_23 : decode cX7_push 23 = .ok (.putfield 55, 3) := by decide +kernel
theorem dX7_push_26 : decode cX7_push 26 = .ok (.iload 5, 2) := by decide +kernel
theorem dX7_push_28 : decode cX7_push 28 = .ok (.ireturn, 1) := by decide +kernel
theorem dX7_trial_0 : decode cX7_trial 0 = .ok (.aload_n 0, 1) := by decide +kernel
theorem dX7_trial_1 : decode cX7_trial 1 = .ok (.iload_n 1, 1) := by decide +kernel
theorem dX7_trial_2 : decode cX7_trial 2 = .ok (.iload_n 2, 1) := by decide +kernel
theorem dX7_trial_3 : decode cX7_trial 3 = .ok (.iload_n 3, 1) := by decide +kernel
theorem dX7_trial_4 : decode cX7_trial 4 = .ok (.iload 4, 2) := by decide +kernel
theorem dX7_trial_6 : decode cX7_trial 6 = .ok (.invokevirtual 149, 3) := by decide +kernel
theorem dX7_trial_9 : decode cX7_trial 9 = .ok (.istore 5, 2) := by decide +kernel
theorem dX7_trial_11 : decode cX7_trial 11 = .ok (.iload 5, 2) := by decide +kernel
theorem dX7_trial_13 : decode cX7_trial 13 = .ok (.ifCond .lt 18, 3) := by decide +kernel
theorem dX7_trial_16 : decode cX7_trial 16 = .ok (.aload_n 0, 1) := by decide +kernel
theorem dX7_trial_17 : decode cX7_trial 17 = .ok (.getfield 47, 3) := by decide +kernel
theorem dX7_trial_20 : decode cX7_trial 20 = .ok (.aload_n 0, 1) := by decide +kernel
theorem dX7_trial_21 : decode cX7_trial 21 = .ok (.aload_n 0, 1) := by decide +kernel
theorem dX7_trial_22 : decode cX7_trial 22 = .ok (.getfield 55, 3) := by decide +kernel
theorem dX7_trial_25 : decode cX7_trial 25 = .ok (.invokevirtual 152, 3) := by decide +kernel
theorem dX7_trial_28 : decode cX7_trial 28 = .ok (.invokevirtual 156, 3) := by decide +kernel
theorem dX7_trial_31 : decode cX7_trial 31 = .ok (.iload 5, 2) := by decide +kernel
theorem dX7_trial_33 : decode cX7_trial 33 = .ok (.ireturn, 1) := by decide +kernel
theorem dX7_undo_0 : decode cX7_undo 0 = .ok (.aload_n 0, 1) := by decide +kernel
theorem dX7_undo_1 : decode cX7_undo 1 = .ok (.getfield 55, 3) := by decide +kernel
theorem dX7_undo_4 : decode cX7_undo 4 = .ok (.ifCond .ne 6, 3) := by decide +kernel
theorem dX7_undo_7 : decode cX7_undo 7 = .ok (.bipush (-3), 2) := by decide +kernel
theorem dX7_undo_9 : decode cX7_undo 9 = .ok (.ireturn, 1) := by decide +kernel
theorem dX7_undo_10 : decode cX7_undo 10 = .ok (.aload_n 0, 1) := by decide +kernel
theorem dX7_undo_11 : decode cX7_undo 11 = .ok (.dup, 1) := by decide +kernel
theorem dX7_undo_12 : decode cX7_undo 12 = .ok (.getfield 55, 3) := by decide +kernel
theorem dX7_undo_15 : decode cX7_undo 15 = .ok (.iconst 1, 1) := by decide +kernel
theorem dX7_undo_16 : decode cX7_undo 16 = .ok (.isub, 1) := by decide +kernel
theorem dX7_undo_17 : decode cX7_undo 17 = .ok (.putfield 55, 3) := by decide +kernel
theorem dX7_undo_20 : decode cX7_undo 20 = .ok (.aload_n 0, 1) := by decide +kernel
theorem dX7_undo_21 : decode cX7_undo 21 = .ok (.getfield 47, 3) := by decide +kernel
theorem dX7_undo_24 : decode cX7_undo 24 = .ok (.aload_n 0, 1) := by decide +kernel
theorem dX7_undo_25 : decode cX7_undo 25 = .ok (.aload_n 0, 1) := by decide +kernel
theorem dX7_undo_26 : decode cX7_undo 26 = .ok (.getfield 55, 3) := by decide +kernel
theorem dX7_undo_29 : decode cX7_undo 29 = .ok (.invokevirtual 152, 3) := by decide +kernel
theorem dX7_undo_32 : decode cX7_undo 32 = .ok (.invokevirtual 156, 3) := by decide +kernel
theorem dX7_undo_35 : decode cX7_undo 35 = .ok (.aload_n 0, 1) := by decide +kernel
theorem dX7_undo_36 : decode cX7_undo 36 = .ok (.getfield 47, 3) := by decide +kernel
theorem dX7_undo_39 : decode cX7_undo 39 = .ok (.getfield 160, 3) := by decide +kernel
theorem dX7_undo_42 : decode cX7_undo 42 = .ok (.ireturn, 1) := by decide +kernel
theorem dX7_wait_0 : decode cX7_wait 0 = .ok (.iload_n 1, 1) := by decide +kernel
theorem dX7_wait_1 : decode cX7_wait 1 = .ok (.iconst 0, 1) := by decide +kernel
theorem dX7_wait_2 : decode cX7_wait 2 = .ok (.sipush 1000, 3) := by decide +kernel
theorem dX7_wait_5 : decode cX7_wait 5 = .ok (.invokestatic 63, 3) := by decide +kernel
theorem dX7_wait_8 : decode cX7_wait 8 = .ok (.ifCond .ne 6, 3) := by decide +kernel
theorem dX7_wait_11 : decode cX7_wait 11 = .ok (.bipush (-2), 2) := by decide +kernel
theorem dX7_wait_13 : decode cX7_wait 13 = .ok (.ireturn, 1) := by decide +kernel
theorem dX7_wait_14 : decode cX7_wait 14 = .ok (.aload_n 0, 1) := by decide +kernel
theorem dX7_wait_15 : decode cX7_wait 15 = .ok (.iconst 0, 1) := by decide +kernel
theorem dX7_wait_16 : decode cX7_wait 16 = .ok (.putfield 55, 3) := by decide +kernel
theorem dX7_wait_19 : decode cX7_wait 19 = .ok (.aload_n 0, 1) := by decide +kernel
theorem dX7_wait_20 : decode cX7_wait 20 = .ok (.getfield 47, 3) := by decide +kernel
theorem dX7_wait_23 : decode cX7_wait 23 = .ok (.dup, 1) := by decide +kernel
theorem dX7_wait_24 : decode cX7_wait 24 = .ok (.getfield 163, 3) := by decide +kernel
theorem dX7_wait_27 : decode cX7_wait 27 = .ok (.iload_n 1, 1) := by decide +kernel
theorem dX7_wait_28 : decode cX7_wait 28 = .ok (.iadd, 1) := by decide +kernel
theorem dX7_wait_29 : decode cX7_wait 29 = .ok (.putfield 163, 3) := by decide +kernel
theorem dX7_wait_32 : decode cX7_wait 32 = .ok (.aload_n 0, 1) := by decide +kernel
theorem dX7_wait_33 : decode cX7_wait 33 = .ok (.getfield 47, 3) := by decide +kernel
theorem dX7_wait_36 : decode cX7_wait 36 = .ok (.getfield 163, 3) := by decide +kernel
theorem dX7_wait_39 : decode cX7_wait 39 = .ok (.ireturn, 1) := by decide +kernel
theorem dX7_at_0 : decode cX7_at 0 = .ok (.aload_n 0, 1) := by decide +kernel
theorem dX7_at_1 : decode cX7_at 1 = .ok (.getfield 47, 3) := by decide +kernel
theorem dX7_at_4 : decode cX7_at 4 = .ok (.getfield 73, 3) := by decide +kernel
theorem dX7_at_7 : decode cX7_at 7 = .ok (.astore_n 3, 1) := by decide +kernel
theorem dX7_at_8 : decode cX7_at 8 = .ok (.iload_n 1, 1) := by decide +kernel
theorem dX7_at_9 : decode cX7_at 9 = .ok (.iconst 0, 1) := by decide +kernel
theorem dX7_at_10 : decode cX7_at 10 = .ok (.aload_n 3, 1) := by decide +kernel
theorem dX7_at_11 : decode cX7_at 11 = .ok (.getfield 77, 3) := by decide +kernel
theorem dX7_at_14 : decode cX7_at 14 = .ok (.iconst 1, 1) := by decide +kernel
theorem dX7_at_15 : decode cX7_at 15 = .ok (.isub, 1) := by decide +kernel
theorem dX7_at_16 : decode cX7_at 16 = .ok (.invokestatic 63, 3) := by decide +kernel
theorem dX7_at_19 : decode cX7_at 19 = .ok (.ifCond .ne 5, 3) := by decide +kernel
theorem dX7_at_22 : decode cX7_at 22 = .ok (.iconst (-1), 1) := by decide +kernel
theorem dX7_at_23 : decode cX7_at 23 = .ok (.ireturn, 1) := by decide +kernel
theorem dX7_at_24 : decode cX7_at 24 = .ok (.iload_n 2, 1) := by decide +kernel
theorem dX7_at_25 : decode cX7_at 25 = .ok (.tableswitch 71 0 3 #[31, 38, 45, 52], 31) := by decide +kernel
theorem dX7_at_56 : decode cX7_at 56 = .ok (.aload_n 3, 1) := by decide +kernel
theorem dX7_at_57 : decode cX7_at 57 = .ok (.getfield 166, 3) := by decide +kernel
theorem dX7_at_60 : decode cX7_at 60 = .ok (.iload_n 1, 1) := by decide +kernel
theorem dX7_at_61 : decode cX7_at 61 = .ok (.iaload, 1) := by decide +kernel
theorem dX7_at_62 : decode cX7_at 62 = .ok (.ireturn, 1) := by decide +kernel
theorem dX7_at_63 : decode cX7_at 63 = .ok (.aload_n 3, 1) := by decide +kernel
theorem dX7_at_64 : decode cX7_at 64 = .ok (.getfield 169, 3) := by decide +kernel
theorem dX7_at_67 : decode cX7_at 67 = .ok (.iload_n 1, 1) := by decide +kernel
theorem dX7_at_68 : decode cX7_at 68 = .ok (.iaload, 1) := by decide +kernel
theorem dX7_at_69 : decode cX7_at 69 = .ok (.ireturn, 1) := by decide +kernel
theorem dX7_at_70 : decode cX7_at 70 = .ok (.aload_n 3, 1) := by decide +kernel
theorem dX7_at_71 : decode cX7_at 71 = .ok (.getfield 172, 3) := by decide +kernel
theorem dX7_at_74 : decode cX7_at 74 = .ok (.iload_n 1, 1) := by decide +kernel
theorem dX7_at_75 : decode cX7_at 75 = .ok (.iaload, 1) := by decide +kernel
theorem dX7_at_76 : decode cX7_at 76 = .ok (.ireturn, 1) := by decide +kernel
theorem dX7_at_77 : decode cX7_at 77 = .ok (.aload_n 3, 1) := by decide +kernel
theorem dX7_at_78 : decode cX7_at 78 = .ok (.iload_n 1, 1) := by decide +kernel
theorem dX7_at_79 : decode cX7_at 79 = .ok (.invokevirtual 175, 3) := by decide +kernel
theorem dX7_at_82 : decode cX7_at 82 = .ok (.ifCond .eq 12, 3) := by decide +kernel
theorem dX7_at_85 : decode cX7_at 85 = .ok (.aload_n 3, 1) := by decide +kernel
theorem dX7_at_86 : decode cX7_at 86 = .ok (.getfield 178, 3) := by decide +kernel
theorem dX7_at_89 : decode cX7_at 89 = .ok (.iload_n 1, 1) := by decide +kernel
theorem dX7_at_90 : decode cX7_at 90 = .ok (.iaload, 1) := by decide +kernel
theorem dX7_at_91 : decode cX7_at 91 = .ok (.goto 4, 3) := by decide +kernel
theorem dX7_at_94 : decode cX7_at 94 = .ok (.iconst 0, 1) := by decide +kernel
theorem dX7_at_95 : decode cX7_at 95 = .ok (.ireturn, 1) := by decide +kernel
theorem dX7_at_96 : decode cX7_at 96 = .ok (.iconst (-1), 1) := by decide +kernel
theorem dX7_at_97 : decode cX7_at 97 = .ok (.ireturn, 1) := by decide +kernel
theorem dX7_batch_0 : decode cX7_batch 0 = .ok (.iload_n 1, 1) := by decide +kernel
theorem dX7_batch_1 : decode cX7_batch 1 = .ok (.iconst 0, 1) := by decide +kernel
theorem dX7_batch_2 : decode cX7_batch 2 = .ok (.aload_n 0, 1) := by decide +kernel
theorem dX7_batch_3 : decode cX7_batch 3 = .ok (.getfield 47, 3) := by decide +kernel
theorem dX7_batch_6 : decode cX7_batch 6 = .ok (.getfield 160, 3) := by decide +kernel
theorem dX7_batch_9 : decode cX7_batch 9 = .ok (.iconst 1, 1) := by decide +kernel
theorem dX7_batch_10 : decode cX7_batch 10 = .ok (.isub, 1) := by decide +kernel
theorem dX7_batch_11 : decode cX7_batch 11 = .ok (.invokestatic 63, 3) := by decide +kernel
theorem dX7_batch_14 : decode cX7_batch 14 = .ok (.ifCond .ne 5, 3) := by decide +kernel
theorem dX7_batch_17 : decode cX7_batch 17 = .ok (.iconst (-1), 1) := by decide +kernel
theorem dX7_batch_18 : decode cX7_batch 18 = .ok (.ireturn, 1) := by decide +kernel
theorem dX7_batch_19 : decode cX7_batch 19 = .ok (.iload_n 2, 1) := by decide +kernel
theorem dX7_batch_20 : decode cX7_batch 20 = .ok (.tableswitch 100 0 5 #[40, 47, 59, 71, 83, 93], 40) := by decide +kernel
theorem dX7_batch_60 : decode cX7_batch 60 = .ok (.aload_n 0, 1) := by decide +kernel
theorem dX7_batch_61 : decode cX7_batch 61 = .ok (.getfield 37, 3) := by decide +kernel
theorem dX7_batch_64 : decode cX7_batch 64 = .ok (.iload_n 1, 1) := by decide +kernel
theorem dX7_batch_65 : decode cX7_batch 65 = .ok (.iaload, 1) := by decide +kernel
theorem dX7_batch_66 : decode cX7_batch 66 = .ok (.ireturn, 1) := by decide +kernel
theorem dX7_batch_67 : decode cX7_batch 67 = .ok (.aload_n 0, 1) := by decide +kernel
theorem dX7_batch_68 : decode cX7_batch 68 = .ok (.getfield 47, 3) := by decide +kernel
theorem dX7_batch_71 : decode cX7_batch 71 = .ok (.getfield 73, 3) := by decide +kernel
theorem dX7_batch_74 : decode cX7_batch 74 = .ok (.iload_n 1, 1) := by decide +kernel
theorem dX7_batch_75 : decode cX7_batch 75 = .ok (.invokevirtual 181, 3) := by decide +kernel
theorem dX7_batch_78 : decode cX7_batch 78 = .ok (.ireturn, 1) := by decide +kernel
theorem dX7_batch_79 : decode cX7_batch 79 = .ok (.aload_n 0, 1) := by decide +kernel
theorem dX7_batch_80 : decode cX7_batch 80 = .ok (.getfield 47, 3) := by decide +kernel
theorem dX7_batch_83 : decode cX7_batch 83 = .ok (.getfield 73, 3) := by decide +kernel
theorem dX7_batch_86 : decode cX7_batch 86 = .ok (.iload_n 1, 1) := by decide +kernel
theorem dX7_batch_87 : decode cX7_batch 87 = .ok (.invokevirtual 184, 3) := by decide +kernel
theorem dX7_batch_90 : decode cX7_batch 90 = .ok (.ireturn, 1) := by decide +kernel
theorem dX7_batch_91 : decode cX7_batch 91 = .ok (.aload_n 0, 1) := by decide +kernel
theorem dX7_batch_92 : decode cX7_batch 92 = .ok (.getfield 47, 3) := by decide +kernel
theorem dX7_batch_95 : decode cX7_batch 95 = .ok (.getfield 73, 3) := by decide +kernel
theorem dX7_batch_98 : decode cX7_batch 98 = .ok (.iload_n 1, 1) := by decide +kernel
theorem dX7_batch_99 : decode cX7_batch 99 = .ok (.invokevirtual 187, 3) := by decide +kernel
theorem dX7_batch_102 : decode cX7_batch 102 = .ok (.ireturn, 1) := by decide +kernel
theorem dX7_batch_103 : decode cX7_batch 103 = .ok (.aload_n 0, 1) := by decide +kernel
theorem dX7_batch_104 : decode cX7_batch 104 = .ok (.getfield 47, 3) := by decide +kernel
theorem dX7_batch_107 : decode cX7_batch 107 = .ok (.getfield 190, 3) := by decide +kernel
theorem dX7_batch_110 : decode cX7_batch 110 = .ok (.iload_n 1, 1) := by decide +kernel
theorem dX7_batch_111 : decode cX7_batch 111 = .ok (.iaload, 1) := by decide +kernel
theorem dX7_batch_112 : decode cX7_batch 112 = .ok (.ireturn, 1) := by decide +kernel
theorem dX7_batch_113 : decode cX7_batch 113 = .ok (.aload_n 0, 1) := by decide +kernel
theorem dX7_batch_114 : decode cX7_batch 114 = .ok (.getfield 41, 3) := by decide +kernel
theorem dX7_batch_117 : decode cX7_batch 117 = .ok (.iload_n 1, 1) := by decide +kernel
theorem dX7_batch_118 : decode cX7_batch 118 = .ok (.iaload, 1) := by decide +kernel
theorem dX7_batch_119 : decode cX7_batch 119 = .ok (.ireturn, 1) := by decide +kernel
theorem dX7_batch_120 : decode cX7_batch 120 = .ok (.iconst (-1), 1) := by decide +kernel
theorem dX7_batch_121 : decode cX7_batch 121 = .ok (.ireturn, 1) := by decide +kernel
theorem dX7_tankOf_0 : decode cX7_tankOf 0 = .ok (.aload_n 0, 1) := by decide +kernel
theorem dX7_tankOf_1 : decode cX7_tankOf 1 = .ok (.iload_n 1, 1) := by decide +kernel
theorem dX7_tankOf_2 : decode cX7_tankOf 2 = .ok (.iload_n 2, 1) := by decide +kernel
theorem dX7_tankOf_3 : decode cX7_tankOf 3 = .ok (.invokevirtual 134, 3) := by decide +kernel
theorem dX7_tankOf_6 : decode cX7_tankOf 6 = .ok (.ifCond .ne 5, 3) := by decide +kernel
theorem dX7_tankOf_9 : decode cX7_tankOf 9 = .ok (.iconst (-1), 1) := by decide +kernel
theorem dX7_tankOf_10 : decode cX7_tankOf 10 = .ok (.ireturn, 1) := by decide +kernel
theorem dX7_tankOf_11 : decode cX7_tankOf 11 = .ok (.iload_n 1, 1) := by decide +kernel
theorem dX7_tankOf_12 : decode cX7_tankOf 12 = .ok (.iload_n 2, 1) := by decide +kernel
theorem dX7_tankOf_13 : decode cX7_tankOf 13 = .ok (.invokestatic 95, 3) := by decide +kernel
theorem dX7_tankOf_16 : decode cX7_tankOf 16 = .ok (.istore 4, 2) := by decide +kernel
theorem dX7_tankOf_18 : decode cX7_tankOf 18 = .ok (.iload_n 3, 1) := by decide +kernel
theorem dX7_tankOf_19 : decode cX7_tankOf 19 = .ok (.tableswitch 97 0 4 #[33, 47, 61, 72, 83], 33) := by decide +kernel
theorem dX7_tankOf_52 : decode cX7_tankOf 52 = .ok (.aload_n 0, 1) := by decide +kernel
theorem dX7_tankOf_53 : decode cX7_tankOf 53 = .ok (.getfield 47, 3) := by decide +kernel
theorem dX7_tankOf_56 : decode cX7_tankOf 56 = .ok (.getfield 107, 3) := by decide +kernel
theorem dX7_tankOf_59 : decode cX7_tankOf 59 = .ok (.getfield 193, 3) := by decide +kernel
theorem dX7_tankOf_62 : decode cX7_tankOf 62 = .ok (.iload 4, 2) := by decide +kernel
theorem dX7_tankOf_64 : decode cX7_tankOf 64 = .ok (.iaload, 1) := by decide +kernel
theorem dX7_tankOf_65 : decode cX7_tankOf 65 = .ok (.ireturn, 1) := by decide +kernel
theorem dX7_tankOf_66 : decode cX7_tankOf 66 = .ok (.aload_n 0, 1) := by decide +kernel
theorem dX7_tankOf_67 : decode cX7_tankOf 67 = .ok (.getfield 47, 3) := by decide +kernel
theorem dX7_tankOf_70 : decode cX7_tankOf 70 = .ok (.getfield 107, 3) := by decide +kernel
theorem dX7_tankOf_73 : decode cX7_tankOf 73 = .ok (.getfield 196, 3) := by decide +kernel
theorem dX7_tankOf_76 : decode cX7_tankOf 76 = .ok (.iload 4, 2) := by decide +kernel
theorem dX7_tankOf_78 : decode cX7_tankOf 78 = .ok (.iaload, 1) := by decide +kernel
theorem dX7_tankOf_79 : decode cX7_tankOf 79 = .ok (.ireturn, 1) := by decide +kernel
theorem dX7_tankOf_80 : decode cX7_tankOf 80 = .ok (.aload_n 0, 1) := by decide +kernel
theorem dX7_tankOf_81 : decode cX7_tankOf 81 = .ok (.getfield 19, 3) := by decide +kernel
theorem dX7_tankOf_84 : decode cX7_tankOf 84 = .ok (.getfield 199, 3) := by decide +kernel
theorem dX7_tankOf_87 : decode cX7_tankOf 87 = .ok (.iload 4, 2) := by decide +kernel
theorem dX7_tankOf_89 : decode cX7_tankOf 89 = .ok (.iaload, 1) := by decide +kernel
theorem dX7_tankOf_90 : decode cX7_tankOf 90 = .ok (.ireturn, 1) := by decide +kernel
theorem dX7_tankOf_91 : decode cX7_tankOf 91 = .ok (.aload_n 0, 1) := by decide +kernel
theorem dX7_tankOf_92 : decode cX7_tankOf 92 = .ok (.getfield 19, 3) := by decide +kernel
theorem dX7_tankOf_95 : decode cX7_tankOf 95 = .ok (.getfield 202, 3) := by decide +kernel
theorem dX7_tankOf_98 : decode cX7_tankOf 98 = .ok (.iload 4, 2) := by decide +kernel
theorem dX7_tankOf_100 : decode cX7_tankOf 100 = .ok (.iaload, 1) := by decide +kernel
theorem dX7_tankOf_101 : decode cX7_tankOf 101 = .ok (.ireturn, 1) := by decide +kernel
theorem dX7_tankOf_102 : decode cX7_tankOf 102 = .ok (.aload_n 0, 1) := by decide +kernel
theorem dX7_tankOf_103 : decode cX7_tankOf 103 = .ok (.getfield 47, 3) := by decide +kernel
theorem dX7_tankOf_106 : decode cX7_tankOf 106 = .ok (.getfield 107, 3) := by decide +kernel
theorem dX7_tankOf_109 : decode cX7_tankOf 109 = .ok (.getfield 142, 3) := by decide +kernel
theorem dX7_tankOf_112 : decode cX7_tankOf 112 = .ok (.iload 4, 2) := by decide +kernel
theorem dX7_tankOf_114 : decode cX7_tankOf 114 = .ok (.iaload, 1) := by decide +kernel
theorem dX7_tankOf_115 : decode cX7_tankOf 115 = .ok (.ireturn, 1) := by decide +kernel
theorem dX7_tankOf_116 : decode cX7_tankOf 116 = .ok (.iconst (-1), 1) := by decide +kernel
theorem dX7_tankOf_117 : decode cX7_tankOf 117 = .ok (.ireturn, 1) := by decide +kernel
theorem dX7_about_0 : decode cX7_about 0 = .ok (.aload_n 0, 1) := by decide +kernel
theorem dX7_about_1 : decode cX7_about 1 = .ok (.getfield 19, 3) := by decide +kernel
theorem dX7_about_4 : decode cX7_about 4 = .ok (.iload_n 1, 1) := by decide +kernel
theorem dX7_about_5 : decode cX7_about 5 = .ok (.invokevirtual 89, 3) := by decide +kernel
theorem dX7_about_8 : decode cX7_about 8 = .ok (.ifCond .ne 5, 3) := by decide +kernel
theorem dX7_about_11 : decode cX7_about 11 = .ok (.iconst (-1), 1) := by decide +kernel
theorem dX7_about_12 : decode cX7_about 12 = .ok (.ireturn, 1) := by decide +kernel
theorem dX7_about_13 : decode cX7_about 13 = .ok (.iload_n 2, 1) := by decide +kernel
theorem dX7_about_14 : decode cX7_about 14 = .ok (.tableswitch 59 0 2 #[26, 36, 46], 26) := by decide +kernel
theorem dX7_about_40 : decode cX7_about 40 = .ok (.aload_n 0, 1) := by decide +kernel
theorem dX7_about_41 : decode cX7_about 41 = .ok (.getfield 19, 3) := by decide +kernel
theorem dX7_about_44 : decode cX7_about 44 = .ok (.getfield 205, 3) := by decide +kernel
theorem dX7_about_47 : decode cX7_about 47 = .ok (.iload_n 1, 1) := by decide +kernel
theorem dX7_about_48 : decode cX7_about 48 = .ok (.iaload, 1) := by decide +kernel
theorem dX7_about_49 : decode cX7_about 49 = .ok (.ireturn, 1) := by decide +kernel
theorem dX7_about_50 : decode cX7_about 50 = .ok (.aload_n 0, 1) := by decide +kernel
theorem dX7_about_51 : decode cX7_about 51 = .ok (.getfield 19, 3) := by decide +kernel
theorem dX7_about_54 : decode cX7_about 54 = .ok (.getfield 128, 3) := by decide +kernel
theorem dX7_about_57 : decode cX7_about 57 = .ok (.iload_n 1, 1) := by decide +kernel
theorem dX7_about_58 : decode cX7_about 58 = .ok (.iaload, 1) := by decide +kernel
theorem dX7_about_59 : decode cX7_about 59 = .ok (.ireturn, 1) := by decide +kernel
theorem dX7_about_60 : decode cX7_about 60 = .ok (.aload_n 0, 1) := by decide +kernel
theorem dX7_about_61 : decode cX7_about 61 = .ok (.getfield 47, 3) := by decide +kernel
theorem dX7_about_64 : decode cX7_about 64 = .ok (.getfield 107, 3) := by decide +kernel
theorem dX7_about_67 : decode cX7_about 67 = .ok (.getfield 208, 3) := by decide +kernel
theorem dX7_about_70 : decode cX7_about 70 = .ok (.iload_n 1, 1) := by decide +kernel
theorem dX7_about_71 : decode cX7_about 71 = .ok (.iaload, 1) := by decide +kernel
theorem dX7_about_72 : decode cX7_about 72 = .ok (.ireturn, 1) := by decide +kernel
theorem dX7_about_73 : decode cX7_about 73 = .ok (.iconst (-1), 1) := by decide +kernel
theorem dX7_about_74 : decode cX7_about 74 = .ok (.ireturn, 1) := by decide +kernel
theorem dX7_wished_0 : decode cX7_wished 0 = .ok (.iload_n 1, 1) := by decide +kernel
theorem dX7_wished_1 : decode cX7_wished 1 = .ok (.iconst 0, 1) := by decide +kernel
theorem dX7_wished_2 : decode cX7_wished 2 = .ok (.aload_n 0, 1) := by decide +kernel
theorem dX7_wished_3 : decode cX7_wished 3 = .ok (.getfield 26, 3) := by decide +kernel
theorem dX7_wished_6 : decode cX7_wished 6 = .ok (.getfield 70, 3) := by decide +kernel
theorem dX7_wished_9 : decode cX7_wished 9 = .ok (.iconst 1, 1) := by decide +kernel
theorem dX7_wished_10 : decode cX7_wished 10 = .ok (.isub, 1) := by decide +kernel
theorem dX7_wished_11 : decode cX7_wished 11 = .ok (.invokestatic 63, 3) := by decide +kernel
theorem dX7_wished_14 : decode cX7_wished 14 = .ok (.ifCond .ne 5, 3) := by decide +kernel
theorem dX7_wished_17 : decode cX7_wished 17 = .ok (.iconst (-1), 1) := by decide +kernel
theorem dX7_wished_18 : decode cX7_wished 18 = .ok (.ireturn, 1) := by decide +kernel
theorem dX7_wished_19 : decode cX7_wished 19 = .ok (.iload_n 2, 1) := by decide +kernel
theorem dX7_wished_20 : decode cX7_wished 20 = .ok (.tableswitch 67 0 2 #[28, 38, 51], 28) := by decide +kernel
theorem dX7_wished_48 : decode cX7_wished 48 = .ok (.aload_n 0, 1) := by decide +kernel
theorem dX7_wished_49 : decode cX7_wished 49 = .ok (.getfield 47, 3) := by decide +kernel
theorem dX7_wished_52 : decode cX7_wished 52 = .ok (.getfield 139, 3) := by decide +kernel
theorem dX7_wished_55 : decode cX7_wished 55 = .ok (.iload_n 1, 1) := by decide +kernel
theorem dX7_wished_56 : decode cX7_wished 56 = .ok (.iaload, 1) := by decide +kernel
theorem dX7_wished_57 : decode cX7_wished 57 = .ok (.ireturn, 1) := by decide +kernel
theorem dX7_wished_58 : decode cX7_wished 58 = .ok (.aload_n 0, 1) := by decide +kernel
theorem dX7_wished_59 : decode cX7_wished 59 = .ok (.getfield 26, 3) := by decide +kernel
theorem dX7_wished_62 : decode cX7_wished 62 = .ok (.iload_n 1, 1) := by decide +kernel
theorem dX7_wished_63 : decode cX7_wished 63 = .ok (.aload_n 0, 1) := by decide +kernel
theorem dX7_wished_64 : decode cX7_wished 64 = .ok (.getfield 47, 3) := by decide +kernel
theorem dX7_wished_67 : decode cX7_wished 67 = .ok (.invokevirtual 211, 3) := by decide +kernel
theorem dX7_wished_70 : decode cX7_wished 70 = .ok (.ireturn, 1) := by decide +kernel
theorem dX7_wished_71 : decode cX7_wished 71 = .ok (.aload_n 0, 1) := by decide +kernel
theorem dX7_wished_72 : decode cX7_wished 72 = .ok (.getfield 26, 3) := by decide +kernel
theorem dX7_wished_75 : decode cX7_wished 75 = .ok (.iload_n 1, 1) := by decide +kernel
theorem dX7_wished_76 : decode cX7_wished 76 = .ok (.aload_n 0, 1) := by decide +kernel
theorem dX7_wished_77 : decode cX7_wished 77 = .ok (.getfield 47, 3) := by decide +kernel
theorem dX7_wished_80 : decode cX7_wished 80 = .ok (.getfield 107, 3) := by decide +kernel
theorem dX7_wished_83 : decode cX7_wished 83 = .ok (.invokevirtual 215, 3) := by decide +kernel
theorem dX7_wished_86 : decode cX7_wished 86 = .ok (.ireturn, 1) := by decide +kernel
theorem dX7_wished_87 : decode cX7_wished 87 = .ok (.iconst (-1), 1) := by decide +kernel
theorem dX7_wished_88 : decode cX7_wished 88 = .ok (.ireturn, 1) := by decide +kernel
theorem dX7_count_0 : decode cX7_count 0 = .ok (.iload_n 1, 1) := by decide +kernel
theorem dX7_count_1 : decode cX7_count 1 = .ok (.tableswitch 133 0 8 #[51, 59, 67, 75, 86, 97, 108, 116, 128], 51) := by decide +kernel
theorem dX7_count_52 : decode cX7_count 52 = .ok (.aload_n 0, 1) := by decide +kernel
theorem dX7_count_53 : decode cX7_count 53 = .ok (.getfield 47, 3) := by decide +kernel
theorem dX7_count_56 : decode cX7_count 56 = .ok (.getfield 163, 3) := by decide +kernel
theorem dX7_count_59 : decode cX7_count 59 = .ok (.ireturn, 1) := by decide +kernel
theorem dX7_count_60 : decode cX7_count 60 = .ok (.aload_n 0, 1) := by decide +kernel
theorem dX7_count_61 : decode cX7_count 61 = .ok (.getfield 47, 3) := by decide +kernel
theorem dX7_count_64 : decode cX7_count 64 = .ok (.getfield 219, 3) := by decide +kernel
theorem dX7_count_67 : decode cX7_count 67 = .ok (.ireturn, 1) := by decide +kernel
theorem dX7_count_68 : decode cX7_count 68 = .ok (.aload_n 0, 1) := by decide +kernel
theorem dX7_count_69 : decode cX7_count 69 = .ok (.getfield 47, 3) := by decide +kernel
theorem dX7_count_72 : decode cX7_count 72 = .ok (.getfield 160, 3) := by decide +kernel
theorem dX7_count_75 : decode cX7_count 75 = .ok (.ireturn, 1) := by decide +kernel
theorem dX7_count_76 : decode cX7_count 76 = .ok (.aload_n 0, 1) := by decide +kernel
theorem dX7_count_77 : decode cX7_count 77 = .ok (.getfield 47, 3) := by decide +kernel
theorem dX7_count_80 : decode cX7_count 80 = .ok (.getfield 73, 3) := by decide +kernel
theorem dX7_count_83 : decode cX7_count 83 = .ok (.invokevirtual 222, 3) := by decide +kernel
theorem dX7_count_86 : decode cX7_count 86 = .ok (.ireturn, 1) := by decide +kernel
theorem dX7_count_87 : decode cX7_count 87 = .ok (.aload_n 0, 1) := by decide +kernel
theorem dX7_count_88 : decode cX7_count 88 = .ok (.getfield 47, 3) := by decide +kernel
theorem dX7_count_91 : decode cX7_count 91 = .ok (.getfield 107, 3) := by decide +kernel
theorem dX7_count_94 : decode cX7_count 94 = .ok (.invokevirtual 226, 3) := by decide +kernel
theorem dX7_count_97 : decode cX7_count 97 = .ok (.ireturn, 1) := by decide +kernel
theorem dX7_count_98 : decode cX7_count 98 = .ok (.aload_n 0, 1) := by decide +kernel
theorem dX7_count_99 : decode cX7_count 99 = .ok (.getfield 47, 3) := by decide +kernel
theorem dX7_count_102 : decode cX7_count 102 = .ok (.getfield 73, 3) := by decide +kernel
theorem dX7_count_105 : decode cX7_count 105 = .ok (.getfield 77, 3) := by decide +kernel
theorem dX7_count_108 : decode cX7_count 108 = .ok (.ireturn, 1) := by decide +kernel
theorem dX7_count_109 : decode cX7_count 109 = .ok (.aload_n 0, 1) := by decide +kernel
theorem dX7_count_110 : decode cX7_count 110 = .ok (.getfield 19, 3) := by decide +kernel
theorem dX7_count_113 : decode cX7_count 113 = .ok (.getfield 84, 3) := by decide +kernel
theorem dX7_count_116 : decode cX7_count 116 = .ok (.ireturn, 1) := by decide +kernel
theorem dX7_count_117 : decode cX7_count 117 = .ok (.aload_n 0, 1) := by decide +kernel
theorem dX7_count_118 : decode cX7_count 118 = .ok (.getfield 26, 3) := by decide +kernel
theorem dX7_count_121 : decode cX7_count 121 = .ok (.aload_n 0, 1) := by decide +kernel
theorem dX7_count_122 : decode cX7_count 122 = .ok (.getfield 47, 3) := by decide +kernel
theorem dX7_count_125 : decode cX7_count 125 = .ok (.invokevirtual 229, 3) := by decide +kernel
theorem dX7_count_128 : decode cX7_count 128 = .ok (.ireturn, 1) := by decide +kernel
theorem dX7_count_129 : decode cX7_count 129 = .ok (.aload_n 0, 1) := by decide +kernel
theorem dX7_count_130 : decode cX7_count 130 = .ok (.getfield 55, 3) := by decide +kernel
theorem dX7_count_133 : decode cX7_count 133 = .ok (.ireturn, 1) := by decide +kernel
theorem dX7_count_134 : decode cX7_count 134 = .ok (.iconst (-1), 1) := by decide +kernel
theorem dX7_count_135 : decode cX7_count 135 = .ok (.ireturn, 1) := by decide +kernel
theorem dX7_borders_0 : decode cX7_borders 0 = .ok (.aload_n 0, 1) := by decide +kernel
theorem dX7_borders_1 : decode cX7_borders 1 = .ok (.getfield 47, 3) := by decide +kernel
theorem dX7_borders_4 : decode cX7_borders 4 = .ok (.getfield 73, 3) := by decide +kernel
theorem dX7_borders_7 : decode cX7_borders 7 = .ok (.invokevirtual 233, 3) := by decide +kernel
theorem dX7_borders_10 : decode cX7_borders 10 = .ok (.ireturn, 1) := by decide +kernel
theorem dX7_attempt_0 : decode cX7_attempt 0 = .ok (.aload_n 0, 1) := by decide +kernel
theorem dX7_attempt_1 : decode cX7_attempt 1 = .ok (.getfield 19, 3) := by decide +kernel
theorem dX7_attempt_4 : decode cX7_attempt 4 = .ok (.iload_n 1, 1) := by decide +kernel
theorem dX7_attempt_5 : decode cX7_attempt 5 = .ok (.invokevirtual 89, 3) := by decide +kernel
theorem dX7_attempt_8 : decode cX7_attempt 8 = .ok (.ifCond .eq 21, 3) := by decide +kernel
theorem dX7_attempt_11 : decode cX7_attempt 11 = .ok (.aload_n 0, 1) := by decide +kernel
theorem dX7_attempt_12 : decode cX7_attempt 12 = .ok (.getfield 19, 3) := by decide +kernel
theorem dX7_attempt_15 : decode cX7_attempt 15 = .ok (.iload_n 2, 1) := by decide +kernel
theorem dX7_attempt_16 : decode cX7_attempt 16 = .ok (.invokevirtual 89, 3) := by decide +kernel
theorem dX7_attempt_19 : decode cX7_attempt 19 = .ok (.ifCond .eq 10, 3) := by decide +kernel
theorem dX7_attempt_22 : decode cX7_attempt 22 = .ok (.iload_n 3, 1) := by decide +kernel
theorem dX7_attempt_23 : decode cX7_attempt 23 = .ok (.invokestatic 92, 3) := by decide +kernel
theorem dX7_attempt_26 : decode cX7_attempt 26 = .ok (.ifCond .ne 5, 3) := by decide +kernel
theorem dX7_attempt_29 : decode cX7_attempt 29 = .ok (.iconst (-1), 1) := by decide +kernel
theorem dX7_attempt_30 : decode cX7_attempt 30 = .ok (.ireturn, 1) := by decide +kernel
theorem dX7_attempt_31 : decode cX7_attempt 31 = .ok (.aload_n 0, 1) := by decide +kernel
theorem dX7_attempt_32 : decode cX7_attempt 32 = .ok (.getfield 19, 3) := by decide +kernel
theorem dX7_attempt_35 : decode cX7_attempt 35 = .ok (.getfield 205, 3) := by decide +kernel
theorem dX7_attempt_38 : decode cX7_attempt 38 = .ok (.iload_n 2, 1) := by decide +kernel
theorem dX7_attempt_39 : decode cX7_attempt 39 = .ok (.iaload, 1) := by decide +kernel
theorem dX7_attempt_40 : decode cX7_attempt 40 = .ok (.aload_n 0, 1) := by decide +kernel
theorem dX7_attempt_41 : decode cX7_attempt 41 = .ok (.getfield 19, 3) := by decide +kernel
theorem dX7_attempt_44 : decode cX7_attempt 44 = .ok (.getfield 205, 3) := by decide +kernel
theorem dX7_attempt_47 : decode cX7_attempt 47 = .ok (.iload_n 1, 1) := by decide +kernel
theorem dX7_attempt_48 : decode cX7_attempt 48 = .ok (.iaload, 1) := by decide +kernel
theorem dX7_attempt_49 : decode cX7_attempt 49 = .ok (.if_icmp .le 14, 3) := by decide +kernel
theorem dX7_attempt_52 : decode cX7_attempt 52 = .ok (.iload 4, 2) := by decide +kernel
theorem dX7_attempt_54 : decode cX7_attempt 54 = .ok (.iconst 1, 1) := by decide +kernel
theorem dX7_attempt_55 : decode cX7_attempt 55 = .ok (.bipush 60, 2) := by decide +kernel
theorem dX7_attempt_57 : decode cX7_attempt 57 = .ok (.invokestatic 63, 3) := by decide +kernel
theorem dX7_attempt_60 : decode cX7_attempt 60 = .ok (.ifCond .ne 6, 3) := by decide +kernel
theorem dX7_attempt_63 : decode cX7_attempt 63 = .ok (.bipush (-2), 2) := by decide +kernel
theorem dX7_attempt_65 : decode cX7_attempt 65 = .ok (.ireturn, 1) := by decide +kernel
theorem dX7_attempt_66 : decode cX7_attempt 66 = .ok (.aload_n 0, 1) := by decide +kernel
theorem dX7_attempt_67 : decode cX7_attempt 67 = .ok (.getfield 47, 3) := by decide +kernel
theorem dX7_attempt_70 : decode cX7_attempt 70 = .ok (.getfield 160, 3) := by decide +kernel
theorem dX7_attempt_73 : decode cX7_attempt 73 = .ok (.sipush 200, 3) := by decide +kernel
theorem dX7_attempt_76 : decode cX7_attempt 76 = .ok (.if_icmp .lt 6, 3) := by decide +kernel
theorem dX7_attempt_79 : decode cX7_attempt 79 = .ok (.bipush (-4), 2) := by decide +kernel
theorem dX7_attempt_81 : decode cX7_attempt 81 = .ok (.ireturn, 1) := by decide +kernel
theorem dX7_attempt_82 : decode cX7_attempt 82 = .ok (.aload_n 0, 1) := by decide +kernel
theorem dX7_attempt_83 : decode cX7_attempt 83 = .ok (.aload_n 0, 1) := by decide +kernel
theorem dX7_attempt_84 : decode cX7_attempt 84 = .ok (.getfield 55, 3) := by decide +kernel
theorem dX7_attempt_87 : decode cX7_attempt 87 = .ok (.invokevirtual 152, 3) := by decide +kernel
theorem dX7_attempt_90 : decode cX7_attempt 90 = .ok (.astore 5, 2) := by decide +kernel
theorem dX7_attempt_92 : decode cX7_attempt 92 = .ok (.aload 5, 2) := by decide +kernel
theorem dX7_attempt_94 : decode cX7_attempt 94 = .ok (.aload_n 0, 1) := by decide +kernel
theorem dX7_attempt_95 : decode cX7_attempt 95 = .ok (.getfield 47, 3) := by decide +kernel
theorem dX7_attempt_98 : decode cX7_attempt 98 = .ok (.invokevirtual 156, 3) := by decide +kernel
theorem dX7_attempt_101 : decode cX7_attempt 101 = .ok (.aload_n 0, 1) := by decide +kernel
theorem dX7_attempt_102 : decode cX7_attempt 102 = .ok (.getfield 33, 3) := by decide +kernel
theorem dX7_attempt_105 : decode cX7_attempt 105 = .ok (.iload_n 1, 1) := by decide +kernel
theorem dX7_attempt_106 : decode cX7_attempt 106 = .ok (.iload_n 2, 1) := by decide +kernel
theorem dX7_attempt_107 : decode cX7_attempt 107 = .ok (.iload_n 3, 1) := by decide +kernel
theorem dX7_attempt_108 : decode cX7_attempt 108 = .ok (.aload_n 0, 1) := by decide +kernel
theorem dX7_attempt_109 : decode cX7_attempt 109 = .ok (.getfield 19, 3) := by decide +kernel
theorem dX7_attempt_112 : decode cX7_attempt 112 = .ok (.invokevirtual 236, 3) := by decide +kernel
theorem dX7_attempt_115 : decode cX7_attempt 115 = .ok (.aload_n 0, 1) := by decide +kernel
theorem dX7_attempt_116 : decode cX7_attempt 116 = .ok (.getfield 47, 3) := by decide +kernel
theorem dX7_attempt_119 : decode cX7_attempt 119 = .ok (.aload_n 0, 1) := by decide +kernel
theorem dX7_attempt_120 : decode cX7_attempt 120 = .ok (.getfield 33, 3) := by decide +kernel
theorem dX7_attempt_123 : decode cX7_attempt 123 = .ok (.iload 4, 2) := by decide +kernel
theorem dX7_attempt_125 : decode cX7_attempt 125 = .ok (.aload_n 0, 1) := by decide +kernel
theorem dX7_attempt_126 : decode cX7_attempt 126 = .ok (.getfield 19, 3) := by decide +kernel
theorem dX7_attempt_129 : decode cX7_attempt 129 = .ok (.aload_n 0, 1) := by decide +kernel
theorem dX7_attempt_130 : decode cX7_attempt 130 = .ok (.getfield 12, 3) := by decide +kernel
theorem dX7_attempt_133 : decode cX7_attempt 133 = .ok (.invokevirtual 240, 3) := by decide +kernel
theorem dX7_attempt_136 : decode cX7_attempt 136 = .ok (.istore 6, 2) := by decide +kernel
theorem dX7_attempt_138 : decode cX7_attempt 138 = .ok (.iload 6, 2) := by decide +kernel
theorem dX7_attempt_140 : decode cX7_attempt 140 = .ok (.ifCond .eq 18, 3) := by decide +kernel
theorem dX7_attempt_143 : decode cX7_attempt 143 = .ok (.aload_n 0, 1) := by decide +kernel
theorem dX7_attempt_144 : decode cX7_attempt 144 = .ok (.getfield 47, 3) := by decide +kernel
theorem dX7_attempt_147 : decode cX7_attempt 147 = .ok (.aload 5, 2) := by decide +kernel
theorem dX7_attempt_149 : decode cX7_attempt 149 = .ok (.invokevirtual 156, 3) := by decide +kernel
theorem dX7_attempt_152 : decode cX7_attempt 152 = .ok (.bipush (-10), 2) := by decide +kernel
theorem dX7_attempt_154 : decode cX7_attempt 154 = .ok (.iload 6, 2) := by decide +kernel
theorem dX7_attempt_156 : decode cX7_attempt 156 = .ok (.isub, 1) := by decide +kernel
theorem dX7_attempt_157 : decode cX7_attempt 157 = .ok (.ireturn, 1) := by decide +kernel
theorem dX7_attempt_158 : decode cX7_attempt 158 = .ok (.aload_n 0, 1) := by decide +kernel
theorem dX7_attempt_159 : decode cX7_attempt 159 = .ok (.getfield 47, 3) := by decide +kernel
theorem dX7_attempt_162 : decode cX7_attempt 162 = .ok (.aload_n 0, 1) := by decide +kernel
theorem dX7_attempt_163 : decode cX7_attempt 163 = .ok (.iload_n 1, 1) := by decide +kernel
theorem dX7_attempt_164 : decode cX7_attempt 164 = .ok (.iload_n 2, 1) := by decide +kernel
theorem dX7_attempt_165 : decode cX7_attempt 165 = .ok (.iload 4, 2) := by decide +kernel
theorem dX7_attempt_167 : decode cX7_attempt 167 = .ok (.invokevirtual 244, 3) := by decide +kernel
theorem dX7_attempt_170 : decode cX7_attempt 170 = .ok (.aload_n 0, 1) := by decide +kernel
theorem dX7_attempt_171 : decode cX7_attempt 171 = .ok (.getfield 12, 3) := by decide +kernel
theorem dX7_attempt_174 : decode cX7_attempt 174 = .ok (.invokevirtual 248, 3) := by decide +kernel
theorem dX7_attempt_177 : decode cX7_attempt 177 = .ok (.aload_n 0, 1) := by decide +kernel
theorem dX7_attempt_178 : decode cX7_attempt 178 = .ok (.getfield 26, 3) := by decide +kernel
theorem dX7_attempt_181 : decode cX7_attempt 181 = .ok (.aload_n 0, 1) := by decide +kernel
theorem dX7_attempt_182 : decode cX7_attempt 182 = .ok (.getfield 47, 3) := by decide +kernel
theorem dX7_attempt_185 : decode cX7_attempt 185 = .ok (.invokevirtual 252, 3) := by decide +kernel
theorem dX7_attempt_188 : decode cX7_attempt 188 = .ok (.aload_n 0, 1) := by decide +kernel
theorem dX7_attempt_189 : decode cX7_attempt 189 = .ok (.iload_n 3, 1) := by decide +kernel
theorem dX7_attempt_190 : decode cX7_attempt 190 = .ok (.iload_n 1, 1) := by decide +kernel
theorem dX7_attempt_191 : decode cX7_attempt 191 = .ok (.invokevirtual 255, 3) := by decide +kernel
theorem dX7_attempt_194 : decode cX7_attempt 194 = .ok (.ireturn, 1) := by decide +kernel
theorem dX7_register_0 : decode cX7_register 0 = .ok (.aload_n 0, 1) := by decide +kernel
theorem dX7_register_1 : decode cX7_register 1 = .ok (.getfield 47, 3) := by decide +kernel
theorem dX7_register_4 : decode cX7_register 4 = .ok (.getfield 160, 3) := by decide +kernel
theorem dX7_register_7 : decode cX7_register 7 = .ok (.istore_n 3, 1) := by decide +kernel
theorem dX7_register_8 : decode cX7_register 8 = .ok (.aload_n 0, 1) := by decide +kernel
theorem dX7_register_9 : decode cX7_register 9 = .ok (.getfield 37, 3) := by decide +kernel
theorem dX7_register_12 : decode cX7_register 12 = .ok (.iload_n 3, 1) := by decide +kernel
theorem dX7_register_13 : decode cX7_register 13 = .ok (.iload_n 1, 1) := by decide +kernel
theorem dX7_register_14 : decode cX7_register 14 = .ok (.iastore, 1) := by decide +kernel
theorem dX7_register_15 : decode cX7_register 15 = .ok (.aload_n 0, 1) := by decide +kernel
theorem dX7_register_16 : decode cX7_register 16 = .ok (.getfield 41, 3) := by decide +kernel
theorem dX7_register_19 : decode cX7_register 19 = .ok (.iload_n 3, 1) := by decide +kernel
theorem dX7_register_20 : decode cX7_register 20 = .ok (.iload_n 2, 1) := by decide +kernel
theorem dX7_register_21 : decode cX7_register 21 = .ok (.iastore, 1) := by decide +kernel
theorem dX7_register_22 : decode cX7_register 22 = .ok (.aload_n 0, 1) := by decide +kernel
theorem dX7_register_23 : decode cX7_register 23 = .ok (.getfield 47, 3) := by decide +kernel
theorem dX7_register_26 : decode cX7_register 26 = .ok (.iload_n 3, 1) := by decide +kernel
theorem dX7_register_27 : decode cX7_register 27 = .ok (.iconst 1, 1) := by decide +kernel
theorem dX7_register_28 : decode cX7_register 28 = .ok (.iadd, 1) := by decide +kernel
theorem dX7_register_29 : decode cX7_register 29 = .ok (.putfield 160, 3) := by decide +kernel
