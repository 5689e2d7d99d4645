theorem dX7_register_32 : decode cX7_register 32 = .ok (.iload_n 3, 1) := by decide +kernel
theorem dX7_register_33 : decode cX7_register 33 = .ok (.ireturn, 1) := by decide +kernel
theorem dX7_hoursFor_0 : decode cX7_hoursFor 0 = .ok (.iconst 1, 1) := by decide +kernel
theorem dX7_hoursFor_1 : decode cX7_hoursFor 1 = .ok (.aload_n 0, 1) := by decide +kernel
theorem dX7_hoursFor_2 : decode cX7_hoursFor 2 = .ok (.getfield 19, 3) := by decide +kernel
theorem dX7_hoursFor_5 : decode cX7_hoursFor 5 = .ok (.getfield 128, 3) := by decide +kernel
theorem dX7_hoursFor_8 : decode cX7_hoursFor 8 = .ok (.iload_n 1, 1) := by decide +kernel
theorem dX7_hoursFor_9 : decode cX7_hoursFor 9 = .ok (.iaload, 1) := by decide +kernel
theorem dX7_hoursFor_10 : decode cX7_hoursFor 10 = .ok (.aload_n 0, 1) := by decide +kernel
theorem dX7_hoursFor_11 : decode cX7_hoursFor 11 = .ok (.getfield 19, 3) := by decide +kernel
theorem dX7_hoursFor_14 : decode cX7_hoursFor 14 = .ok (.getfield 128, 3) := by decide +kernel
theorem dX7_hoursFor_17 : decode cX7_hoursFor 17 = .ok (.iload_n 2, 1) := by decide +kernel
theorem dX7_hoursFor_18 : decode cX7_hoursFor 18 = .ok (.iaload, 1) := by decide +kernel
theorem dX7_hoursFor_19 : decode cX7_hoursFor 19 = .ok (.invokestatic 258, 3) := by decide +kernel
theorem dX7_hoursFor_22 : decode cX7_hoursFor 22 = .ok (.invokestatic 263, 3) := by decide +kernel
theorem dX7_hoursFor_25 : decode cX7_hoursFor 25 = .ok (.istore 4, 2) := by decide +kernel
theorem dX7_hoursFor_27 : decode cX7_hoursFor 27 = .ok (.iload_n 3, 1) := by decide +kernel
theorem dX7_hoursFor_28 : decode cX7_hoursFor 28 = .ok (.iload 4, 2) := by decide +kernel
theorem dX7_hoursFor_30 : decode cX7_hoursFor 30 = .ok (.iadd, 1) := by decide +kernel
theorem dX7_hoursFor_31 : decode cX7_hoursFor 31 = .ok (.iconst 1, 1) := by decide +kernel
theorem dX7_hoursFor_32 : decode cX7_hoursFor 32 = .ok (.isub, 1) := by decide +kernel
theorem dX7_hoursFor_33 : decode cX7_hoursFor 33 = .ok (.iload 4, 2) := by decide +kernel
theorem dX7_hoursFor_35 : decode cX7_hoursFor 35 = .ok (.idiv, 1) := by decide +kernel
theorem dX7_hoursFor_36 : decode cX7_hoursFor 36 = .ok (.ireturn, 1) := by decide +kernel
theorem dX7_earlierAt_0 : decode cX7_earlierAt 0 = .ok (.iconst 0, 1) := by decide +kernel
theorem dX7_earlierAt_1 : decode cX7_earlierAt 1 = .ok (.iload_n 1, 1) := by decide +kernel
theorem dX7_earlierAt_2 : decode cX7_earlierAt 2 = .ok (.sipush 199, 3) := by decide +kernel
theorem dX7_earlierAt_5 : decode cX7_earlierAt 5 = .ok (.invokestatic 258, 3) := by decide +kernel
theorem dX7_earlierAt_8 : decode cX7_earlierAt 8 = .ok (.invokestatic 263, 3) := by decide +kernel
theorem dX7_earlierAt_11 : decode cX7_earlierAt 11 = .ok (.istore_n 2, 1) := by decide +kernel
theorem dX7_earlierAt_12 : decode cX7_earlierAt 12 = .ok (.aload_n 0, 1) := by decide +kernel
theorem dX7_earlierAt_13 : decode cX7_earlierAt 13 = .ok (.getfield 51, 3) := by decide +kernel
theorem dX7_earlierAt_16 : decode cX7_earlierAt 16 = .ok (.iload_n 2, 1) := by decide +kernel
theorem dX7_earlierAt_17 : decode cX7_earlierAt 17 = .ok (.aaload, 1) := by decide +kernel
theorem dX7_earlierAt_18 : decode cX7_earlierAt 18 = .ok (.ifnonnull 16, 3) := by decide +kernel
theorem dX7_earlierAt_21 : decode cX7_earlierAt 21 = .ok (.aload_n 0, 1) := by decide +kernel
theorem dX7_earlierAt_22 : decode cX7_earlierAt 22 = .ok (.getfield 51, 3) := by decide +kernel
theorem dX7_earlierAt_25 : decode cX7_earlierAt 25 = .ok (.iload_n 2, 1) := by decide +kernel
theorem dX7_earlierAt_26 : decode cX7_earlierAt 26 = .ok (.new 44, 3) := by decide +kernel
theorem dX7_earlierAt_29 : decode cX7_earlierAt 29 = .ok (.dup, 1) := by decide +kernel
theorem dX7_earlierAt_30 : decode cX7_earlierAt 30 = .ok (.invokespecial 46, 3) := by decide +kernel
theorem dX7_earlierAt_33 : decode cX7_earlierAt 33 = .ok (.aastore, 1) := by decide +kernel
theorem dX7_earlierAt_34 : decode cX7_earlierAt 34 = .ok (.aload_n 0, 1) := by decide +kernel
theorem dX7_earlierAt_35 : decode cX7_earlierAt 35 = .ok (.getfield 51, 3) := by decide +kernel
theorem dX7_earlierAt_38 : decode cX7_earlierAt 38 = .ok (.iload_n 2, 1) := by decide +kernel
theorem dX7_earlierAt_39 : decode cX7_earlierAt 39 = .ok (.aaload, 1) := by decide +kernel
theorem dX7_earlierAt_40 : decode cX7_earlierAt 40 = .ok (.areturn, 1) := by decide +kernel
theorem dX7_hasTank_0 : decode cX7_hasTank 0 = .ok (.aload_n 0, 1) := by decide +kernel
theorem dX7_hasTank_1 : decode cX7_hasTank 1 = .ok (.getfield 19, 3) := by decide +kernel
theorem dX7_hasTank_4 : decode cX7_hasTank 4 = .ok (.iload_n 1, 1) := by decide +kernel
theorem dX7_hasTank_5 : decode cX7_hasTank 5 = .ok (.invokevirtual 89, 3) := by decide +kernel
theorem dX7_hasTank_8 : decode cX7_hasTank 8 = .ok (.ifCond .eq 30, 3) := by decide +kernel
theorem dX7_hasTank_11 : decode cX7_hasTank 11 = .ok (.iload_n 2, 1) := by decide +kernel
theorem dX7_hasTank_12 : decode cX7_hasTank 12 = .ok (.invokestatic 92, 3) := by decide +kernel
theorem dX7_hasTank_15 : decode cX7_hasTank 15 = .ok (.ifCond .eq 23, 3) := by decide +kernel
theorem dX7_hasTank_18 : decode cX7_hasTank 18 = .ok (.aload_n 0, 1) := by decide +kernel
theorem dX7_hasTank_19 : decode cX7_hasTank 19 = .ok (.getfield 19, 3) := by decide +kernel
theorem dX7_hasTank_22 : decode cX7_hasTank 22 = .ok (.getfield 99, 3) := by decide +kernel
theorem dX7_hasTank_25 : decode cX7_hasTank 25 = .ok (.iload_n 1, 1) := by decide +kernel
theorem dX7_hasTank_26 : decode cX7_hasTank 26 = .ok (.iload_n 2, 1) := by decide +kernel
theorem dX7_hasTank_27 : decode cX7_hasTank 27 = .ok (.invokestatic 95, 3) := by decide +kernel
theorem dX7_hasTank_30 : decode cX7_hasTank 30 = .ok (.baload, 1) := by decide +kernel
theorem dX7_hasTank_31 : decode cX7_hasTank 31 = .ok (.ifCond .eq 7, 3) := by decide +kernel
theorem dX7_hasTank_34 : decode cX7_hasTank 34 = .ok (.iconst 1, 1) := by decide +kernel
theorem dX7_hasTank_35 : decode cX7_hasTank 35 = .ok (.goto 4, 3) := by decide +kernel
theorem dX7_hasTank_38 : decode cX7_hasTank 38 = .ok (.iconst 0, 1) := by decide +kernel
theorem dX7_hasTank_39 : decode cX7_hasTank 39 = .ok (.ireturn, 1) := by decide +kernel
theorem dX7_isKind_0 : decode cX7_isKind 0 = .ok (.iload_n 0, 1) := by decide +kernel
theorem dX7_isKind_1 : decode cX7_isKind 1 = .ok (.iconst 0, 1) := by decide +kernel
theorem dX7_isKind_2 : decode cX7_isKind 2 = .ok (.bipush 7, 2) := by decide +kernel
theorem dX7_isKind_4 : decode cX7_isKind 4 = .ok (.invokestatic 63, 3) := by decide +kernel
theorem dX7_isKind_7 : decode cX7_isKind 7 = .ok (.ireturn, 1) := by decide +kernel
theorem dX7_within_0 : decode cX7_within 0 = .ok (.iload_n 1, 1) := by decide +kernel
theorem dX7_within_1 : decode cX7_within 1 = .ok (.iload_n 0, 1) := by decide +kernel
theorem dX7_within_2 : decode cX7_within 2 = .ok (.if_icmp .gt 12, 3) := by decide +kernel
theorem dX7_within_5 : decode cX7_within 5 = .ok (.iload_n 0, 1) := by decide +kernel
theorem dX7_within_6 : decode cX7_within 6 = .ok (.iload_n 2, 1) := by decide +kernel
theorem dX7_within_7 : decode cX7_within 7 = .ok (.if_icmp .gt 7, 3) := by decide +kernel
theorem dX7_within_10 : decode cX7_within 10 = .ok (.iconst 1, 1) := by decide +kernel
theorem dX7_within_11 : decode cX7_within 11 = .ok (.goto 4, 3) := by decide +kernel
theorem dX7_within_14 : decode cX7_within 14 = .ok (.iconst 0, 1) := by decide +kernel
theorem dX7_within_15 : decode cX7_within 15 = .ok (.ireturn, 1) := by decide +kernel
theorem dX7_tankNumber_0 : decode cX7_tankNumber 0 = .ok (.iload_n 0, 1) := by decide +kernel
theorem dX7_tankNumber_1 : decode cX7_tankNumber 1 = .ok (.bipush 8, 2) := by decide +kernel
theorem dX7_tankNumber_3 : decode cX7_tankNumber 3 = .ok (.imul, 1) := by decide +kernel
theorem dX7_tankNumber_4 : decode cX7_tankNumber 4 = .ok (.iload_n 1, 1) := by decide +kernel
theorem dX7_tankNumber_5 : decode cX7_tankNumber 5 = .ok (.iadd, 1) := by decide +kernel
theorem dX7_tankNumber_6 : decode cX7_tankNumber 6 = .ok (.ireturn, 1) := by decide +kernel
theorem dX7_exchange_0 : decode cX7_exchange 0 = .ok (.aload_n 0, 1) := by decide +kernel
theorem dX7_exchange_1 : decode cX7_exchange 1 = .ok (.iload_n 1, 1) := by decide +kernel
theorem dX7_exchange_2 : decode cX7_exchange 2 = .ok (.iaload, 1) := by decide +kernel
theorem dX7_exchange_3 : decode cX7_exchange 3 = .ok (.istore_n 3, 1) := by decide +kernel
theorem dX7_exchange_4 : decode cX7_exchange 4 = .ok (.aload_n 0, 1) := by decide +kernel
theorem dX7_exchange_5 : decode cX7_exchange 5 = .ok (.iload_n 1, 1) := by decide +kernel
theorem dX7_exchange_6 : decode cX7_exchange 6 = .ok (.iload_n 2, 1) := by decide +kernel
theorem dX7_exchange_7 : decode cX7_exchange 7 = .ok (.iastore, 1) := by decide +kernel
theorem dX7_exchange_8 : decode cX7_exchange 8 = .ok (.iload_n 3, 1) := by decide +kernel
theorem dX7_exchange_9 : decode cX7_exchange 9 = .ok (.ireturn, 1) := by decide +kernel
theorem dJ9_floorMod_7cf53_0 : decode cJ9_floorMod_7cf53 0 = .ok (.iload_n 0, 1) := by decide +kernel
theorem dJ9_floorMod_7cf53_1 : decode cJ9_floorMod_7cf53 1 = .ok (.iload_n 1, 1) := by decide +kernel
theorem dJ9_floorMod_7cf53_2 : decode cJ9_floorMod_7cf53 2 = .ok (.irem, 1) := by decide +kernel
theorem dJ9_floorMod_7cf53_3 : decode cJ9_floorMod_7cf53 3 = .ok (.istore_n 2, 1) := by decide +kernel
theorem dJ9_floorMod_7cf53_4 : decode cJ9_floorMod_7cf53 4 = .ok (.iload_n 0, 1) := by decide +kernel
theorem dJ9_floorMod_7cf53_5 : decode cJ9_floorMod_7cf53 5 = .ok (.iload_n 1, 1) := by decide +kernel
theorem dJ9_floorMod_7cf53_6 : decode cJ9_floorMod_7cf53 6 = .ok (.ixor, 1) := by decide +kernel
theorem dJ9_floorMod_7cf53_7 : decode cJ9_floorMod_7cf53 7 = .ok (.ifCond .ge 11, 3) := by decide +kernel
theorem dJ9_floorMod_7cf53_10 : decode cJ9_floorMod_7cf53 10 = .ok (.iload_n 2, 1) := by decide +kernel
theorem dJ9_floorMod_7cf53_11 : decode cJ9_floorMod_7cf53 11 = .ok (.ifCond .eq 7, 3) := by decide +kernel
theorem dJ9_floorMod_7cf53_14 : decode cJ9_floorMod_7cf53 14 = .ok (.iload_n 2, 1) := by decide +kernel
theorem dJ9_floorMod_7cf53_15 : decode cJ9_floorMod_7cf53 15 = .ok (.iload_n 1, 1) := by decide +kernel
theorem dJ9_floorMod_7cf53_16 : decode cJ9_floorMod_7cf53 16 = .ok (.iadd, 1) := by decide +kernel
theorem dJ9_floorMod_7cf53_17 : decode cJ9_floorMod_7cf53 17 = .ok (.ireturn, 1) := by decide +kernel
theorem dJ9_floorMod_7cf53_18 : decode cJ9_floorMod_7cf53 18 = .ok (.iload_n 2, 1) := by decide +kernel
theorem dJ9_floorMod_7cf53_19 : decode cJ9_floorMod_7cf53 19 = .ok (.ireturn, 1) := by decide +kernel
theorem dJ9_max_7cf53_0 : decode cJ9_max_7cf53 0 = .ok (.iload_n 0, 1) := by decide +kernel
theorem dJ9_max_7cf53_1 : decode cJ9_max_7cf53 1 = .ok (.iload_n 1, 1) := by decide +kernel
theorem dJ9_max_7cf53_2 : decode cJ9_max_7cf53 2 = .ok (.if_icmp .lt 7, 3) := by decide +kernel
theorem dJ9_max_7cf53_5 : decode cJ9_max_7cf53 5 = .ok (.iload_n 0, 1) := by decide +kernel
theorem dJ9_max_7cf53_6 : decode cJ9_max_7cf53 6 = .ok (.goto 4, 3) := by decide +kernel
theorem dJ9_max_7cf53_9 : decode cJ9_max_7cf53 9 = .ok (.iload_n 1, 1) := by decide +kernel
theorem dJ9_max_7cf53_10 : decode cJ9_max_7cf53 10 = .ok (.ireturn, 1) := by decide +kernel
theorem dJ9_min_7cf53_0 : decode cJ9_min_7cf53 0 = .ok (.iload_n 0, 1) := by decide +kernel
theorem dJ9_min_7cf53_1 : decode cJ9_min_7cf53 1 = .ok (.iload_n 1, 1) := by decide +kernel
theorem dJ9_min_7cf53_2 : decode cJ9_min_7cf53 2 = .ok (.if_icmp .gt 7, 3) := by decide +kernel
theorem dJ9_min_7cf53_5 : decode cJ9_min_7cf53 5 = .ok (.iload_n 0, 1) := by decide +kernel
theorem dJ9_min_7cf53_6 : decode cJ9_min_7cf53 6 = .ok (.goto 4, 3) := by decide +kernel
theorem dJ9_min_7cf53_9 : decode cJ9_min_7cf53 9 = .ok (.iload_n 1, 1) := by decide +kernel
theorem dJ9_min_7cf53_10 : decode cJ9_min_7cf53 10 = .ok (.ireturn, 1) := by decide +kernel
theorem dJ7_fill_53178_0 : decode cJ7_fill_53178 0 = .ok (.iconst 0, 1) := by decide +kernel
theorem dJ7_fill_53178_1 : decode cJ7_fill_53178 1 = .ok (.istore_n 2, 1) := by decide +kernel
theorem dJ7_fill_53178_2 : decode cJ7_fill_53178 2 = .ok (.aload_n 0, 1) := by decide +kernel
theorem dJ7_fill_53178_3 : decode cJ7_fill_53178 3 = .ok (.arraylength, 1) := by decide +kernel
theorem dJ7_fill_53178_4 : decode cJ7_fill_53178 4 = .ok (.istore_n 3, 1) := by decide +kernel
theorem dJ7_fill_53178_5 : decode cJ7_fill_53178 5 = .ok (.iload_n 2, 1) := by decide +kernel
theorem dJ7_fill_53178_6 : decode cJ7_fill_53178 6 = .ok (.iload_n 3, 1) := by decide +kernel
theorem dJ7_fill_53178_7 : decode cJ7_fill_53178 7 = .ok (.if_icmp .ge 13, 3) := by decide +kernel
theorem dJ7_fill_53178_10 : decode cJ7_fill_53178 10 = .ok (.aload_n 0, 1) := by decide +kernel
theorem dJ7_fill_53178_11 : decode cJ7_fill_53178 11 = .ok (.iload_n 2, 1) := by decide +kernel
theorem dJ7_fill_53178_12 : decode cJ7_fill_53178 12 = .ok (.iload_n 1, 1) := by decide +kernel
theorem dJ7_fill_53178_13 : decode cJ7_fill_53178 13 = .ok (.iastore, 1) := by decide +kernel
theorem dJ7_fill_53178_14 : decode cJ7_fill_53178 14 = .ok (.iinc 2 1, 3) := by decide +kernel
theorem dJ7_fill_53178_17 : decode cJ7_fill_53178 17 = .ok (.goto (-12), 3) := by decide +kernel
theorem dJ7_fill_53178_20 : decode cJ7_fill_53178 20 = .ok (.return_, 1) := by decide +kernel
