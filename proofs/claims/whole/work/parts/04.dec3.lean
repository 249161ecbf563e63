theorem d_M_is_20 : decode b_M_is 20 = .ok (.invokevirtual 42, 3) := by decide +kernel
theorem d_M_is_23 : decode b_M_is 23 = .ok (.ifCond .eq 5, 3) := by decide +kernel
theorem d_M_is_26 : decode b_M_is 26 = .ok (.iconst 0, 1) := by decide +kernel
theorem d_M_is_27 : decode b_M_is 27 = .ok (.ireturn, 1) := by decide +kernel
theorem d_M_is_28 : decode b_M_is 28 = .ok (.aload_n 0, 1) := by decide +kernel
theorem d_M_is_29 : decode b_M_is 29 = .ok (.getfield 15, 3) := by decide +kernel
theorem d_M_is_32 : decode b_M_is 32 = .ok (.iload_n 1, 1) := by decide +kernel
theorem d_M_is_33 : decode b_M_is 33 = .ok (.aaload, 1) := by decide +kernel
theorem d_M_is_34 : decode b_M_is 34 = .ok (.iload_n 2, 1) := by decide +kernel
theorem d_M_is_35 : decode b_M_is 35 = .ok (.baload, 1) := by decide +kernel
theorem d_M_is_36 : decode b_M_is 36 = .ok (.ireturn, 1) := by decide +kernel
theorem d_M_ways_0 : decode b_M_ways 0 = .ok (.aload_n 0, 1) := by decide +kernel
theorem d_M_ways_1 : decode b_M_ways 1 = .ok (.iload_n 1, 1) := by decide +kernel
theorem d_M_ways_2 : decode b_M_ways 2 = .ok (.invokestatic 35, 3) := by decide +kernel
theorem d_M_ways_5 : decode b_M_ways 5 = .ok (.invokevirtual 42, 3) := by decide +kernel
theorem d_M_ways_8 : decode b_M_ways 8 = .ok (.ifCond .eq 5, 3) := by decide +kernel
theorem d_M_ways_11 : decode b_M_ways 11 = .ok (.iconst 0, 1) := by decide +kernel
theorem d_M_ways_12 : decode b_M_ways 12 = .ok (.ireturn, 1) := by decide +kernel
theorem d_M_ways_13 : decode b_M_ways 13 = .ok (.iconst 0, 1) := by decide +kernel
theorem d_M_ways_14 : decode b_M_ways 14 = .ok (.istore_n 2, 1) := by decide +kernel
theorem d_M_ways_15 : decode b_M_ways 15 = .ok (.iconst 0, 1) := by decide +kernel
theorem d_M_ways_16 : decode b_M_ways 16 = .ok (.istore_n 3, 1) := by decide +kernel
theorem d_M_ways_17 : decode b_M_ways 17 = .ok (.iload_n 3, 1) := by decide +kernel
theorem d_M_ways_18 : decode b_M_ways 18 = .ok (.sipush 1024, 3) := by decide +kernel
theorem d_M_ways_21 : decode b_M_ways 21 = .ok (.if_icmp .ge 23, 3) := by decide +kernel
theorem d_M_ways_24 : decode b_M_ways 24 = .ok (.aload_n 0, 1) := by decide +kernel
theorem d_M_ways_25 : decode b_M_ways 25 = .ok (.getfield 15, 3) := by decide +kernel
theorem d_M_ways_28 : decode b_M_ways 28 = .ok (.iload_n 1, 1) := by decide +kernel
theorem d_M_ways_29 : decode b_M_ways 29 = .ok (.aaload, 1) := by decide +kernel
theorem d_M_ways_30 : decode b_M_ways 30 = .ok (.iload_n 3, 1) := by decide +kernel
theorem d_M_ways_31 : decode b_M_ways 31 = .ok (.baload, 1) := by decide +kernel
theorem d_M_ways_32 : decode b_M_ways 32 = .ok (.ifCond .eq 6, 3) := by decide +kernel
theorem d_M_ways_35 : decode b_M_ways 35 = .ok (.iinc 2 1, 3) := by decide +kernel
theorem d_M_ways_38 : decode b_M_ways 38 = .ok (.iinc 3 1, 3) := by decide +kernel
theorem d_M_ways_41 : decode b_M_ways 41 = .ok (.goto (-24), 3) := by decide +kernel
theorem d_M_ways_44 : decode b_M_ways 44 = .ok (.iload_n 2, 1) := by decide +kernel
theorem d_M_ways_45 : decode b_M_ways 45 = .ok (.ireturn, 1) := by decide +kernel
theorem d_M_turned_0 : decode b_M_turned 0 = .ok (.iconst 0, 1) := by decide +kernel
theorem d_M_turned_1 : decode b_M_turned 1 = .ok (.istore_n 1, 1) := by decide +kernel
theorem d_M_turned_2 : decode b_M_turned 2 = .ok (.iconst 0, 1) := by decide +kernel
theorem d_M_turned_3 : decode b_M_turned 3 = .ok (.istore_n 2, 1) := by decide +kernel
theorem d_M_turned_4 : decode b_M_turned 4 = .ok (.iload_n 2, 1) := by decide +kernel
theorem d_M_turned_5 : decode b_M_turned 5 = .ok (.bipush 10, 2) := by decide +kernel
theorem d_M_turned_7 : decode b_M_turned 7 = .ok (.if_icmp .ge 19, 3) := by decide +kernel
theorem d_M_turned_10 : decode b_M_turned 10 = .ok (.iconst 2, 1) := by decide +kernel
theorem d_M_turned_11 : decode b_M_turned 11 = .ok (.iload_n 1, 1) := by decide +kernel
theorem d_M_turned_12 : decode b_M_turned 12 = .ok (.imul, 1) := by decide +kernel
theorem d_M_turned_13 : decode b_M_turned 13 = .ok (.iload_n 0, 1) := by decide +kernel
theorem d_M_turned_14 : decode b_M_turned 14 = .ok (.iload_n 2, 1) := by decide +kernel
theorem d_M_turned_15 : decode b_M_turned 15 = .ok (.ishr, 1) := by decide +kernel
theorem d_M_turned_16 : decode b_M_turned 16 = .ok (.iconst 1, 1) := by decide +kernel
theorem d_M_turned_17 : decode b_M_turned 17 = .ok (.iand, 1) := by decide +kernel
theorem d_M_turned_18 : decode b_M_turned 18 = .ok (.iadd, 1) := by decide +kernel
theorem d_M_turned_19 : decode b_M_turned 19 = .ok (.istore_n 1, 1) := by decide +kernel
theorem d_M_turned_20 : decode b_M_turned 20 = .ok (.iinc 2 1, 3) := by decide +kernel
theorem d_M_turned_23 : decode b_M_turned 23 = .ok (.goto (-19), 3) := by decide +kernel
theorem d_M_turned_26 : decode b_M_turned 26 = .ok (.iload_n 1, 1) := by decide +kernel
theorem d_M_turned_27 : decode b_M_turned 27 = .ok (.ireturn, 1) := by decide +kernel
theorem d_M_first_0 : decode b_M_first 0 = .ok (.aload_n 0, 1) := by decide +kernel
theorem d_M_first_1 : decode b_M_first 1 = .ok (.iload_n 1, 1) := by decide +kernel
theorem d_M_first_2 : decode b_M_first 2 = .ok (.invokestatic 35, 3) := by decide +kernel
theorem d_M_first_5 : decode b_M_first 5 = .ok (.invokevirtual 42, 3) := by decide +kernel
theorem d_M_first_8 : decode b_M_first 8 = .ok (.ifCond .eq 5, 3) := by decide +kernel
theorem d_M_first_11 : decode b_M_first 11 = .ok (.iconst 0, 1) := by decide +kernel
theorem d_M_first_12 : decode b_M_first 12 = .ok (.ireturn, 1) := by decide +kernel
theorem d_M_first_13 : decode b_M_first 13 = .ok (.iconst (-1), 1) := by decide +kernel
theorem d_M_first_14 : decode b_M_first 14 = .ok (.istore_n 2, 1) := by decide +kernel
theorem d_M_first_15 : decode b_M_first 15 = .ok (.iconst 0, 1) := by decide +kernel
theorem d_M_first_16 : decode b_M_first 16 = .ok (.istore_n 3, 1) := by decide +kernel
theorem d_M_first_17 : decode b_M_first 17 = .ok (.iload_n 3, 1) := by decide +kernel
theorem d_M_first_18 : decode b_M_first 18 = .ok (.sipush 1024, 3) := by decide +kernel
theorem d_M_first_21 : decode b_M_first 21 = .ok (.if_icmp .ge 37, 3) := by decide +kernel
theorem d_M_first_24 : decode b_M_first 24 = .ok (.aload_n 0, 1) := by decide +kernel
theorem d_M_first_25 : decode b_M_first 25 = .ok (.getfield 15, 3) := by decide +kernel
theorem d_M_first_28 : decode b_M_first 28 = .ok (.iload_n 1, 1) := by decide +kernel
theorem d_M_first_29 : decode b_M_first 29 = .ok (.aaload, 1) := by decide +kernel
theorem d_M_first_30 : decode b_M_first 30 = .ok (.iload_n 3, 1) := by decide +kernel
theorem d_M_first_31 : decode b_M_first 31 = .ok (.baload, 1) := by decide +kernel
theorem d_M_first_32 : decode b_M_first 32 = .ok (.ifCond .eq 20, 3) := by decide +kernel
theorem d_M_first_35 : decode b_M_first 35 = .ok (.iload_n 2, 1) := by decide +kernel
theorem d_M_first_36 : decode b_M_first 36 = .ok (.ifCond .lt 14, 3) := by decide +kernel
theorem d_M_first_39 : decode b_M_first 39 = .ok (.iload_n 3, 1) := by decide +kernel
theorem d_M_first_40 : decode b_M_first 40 = .ok (.invokestatic 53, 3) := by decide +kernel
theorem d_M_first_43 : decode b_M_first 43 = .ok (.iload_n 2, 1) := by decide +kernel
theorem d_M_first_44 : decode b_M_first 44 = .ok (.invokestatic 53, 3) := by decide +kernel
theorem d_M_first_47 : decode b_M_first 47 = .ok (.if_icmp .ge 5, 3) := by decide +kernel
theorem d_M_first_50 : decode b_M_first 50 = .ok (.iload_n 3, 1) := by decide +kernel
theorem d_M_first_51 : decode b_M_first 51 = .ok (.istore_n 2, 1) := by decide +kernel
theorem d_M_first_52 : decode b_M_first 52 = .ok (.iinc 3 1, 3) := by decide +kernel
theorem d_M_first_55 : decode b_M_first 55 = .ok (.goto (-38), 3) := by decide +kernel
theorem d_M_first_58 : decode b_M_first 58 = .ok (.iload_n 2, 1) := by decide +kernel
theorem d_M_first_59 : decode b_M_first 59 = .ok (.ifCond .ge 8, 3) := by decide +kernel
theorem d_M_first_62 : decode b_M_first 62 = .ok (.aload_n 0, 1) := by decide +kernel
theorem d_M_first_63 : decode b_M_first 63 = .ok (.iconst 2, 1) := by decide +kernel
theorem d_M_first_64 : decode b_M_first 64 = .ok (.putfield 7, 3) := by decide +kernel
theorem d_M_first_67 : decode b_M_first 67 = .ok (.iconst 0, 1) := by decide +kernel
theorem d_M_first_68 : decode b_M_first 68 = .ok (.iload_n 2, 1) := by decide +kernel
theorem d_M_first_69 : decode b_M_first 69 = .ok (.invokestatic 57, 3) := by decide +kernel
theorem d_M_first_72 : decode b_M_first 72 = .ok (.ireturn, 1) := by decide +kernel
theorem d_M_hangs_0 : decode b_M_hangs 0 = .ok (.aload_n 0, 1) := by decide +kernel
theorem d_M_hangs_1 : decode b_M_hangs 1 = .ok (.iload_n 1, 1) := by decide +kernel
theorem d_M_hangs_2 : decode b_M_hangs 2 = .ok (.invokestatic 35, 3) := by decide +kernel
theorem d_M_hangs_5 : decode b_M_hangs 5 = .ok (.invokevirtual 42, 3) := by decide +kernel
theorem d_M_hangs_8 : decode b_M_hangs 8 = .ok (.ifCond .eq 5, 3) := by decide +kernel
theorem d_M_hangs_11 : decode b_M_hangs 11 = .ok (.iconst 0, 1) := by decide +kernel
theorem d_M_hangs_12 : decode b_M_hangs 12 = .ok (.ireturn, 1) := by decide +kernel
theorem d_M_hangs_13 : decode b_M_hangs 13 = .ok (.iconst 0, 1) := by decide +kernel
theorem d_M_hangs_14 : decode b_M_hangs 14 = .ok (.istore_n 2, 1) := by decide +kernel
theorem d_M_hangs_15 : decode b_M_hangs 15 = .ok (.iconst 0, 1) := by decide +kernel
theorem d_M_hangs_16 : decode b_M_hangs 16 = .ok (.istore_n 3, 1) := by decide +kernel
theorem d_M_hangs_17 : decode b_M_hangs 17 = .ok (.iload_n 3, 1) := by decide +kernel
theorem d_M_hangs_18 : decode b_M_hangs 18 = .ok (.bipush 10, 2) := by decide +kernel
theorem d_M_hangs_20 : decode b_M_hangs 20 = .ok (.if_icmp .ge 57, 3) := by decide +kernel
theorem d_M_hangs_23 : decode b_M_hangs 23 = .ok (.iconst 0, 1) := by decide +kernel
theorem d_M_hangs_24 : decode b_M_hangs 24 = .ok (.istore 4, 2) := by decide +kernel
theorem d_M_hangs_26 : decode b_M_hangs 26 = .ok (.iload 4, 2) := by decide +kernel
theorem d_M_hangs_28 : decode b_M_hangs 28 = .ok (.sipush 1024, 3) := by decide +kernel
theorem d_M_hangs_31 : decode b_M_hangs 31 = .ok (.if_icmp .ge 40, 3) := by decide +kernel
theorem d_M_hangs_34 : decode b_M_hangs 34 = .ok (.aload_n 0, 1) := by decide +kernel
theorem d_M_hangs_35 : decode b_M_hangs 35 = .ok (.getfield 15, 3) := by decide +kernel
theorem d_M_hangs_38 : decode b_M_hangs 38 = .ok (.iload_n 1, 1) := by decide +kernel
theorem d_M_hangs_39 : decode b_M_hangs 39 = .ok (.aaload, 1) := by decide +kernel
theorem d_M_hangs_40 : decode b_M_hangs 40 = .ok (.iload 4, 2) := by decide +kernel
theorem d_M_hangs_42 : decode b_M_hangs 42 = .ok (.baload, 1) := by decide +kernel
theorem d_M_hangs_43 : decode b_M_hangs 43 = .ok (.aload_n 0, 1) := by decide +kernel
theorem d_M_hangs_44 : decode b_M_hangs 44 = .ok (.getfield 15, 3) := by decide +kernel
theorem d_M_hangs_47 : decode b_M_hangs 47 = .ok (.iload_n 1, 1) := by decide +kernel
theorem d_M_hangs_48 : decode b_M_hangs 48 = .ok (.aaload, 1) := by decide +kernel
theorem d_M_hangs_49 : decode b_M_hangs 49 = .ok (.iload 4, 2) := by decide +kernel
theorem d_M_hangs_51 : decode b_M_hangs 51 = .ok (.iconst 1, 1) := by decide +kernel
theorem d_M_hangs_52 : decode b_M_hangs 52 = .ok (.iload_n 3, 1) := by decide +kernel
theorem d_M_hangs_53 : decode b_M_hangs 53 = .ok (.ishl, 1) := by decide +kernel
theorem d_M_hangs_54 : decode b_M_hangs 54 = .ok (.ixor, 1) := by decide +kernel
theorem d_M_hangs_55 : decode b_M_hangs 55 = .ok (.baload, 1) := by decide +kernel
theorem d_M_hangs_56 : decode b_M_hangs 56 = .ok (.if_icmp .eq 9, 3) := by decide +kernel
theorem d_M_hangs_59 : decode b_M_hangs 59 = .ok (.iload_n 2, 1) := by decide +kernel
theorem d_M_hangs_60 : decode b_M_hangs 60 = .ok (.iconst 1, 1) := by decide +kernel
theorem d_M_hangs_61 : decode b_M_hangs 61 = .ok (.iload_n 3, 1) := by decide +kernel
theorem d_M_hangs_62 : decode b_M_hangs 62 = .ok (.ishl, 1) := by decide +kernel
theorem d_M_hangs_63 : decode b_M_hangs 63 = .ok (.ior, 1) := by decide +kernel
theorem d_M_hangs_64 : decode b_M_hangs 64 = .ok (.istore_n 2, 1) := by decide +kernel
theorem d_M_hangs_65 : decode b_M_hangs 65 = .ok (.iinc 4 1, 3) := by decide +kernel
theorem d_M_hangs_68 : decode b_M_hangs 68 = .ok (.goto (-42), 3) := by decide +kernel
theorem d_M_hangs_71 : decode b_M_hangs 71 = .ok (.iinc 3 1, 3) := by decide +kernel
theorem d_M_hangs_74 : decode b_M_hangs 74 = .ok (.goto (-57), 3) := by decide +kernel
theorem d_M_hangs_77 : decode b_M_hangs 77 = .ok (.iload_n 2, 1) := by decide +kernel
theorem d_M_hangs_78 : decode b_M_hangs 78 = .ok (.ireturn, 1) := by decide +kernel
theorem d_M_same_0 : decode b_M_same 0 = .ok (.aload_n 0, 1) := by decide +kernel
theorem d_M_same_1 : decode b_M_same 1 = .ok (.iload_n 1, 1) := by decide +kernel
theorem d_M_same_2 : decode b_M_same 2 = .ok (.invokestatic 35, 3) := by decide +kernel
theorem d_M_same_5 : decode b_M_same 5 = .ok (.ifCond .ne 10, 3) := by decide +kernel
theorem d_M_same_8 : decode b_M_same 8 = .ok (.iload_n 2, 1) := by decide +kernel
theorem d_M_same_9 : decode b_M_same 9 = .ok (.invokestatic 35, 3) := by decide +kernel
theorem d_M_same_12 : decode b_M_same 12 = .ok (.ifCond .eq 7, 3) := by decide +kernel
theorem d_M_same_15 : decode b_M_same 15 = .ok (.iconst 1, 1) := by decide +kernel
theorem d_M_same_16 : decode b_M_same 16 = .ok (.goto 4, 3) := by decide +kernel
theorem d_M_same_19 : decode b_M_same 19 = .ok (.iconst 0, 1) := by decide +kernel
theorem d_M_same_20 : decode b_M_same 20 = .ok (.invokevirtual 42, 3) := by decide +kernel
theorem d_M_same_23 : decode b_M_same 23 = .ok (.ifCond .eq 5, 3) := by decide +kernel
theorem d_M_same_26 : decode b_M_same 26 = .ok (.iconst 0, 1) := by decide +kernel
theorem d_M_same_27 : decode b_M_same 27 = .ok (.ireturn, 1) := by decide +kernel
theorem d_M_same_28 : decode b_M_same 28 = .ok (.iconst 0, 1) := by decide +kernel
theorem d_M_same_29 : decode b_M_same 29 = .ok (.istore_n 3, 1) := by decide +kernel
theorem d_M_same_30 : decode b_M_same 30 = .ok (.iload_n 3, 1) := by decide +kernel
theorem d_M_same_31 : decode b_M_same 31 = .ok (.sipush 1024, 3) := by decide +kernel
theorem d_M_same_34 : decode b_M_same 34 = .ok (.if_icmp .ge 30, 3) := by decide +kernel
theorem d_M_same_37 : decode b_M_same 37 = .ok (.aload_n 0, 1) := by decide +kernel
theorem d_M_same_38 : decode b_M_same 38 = .ok (.getfield 15, 3) := by decide +kernel
theorem d_M_same_41 : decode b_M_same 41 = .ok (.iload_n 1, 1) := by decide +kernel
theorem d_M_same_42 : decode b_M_same 42 = .ok (.aaload, 1) := by decide +kernel
theorem d_M_same_43 : decode b_M_same 43 = .ok (.iload_n 3, 1) := by decide +kernel
theorem d_M_same_44 : decode b_M_same 44 = .ok (.baload, 1) := by decide +kernel
theorem d_M_same_45 : decode b_M_same 45 = .ok (.aload_n 0, 1) := by decide +kernel
theorem d_M_same_46 : decode b_M_same 46 = .ok (.getfield 15, 3) := by decide +kernel
theorem d_M_same_49 : decode b_M_same 49 = .ok (.iload_n 2, 1) := by decide +kernel
theorem d_M_same_50 : decode b_M_same 50 = .ok (.aaload, 1) := by decide +kernel
theorem d_M_same_51 : decode b_M_same 51 = .ok (.iload_n 3, 1) := by decide +kernel
theorem d_M_same_52 : decode b_M_same 52 = .ok (.baload, 1) := by decide +kernel
theorem d_M_same_53 : decode b_M_same 53 = .ok (.if_icmp .eq 5, 3) := by decide +kernel
theorem d_M_same_56 : decode b_M_same 56 = .ok (.iconst 0, 1) := by decide +kernel
theorem d_M_same_57 : decode b_M_same 57 = .ok (.ireturn, 1) := by decide +kernel
theorem d_M_same_58 : decode b_M_same 58 = .ok (.iinc 3 1, 3) := by decide +kernel
theorem d_M_same_61 : decode b_M_same 61 = .ok (.goto (-31), 3) := by decide +kernel
theorem d_M_same_64 : decode b_M_same 64 = .ok (.iconst 1, 1) := by decide +kernel
theorem d_M_same_65 : decode b_M_same 65 = .ok (.ireturn, 1) := by decide +kernel
theorem d_M_hangsOn_0 : decode b_M_hangsOn 0 = .ok (.iconst 0, 1) := by decide +kernel
theorem d_M_hangsOn_1 : decode b_M_hangsOn 1 = .ok (.istore 4, 2) := by decide +kernel
theorem d_M_hangsOn_3 : decode b_M_hangsOn 3 = .ok (.iload 4, 2) := by decide +kernel
theorem d_M_hangsOn_5 : decode b_M_hangsOn 5 = .ok (.sipush 1024, 3) := by decide +kernel
theorem d_M_hangsOn_8 : decode b_M_hangsOn 8 = .ok (.iload_n 2, 1) := by decide +kernel
theorem d_M_hangsOn_9 : decode b_M_hangsOn 9 = .ok (.ishr, 1) := by decide +kernel
theorem d_M_hangsOn_10 : decode b_M_hangsOn 10 = .ok (.if_icmp .ge 42, 3) := by decide +kernel
theorem d_M_hangsOn_13 : decode b_M_hangsOn 13 = .ok (.aload_n 0, 1) := by decide +kernel
theorem d_M_hangsOn_14 : decode b_M_hangsOn 14 = .ok (.getfield 15, 3) := by decide +kernel
theorem d_M_hangsOn_17 : decode b_M_hangsOn 17 = .ok (.iload_n 1, 1) := by decide +kernel
theorem d_M_hangsOn_18 : decode b_M_hangsOn 18 = .ok (.aaload, 1) := by decide +kernel
theorem d_M_hangsOn_19 : decode b_M_hangsOn 19 = .ok (.iload_n 3, 1) := by decide +kernel
theorem d_M_hangsOn_20 : decode b_M_hangsOn 20 = .ok (.iload 4, 2) := by decide +kernel
theorem d_M_hangsOn_22 : decode b_M_hangsOn 22 = .ok (.iload_n 2, 1) := by decide +kernel
theorem d_M_hangsOn_23 : decode b_M_hangsOn 23 = .ok (.ishl, 1) := by decide +kernel
theorem d_M_hangsOn_24 : decode b_M_hangsOn 24 = .ok (.iadd, 1) := by decide +kernel
theorem d_M_hangsOn_25 : decode b_M_hangsOn 25 = .ok (.baload, 1) := by decide +kernel
theorem d_M_hangsOn_26 : decode b_M_hangsOn 26 = .ok (.aload_n 0, 1) := by decide +kernel
theorem d_M_hangsOn_27 : decode b_M_hangsOn 27 = .ok (.getfield 15, 3) := by decide +kernel
theorem d_M_hangsOn_30 : decode b_M_hangsOn 30 = .ok (.iload_n 1, 1) := by decide +kernel
theorem d_M_hangsOn_31 : decode b_M_hangsOn 31 = .ok (.aaload, 1) := by decide +kernel
theorem d_M_hangsOn_32 : decode b_M_hangsOn 32 = .ok (.iload_n 3, 1) := by decide +kernel
theorem d_M_hangsOn_33 : decode b_M_hangsOn 33 = .ok (.iload 4, 2) := by decide +kernel
theorem d_M_hangsOn_35 : decode b_M_hangsOn 35 = .ok (.iconst 1, 1) := by decide +kernel
theorem d_M_hangsOn_36 : decode b_M_hangsOn 36 = .ok (.ixor, 1) := by decide +kernel
theorem d_M_hangsOn_37 : decode b_M_hangsOn 37 = .ok (.iload_n 2, 1) := by decide +kernel
theorem d_M_hangsOn_38 : decode b_M_hangsOn 38 = .ok (.ishl, 1) := by decide +kernel
theorem d_M_hangsOn_39 : decode b_M_hangsOn 39 = .ok (.iadd, 1) := by decide +kernel
theorem d_M_hangsOn_40 : decode b_M_hangsOn 40 = .ok (.baload, 1) := by decide +kernel
theorem d_M_hangsOn_41 : decode b_M_hangsOn 41 = .ok (.if_icmp .eq 5, 3) := by decide +kernel
theorem d_M_hangsOn_44 : decode b_M_hangsOn 44 = .ok (.iconst 1, 1) := by decide +kernel
theorem d_M_hangsOn_45 : decode b_M_hangsOn 45 = .ok (.ireturn, 1) := by decide +kernel
theorem d_M_hangsOn_46 : decode b_M_hangsOn 46 = .ok (.iinc 4 1, 3) := by decide +kernel
theorem d_M_hangsOn_49 : decode b_M_hangsOn 49 = .ok (.goto (-46), 3) := by decide +kernel
theorem d_M_hangsOn_52 : decode b_M_hangsOn 52 = .ok (.iconst 0, 1) := by decide +kernel
theorem d_M_hangsOn_53 : decode b_M_hangsOn 53 = .ok (.ireturn, 1) := by decide +kernel
theorem d_M_alike_0 : decode b_M_alike 0 = .ok (.iconst 0, 1) := by decide +kernel
theorem d_M_alike_1 : decode b_M_alike 1 = .ok (.istore 6, 2) := by decide +kernel
theorem d_M_alike_3 : decode b_M_alike 3 = .ok (.iload 6, 2) := by decide +kernel
theorem d_M_alike_5 : decode b_M_alike 5 = .ok (.sipush 1024, 3) := by decide +kernel
theorem d_M_alike_8 : decode b_M_alike 8 = .ok (.iload 5, 2) := by decide +kernel
theorem d_M_alike_10 : decode b_M_alike 10 = .ok (.ishr, 1) := by decide +kernel
theorem d_M_alike_11 : decode b_M_alike 11 = .ok (.if_icmp .ge 43, 3) := by decide +kernel
theorem d_M_alike_14 : decode b_M_alike 14 = .ok (.aload_n 0, 1) := by decide +kernel
theorem d_M_alike_15 : decode b_M_alike 15 = .ok (.getfield 15, 3) := by decide +kernel
theorem d_M_alike_18 : decode b_M_alike 18 = .ok (.iload_n 1, 1) := by decide +kernel
theorem d_M_alike_19 : decode b_M_alike 19 = .ok (.aaload, 1) := by decide +kernel
theorem d_M_alike_20 : decode b_M_alike 20 = .ok (.iload_n 2, 1) := by decide +kernel
theorem d_M_alike_21 : decode b_M_alike 21 = .ok (.iload 6, 2) := by decide +kernel
theorem d_M_alike_23 : decode b_M_alike 23 = .ok (.iload 5, 2) := by decide +kernel
theorem d_M_alike_25 : decode b_M_alike 25 = .ok (.ishl, 1) := by decide +kernel
theorem d_M_alike_26 : decode b_M_alike 26 = .ok (.iadd, 1) := by decide +kernel
theorem d_M_alike_27 : decode b_M_alike 27 = .ok (.baload, 1) := by decide +kernel
theorem d_M_alike_28 : decode b_M_alike 28 = .ok (.aload_n 0, 1) := by decide +kernel
theorem d_M_alike_29 : decode b_M_alike 29 = .ok (.getfield 15, 3) := by decide +kernel
theorem d_M_alike_32 : decode b_M_alike 32 = .ok (.iload_n 3, 1) := by decide +kernel
theorem d_M_alike_33 : decode b_M_alike 33 = .ok (.aaload, 1) := by decide +kernel
theorem d_M_alike_34 : decode b_M_alike 34 = .ok (.iload 4, 2) := by decide +kernel
theorem d_M_alike_36 : decode b_M_alike 36 = .ok (.iload 6, 2) := by decide +kernel
theorem d_M_alike_38 : decode b_M_alike 38 = .ok (.iload 5, 2) := by decide +kernel
theorem d_M_alike_40 : decode b_M_alike 40 = .ok (.ishl, 1) := by decide +kernel
theorem d_M_alike_41 : decode b_M_alike 41 = .ok (.iadd, 1) := by decide +kernel
theorem d_M_alike_42 : decode b_M_alike 42 = .ok (.baload, 1) := by decide +kernel
theorem d_M_alike_43 : decode b_M_alike 43 = .ok (.if_icmp .eq 5, 3) := by decide +kernel
theorem d_M_alike_46 : decode b_M_alike 46 = .ok (.iconst 0, 1) := by decide +kernel
theorem d_M_alike_47 : decode b_M_alike 47 = .ok (.ireturn, 1) := by decide +kernel
theorem d_M_alike_48 : decode b_M_alike 48 = .ok (.iinc 6 1, 3) := by decide +kernel
theorem d_M_alike_51 : decode b_M_alike 51 = .ok (.goto (-48), 3) := by decide +kernel
theorem d_M_alike_54 : decode b_M_alike 54 = .ok (.iconst 1, 1) := by decide +kernel
theorem d_M_alike_55 : decode b_M_alike 55 = .ok (.ireturn, 1) := by decide +kernel
theorem d_M_count_0 : decode b_M_count 0 = .ok (.iconst 0, 1) := by decide +kernel
theorem d_M_count_1 : decode b_M_count 1 = .ok (.istore_n 3, 1) := by decide +kernel
theorem d_M_count_2 : decode b_M_count 2 = .ok (.iconst 0, 1) := by decide +kernel
theorem d_M_count_3 : decode b_M_count 3 = .ok (.istore 4, 2) := by decide +kernel
theorem d_M_count_5 : decode b_M_count 5 = .ok (.iload 4, 2) := by decide +kernel
theorem d_M_count_7 : decode b_M_count 7 = .ok (.bipush 10, 2) := by decide +kernel
theorem d_M_count_9 : decode b_M_count 9 = .ok (.if_icmp .ge 140, 3) := by decide +kernel
theorem d_M_count_12 : decode b_M_count 12 = .ok (.iconst 0, 1) := by decide +kernel
theorem d_M_count_13 : decode b_M_count 13 = .ok (.istore 5, 2) := by decide +kernel
theorem d_M_count_15 : decode b_M_count 15 = .ok (.iload_n 1, 1) := by decide +kernel
theorem d_M_count_16 : decode b_M_count 16 = .ok (.istore 6, 2) := by decide +kernel
theorem d_M_count_18 : decode b_M_count 18 = .ok (.iload 6, 2) := by decide +kernel
theorem d_M_count_20 : decode b_M_count 20 = .ok (.iload_n 2, 1) := by decide +kernel
theorem d_M_count_21 : decode b_M_count 21 = .ok (.if_icmp .ge 117, 3) := by decide +kernel
theorem d_M_count_24 : decode b_M_count 24 = .ok (.iconst 0, 1) := by decide +kernel
theorem d_M_count_25 : decode b_M_count 25 = .ok (.istore 7, 2) := by decide +kernel
theorem d_M_count_27 : decode b_M_count 27 = .ok (.iload 7, 2) := by decide +kernel
theorem d_M_count_29 : decode b_M_count 29 = .ok (.iconst 1, 1) := by decide +kernel
theorem d_M_count_30 : decode b_M_count 30 = .ok (.iload 4, 2) := by decide +kernel
theorem d_M_count_32 : decode b_M_count 32 = .ok (.ishl, 1) := by decide +kernel
theorem d_M_count_33 : decode b_M_count 33 = .ok (.if_icmp .ge 99, 3) := by decide +kernel
theorem d_M_count_36 : decode b_M_count 36 = .ok (.aload_n 0, 1) := by decide +kernel
theorem d_M_count_37 : decode b_M_count 37 = .ok (.iload 6, 2) := by decide +kernel
theorem d_M_count_39 : decode b_M_count 39 = .ok (.iload 4, 2) := by decide +kernel
theorem d_M_count_41 : decode b_M_count 41 = .ok (.iload 7, 2) := by decide +kernel
theorem d_M_count_43 : decode b_M_count 43 = .ok (.invokevirtual 63, 3) := by decide +kernel
theorem d_M_count_46 : decode b_M_count 46 = .ok (.ifCond .ne 6, 3) := by decide +kernel
theorem d_M_count_49 : decode b_M_count 49 = .ok (.goto 77, 3) := by decide +kernel
theorem d_M_count_52 : decode b_M_count 52 = .ok (.iconst 0, 1) := by decide +kernel
theorem d_M_count_53 : decode b_M_count 53 = .ok (.istore 8, 2) := by decide +kernel
theorem d_M_count_55 : decode b_M_count 55 = .ok (.iload 8, 2) := by decide +kernel
theorem d_M_count_57 : decode b_M_count 57 = .ok (.iload 5, 2) := by decide +kernel
theorem d_M_count_59 : decode b_M_count 59 = .ok (.if_icmp .ge 36, 3) := by decide +kernel
theorem d_M_count_62 : decode b_M_count 62 = .ok (.aload_n 0, 1) := by decide +kernel
theorem d_M_count_63 : decode b_M_count 63 = .ok (.iload 6, 2) := by decide +kernel
theorem d_M_count_65 : decode b_M_count 65 = .ok (.iload 7, 2) := by decide +kernel
theorem d_M_count_67 : decode b_M_count 67 = .ok (.aload_n 0, 1) := by decide +kernel
theorem d_M_count_68 : decode b_M_count 68 = .ok (.getfield 22, 3) := by decide +kernel
theorem d_M_count_71 : decode b_M_count 71 = .ok (.iload 8, 2) := by decide +kernel
theorem d_M_count_73 : decode b_M_count 73 = .ok (.iaload, 1) := by decide +kernel
theorem d_M_count_74 : decode b_M_count 74 = .ok (.aload_n 0, 1) := by decide +kernel
theorem d_M_count_75 : decode b_M_count 75 = .ok (.getfield 26, 3) := by decide +kernel
theorem d_M_count_78 : decode b_M_count 78 = .ok (.iload 8, 2) := by decide +kernel
theorem d_M_count_80 : decode b_M_count 80 = .ok (.iaload, 1) := by decide +kernel
theorem d_M_count_81 : decode b_M_count 81 = .ok (.iload 4, 2) := by decide +kernel
theorem d_M_count_83 : decode b_M_count 83 = .ok (.invokevirtual 67, 3) := by decide +kernel
theorem d_M_count_86 : decode b_M_count 86 = .ok (.ifCond .ne 9, 3) := by decide +kernel
theorem d_M_count_89 : decode b_M_count 89 = .ok (.iinc 8 1, 3) := by decide +kernel
theorem d_M_count_92 : decode b_M_count 92 = .ok (.goto (-37), 3) := by decide +kernel
theorem d_M_count_95 : decode b_M_count 95 = .ok (.iload 8, 2) := by decide +kernel
theorem d_M_count_97 : decode b_M_count 97 = .ok (.iload 5, 2) := by decide +kernel
theorem d_M_count_99 : decode b_M_count 99 = .ok (.if_icmp .ge 6, 3) := by decide +kernel
theorem d_M_count_102 : decode b_M_count 102 = .ok (.goto 24, 3) := by decide +kernel
theorem d_M_count_105 : decode b_M_count 105 = .ok (.aload_n 0, 1) := by decide +kernel
theorem d_M_count_106 : decode b_M_count 106 = .ok (.getfield 22, 3) := by decide +kernel
theorem d_M_count_109 : decode b_M_count 109 = .ok (.iload 5, 2) := by decide +kernel
theorem d_M_count_111 : decode b_M_count 111 = .ok (.iload 6, 2) := by decide +kernel
theorem d_M_count_113 : decode b_M_count 113 = .ok (.iastore, 1) := by decide +kernel
theorem d_M_count_114 : decode b_M_count 114 = .ok (.aload_n 0, 1) := by decide +kernel
theorem d_M_count_115 : decode b_M_count 115 = .ok (.getfield 26, 3) := by decide +kernel
theorem d_M_count_118 : decode b_M_count 118 = .ok (.iload 5, 2) := by decide +kernel
theorem d_M_count_120 : decode b_M_count 120 = .ok (.iinc 5 1, 3) := by decide +kernel
theorem d_M_count_123 : decode b_M_count 123 = .ok (.iload 7, 2) := by decide +kernel
theorem d_M_count_125 : decode b_M_count 125 = .ok (.iastore, 1) := by decide +kernel
theorem d_M_count_126 : decode b_M_count 126 = .ok (.iinc 7 1, 3) := by decide +kernel
theorem d_M_count_129 : decode b_M_count 129 = .ok (.goto (-102), 3) := by decide +kernel
theorem d_M_count_132 : decode b_M_count 132 = .ok (.iinc 6 1, 3) := by decide +kernel
theorem d_M_count_135 : decode b_M_count 135 = .ok (.goto (-117), 3) := by decide +kernel
theorem d_M_count_138 : decode b_M_count 138 = .ok (.iload_n 3, 1) := by decide +kernel
theorem d_M_count_139 : decode b_M_count 139 = .ok (.iload 5, 2) := by decide +kernel
theorem d_M_count_141 : decode b_M_count 141 = .ok (.iadd, 1) := by decide +kernel
theorem d_M_count_142 : decode b_M_count 142 = .ok (.istore_n 3, 1) := by decide +kernel
theorem d_M_count_143 : decode b_M_count 143 = .ok (.iinc 4 1, 3) := by decide +kernel
theorem d_M_count_146 : decode b_M_count 146 = .ok (.goto (-141), 3) := by decide +kernel
theorem d_M_count_149 : decode b_M_count 149 = .ok (.iload_n 3, 1) := by decide +kernel
theorem d_M_count_150 : decode b_M_count 150 = .ok (.ireturn, 1) := by decide +kernel
theorem d_M_parts_0 : decode b_M_parts 0 = .ok (.aload_n 0, 1) := by decide +kernel
theorem d_M_parts_1 : decode b_M_parts 1 = .ok (.iload_n 1, 1) := by decide +kernel
theorem d_M_parts_2 : decode b_M_parts 2 = .ok (.invokestatic 35, 3) := by decide +kernel
theorem d_M_parts_5 : decode b_M_parts 5 = .ok (.invokevirtual 42, 3) := by decide +kernel
theorem d_M_parts_8 : decode b_M_parts 8 = .ok (.ifCond .eq 5, 3) := by decide +kernel
theorem d_M_parts_11 : decode b_M_parts 11 = .ok (.iconst 0, 1) := by decide +kernel
theorem d_M_parts_12 : decode b_M_parts 12 = .ok (.ireturn, 1) := by decide +kernel
theorem d_M_parts_13 : decode b_M_parts 13 = .ok (.aload_n 0, 1) := by decide +kernel
theorem d_M_parts_14 : decode b_M_parts 14 = .ok (.iload_n 1, 1) := by decide +kernel
theorem d_M_parts_15 : decode b_M_parts 15 = .ok (.iload_n 1, 1) := by decide +kernel
theorem d_M_parts_16 : decode b_M_parts 16 = .ok (.iconst 1, 1) := by decide +kernel
theorem d_M_parts_17 : decode b_M_parts 17 = .ok (.iadd, 1) := by decide +kernel
theorem d_M_parts_18 : decode b_M_parts 18 = .ok (.invokevirtual 71, 3) := by decide +kernel
theorem d_M_parts_21 : decode b_M_parts 21 = .ok (.ireturn, 1) := by decide +kernel
theorem d_M_together_0 : decode b_M_together 0 = .ok (.aload_n 0, 1) := by decide +kernel
theorem d_M_together_1 : decode b_M_together 1 = .ok (.iload_n 1, 1) := by decide +kernel
theorem d_M_together_2 : decode b_M_together 2 = .ok (.ifCond .lt 14, 3) := by decide +kernel
theorem d_M_together_5 : decode b_M_together 5 = .ok (.iload_n 2, 1) := by decide +kernel
theorem d_M_together_6 : decode b_M_together 6 = .ok (.bipush 16, 2) := by decide +kernel
theorem d_M_together_8 : decode b_M_together 8 = .ok (.if_icmp .gt 8, 3) := by decide +kernel
theorem d_M_together_11 : decode b_M_together 11 = .ok (.iload_n 1, 1) := by decide +kernel
theorem d_M_together_12 : decode b_M_together 12 = .ok (.iload_n 2, 1) := by decide +kernel
theorem d_M_together_13 : decode b_M_together 13 = .ok (.if_icmp .lt 7, 3) := by decide +kernel
theorem d_M_together_16 : decode b_M_together 16 = .ok (.iconst 1, 1) := by decide +kernel
theorem d_M_together_17 : decode b_M_together 17 = .ok (.goto 4, 3) := by decide +kernel
theorem d_M_together_20 : decode b_M_together 20 = .ok (.iconst 0, 1) := by decide +kernel
theorem d_M_together_21 : decode b_M_together 21 = .ok (.invokevirtual 42, 3) := by decide +kernel
theorem d_M_together_24 : decode b_M_together 24 = .ok (.ifCond .eq 5, 3) := by decide +kernel
theorem d_M_together_27 : decode b_M_together 27 = .ok (.iconst 0, 1) := by decide +kernel
theorem d_M_together_28 : decode b_M_together 28 = .ok (.ireturn, 1) := by decide +kernel
theorem d_M_together_29 : decode b_M_together 29 = .ok (.aload_n 0, 1) := by decide +kernel
theorem d_M_together_30 : decode b_M_together 30 = .ok (.iload_n 1, 1) := by decide +kernel
theorem d_M_together_31 : decode b_M_together 31 = .ok (.iload_n 2, 1) := by decide +kernel
theorem d_M_together_32 : decode b_M_together 32 = .ok (.invokevirtual 71, 3) := by decide +kernel
theorem d_M_together_35 : decode b_M_together 35 = .ok (.ireturn, 1) := by decide +kernel
theorem d_G_init_0 : decode b_G_init 0 = .ok (.aload_n 0, 1) := by decide +kernel
theorem d_G_init_1 : decode b_G_init 1 = .ok (.invokespecial 5, 3) := by decide +kernel
theorem d_G_init_4 : decode b_G_init 4 = .ok (.aload_n 0, 1) := by decide +kernel
theorem d_G_init_5 : decode b_G_init 5 = .ok (.sipush 4096, 3) := by decide +kernel
theorem d_G_init_8 : decode b_G_init 8 = .ok (.newarray .int, 2) := by decide +kernel
theorem d_G_init_10 : decode b_G_init 10 = .ok (.putfield 11, 3) := by decide +kernel
theorem d_G_init_13 : decode b_G_init 13 = .ok (.aload_n 0, 1) := by decide +kernel
theorem d_G_init_14 : decode b_G_init 14 = .ok (.sipush 1024, 3) := by decide +kernel
theorem d_G_init_17 : decode b_G_init 17 = .ok (.newarray .int, 2) := by decide +kernel
theorem d_G_init_19 : decode b_G_init 19 = .ok (.putfield 15, 3) := by decide +kernel
theorem d_G_init_22 : decode b_G_init 22 = .ok (.aload_n 0, 1) := by decide +kernel
theorem d_G_init_23 : decode b_G_init 23 = .ok (.iconst 0, 1) := by decide +kernel
theorem d_G_init_24 : decode b_G_init 24 = .ok (.putfield 18, 3) := by decide +kernel
theorem d_G_init_27 : decode b_G_init 27 = .ok (.return_, 1) := by decide +kernel
theorem d_G_clear_0 : decode b_G_clear 0 = .ok (.aload_n 0, 1) := by decide +kernel
theorem d_G_clear_1 : decode b_G_clear 1 = .ok (.getfield 11, 3) := by decide +kernel
theorem d_G_clear_4 : decode b_G_clear 4 = .ok (.iconst 0, 1) := by decide +kernel
theorem d_G_clear_5 : decode b_G_clear 5 = .ok (.invokestatic 22, 3) := by decide +kernel
theorem d_G_clear_8 : decode b_G_clear 8 = .ok (.aload_n 0, 1) := by decide +kernel
theorem d_G_clear_9 : decode b_G_clear 9 = .ok (.iconst 0, 1) := by decide +kernel
theorem d_G_clear_10 : decode b_G_clear 10 = .ok (.putfield 18, 3) := by decide +kernel
theorem d_G_clear_13 : decode b_G_clear 13 = .ok (.return_, 1) := by decide +kernel
theorem d_G_take_0 : decode b_G_take 0 = .ok (.iconst 0, 1) := by decide +kernel
theorem d_G_take_1 : decode b_G_take 1 = .ok (.istore_n 2, 1) := by decide +kernel
theorem d_G_take_2 : decode b_G_take 2 = .ok (.iload_n 2, 1) := by decide +kernel
theorem d_G_take_3 : decode b_G_take 3 = .ok (.sipush 1024, 3) := by decide +kernel
theorem d_G_take_6 : decode b_G_take 6 = .ok (.if_icmp .ge 20, 3) := by decide +kernel
theorem d_G_take_9 : decode b_G_take 9 = .ok (.aload_n 0, 1) := by decide +kernel
theorem d_G_take_10 : decode b_G_take 10 = .ok (.getfield 15, 3) := by decide +kernel
theorem d_G_take_13 : decode b_G_take 13 = .ok (.iload_n 2, 1) := by decide +kernel
theorem d_G_take_14 : decode b_G_take 14 = .ok (.aload_n 1, 1) := by decide +kernel
theorem d_G_take_15 : decode b_G_take 15 = .ok (.iload_n 2, 1) := by decide +kernel
theorem d_G_take_16 : decode b_G_take 16 = .ok (.invokestatic 28, 3) := by decide +kernel
theorem d_G_take_19 : decode b_G_take 19 = .ok (.iastore, 1) := by decide +kernel
theorem d_G_take_20 : decode b_G_take 20 = .ok (.iinc 2 1, 3) := by decide +kernel
theorem d_G_take_23 : decode b_G_take 23 = .ok (.goto (-21), 3) := by decide +kernel
theorem d_G_take_26 : decode b_G_take 26 = .ok (.bipush 9, 2) := by decide +kernel
theorem d_G_take_28 : decode b_G_take 28 = .ok (.istore_n 2, 1) := by decide +kernel
theorem d_G_take_29 : decode b_G_take 29 = .ok (.iload_n 2, 1) := by decide +kernel
theorem d_G_take_30 : decode b_G_take 30 = .ok (.ifCond .lt 56, 3) := by decide +kernel
theorem d_G_take_33 : decode b_G_take 33 = .ok (.iconst 1, 1) := by decide +kernel
theorem d_G_take_34 : decode b_G_take 34 = .ok (.iload_n 2, 1) := by decide +kernel
theorem d_G_take_35 : decode b_G_take 35 = .ok (.ishl, 1) := by decide +kernel
theorem d_G_take_36 : decode b_G_take 36 = .ok (.istore_n 3, 1) := by decide +kernel
theorem d_G_take_37 : decode b_G_take 37 = .ok (.iconst 0, 1) := by decide +kernel
theorem d_G_take_38 : decode b_G_take 38 = .ok (.istore 4, 2) := by decide +kernel
theorem d_G_take_40 : decode b_G_take 40 = .ok (.iload 4, 2) := by decide +kernel
theorem d_G_take_42 : decode b_G_take 42 = .ok (.iload_n 3, 1) := by decide +kernel
theorem d_G_take_43 : decode b_G_take 43 = .ok (.if_icmp .ge 37, 3) := by decide +kernel
theorem d_G_take_46 : decode b_G_take 46 = .ok (.aload_n 0, 1) := by decide +kernel
theorem d_G_take_47 : decode b_G_take 47 = .ok (.getfield 15, 3) := by decide +kernel
theorem d_G_take_50 : decode b_G_take 50 = .ok (.iload 4, 2) := by decide +kernel
theorem d_G_take_52 : decode b_G_take 52 = .ok (.aload_n 0, 1) := by decide +kernel
theorem d_G_take_53 : decode b_G_take 53 = .ok (.iload_n 2, 1) := by decide +kernel
theorem d_G_take_54 : decode b_G_take 54 = .ok (.aload_n 0, 1) := by decide +kernel
theorem d_G_take_55 : decode b_G_take 55 = .ok (.getfield 15, 3) := by decide +kernel
theorem d_G_take_58 : decode b_G_take 58 = .ok (.iload 4, 2) := by decide +kernel
theorem d_G_take_60 : decode b_G_take 60 = .ok (.iaload, 1) := by decide +kernel
theorem d_G_take_61 : decode b_G_take 61 = .ok (.aload_n 0, 1) := by decide +kernel
theorem d_G_take_62 : decode b_G_take 62 = .ok (.getfield 15, 3) := by decide +kernel
theorem d_G_take_65 : decode b_G_take 65 = .ok (.iload 4, 2) := by decide +kernel
theorem d_G_take_67 : decode b_G_take 67 = .ok (.iload_n 3, 1) := by decide +kernel
theorem d_G_take_68 : decode b_G_take 68 = .ok (.iadd, 1) := by decide +kernel
theorem d_G_take_69 : decode b_G_take 69 = .ok (.iaload, 1) := by decide +kernel
theorem d_G_take_70 : decode b_G_take 70 = .ok (.invokevirtual 32, 3) := by decide +kernel
theorem d_G_take_73 : decode b_G_take 73 = .ok (.iastore, 1) := by decide +kernel
theorem d_G_take_74 : decode b_G_take 74 = .ok (.iinc 4 1, 3) := by decide +kernel
theorem d_G_take_77 : decode b_G_take 77 = .ok (.goto (-37), 3) := by decide +kernel
theorem d_G_take_80 : decode b_G_take 80 = .ok (.iinc 2 (-1), 3) := by decide +kernel
theorem d_G_take_83 : decode b_G_take 83 = .ok (.goto (-54), 3) := by decide +kernel
theorem d_G_take_86 : decode b_G_take 86 = .ok (.return_, 1) := by decide +kernel
theorem d_G_nameOf_0 : decode b_G_nameOf 0 = .ok (.iload_n 2, 1) := by decide +kernel
theorem d_G_nameOf_1 : decode b_G_nameOf 1 = .ok (.iload_n 3, 1) := by decide +kernel
theorem d_G_nameOf_2 : decode b_G_nameOf 2 = .ok (.if_icmp .ne 5, 3) := by decide +kernel
theorem d_G_nameOf_5 : decode b_G_nameOf 5 = .ok (.iload_n 2, 1) := by decide +kernel
theorem d_G_nameOf_6 : decode b_G_nameOf 6 = .ok (.ireturn, 1) := by decide +kernel
theorem d_G_nameOf_7 : decode b_G_nameOf 7 = .ok (.iload_n 1, 1) := by decide +kernel
theorem d_G_nameOf_8 : decode b_G_nameOf 8 = .ok (.bipush 26, 2) := by decide +kernel
theorem d_G_nameOf_10 : decode b_G_nameOf 10 = .ok (.ishl, 1) := by decide +kernel
theorem d_G_nameOf_11 : decode b_G_nameOf 11 = .ok (.iload_n 2, 1) := by decide +kernel
theorem d_G_nameOf_12 : decode b_G_nameOf 12 = .ok (.bipush 13, 2) := by decide +kernel
theorem d_G_nameOf_14 : decode b_G_nameOf 14 = .ok (.ishl, 1) := by decide +kernel
theorem d_G_nameOf_15 : decode b_G_nameOf 15 = .ok (.ior, 1) := by decide +kernel
theorem d_G_nameOf_16 : decode b_G_nameOf 16 = .ok (.iload_n 3, 1) := by decide +kernel
theorem d_G_nameOf_17 : decode b_G_nameOf 17 = .ok (.ior, 1) := by decide +kernel
theorem d_G_nameOf_18 : decode b_G_nameOf 18 = .ok (.istore 4, 2) := by decide +kernel
theorem d_G_nameOf_20 : decode b_G_nameOf 20 = .ok (.aload_n 0, 1) := by decide +kernel
theorem d_G_nameOf_21 : decode b_G_nameOf 21 = .ok (.iload 4, 2) := by decide +kernel
theorem d_G_nameOf_23 : decode b_G_nameOf 23 = .ok (.invokevirtual 36, 3) := by decide +kernel
theorem d_G_nameOf_26 : decode b_G_nameOf 26 = .ok (.iconst 2, 1) := by decide +kernel
theorem d_G_nameOf_27 : decode b_G_nameOf 27 = .ok (.iadd, 1) := by decide +kernel
theorem d_G_nameOf_28 : decode b_G_nameOf 28 = .ok (.ireturn, 1) := by decide +kernel
theorem d_G_slotOf_0 : decode b_G_slotOf 0 = .ok (.iload_n 1, 1) := by decide +kernel
theorem d_G_slotOf_1 : decode b_G_slotOf 1 = .ok (.ldc 40, 2) := by decide +kernel
theorem d_G_slotOf_3 : decode b_G_slotOf 3 = .ok (.imul, 1) := by decide +kernel
theorem d_G_slotOf_4 : decode b_G_slotOf 4 = .ok (.bipush 20, 2) := by decide +kernel
theorem d_G_slotOf_6 : decode b_G_slotOf 6 = .ok (.iushr, 1) := by decide +kernel
theorem d_G_slotOf_7 : decode b_G_slotOf 7 = .ok (.istore_n 2, 1) := by decide +kernel
theorem d_G_slotOf_8 : decode b_G_slotOf 8 = .ok (.iconst 0, 1) := by decide +kernel
theorem d_G_slotOf_9 : decode b_G_slotOf 9 = .ok (.istore_n 3, 1) := by decide +kernel
theorem d_G_slotOf_10 : decode b_G_slotOf 10 = .ok (.iload_n 3, 1) := by decide +kernel
theorem d_G_slotOf_11 : decode b_G_slotOf 11 = .ok (.sipush 4096, 3) := by decide +kernel
theorem d_G_slotOf_14 : decode b_G_slotOf 14 = .ok (.if_icmp .ge 57, 3) := by decide +kernel
theorem d_G_slotOf_17 : decode b_G_slotOf 17 = .ok (.aload_n 0, 1) := by decide +kernel
theorem d_G_slotOf_18 : decode b_G_slotOf 18 = .ok (.getfield 11, 3) := by decide +kernel
theorem d_G_slotOf_21 : decode b_G_slotOf 21 = .ok (.iload_n 2, 1) := by decide +kernel
theorem d_G_slotOf_22 : decode b_G_slotOf 22 = .ok (.iaload, 1) := by decide +kernel
theorem d_G_slotOf_23 : decode b_G_slotOf 23 = .ok (.iload_n 1, 1) := by decide +kernel
theorem d_G_slotOf_24 : decode b_G_slotOf 24 = .ok (.if_icmp .ne 5, 3) := by decide +kernel
theorem d_G_slotOf_27 : decode b_G_slotOf 27 = .ok (.iload_n 2, 1) := by decide +kernel
theorem d_G_slotOf_28 : decode b_G_slotOf 28 = .ok (.ireturn, 1) := by decide +kernel
theorem d_G_slotOf_29 : decode b_G_slotOf 29 = .ok (.aload_n 0, 1) := by decide +kernel
theorem d_G_slotOf_30 : decode b_G_slotOf 30 = .ok (.getfield 11, 3) := by decide +kernel
theorem d_G_slotOf_33 : decode b_G_slotOf 33 = .ok (.iload_n 2, 1) := by decide +kernel
theorem d_G_slotOf_34 : decode b_G_slotOf 34 = .ok (.iaload, 1) := by decide +kernel
theorem d_G_slotOf_35 : decode b_G_slotOf 35 = .ok (.ifCond .ne 22, 3) := by decide +kernel
theorem d_G_slotOf_38 : decode b_G_slotOf 38 = .ok (.aload_n 0, 1) := by decide +kernel
theorem d_G_slotOf_39 : decode b_G_slotOf 39 = .ok (.getfield 11, 3) := by decide +kernel
theorem d_G_slotOf_42 : decode b_G_slotOf 42 = .ok (.iload_n 2, 1) := by decide +kernel
theorem d_G_slotOf_43 : decode b_G_slotOf 43 = .ok (.iload_n 1, 1) := by decide +kernel
theorem d_G_slotOf_44 : decode b_G_slotOf 44 = .ok (.iastore, 1) := by decide +kernel
theorem d_G_slotOf_45 : decode b_G_slotOf 45 = .ok (.aload_n 0, 1) := by decide +kernel
theorem d_G_slotOf_46 : decode b_G_slotOf 46 = .ok (.dup, 1) := by decide +kernel
theorem d_G_slotOf_47 : decode b_G_slotOf 47 = .ok (.getfield 18, 3) := by decide +kernel
theorem d_G_slotOf_50 : decode b_G_slotOf 50 = .ok (.iconst 1, 1) := by decide +kernel
theorem d_G_slotOf_51 : decode b_G_slotOf 51 = .ok (.iadd, 1) := by decide +kernel
theorem d_G_slotOf_52 : decode b_G_slotOf 52 = .ok (.putfield 18, 3) := by decide +kernel
theorem d_G_slotOf_55 : decode b_G_slotOf 55 = .ok (.iload_n 2, 1) := by decide +kernel
theorem d_G_slotOf_56 : decode b_G_slotOf 56 = .ok (.ireturn, 1) := by decide +kernel
theorem d_G_slotOf_57 : decode b_G_slotOf 57 = .ok (.iload_n 2, 1) := by decide +kernel
theorem d_G_slotOf_58 : decode b_G_slotOf 58 = .ok (.iconst 1, 1) := by decide +kernel
theorem d_G_slotOf_59 : decode b_G_slotOf 59 = .ok (.iadd, 1) := by decide +kernel
theorem d_G_slotOf_60 : decode b_G_slotOf 60 = .ok (.sipush 4095, 3) := by decide +kernel
theorem d_G_slotOf_63 : decode b_G_slotOf 63 = .ok (.iand, 1) := by decide +kernel
theorem d_G_slotOf_64 : decode b_G_slotOf 64 = .ok (.istore_n 2, 1) := by decide +kernel
theorem d_G_slotOf_65 : decode b_G_slotOf 65 = .ok (.iinc 3 1, 3) := by decide +kernel
theorem d_G_slotOf_68 : decode b_G_slotOf 68 = .ok (.goto (-58), 3) := by decide +kernel
theorem d_G_slotOf_71 : decode b_G_slotOf 71 = .ok (.iconst 0, 1) := by decide +kernel
theorem d_G_slotOf_72 : decode b_G_slotOf 72 = .ok (.ireturn, 1) := by decide +kernel
theorem d_L_variable_0 : decode b_L_variable 0 = .ok (.aload_n 0, 1) := by decide +kernel
theorem d_L_variable_1 : decode b_L_variable 1 = .ok (.iload_n 1, 1) := by decide +kernel
theorem d_L_variable_2 : decode b_L_variable 2 = .ok (.iload_n 2, 1) := by decide +kernel
theorem d_L_variable_3 : decode b_L_variable 3 = .ok (.invokevirtual 7, 3) := by decide +kernel
theorem d_L_variable_6 : decode b_L_variable 6 = .ok (.goto 6, 3) := by decide +kernel
theorem d_L_variable_9 : decode b_L_variable 9 = .ok (.astore_n 3, 1) := by decide +kernel
theorem d_L_variable_10 : decode b_L_variable 10 = .ok (.iconst 1, 1) := by decide +kernel
theorem d_L_variable_11 : decode b_L_variable 11 = .ok (.ireturn, 1) := by decide +kernel
theorem d_L_variable_12 : decode b_L_variable 12 = .ok (.iconst 0, 1) := by decide +kernel
theorem d_L_variable_13 : decode b_L_variable 13 = .ok (.ireturn, 1) := by decide +kernel
theorem d_L_only_0 : decode b_L_only 0 = .ok (.aload_n 0, 1) := by decide +kernel
theorem d_L_only_1 : decode b_L_only 1 = .ok (.iload_n 1, 1) := by decide +kernel
theorem d_L_only_2 : decode b_L_only 2 = .ok (.iload_n 2, 1) := by decide +kernel
theorem d_L_only_3 : decode b_L_only 3 = .ok (.invokevirtual 15, 3) := by decide +kernel
theorem d_L_only_6 : decode b_L_only 6 = .ok (.goto 6, 3) := by decide +kernel
theorem d_L_only_9 : decode b_L_only 9 = .ok (.astore_n 3, 1) := by decide +kernel
theorem d_L_only_10 : decode b_L_only 10 = .ok (.iconst 1, 1) := by decide +kernel
theorem d_L_only_11 : decode b_L_only 11 = .ok (.ireturn, 1) := by decide +kernel
theorem d_L_only_12 : decode b_L_only 12 = .ok (.iconst 0, 1) := by decide +kernel
theorem d_L_only_13 : decode b_L_only 13 = .ok (.ireturn, 1) := by decide +kernel
theorem d_L_join_0 : decode b_L_join 0 = .ok (.aload_n 0, 1) := by decide +kernel
theorem d_L_join_1 : decode b_L_join 1 = .ok (.iload_n 1, 1) := by decide +kernel
theorem d_L_join_2 : decode b_L_join 2 = .ok (.iload_n 2, 1) := by decide +kernel
theorem d_L_join_3 : decode b_L_join 3 = .ok (.iload_n 3, 1) := by decide +kernel
theorem d_L_join_4 : decode b_L_join 4 = .ok (.iload 4, 2) := by decide +kernel
theorem d_L_join_6 : decode b_L_join 6 = .ok (.invokevirtual 18, 3) := by decide +kernel
theorem d_L_join_9 : decode b_L_join 9 = .ok (.goto 7, 3) := by decide +kernel
theorem d_L_join_12 : decode b_L_join 12 = .ok (.astore 5, 2) := by decide +kernel
theorem d_L_join_14 : decode b_L_join 14 = .ok (.iconst 1, 1) := by decide +kernel
theorem d_L_join_15 : decode b_L_join 15 = .ok (.ireturn, 1) := by decide +kernel
theorem d_L_join_16 : decode b_L_join 16 = .ok (.iconst 0, 1) := by decide +kernel
theorem d_L_join_17 : decode b_L_join 17 = .ok (.ireturn, 1) := by decide +kernel
theorem d_L_choose_0 : decode b_L_choose 0 = .ok (.aload_n 0, 1) := by decide +kernel
theorem d_L_choose_1 : decode b_L_choose 1 = .ok (.iload_n 1, 1) := by decide +kernel
theorem d_L_choose_2 : decode b_L_choose 2 = .ok (.iload_n 2, 1) := by decide +kernel
theorem d_L_choose_3 : decode b_L_choose 3 = .ok (.iload_n 3, 1) := by decide +kernel
theorem d_L_choose_4 : decode b_L_choose 4 = .ok (.iload 4, 2) := by decide +kernel
theorem d_L_choose_6 : decode b_L_choose 6 = .ok (.invokevirtual 22, 3) := by decide +kernel
theorem d_L_choose_9 : decode b_L_choose 9 = .ok (.goto 7, 3) := by decide +kernel
theorem d_L_choose_12 : decode b_L_choose 12 = .ok (.astore 5, 2) := by decide +kernel
theorem d_L_choose_14 : decode b_L_choose 14 = .ok (.iconst 1, 1) := by decide +kernel
theorem d_L_choose_15 : decode b_L_choose 15 = .ok (.ireturn, 1) := by decide +kernel
theorem d_L_choose_16 : decode b_L_choose 16 = .ok (.iconst 0, 1) := by decide +kernel
theorem d_L_choose_17 : decode b_L_choose 17 = .ok (.ireturn, 1) := by decide +kernel
theorem d_L_cut_0 : decode b_L_cut 0 = .ok (.aload_n 0, 1) := by decide +kernel
theorem d_L_cut_1 : decode b_L_cut 1 = .ok (.iload_n 1, 1) := by decide +kernel
theorem d_L_cut_2 : decode b_L_cut 2 = .ok (.iload_n 2, 1) := by decide +kernel
theorem d_L_cut_3 : decode b_L_cut 3 = .ok (.iload_n 3, 1) := by decide +kernel
theorem d_L_cut_4 : decode b_L_cut 4 = .ok (.iload 4, 2) := by decide +kernel
theorem d_L_cut_6 : decode b_L_cut 6 = .ok (.invokevirtual 25, 3) := by decide +kernel
theorem d_L_cut_9 : decode b_L_cut 9 = .ok (.goto 7, 3) := by decide +kernel
theorem d_L_cut_12 : decode b_L_cut 12 = .ok (.astore 5, 2) := by decide +kernel
theorem d_L_cut_14 : decode b_L_cut 14 = .ok (.iconst 1, 1) := by decide +kernel
theorem d_L_cut_15 : decode b_L_cut 15 = .ok (.ireturn, 1) := by decide +kernel
theorem d_L_cut_16 : decode b_L_cut 16 = .ok (.iconst 0, 1) := by decide +kernel
theorem d_L_cut_17 : decode b_L_cut 17 = .ok (.ireturn, 1) := by decide +kernel
theorem d_L_put_0 : decode b_L_put 0 = .ok (.aload_n 0, 1) := by decide +kernel
theorem d_L_put_1 : decode b_L_put 1 = .ok (.iload_n 1, 1) := by decide +kernel
theorem d_L_put_2 : decode b_L_put 2 = .ok (.iload_n 2, 1) := by decide +kernel
theorem d_L_put_3 : decode b_L_put 3 = .ok (.iload_n 3, 1) := by decide +kernel
theorem d_L_put_4 : decode b_L_put 4 = .ok (.iload 4, 2) := by decide +kernel
theorem d_L_put_6 : decode b_L_put 6 = .ok (.invokevirtual 29, 3) := by decide +kernel
theorem d_L_put_9 : decode b_L_put 9 = .ok (.goto 7, 3) := by decide +kernel
theorem d_L_put_12 : decode b_L_put 12 = .ok (.astore 5, 2) := by decide +kernel
theorem d_L_put_14 : decode b_L_put 14 = .ok (.iconst 1, 1) := by decide +kernel
theorem d_L_put_15 : decode b_L_put 15 = .ok (.ireturn, 1) := by decide +kernel
theorem d_L_put_16 : decode b_L_put 16 = .ok (.iconst 0, 1) := by decide +kernel
theorem d_L_put_17 : decode b_L_put 17 = .ok (.ireturn, 1) := by decide +kernel
theorem d_L_bound_0 : decode b_L_bound 0 = .ok (.aload_n 0, 1) := by decide +kernel
theorem d_L_bound_1 : decode b_L_bound 1 = .ok (.iload_n 1, 1) := by decide +kernel
theorem d_L_bound_2 : decode b_L_bound 2 = .ok (.iload_n 2, 1) := by decide +kernel
theorem d_L_bound_3 : decode b_L_bound 3 = .ok (.iload_n 3, 1) := by decide +kernel
theorem d_L_bound_4 : decode b_L_bound 4 = .ok (.iload 4, 2) := by decide +kernel
theorem d_L_bound_6 : decode b_L_bound 6 = .ok (.invokevirtual 32, 3) := by decide +kernel
theorem d_L_bound_9 : decode b_L_bound 9 = .ok (.goto 7, 3) := by decide +kernel
theorem d_L_bound_12 : decode b_L_bound 12 = .ok (.astore 5, 2) := by decide +kernel
theorem d_L_bound_14 : decode b_L_bound 14 = .ok (.iconst 1, 1) := by decide +kernel
theorem d_L_bound_15 : decode b_L_bound 15 = .ok (.ireturn, 1) := by decide +kernel
theorem d_L_bound_16 : decode b_L_bound 16 = .ok (.iconst 0, 1) := by decide +kernel
theorem d_L_bound_17 : decode b_L_bound 17 = .ok (.ireturn, 1) := by decide +kernel
theorem d_L_swap_0 : decode b_L_swap 0 = .ok (.aload_n 0, 1) := by decide +kernel
theorem d_L_swap_1 : decode b_L_swap 1 = .ok (.iload_n 1, 1) := by decide +kernel
theorem d_L_swap_2 : decode b_L_swap 2 = .ok (.iload_n 2, 1) := by decide +kernel
theorem d_L_swap_3 : decode b_L_swap 3 = .ok (.iload_n 3, 1) := by decide +kernel
theorem d_L_swap_4 : decode b_L_swap 4 = .ok (.iload 4, 2) := by decide +kernel
theorem d_L_swap_6 : decode b_L_swap 6 = .ok (.invokevirtual 35, 3) := by decide +kernel
theorem d_L_swap_9 : decode b_L_swap 9 = .ok (.goto 7, 3) := by decide +kernel
theorem d_L_swap_12 : decode b_L_swap 12 = .ok (.astore 5, 2) := by decide +kernel
theorem d_L_swap_14 : decode b_L_swap 14 = .ok (.iconst 1, 1) := by decide +kernel
theorem d_L_swap_15 : decode b_L_swap 15 = .ok (.ireturn, 1) := by decide +kernel
theorem d_L_swap_16 : decode b_L_swap 16 = .ok (.iconst 0, 1) := by decide +kernel
theorem d_L_swap_17 : decode b_L_swap 17 = .ok (.ireturn, 1) := by decide +kernel
theorem d_L_is_0 : decode b_L_is 0 = .ok (.aload_n 3, 1) := by decide +kernel
theorem d_L_is_1 : decode b_L_is 1 = .ok (.iconst 0, 1) := by decide +kernel
theorem d_L_is_2 : decode b_L_is 2 = .ok (.aload_n 0, 1) := by decide +kernel
theorem d_L_is_3 : decode b_L_is 3 = .ok (.iload_n 1, 1) := by decide +kernel
theorem d_L_is_4 : decode b_L_is 4 = .ok (.iload_n 2, 1) := by decide +kernel
theorem d_L_is_5 : decode b_L_is 5 = .ok (.invokevirtual 38, 3) := by decide +kernel
theorem d_L_is_8 : decode b_L_is 8 = .ok (.ifCond .eq 7, 3) := by decide +kernel
theorem d_L_is_11 : decode b_L_is 11 = .ok (.lconst 1, 1) := by decide +kernel
theorem d_L_is_12 : decode b_L_is 12 = .ok (.goto 4, 3) := by decide +kernel
theorem d_L_is_15 : decode b_L_is 15 = .ok (.lconst 0, 1) := by decide +kernel
theorem d_L_is_16 : decode b_L_is 16 = .ok (.lastore, 1) := by decide +kernel
theorem d_L_is_17 : decode b_L_is 17 = .ok (.goto 7, 3) := by decide +kernel
theorem d_L_is_20 : decode b_L_is 20 = .ok (.astore 4, 2) := by decide +kernel
theorem d_L_is_22 : decode b_L_is 22 = .ok (.iconst 1, 1) := by decide +kernel
theorem d_L_is_23 : decode b_L_is 23 = .ok (.ireturn, 1) := by decide +kernel
theorem d_L_is_24 : decode b_L_is 24 = .ok (.iconst 0, 1) := by decide +kernel
theorem d_L_is_25 : decode b_L_is 25 = .ok (.ireturn, 1) := by decide +kernel
theorem d_L_ways_0 : decode b_L_ways 0 = .ok (.aload_n 2, 1) := by decide +kernel
theorem d_L_ways_1 : decode b_L_ways 1 = .ok (.iconst 0, 1) := by decide +kernel
theorem d_L_ways_2 : decode b_L_ways 2 = .ok (.aload_n 0, 1) := by decide +kernel
theorem d_L_ways_3 : decode b_L_ways 3 = .ok (.iload_n 1, 1) := by decide +kernel
theorem d_L_ways_4 : decode b_L_ways 4 = .ok (.invokevirtual 42, 3) := by decide +kernel
theorem d_L_ways_7 : decode b_L_ways 7 = .ok (.i2l, 1) := by decide +kernel
theorem d_L_ways_8 : decode b_L_ways 8 = .ok (.lastore, 1) := by decide +kernel
theorem d_L_ways_9 : decode b_L_ways 9 = .ok (.goto 6, 3) := by decide +kernel
theorem d_L_ways_12 : decode b_L_ways 12 = .ok (.astore_n 3, 1) := by decide +kernel
theorem d_L_ways_13 : decode b_L_ways 13 = .ok (.iconst 1, 1) := by decide +kernel
theorem d_L_ways_14 : decode b_L_ways 14 = .ok (.ireturn, 1) := by decide +kernel
theorem d_L_ways_15 : decode b_L_ways 15 = .ok (.iconst 0, 1) := by decide +kernel
theorem d_L_ways_16 : decode b_L_ways 16 = .ok (.ireturn, 1) := by decide +kernel
theorem d_L_first_0 : decode b_L_first 0 = .ok (.aload_n 2, 1) := by decide +kernel
theorem d_L_first_1 : decode b_L_first 1 = .ok (.iconst 0, 1) := by decide +kernel
theorem d_L_first_2 : decode b_L_first 2 = .ok (.aload_n 0, 1) := by decide +kernel
theorem d_L_first_3 : decode b_L_first 3 = .ok (.iload_n 1, 1) := by decide +kernel
theorem d_L_first_4 : decode b_L_first 4 = .ok (.invokevirtual 46, 3) := by decide +kernel
theorem d_L_first_7 : decode b_L_first 7 = .ok (.i2l, 1) := by decide +kernel
theorem d_L_first_8 : decode b_L_first 8 = .ok (.lastore, 1) := by decide +kernel
theorem d_L_first_9 : decode b_L_first 9 = .ok (.goto 9, 3) := by decide +kernel
theorem d_L_first_12 : decode b_L_first 12 = .ok (.astore_n 3, 1) := by decide +kernel
theorem d_L_first_13 : decode b_L_first 13 = .ok (.iconst 1, 1) := by decide +kernel
theorem d_L_first_14 : decode b_L_first 14 = .ok (.ireturn, 1) := by decide +kernel
theorem d_L_first_15 : decode b_L_first 15 = .ok (.astore_n 3, 1) := by decide +kernel
theorem d_L_first_16 : decode b_L_first 16 = .ok (.iconst 2, 1) := by decide +kernel
theorem d_L_first_17 : decode b_L_first 17 = .ok (.ireturn, 1) := by decide +kernel
theorem d_L_first_18 : decode b_L_first 18 = .ok (.iconst 0, 1) := by decide +kernel
theorem d_L_first_19 : decode b_L_first 19 = .ok (.ireturn, 1) := by decide +kernel
theorem d_L_hangs_0 : decode b_L_hangs 0 = .ok (.aload_n 2, 1) := by decide +kernel
theorem d_L_hangs_1 : decode b_L_hangs 1 = .ok (.iconst 0, 1) := by decide +kernel
theorem d_L_hangs_2 : decode b_L_hangs 2 = .ok (.aload_n 0, 1) := by decide +kernel
theorem d_L_hangs_3 : decode b_L_hangs 3 = .ok (.iload_n 1, 1) := by decide +kernel
theorem d_L_hangs_4 : decode b_L_hangs 4 = .ok (.invokevirtual 51, 3) := by decide +kernel
theorem d_L_hangs_7 : decode b_L_hangs 7 = .ok (.i2l, 1) := by decide +kernel
theorem d_L_hangs_8 : decode b_L_hangs 8 = .ok (.lastore, 1) := by decide +kernel
theorem d_L_hangs_9 : decode b_L_hangs 9 = .ok (.goto 6, 3) := by decide +kernel
theorem d_L_hangs_12 : decode b_L_hangs 12 = .ok (.astore_n 3, 1) := by decide +kernel
theorem d_L_hangs_13 : decode b_L_hangs 13 = .ok (.iconst 1, 1) := by decide +kernel
theorem d_L_hangs_14 : decode b_L_hangs 14 = .ok (.ireturn, 1) := by decide +kernel
theorem d_L_hangs_15 : decode b_L_hangs 15 = .ok (.iconst 0, 1) := by decide +kernel
theorem d_L_hangs_16 : decode b_L_hangs 16 = .ok (.ireturn, 1) := by decide +kernel
theorem d_L_same_0 : decode b_L_same 0 = .ok (.aload_n 3, 1) := by decide +kernel
theorem d_L_same_1 : decode b_L_same 1 = .ok (.iconst 0, 1) := by decide +kernel
theorem d_L_same_2 : decode b_L_same 2 = .ok (.aload_n 0, 1) := by decide +kernel
theorem d_L_same_3 : decode b_L_same 3 = .ok (.iload_n 1, 1) := by decide +kernel
theorem d_L_same_4 : decode b_L_same 4 = .ok (.iload_n 2, 1) := by decide +kernel
theorem d_L_same_5 : decode b_L_same 5 = .ok (.invokevirtual 54, 3) := by decide +kernel
theorem d_L_same_8 : decode b_L_same 8 = .ok (.ifCond .eq 7, 3) := by decide +kernel
theorem d_L_same_11 : decode b_L_same 11 = .ok (.lconst 1, 1) := by decide +kernel
theorem d_L_same_12 : decode b_L_same 12 = .ok (.goto 4, 3) := by decide +kernel
theorem d_L_same_15 : decode b_L_same 15 = .ok (.lconst 0, 1) := by decide +kernel
theorem d_L_same_16 : decode b_L_same 16 = .ok (.lastore, 1) := by decide +kernel
theorem d_L_same_17 : decode b_L_same 17 = .ok (.goto 7, 3) := by decide +kernel
theorem d_L_same_20 : decode b_L_same 20 = .ok (.astore 4, 2) := by decide +kernel
theorem d_L_same_22 : decode b_L_same 22 = .ok (.iconst 1, 1) := by decide +kernel
theorem d_L_same_23 : decode b_L_same 23 = .ok (.ireturn, 1) := by decide +kernel
theorem d_L_same_24 : decode b_L_same 24 = .ok (.iconst 0, 1) := by decide +kernel
theorem d_L_same_25 : decode b_L_same 25 = .ok (.ireturn, 1) := by decide +kernel
theorem d_L_parts_0 : decode b_L_parts 0 = .ok (.aload_n 2, 1) := by decide +kernel
theorem d_L_parts_1 : decode b_L_parts 1 = .ok (.iconst 0, 1) := by decide +kernel
theorem d_L_parts_2 : decode b_L_parts 2 = .ok (.aload_n 0, 1) := by decide +kernel
theorem d_L_parts_3 : decode b_L_parts 3 = .ok (.iload_n 1, 1) := by decide +kernel
theorem d_L_parts_4 : decode b_L_parts 4 = .ok (.invokevirtual 57, 3) := by decide +kernel
theorem d_L_parts_7 : decode b_L_parts 7 = .ok (.i2l, 1) := by decide +kernel
theorem d_L_parts_8 : decode b_L_parts 8 = .ok (.lastore, 1) := by decide +kernel
theorem d_L_parts_9 : decode b_L_parts 9 = .ok (.goto 6, 3) := by decide +kernel
theorem d_L_parts_12 : decode b_L_parts 12 = .ok (.astore_n 3, 1) := by decide +kernel
theorem d_L_parts_13 : decode b_L_parts 13 = .ok (.iconst 1, 1) := by decide +kernel
theorem d_L_parts_14 : decode b_L_parts 14 = .ok (.ireturn, 1) := by decide +kernel
theorem d_L_parts_15 : decode b_L_parts 15 = .ok (.iconst 0, 1) := by decide +kernel
theorem d_L_parts_16 : decode b_L_parts 16 = .ok (.ireturn, 1) := by decide +kernel
theorem d_L_together_0 : decode b_L_together 0 = .ok (.aload_n 3, 1) := by decide +kernel
theorem d_L_together_1 : decode b_L_together 1 = .ok (.iconst 0, 1) := by decide +kernel
theorem d_L_together_2 : decode b_L_together 2 = .ok (.aload_n 0, 1) := by decide +kernel
theorem d_L_together_3 : decode b_L_together 3 = .ok (.iload_n 1, 1) := by decide +kernel
theorem d_L_together_4 : decode b_L_together 4 = .ok (.iload_n 2, 1) := by decide +kernel
theorem d_L_together_5 : decode b_L_together 5 = .ok (.invokevirtual 60, 3) := by decide +kernel
theorem d_L_together_8 : decode b_L_together 8 = .ok (.i2l, 1) := by decide +kernel
theorem d_L_together_9 : decode b_L_together 9 = .ok (.lastore, 1) := by decide +kernel
theorem d_L_together_10 : decode b_L_together 10 = .ok (.goto 7, 3) := by decide +kernel
theorem d_L_together_13 : decode b_L_together 13 = .ok (.astore 4, 2) := by decide +kernel
theorem d_L_together_15 : decode b_L_together 15 = .ok (.iconst 1, 1) := by decide +kernel
theorem d_L_together_16 : decode b_L_together 16 = .ok (.ireturn, 1) := by decide +kernel
theorem d_L_together_17 : decode b_L_together 17 = .ok (.iconst 0, 1) := by decide +kernel
theorem d_L_together_18 : decode b_L_together 18 = .ok (.ireturn, 1) := by decide +kernel
