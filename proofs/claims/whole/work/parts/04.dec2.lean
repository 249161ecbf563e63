theorem d_D_store_0 : decode b_D_store 0 = .ok (.aload_n 1, 1) := by decide +kernel
theorem d_D_store_1 : decode b_D_store 1 = .ok (.iconst 0, 1) := by decide +kernel
theorem d_D_store_2 : decode b_D_store 2 = .ok (.aload_n 0, 1) := by decide +kernel
theorem d_D_store_3 : decode b_D_store 3 = .ok (.getfield 11, 3) := by decide +kernel
theorem d_D_store_6 : decode b_D_store 6 = .ok (.iload_n 2, 1) := by decide +kernel
theorem d_D_store_7 : decode b_D_store 7 = .ok (.aaload, 1) := by decide +kernel
theorem d_D_store_8 : decode b_D_store 8 = .ok (.iconst 0, 1) := by decide +kernel
theorem d_D_store_9 : decode b_D_store 9 = .ok (.bipush 16, 2) := by decide +kernel
theorem d_D_store_11 : decode b_D_store 11 = .ok (.invokestatic 70, 3) := by decide +kernel
theorem d_D_store_14 : decode b_D_store 14 = .ok (.return_, 1) := by decide +kernel
theorem d_D_bindWork_0 : decode b_D_bindWork 0 = .ok (.iconst 0, 1) := by decide +kernel
theorem d_D_bindWork_1 : decode b_D_bindWork 1 = .ok (.istore_n 3, 1) := by decide +kernel
theorem d_D_bindWork_2 : decode b_D_bindWork 2 = .ok (.iload_n 3, 1) := by decide +kernel
theorem d_D_bindWork_3 : decode b_D_bindWork 3 = .ok (.bipush 16, 2) := by decide +kernel
theorem d_D_bindWork_5 : decode b_D_bindWork 5 = .ok (.if_icmp .ge 51, 3) := by decide +kernel
theorem d_D_bindWork_8 : decode b_D_bindWork 8 = .ok (.aload_n 0, 1) := by decide +kernel
theorem d_D_bindWork_9 : decode b_D_bindWork 9 = .ok (.getfield 14, 3) := by decide +kernel
theorem d_D_bindWork_12 : decode b_D_bindWork 12 = .ok (.iload_n 1, 1) := by decide +kernel
theorem d_D_bindWork_13 : decode b_D_bindWork 13 = .ok (.iload_n 3, 1) := by decide +kernel
theorem d_D_bindWork_14 : decode b_D_bindWork 14 = .ok (.invokestatic 84, 3) := by decide +kernel
theorem d_D_bindWork_17 : decode b_D_bindWork 17 = .ok (.lstore 4, 2) := by decide +kernel
theorem d_D_bindWork_19 : decode b_D_bindWork 19 = .ok (.aload_n 0, 1) := by decide +kernel
theorem d_D_bindWork_20 : decode b_D_bindWork 20 = .ok (.getfield 18, 3) := by decide +kernel
theorem d_D_bindWork_23 : decode b_D_bindWork 23 = .ok (.iload_n 3, 1) := by decide +kernel
theorem d_D_bindWork_24 : decode b_D_bindWork 24 = .ok (.iload_n 2, 1) := by decide +kernel
theorem d_D_bindWork_25 : decode b_D_bindWork 25 = .ok (.ifCond .eq 15, 3) := by decide +kernel
theorem d_D_bindWork_28 : decode b_D_bindWork 28 = .ok (.aload_n 0, 1) := by decide +kernel
theorem d_D_bindWork_29 : decode b_D_bindWork 29 = .ok (.getfield 14, 3) := by decide +kernel
theorem d_D_bindWork_32 : decode b_D_bindWork 32 = .ok (.iload_n 3, 1) := by decide +kernel
theorem d_D_bindWork_33 : decode b_D_bindWork 33 = .ok (.laload, 1) := by decide +kernel
theorem d_D_bindWork_34 : decode b_D_bindWork 34 = .ok (.lload 4, 2) := by decide +kernel
theorem d_D_bindWork_36 : decode b_D_bindWork 36 = .ok (.land, 1) := by decide +kernel
theorem d_D_bindWork_37 : decode b_D_bindWork 37 = .ok (.goto 12, 3) := by decide +kernel
theorem d_D_bindWork_40 : decode b_D_bindWork 40 = .ok (.aload_n 0, 1) := by decide +kernel
theorem d_D_bindWork_41 : decode b_D_bindWork 41 = .ok (.getfield 14, 3) := by decide +kernel
theorem d_D_bindWork_44 : decode b_D_bindWork 44 = .ok (.iload_n 3, 1) := by decide +kernel
theorem d_D_bindWork_45 : decode b_D_bindWork 45 = .ok (.laload, 1) := by decide +kernel
theorem d_D_bindWork_46 : decode b_D_bindWork 46 = .ok (.lload 4, 2) := by decide +kernel
theorem d_D_bindWork_48 : decode b_D_bindWork 48 = .ok (.lor, 1) := by decide +kernel
theorem d_D_bindWork_49 : decode b_D_bindWork 49 = .ok (.lastore, 1) := by decide +kernel
theorem d_D_bindWork_50 : decode b_D_bindWork 50 = .ok (.iinc 3 1, 3) := by decide +kernel
theorem d_D_bindWork_53 : decode b_D_bindWork 53 = .ok (.goto (-51), 3) := by decide +kernel
theorem d_D_bindWork_56 : decode b_D_bindWork 56 = .ok (.aload_n 0, 1) := by decide +kernel
theorem d_D_bindWork_57 : decode b_D_bindWork 57 = .ok (.getfield 18, 3) := by decide +kernel
theorem d_D_bindWork_60 : decode b_D_bindWork 60 = .ok (.iconst 0, 1) := by decide +kernel
theorem d_D_bindWork_61 : decode b_D_bindWork 61 = .ok (.aload_n 0, 1) := by decide +kernel
theorem d_D_bindWork_62 : decode b_D_bindWork 62 = .ok (.getfield 14, 3) := by decide +kernel
theorem d_D_bindWork_65 : decode b_D_bindWork 65 = .ok (.iconst 0, 1) := by decide +kernel
theorem d_D_bindWork_66 : decode b_D_bindWork 66 = .ok (.bipush 16, 2) := by decide +kernel
theorem d_D_bindWork_68 : decode b_D_bindWork 68 = .ok (.invokestatic 70, 3) := by decide +kernel
theorem d_D_bindWork_71 : decode b_D_bindWork 71 = .ok (.return_, 1) := by decide +kernel
theorem d_D_isEmptyWork_0 : decode b_D_isEmptyWork 0 = .ok (.iconst 0, 1) := by decide +kernel
theorem d_D_isEmptyWork_1 : decode b_D_isEmptyWork 1 = .ok (.istore_n 1, 1) := by decide +kernel
theorem d_D_isEmptyWork_2 : decode b_D_isEmptyWork 2 = .ok (.iload_n 1, 1) := by decide +kernel
theorem d_D_isEmptyWork_3 : decode b_D_isEmptyWork 3 = .ok (.bipush 16, 2) := by decide +kernel
theorem d_D_isEmptyWork_5 : decode b_D_isEmptyWork 5 = .ok (.if_icmp .ge 22, 3) := by decide +kernel
theorem d_D_isEmptyWork_8 : decode b_D_isEmptyWork 8 = .ok (.aload_n 0, 1) := by decide +kernel
theorem d_D_isEmptyWork_9 : decode b_D_isEmptyWork 9 = .ok (.getfield 14, 3) := by decide +kernel
theorem d_D_isEmptyWork_12 : decode b_D_isEmptyWork 12 = .ok (.iload_n 1, 1) := by decide +kernel
theorem d_D_isEmptyWork_13 : decode b_D_isEmptyWork 13 = .ok (.laload, 1) := by decide +kernel
theorem d_D_isEmptyWork_14 : decode b_D_isEmptyWork 14 = .ok (.lconst 0, 1) := by decide +kernel
theorem d_D_isEmptyWork_15 : decode b_D_isEmptyWork 15 = .ok (.lcmp, 1) := by decide +kernel
theorem d_D_isEmptyWork_16 : decode b_D_isEmptyWork 16 = .ok (.ifCond .eq 5, 3) := by decide +kernel
theorem d_D_isEmptyWork_19 : decode b_D_isEmptyWork 19 = .ok (.iconst 0, 1) := by decide +kernel
theorem d_D_isEmptyWork_20 : decode b_D_isEmptyWork 20 = .ok (.ireturn, 1) := by decide +kernel
theorem d_D_isEmptyWork_21 : decode b_D_isEmptyWork 21 = .ok (.iinc 1 1, 3) := by decide +kernel
theorem d_D_isEmptyWork_24 : decode b_D_isEmptyWork 24 = .ok (.goto (-22), 3) := by decide +kernel
theorem d_D_isEmptyWork_27 : decode b_D_isEmptyWork 27 = .ok (.iconst 1, 1) := by decide +kernel
theorem d_D_isEmptyWork_28 : decode b_D_isEmptyWork 28 = .ok (.ireturn, 1) := by decide +kernel
theorem d_D_narrowWorkToFalse_0 : decode b_D_narrowWorkToFalse 0 = .ok (.lconst 0, 1) := by decide +kernel
theorem d_D_narrowWorkToFalse_1 : decode b_D_narrowWorkToFalse 1 = .ok (.lstore_n 2, 1) := by decide +kernel
theorem d_D_narrowWorkToFalse_2 : decode b_D_narrowWorkToFalse 2 = .ok (.iconst 0, 1) := by decide +kernel
theorem d_D_narrowWorkToFalse_3 : decode b_D_narrowWorkToFalse 3 = .ok (.istore 4, 2) := by decide +kernel
theorem d_D_narrowWorkToFalse_5 : decode b_D_narrowWorkToFalse 5 = .ok (.iload 4, 2) := by decide +kernel
theorem d_D_narrowWorkToFalse_7 : decode b_D_narrowWorkToFalse 7 = .ok (.bipush 16, 2) := by decide +kernel
theorem d_D_narrowWorkToFalse_9 : decode b_D_narrowWorkToFalse 9 = .ok (.if_icmp .ge 44, 3) := by decide +kernel
theorem d_D_narrowWorkToFalse_12 : decode b_D_narrowWorkToFalse 12 = .ok (.aload_n 0, 1) := by decide +kernel
theorem d_D_narrowWorkToFalse_13 : decode b_D_narrowWorkToFalse 13 = .ok (.getfield 18, 3) := by decide +kernel
theorem d_D_narrowWorkToFalse_16 : decode b_D_narrowWorkToFalse 16 = .ok (.iload 4, 2) := by decide +kernel
theorem d_D_narrowWorkToFalse_18 : decode b_D_narrowWorkToFalse 18 = .ok (.aload_n 0, 1) := by decide +kernel
theorem d_D_narrowWorkToFalse_19 : decode b_D_narrowWorkToFalse 19 = .ok (.getfield 14, 3) := by decide +kernel
theorem d_D_narrowWorkToFalse_22 : decode b_D_narrowWorkToFalse 22 = .ok (.iload 4, 2) := by decide +kernel
theorem d_D_narrowWorkToFalse_24 : decode b_D_narrowWorkToFalse 24 = .ok (.laload, 1) := by decide +kernel
theorem d_D_narrowWorkToFalse_25 : decode b_D_narrowWorkToFalse 25 = .ok (.iload_n 1, 1) := by decide +kernel
theorem d_D_narrowWorkToFalse_26 : decode b_D_narrowWorkToFalse 26 = .ok (.iload 4, 2) := by decide +kernel
theorem d_D_narrowWorkToFalse_28 : decode b_D_narrowWorkToFalse 28 = .ok (.invokestatic 35, 3) := by decide +kernel
theorem d_D_narrowWorkToFalse_31 : decode b_D_narrowWorkToFalse 31 = .ok (.ldc2_w 136, 3) := by decide +kernel
theorem d_D_narrowWorkToFalse_34 : decode b_D_narrowWorkToFalse 34 = .ok (.lxor, 1) := by decide +kernel
theorem d_D_narrowWorkToFalse_35 : decode b_D_narrowWorkToFalse 35 = .ok (.land, 1) := by decide +kernel
theorem d_D_narrowWorkToFalse_36 : decode b_D_narrowWorkToFalse 36 = .ok (.lastore, 1) := by decide +kernel
theorem d_D_narrowWorkToFalse_37 : decode b_D_narrowWorkToFalse 37 = .ok (.lload_n 2, 1) := by decide +kernel
theorem d_D_narrowWorkToFalse_38 : decode b_D_narrowWorkToFalse 38 = .ok (.aload_n 0, 1) := by decide +kernel
theorem d_D_narrowWorkToFalse_39 : decode b_D_narrowWorkToFalse 39 = .ok (.getfield 18, 3) := by decide +kernel
theorem d_D_narrowWorkToFalse_42 : decode b_D_narrowWorkToFalse 42 = .ok (.iload 4, 2) := by decide +kernel
theorem d_D_narrowWorkToFalse_44 : decode b_D_narrowWorkToFalse 44 = .ok (.laload, 1) := by decide +kernel
theorem d_D_narrowWorkToFalse_45 : decode b_D_narrowWorkToFalse 45 = .ok (.lor, 1) := by decide +kernel
theorem d_D_narrowWorkToFalse_46 : decode b_D_narrowWorkToFalse 46 = .ok (.lstore_n 2, 1) := by decide +kernel
theorem d_D_narrowWorkToFalse_47 : decode b_D_narrowWorkToFalse 47 = .ok (.iinc 4 1, 3) := by decide +kernel
theorem d_D_narrowWorkToFalse_50 : decode b_D_narrowWorkToFalse 50 = .ok (.goto (-45), 3) := by decide +kernel
theorem d_D_narrowWorkToFalse_53 : decode b_D_narrowWorkToFalse 53 = .ok (.lload_n 2, 1) := by decide +kernel
theorem d_D_narrowWorkToFalse_54 : decode b_D_narrowWorkToFalse 54 = .ok (.lconst 0, 1) := by decide +kernel
theorem d_D_narrowWorkToFalse_55 : decode b_D_narrowWorkToFalse 55 = .ok (.lcmp, 1) := by decide +kernel
theorem d_D_narrowWorkToFalse_56 : decode b_D_narrowWorkToFalse 56 = .ok (.ifCond .ne 5, 3) := by decide +kernel
theorem d_D_narrowWorkToFalse_59 : decode b_D_narrowWorkToFalse 59 = .ok (.iconst 0, 1) := by decide +kernel
theorem d_D_narrowWorkToFalse_60 : decode b_D_narrowWorkToFalse 60 = .ok (.ireturn, 1) := by decide +kernel
theorem d_D_narrowWorkToFalse_61 : decode b_D_narrowWorkToFalse 61 = .ok (.aload_n 0, 1) := by decide +kernel
theorem d_D_narrowWorkToFalse_62 : decode b_D_narrowWorkToFalse 62 = .ok (.getfield 18, 3) := by decide +kernel
theorem d_D_narrowWorkToFalse_65 : decode b_D_narrowWorkToFalse 65 = .ok (.iconst 0, 1) := by decide +kernel
theorem d_D_narrowWorkToFalse_66 : decode b_D_narrowWorkToFalse 66 = .ok (.aload_n 0, 1) := by decide +kernel
theorem d_D_narrowWorkToFalse_67 : decode b_D_narrowWorkToFalse 67 = .ok (.getfield 14, 3) := by decide +kernel
theorem d_D_narrowWorkToFalse_70 : decode b_D_narrowWorkToFalse 70 = .ok (.iconst 0, 1) := by decide +kernel
theorem d_D_narrowWorkToFalse_71 : decode b_D_narrowWorkToFalse 71 = .ok (.bipush 16, 2) := by decide +kernel
theorem d_D_narrowWorkToFalse_73 : decode b_D_narrowWorkToFalse 73 = .ok (.invokestatic 70, 3) := by decide +kernel
theorem d_D_narrowWorkToFalse_76 : decode b_D_narrowWorkToFalse 76 = .ok (.iconst 1, 1) := by decide +kernel
theorem d_D_narrowWorkToFalse_77 : decode b_D_narrowWorkToFalse 77 = .ok (.ireturn, 1) := by decide +kernel
theorem d_D_countNodes_0 : decode b_D_countNodes 0 = .ok (.aload_n 0, 1) := by decide +kernel
theorem d_D_countNodes_1 : decode b_D_countNodes 1 = .ok (.getfield 24, 3) := by decide +kernel
theorem d_D_countNodes_4 : decode b_D_countNodes 4 = .ok (.invokevirtual 141, 3) := by decide +kernel
theorem d_D_countNodes_7 : decode b_D_countNodes 7 = .ok (.iload_n 1, 1) := by decide +kernel
theorem d_D_countNodes_8 : decode b_D_countNodes 8 = .ok (.istore_n 3, 1) := by decide +kernel
theorem d_D_countNodes_9 : decode b_D_countNodes 9 = .ok (.iload_n 3, 1) := by decide +kernel
theorem d_D_countNodes_10 : decode b_D_countNodes 10 = .ok (.iload_n 2, 1) := by decide +kernel
theorem d_D_countNodes_11 : decode b_D_countNodes 11 = .ok (.if_icmp .ge 22, 3) := by decide +kernel
theorem d_D_countNodes_14 : decode b_D_countNodes 14 = .ok (.aload_n 0, 1) := by decide +kernel
theorem d_D_countNodes_15 : decode b_D_countNodes 15 = .ok (.getfield 24, 3) := by decide +kernel
theorem d_D_countNodes_18 : decode b_D_countNodes 18 = .ok (.aload_n 0, 1) := by decide +kernel
theorem d_D_countNodes_19 : decode b_D_countNodes 19 = .ok (.getfield 11, 3) := by decide +kernel
theorem d_D_countNodes_22 : decode b_D_countNodes 22 = .ok (.iload_n 3, 1) := by decide +kernel
theorem d_D_countNodes_23 : decode b_D_countNodes 23 = .ok (.aaload, 1) := by decide +kernel
theorem d_D_countNodes_24 : decode b_D_countNodes 24 = .ok (.invokevirtual 144, 3) := by decide +kernel
theorem d_D_countNodes_27 : decode b_D_countNodes 27 = .ok (.iinc 3 1, 3) := by decide +kernel
theorem d_D_countNodes_30 : decode b_D_countNodes 30 = .ok (.goto (-21), 3) := by decide +kernel
theorem d_D_countNodes_33 : decode b_D_countNodes 33 = .ok (.aload_n 0, 1) := by decide +kernel
theorem d_D_countNodes_34 : decode b_D_countNodes 34 = .ok (.getfield 24, 3) := by decide +kernel
theorem d_D_countNodes_37 : decode b_D_countNodes 37 = .ok (.getfield 148, 3) := by decide +kernel
theorem d_D_countNodes_40 : decode b_D_countNodes 40 = .ok (.ireturn, 1) := by decide +kernel
theorem d_M_init_0 : decode b_M_init 0 = .ok (.aload_n 0, 1) := by decide +kernel
theorem d_M_init_1 : decode b_M_init 1 = .ok (.invokespecial 1, 3) := by decide +kernel
theorem d_M_init_4 : decode b_M_init 4 = .ok (.aload_n 0, 1) := by decide +kernel
theorem d_M_init_5 : decode b_M_init 5 = .ok (.iconst 0, 1) := by decide +kernel
theorem d_M_init_6 : decode b_M_init 6 = .ok (.putfield 7, 3) := by decide +kernel
theorem d_M_init_9 : decode b_M_init 9 = .ok (.aload_n 0, 1) := by decide +kernel
theorem d_M_init_10 : decode b_M_init 10 = .ok (.bipush 16, 2) := by decide +kernel
theorem d_M_init_12 : decode b_M_init 12 = .ok (.sipush 1024, 3) := by decide +kernel
theorem d_M_init_15 : decode b_M_init 15 = .ok (.multianewarray 13 2, 4) := by decide +kernel
theorem d_M_init_19 : decode b_M_init 19 = .ok (.putfield 15, 3) := by decide +kernel
theorem d_M_init_22 : decode b_M_init 22 = .ok (.aload_n 0, 1) := by decide +kernel
theorem d_M_init_23 : decode b_M_init 23 = .ok (.sipush 1024, 3) := by decide +kernel
theorem d_M_init_26 : decode b_M_init 26 = .ok (.newarray .boolean, 2) := by decide +kernel
theorem d_M_init_28 : decode b_M_init 28 = .ok (.putfield 18, 3) := by decide +kernel
theorem d_M_init_31 : decode b_M_init 31 = .ok (.aload_n 0, 1) := by decide +kernel
theorem d_M_init_32 : decode b_M_init 32 = .ok (.sipush 16384, 3) := by decide +kernel
theorem d_M_init_35 : decode b_M_init 35 = .ok (.newarray .int, 2) := by decide +kernel
theorem d_M_init_37 : decode b_M_init 37 = .ok (.putfield 22, 3) := by decide +kernel
theorem d_M_init_40 : decode b_M_init 40 = .ok (.aload_n 0, 1) := by decide +kernel
theorem d_M_init_41 : decode b_M_init 41 = .ok (.sipush 16384, 3) := by decide +kernel
theorem d_M_init_44 : decode b_M_init 44 = .ok (.newarray .int, 2) := by decide +kernel
theorem d_M_init_46 : decode b_M_init 46 = .ok (.putfield 26, 3) := by decide +kernel
theorem d_M_init_49 : decode b_M_init 49 = .ok (.return_, 1) := by decide +kernel
theorem d_M_thrown_0 : decode b_M_thrown 0 = .ok (.aload_n 0, 1) := by decide +kernel
theorem d_M_thrown_1 : decode b_M_thrown 1 = .ok (.getfield 7, 3) := by decide +kernel
theorem d_M_thrown_4 : decode b_M_thrown 4 = .ok (.ireturn, 1) := by decide +kernel
theorem d_M_bad_0 : decode b_M_bad 0 = .ok (.aload_n 0, 1) := by decide +kernel
theorem d_M_bad_1 : decode b_M_bad 1 = .ok (.iload_n 1, 1) := by decide +kernel
theorem d_M_bad_2 : decode b_M_bad 2 = .ok (.ifCond .eq 7, 3) := by decide +kernel
theorem d_M_bad_5 : decode b_M_bad 5 = .ok (.iconst 1, 1) := by decide +kernel
theorem d_M_bad_6 : decode b_M_bad 6 = .ok (.goto 4, 3) := by decide +kernel
theorem d_M_bad_9 : decode b_M_bad 9 = .ok (.iconst 0, 1) := by decide +kernel
theorem d_M_bad_10 : decode b_M_bad 10 = .ok (.putfield 7, 3) := by decide +kernel
theorem d_M_bad_13 : decode b_M_bad 13 = .ok (.iload_n 1, 1) := by decide +kernel
theorem d_M_bad_14 : decode b_M_bad 14 = .ok (.ireturn, 1) := by decide +kernel
theorem d_M_none_0 : decode b_M_none 0 = .ok (.iload_n 0, 1) := by decide +kernel
theorem d_M_none_1 : decode b_M_none 1 = .ok (.ifCond .lt 9, 3) := by decide +kernel
theorem d_M_none_4 : decode b_M_none 4 = .ok (.iload_n 0, 1) := by decide +kernel
theorem d_M_none_5 : decode b_M_none 5 = .ok (.bipush 15, 2) := by decide +kernel
theorem d_M_none_7 : decode b_M_none 7 = .ok (.if_icmp .le 7, 3) := by decide +kernel
theorem d_M_none_10 : decode b_M_none 10 = .ok (.iconst 1, 1) := by decide +kernel
theorem d_M_none_11 : decode b_M_none 11 = .ok (.goto 4, 3) := by decide +kernel
theorem d_M_none_14 : decode b_M_none 14 = .ok (.iconst 0, 1) := by decide +kernel
theorem d_M_none_15 : decode b_M_none 15 = .ok (.ireturn, 1) := by decide +kernel
theorem d_M_outside_0 : decode b_M_outside 0 = .ok (.iload_n 0, 1) := by decide +kernel
theorem d_M_outside_1 : decode b_M_outside 1 = .ok (.ifCond .lt 9, 3) := by decide +kernel
theorem d_M_outside_4 : decode b_M_outside 4 = .ok (.iload_n 0, 1) := by decide +kernel
theorem d_M_outside_5 : decode b_M_outside 5 = .ok (.bipush 9, 2) := by decide +kernel
theorem d_M_outside_7 : decode b_M_outside 7 = .ok (.if_icmp .le 7, 3) := by decide +kernel
theorem d_M_outside_10 : decode b_M_outside 10 = .ok (.iconst 1, 1) := by decide +kernel
theorem d_M_outside_11 : decode b_M_outside 11 = .ok (.goto 4, 3) := by decide +kernel
theorem d_M_outside_14 : decode b_M_outside 14 = .ok (.iconst 0, 1) := by decide +kernel
theorem d_M_outside_15 : decode b_M_outside 15 = .ok (.ireturn, 1) := by decide +kernel
theorem d_M_beyond_0 : decode b_M_beyond 0 = .ok (.iload_n 0, 1) := by decide +kernel
theorem d_M_beyond_1 : decode b_M_beyond 1 = .ok (.ifCond .lt 10, 3) := by decide +kernel
theorem d_M_beyond_4 : decode b_M_beyond 4 = .ok (.iload_n 0, 1) := by decide +kernel
theorem d_M_beyond_5 : decode b_M_beyond 5 = .ok (.sipush 1024, 3) := by decide +kernel
theorem d_M_beyond_8 : decode b_M_beyond 8 = .ok (.if_icmp .lt 7, 3) := by decide +kernel
theorem d_M_beyond_11 : decode b_M_beyond 11 = .ok (.iconst 1, 1) := by decide +kernel
theorem d_M_beyond_12 : decode b_M_beyond 12 = .ok (.goto 4, 3) := by decide +kernel
theorem d_M_beyond_15 : decode b_M_beyond 15 = .ok (.iconst 0, 1) := by decide +kernel
theorem d_M_beyond_16 : decode b_M_beyond 16 = .ok (.ireturn, 1) := by decide +kernel
theorem d_M_keep_0 : decode b_M_keep 0 = .ok (.aload_n 0, 1) := by decide +kernel
theorem d_M_keep_1 : decode b_M_keep 1 = .ok (.getfield 18, 3) := by decide +kernel
theorem d_M_keep_4 : decode b_M_keep 4 = .ok (.iconst 0, 1) := by decide +kernel
theorem d_M_keep_5 : decode b_M_keep 5 = .ok (.aload_n 0, 1) := by decide +kernel
theorem d_M_keep_6 : decode b_M_keep 6 = .ok (.getfield 15, 3) := by decide +kernel
theorem d_M_keep_9 : decode b_M_keep 9 = .ok (.iload_n 1, 1) := by decide +kernel
theorem d_M_keep_10 : decode b_M_keep 10 = .ok (.aaload, 1) := by decide +kernel
theorem d_M_keep_11 : decode b_M_keep 11 = .ok (.iconst 0, 1) := by decide +kernel
theorem d_M_keep_12 : decode b_M_keep 12 = .ok (.sipush 1024, 3) := by decide +kernel
theorem d_M_keep_15 : decode b_M_keep 15 = .ok (.invokestatic 29, 3) := by decide +kernel
theorem d_M_keep_18 : decode b_M_keep 18 = .ok (.return_, 1) := by decide +kernel
theorem d_M_variable_0 : decode b_M_variable 0 = .ok (.aload_n 0, 1) := by decide +kernel
theorem d_M_variable_1 : decode b_M_variable 1 = .ok (.iload_n 1, 1) := by decide +kernel
theorem d_M_variable_2 : decode b_M_variable 2 = .ok (.invokestatic 35, 3) := by decide +kernel
theorem d_M_variable_5 : decode b_M_variable 5 = .ok (.ifCond .ne 10, 3) := by decide +kernel
theorem d_M_variable_8 : decode b_M_variable 8 = .ok (.iload_n 2, 1) := by decide +kernel
theorem d_M_variable_9 : decode b_M_variable 9 = .ok (.invokestatic 39, 3) := by decide +kernel
theorem d_M_variable_12 : decode b_M_variable 12 = .ok (.ifCond .eq 7, 3) := by decide +kernel
theorem d_M_variable_15 : decode b_M_variable 15 = .ok (.iconst 1, 1) := by decide +kernel
theorem d_M_variable_16 : decode b_M_variable 16 = .ok (.goto 4, 3) := by decide +kernel
theorem d_M_variable_19 : decode b_M_variable 19 = .ok (.iconst 0, 1) := by decide +kernel
theorem d_M_variable_20 : decode b_M_variable 20 = .ok (.invokevirtual 42, 3) := by decide +kernel
theorem d_M_variable_23 : decode b_M_variable 23 = .ok (.ifCond .eq 4, 3) := by decide +kernel
theorem d_M_variable_26 : decode b_M_variable 26 = .ok (.return_, 1) := by decide +kernel
theorem d_M_variable_27 : decode b_M_variable 27 = .ok (.iconst 0, 1) := by decide +kernel
theorem d_M_variable_28 : decode b_M_variable 28 = .ok (.istore_n 3, 1) := by decide +kernel
theorem d_M_variable_29 : decode b_M_variable 29 = .ok (.iload_n 3, 1) := by decide +kernel
theorem d_M_variable_30 : decode b_M_variable 30 = .ok (.sipush 1024, 3) := by decide +kernel
theorem d_M_variable_33 : decode b_M_variable 33 = .ok (.if_icmp .ge 31, 3) := by decide +kernel
theorem d_M_variable_36 : decode b_M_variable 36 = .ok (.aload_n 0, 1) := by decide +kernel
theorem d_M_variable_37 : decode b_M_variable 37 = .ok (.getfield 15, 3) := by decide +kernel
theorem d_M_variable_40 : decode b_M_variable 40 = .ok (.iload_n 1, 1) := by decide +kernel
theorem d_M_variable_41 : decode b_M_variable 41 = .ok (.aaload, 1) := by decide +kernel
theorem d_M_variable_42 : decode b_M_variable 42 = .ok (.iload_n 3, 1) := by decide +kernel
theorem d_M_variable_43 : decode b_M_variable 43 = .ok (.iload_n 3, 1) := by decide +kernel
theorem d_M_variable_44 : decode b_M_variable 44 = .ok (.iload_n 2, 1) := by decide +kernel
theorem d_M_variable_45 : decode b_M_variable 45 = .ok (.ishr, 1) := by decide +kernel
theorem d_M_variable_46 : decode b_M_variable 46 = .ok (.iconst 1, 1) := by decide +kernel
theorem d_M_variable_47 : decode b_M_variable 47 = .ok (.iand, 1) := by decide +kernel
theorem d_M_variable_48 : decode b_M_variable 48 = .ok (.iconst 1, 1) := by decide +kernel
theorem d_M_variable_49 : decode b_M_variable 49 = .ok (.if_icmp .ne 7, 3) := by decide +kernel
theorem d_M_variable_52 : decode b_M_variable 52 = .ok (.iconst 1, 1) := by decide +kernel
theorem d_M_variable_53 : decode b_M_variable 53 = .ok (.goto 4, 3) := by decide +kernel
theorem d_M_variable_56 : decode b_M_variable 56 = .ok (.iconst 0, 1) := by decide +kernel
theorem d_M_variable_57 : decode b_M_variable 57 = .ok (.bastore, 1) := by decide +kernel
theorem d_M_variable_58 : decode b_M_variable 58 = .ok (.iinc 3 1, 3) := by decide +kernel
theorem d_M_variable_61 : decode b_M_variable 61 = .ok (.goto (-32), 3) := by decide +kernel
theorem d_M_variable_64 : decode b_M_variable 64 = .ok (.return_, 1) := by decide +kernel
theorem d_M_only_0 : decode b_M_only 0 = .ok (.aload_n 0, 1) := by decide +kernel
theorem d_M_only_1 : decode b_M_only 1 = .ok (.iload_n 1, 1) := by decide +kernel
theorem d_M_only_2 : decode b_M_only 2 = .ok (.invokestatic 35, 3) := by decide +kernel
theorem d_M_only_5 : decode b_M_only 5 = .ok (.ifCond .ne 10, 3) := by decide +kernel
theorem d_M_only_8 : decode b_M_only 8 = .ok (.iload_n 2, 1) := by decide +kernel
theorem d_M_only_9 : decode b_M_only 9 = .ok (.invokestatic 46, 3) := by decide +kernel
theorem d_M_only_12 : decode b_M_only 12 = .ok (.ifCond .eq 7, 3) := by decide +kernel
theorem d_M_only_15 : decode b_M_only 15 = .ok (.iconst 1, 1) := by decide +kernel
theorem d_M_only_16 : decode b_M_only 16 = .ok (.goto 4, 3) := by decide +kernel
theorem d_M_only_19 : decode b_M_only 19 = .ok (.iconst 0, 1) := by decide +kernel
theorem d_M_only_20 : decode b_M_only 20 = .ok (.invokevirtual 42, 3) := by decide +kernel
theorem d_M_only_23 : decode b_M_only 23 = .ok (.ifCond .eq 4, 3) := by decide +kernel
theorem d_M_only_26 : decode b_M_only 26 = .ok (.return_, 1) := by decide +kernel
theorem d_M_only_27 : decode b_M_only 27 = .ok (.iconst 0, 1) := by decide +kernel
theorem d_M_only_28 : decode b_M_only 28 = .ok (.istore_n 3, 1) := by decide +kernel
theorem d_M_only_29 : decode b_M_only 29 = .ok (.iload_n 3, 1) := by decide +kernel
theorem d_M_only_30 : decode b_M_only 30 = .ok (.sipush 1024, 3) := by decide +kernel
theorem d_M_only_33 : decode b_M_only 33 = .ok (.if_icmp .ge 27, 3) := by decide +kernel
theorem d_M_only_36 : decode b_M_only 36 = .ok (.aload_n 0, 1) := by decide +kernel
theorem d_M_only_37 : decode b_M_only 37 = .ok (.getfield 15, 3) := by decide +kernel
theorem d_M_only_40 : decode b_M_only 40 = .ok (.iload_n 1, 1) := by decide +kernel
theorem d_M_only_41 : decode b_M_only 41 = .ok (.aaload, 1) := by decide +kernel
theorem d_M_only_42 : decode b_M_only 42 = .ok (.iload_n 3, 1) := by decide +kernel
theorem d_M_only_43 : decode b_M_only 43 = .ok (.iload_n 3, 1) := by decide +kernel
theorem d_M_only_44 : decode b_M_only 44 = .ok (.iload_n 2, 1) := by decide +kernel
theorem d_M_only_45 : decode b_M_only 45 = .ok (.if_icmp .ne 7, 3) := by decide +kernel
theorem d_M_only_48 : decode b_M_only 48 = .ok (.iconst 1, 1) := by decide +kernel
theorem d_M_only_49 : decode b_M_only 49 = .ok (.goto 4, 3) := by decide +kernel
theorem d_M_only_52 : decode b_M_only 52 = .ok (.iconst 0, 1) := by decide +kernel
theorem d_M_only_53 : decode b_M_only 53 = .ok (.bastore, 1) := by decide +kernel
theorem d_M_only_54 : decode b_M_only 54 = .ok (.iinc 3 1, 3) := by decide +kernel
theorem d_M_only_57 : decode b_M_only 57 = .ok (.goto (-28), 3) := by decide +kernel
theorem d_M_only_60 : decode b_M_only 60 = .ok (.return_, 1) := by decide +kernel
theorem d_M_join_0 : decode b_M_join 0 = .ok (.aload_n 0, 1) := by decide +kernel
theorem d_M_join_1 : decode b_M_join 1 = .ok (.iload_n 1, 1) := by decide +kernel
theorem d_M_join_2 : decode b_M_join 2 = .ok (.invokestatic 35, 3) := by decide +kernel
theorem d_M_join_5 : decode b_M_join 5 = .ok (.ifCond .ne 27, 3) := by decide +kernel
theorem d_M_join_8 : decode b_M_join 8 = .ok (.iload_n 2, 1) := by decide +kernel
theorem d_M_join_9 : decode b_M_join 9 = .ok (.ifCond .lt 23, 3) := by decide +kernel
theorem d_M_join_12 : decode b_M_join 12 = .ok (.iload_n 2, 1) := by decide +kernel
theorem d_M_join_13 : decode b_M_join 13 = .ok (.iconst 4, 1) := by decide +kernel
theorem d_M_join_14 : decode b_M_join 14 = .ok (.if_icmp .gt 18, 3) := by decide +kernel
theorem d_M_join_17 : decode b_M_join 17 = .ok (.iload_n 3, 1) := by decide +kernel
theorem d_M_join_18 : decode b_M_join 18 = .ok (.invokestatic 35, 3) := by decide +kernel
theorem d_M_join_21 : decode b_M_join 21 = .ok (.ifCond .ne 11, 3) := by decide +kernel
theorem d_M_join_24 : decode b_M_join 24 = .ok (.iload 4, 2) := by decide +kernel
theorem d_M_join_26 : decode b_M_join 26 = .ok (.invokestatic 35, 3) := by decide +kernel
theorem d_M_join_29 : decode b_M_join 29 = .ok (.ifCond .eq 7, 3) := by decide +kernel
theorem d_M_join_32 : decode b_M_join 32 = .ok (.iconst 1, 1) := by decide +kernel
theorem d_M_join_33 : decode b_M_join 33 = .ok (.goto 4, 3) := by decide +kernel
theorem d_M_join_36 : decode b_M_join 36 = .ok (.iconst 0, 1) := by decide +kernel
theorem d_M_join_37 : decode b_M_join 37 = .ok (.invokevirtual 42, 3) := by decide +kernel
theorem d_M_join_40 : decode b_M_join 40 = .ok (.ifCond .eq 4, 3) := by decide +kernel
theorem d_M_join_43 : decode b_M_join 43 = .ok (.return_, 1) := by decide +kernel
theorem d_M_join_44 : decode b_M_join 44 = .ok (.iconst 0, 1) := by decide +kernel
theorem d_M_join_45 : decode b_M_join 45 = .ok (.istore 5, 2) := by decide +kernel
theorem d_M_join_47 : decode b_M_join 47 = .ok (.iload 5, 2) := by decide +kernel
theorem d_M_join_49 : decode b_M_join 49 = .ok (.sipush 1024, 3) := by decide +kernel
theorem d_M_join_52 : decode b_M_join 52 = .ok (.if_icmp .ge 137, 3) := by decide +kernel
theorem d_M_join_55 : decode b_M_join 55 = .ok (.aload_n 0, 1) := by decide +kernel
theorem d_M_join_56 : decode b_M_join 56 = .ok (.getfield 15, 3) := by decide +kernel
theorem d_M_join_59 : decode b_M_join 59 = .ok (.iload_n 3, 1) := by decide +kernel
theorem d_M_join_60 : decode b_M_join 60 = .ok (.aaload, 1) := by decide +kernel
theorem d_M_join_61 : decode b_M_join 61 = .ok (.iload 5, 2) := by decide +kernel
theorem d_M_join_63 : decode b_M_join 63 = .ok (.baload, 1) := by decide +kernel
theorem d_M_join_64 : decode b_M_join 64 = .ok (.istore 6, 2) := by decide +kernel
theorem d_M_join_66 : decode b_M_join 66 = .ok (.aload_n 0, 1) := by decide +kernel
theorem d_M_join_67 : decode b_M_join 67 = .ok (.getfield 15, 3) := by decide +kernel
theorem d_M_join_70 : decode b_M_join 70 = .ok (.iload 4, 2) := by decide +kernel
theorem d_M_join_72 : decode b_M_join 72 = .ok (.aaload, 1) := by decide +kernel
theorem d_M_join_73 : decode b_M_join 73 = .ok (.iload 5, 2) := by decide +kernel
theorem d_M_join_75 : decode b_M_join 75 = .ok (.baload, 1) := by decide +kernel
theorem d_M_join_76 : decode b_M_join 76 = .ok (.istore 7, 2) := by decide +kernel
theorem d_M_join_78 : decode b_M_join 78 = .ok (.aload_n 0, 1) := by decide +kernel
theorem d_M_join_79 : decode b_M_join 79 = .ok (.getfield 18, 3) := by decide +kernel
theorem d_M_join_82 : decode b_M_join 82 = .ok (.iload 5, 2) := by decide +kernel
theorem d_M_join_84 : decode b_M_join 84 = .ok (.iload_n 2, 1) := by decide +kernel
theorem d_M_join_85 : decode b_M_join 85 = .ok (.ifCond .ne 21, 3) := by decide +kernel
theorem d_M_join_88 : decode b_M_join 88 = .ok (.iload 6, 2) := by decide +kernel
theorem d_M_join_90 : decode b_M_join 90 = .ok (.ifCond .eq 12, 3) := by decide +kernel
theorem d_M_join_93 : decode b_M_join 93 = .ok (.iload 7, 2) := by decide +kernel
theorem d_M_join_95 : decode b_M_join 95 = .ok (.ifCond .eq 7, 3) := by decide +kernel
theorem d_M_join_98 : decode b_M_join 98 = .ok (.iconst 1, 1) := by decide +kernel
theorem d_M_join_99 : decode b_M_join 99 = .ok (.goto 83, 3) := by decide +kernel
theorem d_M_join_102 : decode b_M_join 102 = .ok (.iconst 0, 1) := by decide +kernel
theorem d_M_join_103 : decode b_M_join 103 = .ok (.goto 79, 3) := by decide +kernel
theorem d_M_join_106 : decode b_M_join 106 = .ok (.iload_n 2, 1) := by decide +kernel
theorem d_M_join_107 : decode b_M_join 107 = .ok (.iconst 1, 1) := by decide +kernel
theorem d_M_join_108 : decode b_M_join 108 = .ok (.if_icmp .ne 21, 3) := by decide +kernel
theorem d_M_join_111 : decode b_M_join 111 = .ok (.iload 6, 2) := by decide +kernel
theorem d_M_join_113 : decode b_M_join 113 = .ok (.ifCond .ne 8, 3) := by decide +kernel
theorem d_M_join_116 : decode b_M_join 116 = .ok (.iload 7, 2) := by decide +kernel
theorem d_M_join_118 : decode b_M_join 118 = .ok (.ifCond .eq 7, 3) := by decide +kernel
theorem d_M_join_121 : decode b_M_join 121 = .ok (.iconst 1, 1) := by decide +kernel
theorem d_M_join_122 : decode b_M_join 122 = .ok (.goto 60, 3) := by decide +kernel
theorem d_M_join_125 : decode b_M_join 125 = .ok (.iconst 0, 1) := by decide +kernel
theorem d_M_join_126 : decode b_M_join 126 = .ok (.goto 56, 3) := by decide +kernel
theorem d_M_join_129 : decode b_M_join 129 = .ok (.iload_n 2, 1) := by decide +kernel
theorem d_M_join_130 : decode b_M_join 130 = .ok (.iconst 2, 1) := by decide +kernel
theorem d_M_join_131 : decode b_M_join 131 = .ok (.if_icmp .ne 18, 3) := by decide +kernel
theorem d_M_join_134 : decode b_M_join 134 = .ok (.iload 6, 2) := by decide +kernel
theorem d_M_join_136 : decode b_M_join 136 = .ok (.iload 7, 2) := by decide +kernel
theorem d_M_join_138 : decode b_M_join 138 = .ok (.if_icmp .eq 7, 3) := by decide +kernel
theorem d_M_join_141 : decode b_M_join 141 = .ok (.iconst 1, 1) := by decide +kernel
theorem d_M_join_142 : decode b_M_join 142 = .ok (.goto 40, 3) := by decide +kernel
theorem d_M_join_145 : decode b_M_join 145 = .ok (.iconst 0, 1) := by decide +kernel
theorem d_M_join_146 : decode b_M_join 146 = .ok (.goto 36, 3) := by decide +kernel
theorem d_M_join_149 : decode b_M_join 149 = .ok (.iload_n 2, 1) := by decide +kernel
theorem d_M_join_150 : decode b_M_join 150 = .ok (.iconst 3, 1) := by decide +kernel
theorem d_M_join_151 : decode b_M_join 151 = .ok (.if_icmp .ne 21, 3) := by decide +kernel
theorem d_M_join_154 : decode b_M_join 154 = .ok (.iload 6, 2) := by decide +kernel
theorem d_M_join_156 : decode b_M_join 156 = .ok (.ifCond .eq 8, 3) := by decide +kernel
theorem d_M_join_159 : decode b_M_join 159 = .ok (.iload 7, 2) := by decide +kernel
theorem d_M_join_161 : decode b_M_join 161 = .ok (.ifCond .eq 7, 3) := by decide +kernel
theorem d_M_join_164 : decode b_M_join 164 = .ok (.iconst 1, 1) := by decide +kernel
theorem d_M_join_165 : decode b_M_join 165 = .ok (.goto 17, 3) := by decide +kernel
theorem d_M_join_168 : decode b_M_join 168 = .ok (.iconst 0, 1) := by decide +kernel
theorem d_M_join_169 : decode b_M_join 169 = .ok (.goto 13, 3) := by decide +kernel
theorem d_M_join_172 : decode b_M_join 172 = .ok (.iload 6, 2) := by decide +kernel
theorem d_M_join_174 : decode b_M_join 174 = .ok (.ifCond .ne 7, 3) := by decide +kernel
theorem d_M_join_177 : decode b_M_join 177 = .ok (.iconst 1, 1) := by decide +kernel
theorem d_M_join_178 : decode b_M_join 178 = .ok (.goto 4, 3) := by decide +kernel
theorem d_M_join_181 : decode b_M_join 181 = .ok (.iconst 0, 1) := by decide +kernel
theorem d_M_join_182 : decode b_M_join 182 = .ok (.bastore, 1) := by decide +kernel
theorem d_M_join_183 : decode b_M_join 183 = .ok (.iinc 5 1, 3) := by decide +kernel
theorem d_M_join_186 : decode b_M_join 186 = .ok (.goto (-139), 3) := by decide +kernel
theorem d_M_join_189 : decode b_M_join 189 = .ok (.aload_n 0, 1) := by decide +kernel
theorem d_M_join_190 : decode b_M_join 190 = .ok (.iload_n 1, 1) := by decide +kernel
theorem d_M_join_191 : decode b_M_join 191 = .ok (.invokevirtual 49, 3) := by decide +kernel
theorem d_M_join_194 : decode b_M_join 194 = .ok (.return_, 1) := by decide +kernel
theorem d_M_choose_0 : decode b_M_choose 0 = .ok (.aload_n 0, 1) := by decide +kernel
theorem d_M_choose_1 : decode b_M_choose 1 = .ok (.iload_n 1, 1) := by decide +kernel
theorem d_M_choose_2 : decode b_M_choose 2 = .ok (.invokestatic 35, 3) := by decide +kernel
theorem d_M_choose_5 : decode b_M_choose 5 = .ok (.ifCond .ne 25, 3) := by decide +kernel
theorem d_M_choose_8 : decode b_M_choose 8 = .ok (.iload_n 2, 1) := by decide +kernel
theorem d_M_choose_9 : decode b_M_choose 9 = .ok (.invokestatic 35, 3) := by decide +kernel
theorem d_M_choose_12 : decode b_M_choose 12 = .ok (.ifCond .ne 18, 3) := by decide +kernel
theorem d_M_choose_15 : decode b_M_choose 15 = .ok (.iload_n 3, 1) := by decide +kernel
theorem d_M_choose_16 : decode b_M_choose 16 = .ok (.invokestatic 35, 3) := by decide +kernel
theorem d_M_choose_19 : decode b_M_choose 19 = .ok (.ifCond .ne 11, 3) := by decide +kernel
theorem d_M_choose_22 : decode b_M_choose 22 = .ok (.iload 4, 2) := by decide +kernel
theorem d_M_choose_24 : decode b_M_choose 24 = .ok (.invokestatic 35, 3) := by decide +kernel
theorem d_M_choose_27 : decode b_M_choose 27 = .ok (.ifCond .eq 7, 3) := by decide +kernel
theorem d_M_choose_30 : decode b_M_choose 30 = .ok (.iconst 1, 1) := by decide +kernel
theorem d_M_choose_31 : decode b_M_choose 31 = .ok (.goto 4, 3) := by decide +kernel
theorem d_M_choose_34 : decode b_M_choose 34 = .ok (.iconst 0, 1) := by decide +kernel
theorem d_M_choose_35 : decode b_M_choose 35 = .ok (.invokevirtual 42, 3) := by decide +kernel
theorem d_M_choose_38 : decode b_M_choose 38 = .ok (.ifCond .eq 4, 3) := by decide +kernel
theorem d_M_choose_41 : decode b_M_choose 41 = .ok (.return_, 1) := by decide +kernel
theorem d_M_choose_42 : decode b_M_choose 42 = .ok (.iconst 0, 1) := by decide +kernel
theorem d_M_choose_43 : decode b_M_choose 43 = .ok (.istore 5, 2) := by decide +kernel
theorem d_M_choose_45 : decode b_M_choose 45 = .ok (.iload 5, 2) := by decide +kernel
theorem d_M_choose_47 : decode b_M_choose 47 = .ok (.sipush 1024, 3) := by decide +kernel
theorem d_M_choose_50 : decode b_M_choose 50 = .ok (.if_icmp .ge 50, 3) := by decide +kernel
theorem d_M_choose_53 : decode b_M_choose 53 = .ok (.aload_n 0, 1) := by decide +kernel
theorem d_M_choose_54 : decode b_M_choose 54 = .ok (.getfield 18, 3) := by decide +kernel
theorem d_M_choose_57 : decode b_M_choose 57 = .ok (.iload 5, 2) := by decide +kernel
theorem d_M_choose_59 : decode b_M_choose 59 = .ok (.aload_n 0, 1) := by decide +kernel
theorem d_M_choose_60 : decode b_M_choose 60 = .ok (.getfield 15, 3) := by decide +kernel
theorem d_M_choose_63 : decode b_M_choose 63 = .ok (.iload_n 2, 1) := by decide +kernel
theorem d_M_choose_64 : decode b_M_choose 64 = .ok (.aaload, 1) := by decide +kernel
theorem d_M_choose_65 : decode b_M_choose 65 = .ok (.iload 5, 2) := by decide +kernel
theorem d_M_choose_67 : decode b_M_choose 67 = .ok (.baload, 1) := by decide +kernel
theorem d_M_choose_68 : decode b_M_choose 68 = .ok (.ifCond .eq 15, 3) := by decide +kernel
theorem d_M_choose_71 : decode b_M_choose 71 = .ok (.aload_n 0, 1) := by decide +kernel
theorem d_M_choose_72 : decode b_M_choose 72 = .ok (.getfield 15, 3) := by decide +kernel
theorem d_M_choose_75 : decode b_M_choose 75 = .ok (.iload_n 3, 1) := by decide +kernel
theorem d_M_choose_76 : decode b_M_choose 76 = .ok (.aaload, 1) := by decide +kernel
theorem d_M_choose_77 : decode b_M_choose 77 = .ok (.iload 5, 2) := by decide +kernel
theorem d_M_choose_79 : decode b_M_choose 79 = .ok (.baload, 1) := by decide +kernel
theorem d_M_choose_80 : decode b_M_choose 80 = .ok (.goto 13, 3) := by decide +kernel
theorem d_M_choose_83 : decode b_M_choose 83 = .ok (.aload_n 0, 1) := by decide +kernel
theorem d_M_choose_84 : decode b_M_choose 84 = .ok (.getfield 15, 3) := by decide +kernel
theorem d_M_choose_87 : decode b_M_choose 87 = .ok (.iload 4, 2) := by decide +kernel
theorem d_M_choose_89 : decode b_M_choose 89 = .ok (.aaload, 1) := by decide +kernel
theorem d_M_choose_90 : decode b_M_choose 90 = .ok (.iload 5, 2) := by decide +kernel
theorem d_M_choose_92 : decode b_M_choose 92 = .ok (.baload, 1) := by decide +kernel
theorem d_M_choose_93 : decode b_M_choose 93 = .ok (.bastore, 1) := by decide +kernel
theorem d_M_choose_94 : decode b_M_choose 94 = .ok (.iinc 5 1, 3) := by decide +kernel
theorem d_M_choose_97 : decode b_M_choose 97 = .ok (.goto (-52), 3) := by decide +kernel
theorem d_M_choose_100 : decode b_M_choose 100 = .ok (.aload_n 0, 1) := by decide +kernel
theorem d_M_choose_101 : decode b_M_choose 101 = .ok (.iload_n 1, 1) := by decide +kernel
theorem d_M_choose_102 : decode b_M_choose 102 = .ok (.invokevirtual 49, 3) := by decide +kernel
theorem d_M_choose_105 : decode b_M_choose 105 = .ok (.return_, 1) := by decide +kernel
theorem d_M_cut_0 : decode b_M_cut 0 = .ok (.aload_n 0, 1) := by decide +kernel
theorem d_M_cut_1 : decode b_M_cut 1 = .ok (.iload_n 1, 1) := by decide +kernel
theorem d_M_cut_2 : decode b_M_cut 2 = .ok (.invokestatic 35, 3) := by decide +kernel
theorem d_M_cut_5 : decode b_M_cut 5 = .ok (.ifCond .ne 17, 3) := by decide +kernel
theorem d_M_cut_8 : decode b_M_cut 8 = .ok (.iload_n 2, 1) := by decide +kernel
theorem d_M_cut_9 : decode b_M_cut 9 = .ok (.invokestatic 35, 3) := by decide +kernel
theorem d_M_cut_12 : decode b_M_cut 12 = .ok (.ifCond .ne 10, 3) := by decide +kernel
theorem d_M_cut_15 : decode b_M_cut 15 = .ok (.iload_n 3, 1) := by decide +kernel
theorem d_M_cut_16 : decode b_M_cut 16 = .ok (.invokestatic 39, 3) := by decide +kernel
theorem d_M_cut_19 : decode b_M_cut 19 = .ok (.ifCond .eq 7, 3) := by decide +kernel
theorem d_M_cut_22 : decode b_M_cut 22 = .ok (.iconst 1, 1) := by decide +kernel
theorem d_M_cut_23 : decode b_M_cut 23 = .ok (.goto 4, 3) := by decide +kernel
theorem d_M_cut_26 : decode b_M_cut 26 = .ok (.iconst 0, 1) := by decide +kernel
theorem d_M_cut_27 : decode b_M_cut 27 = .ok (.invokevirtual 42, 3) := by decide +kernel
theorem d_M_cut_30 : decode b_M_cut 30 = .ok (.ifCond .eq 4, 3) := by decide +kernel
theorem d_M_cut_33 : decode b_M_cut 33 = .ok (.return_, 1) := by decide +kernel
theorem d_M_cut_34 : decode b_M_cut 34 = .ok (.iconst 0, 1) := by decide +kernel
theorem d_M_cut_35 : decode b_M_cut 35 = .ok (.istore 5, 2) := by decide +kernel
theorem d_M_cut_37 : decode b_M_cut 37 = .ok (.iload 5, 2) := by decide +kernel
theorem d_M_cut_39 : decode b_M_cut 39 = .ok (.sipush 1024, 3) := by decide +kernel
theorem d_M_cut_42 : decode b_M_cut 42 = .ok (.if_icmp .ge 45, 3) := by decide +kernel
theorem d_M_cut_45 : decode b_M_cut 45 = .ok (.aload_n 0, 1) := by decide +kernel
theorem d_M_cut_46 : decode b_M_cut 46 = .ok (.getfield 18, 3) := by decide +kernel
theorem d_M_cut_49 : decode b_M_cut 49 = .ok (.iload 5, 2) := by decide +kernel
theorem d_M_cut_51 : decode b_M_cut 51 = .ok (.aload_n 0, 1) := by decide +kernel
theorem d_M_cut_52 : decode b_M_cut 52 = .ok (.getfield 15, 3) := by decide +kernel
theorem d_M_cut_55 : decode b_M_cut 55 = .ok (.iload_n 2, 1) := by decide +kernel
theorem d_M_cut_56 : decode b_M_cut 56 = .ok (.aaload, 1) := by decide +kernel
theorem d_M_cut_57 : decode b_M_cut 57 = .ok (.iload 4, 2) := by decide +kernel
theorem d_M_cut_59 : decode b_M_cut 59 = .ok (.ifCond .eq 12, 3) := by decide +kernel
theorem d_M_cut_62 : decode b_M_cut 62 = .ok (.iload 5, 2) := by decide +kernel
theorem d_M_cut_64 : decode b_M_cut 64 = .ok (.iconst 1, 1) := by decide +kernel
theorem d_M_cut_65 : decode b_M_cut 65 = .ok (.iload_n 3, 1) := by decide +kernel
theorem d_M_cut_66 : decode b_M_cut 66 = .ok (.ishl, 1) := by decide +kernel
theorem d_M_cut_67 : decode b_M_cut 67 = .ok (.ior, 1) := by decide +kernel
theorem d_M_cut_68 : decode b_M_cut 68 = .ok (.goto 11, 3) := by decide +kernel
theorem d_M_cut_71 : decode b_M_cut 71 = .ok (.iload 5, 2) := by decide +kernel
theorem d_M_cut_73 : decode b_M_cut 73 = .ok (.iconst 1, 1) := by decide +kernel
theorem d_M_cut_74 : decode b_M_cut 74 = .ok (.iload_n 3, 1) := by decide +kernel
theorem d_M_cut_75 : decode b_M_cut 75 = .ok (.ishl, 1) := by decide +kernel
theorem d_M_cut_76 : decode b_M_cut 76 = .ok (.iconst (-1), 1) := by decide +kernel
theorem d_M_cut_77 : decode b_M_cut 77 = .ok (.ixor, 1) := by decide +kernel
theorem d_M_cut_78 : decode b_M_cut 78 = .ok (.iand, 1) := by decide +kernel
theorem d_M_cut_79 : decode b_M_cut 79 = .ok (.baload, 1) := by decide +kernel
theorem d_M_cut_80 : decode b_M_cut 80 = .ok (.bastore, 1) := by decide +kernel
theorem d_M_cut_81 : decode b_M_cut 81 = .ok (.iinc 5 1, 3) := by decide +kernel
theorem d_M_cut_84 : decode b_M_cut 84 = .ok (.goto (-47), 3) := by decide +kernel
theorem d_M_cut_87 : decode b_M_cut 87 = .ok (.aload_n 0, 1) := by decide +kernel
theorem d_M_cut_88 : decode b_M_cut 88 = .ok (.iload_n 1, 1) := by decide +kernel
theorem d_M_cut_89 : decode b_M_cut 89 = .ok (.invokevirtual 49, 3) := by decide +kernel
theorem d_M_cut_92 : decode b_M_cut 92 = .ok (.return_, 1) := by decide +kernel
theorem d_M_put_0 : decode b_M_put 0 = .ok (.aload_n 0, 1) := by decide +kernel
theorem d_M_put_1 : decode b_M_put 1 = .ok (.iload_n 1, 1) := by decide +kernel
theorem d_M_put_2 : decode b_M_put 2 = .ok (.invokestatic 35, 3) := by decide +kernel
theorem d_M_put_5 : decode b_M_put 5 = .ok (.ifCond .ne 25, 3) := by decide +kernel
theorem d_M_put_8 : decode b_M_put 8 = .ok (.iload_n 2, 1) := by decide +kernel
theorem d_M_put_9 : decode b_M_put 9 = .ok (.invokestatic 35, 3) := by decide +kernel
theorem d_M_put_12 : decode b_M_put 12 = .ok (.ifCond .ne 18, 3) := by decide +kernel
theorem d_M_put_15 : decode b_M_put 15 = .ok (.iload_n 3, 1) := by decide +kernel
theorem d_M_put_16 : decode b_M_put 16 = .ok (.invokestatic 39, 3) := by decide +kernel
theorem d_M_put_19 : decode b_M_put 19 = .ok (.ifCond .ne 11, 3) := by decide +kernel
theorem d_M_put_22 : decode b_M_put 22 = .ok (.iload 4, 2) := by decide +kernel
theorem d_M_put_24 : decode b_M_put 24 = .ok (.invokestatic 35, 3) := by decide +kernel
theorem d_M_put_27 : decode b_M_put 27 = .ok (.ifCond .eq 7, 3) := by decide +kernel
theorem d_M_put_30 : decode b_M_put 30 = .ok (.iconst 1, 1) := by decide +kernel
theorem d_M_put_31 : decode b_M_put 31 = .ok (.goto 4, 3) := by decide +kernel
theorem d_M_put_34 : decode b_M_put 34 = .ok (.iconst 0, 1) := by decide +kernel
theorem d_M_put_35 : decode b_M_put 35 = .ok (.invokevirtual 42, 3) := by decide +kernel
theorem d_M_put_38 : decode b_M_put 38 = .ok (.ifCond .eq 4, 3) := by decide +kernel
theorem d_M_put_41 : decode b_M_put 41 = .ok (.return_, 1) := by decide +kernel
theorem d_M_put_42 : decode b_M_put 42 = .ok (.iconst 0, 1) := by decide +kernel
theorem d_M_put_43 : decode b_M_put 43 = .ok (.istore 5, 2) := by decide +kernel
theorem d_M_put_45 : decode b_M_put 45 = .ok (.iload 5, 2) := by decide +kernel
theorem d_M_put_47 : decode b_M_put 47 = .ok (.sipush 1024, 3) := by decide +kernel
theorem d_M_put_50 : decode b_M_put 50 = .ok (.if_icmp .ge 53, 3) := by decide +kernel
theorem d_M_put_53 : decode b_M_put 53 = .ok (.aload_n 0, 1) := by decide +kernel
theorem d_M_put_54 : decode b_M_put 54 = .ok (.getfield 18, 3) := by decide +kernel
theorem d_M_put_57 : decode b_M_put 57 = .ok (.iload 5, 2) := by decide +kernel
theorem d_M_put_59 : decode b_M_put 59 = .ok (.aload_n 0, 1) := by decide +kernel
theorem d_M_put_60 : decode b_M_put 60 = .ok (.getfield 15, 3) := by decide +kernel
theorem d_M_put_63 : decode b_M_put 63 = .ok (.iload_n 2, 1) := by decide +kernel
theorem d_M_put_64 : decode b_M_put 64 = .ok (.aaload, 1) := by decide +kernel
theorem d_M_put_65 : decode b_M_put 65 = .ok (.aload_n 0, 1) := by decide +kernel
theorem d_M_put_66 : decode b_M_put 66 = .ok (.getfield 15, 3) := by decide +kernel
theorem d_M_put_69 : decode b_M_put 69 = .ok (.iload 4, 2) := by decide +kernel
theorem d_M_put_71 : decode b_M_put 71 = .ok (.aaload, 1) := by decide +kernel
theorem d_M_put_72 : decode b_M_put 72 = .ok (.iload 5, 2) := by decide +kernel
theorem d_M_put_74 : decode b_M_put 74 = .ok (.baload, 1) := by decide +kernel
theorem d_M_put_75 : decode b_M_put 75 = .ok (.ifCond .eq 12, 3) := by decide +kernel
theorem d_M_put_78 : decode b_M_put 78 = .ok (.iload 5, 2) := by decide +kernel
theorem d_M_put_80 : decode b_M_put 80 = .ok (.iconst 1, 1) := by decide +kernel
theorem d_M_put_81 : decode b_M_put 81 = .ok (.iload_n 3, 1) := by decide +kernel
theorem d_M_put_82 : decode b_M_put 82 = .ok (.ishl, 1) := by decide +kernel
theorem d_M_put_83 : decode b_M_put 83 = .ok (.ior, 1) := by decide +kernel
theorem d_M_put_84 : decode b_M_put 84 = .ok (.goto 11, 3) := by decide +kernel
theorem d_M_put_87 : decode b_M_put 87 = .ok (.iload 5, 2) := by decide +kernel
theorem d_M_put_89 : decode b_M_put 89 = .ok (.iconst 1, 1) := by decide +kernel
theorem d_M_put_90 : decode b_M_put 90 = .ok (.iload_n 3, 1) := by decide +kernel
theorem d_M_put_91 : decode b_M_put 91 = .ok (.ishl, 1) := by decide +kernel
theorem d_M_put_92 : decode b_M_put 92 = .ok (.iconst (-1), 1) := by decide +kernel
theorem d_M_put_93 : decode b_M_put 93 = .ok (.ixor, 1) := by decide +kernel
theorem d_M_put_94 : decode b_M_put 94 = .ok (.iand, 1) := by decide +kernel
theorem d_M_put_95 : decode b_M_put 95 = .ok (.baload, 1) := by decide +kernel
theorem d_M_put_96 : decode b_M_put 96 = .ok (.bastore, 1) := by decide +kernel
theorem d_M_put_97 : decode b_M_put 97 = .ok (.iinc 5 1, 3) := by decide +kernel
theorem d_M_put_100 : decode b_M_put 100 = .ok (.goto (-55), 3) := by decide +kernel
theorem d_M_put_103 : decode b_M_put 103 = .ok (.aload_n 0, 1) := by decide +kernel
theorem d_M_put_104 : decode b_M_put 104 = .ok (.iload_n 1, 1) := by decide +kernel
theorem d_M_put_105 : decode b_M_put 105 = .ok (.invokevirtual 49, 3) := by decide +kernel
theorem d_M_put_108 : decode b_M_put 108 = .ok (.return_, 1) := by decide +kernel
theorem d_M_bound_0 : decode b_M_bound 0 = .ok (.aload_n 0, 1) := by decide +kernel
theorem d_M_bound_1 : decode b_M_bound 1 = .ok (.iload_n 1, 1) := by decide +kernel
theorem d_M_bound_2 : decode b_M_bound 2 = .ok (.invokestatic 35, 3) := by decide +kernel
theorem d_M_bound_5 : decode b_M_bound 5 = .ok (.ifCond .ne 17, 3) := by decide +kernel
theorem d_M_bound_8 : decode b_M_bound 8 = .ok (.iload_n 2, 1) := by decide +kernel
theorem d_M_bound_9 : decode b_M_bound 9 = .ok (.invokestatic 35, 3) := by decide +kernel
theorem d_M_bound_12 : decode b_M_bound 12 = .ok (.ifCond .ne 10, 3) := by decide +kernel
theorem d_M_bound_15 : decode b_M_bound 15 = .ok (.iload_n 3, 1) := by decide +kernel
theorem d_M_bound_16 : decode b_M_bound 16 = .ok (.invokestatic 46, 3) := by decide +kernel
theorem d_M_bound_19 : decode b_M_bound 19 = .ok (.ifCond .eq 7, 3) := by decide +kernel
theorem d_M_bound_22 : decode b_M_bound 22 = .ok (.iconst 1, 1) := by decide +kernel
theorem d_M_bound_23 : decode b_M_bound 23 = .ok (.goto 4, 3) := by decide +kernel
theorem d_M_bound_26 : decode b_M_bound 26 = .ok (.iconst 0, 1) := by decide +kernel
theorem d_M_bound_27 : decode b_M_bound 27 = .ok (.invokevirtual 42, 3) := by decide +kernel
theorem d_M_bound_30 : decode b_M_bound 30 = .ok (.ifCond .eq 4, 3) := by decide +kernel
theorem d_M_bound_33 : decode b_M_bound 33 = .ok (.return_, 1) := by decide +kernel
theorem d_M_bound_34 : decode b_M_bound 34 = .ok (.iconst 0, 1) := by decide +kernel
theorem d_M_bound_35 : decode b_M_bound 35 = .ok (.istore 5, 2) := by decide +kernel
theorem d_M_bound_37 : decode b_M_bound 37 = .ok (.iload 5, 2) := by decide +kernel
theorem d_M_bound_39 : decode b_M_bound 39 = .ok (.sipush 1024, 3) := by decide +kernel
theorem d_M_bound_42 : decode b_M_bound 42 = .ok (.if_icmp .ge 108, 3) := by decide +kernel
theorem d_M_bound_45 : decode b_M_bound 45 = .ok (.iload 4, 2) := by decide +kernel
theorem d_M_bound_47 : decode b_M_bound 47 = .ok (.istore 6, 2) := by decide +kernel
theorem d_M_bound_49 : decode b_M_bound 49 = .ok (.iconst 0, 1) := by decide +kernel
theorem d_M_bound_50 : decode b_M_bound 50 = .ok (.istore 7, 2) := by decide +kernel
theorem d_M_bound_52 : decode b_M_bound 52 = .ok (.iload 7, 2) := by decide +kernel
theorem d_M_bound_54 : decode b_M_bound 54 = .ok (.sipush 1024, 3) := by decide +kernel
theorem d_M_bound_57 : decode b_M_bound 57 = .ok (.if_icmp .ge 78, 3) := by decide +kernel
theorem d_M_bound_60 : decode b_M_bound 60 = .ok (.iload 5, 2) := by decide +kernel
theorem d_M_bound_62 : decode b_M_bound 62 = .ok (.iload 7, 2) := by decide +kernel
theorem d_M_bound_64 : decode b_M_bound 64 = .ok (.ixor, 1) := by decide +kernel
theorem d_M_bound_65 : decode b_M_bound 65 = .ok (.iload_n 3, 1) := by decide +kernel
theorem d_M_bound_66 : decode b_M_bound 66 = .ok (.iconst (-1), 1) := by decide +kernel
theorem d_M_bound_67 : decode b_M_bound 67 = .ok (.ixor, 1) := by decide +kernel
theorem d_M_bound_68 : decode b_M_bound 68 = .ok (.iand, 1) := by decide +kernel
theorem d_M_bound_69 : decode b_M_bound 69 = .ok (.ifCond .eq 6, 3) := by decide +kernel
theorem d_M_bound_72 : decode b_M_bound 72 = .ok (.goto 57, 3) := by decide +kernel
theorem d_M_bound_75 : decode b_M_bound 75 = .ok (.iload 4, 2) := by decide +kernel
theorem d_M_bound_77 : decode b_M_bound 77 = .ok (.ifCond .eq 28, 3) := by decide +kernel
theorem d_M_bound_80 : decode b_M_bound 80 = .ok (.iload 6, 2) := by decide +kernel
theorem d_M_bound_82 : decode b_M_bound 82 = .ok (.ifCond .eq 19, 3) := by decide +kernel
theorem d_M_bound_85 : decode b_M_bound 85 = .ok (.aload_n 0, 1) := by decide +kernel
theorem d_M_bound_86 : decode b_M_bound 86 = .ok (.getfield 15, 3) := by decide +kernel
theorem d_M_bound_89 : decode b_M_bound 89 = .ok (.iload_n 2, 1) := by decide +kernel
theorem d_M_bound_90 : decode b_M_bound 90 = .ok (.aaload, 1) := by decide +kernel
theorem d_M_bound_91 : decode b_M_bound 91 = .ok (.iload 7, 2) := by decide +kernel
theorem d_M_bound_93 : decode b_M_bound 93 = .ok (.baload, 1) := by decide +kernel
theorem d_M_bound_94 : decode b_M_bound 94 = .ok (.ifCond .eq 7, 3) := by decide +kernel
theorem d_M_bound_97 : decode b_M_bound 97 = .ok (.iconst 1, 1) := by decide +kernel
theorem d_M_bound_98 : decode b_M_bound 98 = .ok (.goto 29, 3) := by decide +kernel
theorem d_M_bound_101 : decode b_M_bound 101 = .ok (.iconst 0, 1) := by decide +kernel
theorem d_M_bound_102 : decode b_M_bound 102 = .ok (.goto 25, 3) := by decide +kernel
theorem d_M_bound_105 : decode b_M_bound 105 = .ok (.iload 6, 2) := by decide +kernel
theorem d_M_bound_107 : decode b_M_bound 107 = .ok (.ifCond .ne 15, 3) := by decide +kernel
theorem d_M_bound_110 : decode b_M_bound 110 = .ok (.aload_n 0, 1) := by decide +kernel
theorem d_M_bound_111 : decode b_M_bound 111 = .ok (.getfield 15, 3) := by decide +kernel
theorem d_M_bound_114 : decode b_M_bound 114 = .ok (.iload_n 2, 1) := by decide +kernel
theorem d_M_bound_115 : decode b_M_bound 115 = .ok (.aaload, 1) := by decide +kernel
theorem d_M_bound_116 : decode b_M_bound 116 = .ok (.iload 7, 2) := by decide +kernel
theorem d_M_bound_118 : decode b_M_bound 118 = .ok (.baload, 1) := by decide +kernel
theorem d_M_bound_119 : decode b_M_bound 119 = .ok (.ifCond .eq 7, 3) := by decide +kernel
theorem d_M_bound_122 : decode b_M_bound 122 = .ok (.iconst 1, 1) := by decide +kernel
theorem d_M_bound_123 : decode b_M_bound 123 = .ok (.goto 4, 3) := by decide +kernel
theorem d_M_bound_126 : decode b_M_bound 126 = .ok (.iconst 0, 1) := by decide +kernel
theorem d_M_bound_127 : decode b_M_bound 127 = .ok (.istore 6, 2) := by decide +kernel
theorem d_M_bound_129 : decode b_M_bound 129 = .ok (.iinc 7 1, 3) := by decide +kernel
theorem d_M_bound_132 : decode b_M_bound 132 = .ok (.goto (-80), 3) := by decide +kernel
theorem d_M_bound_135 : decode b_M_bound 135 = .ok (.aload_n 0, 1) := by decide +kernel
theorem d_M_bound_136 : decode b_M_bound 136 = .ok (.getfield 18, 3) := by decide +kernel
theorem d_M_bound_139 : decode b_M_bound 139 = .ok (.iload 5, 2) := by decide +kernel
theorem d_M_bound_141 : decode b_M_bound 141 = .ok (.iload 6, 2) := by decide +kernel
theorem d_M_bound_143 : decode b_M_bound 143 = .ok (.bastore, 1) := by decide +kernel
theorem d_M_bound_144 : decode b_M_bound 144 = .ok (.iinc 5 1, 3) := by decide +kernel
theorem d_M_bound_147 : decode b_M_bound 147 = .ok (.goto (-110), 3) := by decide +kernel
theorem d_M_bound_150 : decode b_M_bound 150 = .ok (.aload_n 0, 1) := by decide +kernel
theorem d_M_bound_151 : decode b_M_bound 151 = .ok (.iload_n 1, 1) := by decide +kernel
theorem d_M_bound_152 : decode b_M_bound 152 = .ok (.invokevirtual 49, 3) := by decide +kernel
theorem d_M_bound_155 : decode b_M_bound 155 = .ok (.return_, 1) := by decide +kernel
theorem d_M_swap_0 : decode b_M_swap 0 = .ok (.aload_n 0, 1) := by decide +kernel
theorem d_M_swap_1 : decode b_M_swap 1 = .ok (.iload_n 1, 1) := by decide +kernel
theorem d_M_swap_2 : decode b_M_swap 2 = .ok (.invokestatic 35, 3) := by decide +kernel
theorem d_M_swap_5 : decode b_M_swap 5 = .ok (.ifCond .ne 25, 3) := by decide +kernel
theorem d_M_swap_8 : decode b_M_swap 8 = .ok (.iload_n 2, 1) := by decide +kernel
theorem d_M_swap_9 : decode b_M_swap 9 = .ok (.invokestatic 35, 3) := by decide +kernel
theorem d_M_swap_12 : decode b_M_swap 12 = .ok (.ifCond .ne 18, 3) := by decide +kernel
theorem d_M_swap_15 : decode b_M_swap 15 = .ok (.iload_n 3, 1) := by decide +kernel
theorem d_M_swap_16 : decode b_M_swap 16 = .ok (.invokestatic 39, 3) := by decide +kernel
theorem d_M_swap_19 : decode b_M_swap 19 = .ok (.ifCond .ne 11, 3) := by decide +kernel
theorem d_M_swap_22 : decode b_M_swap 22 = .ok (.iload 4, 2) := by decide +kernel
theorem d_M_swap_24 : decode b_M_swap 24 = .ok (.invokestatic 39, 3) := by decide +kernel
theorem d_M_swap_27 : decode b_M_swap 27 = .ok (.ifCond .eq 7, 3) := by decide +kernel
theorem d_M_swap_30 : decode b_M_swap 30 = .ok (.iconst 1, 1) := by decide +kernel
theorem d_M_swap_31 : decode b_M_swap 31 = .ok (.goto 4, 3) := by decide +kernel
theorem d_M_swap_34 : decode b_M_swap 34 = .ok (.iconst 0, 1) := by decide +kernel
theorem d_M_swap_35 : decode b_M_swap 35 = .ok (.invokevirtual 42, 3) := by decide +kernel
theorem d_M_swap_38 : decode b_M_swap 38 = .ok (.ifCond .eq 4, 3) := by decide +kernel
theorem d_M_swap_41 : decode b_M_swap 41 = .ok (.return_, 1) := by decide +kernel
theorem d_M_swap_42 : decode b_M_swap 42 = .ok (.iconst 0, 1) := by decide +kernel
theorem d_M_swap_43 : decode b_M_swap 43 = .ok (.istore 5, 2) := by decide +kernel
theorem d_M_swap_45 : decode b_M_swap 45 = .ok (.iload 5, 2) := by decide +kernel
theorem d_M_swap_47 : decode b_M_swap 47 = .ok (.sipush 1024, 3) := by decide +kernel
theorem d_M_swap_50 : decode b_M_swap 50 = .ok (.if_icmp .ge 66, 3) := by decide +kernel
theorem d_M_swap_53 : decode b_M_swap 53 = .ok (.iload 5, 2) := by decide +kernel
theorem d_M_swap_55 : decode b_M_swap 55 = .ok (.iload_n 3, 1) := by decide +kernel
theorem d_M_swap_56 : decode b_M_swap 56 = .ok (.ishr, 1) := by decide +kernel
theorem d_M_swap_57 : decode b_M_swap 57 = .ok (.iconst 1, 1) := by decide +kernel
theorem d_M_swap_58 : decode b_M_swap 58 = .ok (.iand, 1) := by decide +kernel
theorem d_M_swap_59 : decode b_M_swap 59 = .ok (.istore 6, 2) := by decide +kernel
theorem d_M_swap_61 : decode b_M_swap 61 = .ok (.iload 5, 2) := by decide +kernel
theorem d_M_swap_63 : decode b_M_swap 63 = .ok (.iload 4, 2) := by decide +kernel
theorem d_M_swap_65 : decode b_M_swap 65 = .ok (.ishr, 1) := by decide +kernel
theorem d_M_swap_66 : decode b_M_swap 66 = .ok (.iconst 1, 1) := by decide +kernel
theorem d_M_swap_67 : decode b_M_swap 67 = .ok (.iand, 1) := by decide +kernel
theorem d_M_swap_68 : decode b_M_swap 68 = .ok (.istore 7, 2) := by decide +kernel
theorem d_M_swap_70 : decode b_M_swap 70 = .ok (.aload_n 0, 1) := by decide +kernel
theorem d_M_swap_71 : decode b_M_swap 71 = .ok (.getfield 18, 3) := by decide +kernel
theorem d_M_swap_74 : decode b_M_swap 74 = .ok (.iload 5, 2) := by decide +kernel
theorem d_M_swap_76 : decode b_M_swap 76 = .ok (.aload_n 0, 1) := by decide +kernel
theorem d_M_swap_77 : decode b_M_swap 77 = .ok (.getfield 15, 3) := by decide +kernel
theorem d_M_swap_80 : decode b_M_swap 80 = .ok (.iload_n 2, 1) := by decide +kernel
theorem d_M_swap_81 : decode b_M_swap 81 = .ok (.aaload, 1) := by decide +kernel
theorem d_M_swap_82 : decode b_M_swap 82 = .ok (.iload 5, 2) := by decide +kernel
theorem d_M_swap_84 : decode b_M_swap 84 = .ok (.iconst 1, 1) := by decide +kernel
theorem d_M_swap_85 : decode b_M_swap 85 = .ok (.iload_n 3, 1) := by decide +kernel
theorem d_M_swap_86 : decode b_M_swap 86 = .ok (.ishl, 1) := by decide +kernel
theorem d_M_swap_87 : decode b_M_swap 87 = .ok (.iconst (-1), 1) := by decide +kernel
theorem d_M_swap_88 : decode b_M_swap 88 = .ok (.ixor, 1) := by decide +kernel
theorem d_M_swap_89 : decode b_M_swap 89 = .ok (.iand, 1) := by decide +kernel
theorem d_M_swap_90 : decode b_M_swap 90 = .ok (.iconst 1, 1) := by decide +kernel
theorem d_M_swap_91 : decode b_M_swap 91 = .ok (.iload 4, 2) := by decide +kernel
theorem d_M_swap_93 : decode b_M_swap 93 = .ok (.ishl, 1) := by decide +kernel
theorem d_M_swap_94 : decode b_M_swap 94 = .ok (.iconst (-1), 1) := by decide +kernel
theorem d_M_swap_95 : decode b_M_swap 95 = .ok (.ixor, 1) := by decide +kernel
theorem d_M_swap_96 : decode b_M_swap 96 = .ok (.iand, 1) := by decide +kernel
theorem d_M_swap_97 : decode b_M_swap 97 = .ok (.iload 6, 2) := by decide +kernel
theorem d_M_swap_99 : decode b_M_swap 99 = .ok (.iload 4, 2) := by decide +kernel
theorem d_M_swap_101 : decode b_M_swap 101 = .ok (.ishl, 1) := by decide +kernel
theorem d_M_swap_102 : decode b_M_swap 102 = .ok (.ior, 1) := by decide +kernel
theorem d_M_swap_103 : decode b_M_swap 103 = .ok (.iload 7, 2) := by decide +kernel
theorem d_M_swap_105 : decode b_M_swap 105 = .ok (.iload_n 3, 1) := by decide +kernel
theorem d_M_swap_106 : decode b_M_swap 106 = .ok (.ishl, 1) := by decide +kernel
theorem d_M_swap_107 : decode b_M_swap 107 = .ok (.ior, 1) := by decide +kernel
theorem d_M_swap_108 : decode b_M_swap 108 = .ok (.baload, 1) := by decide +kernel
theorem d_M_swap_109 : decode b_M_swap 109 = .ok (.bastore, 1) := by decide +kernel
theorem d_M_swap_110 : decode b_M_swap 110 = .ok (.iinc 5 1, 3) := by decide +kernel
theorem d_M_swap_113 : decode b_M_swap 113 = .ok (.goto (-68), 3) := by decide +kernel
theorem d_M_swap_116 : decode b_M_swap 116 = .ok (.aload_n 0, 1) := by decide +kernel
theorem d_M_swap_117 : decode b_M_swap 117 = .ok (.iload_n 1, 1) := by decide +kernel
theorem d_M_swap_118 : decode b_M_swap 118 = .ok (.invokevirtual 49, 3) := by decide +kernel
theorem d_M_swap_121 : decode b_M_swap 121 = .ok (.return_, 1) := by decide +kernel
theorem d_M_is_0 : decode b_M_is 0 = .ok (.aload_n 0, 1) := by decide +kernel
theorem d_M_is_1 : decode b_M_is 1 = .ok (.iload_n 1, 1) := by decide +kernel
theorem d_M_is_2 : decode b_M_is 2 = .ok (.invokestatic 35, 3) := by decide +kernel
theorem d_M_is_5 : decode b_M_is 5 = .ok (.ifCond .ne 10, 3) := by decide +kernel
theorem d_M_is_8 : decode b_M_is 8 = .ok (.iload_n 2, 1) := by decide +kernel
theorem d_M_is_9 : decode b_M_is 9 = .ok (.invokestatic 46, 3) := by decide +kernel
theorem d_M_is_12 : decode b_M_is 12 = .ok (.ifCond .eq 7, 3) := by decide +kernel
theorem d_M_is_15 : decode b_M_is 15 = .ok (.iconst 1, 1) := by decide +kernel
theorem d_M_is_16 : decode b_M_is 16 = .ok (.goto 4, 3) := by decide +kernel
theorem d_M_is_19 : decode b_M_is 19 = .ok (.iconst 0, 1) := by decide +kernel
