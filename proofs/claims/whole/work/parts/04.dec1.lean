theorem d_D_init_0 : decode b_D_init 0 = .ok (.aload_n 0, 1) := by decide +kernel
theorem d_D_init_1 : decode b_D_init 1 = .ok (.invokespecial 3, 3) := by decide +kernel
theorem d_D_init_4 : decode b_D_init 4 = .ok (.aload_n 0, 1) := by decide +kernel
theorem d_D_init_5 : decode b_D_init 5 = .ok (.bipush 16, 2) := by decide +kernel
theorem d_D_init_7 : decode b_D_init 7 = .ok (.bipush 16, 2) := by decide +kernel
theorem d_D_init_9 : decode b_D_init 9 = .ok (.multianewarray 9 2, 4) := by decide +kernel
theorem d_D_init_13 : decode b_D_init 13 = .ok (.putfield 11, 3) := by decide +kernel
theorem d_D_init_16 : decode b_D_init 16 = .ok (.aload_n 0, 1) := by decide +kernel
theorem d_D_init_17 : decode b_D_init 17 = .ok (.bipush 16, 2) := by decide +kernel
theorem d_D_init_19 : decode b_D_init 19 = .ok (.newarray .long, 2) := by decide +kernel
theorem d_D_init_21 : decode b_D_init 21 = .ok (.putfield 14, 3) := by decide +kernel
theorem d_D_init_24 : decode b_D_init 24 = .ok (.aload_n 0, 1) := by decide +kernel
theorem d_D_init_25 : decode b_D_init 25 = .ok (.bipush 16, 2) := by decide +kernel
theorem d_D_init_27 : decode b_D_init 27 = .ok (.newarray .long, 2) := by decide +kernel
theorem d_D_init_29 : decode b_D_init 29 = .ok (.putfield 18, 3) := by decide +kernel
theorem d_D_init_32 : decode b_D_init 32 = .ok (.aload_n 0, 1) := by decide +kernel
theorem d_D_init_33 : decode b_D_init 33 = .ok (.new 21, 3) := by decide +kernel
theorem d_D_init_36 : decode b_D_init 36 = .ok (.dup, 1) := by decide +kernel
theorem d_D_init_37 : decode b_D_init 37 = .ok (.invokespecial 23, 3) := by decide +kernel
theorem d_D_init_40 : decode b_D_init 40 = .ok (.putfield 24, 3) := by decide +kernel
theorem d_D_init_43 : decode b_D_init 43 = .ok (.return_, 1) := by decide +kernel
theorem d_D_variable_0 : decode b_D_variable 0 = .ok (.iload_n 1, 1) := by decide +kernel
theorem d_D_variable_1 : decode b_D_variable 1 = .ok (.invokestatic 28, 3) := by decide +kernel
theorem d_D_variable_4 : decode b_D_variable 4 = .ok (.iload_n 2, 1) := by decide +kernel
theorem d_D_variable_5 : decode b_D_variable 5 = .ok (.invokestatic 32, 3) := by decide +kernel
theorem d_D_variable_8 : decode b_D_variable 8 = .ok (.iconst 0, 1) := by decide +kernel
theorem d_D_variable_9 : decode b_D_variable 9 = .ok (.istore_n 3, 1) := by decide +kernel
theorem d_D_variable_10 : decode b_D_variable 10 = .ok (.iload_n 3, 1) := by decide +kernel
theorem d_D_variable_11 : decode b_D_variable 11 = .ok (.bipush 16, 2) := by decide +kernel
theorem d_D_variable_13 : decode b_D_variable 13 = .ok (.if_icmp .ge 22, 3) := by decide +kernel
theorem d_D_variable_16 : decode b_D_variable 16 = .ok (.aload_n 0, 1) := by decide +kernel
theorem d_D_variable_17 : decode b_D_variable 17 = .ok (.getfield 11, 3) := by decide +kernel
theorem d_D_variable_20 : decode b_D_variable 20 = .ok (.iload_n 1, 1) := by decide +kernel
theorem d_D_variable_21 : decode b_D_variable 21 = .ok (.aaload, 1) := by decide +kernel
theorem d_D_variable_22 : decode b_D_variable 22 = .ok (.iload_n 3, 1) := by decide +kernel
theorem d_D_variable_23 : decode b_D_variable 23 = .ok (.iload_n 2, 1) := by decide +kernel
theorem d_D_variable_24 : decode b_D_variable 24 = .ok (.iload_n 3, 1) := by decide +kernel
theorem d_D_variable_25 : decode b_D_variable 25 = .ok (.invokestatic 35, 3) := by decide +kernel
theorem d_D_variable_28 : decode b_D_variable 28 = .ok (.lastore, 1) := by decide +kernel
theorem d_D_variable_29 : decode b_D_variable 29 = .ok (.iinc 3 1, 3) := by decide +kernel
theorem d_D_variable_32 : decode b_D_variable 32 = .ok (.goto (-22), 3) := by decide +kernel
theorem d_D_variable_35 : decode b_D_variable 35 = .ok (.return_, 1) := by decide +kernel
theorem d_D_only_0 : decode b_D_only 0 = .ok (.iload_n 1, 1) := by decide +kernel
theorem d_D_only_1 : decode b_D_only 1 = .ok (.invokestatic 28, 3) := by decide +kernel
theorem d_D_only_4 : decode b_D_only 4 = .ok (.iload_n 2, 1) := by decide +kernel
theorem d_D_only_5 : decode b_D_only 5 = .ok (.invokestatic 39, 3) := by decide +kernel
theorem d_D_only_8 : decode b_D_only 8 = .ok (.aload_n 0, 1) := by decide +kernel
theorem d_D_only_9 : decode b_D_only 9 = .ok (.getfield 11, 3) := by decide +kernel
theorem d_D_only_12 : decode b_D_only 12 = .ok (.iload_n 1, 1) := by decide +kernel
theorem d_D_only_13 : decode b_D_only 13 = .ok (.aaload, 1) := by decide +kernel
theorem d_D_only_14 : decode b_D_only 14 = .ok (.lconst 0, 1) := by decide +kernel
theorem d_D_only_15 : decode b_D_only 15 = .ok (.invokestatic 42, 3) := by decide +kernel
theorem d_D_only_18 : decode b_D_only 18 = .ok (.aload_n 0, 1) := by decide +kernel
theorem d_D_only_19 : decode b_D_only 19 = .ok (.getfield 11, 3) := by decide +kernel
theorem d_D_only_22 : decode b_D_only 22 = .ok (.iload_n 1, 1) := by decide +kernel
theorem d_D_only_23 : decode b_D_only 23 = .ok (.aaload, 1) := by decide +kernel
theorem d_D_only_24 : decode b_D_only 24 = .ok (.iload_n 2, 1) := by decide +kernel
theorem d_D_only_25 : decode b_D_only 25 = .ok (.bipush 6, 2) := by decide +kernel
theorem d_D_only_27 : decode b_D_only 27 = .ok (.ishr, 1) := by decide +kernel
theorem d_D_only_28 : decode b_D_only 28 = .ok (.lconst 1, 1) := by decide +kernel
theorem d_D_only_29 : decode b_D_only 29 = .ok (.iload_n 2, 1) := by decide +kernel
theorem d_D_only_30 : decode b_D_only 30 = .ok (.bipush 63, 2) := by decide +kernel
theorem d_D_only_32 : decode b_D_only 32 = .ok (.iand, 1) := by decide +kernel
theorem d_D_only_33 : decode b_D_only 33 = .ok (.lshl, 1) := by decide +kernel
theorem d_D_only_34 : decode b_D_only 34 = .ok (.lastore, 1) := by decide +kernel
theorem d_D_only_35 : decode b_D_only 35 = .ok (.return_, 1) := by decide +kernel
theorem d_D_join_0 : decode b_D_join 0 = .ok (.iload_n 1, 1) := by decide +kernel
theorem d_D_join_1 : decode b_D_join 1 = .ok (.invokestatic 28, 3) := by decide +kernel
theorem d_D_join_4 : decode b_D_join 4 = .ok (.iload_n 2, 1) := by decide +kernel
theorem d_D_join_5 : decode b_D_join 5 = .ok (.invokestatic 48, 3) := by decide +kernel
theorem d_D_join_8 : decode b_D_join 8 = .ok (.iload_n 3, 1) := by decide +kernel
theorem d_D_join_9 : decode b_D_join 9 = .ok (.invokestatic 28, 3) := by decide +kernel
theorem d_D_join_12 : decode b_D_join 12 = .ok (.iload 4, 2) := by decide +kernel
theorem d_D_join_14 : decode b_D_join 14 = .ok (.invokestatic 28, 3) := by decide +kernel
theorem d_D_join_17 : decode b_D_join 17 = .ok (.iconst 0, 1) := by decide +kernel
theorem d_D_join_18 : decode b_D_join 18 = .ok (.istore 5, 2) := by decide +kernel
theorem d_D_join_20 : decode b_D_join 20 = .ok (.iload 5, 2) := by decide +kernel
theorem d_D_join_22 : decode b_D_join 22 = .ok (.bipush 16, 2) := by decide +kernel
theorem d_D_join_24 : decode b_D_join 24 = .ok (.if_icmp .ge 41, 3) := by decide +kernel
theorem d_D_join_27 : decode b_D_join 27 = .ok (.aload_n 0, 1) := by decide +kernel
theorem d_D_join_28 : decode b_D_join 28 = .ok (.getfield 11, 3) := by decide +kernel
theorem d_D_join_31 : decode b_D_join 31 = .ok (.iload_n 1, 1) := by decide +kernel
theorem d_D_join_32 : decode b_D_join 32 = .ok (.aaload, 1) := by decide +kernel
theorem d_D_join_33 : decode b_D_join 33 = .ok (.iload 5, 2) := by decide +kernel
theorem d_D_join_35 : decode b_D_join 35 = .ok (.iload_n 2, 1) := by decide +kernel
theorem d_D_join_36 : decode b_D_join 36 = .ok (.aload_n 0, 1) := by decide +kernel
theorem d_D_join_37 : decode b_D_join 37 = .ok (.getfield 11, 3) := by decide +kernel
theorem d_D_join_40 : decode b_D_join 40 = .ok (.iload_n 3, 1) := by decide +kernel
theorem d_D_join_41 : decode b_D_join 41 = .ok (.aaload, 1) := by decide +kernel
theorem d_D_join_42 : decode b_D_join 42 = .ok (.iload 5, 2) := by decide +kernel
theorem d_D_join_44 : decode b_D_join 44 = .ok (.laload, 1) := by decide +kernel
theorem d_D_join_45 : decode b_D_join 45 = .ok (.aload_n 0, 1) := by decide +kernel
theorem d_D_join_46 : decode b_D_join 46 = .ok (.getfield 11, 3) := by decide +kernel
theorem d_D_join_49 : decode b_D_join 49 = .ok (.iload 4, 2) := by decide +kernel
theorem d_D_join_51 : decode b_D_join 51 = .ok (.aaload, 1) := by decide +kernel
theorem d_D_join_52 : decode b_D_join 52 = .ok (.iload 5, 2) := by decide +kernel
theorem d_D_join_54 : decode b_D_join 54 = .ok (.laload, 1) := by decide +kernel
theorem d_D_join_55 : decode b_D_join 55 = .ok (.invokestatic 51, 3) := by decide +kernel
theorem d_D_join_58 : decode b_D_join 58 = .ok (.lastore, 1) := by decide +kernel
theorem d_D_join_59 : decode b_D_join 59 = .ok (.iinc 5 1, 3) := by decide +kernel
theorem d_D_join_62 : decode b_D_join 62 = .ok (.goto (-42), 3) := by decide +kernel
theorem d_D_join_65 : decode b_D_join 65 = .ok (.return_, 1) := by decide +kernel
theorem d_D_choose_0 : decode b_D_choose 0 = .ok (.iload_n 1, 1) := by decide +kernel
theorem d_D_choose_1 : decode b_D_choose 1 = .ok (.invokestatic 28, 3) := by decide +kernel
theorem d_D_choose_4 : decode b_D_choose 4 = .ok (.iload_n 2, 1) := by decide +kernel
theorem d_D_choose_5 : decode b_D_choose 5 = .ok (.invokestatic 28, 3) := by decide +kernel
theorem d_D_choose_8 : decode b_D_choose 8 = .ok (.iload_n 3, 1) := by decide +kernel
theorem d_D_choose_9 : decode b_D_choose 9 = .ok (.invokestatic 28, 3) := by decide +kernel
theorem d_D_choose_12 : decode b_D_choose 12 = .ok (.iload 4, 2) := by decide +kernel
theorem d_D_choose_14 : decode b_D_choose 14 = .ok (.invokestatic 28, 3) := by decide +kernel
theorem d_D_choose_17 : decode b_D_choose 17 = .ok (.iconst 0, 1) := by decide +kernel
theorem d_D_choose_18 : decode b_D_choose 18 = .ok (.istore 5, 2) := by decide +kernel
theorem d_D_choose_20 : decode b_D_choose 20 = .ok (.iload 5, 2) := by decide +kernel
theorem d_D_choose_22 : decode b_D_choose 22 = .ok (.bipush 16, 2) := by decide +kernel
theorem d_D_choose_24 : decode b_D_choose 24 = .ok (.if_icmp .ge 49, 3) := by decide +kernel
theorem d_D_choose_27 : decode b_D_choose 27 = .ok (.aload_n 0, 1) := by decide +kernel
theorem d_D_choose_28 : decode b_D_choose 28 = .ok (.getfield 11, 3) := by decide +kernel
theorem d_D_choose_31 : decode b_D_choose 31 = .ok (.iload_n 1, 1) := by decide +kernel
theorem d_D_choose_32 : decode b_D_choose 32 = .ok (.aaload, 1) := by decide +kernel
theorem d_D_choose_33 : decode b_D_choose 33 = .ok (.iload 5, 2) := by decide +kernel
theorem d_D_choose_35 : decode b_D_choose 35 = .ok (.aload_n 0, 1) := by decide +kernel
theorem d_D_choose_36 : decode b_D_choose 36 = .ok (.getfield 11, 3) := by decide +kernel
theorem d_D_choose_39 : decode b_D_choose 39 = .ok (.iload_n 2, 1) := by decide +kernel
theorem d_D_choose_40 : decode b_D_choose 40 = .ok (.aaload, 1) := by decide +kernel
theorem d_D_choose_41 : decode b_D_choose 41 = .ok (.iload 5, 2) := by decide +kernel
theorem d_D_choose_43 : decode b_D_choose 43 = .ok (.laload, 1) := by decide +kernel
theorem d_D_choose_44 : decode b_D_choose 44 = .ok (.aload_n 0, 1) := by decide +kernel
theorem d_D_choose_45 : decode b_D_choose 45 = .ok (.getfield 11, 3) := by decide +kernel
theorem d_D_choose_48 : decode b_D_choose 48 = .ok (.iload_n 3, 1) := by decide +kernel
theorem d_D_choose_49 : decode b_D_choose 49 = .ok (.aaload, 1) := by decide +kernel
theorem d_D_choose_50 : decode b_D_choose 50 = .ok (.iload 5, 2) := by decide +kernel
theorem d_D_choose_52 : decode b_D_choose 52 = .ok (.laload, 1) := by decide +kernel
theorem d_D_choose_53 : decode b_D_choose 53 = .ok (.aload_n 0, 1) := by decide +kernel
theorem d_D_choose_54 : decode b_D_choose 54 = .ok (.getfield 11, 3) := by decide +kernel
theorem d_D_choose_57 : decode b_D_choose 57 = .ok (.iload 4, 2) := by decide +kernel
theorem d_D_choose_59 : decode b_D_choose 59 = .ok (.aaload, 1) := by decide +kernel
theorem d_D_choose_60 : decode b_D_choose 60 = .ok (.iload 5, 2) := by decide +kernel
theorem d_D_choose_62 : decode b_D_choose 62 = .ok (.laload, 1) := by decide +kernel
theorem d_D_choose_63 : decode b_D_choose 63 = .ok (.invokestatic 55, 3) := by decide +kernel
theorem d_D_choose_66 : decode b_D_choose 66 = .ok (.lastore, 1) := by decide +kernel
theorem d_D_choose_67 : decode b_D_choose 67 = .ok (.iinc 5 1, 3) := by decide +kernel
theorem d_D_choose_70 : decode b_D_choose 70 = .ok (.goto (-50), 3) := by decide +kernel
theorem d_D_choose_73 : decode b_D_choose 73 = .ok (.return_, 1) := by decide +kernel
theorem d_D_cut_0 : decode b_D_cut 0 = .ok (.iload_n 1, 1) := by decide +kernel
theorem d_D_cut_1 : decode b_D_cut 1 = .ok (.invokestatic 28, 3) := by decide +kernel
theorem d_D_cut_4 : decode b_D_cut 4 = .ok (.iload_n 2, 1) := by decide +kernel
theorem d_D_cut_5 : decode b_D_cut 5 = .ok (.invokestatic 28, 3) := by decide +kernel
theorem d_D_cut_8 : decode b_D_cut 8 = .ok (.iload_n 3, 1) := by decide +kernel
theorem d_D_cut_9 : decode b_D_cut 9 = .ok (.invokestatic 32, 3) := by decide +kernel
theorem d_D_cut_12 : decode b_D_cut 12 = .ok (.iconst 0, 1) := by decide +kernel
theorem d_D_cut_13 : decode b_D_cut 13 = .ok (.istore 5, 2) := by decide +kernel
theorem d_D_cut_15 : decode b_D_cut 15 = .ok (.iload 5, 2) := by decide +kernel
theorem d_D_cut_17 : decode b_D_cut 17 = .ok (.bipush 16, 2) := by decide +kernel
theorem d_D_cut_19 : decode b_D_cut 19 = .ok (.if_icmp .ge 30, 3) := by decide +kernel
theorem d_D_cut_22 : decode b_D_cut 22 = .ok (.aload_n 0, 1) := by decide +kernel
theorem d_D_cut_23 : decode b_D_cut 23 = .ok (.getfield 14, 3) := by decide +kernel
theorem d_D_cut_26 : decode b_D_cut 26 = .ok (.iload 5, 2) := by decide +kernel
theorem d_D_cut_28 : decode b_D_cut 28 = .ok (.aload_n 0, 1) := by decide +kernel
theorem d_D_cut_29 : decode b_D_cut 29 = .ok (.getfield 11, 3) := by decide +kernel
theorem d_D_cut_32 : decode b_D_cut 32 = .ok (.iload_n 2, 1) := by decide +kernel
theorem d_D_cut_33 : decode b_D_cut 33 = .ok (.aaload, 1) := by decide +kernel
theorem d_D_cut_34 : decode b_D_cut 34 = .ok (.iload_n 3, 1) := by decide +kernel
theorem d_D_cut_35 : decode b_D_cut 35 = .ok (.iload 4, 2) := by decide +kernel
theorem d_D_cut_37 : decode b_D_cut 37 = .ok (.iload 5, 2) := by decide +kernel
theorem d_D_cut_39 : decode b_D_cut 39 = .ok (.invokestatic 59, 3) := by decide +kernel
theorem d_D_cut_42 : decode b_D_cut 42 = .ok (.lastore, 1) := by decide +kernel
theorem d_D_cut_43 : decode b_D_cut 43 = .ok (.iinc 5 1, 3) := by decide +kernel
theorem d_D_cut_46 : decode b_D_cut 46 = .ok (.goto (-31), 3) := by decide +kernel
theorem d_D_cut_49 : decode b_D_cut 49 = .ok (.aload_n 0, 1) := by decide +kernel
theorem d_D_cut_50 : decode b_D_cut 50 = .ok (.aload_n 0, 1) := by decide +kernel
theorem d_D_cut_51 : decode b_D_cut 51 = .ok (.getfield 14, 3) := by decide +kernel
theorem d_D_cut_54 : decode b_D_cut 54 = .ok (.iload_n 1, 1) := by decide +kernel
theorem d_D_cut_55 : decode b_D_cut 55 = .ok (.invokevirtual 63, 3) := by decide +kernel
theorem d_D_cut_58 : decode b_D_cut 58 = .ok (.return_, 1) := by decide +kernel
theorem d_D_put_0 : decode b_D_put 0 = .ok (.iload_n 1, 1) := by decide +kernel
theorem d_D_put_1 : decode b_D_put 1 = .ok (.invokestatic 28, 3) := by decide +kernel
theorem d_D_put_4 : decode b_D_put 4 = .ok (.iload_n 2, 1) := by decide +kernel
theorem d_D_put_5 : decode b_D_put 5 = .ok (.invokestatic 28, 3) := by decide +kernel
theorem d_D_put_8 : decode b_D_put 8 = .ok (.iload_n 3, 1) := by decide +kernel
theorem d_D_put_9 : decode b_D_put 9 = .ok (.invokestatic 32, 3) := by decide +kernel
theorem d_D_put_12 : decode b_D_put 12 = .ok (.iload 4, 2) := by decide +kernel
theorem d_D_put_14 : decode b_D_put 14 = .ok (.invokestatic 28, 3) := by decide +kernel
theorem d_D_put_17 : decode b_D_put 17 = .ok (.iconst 0, 1) := by decide +kernel
theorem d_D_put_18 : decode b_D_put 18 = .ok (.istore 5, 2) := by decide +kernel
theorem d_D_put_20 : decode b_D_put 20 = .ok (.iload 5, 2) := by decide +kernel
theorem d_D_put_22 : decode b_D_put 22 = .ok (.bipush 16, 2) := by decide +kernel
theorem d_D_put_24 : decode b_D_put 24 = .ok (.if_icmp .ge 63, 3) := by decide +kernel
theorem d_D_put_27 : decode b_D_put 27 = .ok (.aload_n 0, 1) := by decide +kernel
theorem d_D_put_28 : decode b_D_put 28 = .ok (.getfield 11, 3) := by decide +kernel
theorem d_D_put_31 : decode b_D_put 31 = .ok (.iload_n 2, 1) := by decide +kernel
theorem d_D_put_32 : decode b_D_put 32 = .ok (.aaload, 1) := by decide +kernel
theorem d_D_put_33 : decode b_D_put 33 = .ok (.iload_n 3, 1) := by decide +kernel
theorem d_D_put_34 : decode b_D_put 34 = .ok (.iconst 1, 1) := by decide +kernel
theorem d_D_put_35 : decode b_D_put 35 = .ok (.iload 5, 2) := by decide +kernel
theorem d_D_put_37 : decode b_D_put 37 = .ok (.invokestatic 59, 3) := by decide +kernel
theorem d_D_put_40 : decode b_D_put 40 = .ok (.lstore 6, 2) := by decide +kernel
theorem d_D_put_42 : decode b_D_put 42 = .ok (.aload_n 0, 1) := by decide +kernel
theorem d_D_put_43 : decode b_D_put 43 = .ok (.getfield 11, 3) := by decide +kernel
theorem d_D_put_46 : decode b_D_put 46 = .ok (.iload_n 2, 1) := by decide +kernel
theorem d_D_put_47 : decode b_D_put 47 = .ok (.aaload, 1) := by decide +kernel
theorem d_D_put_48 : decode b_D_put 48 = .ok (.iload_n 3, 1) := by decide +kernel
theorem d_D_put_49 : decode b_D_put 49 = .ok (.iconst 0, 1) := by decide +kernel
theorem d_D_put_50 : decode b_D_put 50 = .ok (.iload 5, 2) := by decide +kernel
theorem d_D_put_52 : decode b_D_put 52 = .ok (.invokestatic 59, 3) := by decide +kernel
theorem d_D_put_55 : decode b_D_put 55 = .ok (.lstore 8, 2) := by decide +kernel
theorem d_D_put_57 : decode b_D_put 57 = .ok (.aload_n 0, 1) := by decide +kernel
theorem d_D_put_58 : decode b_D_put 58 = .ok (.getfield 14, 3) := by decide +kernel
theorem d_D_put_61 : decode b_D_put 61 = .ok (.iload 5, 2) := by decide +kernel
theorem d_D_put_63 : decode b_D_put 63 = .ok (.aload_n 0, 1) := by decide +kernel
theorem d_D_put_64 : decode b_D_put 64 = .ok (.getfield 11, 3) := by decide +kernel
theorem d_D_put_67 : decode b_D_put 67 = .ok (.iload 4, 2) := by decide +kernel
theorem d_D_put_69 : decode b_D_put 69 = .ok (.aaload, 1) := by decide +kernel
theorem d_D_put_70 : decode b_D_put 70 = .ok (.iload 5, 2) := by decide +kernel
theorem d_D_put_72 : decode b_D_put 72 = .ok (.laload, 1) := by decide +kernel
theorem d_D_put_73 : decode b_D_put 73 = .ok (.lload 6, 2) := by decide +kernel
theorem d_D_put_75 : decode b_D_put 75 = .ok (.lload 8, 2) := by decide +kernel
theorem d_D_put_77 : decode b_D_put 77 = .ok (.invokestatic 55, 3) := by decide +kernel
theorem d_D_put_80 : decode b_D_put 80 = .ok (.lastore, 1) := by decide +kernel
theorem d_D_put_81 : decode b_D_put 81 = .ok (.iinc 5 1, 3) := by decide +kernel
theorem d_D_put_84 : decode b_D_put 84 = .ok (.goto (-64), 3) := by decide +kernel
theorem d_D_put_87 : decode b_D_put 87 = .ok (.aload_n 0, 1) := by decide +kernel
theorem d_D_put_88 : decode b_D_put 88 = .ok (.aload_n 0, 1) := by decide +kernel
theorem d_D_put_89 : decode b_D_put 89 = .ok (.getfield 14, 3) := by decide +kernel
theorem d_D_put_92 : decode b_D_put 92 = .ok (.iload_n 1, 1) := by decide +kernel
theorem d_D_put_93 : decode b_D_put 93 = .ok (.invokevirtual 63, 3) := by decide +kernel
theorem d_D_put_96 : decode b_D_put 96 = .ok (.return_, 1) := by decide +kernel
theorem d_D_bound_0 : decode b_D_bound 0 = .ok (.iload_n 1, 1) := by decide +kernel
theorem d_D_bound_1 : decode b_D_bound 1 = .ok (.invokestatic 28, 3) := by decide +kernel
theorem d_D_bound_4 : decode b_D_bound 4 = .ok (.iload_n 2, 1) := by decide +kernel
theorem d_D_bound_5 : decode b_D_bound 5 = .ok (.invokestatic 28, 3) := by decide +kernel
theorem d_D_bound_8 : decode b_D_bound 8 = .ok (.iload_n 3, 1) := by decide +kernel
theorem d_D_bound_9 : decode b_D_bound 9 = .ok (.invokestatic 67, 3) := by decide +kernel
theorem d_D_bound_12 : decode b_D_bound 12 = .ok (.aload_n 0, 1) := by decide +kernel
theorem d_D_bound_13 : decode b_D_bound 13 = .ok (.getfield 11, 3) := by decide +kernel
theorem d_D_bound_16 : decode b_D_bound 16 = .ok (.iload_n 2, 1) := by decide +kernel
theorem d_D_bound_17 : decode b_D_bound 17 = .ok (.aaload, 1) := by decide +kernel
theorem d_D_bound_18 : decode b_D_bound 18 = .ok (.iconst 0, 1) := by decide +kernel
theorem d_D_bound_19 : decode b_D_bound 19 = .ok (.aload_n 0, 1) := by decide +kernel
theorem d_D_bound_20 : decode b_D_bound 20 = .ok (.getfield 14, 3) := by decide +kernel
theorem d_D_bound_23 : decode b_D_bound 23 = .ok (.iconst 0, 1) := by decide +kernel
theorem d_D_bound_24 : decode b_D_bound 24 = .ok (.bipush 16, 2) := by decide +kernel
theorem d_D_bound_26 : decode b_D_bound 26 = .ok (.invokestatic 70, 3) := by decide +kernel
theorem d_D_bound_29 : decode b_D_bound 29 = .ok (.iconst 0, 1) := by decide +kernel
theorem d_D_bound_30 : decode b_D_bound 30 = .ok (.istore 5, 2) := by decide +kernel
theorem d_D_bound_32 : decode b_D_bound 32 = .ok (.iload 5, 2) := by decide +kernel
theorem d_D_bound_34 : decode b_D_bound 34 = .ok (.bipush 10, 2) := by decide +kernel
theorem d_D_bound_36 : decode b_D_bound 36 = .ok (.if_icmp .ge 26, 3) := by decide +kernel
theorem d_D_bound_39 : decode b_D_bound 39 = .ok (.iload_n 3, 1) := by decide +kernel
theorem d_D_bound_40 : decode b_D_bound 40 = .ok (.iload 5, 2) := by decide +kernel
theorem d_D_bound_42 : decode b_D_bound 42 = .ok (.invokestatic 76, 3) := by decide +kernel
theorem d_D_bound_45 : decode b_D_bound 45 = .ok (.ifCond .eq 11, 3) := by decide +kernel
theorem d_D_bound_48 : decode b_D_bound 48 = .ok (.aload_n 0, 1) := by decide +kernel
theorem d_D_bound_49 : decode b_D_bound 49 = .ok (.iload 5, 2) := by decide +kernel
theorem d_D_bound_51 : decode b_D_bound 51 = .ok (.iload 4, 2) := by decide +kernel
theorem d_D_bound_53 : decode b_D_bound 53 = .ok (.invokevirtual 80, 3) := by decide +kernel
theorem d_D_bound_56 : decode b_D_bound 56 = .ok (.iinc 5 1, 3) := by decide +kernel
theorem d_D_bound_59 : decode b_D_bound 59 = .ok (.goto (-27), 3) := by decide +kernel
theorem d_D_bound_62 : decode b_D_bound 62 = .ok (.aload_n 0, 1) := by decide +kernel
theorem d_D_bound_63 : decode b_D_bound 63 = .ok (.aload_n 0, 1) := by decide +kernel
theorem d_D_bound_64 : decode b_D_bound 64 = .ok (.getfield 14, 3) := by decide +kernel
theorem d_D_bound_67 : decode b_D_bound 67 = .ok (.iload_n 1, 1) := by decide +kernel
theorem d_D_bound_68 : decode b_D_bound 68 = .ok (.invokevirtual 63, 3) := by decide +kernel
theorem d_D_bound_71 : decode b_D_bound 71 = .ok (.return_, 1) := by decide +kernel
theorem d_D_swap_0 : decode b_D_swap 0 = .ok (.iload_n 1, 1) := by decide +kernel
theorem d_D_swap_1 : decode b_D_swap 1 = .ok (.invokestatic 28, 3) := by decide +kernel
theorem d_D_swap_4 : decode b_D_swap 4 = .ok (.iload_n 2, 1) := by decide +kernel
theorem d_D_swap_5 : decode b_D_swap 5 = .ok (.invokestatic 28, 3) := by decide +kernel
theorem d_D_swap_8 : decode b_D_swap 8 = .ok (.iload_n 3, 1) := by decide +kernel
theorem d_D_swap_9 : decode b_D_swap 9 = .ok (.invokestatic 32, 3) := by decide +kernel
theorem d_D_swap_12 : decode b_D_swap 12 = .ok (.iload 4, 2) := by decide +kernel
theorem d_D_swap_14 : decode b_D_swap 14 = .ok (.invokestatic 32, 3) := by decide +kernel
theorem d_D_swap_17 : decode b_D_swap 17 = .ok (.iconst 0, 1) := by decide +kernel
theorem d_D_swap_18 : decode b_D_swap 18 = .ok (.istore 5, 2) := by decide +kernel
theorem d_D_swap_20 : decode b_D_swap 20 = .ok (.iload 5, 2) := by decide +kernel
theorem d_D_swap_22 : decode b_D_swap 22 = .ok (.bipush 16, 2) := by decide +kernel
theorem d_D_swap_24 : decode b_D_swap 24 = .ok (.if_icmp .ge 28, 3) := by decide +kernel
theorem d_D_swap_27 : decode b_D_swap 27 = .ok (.aload_n 0, 1) := by decide +kernel
theorem d_D_swap_28 : decode b_D_swap 28 = .ok (.getfield 14, 3) := by decide +kernel
theorem d_D_swap_31 : decode b_D_swap 31 = .ok (.iload 5, 2) := by decide +kernel
theorem d_D_swap_33 : decode b_D_swap 33 = .ok (.aload_n 0, 1) := by decide +kernel
theorem d_D_swap_34 : decode b_D_swap 34 = .ok (.getfield 11, 3) := by decide +kernel
theorem d_D_swap_37 : decode b_D_swap 37 = .ok (.iload_n 2, 1) := by decide +kernel
theorem d_D_swap_38 : decode b_D_swap 38 = .ok (.aaload, 1) := by decide +kernel
theorem d_D_swap_39 : decode b_D_swap 39 = .ok (.iload_n 3, 1) := by decide +kernel
theorem d_D_swap_40 : decode b_D_swap 40 = .ok (.iload 5, 2) := by decide +kernel
theorem d_D_swap_42 : decode b_D_swap 42 = .ok (.invokestatic 84, 3) := by decide +kernel
theorem d_D_swap_45 : decode b_D_swap 45 = .ok (.lastore, 1) := by decide +kernel
theorem d_D_swap_46 : decode b_D_swap 46 = .ok (.iinc 5 1, 3) := by decide +kernel
theorem d_D_swap_49 : decode b_D_swap 49 = .ok (.goto (-29), 3) := by decide +kernel
theorem d_D_swap_52 : decode b_D_swap 52 = .ok (.iconst 0, 1) := by decide +kernel
theorem d_D_swap_53 : decode b_D_swap 53 = .ok (.istore 5, 2) := by decide +kernel
theorem d_D_swap_55 : decode b_D_swap 55 = .ok (.iload 5, 2) := by decide +kernel
theorem d_D_swap_57 : decode b_D_swap 57 = .ok (.bipush 16, 2) := by decide +kernel
theorem d_D_swap_59 : decode b_D_swap 59 = .ok (.if_icmp .ge 57, 3) := by decide +kernel
theorem d_D_swap_62 : decode b_D_swap 62 = .ok (.iload_n 3, 1) := by decide +kernel
theorem d_D_swap_63 : decode b_D_swap 63 = .ok (.iload 5, 2) := by decide +kernel
theorem d_D_swap_65 : decode b_D_swap 65 = .ok (.invokestatic 35, 3) := by decide +kernel
theorem d_D_swap_68 : decode b_D_swap 68 = .ok (.iload 4, 2) := by decide +kernel
theorem d_D_swap_70 : decode b_D_swap 70 = .ok (.iload 5, 2) := by decide +kernel
theorem d_D_swap_72 : decode b_D_swap 72 = .ok (.invokestatic 35, 3) := by decide +kernel
theorem d_D_swap_75 : decode b_D_swap 75 = .ok (.lxor, 1) := by decide +kernel
theorem d_D_swap_76 : decode b_D_swap 76 = .ok (.lstore 6, 2) := by decide +kernel
theorem d_D_swap_78 : decode b_D_swap 78 = .ok (.aload_n 0, 1) := by decide +kernel
theorem d_D_swap_79 : decode b_D_swap 79 = .ok (.getfield 18, 3) := by decide +kernel
theorem d_D_swap_82 : decode b_D_swap 82 = .ok (.iload 5, 2) := by decide +kernel
theorem d_D_swap_84 : decode b_D_swap 84 = .ok (.lload 6, 2) := by decide +kernel
theorem d_D_swap_86 : decode b_D_swap 86 = .ok (.aload_n 0, 1) := by decide +kernel
theorem d_D_swap_87 : decode b_D_swap 87 = .ok (.getfield 14, 3) := by decide +kernel
theorem d_D_swap_90 : decode b_D_swap 90 = .ok (.iload 4, 2) := by decide +kernel
theorem d_D_swap_92 : decode b_D_swap 92 = .ok (.iload 5, 2) := by decide +kernel
theorem d_D_swap_94 : decode b_D_swap 94 = .ok (.invokestatic 84, 3) := by decide +kernel
theorem d_D_swap_97 : decode b_D_swap 97 = .ok (.aload_n 0, 1) := by decide +kernel
theorem d_D_swap_98 : decode b_D_swap 98 = .ok (.getfield 11, 3) := by decide +kernel
theorem d_D_swap_101 : decode b_D_swap 101 = .ok (.iload_n 2, 1) := by decide +kernel
theorem d_D_swap_102 : decode b_D_swap 102 = .ok (.aaload, 1) := by decide +kernel
theorem d_D_swap_103 : decode b_D_swap 103 = .ok (.iload 5, 2) := by decide +kernel
theorem d_D_swap_105 : decode b_D_swap 105 = .ok (.laload, 1) := by decide +kernel
theorem d_D_swap_106 : decode b_D_swap 106 = .ok (.invokestatic 55, 3) := by decide +kernel
theorem d_D_swap_109 : decode b_D_swap 109 = .ok (.lastore, 1) := by decide +kernel
theorem d_D_swap_110 : decode b_D_swap 110 = .ok (.iinc 5 1, 3) := by decide +kernel
theorem d_D_swap_113 : decode b_D_swap 113 = .ok (.goto (-58), 3) := by decide +kernel
theorem d_D_swap_116 : decode b_D_swap 116 = .ok (.aload_n 0, 1) := by decide +kernel
theorem d_D_swap_117 : decode b_D_swap 117 = .ok (.aload_n 0, 1) := by decide +kernel
theorem d_D_swap_118 : decode b_D_swap 118 = .ok (.getfield 18, 3) := by decide +kernel
theorem d_D_swap_121 : decode b_D_swap 121 = .ok (.iload_n 1, 1) := by decide +kernel
theorem d_D_swap_122 : decode b_D_swap 122 = .ok (.invokevirtual 63, 3) := by decide +kernel
theorem d_D_swap_125 : decode b_D_swap 125 = .ok (.return_, 1) := by decide +kernel
theorem d_D_is_0 : decode b_D_is 0 = .ok (.iload_n 1, 1) := by decide +kernel
theorem d_D_is_1 : decode b_D_is 1 = .ok (.invokestatic 28, 3) := by decide +kernel
theorem d_D_is_4 : decode b_D_is 4 = .ok (.iload_n 2, 1) := by decide +kernel
theorem d_D_is_5 : decode b_D_is 5 = .ok (.invokestatic 39, 3) := by decide +kernel
theorem d_D_is_8 : decode b_D_is 8 = .ok (.aload_n 0, 1) := by decide +kernel
theorem d_D_is_9 : decode b_D_is 9 = .ok (.getfield 11, 3) := by decide +kernel
theorem d_D_is_12 : decode b_D_is 12 = .ok (.iload_n 1, 1) := by decide +kernel
theorem d_D_is_13 : decode b_D_is 13 = .ok (.aaload, 1) := by decide +kernel
theorem d_D_is_14 : decode b_D_is 14 = .ok (.iload_n 2, 1) := by decide +kernel
theorem d_D_is_15 : decode b_D_is 15 = .ok (.invokestatic 88, 3) := by decide +kernel
theorem d_D_is_18 : decode b_D_is 18 = .ok (.ifCond .eq 7, 3) := by decide +kernel
theorem d_D_is_21 : decode b_D_is 21 = .ok (.iconst 1, 1) := by decide +kernel
theorem d_D_is_22 : decode b_D_is 22 = .ok (.goto 4, 3) := by decide +kernel
theorem d_D_is_25 : decode b_D_is 25 = .ok (.iconst 0, 1) := by decide +kernel
theorem d_D_is_26 : decode b_D_is 26 = .ok (.ireturn, 1) := by decide +kernel
theorem d_D_ways_0 : decode b_D_ways 0 = .ok (.iload_n 1, 1) := by decide +kernel
theorem d_D_ways_1 : decode b_D_ways 1 = .ok (.invokestatic 28, 3) := by decide +kernel
theorem d_D_ways_4 : decode b_D_ways 4 = .ok (.iconst 0, 1) := by decide +kernel
theorem d_D_ways_5 : decode b_D_ways 5 = .ok (.istore_n 2, 1) := by decide +kernel
theorem d_D_ways_6 : decode b_D_ways 6 = .ok (.iconst 0, 1) := by decide +kernel
theorem d_D_ways_7 : decode b_D_ways 7 = .ok (.istore_n 3, 1) := by decide +kernel
theorem d_D_ways_8 : decode b_D_ways 8 = .ok (.iload_n 3, 1) := by decide +kernel
theorem d_D_ways_9 : decode b_D_ways 9 = .ok (.bipush 16, 2) := by decide +kernel
theorem d_D_ways_11 : decode b_D_ways 11 = .ok (.if_icmp .ge 23, 3) := by decide +kernel
theorem d_D_ways_14 : decode b_D_ways 14 = .ok (.iload_n 2, 1) := by decide +kernel
theorem d_D_ways_15 : decode b_D_ways 15 = .ok (.aload_n 0, 1) := by decide +kernel
theorem d_D_ways_16 : decode b_D_ways 16 = .ok (.getfield 11, 3) := by decide +kernel
theorem d_D_ways_19 : decode b_D_ways 19 = .ok (.iload_n 1, 1) := by decide +kernel
theorem d_D_ways_20 : decode b_D_ways 20 = .ok (.aaload, 1) := by decide +kernel
theorem d_D_ways_21 : decode b_D_ways 21 = .ok (.iload_n 3, 1) := by decide +kernel
theorem d_D_ways_22 : decode b_D_ways 22 = .ok (.laload, 1) := by decide +kernel
theorem d_D_ways_23 : decode b_D_ways 23 = .ok (.invokestatic 92, 3) := by decide +kernel
theorem d_D_ways_26 : decode b_D_ways 26 = .ok (.iadd, 1) := by decide +kernel
theorem d_D_ways_27 : decode b_D_ways 27 = .ok (.istore_n 2, 1) := by decide +kernel
theorem d_D_ways_28 : decode b_D_ways 28 = .ok (.iinc 3 1, 3) := by decide +kernel
theorem d_D_ways_31 : decode b_D_ways 31 = .ok (.goto (-23), 3) := by decide +kernel
theorem d_D_ways_34 : decode b_D_ways 34 = .ok (.iload_n 2, 1) := by decide +kernel
theorem d_D_ways_35 : decode b_D_ways 35 = .ok (.ireturn, 1) := by decide +kernel
theorem d_D_first_0 : decode b_D_first 0 = .ok (.iload_n 1, 1) := by decide +kernel
theorem d_D_first_1 : decode b_D_first 1 = .ok (.invokestatic 28, 3) := by decide +kernel
theorem d_D_first_4 : decode b_D_first 4 = .ok (.aload_n 0, 1) := by decide +kernel
theorem d_D_first_5 : decode b_D_first 5 = .ok (.getfield 11, 3) := by decide +kernel
theorem d_D_first_8 : decode b_D_first 8 = .ok (.iload_n 1, 1) := by decide +kernel
theorem d_D_first_9 : decode b_D_first 9 = .ok (.aaload, 1) := by decide +kernel
theorem d_D_first_10 : decode b_D_first 10 = .ok (.iconst 0, 1) := by decide +kernel
theorem d_D_first_11 : decode b_D_first 11 = .ok (.aload_n 0, 1) := by decide +kernel
theorem d_D_first_12 : decode b_D_first 12 = .ok (.getfield 14, 3) := by decide +kernel
theorem d_D_first_15 : decode b_D_first 15 = .ok (.iconst 0, 1) := by decide +kernel
theorem d_D_first_16 : decode b_D_first 16 = .ok (.bipush 16, 2) := by decide +kernel
theorem d_D_first_18 : decode b_D_first 18 = .ok (.invokestatic 70, 3) := by decide +kernel
theorem d_D_first_21 : decode b_D_first 21 = .ok (.aload_n 0, 1) := by decide +kernel
theorem d_D_first_22 : decode b_D_first 22 = .ok (.invokevirtual 98, 3) := by decide +kernel
theorem d_D_first_25 : decode b_D_first 25 = .ok (.ifCond .eq 13, 3) := by decide +kernel
theorem d_D_first_28 : decode b_D_first 28 = .ok (.new 102, 3) := by decide +kernel
theorem d_D_first_31 : decode b_D_first 31 = .ok (.dup, 1) := by decide +kernel
theorem d_D_first_32 : decode b_D_first 32 = .ok (.ldc 104, 2) := by decide +kernel
theorem d_D_first_34 : decode b_D_first 34 = .ok (.invokespecial 106, 3) := by decide +kernel
theorem d_D_first_37 : decode b_D_first 37 = .ok (.athrow, 1) := by decide +kernel
theorem d_D_first_38 : decode b_D_first 38 = .ok (.iconst 0, 1) := by decide +kernel
theorem d_D_first_39 : decode b_D_first 39 = .ok (.istore_n 2, 1) := by decide +kernel
theorem d_D_first_40 : decode b_D_first 40 = .ok (.iconst 0, 1) := by decide +kernel
theorem d_D_first_41 : decode b_D_first 41 = .ok (.istore_n 3, 1) := by decide +kernel
theorem d_D_first_42 : decode b_D_first 42 = .ok (.iload_n 3, 1) := by decide +kernel
theorem d_D_first_43 : decode b_D_first 43 = .ok (.bipush 10, 2) := by decide +kernel
theorem d_D_first_45 : decode b_D_first 45 = .ok (.if_icmp .ge 23, 3) := by decide +kernel
theorem d_D_first_48 : decode b_D_first 48 = .ok (.aload_n 0, 1) := by decide +kernel
theorem d_D_first_49 : decode b_D_first 49 = .ok (.iload_n 3, 1) := by decide +kernel
theorem d_D_first_50 : decode b_D_first 50 = .ok (.invokevirtual 109, 3) := by decide +kernel
theorem d_D_first_53 : decode b_D_first 53 = .ok (.ifCond .ne 9, 3) := by decide +kernel
theorem d_D_first_56 : decode b_D_first 56 = .ok (.iload_n 2, 1) := by decide +kernel
theorem d_D_first_57 : decode b_D_first 57 = .ok (.iconst 1, 1) := by decide +kernel
theorem d_D_first_58 : decode b_D_first 58 = .ok (.iload_n 3, 1) := by decide +kernel
theorem d_D_first_59 : decode b_D_first 59 = .ok (.ishl, 1) := by decide +kernel
theorem d_D_first_60 : decode b_D_first 60 = .ok (.ior, 1) := by decide +kernel
theorem d_D_first_61 : decode b_D_first 61 = .ok (.istore_n 2, 1) := by decide +kernel
theorem d_D_first_62 : decode b_D_first 62 = .ok (.iinc 3 1, 3) := by decide +kernel
theorem d_D_first_65 : decode b_D_first 65 = .ok (.goto (-23), 3) := by decide +kernel
theorem d_D_first_68 : decode b_D_first 68 = .ok (.iload_n 2, 1) := by decide +kernel
theorem d_D_first_69 : decode b_D_first 69 = .ok (.ireturn, 1) := by decide +kernel
theorem d_D_hangs_0 : decode b_D_hangs 0 = .ok (.iload_n 1, 1) := by decide +kernel
theorem d_D_hangs_1 : decode b_D_hangs 1 = .ok (.invokestatic 28, 3) := by decide +kernel
theorem d_D_hangs_4 : decode b_D_hangs 4 = .ok (.iconst 0, 1) := by decide +kernel
theorem d_D_hangs_5 : decode b_D_hangs 5 = .ok (.istore_n 2, 1) := by decide +kernel
theorem d_D_hangs_6 : decode b_D_hangs 6 = .ok (.iconst 0, 1) := by decide +kernel
theorem d_D_hangs_7 : decode b_D_hangs 7 = .ok (.istore_n 3, 1) := by decide +kernel
theorem d_D_hangs_8 : decode b_D_hangs 8 = .ok (.iload_n 3, 1) := by decide +kernel
theorem d_D_hangs_9 : decode b_D_hangs 9 = .ok (.bipush 10, 2) := by decide +kernel
theorem d_D_hangs_11 : decode b_D_hangs 11 = .ok (.if_icmp .ge 28, 3) := by decide +kernel
theorem d_D_hangs_14 : decode b_D_hangs 14 = .ok (.aload_n 0, 1) := by decide +kernel
theorem d_D_hangs_15 : decode b_D_hangs 15 = .ok (.getfield 11, 3) := by decide +kernel
theorem d_D_hangs_18 : decode b_D_hangs 18 = .ok (.iload_n 1, 1) := by decide +kernel
theorem d_D_hangs_19 : decode b_D_hangs 19 = .ok (.aaload, 1) := by decide +kernel
theorem d_D_hangs_20 : decode b_D_hangs 20 = .ok (.iload_n 3, 1) := by decide +kernel
theorem d_D_hangs_21 : decode b_D_hangs 21 = .ok (.invokestatic 113, 3) := by decide +kernel
theorem d_D_hangs_24 : decode b_D_hangs 24 = .ok (.ifCond .eq 9, 3) := by decide +kernel
theorem d_D_hangs_27 : decode b_D_hangs 27 = .ok (.iload_n 2, 1) := by decide +kernel
theorem d_D_hangs_28 : decode b_D_hangs 28 = .ok (.iconst 1, 1) := by decide +kernel
theorem d_D_hangs_29 : decode b_D_hangs 29 = .ok (.iload_n 3, 1) := by decide +kernel
theorem d_D_hangs_30 : decode b_D_hangs 30 = .ok (.ishl, 1) := by decide +kernel
theorem d_D_hangs_31 : decode b_D_hangs 31 = .ok (.ior, 1) := by decide +kernel
theorem d_D_hangs_32 : decode b_D_hangs 32 = .ok (.istore_n 2, 1) := by decide +kernel
theorem d_D_hangs_33 : decode b_D_hangs 33 = .ok (.iinc 3 1, 3) := by decide +kernel
theorem d_D_hangs_36 : decode b_D_hangs 36 = .ok (.goto (-28), 3) := by decide +kernel
theorem d_D_hangs_39 : decode b_D_hangs 39 = .ok (.iload_n 2, 1) := by decide +kernel
theorem d_D_hangs_40 : decode b_D_hangs 40 = .ok (.ireturn, 1) := by decide +kernel
theorem d_D_same_0 : decode b_D_same 0 = .ok (.iload_n 1, 1) := by decide +kernel
theorem d_D_same_1 : decode b_D_same 1 = .ok (.invokestatic 28, 3) := by decide +kernel
theorem d_D_same_4 : decode b_D_same 4 = .ok (.iload_n 2, 1) := by decide +kernel
theorem d_D_same_5 : decode b_D_same 5 = .ok (.invokestatic 28, 3) := by decide +kernel
theorem d_D_same_8 : decode b_D_same 8 = .ok (.iconst 0, 1) := by decide +kernel
theorem d_D_same_9 : decode b_D_same 9 = .ok (.istore_n 3, 1) := by decide +kernel
theorem d_D_same_10 : decode b_D_same 10 = .ok (.iload_n 3, 1) := by decide +kernel
theorem d_D_same_11 : decode b_D_same 11 = .ok (.bipush 16, 2) := by decide +kernel
theorem d_D_same_13 : decode b_D_same 13 = .ok (.if_icmp .ge 31, 3) := by decide +kernel
theorem d_D_same_16 : decode b_D_same 16 = .ok (.aload_n 0, 1) := by decide +kernel
theorem d_D_same_17 : decode b_D_same 17 = .ok (.getfield 11, 3) := by decide +kernel
theorem d_D_same_20 : decode b_D_same 20 = .ok (.iload_n 1, 1) := by decide +kernel
theorem d_D_same_21 : decode b_D_same 21 = .ok (.aaload, 1) := by decide +kernel
theorem d_D_same_22 : decode b_D_same 22 = .ok (.iload_n 3, 1) := by decide +kernel
theorem d_D_same_23 : decode b_D_same 23 = .ok (.laload, 1) := by decide +kernel
theorem d_D_same_24 : decode b_D_same 24 = .ok (.aload_n 0, 1) := by decide +kernel
theorem d_D_same_25 : decode b_D_same 25 = .ok (.getfield 11, 3) := by decide +kernel
theorem d_D_same_28 : decode b_D_same 28 = .ok (.iload_n 2, 1) := by decide +kernel
theorem d_D_same_29 : decode b_D_same 29 = .ok (.aaload, 1) := by decide +kernel
theorem d_D_same_30 : decode b_D_same 30 = .ok (.iload_n 3, 1) := by decide +kernel
theorem d_D_same_31 : decode b_D_same 31 = .ok (.laload, 1) := by decide +kernel
theorem d_D_same_32 : decode b_D_same 32 = .ok (.lcmp, 1) := by decide +kernel
theorem d_D_same_33 : decode b_D_same 33 = .ok (.ifCond .eq 5, 3) := by decide +kernel
theorem d_D_same_36 : decode b_D_same 36 = .ok (.iconst 0, 1) := by decide +kernel
theorem d_D_same_37 : decode b_D_same 37 = .ok (.ireturn, 1) := by decide +kernel
theorem d_D_same_38 : decode b_D_same 38 = .ok (.iinc 3 1, 3) := by decide +kernel
theorem d_D_same_41 : decode b_D_same 41 = .ok (.goto (-31), 3) := by decide +kernel
theorem d_D_same_44 : decode b_D_same 44 = .ok (.iconst 1, 1) := by decide +kernel
theorem d_D_same_45 : decode b_D_same 45 = .ok (.ireturn, 1) := by decide +kernel
theorem d_D_parts_0 : decode b_D_parts 0 = .ok (.iload_n 1, 1) := by decide +kernel
theorem d_D_parts_1 : decode b_D_parts 1 = .ok (.invokestatic 28, 3) := by decide +kernel
theorem d_D_parts_4 : decode b_D_parts 4 = .ok (.aload_n 0, 1) := by decide +kernel
theorem d_D_parts_5 : decode b_D_parts 5 = .ok (.iload_n 1, 1) := by decide +kernel
theorem d_D_parts_6 : decode b_D_parts 6 = .ok (.iload_n 1, 1) := by decide +kernel
theorem d_D_parts_7 : decode b_D_parts 7 = .ok (.iconst 1, 1) := by decide +kernel
theorem d_D_parts_8 : decode b_D_parts 8 = .ok (.iadd, 1) := by decide +kernel
theorem d_D_parts_9 : decode b_D_parts 9 = .ok (.invokevirtual 117, 3) := by decide +kernel
theorem d_D_parts_12 : decode b_D_parts 12 = .ok (.ireturn, 1) := by decide +kernel
theorem d_D_together_0 : decode b_D_together 0 = .ok (.iload_n 1, 1) := by decide +kernel
theorem d_D_together_1 : decode b_D_together 1 = .ok (.ifCond .lt 14, 3) := by decide +kernel
theorem d_D_together_4 : decode b_D_together 4 = .ok (.iload_n 1, 1) := by decide +kernel
theorem d_D_together_5 : decode b_D_together 5 = .ok (.iload_n 2, 1) := by decide +kernel
theorem d_D_together_6 : decode b_D_together 6 = .ok (.if_icmp .ge 9, 3) := by decide +kernel
theorem d_D_together_9 : decode b_D_together 9 = .ok (.iload_n 2, 1) := by decide +kernel
theorem d_D_together_10 : decode b_D_together 10 = .ok (.bipush 16, 2) := by decide +kernel
theorem d_D_together_12 : decode b_D_together 12 = .ok (.if_icmp .le 13, 3) := by decide +kernel
theorem d_D_together_15 : decode b_D_together 15 = .ok (.new 121, 3) := by decide +kernel
theorem d_D_together_18 : decode b_D_together 18 = .ok (.dup, 1) := by decide +kernel
theorem d_D_together_19 : decode b_D_together 19 = .ok (.ldc 123, 2) := by decide +kernel
theorem d_D_together_21 : decode b_D_together 21 = .ok (.invokespecial 125, 3) := by decide +kernel
theorem d_D_together_24 : decode b_D_together 24 = .ok (.athrow, 1) := by decide +kernel
theorem d_D_together_25 : decode b_D_together 25 = .ok (.aload_n 0, 1) := by decide +kernel
theorem d_D_together_26 : decode b_D_together 26 = .ok (.iload_n 1, 1) := by decide +kernel
theorem d_D_together_27 : decode b_D_together 27 = .ok (.iload_n 2, 1) := by decide +kernel
theorem d_D_together_28 : decode b_D_together 28 = .ok (.invokevirtual 117, 3) := by decide +kernel
theorem d_D_together_31 : decode b_D_together 31 = .ok (.ireturn, 1) := by decide +kernel
theorem d_D_checkRegister_0 : decode b_D_checkRegister 0 = .ok (.iload_n 0, 1) := by decide +kernel
theorem d_D_checkRegister_1 : decode b_D_checkRegister 1 = .ok (.ifCond .lt 9, 3) := by decide +kernel
theorem d_D_checkRegister_4 : decode b_D_checkRegister 4 = .ok (.iload_n 0, 1) := by decide +kernel
theorem d_D_checkRegister_5 : decode b_D_checkRegister 5 = .ok (.bipush 16, 2) := by decide +kernel
theorem d_D_checkRegister_7 : decode b_D_checkRegister 7 = .ok (.if_icmp .lt 13, 3) := by decide +kernel
theorem d_D_checkRegister_10 : decode b_D_checkRegister 10 = .ok (.new 121, 3) := by decide +kernel
theorem d_D_checkRegister_13 : decode b_D_checkRegister 13 = .ok (.dup, 1) := by decide +kernel
theorem d_D_checkRegister_14 : decode b_D_checkRegister 14 = .ok (.ldc 126, 2) := by decide +kernel
theorem d_D_checkRegister_16 : decode b_D_checkRegister 16 = .ok (.invokespecial 125, 3) := by decide +kernel
theorem d_D_checkRegister_19 : decode b_D_checkRegister 19 = .ok (.athrow, 1) := by decide +kernel
theorem d_D_checkRegister_20 : decode b_D_checkRegister 20 = .ok (.return_, 1) := by decide +kernel
theorem d_D_checkVariable_0 : decode b_D_checkVariable 0 = .ok (.iload_n 0, 1) := by decide +kernel
theorem d_D_checkVariable_1 : decode b_D_checkVariable 1 = .ok (.ifCond .lt 9, 3) := by decide +kernel
theorem d_D_checkVariable_4 : decode b_D_checkVariable 4 = .ok (.iload_n 0, 1) := by decide +kernel
theorem d_D_checkVariable_5 : decode b_D_checkVariable 5 = .ok (.bipush 10, 2) := by decide +kernel
theorem d_D_checkVariable_7 : decode b_D_checkVariable 7 = .ok (.if_icmp .lt 13, 3) := by decide +kernel
theorem d_D_checkVariable_10 : decode b_D_checkVariable 10 = .ok (.new 121, 3) := by decide +kernel
theorem d_D_checkVariable_13 : decode b_D_checkVariable 13 = .ok (.dup, 1) := by decide +kernel
theorem d_D_checkVariable_14 : decode b_D_checkVariable 14 = .ok (.ldc 128, 2) := by decide +kernel
theorem d_D_checkVariable_16 : decode b_D_checkVariable 16 = .ok (.invokespecial 125, 3) := by decide +kernel
theorem d_D_checkVariable_19 : decode b_D_checkVariable 19 = .ok (.athrow, 1) := by decide +kernel
theorem d_D_checkVariable_20 : decode b_D_checkVariable 20 = .ok (.return_, 1) := by decide +kernel
theorem d_D_checkAssignment_0 : decode b_D_checkAssignment 0 = .ok (.iload_n 0, 1) := by decide +kernel
theorem d_D_checkAssignment_1 : decode b_D_checkAssignment 1 = .ok (.ifCond .lt 10, 3) := by decide +kernel
theorem d_D_checkAssignment_4 : decode b_D_checkAssignment 4 = .ok (.iload_n 0, 1) := by decide +kernel
theorem d_D_checkAssignment_5 : decode b_D_checkAssignment 5 = .ok (.sipush 1024, 3) := by decide +kernel
theorem d_D_checkAssignment_8 : decode b_D_checkAssignment 8 = .ok (.if_icmp .lt 13, 3) := by decide +kernel
theorem d_D_checkAssignment_11 : decode b_D_checkAssignment 11 = .ok (.new 121, 3) := by decide +kernel
theorem d_D_checkAssignment_14 : decode b_D_checkAssignment 14 = .ok (.dup, 1) := by decide +kernel
theorem d_D_checkAssignment_15 : decode b_D_checkAssignment 15 = .ok (.ldc 130, 2) := by decide +kernel
theorem d_D_checkAssignment_17 : decode b_D_checkAssignment 17 = .ok (.invokespecial 125, 3) := by decide +kernel
theorem d_D_checkAssignment_20 : decode b_D_checkAssignment 20 = .ok (.athrow, 1) := by decide +kernel
theorem d_D_checkAssignment_21 : decode b_D_checkAssignment 21 = .ok (.return_, 1) := by decide +kernel
theorem d_D_checkSet_0 : decode b_D_checkSet 0 = .ok (.iload_n 0, 1) := by decide +kernel
theorem d_D_checkSet_1 : decode b_D_checkSet 1 = .ok (.ifCond .lt 10, 3) := by decide +kernel
theorem d_D_checkSet_4 : decode b_D_checkSet 4 = .ok (.iload_n 0, 1) := by decide +kernel
theorem d_D_checkSet_5 : decode b_D_checkSet 5 = .ok (.sipush 1024, 3) := by decide +kernel
theorem d_D_checkSet_8 : decode b_D_checkSet 8 = .ok (.if_icmp .lt 13, 3) := by decide +kernel
theorem d_D_checkSet_11 : decode b_D_checkSet 11 = .ok (.new 121, 3) := by decide +kernel
theorem d_D_checkSet_14 : decode b_D_checkSet 14 = .ok (.dup, 1) := by decide +kernel
theorem d_D_checkSet_15 : decode b_D_checkSet 15 = .ok (.ldc 132, 2) := by decide +kernel
theorem d_D_checkSet_17 : decode b_D_checkSet 17 = .ok (.invokespecial 125, 3) := by decide +kernel
theorem d_D_checkSet_20 : decode b_D_checkSet 20 = .ok (.athrow, 1) := by decide +kernel
theorem d_D_checkSet_21 : decode b_D_checkSet 21 = .ok (.return_, 1) := by decide +kernel
theorem d_D_checkKind_0 : decode b_D_checkKind 0 = .ok (.iload_n 0, 1) := by decide +kernel
theorem d_D_checkKind_1 : decode b_D_checkKind 1 = .ok (.ifCond .lt 8, 3) := by decide +kernel
theorem d_D_checkKind_4 : decode b_D_checkKind 4 = .ok (.iload_n 0, 1) := by decide +kernel
theorem d_D_checkKind_5 : decode b_D_checkKind 5 = .ok (.iconst 5, 1) := by decide +kernel
theorem d_D_checkKind_6 : decode b_D_checkKind 6 = .ok (.if_icmp .lt 13, 3) := by decide +kernel
theorem d_D_checkKind_9 : decode b_D_checkKind 9 = .ok (.new 121, 3) := by decide +kernel
theorem d_D_checkKind_12 : decode b_D_checkKind 12 = .ok (.dup, 1) := by decide +kernel
theorem d_D_checkKind_13 : decode b_D_checkKind 13 = .ok (.ldc 134, 2) := by decide +kernel
theorem d_D_checkKind_15 : decode b_D_checkKind 15 = .ok (.invokespecial 125, 3) := by decide +kernel
theorem d_D_checkKind_18 : decode b_D_checkKind 18 = .ok (.athrow, 1) := by decide +kernel
theorem d_D_checkKind_19 : decode b_D_checkKind 19 = .ok (.return_, 1) := by decide +kernel
theorem d_D_isIn_0 : decode b_D_isIn 0 = .ok (.iload_n 0, 1) := by decide +kernel
theorem d_D_isIn_1 : decode b_D_isIn 1 = .ok (.iload_n 1, 1) := by decide +kernel
theorem d_D_isIn_2 : decode b_D_isIn 2 = .ok (.ishr, 1) := by decide +kernel
theorem d_D_isIn_3 : decode b_D_isIn 3 = .ok (.iconst 1, 1) := by decide +kernel
theorem d_D_isIn_4 : decode b_D_isIn 4 = .ok (.iand, 1) := by decide +kernel
theorem d_D_isIn_5 : decode b_D_isIn 5 = .ok (.ifCond .eq 7, 3) := by decide +kernel
theorem d_D_isIn_8 : decode b_D_isIn 8 = .ok (.iconst 1, 1) := by decide +kernel
theorem d_D_isIn_9 : decode b_D_isIn 9 = .ok (.goto 4, 3) := by decide +kernel
theorem d_D_isIn_12 : decode b_D_isIn 12 = .ok (.iconst 0, 1) := by decide +kernel
theorem d_D_isIn_13 : decode b_D_isIn 13 = .ok (.ireturn, 1) := by decide +kernel
theorem d_D_bitOf_0 : decode b_D_bitOf 0 = .ok (.aload_n 0, 1) := by decide +kernel
theorem d_D_bitOf_1 : decode b_D_bitOf 1 = .ok (.iload_n 1, 1) := by decide +kernel
theorem d_D_bitOf_2 : decode b_D_bitOf 2 = .ok (.bipush 6, 2) := by decide +kernel
theorem d_D_bitOf_4 : decode b_D_bitOf 4 = .ok (.ishr, 1) := by decide +kernel
theorem d_D_bitOf_5 : decode b_D_bitOf 5 = .ok (.laload, 1) := by decide +kernel
theorem d_D_bitOf_6 : decode b_D_bitOf 6 = .ok (.lstore_n 2, 1) := by decide +kernel
theorem d_D_bitOf_7 : decode b_D_bitOf 7 = .ok (.lload_n 2, 1) := by decide +kernel
theorem d_D_bitOf_8 : decode b_D_bitOf 8 = .ok (.iload_n 1, 1) := by decide +kernel
theorem d_D_bitOf_9 : decode b_D_bitOf 9 = .ok (.bipush 63, 2) := by decide +kernel
theorem d_D_bitOf_11 : decode b_D_bitOf 11 = .ok (.iand, 1) := by decide +kernel
theorem d_D_bitOf_12 : decode b_D_bitOf 12 = .ok (.lushr, 1) := by decide +kernel
theorem d_D_bitOf_13 : decode b_D_bitOf 13 = .ok (.lconst 1, 1) := by decide +kernel
theorem d_D_bitOf_14 : decode b_D_bitOf 14 = .ok (.land, 1) := by decide +kernel
theorem d_D_bitOf_15 : decode b_D_bitOf 15 = .ok (.l2i, 1) := by decide +kernel
theorem d_D_bitOf_16 : decode b_D_bitOf 16 = .ok (.ireturn, 1) := by decide +kernel
theorem d_D_joinedWord_0 : decode b_D_joinedWord 0 = .ok (.iload_n 0, 1) := by decide +kernel
theorem d_D_joinedWord_1 : decode b_D_joinedWord 1 = .ok (.tableswitch 51 0 3 #[31, 35, 39, 43], 31) := by decide +kernel
theorem d_D_joinedWord_32 : decode b_D_joinedWord 32 = .ok (.lload_n 1, 1) := by decide +kernel
theorem d_D_joinedWord_33 : decode b_D_joinedWord 33 = .ok (.lload_n 3, 1) := by decide +kernel
theorem d_D_joinedWord_34 : decode b_D_joinedWord 34 = .ok (.land, 1) := by decide +kernel
theorem d_D_joinedWord_35 : decode b_D_joinedWord 35 = .ok (.lreturn, 1) := by decide +kernel
theorem d_D_joinedWord_36 : decode b_D_joinedWord 36 = .ok (.lload_n 1, 1) := by decide +kernel
theorem d_D_joinedWord_37 : decode b_D_joinedWord 37 = .ok (.lload_n 3, 1) := by decide +kernel
theorem d_D_joinedWord_38 : decode b_D_joinedWord 38 = .ok (.lor, 1) := by decide +kernel
theorem d_D_joinedWord_39 : decode b_D_joinedWord 39 = .ok (.lreturn, 1) := by decide +kernel
theorem d_D_joinedWord_40 : decode b_D_joinedWord 40 = .ok (.lload_n 1, 1) := by decide +kernel
theorem d_D_joinedWord_41 : decode b_D_joinedWord 41 = .ok (.lload_n 3, 1) := by decide +kernel
theorem d_D_joinedWord_42 : decode b_D_joinedWord 42 = .ok (.lxor, 1) := by decide +kernel
theorem d_D_joinedWord_43 : decode b_D_joinedWord 43 = .ok (.lreturn, 1) := by decide +kernel
theorem d_D_joinedWord_44 : decode b_D_joinedWord 44 = .ok (.lload_n 1, 1) := by decide +kernel
theorem d_D_joinedWord_45 : decode b_D_joinedWord 45 = .ok (.ldc2_w 136, 3) := by decide +kernel
theorem d_D_joinedWord_48 : decode b_D_joinedWord 48 = .ok (.lxor, 1) := by decide +kernel
theorem d_D_joinedWord_49 : decode b_D_joinedWord 49 = .ok (.lload_n 3, 1) := by decide +kernel
theorem d_D_joinedWord_50 : decode b_D_joinedWord 50 = .ok (.lor, 1) := by decide +kernel
theorem d_D_joinedWord_51 : decode b_D_joinedWord 51 = .ok (.lreturn, 1) := by decide +kernel
theorem d_D_joinedWord_52 : decode b_D_joinedWord 52 = .ok (.lload_n 1, 1) := by decide +kernel
theorem d_D_joinedWord_53 : decode b_D_joinedWord 53 = .ok (.ldc2_w 136, 3) := by decide +kernel
theorem d_D_joinedWord_56 : decode b_D_joinedWord 56 = .ok (.lxor, 1) := by decide +kernel
theorem d_D_joinedWord_57 : decode b_D_joinedWord 57 = .ok (.lreturn, 1) := by decide +kernel
theorem d_D_chosenWord_0 : decode b_D_chosenWord 0 = .ok (.lload_n 0, 1) := by decide +kernel
theorem d_D_chosenWord_1 : decode b_D_chosenWord 1 = .ok (.lload_n 2, 1) := by decide +kernel
theorem d_D_chosenWord_2 : decode b_D_chosenWord 2 = .ok (.land, 1) := by decide +kernel
theorem d_D_chosenWord_3 : decode b_D_chosenWord 3 = .ok (.lload_n 0, 1) := by decide +kernel
theorem d_D_chosenWord_4 : decode b_D_chosenWord 4 = .ok (.ldc2_w 136, 3) := by decide +kernel
theorem d_D_chosenWord_7 : decode b_D_chosenWord 7 = .ok (.lxor, 1) := by decide +kernel
theorem d_D_chosenWord_8 : decode b_D_chosenWord 8 = .ok (.lload 4, 2) := by decide +kernel
theorem d_D_chosenWord_10 : decode b_D_chosenWord 10 = .ok (.land, 1) := by decide +kernel
theorem d_D_chosenWord_11 : decode b_D_chosenWord 11 = .ok (.lor, 1) := by decide +kernel
theorem d_D_chosenWord_12 : decode b_D_chosenWord 12 = .ok (.lreturn, 1) := by decide +kernel
theorem d_D_variableWord_0 : decode b_D_variableWord 0 = .ok (.iload_n 0, 1) := by decide +kernel
theorem d_D_variableWord_1 : decode b_D_variableWord 1 = .ok (.bipush 6, 2) := by decide +kernel
theorem d_D_variableWord_3 : decode b_D_variableWord 3 = .ok (.if_icmp .ge 9, 3) := by decide +kernel
theorem d_D_variableWord_6 : decode b_D_variableWord 6 = .ok (.getstatic 138, 3) := by decide +kernel
theorem d_D_variableWord_9 : decode b_D_variableWord 9 = .ok (.iload_n 0, 1) := by decide +kernel
theorem d_D_variableWord_10 : decode b_D_variableWord 10 = .ok (.laload, 1) := by decide +kernel
theorem d_D_variableWord_11 : decode b_D_variableWord 11 = .ok (.lreturn, 1) := by decide +kernel
theorem d_D_variableWord_12 : decode b_D_variableWord 12 = .ok (.iload_n 1, 1) := by decide +kernel
theorem d_D_variableWord_13 : decode b_D_variableWord 13 = .ok (.iload_n 0, 1) := by decide +kernel
theorem d_D_variableWord_14 : decode b_D_variableWord 14 = .ok (.bipush 6, 2) := by decide +kernel
theorem d_D_variableWord_16 : decode b_D_variableWord 16 = .ok (.isub, 1) := by decide +kernel
theorem d_D_variableWord_17 : decode b_D_variableWord 17 = .ok (.invokestatic 76, 3) := by decide +kernel
theorem d_D_variableWord_20 : decode b_D_variableWord 20 = .ok (.ifCond .eq 9, 3) := by decide +kernel
theorem d_D_variableWord_23 : decode b_D_variableWord 23 = .ok (.ldc2_w 136, 3) := by decide +kernel
theorem d_D_variableWord_26 : decode b_D_variableWord 26 = .ok (.goto 4, 3) := by decide +kernel
theorem d_D_variableWord_29 : decode b_D_variableWord 29 = .ok (.lconst 0, 1) := by decide +kernel
theorem d_D_variableWord_30 : decode b_D_variableWord 30 = .ok (.lreturn, 1) := by decide +kernel
theorem d_D_turnedWord_0 : decode b_D_turnedWord 0 = .ok (.iload_n 1, 1) := by decide +kernel
theorem d_D_turnedWord_1 : decode b_D_turnedWord 1 = .ok (.bipush 6, 2) := by decide +kernel
theorem d_D_turnedWord_3 : decode b_D_turnedWord 3 = .ok (.if_icmp .ge 36, 3) := by decide +kernel
theorem d_D_turnedWord_6 : decode b_D_turnedWord 6 = .ok (.getstatic 138, 3) := by decide +kernel
theorem d_D_turnedWord_9 : decode b_D_turnedWord 9 = .ok (.iload_n 1, 1) := by decide +kernel
theorem d_D_turnedWord_10 : decode b_D_turnedWord 10 = .ok (.laload, 1) := by decide +kernel
theorem d_D_turnedWord_11 : decode b_D_turnedWord 11 = .ok (.lstore_n 3, 1) := by decide +kernel
theorem d_D_turnedWord_12 : decode b_D_turnedWord 12 = .ok (.iconst 1, 1) := by decide +kernel
theorem d_D_turnedWord_13 : decode b_D_turnedWord 13 = .ok (.iload_n 1, 1) := by decide +kernel
theorem d_D_turnedWord_14 : decode b_D_turnedWord 14 = .ok (.ishl, 1) := by decide +kernel
theorem d_D_turnedWord_15 : decode b_D_turnedWord 15 = .ok (.istore 5, 2) := by decide +kernel
theorem d_D_turnedWord_17 : decode b_D_turnedWord 17 = .ok (.aload_n 0, 1) := by decide +kernel
theorem d_D_turnedWord_18 : decode b_D_turnedWord 18 = .ok (.iload_n 2, 1) := by decide +kernel
theorem d_D_turnedWord_19 : decode b_D_turnedWord 19 = .ok (.laload, 1) := by decide +kernel
theorem d_D_turnedWord_20 : decode b_D_turnedWord 20 = .ok (.lload_n 3, 1) := by decide +kernel
theorem d_D_turnedWord_21 : decode b_D_turnedWord 21 = .ok (.land, 1) := by decide +kernel
theorem d_D_turnedWord_22 : decode b_D_turnedWord 22 = .ok (.iload 5, 2) := by decide +kernel
theorem d_D_turnedWord_24 : decode b_D_turnedWord 24 = .ok (.lushr, 1) := by decide +kernel
theorem d_D_turnedWord_25 : decode b_D_turnedWord 25 = .ok (.aload_n 0, 1) := by decide +kernel
theorem d_D_turnedWord_26 : decode b_D_turnedWord 26 = .ok (.iload_n 2, 1) := by decide +kernel
theorem d_D_turnedWord_27 : decode b_D_turnedWord 27 = .ok (.laload, 1) := by decide +kernel
theorem d_D_turnedWord_28 : decode b_D_turnedWord 28 = .ok (.lload_n 3, 1) := by decide +kernel
theorem d_D_turnedWord_29 : decode b_D_turnedWord 29 = .ok (.ldc2_w 136, 3) := by decide +kernel
theorem d_D_turnedWord_32 : decode b_D_turnedWord 32 = .ok (.lxor, 1) := by decide +kernel
theorem d_D_turnedWord_33 : decode b_D_turnedWord 33 = .ok (.land, 1) := by decide +kernel
theorem d_D_turnedWord_34 : decode b_D_turnedWord 34 = .ok (.iload 5, 2) := by decide +kernel
theorem d_D_turnedWord_36 : decode b_D_turnedWord 36 = .ok (.lshl, 1) := by decide +kernel
theorem d_D_turnedWord_37 : decode b_D_turnedWord 37 = .ok (.lor, 1) := by decide +kernel
theorem d_D_turnedWord_38 : decode b_D_turnedWord 38 = .ok (.lreturn, 1) := by decide +kernel
theorem d_D_turnedWord_39 : decode b_D_turnedWord 39 = .ok (.aload_n 0, 1) := by decide +kernel
theorem d_D_turnedWord_40 : decode b_D_turnedWord 40 = .ok (.iload_n 2, 1) := by decide +kernel
theorem d_D_turnedWord_41 : decode b_D_turnedWord 41 = .ok (.iconst 1, 1) := by decide +kernel
theorem d_D_turnedWord_42 : decode b_D_turnedWord 42 = .ok (.iload_n 1, 1) := by decide +kernel
theorem d_D_turnedWord_43 : decode b_D_turnedWord 43 = .ok (.bipush 6, 2) := by decide +kernel
theorem d_D_turnedWord_45 : decode b_D_turnedWord 45 = .ok (.isub, 1) := by decide +kernel
theorem d_D_turnedWord_46 : decode b_D_turnedWord 46 = .ok (.ishl, 1) := by decide +kernel
theorem d_D_turnedWord_47 : decode b_D_turnedWord 47 = .ok (.ixor, 1) := by decide +kernel
theorem d_D_turnedWord_48 : decode b_D_turnedWord 48 = .ok (.laload, 1) := by decide +kernel
theorem d_D_turnedWord_49 : decode b_D_turnedWord 49 = .ok (.lreturn, 1) := by decide +kernel
theorem d_D_fixedWord_0 : decode b_D_fixedWord 0 = .ok (.iload_n 2, 1) := by decide +kernel
theorem d_D_fixedWord_1 : decode b_D_fixedWord 1 = .ok (.ifCond .eq 11, 3) := by decide +kernel
theorem d_D_fixedWord_4 : decode b_D_fixedWord 4 = .ok (.iload_n 1, 1) := by decide +kernel
theorem d_D_fixedWord_5 : decode b_D_fixedWord 5 = .ok (.iload_n 3, 1) := by decide +kernel
theorem d_D_fixedWord_6 : decode b_D_fixedWord 6 = .ok (.invokestatic 35, 3) := by decide +kernel
theorem d_D_fixedWord_9 : decode b_D_fixedWord 9 = .ok (.goto 12, 3) := by decide +kernel
theorem d_D_fixedWord_12 : decode b_D_fixedWord 12 = .ok (.iload_n 1, 1) := by decide +kernel
theorem d_D_fixedWord_13 : decode b_D_fixedWord 13 = .ok (.iload_n 3, 1) := by decide +kernel
theorem d_D_fixedWord_14 : decode b_D_fixedWord 14 = .ok (.invokestatic 35, 3) := by decide +kernel
theorem d_D_fixedWord_17 : decode b_D_fixedWord 17 = .ok (.ldc2_w 136, 3) := by decide +kernel
theorem d_D_fixedWord_20 : decode b_D_fixedWord 20 = .ok (.lxor, 1) := by decide +kernel
theorem d_D_fixedWord_21 : decode b_D_fixedWord 21 = .ok (.lstore 4, 2) := by decide +kernel
theorem d_D_fixedWord_23 : decode b_D_fixedWord 23 = .ok (.lload 4, 2) := by decide +kernel
theorem d_D_fixedWord_25 : decode b_D_fixedWord 25 = .ok (.aload_n 0, 1) := by decide +kernel
theorem d_D_fixedWord_26 : decode b_D_fixedWord 26 = .ok (.iload_n 3, 1) := by decide +kernel
theorem d_D_fixedWord_27 : decode b_D_fixedWord 27 = .ok (.laload, 1) := by decide +kernel
theorem d_D_fixedWord_28 : decode b_D_fixedWord 28 = .ok (.aload_n 0, 1) := by decide +kernel
theorem d_D_fixedWord_29 : decode b_D_fixedWord 29 = .ok (.iload_n 1, 1) := by decide +kernel
theorem d_D_fixedWord_30 : decode b_D_fixedWord 30 = .ok (.iload_n 3, 1) := by decide +kernel
theorem d_D_fixedWord_31 : decode b_D_fixedWord 31 = .ok (.invokestatic 84, 3) := by decide +kernel
theorem d_D_fixedWord_34 : decode b_D_fixedWord 34 = .ok (.invokestatic 55, 3) := by decide +kernel
theorem d_D_fixedWord_37 : decode b_D_fixedWord 37 = .ok (.lreturn, 1) := by decide +kernel
theorem d_D_hangsOn_0 : decode b_D_hangsOn 0 = .ok (.iconst 0, 1) := by decide +kernel
theorem d_D_hangsOn_1 : decode b_D_hangsOn 1 = .ok (.istore_n 2, 1) := by decide +kernel
theorem d_D_hangsOn_2 : decode b_D_hangsOn 2 = .ok (.iload_n 2, 1) := by decide +kernel
theorem d_D_hangsOn_3 : decode b_D_hangsOn 3 = .ok (.bipush 16, 2) := by decide +kernel
theorem d_D_hangsOn_5 : decode b_D_hangsOn 5 = .ok (.if_icmp .ge 24, 3) := by decide +kernel
theorem d_D_hangsOn_8 : decode b_D_hangsOn 8 = .ok (.aload_n 0, 1) := by decide +kernel
theorem d_D_hangsOn_9 : decode b_D_hangsOn 9 = .ok (.iload_n 2, 1) := by decide +kernel
theorem d_D_hangsOn_10 : decode b_D_hangsOn 10 = .ok (.laload, 1) := by decide +kernel
theorem d_D_hangsOn_11 : decode b_D_hangsOn 11 = .ok (.aload_n 0, 1) := by decide +kernel
theorem d_D_hangsOn_12 : decode b_D_hangsOn 12 = .ok (.iload_n 1, 1) := by decide +kernel
theorem d_D_hangsOn_13 : decode b_D_hangsOn 13 = .ok (.iload_n 2, 1) := by decide +kernel
theorem d_D_hangsOn_14 : decode b_D_hangsOn 14 = .ok (.invokestatic 84, 3) := by decide +kernel
theorem d_D_hangsOn_17 : decode b_D_hangsOn 17 = .ok (.lcmp, 1) := by decide +kernel
theorem d_D_hangsOn_18 : decode b_D_hangsOn 18 = .ok (.ifCond .eq 5, 3) := by decide +kernel
theorem d_D_hangsOn_21 : decode b_D_hangsOn 21 = .ok (.iconst 1, 1) := by decide +kernel
theorem d_D_hangsOn_22 : decode b_D_hangsOn 22 = .ok (.ireturn, 1) := by decide +kernel
theorem d_D_hangsOn_23 : decode b_D_hangsOn 23 = .ok (.iinc 2 1, 3) := by decide +kernel
theorem d_D_hangsOn_26 : decode b_D_hangsOn 26 = .ok (.goto (-24), 3) := by decide +kernel
theorem d_D_hangsOn_29 : decode b_D_hangsOn 29 = .ok (.iconst 0, 1) := by decide +kernel
theorem d_D_hangsOn_30 : decode b_D_hangsOn 30 = .ok (.ireturn, 1) := by decide +kernel
