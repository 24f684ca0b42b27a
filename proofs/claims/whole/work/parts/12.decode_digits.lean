theorem d_Dg_init_0 : decode b_Dg_init 0 = .ok (.aload_n 0, 1) := by decide +kernel
theorem d_Dg_init_1 : decode b_Dg_init 1 = .ok (.invokespecial 1, 3) := by decide +kernel
theorem d_Dg_init_4 : decode b_Dg_init 4 = .ok (.aload_n 0, 1) := by decide +kernel
theorem d_Dg_init_5 : decode b_Dg_init 5 = .ok (.bipush 31, 2) := by decide +kernel
theorem d_Dg_init_7 : decode b_Dg_init 7 = .ok (.newarray .int, 2) := by decide +kernel
theorem d_Dg_init_9 : decode b_Dg_init 9 = .ok (.putfield 9, 3) := by decide +kernel
theorem d_Dg_init_12 : decode b_Dg_init 12 = .ok (.return_, 1) := by decide +kernel
theorem d_Dg_load_0 : decode b_Dg_load 0 = .ok (.aload_n 1, 1) := by decide +kernel
theorem d_Dg_load_1 : decode b_Dg_load 1 = .ok (.getfield 13, 3) := by decide +kernel
theorem d_Dg_load_4 : decode b_Dg_load 4 = .ok (.lstore_n 2, 1) := by decide +kernel
theorem d_Dg_load_5 : decode b_Dg_load 5 = .ok (.bipush 30, 2) := by decide +kernel
theorem d_Dg_load_7 : decode b_Dg_load 7 = .ok (.istore 4, 2) := by decide +kernel
theorem d_Dg_load_9 : decode b_Dg_load 9 = .ok (.iload 4, 2) := by decide +kernel
theorem d_Dg_load_11 : decode b_Dg_load 11 = .ok (.bipush 19, 2) := by decide +kernel
theorem d_Dg_load_13 : decode b_Dg_load 13 = .ok (.if_icmp .lt 28, 3) := by decide +kernel
theorem d_Dg_load_16 : decode b_Dg_load 16 = .ok (.aload_n 0, 1) := by decide +kernel
theorem d_Dg_load_17 : decode b_Dg_load 17 = .ok (.getfield 9, 3) := by decide +kernel
theorem d_Dg_load_20 : decode b_Dg_load 20 = .ok (.iload 4, 2) := by decide +kernel
theorem d_Dg_load_22 : decode b_Dg_load 22 = .ok (.lload_n 2, 1) := by decide +kernel
theorem d_Dg_load_23 : decode b_Dg_load 23 = .ok (.ldc2_w 19, 3) := by decide +kernel
theorem d_Dg_load_26 : decode b_Dg_load 26 = .ok (.lrem, 1) := by decide +kernel
theorem d_Dg_load_27 : decode b_Dg_load 27 = .ok (.l2i, 1) := by decide +kernel
theorem d_Dg_load_28 : decode b_Dg_load 28 = .ok (.iastore, 1) := by decide +kernel
theorem d_Dg_load_29 : decode b_Dg_load 29 = .ok (.lload_n 2, 1) := by decide +kernel
theorem d_Dg_load_30 : decode b_Dg_load 30 = .ok (.ldc2_w 19, 3) := by decide +kernel
theorem d_Dg_load_33 : decode b_Dg_load 33 = .ok (.ldiv, 1) := by decide +kernel
theorem d_Dg_load_34 : decode b_Dg_load 34 = .ok (.lstore_n 2, 1) := by decide +kernel
theorem d_Dg_load_35 : decode b_Dg_load 35 = .ok (.iinc 4 (-1), 3) := by decide +kernel
theorem d_Dg_load_38 : decode b_Dg_load 38 = .ok (.goto (-29), 3) := by decide +kernel
theorem d_Dg_load_41 : decode b_Dg_load 41 = .ok (.aload_n 1, 1) := by decide +kernel
theorem d_Dg_load_42 : decode b_Dg_load 42 = .ok (.getfield 21, 3) := by decide +kernel
theorem d_Dg_load_45 : decode b_Dg_load 45 = .ok (.lstore_n 2, 1) := by decide +kernel
theorem d_Dg_load_46 : decode b_Dg_load 46 = .ok (.bipush 18, 2) := by decide +kernel
theorem d_Dg_load_48 : decode b_Dg_load 48 = .ok (.istore 4, 2) := by decide +kernel
theorem d_Dg_load_50 : decode b_Dg_load 50 = .ok (.iload 4, 2) := by decide +kernel
theorem d_Dg_load_52 : decode b_Dg_load 52 = .ok (.ifCond .lt 28, 3) := by decide +kernel
theorem d_Dg_load_55 : decode b_Dg_load 55 = .ok (.aload_n 0, 1) := by decide +kernel
theorem d_Dg_load_56 : decode b_Dg_load 56 = .ok (.getfield 9, 3) := by decide +kernel
theorem d_Dg_load_59 : decode b_Dg_load 59 = .ok (.iload 4, 2) := by decide +kernel
theorem d_Dg_load_61 : decode b_Dg_load 61 = .ok (.lload_n 2, 1) := by decide +kernel
theorem d_Dg_load_62 : decode b_Dg_load 62 = .ok (.ldc2_w 19, 3) := by decide +kernel
theorem d_Dg_load_65 : decode b_Dg_load 65 = .ok (.lrem, 1) := by decide +kernel
theorem d_Dg_load_66 : decode b_Dg_load 66 = .ok (.l2i, 1) := by decide +kernel
theorem d_Dg_load_67 : decode b_Dg_load 67 = .ok (.iastore, 1) := by decide +kernel
theorem d_Dg_load_68 : decode b_Dg_load 68 = .ok (.lload_n 2, 1) := by decide +kernel
theorem d_Dg_load_69 : decode b_Dg_load 69 = .ok (.ldc2_w 19, 3) := by decide +kernel
theorem d_Dg_load_72 : decode b_Dg_load 72 = .ok (.ldiv, 1) := by decide +kernel
theorem d_Dg_load_73 : decode b_Dg_load 73 = .ok (.lstore_n 2, 1) := by decide +kernel
theorem d_Dg_load_74 : decode b_Dg_load 74 = .ok (.iinc 4 (-1), 3) := by decide +kernel
theorem d_Dg_load_77 : decode b_Dg_load 77 = .ok (.goto (-27), 3) := by decide +kernel
theorem d_Dg_load_80 : decode b_Dg_load 80 = .ok (.return_, 1) := by decide +kernel
theorem d_Dg_round_0 : decode b_Dg_round 0 = .ok (.iload_n 1, 1) := by decide +kernel
theorem d_Dg_round_1 : decode b_Dg_round 1 = .ok (.iconst 1, 1) := by decide +kernel
theorem d_Dg_round_2 : decode b_Dg_round 2 = .ok (.if_icmp .lt 9, 3) := by decide +kernel
theorem d_Dg_round_5 : decode b_Dg_round 5 = .ok (.iload_n 1, 1) := by decide +kernel
theorem d_Dg_round_6 : decode b_Dg_round 6 = .ok (.bipush 31, 2) := by decide +kernel
theorem d_Dg_round_8 : decode b_Dg_round 8 = .ok (.if_icmp .lt 4, 3) := by decide +kernel
theorem d_Dg_round_11 : decode b_Dg_round 11 = .ok (.return_, 1) := by decide +kernel
theorem d_Dg_round_12 : decode b_Dg_round 12 = .ok (.aload_n 0, 1) := by decide +kernel
theorem d_Dg_round_13 : decode b_Dg_round 13 = .ok (.iload_n 1, 1) := by decide +kernel
theorem d_Dg_round_14 : decode b_Dg_round 14 = .ok (.invokevirtual 28, 3) := by decide +kernel
theorem d_Dg_round_17 : decode b_Dg_round 17 = .ok (.istore_n 2, 1) := by decide +kernel
theorem d_Dg_round_18 : decode b_Dg_round 18 = .ok (.iload_n 1, 1) := by decide +kernel
theorem d_Dg_round_19 : decode b_Dg_round 19 = .ok (.istore_n 3, 1) := by decide +kernel
theorem d_Dg_round_20 : decode b_Dg_round 20 = .ok (.iload_n 3, 1) := by decide +kernel
theorem d_Dg_round_21 : decode b_Dg_round 21 = .ok (.bipush 31, 2) := by decide +kernel
theorem d_Dg_round_23 : decode b_Dg_round 23 = .ok (.if_icmp .ge 16, 3) := by decide +kernel
theorem d_Dg_round_26 : decode b_Dg_round 26 = .ok (.aload_n 0, 1) := by decide +kernel
theorem d_Dg_round_27 : decode b_Dg_round 27 = .ok (.getfield 9, 3) := by decide +kernel
theorem d_Dg_round_30 : decode b_Dg_round 30 = .ok (.iload_n 3, 1) := by decide +kernel
theorem d_Dg_round_31 : decode b_Dg_round 31 = .ok (.iconst 0, 1) := by decide +kernel
theorem d_Dg_round_32 : decode b_Dg_round 32 = .ok (.iastore, 1) := by decide +kernel
theorem d_Dg_round_33 : decode b_Dg_round 33 = .ok (.iinc 3 1, 3) := by decide +kernel
theorem d_Dg_round_36 : decode b_Dg_round 36 = .ok (.goto (-16), 3) := by decide +kernel
theorem d_Dg_round_39 : decode b_Dg_round 39 = .ok (.iload_n 1, 1) := by decide +kernel
theorem d_Dg_round_40 : decode b_Dg_round 40 = .ok (.iconst 1, 1) := by decide +kernel
theorem d_Dg_round_41 : decode b_Dg_round 41 = .ok (.isub, 1) := by decide +kernel
theorem d_Dg_round_42 : decode b_Dg_round 42 = .ok (.istore_n 3, 1) := by decide +kernel
theorem d_Dg_round_43 : decode b_Dg_round 43 = .ok (.iload_n 3, 1) := by decide +kernel
theorem d_Dg_round_44 : decode b_Dg_round 44 = .ok (.ifCond .lt 52, 3) := by decide +kernel
theorem d_Dg_round_47 : decode b_Dg_round 47 = .ok (.iload_n 2, 1) := by decide +kernel
theorem d_Dg_round_48 : decode b_Dg_round 48 = .ok (.ifCond .eq 48, 3) := by decide +kernel
theorem d_Dg_round_51 : decode b_Dg_round 51 = .ok (.aload_n 0, 1) := by decide +kernel
theorem d_Dg_round_52 : decode b_Dg_round 52 = .ok (.getfield 9, 3) := by decide +kernel
theorem d_Dg_round_55 : decode b_Dg_round 55 = .ok (.iload_n 3, 1) := by decide +kernel
theorem d_Dg_round_56 : decode b_Dg_round 56 = .ok (.iaload, 1) := by decide +kernel
theorem d_Dg_round_57 : decode b_Dg_round 57 = .ok (.bipush 9, 2) := by decide +kernel
theorem d_Dg_round_59 : decode b_Dg_round 59 = .ok (.if_icmp .ne 7, 3) := by decide +kernel
theorem d_Dg_round_62 : decode b_Dg_round 62 = .ok (.iconst 1, 1) := by decide +kernel
theorem d_Dg_round_63 : decode b_Dg_round 63 = .ok (.goto 4, 3) := by decide +kernel
theorem d_Dg_round_66 : decode b_Dg_round 66 = .ok (.iconst 0, 1) := by decide +kernel
theorem d_Dg_round_67 : decode b_Dg_round 67 = .ok (.istore_n 2, 1) := by decide +kernel
theorem d_Dg_round_68 : decode b_Dg_round 68 = .ok (.aload_n 0, 1) := by decide +kernel
theorem d_Dg_round_69 : decode b_Dg_round 69 = .ok (.getfield 9, 3) := by decide +kernel
theorem d_Dg_round_72 : decode b_Dg_round 72 = .ok (.iload_n 3, 1) := by decide +kernel
theorem d_Dg_round_73 : decode b_Dg_round 73 = .ok (.iload_n 2, 1) := by decide +kernel
theorem d_Dg_round_74 : decode b_Dg_round 74 = .ok (.ifCond .eq 7, 3) := by decide +kernel
theorem d_Dg_round_77 : decode b_Dg_round 77 = .ok (.iconst 0, 1) := by decide +kernel
theorem d_Dg_round_78 : decode b_Dg_round 78 = .ok (.goto 11, 3) := by decide +kernel
theorem d_Dg_round_81 : decode b_Dg_round 81 = .ok (.aload_n 0, 1) := by decide +kernel
theorem d_Dg_round_82 : decode b_Dg_round 82 = .ok (.getfield 9, 3) := by decide +kernel
theorem d_Dg_round_85 : decode b_Dg_round 85 = .ok (.iload_n 3, 1) := by decide +kernel
theorem d_Dg_round_86 : decode b_Dg_round 86 = .ok (.iaload, 1) := by decide +kernel
theorem d_Dg_round_87 : decode b_Dg_round 87 = .ok (.iconst 1, 1) := by decide +kernel
theorem d_Dg_round_88 : decode b_Dg_round 88 = .ok (.iadd, 1) := by decide +kernel
theorem d_Dg_round_89 : decode b_Dg_round 89 = .ok (.iastore, 1) := by decide +kernel
theorem d_Dg_round_90 : decode b_Dg_round 90 = .ok (.iinc 3 (-1), 3) := by decide +kernel
theorem d_Dg_round_93 : decode b_Dg_round 93 = .ok (.goto (-50), 3) := by decide +kernel
theorem d_Dg_round_96 : decode b_Dg_round 96 = .ok (.return_, 1) := by decide +kernel
theorem d_Dg_goesUp_0 : decode b_Dg_goesUp 0 = .ok (.aload_n 0, 1) := by decide +kernel
theorem d_Dg_goesUp_1 : decode b_Dg_goesUp 1 = .ok (.getfield 9, 3) := by decide +kernel
theorem d_Dg_goesUp_4 : decode b_Dg_goesUp 4 = .ok (.iload_n 1, 1) := by decide +kernel
theorem d_Dg_goesUp_5 : decode b_Dg_goesUp 5 = .ok (.iaload, 1) := by decide +kernel
theorem d_Dg_goesUp_6 : decode b_Dg_goesUp 6 = .ok (.iconst 5, 1) := by decide +kernel
theorem d_Dg_goesUp_7 : decode b_Dg_goesUp 7 = .ok (.if_icmp .eq 19, 3) := by decide +kernel
theorem d_Dg_goesUp_10 : decode b_Dg_goesUp 10 = .ok (.aload_n 0, 1) := by decide +kernel
theorem d_Dg_goesUp_11 : decode b_Dg_goesUp 11 = .ok (.getfield 9, 3) := by decide +kernel
theorem d_Dg_goesUp_14 : decode b_Dg_goesUp 14 = .ok (.iload_n 1, 1) := by decide +kernel
theorem d_Dg_goesUp_15 : decode b_Dg_goesUp 15 = .ok (.iaload, 1) := by decide +kernel
theorem d_Dg_goesUp_16 : decode b_Dg_goesUp 16 = .ok (.iconst 5, 1) := by decide +kernel
theorem d_Dg_goesUp_17 : decode b_Dg_goesUp 17 = .ok (.if_icmp .le 7, 3) := by decide +kernel
theorem d_Dg_goesUp_20 : decode b_Dg_goesUp 20 = .ok (.iconst 1, 1) := by decide +kernel
theorem d_Dg_goesUp_21 : decode b_Dg_goesUp 21 = .ok (.goto 4, 3) := by decide +kernel
theorem d_Dg_goesUp_24 : decode b_Dg_goesUp 24 = .ok (.iconst 0, 1) := by decide +kernel
theorem d_Dg_goesUp_25 : decode b_Dg_goesUp 25 = .ok (.ireturn, 1) := by decide +kernel
theorem d_Dg_goesUp_26 : decode b_Dg_goesUp 26 = .ok (.iload_n 1, 1) := by decide +kernel
theorem d_Dg_goesUp_27 : decode b_Dg_goesUp 27 = .ok (.iconst 1, 1) := by decide +kernel
theorem d_Dg_goesUp_28 : decode b_Dg_goesUp 28 = .ok (.iadd, 1) := by decide +kernel
theorem d_Dg_goesUp_29 : decode b_Dg_goesUp 29 = .ok (.istore_n 2, 1) := by decide +kernel
theorem d_Dg_goesUp_30 : decode b_Dg_goesUp 30 = .ok (.iload_n 2, 1) := by decide +kernel
theorem d_Dg_goesUp_31 : decode b_Dg_goesUp 31 = .ok (.bipush 31, 2) := by decide +kernel
theorem d_Dg_goesUp_33 : decode b_Dg_goesUp 33 = .ok (.if_icmp .ge 20, 3) := by decide +kernel
theorem d_Dg_goesUp_36 : decode b_Dg_goesUp 36 = .ok (.aload_n 0, 1) := by decide +kernel
theorem d_Dg_goesUp_37 : decode b_Dg_goesUp 37 = .ok (.getfield 9, 3) := by decide +kernel
theorem d_Dg_goesUp_40 : decode b_Dg_goesUp 40 = .ok (.iload_n 2, 1) := by decide +kernel
theorem d_Dg_goesUp_41 : decode b_Dg_goesUp 41 = .ok (.iaload, 1) := by decide +kernel
theorem d_Dg_goesUp_42 : decode b_Dg_goesUp 42 = .ok (.ifCond .eq 5, 3) := by decide +kernel
theorem d_Dg_goesUp_45 : decode b_Dg_goesUp 45 = .ok (.iconst 1, 1) := by decide +kernel
theorem d_Dg_goesUp_46 : decode b_Dg_goesUp 46 = .ok (.ireturn, 1) := by decide +kernel
theorem d_Dg_goesUp_47 : decode b_Dg_goesUp 47 = .ok (.iinc 2 1, 3) := by decide +kernel
theorem d_Dg_goesUp_50 : decode b_Dg_goesUp 50 = .ok (.goto (-20), 3) := by decide +kernel
theorem d_Dg_goesUp_53 : decode b_Dg_goesUp 53 = .ok (.aload_n 0, 1) := by decide +kernel
theorem d_Dg_goesUp_54 : decode b_Dg_goesUp 54 = .ok (.getfield 9, 3) := by decide +kernel
theorem d_Dg_goesUp_57 : decode b_Dg_goesUp 57 = .ok (.iload_n 1, 1) := by decide +kernel
theorem d_Dg_goesUp_58 : decode b_Dg_goesUp 58 = .ok (.iconst 1, 1) := by decide +kernel
theorem d_Dg_goesUp_59 : decode b_Dg_goesUp 59 = .ok (.isub, 1) := by decide +kernel
theorem d_Dg_goesUp_60 : decode b_Dg_goesUp 60 = .ok (.iaload, 1) := by decide +kernel
theorem d_Dg_goesUp_61 : decode b_Dg_goesUp 61 = .ok (.iconst 2, 1) := by decide +kernel
theorem d_Dg_goesUp_62 : decode b_Dg_goesUp 62 = .ok (.irem, 1) := by decide +kernel
theorem d_Dg_goesUp_63 : decode b_Dg_goesUp 63 = .ok (.iconst 1, 1) := by decide +kernel
theorem d_Dg_goesUp_64 : decode b_Dg_goesUp 64 = .ok (.if_icmp .ne 7, 3) := by decide +kernel
theorem d_Dg_goesUp_67 : decode b_Dg_goesUp 67 = .ok (.iconst 1, 1) := by decide +kernel
theorem d_Dg_goesUp_68 : decode b_Dg_goesUp 68 = .ok (.goto 4, 3) := by decide +kernel
theorem d_Dg_goesUp_71 : decode b_Dg_goesUp 71 = .ok (.iconst 0, 1) := by decide +kernel
theorem d_Dg_goesUp_72 : decode b_Dg_goesUp 72 = .ok (.ireturn, 1) := by decide +kernel
theorem d_Dg_put_0 : decode b_Dg_put 0 = .ok (.aload_n 0, 1) := by decide +kernel
theorem d_Dg_put_1 : decode b_Dg_put 1 = .ok (.invokevirtual 24, 3) := by decide +kernel
theorem d_Dg_put_4 : decode b_Dg_put 4 = .ok (.iload_n 2, 1) := by decide +kernel
theorem d_Dg_put_5 : decode b_Dg_put 5 = .ok (.iconst 1, 1) := by decide +kernel
theorem d_Dg_put_6 : decode b_Dg_put 6 = .ok (.isub, 1) := by decide +kernel
theorem d_Dg_put_7 : decode b_Dg_put 7 = .ok (.invokestatic 32, 3) := by decide +kernel
theorem d_Dg_put_10 : decode b_Dg_put 10 = .ok (.istore 5, 2) := by decide +kernel
theorem d_Dg_put_12 : decode b_Dg_put 12 = .ok (.iload 5, 2) := by decide +kernel
theorem d_Dg_put_14 : decode b_Dg_put 14 = .ok (.iload_n 2, 1) := by decide +kernel
theorem d_Dg_put_15 : decode b_Dg_put 15 = .ok (.if_icmp .ge 19, 3) := by decide +kernel
theorem d_Dg_put_18 : decode b_Dg_put 18 = .ok (.aload_n 1, 1) := by decide +kernel
theorem d_Dg_put_19 : decode b_Dg_put 19 = .ok (.aload_n 0, 1) := by decide +kernel
theorem d_Dg_put_20 : decode b_Dg_put 20 = .ok (.iload 5, 2) := by decide +kernel
theorem d_Dg_put_22 : decode b_Dg_put 22 = .ok (.invokevirtual 38, 3) := by decide +kernel
theorem d_Dg_put_25 : decode b_Dg_put 25 = .ok (.invokevirtual 42, 3) := by decide +kernel
theorem d_Dg_put_28 : decode b_Dg_put 28 = .ok (.iinc 5 1, 3) := by decide +kernel
theorem d_Dg_put_31 : decode b_Dg_put 31 = .ok (.goto (-19), 3) := by decide +kernel
theorem d_Dg_put_34 : decode b_Dg_put 34 = .ok (.iload_n 3, 1) := by decide +kernel
theorem d_Dg_put_35 : decode b_Dg_put 35 = .ok (.ifCond .gt 8, 3) := by decide +kernel
theorem d_Dg_put_38 : decode b_Dg_put 38 = .ok (.iload 4, 2) := by decide +kernel
theorem d_Dg_put_40 : decode b_Dg_put 40 = .ok (.ifCond .eq 9, 3) := by decide +kernel
theorem d_Dg_put_43 : decode b_Dg_put 43 = .ok (.aload_n 1, 1) := by decide +kernel
theorem d_Dg_put_44 : decode b_Dg_put 44 = .ok (.bipush 46, 2) := by decide +kernel
theorem d_Dg_put_46 : decode b_Dg_put 46 = .ok (.invokevirtual 42, 3) := by decide +kernel
theorem d_Dg_put_49 : decode b_Dg_put 49 = .ok (.iconst 0, 1) := by decide +kernel
theorem d_Dg_put_50 : decode b_Dg_put 50 = .ok (.istore 5, 2) := by decide +kernel
theorem d_Dg_put_52 : decode b_Dg_put 52 = .ok (.iload 5, 2) := by decide +kernel
theorem d_Dg_put_54 : decode b_Dg_put 54 = .ok (.iload_n 3, 1) := by decide +kernel
theorem d_Dg_put_55 : decode b_Dg_put 55 = .ok (.if_icmp .ge 21, 3) := by decide +kernel
theorem d_Dg_put_58 : decode b_Dg_put 58 = .ok (.aload_n 1, 1) := by decide +kernel
theorem d_Dg_put_59 : decode b_Dg_put 59 = .ok (.aload_n 0, 1) := by decide +kernel
theorem d_Dg_put_60 : decode b_Dg_put 60 = .ok (.iload_n 2, 1) := by decide +kernel
theorem d_Dg_put_61 : decode b_Dg_put 61 = .ok (.iload 5, 2) := by decide +kernel
theorem d_Dg_put_63 : decode b_Dg_put 63 = .ok (.iadd, 1) := by decide +kernel
theorem d_Dg_put_64 : decode b_Dg_put 64 = .ok (.invokevirtual 38, 3) := by decide +kernel
theorem d_Dg_put_67 : decode b_Dg_put 67 = .ok (.invokevirtual 42, 3) := by decide +kernel
theorem d_Dg_put_70 : decode b_Dg_put 70 = .ok (.iinc 5 1, 3) := by decide +kernel
theorem d_Dg_put_73 : decode b_Dg_put 73 = .ok (.goto (-21), 3) := by decide +kernel
theorem d_Dg_put_76 : decode b_Dg_put 76 = .ok (.return_, 1) := by decide +kernel
theorem d_Dg_first_0 : decode b_Dg_first 0 = .ok (.iconst 0, 1) := by decide +kernel
theorem d_Dg_first_1 : decode b_Dg_first 1 = .ok (.istore_n 1, 1) := by decide +kernel
theorem d_Dg_first_2 : decode b_Dg_first 2 = .ok (.iload_n 1, 1) := by decide +kernel
theorem d_Dg_first_3 : decode b_Dg_first 3 = .ok (.bipush 31, 2) := by decide +kernel
theorem d_Dg_first_5 : decode b_Dg_first 5 = .ok (.if_icmp .ge 20, 3) := by decide +kernel
theorem d_Dg_first_8 : decode b_Dg_first 8 = .ok (.aload_n 0, 1) := by decide +kernel
theorem d_Dg_first_9 : decode b_Dg_first 9 = .ok (.getfield 9, 3) := by decide +kernel
theorem d_Dg_first_12 : decode b_Dg_first 12 = .ok (.iload_n 1, 1) := by decide +kernel
theorem d_Dg_first_13 : decode b_Dg_first 13 = .ok (.iaload, 1) := by decide +kernel
theorem d_Dg_first_14 : decode b_Dg_first 14 = .ok (.ifCond .eq 5, 3) := by decide +kernel
theorem d_Dg_first_17 : decode b_Dg_first 17 = .ok (.iload_n 1, 1) := by decide +kernel
theorem d_Dg_first_18 : decode b_Dg_first 18 = .ok (.ireturn, 1) := by decide +kernel
theorem d_Dg_first_19 : decode b_Dg_first 19 = .ok (.iinc 1 1, 3) := by decide +kernel
theorem d_Dg_first_22 : decode b_Dg_first 22 = .ok (.goto (-20), 3) := by decide +kernel
theorem d_Dg_first_25 : decode b_Dg_first 25 = .ok (.bipush 18, 2) := by decide +kernel
theorem d_Dg_first_27 : decode b_Dg_first 27 = .ok (.ireturn, 1) := by decide +kernel
theorem d_Dg_digitAt_0 : decode b_Dg_digitAt 0 = .ok (.iload_n 1, 1) := by decide +kernel
theorem d_Dg_digitAt_1 : decode b_Dg_digitAt 1 = .ok (.ifCond .lt 21, 3) := by decide +kernel
theorem d_Dg_digitAt_4 : decode b_Dg_digitAt 4 = .ok (.iload_n 1, 1) := by decide +kernel
theorem d_Dg_digitAt_5 : decode b_Dg_digitAt 5 = .ok (.bipush 31, 2) := by decide +kernel
theorem d_Dg_digitAt_7 : decode b_Dg_digitAt 7 = .ok (.if_icmp .ge 15, 3) := by decide +kernel
theorem d_Dg_digitAt_10 : decode b_Dg_digitAt 10 = .ok (.bipush 48, 2) := by decide +kernel
theorem d_Dg_digitAt_12 : decode b_Dg_digitAt 12 = .ok (.aload_n 0, 1) := by decide +kernel
theorem d_Dg_digitAt_13 : decode b_Dg_digitAt 13 = .ok (.getfield 9, 3) := by decide +kernel
theorem d_Dg_digitAt_16 : decode b_Dg_digitAt 16 = .ok (.iload_n 1, 1) := by decide +kernel
theorem d_Dg_digitAt_17 : decode b_Dg_digitAt 17 = .ok (.iaload, 1) := by decide +kernel
theorem d_Dg_digitAt_18 : decode b_Dg_digitAt 18 = .ok (.iadd, 1) := by decide +kernel
theorem d_Dg_digitAt_19 : decode b_Dg_digitAt 19 = .ok (.goto 5, 3) := by decide +kernel
theorem d_Dg_digitAt_22 : decode b_Dg_digitAt 22 = .ok (.bipush 48, 2) := by decide +kernel
theorem d_Dg_digitAt_24 : decode b_Dg_digitAt 24 = .ok (.ireturn, 1) := by decide +kernel
theorem d_Dg_exponent_0 : decode b_Dg_exponent 0 = .ok (.bipush 18, 2) := by decide +kernel
theorem d_Dg_exponent_2 : decode b_Dg_exponent 2 = .ok (.aload_n 0, 1) := by decide +kernel
theorem d_Dg_exponent_3 : decode b_Dg_exponent 3 = .ok (.invokevirtual 24, 3) := by decide +kernel
theorem d_Dg_exponent_6 : decode b_Dg_exponent 6 = .ok (.isub, 1) := by decide +kernel
theorem d_Dg_exponent_7 : decode b_Dg_exponent 7 = .ok (.ireturn, 1) := by decide +kernel
