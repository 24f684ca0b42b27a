theorem d_Mo_thrown_0 : decode b_Mo_thrown 0 = .ok (.aload_n 0, 1) := by decide +kernel
theorem d_Mo_thrown_1 : decode b_Mo_thrown 1 = .ok (.getfield 56, 3) := by decide +kernel
theorem d_Mo_thrown_4 : decode b_Mo_thrown 4 = .ok (.ireturn, 1) := by decide +kernel
theorem d_Mo_type_0 : decode b_Mo_type 0 = .ok (.aload_n 0, 1) := by decide +kernel
theorem d_Mo_type_1 : decode b_Mo_type 1 = .ok (.iconst 0, 1) := by decide +kernel
theorem d_Mo_type_2 : decode b_Mo_type 2 = .ok (.putfield 56, 3) := by decide +kernel
theorem d_Mo_type_5 : decode b_Mo_type 5 = .ok (.iload_n 3, 1) := by decide +kernel
theorem d_Mo_type_6 : decode b_Mo_type 6 = .ok (.iconst 1, 1) := by decide +kernel
theorem d_Mo_type_7 : decode b_Mo_type 7 = .ok (.if_icmp .lt 21, 3) := by decide +kernel
theorem d_Mo_type_10 : decode b_Mo_type 10 = .ok (.iload_n 3, 1) := by decide +kernel
theorem d_Mo_type_11 : decode b_Mo_type 11 = .ok (.bipush 8, 2) := by decide +kernel
theorem d_Mo_type_13 : decode b_Mo_type 13 = .ok (.if_icmp .gt 15, 3) := by decide +kernel
theorem d_Mo_type_16 : decode b_Mo_type 16 = .ok (.aload_n 0, 1) := by decide +kernel
theorem d_Mo_type_17 : decode b_Mo_type 17 = .ok (.getfield 60, 3) := by decide +kernel
theorem d_Mo_type_20 : decode b_Mo_type 20 = .ok (.iload_n 3, 1) := by decide +kernel
theorem d_Mo_type_21 : decode b_Mo_type 21 = .ok (.iadd, 1) := by decide +kernel
theorem d_Mo_type_22 : decode b_Mo_type 22 = .ok (.sipush 200, 3) := by decide +kernel
theorem d_Mo_type_25 : decode b_Mo_type 25 = .ok (.if_icmp .le 5, 3) := by decide +kernel
theorem d_Mo_type_28 : decode b_Mo_type 28 = .ok (.iconst 0, 1) := by decide +kernel
theorem d_Mo_type_29 : decode b_Mo_type 29 = .ok (.ireturn, 1) := by decide +kernel
theorem d_Mo_type_30 : decode b_Mo_type 30 = .ok (.iconst 0, 1) := by decide +kernel
theorem d_Mo_type_31 : decode b_Mo_type 31 = .ok (.istore 4, 2) := by decide +kernel
theorem d_Mo_type_33 : decode b_Mo_type 33 = .ok (.iload 4, 2) := by decide +kernel
theorem d_Mo_type_35 : decode b_Mo_type 35 = .ok (.iload_n 3, 1) := by decide +kernel
theorem d_Mo_type_36 : decode b_Mo_type 36 = .ok (.if_icmp .ge 39, 3) := by decide +kernel
theorem d_Mo_type_39 : decode b_Mo_type 39 = .ok (.lload_n 1, 1) := by decide +kernel
theorem d_Mo_type_40 : decode b_Mo_type 40 = .ok (.bipush 8, 2) := by decide +kernel
theorem d_Mo_type_42 : decode b_Mo_type 42 = .ok (.iload 4, 2) := by decide +kernel
theorem d_Mo_type_44 : decode b_Mo_type 44 = .ok (.imul, 1) := by decide +kernel
theorem d_Mo_type_45 : decode b_Mo_type 45 = .ok (.lshr, 1) := by decide +kernel
theorem d_Mo_type_46 : decode b_Mo_type 46 = .ok (.ldc2_w 63, 3) := by decide +kernel
theorem d_Mo_type_49 : decode b_Mo_type 49 = .ok (.land, 1) := by decide +kernel
theorem d_Mo_type_50 : decode b_Mo_type 50 = .ok (.l2i, 1) := by decide +kernel
theorem d_Mo_type_51 : decode b_Mo_type 51 = .ok (.istore 5, 2) := by decide +kernel
theorem d_Mo_type_53 : decode b_Mo_type 53 = .ok (.iload 5, 2) := by decide +kernel
theorem d_Mo_type_55 : decode b_Mo_type 55 = .ok (.bipush 32, 2) := by decide +kernel
theorem d_Mo_type_57 : decode b_Mo_type 57 = .ok (.if_icmp .lt 10, 3) := by decide +kernel
theorem d_Mo_type_60 : decode b_Mo_type 60 = .ok (.iload 5, 2) := by decide +kernel
theorem d_Mo_type_62 : decode b_Mo_type 62 = .ok (.bipush 126, 2) := by decide +kernel
theorem d_Mo_type_64 : decode b_Mo_type 64 = .ok (.if_icmp .le 5, 3) := by decide +kernel
theorem d_Mo_type_67 : decode b_Mo_type 67 = .ok (.iconst 0, 1) := by decide +kernel
theorem d_Mo_type_68 : decode b_Mo_type 68 = .ok (.ireturn, 1) := by decide +kernel
theorem d_Mo_type_69 : decode b_Mo_type 69 = .ok (.iinc 4 1, 3) := by decide +kernel
theorem d_Mo_type_72 : decode b_Mo_type 72 = .ok (.goto (-39), 3) := by decide +kernel
theorem d_Mo_type_75 : decode b_Mo_type 75 = .ok (.iload_n 3, 1) := by decide +kernel
theorem d_Mo_type_76 : decode b_Mo_type 76 = .ok (.iconst 1, 1) := by decide +kernel
theorem d_Mo_type_77 : decode b_Mo_type 77 = .ok (.isub, 1) := by decide +kernel
theorem d_Mo_type_78 : decode b_Mo_type 78 = .ok (.istore 4, 2) := by decide +kernel
theorem d_Mo_type_80 : decode b_Mo_type 80 = .ok (.iload 4, 2) := by decide +kernel
theorem d_Mo_type_82 : decode b_Mo_type 82 = .ok (.ifCond .lt 40, 3) := by decide +kernel
theorem d_Mo_type_85 : decode b_Mo_type 85 = .ok (.aload_n 0, 1) := by decide +kernel
theorem d_Mo_type_86 : decode b_Mo_type 86 = .ok (.getfield 7, 3) := by decide +kernel
theorem d_Mo_type_89 : decode b_Mo_type 89 = .ok (.aload_n 0, 1) := by decide +kernel
theorem d_Mo_type_90 : decode b_Mo_type 90 = .ok (.getfield 60, 3) := by decide +kernel
theorem d_Mo_type_93 : decode b_Mo_type 93 = .ok (.lload_n 1, 1) := by decide +kernel
theorem d_Mo_type_94 : decode b_Mo_type 94 = .ok (.bipush 8, 2) := by decide +kernel
theorem d_Mo_type_96 : decode b_Mo_type 96 = .ok (.iload 4, 2) := by decide +kernel
theorem d_Mo_type_98 : decode b_Mo_type 98 = .ok (.imul, 1) := by decide +kernel
theorem d_Mo_type_99 : decode b_Mo_type 99 = .ok (.lshr, 1) := by decide +kernel
theorem d_Mo_type_100 : decode b_Mo_type 100 = .ok (.ldc2_w 63, 3) := by decide +kernel
theorem d_Mo_type_103 : decode b_Mo_type 103 = .ok (.land, 1) := by decide +kernel
theorem d_Mo_type_104 : decode b_Mo_type 104 = .ok (.l2i, 1) := by decide +kernel
theorem d_Mo_type_105 : decode b_Mo_type 105 = .ok (.iastore, 1) := by decide +kernel
theorem d_Mo_type_106 : decode b_Mo_type 106 = .ok (.aload_n 0, 1) := by decide +kernel
theorem d_Mo_type_107 : decode b_Mo_type 107 = .ok (.dup, 1) := by decide +kernel
theorem d_Mo_type_108 : decode b_Mo_type 108 = .ok (.getfield 60, 3) := by decide +kernel
theorem d_Mo_type_111 : decode b_Mo_type 111 = .ok (.iconst 1, 1) := by decide +kernel
theorem d_Mo_type_112 : decode b_Mo_type 112 = .ok (.iadd, 1) := by decide +kernel
theorem d_Mo_type_113 : decode b_Mo_type 113 = .ok (.putfield 60, 3) := by decide +kernel
theorem d_Mo_type_116 : decode b_Mo_type 116 = .ok (.iinc 4 (-1), 3) := by decide +kernel
theorem d_Mo_type_119 : decode b_Mo_type 119 = .ok (.goto (-39), 3) := by decide +kernel
theorem d_Mo_type_122 : decode b_Mo_type 122 = .ok (.iconst 1, 1) := by decide +kernel
theorem d_Mo_type_123 : decode b_Mo_type 123 = .ok (.ireturn, 1) := by decide +kernel
theorem d_Mo_text_0 : decode b_Mo_text 0 = .ok (.aload_n 0, 1) := by decide +kernel
theorem d_Mo_text_1 : decode b_Mo_text 1 = .ok (.iconst 0, 1) := by decide +kernel
theorem d_Mo_text_2 : decode b_Mo_text 2 = .ok (.putfield 56, 3) := by decide +kernel
theorem d_Mo_text_5 : decode b_Mo_text 5 = .ok (.aload_n 0, 1) := by decide +kernel
theorem d_Mo_text_6 : decode b_Mo_text 6 = .ok (.getfield 60, 3) := by decide +kernel
theorem d_Mo_text_9 : decode b_Mo_text 9 = .ok (.bipush 60, 2) := by decide +kernel
theorem d_Mo_text_11 : decode b_Mo_text 11 = .ok (.if_icmp .gt 12, 3) := by decide +kernel
theorem d_Mo_text_14 : decode b_Mo_text 14 = .ok (.aload_n 0, 1) := by decide +kernel
theorem d_Mo_text_15 : decode b_Mo_text 15 = .ok (.getfield 65, 3) := by decide +kernel
theorem d_Mo_text_18 : decode b_Mo_text 18 = .ok (.bipush 12, 2) := by decide +kernel
theorem d_Mo_text_20 : decode b_Mo_text 20 = .ok (.if_icmp .ne 5, 3) := by decide +kernel
theorem d_Mo_text_23 : decode b_Mo_text 23 = .ok (.iconst (-1), 1) := by decide +kernel
theorem d_Mo_text_24 : decode b_Mo_text 24 = .ok (.ireturn, 1) := by decide +kernel
theorem d_Mo_text_25 : decode b_Mo_text 25 = .ok (.aload_n 0, 1) := by decide +kernel
theorem d_Mo_text_26 : decode b_Mo_text 26 = .ok (.getfield 13, 3) := by decide +kernel
theorem d_Mo_text_29 : decode b_Mo_text 29 = .ok (.aload_n 0, 1) := by decide +kernel
theorem d_Mo_text_30 : decode b_Mo_text 30 = .ok (.getfield 65, 3) := by decide +kernel
theorem d_Mo_text_33 : decode b_Mo_text 33 = .ok (.iconst 1, 1) := by decide +kernel
theorem d_Mo_text_34 : decode b_Mo_text 34 = .ok (.bastore, 1) := by decide +kernel
theorem d_Mo_text_35 : decode b_Mo_text 35 = .ok (.aload_n 0, 1) := by decide +kernel
theorem d_Mo_text_36 : decode b_Mo_text 36 = .ok (.getfield 17, 3) := by decide +kernel
theorem d_Mo_text_39 : decode b_Mo_text 39 = .ok (.aload_n 0, 1) := by decide +kernel
theorem d_Mo_text_40 : decode b_Mo_text 40 = .ok (.getfield 65, 3) := by decide +kernel
theorem d_Mo_text_43 : decode b_Mo_text 43 = .ok (.aload_n 0, 1) := by decide +kernel
theorem d_Mo_text_44 : decode b_Mo_text 44 = .ok (.getfield 60, 3) := by decide +kernel
theorem d_Mo_text_47 : decode b_Mo_text 47 = .ok (.iastore, 1) := by decide +kernel
theorem d_Mo_text_48 : decode b_Mo_text 48 = .ok (.iconst 0, 1) := by decide +kernel
theorem d_Mo_text_49 : decode b_Mo_text 49 = .ok (.istore_n 1, 1) := by decide +kernel
theorem d_Mo_text_50 : decode b_Mo_text 50 = .ok (.iload_n 1, 1) := by decide +kernel
theorem d_Mo_text_51 : decode b_Mo_text 51 = .ok (.aload_n 0, 1) := by decide +kernel
theorem d_Mo_text_52 : decode b_Mo_text 52 = .ok (.getfield 60, 3) := by decide +kernel
theorem d_Mo_text_55 : decode b_Mo_text 55 = .ok (.if_icmp .ge 29, 3) := by decide +kernel
theorem d_Mo_text_58 : decode b_Mo_text 58 = .ok (.aload_n 0, 1) := by decide +kernel
theorem d_Mo_text_59 : decode b_Mo_text 59 = .ok (.getfield 20, 3) := by decide +kernel
theorem d_Mo_text_62 : decode b_Mo_text 62 = .ok (.bipush 60, 2) := by decide +kernel
theorem d_Mo_text_64 : decode b_Mo_text 64 = .ok (.aload_n 0, 1) := by decide +kernel
theorem d_Mo_text_65 : decode b_Mo_text 65 = .ok (.getfield 65, 3) := by decide +kernel
theorem d_Mo_text_68 : decode b_Mo_text 68 = .ok (.imul, 1) := by decide +kernel
theorem d_Mo_text_69 : decode b_Mo_text 69 = .ok (.iload_n 1, 1) := by decide +kernel
theorem d_Mo_text_70 : decode b_Mo_text 70 = .ok (.iadd, 1) := by decide +kernel
theorem d_Mo_text_71 : decode b_Mo_text 71 = .ok (.aload_n 0, 1) := by decide +kernel
theorem d_Mo_text_72 : decode b_Mo_text 72 = .ok (.getfield 7, 3) := by decide +kernel
theorem d_Mo_text_75 : decode b_Mo_text 75 = .ok (.iload_n 1, 1) := by decide +kernel
theorem d_Mo_text_76 : decode b_Mo_text 76 = .ok (.iaload, 1) := by decide +kernel
theorem d_Mo_text_77 : decode b_Mo_text 77 = .ok (.iastore, 1) := by decide +kernel
theorem d_Mo_text_78 : decode b_Mo_text 78 = .ok (.iinc 1 1, 3) := by decide +kernel
theorem d_Mo_text_81 : decode b_Mo_text 81 = .ok (.goto (-31), 3) := by decide +kernel
theorem d_Mo_text_84 : decode b_Mo_text 84 = .ok (.aload_n 0, 1) := by decide +kernel
theorem d_Mo_text_85 : decode b_Mo_text 85 = .ok (.iconst 0, 1) := by decide +kernel
theorem d_Mo_text_86 : decode b_Mo_text 86 = .ok (.putfield 60, 3) := by decide +kernel
theorem d_Mo_text_89 : decode b_Mo_text 89 = .ok (.aload_n 0, 1) := by decide +kernel
theorem d_Mo_text_90 : decode b_Mo_text 90 = .ok (.dup, 1) := by decide +kernel
theorem d_Mo_text_91 : decode b_Mo_text 91 = .ok (.getfield 65, 3) := by decide +kernel
theorem d_Mo_text_94 : decode b_Mo_text 94 = .ok (.iconst 1, 1) := by decide +kernel
theorem d_Mo_text_95 : decode b_Mo_text 95 = .ok (.iadd, 1) := by decide +kernel
theorem d_Mo_text_96 : decode b_Mo_text 96 = .ok (.putfield 65, 3) := by decide +kernel
theorem d_Mo_text_99 : decode b_Mo_text 99 = .ok (.aload_n 0, 1) := by decide +kernel
theorem d_Mo_text_100 : decode b_Mo_text 100 = .ok (.getfield 65, 3) := by decide +kernel
theorem d_Mo_text_103 : decode b_Mo_text 103 = .ok (.ireturn, 1) := by decide +kernel
theorem d_Mo_decimal_0 : decode b_Mo_decimal 0 = .ok (.aload_n 0, 1) := by decide +kernel
theorem d_Mo_decimal_1 : decode b_Mo_decimal 1 = .ok (.getfield 65, 3) := by decide +kernel
theorem d_Mo_decimal_4 : decode b_Mo_decimal 4 = .ok (.bipush 12, 2) := by decide +kernel
theorem d_Mo_decimal_6 : decode b_Mo_decimal 6 = .ok (.if_icmp .ge 7, 3) := by decide +kernel
theorem d_Mo_decimal_9 : decode b_Mo_decimal 9 = .ok (.iconst 1, 1) := by decide +kernel
theorem d_Mo_decimal_10 : decode b_Mo_decimal 10 = .ok (.goto 4, 3) := by decide +kernel
theorem d_Mo_decimal_13 : decode b_Mo_decimal 13 = .ok (.iconst 0, 1) := by decide +kernel
theorem d_Mo_decimal_14 : decode b_Mo_decimal 14 = .ok (.istore_n 1, 1) := by decide +kernel
theorem d_Mo_decimal_15 : decode b_Mo_decimal 15 = .ok (.iload_n 1, 1) := by decide +kernel
theorem d_Mo_decimal_16 : decode b_Mo_decimal 16 = .ok (.ifCond .eq 10, 3) := by decide +kernel
theorem d_Mo_decimal_19 : decode b_Mo_decimal 19 = .ok (.aload_n 0, 1) := by decide +kernel
theorem d_Mo_decimal_20 : decode b_Mo_decimal 20 = .ok (.getfield 65, 3) := by decide +kernel
theorem d_Mo_decimal_23 : decode b_Mo_decimal 23 = .ok (.goto 5, 3) := by decide +kernel
theorem d_Mo_decimal_26 : decode b_Mo_decimal 26 = .ok (.bipush 11, 2) := by decide +kernel
theorem d_Mo_decimal_28 : decode b_Mo_decimal 28 = .ok (.istore_n 2, 1) := by decide +kernel
theorem d_Mo_decimal_29 : decode b_Mo_decimal 29 = .ok (.iload_n 1, 1) := by decide +kernel
theorem d_Mo_decimal_30 : decode b_Mo_decimal 30 = .ok (.ifCond .eq 11, 3) := by decide +kernel
theorem d_Mo_decimal_33 : decode b_Mo_decimal 33 = .ok (.aload_n 0, 1) := by decide +kernel
theorem d_Mo_decimal_34 : decode b_Mo_decimal 34 = .ok (.iload_n 2, 1) := by decide +kernel
theorem d_Mo_decimal_35 : decode b_Mo_decimal 35 = .ok (.invokevirtual 72, 3) := by decide +kernel
theorem d_Mo_decimal_38 : decode b_Mo_decimal 38 = .ok (.goto 7, 3) := by decide +kernel
theorem d_Mo_decimal_41 : decode b_Mo_decimal 41 = .ok (.aload_n 0, 1) := by decide +kernel
theorem d_Mo_decimal_42 : decode b_Mo_decimal 42 = .ok (.invokevirtual 75, 3) := by decide +kernel
theorem d_Mo_decimal_45 : decode b_Mo_decimal 45 = .ok (.istore_n 3, 1) := by decide +kernel
theorem d_Mo_decimal_46 : decode b_Mo_decimal 46 = .ok (.aload_n 0, 1) := by decide +kernel
theorem d_Mo_decimal_47 : decode b_Mo_decimal 47 = .ok (.iconst 0, 1) := by decide +kernel
theorem d_Mo_decimal_48 : decode b_Mo_decimal 48 = .ok (.putfield 60, 3) := by decide +kernel
theorem d_Mo_decimal_51 : decode b_Mo_decimal 51 = .ok (.iload_n 3, 1) := by decide +kernel
theorem d_Mo_decimal_52 : decode b_Mo_decimal 52 = .ok (.ifCond .ne 9, 3) := by decide +kernel
theorem d_Mo_decimal_55 : decode b_Mo_decimal 55 = .ok (.aload_n 0, 1) := by decide +kernel
theorem d_Mo_decimal_56 : decode b_Mo_decimal 56 = .ok (.iconst 1, 1) := by decide +kernel
theorem d_Mo_decimal_57 : decode b_Mo_decimal 57 = .ok (.invokevirtual 79, 3) := by decide +kernel
theorem d_Mo_decimal_60 : decode b_Mo_decimal 60 = .ok (.ireturn, 1) := by decide +kernel
theorem d_Mo_decimal_61 : decode b_Mo_decimal 61 = .ok (.iload_n 1, 1) := by decide +kernel
theorem d_Mo_decimal_62 : decode b_Mo_decimal 62 = .ok (.ifCond .ne 9, 3) := by decide +kernel
theorem d_Mo_decimal_65 : decode b_Mo_decimal 65 = .ok (.aload_n 0, 1) := by decide +kernel
theorem d_Mo_decimal_66 : decode b_Mo_decimal 66 = .ok (.iconst 2, 1) := by decide +kernel
theorem d_Mo_decimal_67 : decode b_Mo_decimal 67 = .ok (.invokevirtual 79, 3) := by decide +kernel
theorem d_Mo_decimal_70 : decode b_Mo_decimal 70 = .ok (.ireturn, 1) := by decide +kernel
theorem d_Mo_decimal_71 : decode b_Mo_decimal 71 = .ok (.aload_n 0, 1) := by decide +kernel
theorem d_Mo_decimal_72 : decode b_Mo_decimal 72 = .ok (.iconst 0, 1) := by decide +kernel
theorem d_Mo_decimal_73 : decode b_Mo_decimal 73 = .ok (.putfield 56, 3) := by decide +kernel
theorem d_Mo_decimal_76 : decode b_Mo_decimal 76 = .ok (.aload_n 0, 1) := by decide +kernel
theorem d_Mo_decimal_77 : decode b_Mo_decimal 77 = .ok (.getfield 13, 3) := by decide +kernel
theorem d_Mo_decimal_80 : decode b_Mo_decimal 80 = .ok (.iload_n 2, 1) := by decide +kernel
theorem d_Mo_decimal_81 : decode b_Mo_decimal 81 = .ok (.iconst 0, 1) := by decide +kernel
theorem d_Mo_decimal_82 : decode b_Mo_decimal 82 = .ok (.bastore, 1) := by decide +kernel
theorem d_Mo_decimal_83 : decode b_Mo_decimal 83 = .ok (.aload_n 0, 1) := by decide +kernel
theorem d_Mo_decimal_84 : decode b_Mo_decimal 84 = .ok (.dup, 1) := by decide +kernel
theorem d_Mo_decimal_85 : decode b_Mo_decimal 85 = .ok (.getfield 65, 3) := by decide +kernel
theorem d_Mo_decimal_88 : decode b_Mo_decimal 88 = .ok (.iconst 1, 1) := by decide +kernel
theorem d_Mo_decimal_89 : decode b_Mo_decimal 89 = .ok (.iadd, 1) := by decide +kernel
theorem d_Mo_decimal_90 : decode b_Mo_decimal 90 = .ok (.putfield 65, 3) := by decide +kernel
theorem d_Mo_decimal_93 : decode b_Mo_decimal 93 = .ok (.aload_n 0, 1) := by decide +kernel
theorem d_Mo_decimal_94 : decode b_Mo_decimal 94 = .ok (.getfield 65, 3) := by decide +kernel
theorem d_Mo_decimal_97 : decode b_Mo_decimal 97 = .ok (.ireturn, 1) := by decide +kernel
theorem d_Mo_isDecimal_0 : decode b_Mo_isDecimal 0 = .ok (.iconst 0, 1) := by decide +kernel
theorem d_Mo_isDecimal_1 : decode b_Mo_isDecimal 1 = .ok (.istore_n 2, 1) := by decide +kernel
theorem d_Mo_isDecimal_2 : decode b_Mo_isDecimal 2 = .ok (.aload_n 0, 1) := by decide +kernel
theorem d_Mo_isDecimal_3 : decode b_Mo_isDecimal 3 = .ok (.getfield 60, 3) := by decide +kernel
theorem d_Mo_isDecimal_6 : decode b_Mo_isDecimal 6 = .ok (.ifCond .le 18, 3) := by decide +kernel
theorem d_Mo_isDecimal_9 : decode b_Mo_isDecimal 9 = .ok (.aload_n 0, 1) := by decide +kernel
theorem d_Mo_isDecimal_10 : decode b_Mo_isDecimal 10 = .ok (.getfield 7, 3) := by decide +kernel
theorem d_Mo_isDecimal_13 : decode b_Mo_isDecimal 13 = .ok (.iconst 0, 1) := by decide +kernel
theorem d_Mo_isDecimal_14 : decode b_Mo_isDecimal 14 = .ok (.iaload, 1) := by decide +kernel
theorem d_Mo_isDecimal_15 : decode b_Mo_isDecimal 15 = .ok (.bipush 45, 2) := by decide +kernel
theorem d_Mo_isDecimal_17 : decode b_Mo_isDecimal 17 = .ok (.if_icmp .ne 7, 3) := by decide +kernel
theorem d_Mo_isDecimal_20 : decode b_Mo_isDecimal 20 = .ok (.iconst 1, 1) := by decide +kernel
theorem d_Mo_isDecimal_21 : decode b_Mo_isDecimal 21 = .ok (.goto 4, 3) := by decide +kernel
theorem d_Mo_isDecimal_24 : decode b_Mo_isDecimal 24 = .ok (.iconst 0, 1) := by decide +kernel
theorem d_Mo_isDecimal_25 : decode b_Mo_isDecimal 25 = .ok (.istore_n 3, 1) := by decide +kernel
theorem d_Mo_isDecimal_26 : decode b_Mo_isDecimal 26 = .ok (.iload_n 3, 1) := by decide +kernel
theorem d_Mo_isDecimal_27 : decode b_Mo_isDecimal 27 = .ok (.ifCond .eq 6, 3) := by decide +kernel
theorem d_Mo_isDecimal_30 : decode b_Mo_isDecimal 30 = .ok (.iinc 2 1, 3) := by decide +kernel
theorem d_Mo_isDecimal_33 : decode b_Mo_isDecimal 33 = .ok (.iconst 0, 1) := by decide +kernel
theorem d_Mo_isDecimal_34 : decode b_Mo_isDecimal 34 = .ok (.istore 4, 2) := by decide +kernel
theorem d_Mo_isDecimal_36 : decode b_Mo_isDecimal 36 = .ok (.iconst 0, 1) := by decide +kernel
theorem d_Mo_isDecimal_37 : decode b_Mo_isDecimal 37 = .ok (.istore 5, 2) := by decide +kernel
theorem d_Mo_isDecimal_39 : decode b_Mo_isDecimal 39 = .ok (.iload_n 2, 1) := by decide +kernel
theorem d_Mo_isDecimal_40 : decode b_Mo_isDecimal 40 = .ok (.aload_n 0, 1) := by decide +kernel
theorem d_Mo_isDecimal_41 : decode b_Mo_isDecimal 41 = .ok (.getfield 60, 3) := by decide +kernel
theorem d_Mo_isDecimal_44 : decode b_Mo_isDecimal 44 = .ok (.if_icmp .ge 57, 3) := by decide +kernel
theorem d_Mo_isDecimal_47 : decode b_Mo_isDecimal 47 = .ok (.aload_n 0, 1) := by decide +kernel
theorem d_Mo_isDecimal_48 : decode b_Mo_isDecimal 48 = .ok (.getfield 7, 3) := by decide +kernel
theorem d_Mo_isDecimal_51 : decode b_Mo_isDecimal 51 = .ok (.iload_n 2, 1) := by decide +kernel
theorem d_Mo_isDecimal_52 : decode b_Mo_isDecimal 52 = .ok (.iaload, 1) := by decide +kernel
theorem d_Mo_isDecimal_53 : decode b_Mo_isDecimal 53 = .ok (.invokestatic 68, 3) := by decide +kernel
theorem d_Mo_isDecimal_56 : decode b_Mo_isDecimal 56 = .ok (.ifCond .eq 45, 3) := by decide +kernel
theorem d_Mo_isDecimal_59 : decode b_Mo_isDecimal 59 = .ok (.iload 5, 2) := by decide +kernel
theorem d_Mo_isDecimal_61 : decode b_Mo_isDecimal 61 = .ok (.bipush 18, 2) := by decide +kernel
theorem d_Mo_isDecimal_63 : decode b_Mo_isDecimal 63 = .ok (.if_icmp .ne 5, 3) := by decide +kernel
theorem d_Mo_isDecimal_66 : decode b_Mo_isDecimal 66 = .ok (.iconst 0, 1) := by decide +kernel
theorem d_Mo_isDecimal_67 : decode b_Mo_isDecimal 67 = .ok (.ireturn, 1) := by decide +kernel
theorem d_Mo_isDecimal_68 : decode b_Mo_isDecimal 68 = .ok (.aload_n 0, 1) := by decide +kernel
theorem d_Mo_isDecimal_69 : decode b_Mo_isDecimal 69 = .ok (.getfield 23, 3) := by decide +kernel
theorem d_Mo_isDecimal_72 : decode b_Mo_isDecimal 72 = .ok (.bipush 30, 2) := by decide +kernel
theorem d_Mo_isDecimal_74 : decode b_Mo_isDecimal 74 = .ok (.iload_n 1, 1) := by decide +kernel
theorem d_Mo_isDecimal_75 : decode b_Mo_isDecimal 75 = .ok (.imul, 1) := by decide +kernel
theorem d_Mo_isDecimal_76 : decode b_Mo_isDecimal 76 = .ok (.iload 4, 2) := by decide +kernel
theorem d_Mo_isDecimal_78 : decode b_Mo_isDecimal 78 = .ok (.iadd, 1) := by decide +kernel
theorem d_Mo_isDecimal_79 : decode b_Mo_isDecimal 79 = .ok (.aload_n 0, 1) := by decide +kernel
theorem d_Mo_isDecimal_80 : decode b_Mo_isDecimal 80 = .ok (.getfield 7, 3) := by decide +kernel
theorem d_Mo_isDecimal_83 : decode b_Mo_isDecimal 83 = .ok (.iload_n 2, 1) := by decide +kernel
theorem d_Mo_isDecimal_84 : decode b_Mo_isDecimal 84 = .ok (.iaload, 1) := by decide +kernel
theorem d_Mo_isDecimal_85 : decode b_Mo_isDecimal 85 = .ok (.bipush 48, 2) := by decide +kernel
theorem d_Mo_isDecimal_87 : decode b_Mo_isDecimal 87 = .ok (.isub, 1) := by decide +kernel
theorem d_Mo_isDecimal_88 : decode b_Mo_isDecimal 88 = .ok (.iastore, 1) := by decide +kernel
theorem d_Mo_isDecimal_89 : decode b_Mo_isDecimal 89 = .ok (.iinc 4 1, 3) := by decide +kernel
theorem d_Mo_isDecimal_92 : decode b_Mo_isDecimal 92 = .ok (.iinc 5 1, 3) := by decide +kernel
theorem d_Mo_isDecimal_95 : decode b_Mo_isDecimal 95 = .ok (.iinc 2 1, 3) := by decide +kernel
theorem d_Mo_isDecimal_98 : decode b_Mo_isDecimal 98 = .ok (.goto (-59), 3) := by decide +kernel
theorem d_Mo_isDecimal_101 : decode b_Mo_isDecimal 101 = .ok (.iconst 0, 1) := by decide +kernel
theorem d_Mo_isDecimal_102 : decode b_Mo_isDecimal 102 = .ok (.istore 6, 2) := by decide +kernel
theorem d_Mo_isDecimal_104 : decode b_Mo_isDecimal 104 = .ok (.iload_n 2, 1) := by decide +kernel
theorem d_Mo_isDecimal_105 : decode b_Mo_isDecimal 105 = .ok (.aload_n 0, 1) := by decide +kernel
theorem d_Mo_isDecimal_106 : decode b_Mo_isDecimal 106 = .ok (.getfield 60, 3) := by decide +kernel
theorem d_Mo_isDecimal_109 : decode b_Mo_isDecimal 109 = .ok (.if_icmp .ge 18, 3) := by decide +kernel
theorem d_Mo_isDecimal_112 : decode b_Mo_isDecimal 112 = .ok (.aload_n 0, 1) := by decide +kernel
theorem d_Mo_isDecimal_113 : decode b_Mo_isDecimal 113 = .ok (.getfield 7, 3) := by decide +kernel
theorem d_Mo_isDecimal_116 : decode b_Mo_isDecimal 116 = .ok (.iload_n 2, 1) := by decide +kernel
theorem d_Mo_isDecimal_117 : decode b_Mo_isDecimal 117 = .ok (.iaload, 1) := by decide +kernel
theorem d_Mo_isDecimal_118 : decode b_Mo_isDecimal 118 = .ok (.bipush 46, 2) := by decide +kernel
theorem d_Mo_isDecimal_120 : decode b_Mo_isDecimal 120 = .ok (.if_icmp .ne 7, 3) := by decide +kernel
theorem d_Mo_isDecimal_123 : decode b_Mo_isDecimal 123 = .ok (.iconst 1, 1) := by decide +kernel
theorem d_Mo_isDecimal_124 : decode b_Mo_isDecimal 124 = .ok (.goto 4, 3) := by decide +kernel
theorem d_Mo_isDecimal_127 : decode b_Mo_isDecimal 127 = .ok (.iconst 0, 1) := by decide +kernel
theorem d_Mo_isDecimal_128 : decode b_Mo_isDecimal 128 = .ok (.istore 7, 2) := by decide +kernel
theorem d_Mo_isDecimal_130 : decode b_Mo_isDecimal 130 = .ok (.iload 7, 2) := by decide +kernel
theorem d_Mo_isDecimal_132 : decode b_Mo_isDecimal 132 = .ok (.ifCond .eq 6, 3) := by decide +kernel
theorem d_Mo_isDecimal_135 : decode b_Mo_isDecimal 135 = .ok (.iinc 2 1, 3) := by decide +kernel
theorem d_Mo_isDecimal_138 : decode b_Mo_isDecimal 138 = .ok (.iload 7, 2) := by decide +kernel
theorem d_Mo_isDecimal_140 : decode b_Mo_isDecimal 140 = .ok (.ifCond .eq 65, 3) := by decide +kernel
theorem d_Mo_isDecimal_143 : decode b_Mo_isDecimal 143 = .ok (.iload_n 2, 1) := by decide +kernel
theorem d_Mo_isDecimal_144 : decode b_Mo_isDecimal 144 = .ok (.aload_n 0, 1) := by decide +kernel
theorem d_Mo_isDecimal_145 : decode b_Mo_isDecimal 145 = .ok (.getfield 60, 3) := by decide +kernel
theorem d_Mo_isDecimal_148 : decode b_Mo_isDecimal 148 = .ok (.if_icmp .ge 57, 3) := by decide +kernel
theorem d_Mo_isDecimal_151 : decode b_Mo_isDecimal 151 = .ok (.aload_n 0, 1) := by decide +kernel
theorem d_Mo_isDecimal_152 : decode b_Mo_isDecimal 152 = .ok (.getfield 7, 3) := by decide +kernel
theorem d_Mo_isDecimal_155 : decode b_Mo_isDecimal 155 = .ok (.iload_n 2, 1) := by decide +kernel
theorem d_Mo_isDecimal_156 : decode b_Mo_isDecimal 156 = .ok (.iaload, 1) := by decide +kernel
theorem d_Mo_isDecimal_157 : decode b_Mo_isDecimal 157 = .ok (.invokestatic 68, 3) := by decide +kernel
theorem d_Mo_isDecimal_160 : decode b_Mo_isDecimal 160 = .ok (.ifCond .eq 45, 3) := by decide +kernel
theorem d_Mo_isDecimal_163 : decode b_Mo_isDecimal 163 = .ok (.iload 6, 2) := by decide +kernel
theorem d_Mo_isDecimal_165 : decode b_Mo_isDecimal 165 = .ok (.bipush 12, 2) := by decide +kernel
theorem d_Mo_isDecimal_167 : decode b_Mo_isDecimal 167 = .ok (.if_icmp .ne 5, 3) := by decide +kernel
theorem d_Mo_isDecimal_170 : decode b_Mo_isDecimal 170 = .ok (.iconst 0, 1) := by decide +kernel
theorem d_Mo_isDecimal_171 : decode b_Mo_isDecimal 171 = .ok (.ireturn, 1) := by decide +kernel
theorem d_Mo_isDecimal_172 : decode b_Mo_isDecimal 172 = .ok (.aload_n 0, 1) := by decide +kernel
theorem d_Mo_isDecimal_173 : decode b_Mo_isDecimal 173 = .ok (.getfield 23, 3) := by decide +kernel
theorem d_Mo_isDecimal_176 : decode b_Mo_isDecimal 176 = .ok (.bipush 30, 2) := by decide +kernel
theorem d_Mo_isDecimal_178 : decode b_Mo_isDecimal 178 = .ok (.iload_n 1, 1) := by decide +kernel
theorem d_Mo_isDecimal_179 : decode b_Mo_isDecimal 179 = .ok (.imul, 1) := by decide +kernel
theorem d_Mo_isDecimal_180 : decode b_Mo_isDecimal 180 = .ok (.iload 4, 2) := by decide +kernel
theorem d_Mo_isDecimal_182 : decode b_Mo_isDecimal 182 = .ok (.iadd, 1) := by decide +kernel
theorem d_Mo_isDecimal_183 : decode b_Mo_isDecimal 183 = .ok (.aload_n 0, 1) := by decide +kernel
theorem d_Mo_isDecimal_184 : decode b_Mo_isDecimal 184 = .ok (.getfield 7, 3) := by decide +kernel
theorem d_Mo_isDecimal_187 : decode b_Mo_isDecimal 187 = .ok (.iload_n 2, 1) := by decide +kernel
theorem d_Mo_isDecimal_188 : decode b_Mo_isDecimal 188 = .ok (.iaload, 1) := by decide +kernel
theorem d_Mo_isDecimal_189 : decode b_Mo_isDecimal 189 = .ok (.bipush 48, 2) := by decide +kernel
theorem d_Mo_isDecimal_191 : decode b_Mo_isDecimal 191 = .ok (.isub, 1) := by decide +kernel
theorem d_Mo_isDecimal_192 : decode b_Mo_isDecimal 192 = .ok (.iastore, 1) := by decide +kernel
theorem d_Mo_isDecimal_193 : decode b_Mo_isDecimal 193 = .ok (.iinc 4 1, 3) := by decide +kernel
theorem d_Mo_isDecimal_196 : decode b_Mo_isDecimal 196 = .ok (.iinc 6 1, 3) := by decide +kernel
theorem d_Mo_isDecimal_199 : decode b_Mo_isDecimal 199 = .ok (.iinc 2 1, 3) := by decide +kernel
theorem d_Mo_isDecimal_202 : decode b_Mo_isDecimal 202 = .ok (.goto (-64), 3) := by decide +kernel
theorem d_Mo_isDecimal_205 : decode b_Mo_isDecimal 205 = .ok (.iload_n 2, 1) := by decide +kernel
theorem d_Mo_isDecimal_206 : decode b_Mo_isDecimal 206 = .ok (.aload_n 0, 1) := by decide +kernel
theorem d_Mo_isDecimal_207 : decode b_Mo_isDecimal 207 = .ok (.getfield 60, 3) := by decide +kernel
theorem d_Mo_isDecimal_210 : decode b_Mo_isDecimal 210 = .ok (.if_icmp .lt 18, 3) := by decide +kernel
theorem d_Mo_isDecimal_213 : decode b_Mo_isDecimal 213 = .ok (.iload 5, 2) := by decide +kernel
theorem d_Mo_isDecimal_215 : decode b_Mo_isDecimal 215 = .ok (.ifCond .eq 13, 3) := by decide +kernel
theorem d_Mo_isDecimal_218 : decode b_Mo_isDecimal 218 = .ok (.iload 7, 2) := by decide +kernel
theorem d_Mo_isDecimal_220 : decode b_Mo_isDecimal 220 = .ok (.ifCond .eq 10, 3) := by decide +kernel
theorem d_Mo_isDecimal_223 : decode b_Mo_isDecimal 223 = .ok (.iload 6, 2) := by decide +kernel
theorem d_Mo_isDecimal_225 : decode b_Mo_isDecimal 225 = .ok (.ifCond .ne 5, 3) := by decide +kernel
theorem d_Mo_isDecimal_228 : decode b_Mo_isDecimal 228 = .ok (.iconst 0, 1) := by decide +kernel
theorem d_Mo_isDecimal_229 : decode b_Mo_isDecimal 229 = .ok (.ireturn, 1) := by decide +kernel
theorem d_Mo_isDecimal_230 : decode b_Mo_isDecimal 230 = .ok (.aload_n 0, 1) := by decide +kernel
theorem d_Mo_isDecimal_231 : decode b_Mo_isDecimal 231 = .ok (.getfield 26, 3) := by decide +kernel
theorem d_Mo_isDecimal_234 : decode b_Mo_isDecimal 234 = .ok (.iload_n 1, 1) := by decide +kernel
theorem d_Mo_isDecimal_235 : decode b_Mo_isDecimal 235 = .ok (.iload 5, 2) := by decide +kernel
theorem d_Mo_isDecimal_237 : decode b_Mo_isDecimal 237 = .ok (.iastore, 1) := by decide +kernel
theorem d_Mo_isDecimal_238 : decode b_Mo_isDecimal 238 = .ok (.aload_n 0, 1) := by decide +kernel
theorem d_Mo_isDecimal_239 : decode b_Mo_isDecimal 239 = .ok (.getfield 29, 3) := by decide +kernel
theorem d_Mo_isDecimal_242 : decode b_Mo_isDecimal 242 = .ok (.iload_n 1, 1) := by decide +kernel
theorem d_Mo_isDecimal_243 : decode b_Mo_isDecimal 243 = .ok (.iload 6, 2) := by decide +kernel
theorem d_Mo_isDecimal_245 : decode b_Mo_isDecimal 245 = .ok (.iastore, 1) := by decide +kernel
theorem d_Mo_isDecimal_246 : decode b_Mo_isDecimal 246 = .ok (.iconst 0, 1) := by decide +kernel
theorem d_Mo_isDecimal_247 : decode b_Mo_isDecimal 247 = .ok (.istore 8, 2) := by decide +kernel
theorem d_Mo_isDecimal_249 : decode b_Mo_isDecimal 249 = .ok (.iconst 0, 1) := by decide +kernel
theorem d_Mo_isDecimal_250 : decode b_Mo_isDecimal 250 = .ok (.istore 9, 2) := by decide +kernel
theorem d_Mo_isDecimal_252 : decode b_Mo_isDecimal 252 = .ok (.iload 9, 2) := by decide +kernel
theorem d_Mo_isDecimal_254 : decode b_Mo_isDecimal 254 = .ok (.iload 4, 2) := by decide +kernel
theorem d_Mo_isDecimal_256 : decode b_Mo_isDecimal 256 = .ok (.if_icmp .ge 36, 3) := by decide +kernel
theorem d_Mo_isDecimal_259 : decode b_Mo_isDecimal 259 = .ok (.iload 8, 2) := by decide +kernel
theorem d_Mo_isDecimal_261 : decode b_Mo_isDecimal 261 = .ok (.ifCond .ne 18, 3) := by decide +kernel
theorem d_Mo_isDecimal_264 : decode b_Mo_isDecimal 264 = .ok (.aload_n 0, 1) := by decide +kernel
theorem d_Mo_isDecimal_265 : decode b_Mo_isDecimal 265 = .ok (.getfield 23, 3) := by decide +kernel
theorem d_Mo_isDecimal_268 : decode b_Mo_isDecimal 268 = .ok (.bipush 30, 2) := by decide +kernel
theorem d_Mo_isDecimal_270 : decode b_Mo_isDecimal 270 = .ok (.iload_n 1, 1) := by decide +kernel
theorem d_Mo_isDecimal_271 : decode b_Mo_isDecimal 271 = .ok (.imul, 1) := by decide +kernel
theorem d_Mo_isDecimal_272 : decode b_Mo_isDecimal 272 = .ok (.iload 9, 2) := by decide +kernel
theorem d_Mo_isDecimal_274 : decode b_Mo_isDecimal 274 = .ok (.iadd, 1) := by decide +kernel
theorem d_Mo_isDecimal_275 : decode b_Mo_isDecimal 275 = .ok (.iaload, 1) := by decide +kernel
theorem d_Mo_isDecimal_276 : decode b_Mo_isDecimal 276 = .ok (.ifCond .le 7, 3) := by decide +kernel
theorem d_Mo_isDecimal_279 : decode b_Mo_isDecimal 279 = .ok (.iconst 1, 1) := by decide +kernel
theorem d_Mo_isDecimal_280 : decode b_Mo_isDecimal 280 = .ok (.goto 4, 3) := by decide +kernel
theorem d_Mo_isDecimal_283 : decode b_Mo_isDecimal 283 = .ok (.iconst 0, 1) := by decide +kernel
theorem d_Mo_isDecimal_284 : decode b_Mo_isDecimal 284 = .ok (.istore 8, 2) := by decide +kernel
theorem d_Mo_isDecimal_286 : decode b_Mo_isDecimal 286 = .ok (.iinc 9 1, 3) := by decide +kernel
theorem d_Mo_isDecimal_289 : decode b_Mo_isDecimal 289 = .ok (.goto (-37), 3) := by decide +kernel
theorem d_Mo_isDecimal_292 : decode b_Mo_isDecimal 292 = .ok (.aload_n 0, 1) := by decide +kernel
theorem d_Mo_isDecimal_293 : decode b_Mo_isDecimal 293 = .ok (.getfield 32, 3) := by decide +kernel
theorem d_Mo_isDecimal_296 : decode b_Mo_isDecimal 296 = .ok (.iload_n 1, 1) := by decide +kernel
theorem d_Mo_isDecimal_297 : decode b_Mo_isDecimal 297 = .ok (.iload_n 3, 1) := by decide +kernel
theorem d_Mo_isDecimal_298 : decode b_Mo_isDecimal 298 = .ok (.ifCond .eq 12, 3) := by decide +kernel
theorem d_Mo_isDecimal_301 : decode b_Mo_isDecimal 301 = .ok (.iload 8, 2) := by decide +kernel
theorem d_Mo_isDecimal_303 : decode b_Mo_isDecimal 303 = .ok (.ifCond .eq 7, 3) := by decide +kernel
theorem d_Mo_isDecimal_306 : decode b_Mo_isDecimal 306 = .ok (.iconst 1, 1) := by decide +kernel
theorem d_Mo_isDecimal_307 : decode b_Mo_isDecimal 307 = .ok (.goto 4, 3) := by decide +kernel
theorem d_Mo_isDecimal_310 : decode b_Mo_isDecimal 310 = .ok (.iconst 0, 1) := by decide +kernel
theorem d_Mo_isDecimal_311 : decode b_Mo_isDecimal 311 = .ok (.bastore, 1) := by decide +kernel
theorem d_Mo_isDecimal_312 : decode b_Mo_isDecimal 312 = .ok (.iconst 1, 1) := by decide +kernel
theorem d_Mo_isDecimal_313 : decode b_Mo_isDecimal 313 = .ok (.ireturn, 1) := by decide +kernel
theorem d_Mo_isDigit_0 : decode b_Mo_isDigit 0 = .ok (.iload_n 0, 1) := by decide +kernel
theorem d_Mo_isDigit_1 : decode b_Mo_isDigit 1 = .ok (.bipush 48, 2) := by decide +kernel
theorem d_Mo_isDigit_3 : decode b_Mo_isDigit 3 = .ok (.if_icmp .lt 13, 3) := by decide +kernel
theorem d_Mo_isDigit_6 : decode b_Mo_isDigit 6 = .ok (.iload_n 0, 1) := by decide +kernel
theorem d_Mo_isDigit_7 : decode b_Mo_isDigit 7 = .ok (.bipush 57, 2) := by decide +kernel
theorem d_Mo_isDigit_9 : decode b_Mo_isDigit 9 = .ok (.if_icmp .gt 7, 3) := by decide +kernel
theorem d_Mo_isDigit_12 : decode b_Mo_isDigit 12 = .ok (.iconst 1, 1) := by decide +kernel
theorem d_Mo_isDigit_13 : decode b_Mo_isDigit 13 = .ok (.goto 4, 3) := by decide +kernel
theorem d_Mo_isDigit_16 : decode b_Mo_isDigit 16 = .ok (.iconst 0, 1) := by decide +kernel
theorem d_Mo_isDigit_17 : decode b_Mo_isDigit 17 = .ok (.ireturn, 1) := by decide +kernel
theorem d_Mo_isSome_0 : decode b_Mo_isSome 0 = .ok (.aload_n 0, 1) := by decide +kernel
theorem d_Mo_isSome_1 : decode b_Mo_isSome 1 = .ok (.getfield 60, 3) := by decide +kernel
theorem d_Mo_isSome_4 : decode b_Mo_isSome 4 = .ok (.ifCond .le 18, 3) := by decide +kernel
theorem d_Mo_isSome_7 : decode b_Mo_isSome 7 = .ok (.aload_n 0, 1) := by decide +kernel
theorem d_Mo_isSome_8 : decode b_Mo_isSome 8 = .ok (.getfield 7, 3) := by decide +kernel
theorem d_Mo_isSome_11 : decode b_Mo_isSome 11 = .ok (.iconst 0, 1) := by decide +kernel
theorem d_Mo_isSome_12 : decode b_Mo_isSome 12 = .ok (.iaload, 1) := by decide +kernel
theorem d_Mo_isSome_13 : decode b_Mo_isSome 13 = .ok (.bipush 45, 2) := by decide +kernel
theorem d_Mo_isSome_15 : decode b_Mo_isSome 15 = .ok (.if_icmp .ne 7, 3) := by decide +kernel
theorem d_Mo_isSome_18 : decode b_Mo_isSome 18 = .ok (.iconst 1, 1) := by decide +kernel
theorem d_Mo_isSome_19 : decode b_Mo_isSome 19 = .ok (.goto 4, 3) := by decide +kernel
theorem d_Mo_isSome_22 : decode b_Mo_isSome 22 = .ok (.iconst 0, 1) := by decide +kernel
theorem d_Mo_isSome_23 : decode b_Mo_isSome 23 = .ok (.istore_n 1, 1) := by decide +kernel
theorem d_Mo_isSome_24 : decode b_Mo_isSome 24 = .ok (.iconst 0, 1) := by decide +kernel
theorem d_Mo_isSome_25 : decode b_Mo_isSome 25 = .ok (.istore_n 2, 1) := by decide +kernel
theorem d_Mo_isSome_26 : decode b_Mo_isSome 26 = .ok (.iload_n 1, 1) := by decide +kernel
theorem d_Mo_isSome_27 : decode b_Mo_isSome 27 = .ok (.aload_n 0, 1) := by decide +kernel
theorem d_Mo_isSome_28 : decode b_Mo_isSome 28 = .ok (.getfield 60, 3) := by decide +kernel
theorem d_Mo_isSome_31 : decode b_Mo_isSome 31 = .ok (.if_icmp .ge 24, 3) := by decide +kernel
theorem d_Mo_isSome_34 : decode b_Mo_isSome 34 = .ok (.aload_n 0, 1) := by decide +kernel
theorem d_Mo_isSome_35 : decode b_Mo_isSome 35 = .ok (.getfield 7, 3) := by decide +kernel
theorem d_Mo_isSome_38 : decode b_Mo_isSome 38 = .ok (.iload_n 1, 1) := by decide +kernel
theorem d_Mo_isSome_39 : decode b_Mo_isSome 39 = .ok (.iaload, 1) := by decide +kernel
theorem d_Mo_isSome_40 : decode b_Mo_isSome 40 = .ok (.invokestatic 68, 3) := by decide +kernel
theorem d_Mo_isSome_43 : decode b_Mo_isSome 43 = .ok (.ifCond .eq 12, 3) := by decide +kernel
theorem d_Mo_isSome_46 : decode b_Mo_isSome 46 = .ok (.iinc 2 1, 3) := by decide +kernel
theorem d_Mo_isSome_49 : decode b_Mo_isSome 49 = .ok (.iinc 1 1, 3) := by decide +kernel
theorem d_Mo_isSome_52 : decode b_Mo_isSome 52 = .ok (.goto (-26), 3) := by decide +kernel
theorem d_Mo_isSome_55 : decode b_Mo_isSome 55 = .ok (.iconst 0, 1) := by decide +kernel
theorem d_Mo_isSome_56 : decode b_Mo_isSome 56 = .ok (.istore_n 3, 1) := by decide +kernel
theorem d_Mo_isSome_57 : decode b_Mo_isSome 57 = .ok (.iload_n 1, 1) := by decide +kernel
theorem d_Mo_isSome_58 : decode b_Mo_isSome 58 = .ok (.aload_n 0, 1) := by decide +kernel
theorem d_Mo_isSome_59 : decode b_Mo_isSome 59 = .ok (.getfield 60, 3) := by decide +kernel
theorem d_Mo_isSome_62 : decode b_Mo_isSome 62 = .ok (.if_icmp .ge 18, 3) := by decide +kernel
theorem d_Mo_isSome_65 : decode b_Mo_isSome 65 = .ok (.aload_n 0, 1) := by decide +kernel
theorem d_Mo_isSome_66 : decode b_Mo_isSome 66 = .ok (.getfield 7, 3) := by decide +kernel
theorem d_Mo_isSome_69 : decode b_Mo_isSome 69 = .ok (.iload_n 1, 1) := by decide +kernel
theorem d_Mo_isSome_70 : decode b_Mo_isSome 70 = .ok (.iaload, 1) := by decide +kernel
theorem d_Mo_isSome_71 : decode b_Mo_isSome 71 = .ok (.bipush 46, 2) := by decide +kernel
theorem d_Mo_isSome_73 : decode b_Mo_isSome 73 = .ok (.if_icmp .ne 7, 3) := by decide +kernel
theorem d_Mo_isSome_76 : decode b_Mo_isSome 76 = .ok (.iconst 1, 1) := by decide +kernel
theorem d_Mo_isSome_77 : decode b_Mo_isSome 77 = .ok (.goto 4, 3) := by decide +kernel
theorem d_Mo_isSome_80 : decode b_Mo_isSome 80 = .ok (.iconst 0, 1) := by decide +kernel
theorem d_Mo_isSome_81 : decode b_Mo_isSome 81 = .ok (.istore 4, 2) := by decide +kernel
theorem d_Mo_isSome_83 : decode b_Mo_isSome 83 = .ok (.iload 4, 2) := by decide +kernel
theorem d_Mo_isSome_85 : decode b_Mo_isSome 85 = .ok (.ifCond .eq 6, 3) := by decide +kernel
theorem d_Mo_isSome_88 : decode b_Mo_isSome 88 = .ok (.iinc 1 1, 3) := by decide +kernel
theorem d_Mo_isSome_91 : decode b_Mo_isSome 91 = .ok (.iload 4, 2) := by decide +kernel
theorem d_Mo_isSome_93 : decode b_Mo_isSome 93 = .ok (.ifCond .eq 32, 3) := by decide +kernel
theorem d_Mo_isSome_96 : decode b_Mo_isSome 96 = .ok (.iload_n 1, 1) := by decide +kernel
theorem d_Mo_isSome_97 : decode b_Mo_isSome 97 = .ok (.aload_n 0, 1) := by decide +kernel
theorem d_Mo_isSome_98 : decode b_Mo_isSome 98 = .ok (.getfield 60, 3) := by decide +kernel
theorem d_Mo_isSome_101 : decode b_Mo_isSome 101 = .ok (.if_icmp .ge 24, 3) := by decide +kernel
theorem d_Mo_isSome_104 : decode b_Mo_isSome 104 = .ok (.aload_n 0, 1) := by decide +kernel
theorem d_Mo_isSome_105 : decode b_Mo_isSome 105 = .ok (.getfield 7, 3) := by decide +kernel
theorem d_Mo_isSome_108 : decode b_Mo_isSome 108 = .ok (.iload_n 1, 1) := by decide +kernel
theorem d_Mo_isSome_109 : decode b_Mo_isSome 109 = .ok (.iaload, 1) := by decide +kernel
theorem d_Mo_isSome_110 : decode b_Mo_isSome 110 = .ok (.invokestatic 68, 3) := by decide +kernel
theorem d_Mo_isSome_113 : decode b_Mo_isSome 113 = .ok (.ifCond .eq 12, 3) := by decide +kernel
theorem d_Mo_isSome_116 : decode b_Mo_isSome 116 = .ok (.iinc 3 1, 3) := by decide +kernel
theorem d_Mo_isSome_119 : decode b_Mo_isSome 119 = .ok (.iinc 1 1, 3) := by decide +kernel
theorem d_Mo_isSome_122 : decode b_Mo_isSome 122 = .ok (.goto (-31), 3) := by decide +kernel
theorem d_Mo_isSome_125 : decode b_Mo_isSome 125 = .ok (.iload_n 1, 1) := by decide +kernel
theorem d_Mo_isSome_126 : decode b_Mo_isSome 126 = .ok (.aload_n 0, 1) := by decide +kernel
theorem d_Mo_isSome_127 : decode b_Mo_isSome 127 = .ok (.getfield 60, 3) := by decide +kernel
theorem d_Mo_isSome_130 : decode b_Mo_isSome 130 = .ok (.if_icmp .ne 32, 3) := by decide +kernel
theorem d_Mo_isSome_133 : decode b_Mo_isSome 133 = .ok (.iload_n 2, 1) := by decide +kernel
theorem d_Mo_isSome_134 : decode b_Mo_isSome 134 = .ok (.ifCond .le 28, 3) := by decide +kernel
theorem d_Mo_isSome_137 : decode b_Mo_isSome 137 = .ok (.iload_n 2, 1) := by decide +kernel
theorem d_Mo_isSome_138 : decode b_Mo_isSome 138 = .ok (.bipush 19, 2) := by decide +kernel
theorem d_Mo_isSome_140 : decode b_Mo_isSome 140 = .ok (.if_icmp .ge 22, 3) := by decide +kernel
theorem d_Mo_isSome_143 : decode b_Mo_isSome 143 = .ok (.iload_n 3, 1) := by decide +kernel
theorem d_Mo_isSome_144 : decode b_Mo_isSome 144 = .ok (.bipush 13, 2) := by decide +kernel
theorem d_Mo_isSome_146 : decode b_Mo_isSome 146 = .ok (.if_icmp .ge 16, 3) := by decide +kernel
theorem d_Mo_isSome_149 : decode b_Mo_isSome 149 = .ok (.iload 4, 2) := by decide +kernel
theorem d_Mo_isSome_151 : decode b_Mo_isSome 151 = .ok (.ifCond .eq 7, 3) := by decide +kernel
theorem d_Mo_isSome_154 : decode b_Mo_isSome 154 = .ok (.iload_n 3, 1) := by decide +kernel
theorem d_Mo_isSome_155 : decode b_Mo_isSome 155 = .ok (.ifCond .le 7, 3) := by decide +kernel
theorem d_Mo_isSome_158 : decode b_Mo_isSome 158 = .ok (.iconst 1, 1) := by decide +kernel
theorem d_Mo_isSome_159 : decode b_Mo_isSome 159 = .ok (.goto 4, 3) := by decide +kernel
theorem d_Mo_isSome_162 : decode b_Mo_isSome 162 = .ok (.iconst 0, 1) := by decide +kernel
theorem d_Mo_isSome_163 : decode b_Mo_isSome 163 = .ok (.ireturn, 1) := by decide +kernel
theorem d_Mo_raise_0 : decode b_Mo_raise 0 = .ok (.aload_n 0, 1) := by decide +kernel
theorem d_Mo_raise_1 : decode b_Mo_raise 1 = .ok (.iload_n 1, 1) := by decide +kernel
theorem d_Mo_raise_2 : decode b_Mo_raise 2 = .ok (.putfield 56, 3) := by decide +kernel
theorem d_Mo_raise_5 : decode b_Mo_raise 5 = .ok (.iconst 0, 1) := by decide +kernel
theorem d_Mo_raise_6 : decode b_Mo_raise 6 = .ok (.ireturn, 1) := by decide +kernel
theorem d_Mo_clear_0 : decode b_Mo_clear 0 = .ok (.aload_n 0, 1) := by decide +kernel
theorem d_Mo_clear_1 : decode b_Mo_clear 1 = .ok (.iconst 0, 1) := by decide +kernel
theorem d_Mo_clear_2 : decode b_Mo_clear 2 = .ok (.putfield 56, 3) := by decide +kernel
theorem d_Mo_clear_5 : decode b_Mo_clear 5 = .ok (.aload_n 0, 1) := by decide +kernel
theorem d_Mo_clear_6 : decode b_Mo_clear 6 = .ok (.getfield 65, 3) := by decide +kernel
theorem d_Mo_clear_9 : decode b_Mo_clear 9 = .ok (.istore_n 1, 1) := by decide +kernel
theorem d_Mo_clear_10 : decode b_Mo_clear 10 = .ok (.aload_n 0, 1) := by decide +kernel
theorem d_Mo_clear_11 : decode b_Mo_clear 11 = .ok (.iconst 0, 1) := by decide +kernel
theorem d_Mo_clear_12 : decode b_Mo_clear 12 = .ok (.putfield 65, 3) := by decide +kernel
theorem d_Mo_clear_15 : decode b_Mo_clear 15 = .ok (.iload_n 1, 1) := by decide +kernel
theorem d_Mo_clear_16 : decode b_Mo_clear 16 = .ok (.ireturn, 1) := by decide +kernel
theorem d_Mo_see_0 : decode b_Mo_see 0 = .ok (.iload_n 1, 1) := by decide +kernel
theorem d_Mo_see_1 : decode b_Mo_see 1 = .ok (.aload_n 0, 1) := by decide +kernel
theorem d_Mo_see_2 : decode b_Mo_see 2 = .ok (.getfield 60, 3) := by decide +kernel
theorem d_Mo_see_5 : decode b_Mo_see 5 = .ok (.if_icmp .ge 12, 3) := by decide +kernel
theorem d_Mo_see_8 : decode b_Mo_see 8 = .ok (.aload_n 0, 1) := by decide +kernel
theorem d_Mo_see_9 : decode b_Mo_see 9 = .ok (.getfield 7, 3) := by decide +kernel
theorem d_Mo_see_12 : decode b_Mo_see 12 = .ok (.iload_n 1, 1) := by decide +kernel
theorem d_Mo_see_13 : decode b_Mo_see 13 = .ok (.iaload, 1) := by decide +kernel
theorem d_Mo_see_14 : decode b_Mo_see 14 = .ok (.goto 4, 3) := by decide +kernel
theorem d_Mo_see_17 : decode b_Mo_see 17 = .ok (.iconst 0, 1) := by decide +kernel
theorem d_Mo_see_18 : decode b_Mo_see 18 = .ok (.ireturn, 1) := by decide +kernel
theorem d_Mo_isLetter_0 : decode b_Mo_isLetter 0 = .ok (.iload_n 0, 1) := by decide +kernel
theorem d_Mo_isLetter_1 : decode b_Mo_isLetter 1 = .ok (.bipush 100, 2) := by decide +kernel
theorem d_Mo_isLetter_3 : decode b_Mo_isLetter 3 = .ok (.if_icmp .eq 75, 3) := by decide +kernel
theorem d_Mo_isLetter_6 : decode b_Mo_isLetter 6 = .ok (.iload_n 0, 1) := by decide +kernel
theorem d_Mo_isLetter_7 : decode b_Mo_isLetter 7 = .ok (.bipush 120, 2) := by decide +kernel
theorem d_Mo_isLetter_9 : decode b_Mo_isLetter 9 = .ok (.if_icmp .eq 69, 3) := by decide +kernel
theorem d_Mo_isLetter_12 : decode b_Mo_isLetter 12 = .ok (.iload_n 0, 1) := by decide +kernel
theorem d_Mo_isLetter_13 : decode b_Mo_isLetter 13 = .ok (.bipush 88, 2) := by decide +kernel
theorem d_Mo_isLetter_15 : decode b_Mo_isLetter 15 = .ok (.if_icmp .eq 63, 3) := by decide +kernel
theorem d_Mo_isLetter_18 : decode b_Mo_isLetter 18 = .ok (.iload_n 0, 1) := by decide +kernel
theorem d_Mo_isLetter_19 : decode b_Mo_isLetter 19 = .ok (.bipush 111, 2) := by decide +kernel
theorem d_Mo_isLetter_21 : decode b_Mo_isLetter 21 = .ok (.if_icmp .eq 57, 3) := by decide +kernel
theorem d_Mo_isLetter_24 : decode b_Mo_isLetter 24 = .ok (.iload_n 0, 1) := by decide +kernel
theorem d_Mo_isLetter_25 : decode b_Mo_isLetter 25 = .ok (.bipush 98, 2) := by decide +kernel
theorem d_Mo_isLetter_27 : decode b_Mo_isLetter 27 = .ok (.if_icmp .eq 51, 3) := by decide +kernel
theorem d_Mo_isLetter_30 : decode b_Mo_isLetter 30 = .ok (.iload_n 0, 1) := by decide +kernel
theorem d_Mo_isLetter_31 : decode b_Mo_isLetter 31 = .ok (.bipush 102, 2) := by decide +kernel
theorem d_Mo_isLetter_33 : decode b_Mo_isLetter 33 = .ok (.if_icmp .eq 45, 3) := by decide +kernel
theorem d_Mo_isLetter_36 : decode b_Mo_isLetter 36 = .ok (.iload_n 0, 1) := by decide +kernel
theorem d_Mo_isLetter_37 : decode b_Mo_isLetter 37 = .ok (.bipush 101, 2) := by decide +kernel
theorem d_Mo_isLetter_39 : decode b_Mo_isLetter 39 = .ok (.if_icmp .eq 39, 3) := by decide +kernel
theorem d_Mo_isLetter_42 : decode b_Mo_isLetter 42 = .ok (.iload_n 0, 1) := by decide +kernel
theorem d_Mo_isLetter_43 : decode b_Mo_isLetter 43 = .ok (.bipush 69, 2) := by decide +kernel
theorem d_Mo_isLetter_45 : decode b_Mo_isLetter 45 = .ok (.if_icmp .eq 33, 3) := by decide +kernel
theorem d_Mo_isLetter_48 : decode b_Mo_isLetter 48 = .ok (.iload_n 0, 1) := by decide +kernel
theorem d_Mo_isLetter_49 : decode b_Mo_isLetter 49 = .ok (.bipush 103, 2) := by decide +kernel
theorem d_Mo_isLetter_51 : decode b_Mo_isLetter 51 = .ok (.if_icmp .eq 27, 3) := by decide +kernel
theorem d_Mo_isLetter_54 : decode b_Mo_isLetter 54 = .ok (.iload_n 0, 1) := by decide +kernel
theorem d_Mo_isLetter_55 : decode b_Mo_isLetter 55 = .ok (.bipush 71, 2) := by decide +kernel
theorem d_Mo_isLetter_57 : decode b_Mo_isLetter 57 = .ok (.if_icmp .eq 21, 3) := by decide +kernel
theorem d_Mo_isLetter_60 : decode b_Mo_isLetter 60 = .ok (.iload_n 0, 1) := by decide +kernel
theorem d_Mo_isLetter_61 : decode b_Mo_isLetter 61 = .ok (.bipush 115, 2) := by decide +kernel
theorem d_Mo_isLetter_63 : decode b_Mo_isLetter 63 = .ok (.if_icmp .eq 15, 3) := by decide +kernel
theorem d_Mo_isLetter_66 : decode b_Mo_isLetter 66 = .ok (.iload_n 0, 1) := by decide +kernel
theorem d_Mo_isLetter_67 : decode b_Mo_isLetter 67 = .ok (.bipush 113, 2) := by decide +kernel
theorem d_Mo_isLetter_69 : decode b_Mo_isLetter 69 = .ok (.if_icmp .eq 9, 3) := by decide +kernel
theorem d_Mo_isLetter_72 : decode b_Mo_isLetter 72 = .ok (.iload_n 0, 1) := by decide +kernel
theorem d_Mo_isLetter_73 : decode b_Mo_isLetter 73 = .ok (.bipush 99, 2) := by decide +kernel
theorem d_Mo_isLetter_75 : decode b_Mo_isLetter 75 = .ok (.if_icmp .ne 7, 3) := by decide +kernel
theorem d_Mo_isLetter_78 : decode b_Mo_isLetter 78 = .ok (.iconst 1, 1) := by decide +kernel
theorem d_Mo_isLetter_79 : decode b_Mo_isLetter 79 = .ok (.goto 4, 3) := by decide +kernel
theorem d_Mo_isLetter_82 : decode b_Mo_isLetter 82 = .ok (.iconst 0, 1) := by decide +kernel
theorem d_Mo_isLetter_83 : decode b_Mo_isLetter 83 = .ok (.ireturn, 1) := by decide +kernel
theorem d_Mo_wrong_0 : decode b_Mo_wrong 0 = .ok (.aload_n 0, 1) := by decide +kernel
theorem d_Mo_wrong_1 : decode b_Mo_wrong 1 = .ok (.iload_n 1, 1) := by decide +kernel
theorem d_Mo_wrong_2 : decode b_Mo_wrong 2 = .ok (.putfield 117, 3) := by decide +kernel
theorem d_Mo_wrong_5 : decode b_Mo_wrong 5 = .ok (.aload_n 0, 1) := by decide +kernel
theorem d_Mo_wrong_6 : decode b_Mo_wrong 6 = .ok (.iload_n 2, 1) := by decide +kernel
theorem d_Mo_wrong_7 : decode b_Mo_wrong 7 = .ok (.putfield 120, 3) := by decide +kernel
theorem d_Mo_wrong_10 : decode b_Mo_wrong 10 = .ok (.iconst 0, 1) := by decide +kernel
theorem d_Mo_wrong_11 : decode b_Mo_wrong 11 = .ok (.ireturn, 1) := by decide +kernel
theorem d_Mo_put_0 : decode b_Mo_put 0 = .ok (.aload_n 0, 1) := by decide +kernel
theorem d_Mo_put_1 : decode b_Mo_put 1 = .ok (.getfield 133, 3) := by decide +kernel
theorem d_Mo_put_4 : decode b_Mo_put 4 = .ok (.sipush 600, 3) := by decide +kernel
theorem d_Mo_put_7 : decode b_Mo_put 7 = .ok (.if_icmp .ne 10, 3) := by decide +kernel
theorem d_Mo_put_10 : decode b_Mo_put 10 = .ok (.aload_n 0, 1) := by decide +kernel
theorem d_Mo_put_11 : decode b_Mo_put 11 = .ok (.iconst 5, 1) := by decide +kernel
theorem d_Mo_put_12 : decode b_Mo_put 12 = .ok (.iload_n 2, 1) := by decide +kernel
theorem d_Mo_put_13 : decode b_Mo_put 13 = .ok (.invokevirtual 129, 3) := by decide +kernel
theorem d_Mo_put_16 : decode b_Mo_put 16 = .ok (.ireturn, 1) := by decide +kernel
theorem d_Mo_put_17 : decode b_Mo_put 17 = .ok (.aload_n 0, 1) := by decide +kernel
theorem d_Mo_put_18 : decode b_Mo_put 18 = .ok (.getfield 38, 3) := by decide +kernel
theorem d_Mo_put_21 : decode b_Mo_put 21 = .ok (.aload_n 0, 1) := by decide +kernel
theorem d_Mo_put_22 : decode b_Mo_put 22 = .ok (.getfield 133, 3) := by decide +kernel
theorem d_Mo_put_25 : decode b_Mo_put 25 = .ok (.iload_n 1, 1) := by decide +kernel
theorem d_Mo_put_26 : decode b_Mo_put 26 = .ok (.iastore, 1) := by decide +kernel
theorem d_Mo_put_27 : decode b_Mo_put 27 = .ok (.aload_n 0, 1) := by decide +kernel
theorem d_Mo_put_28 : decode b_Mo_put 28 = .ok (.dup, 1) := by decide +kernel
theorem d_Mo_put_29 : decode b_Mo_put 29 = .ok (.getfield 133, 3) := by decide +kernel
theorem d_Mo_put_32 : decode b_Mo_put 32 = .ok (.iconst 1, 1) := by decide +kernel
theorem d_Mo_put_33 : decode b_Mo_put 33 = .ok (.iadd, 1) := by decide +kernel
theorem d_Mo_put_34 : decode b_Mo_put 34 = .ok (.putfield 133, 3) := by decide +kernel
theorem d_Mo_put_37 : decode b_Mo_put 37 = .ok (.iconst 1, 1) := by decide +kernel
theorem d_Mo_put_38 : decode b_Mo_put 38 = .ok (.ireturn, 1) := by decide +kernel
theorem d_Mo_wholeOf_0 : decode b_Mo_wholeOf 0 = .ok (.lconst 0, 1) := by decide +kernel
theorem d_Mo_wholeOf_1 : decode b_Mo_wholeOf 1 = .ok (.lstore_n 2, 1) := by decide +kernel
theorem d_Mo_wholeOf_2 : decode b_Mo_wholeOf 2 = .ok (.iconst 0, 1) := by decide +kernel
theorem d_Mo_wholeOf_3 : decode b_Mo_wholeOf 3 = .ok (.istore 4, 2) := by decide +kernel
theorem d_Mo_wholeOf_5 : decode b_Mo_wholeOf 5 = .ok (.iload 4, 2) := by decide +kernel
theorem d_Mo_wholeOf_7 : decode b_Mo_wholeOf 7 = .ok (.aload_n 0, 1) := by decide +kernel
theorem d_Mo_wholeOf_8 : decode b_Mo_wholeOf 8 = .ok (.getfield 26, 3) := by decide +kernel
theorem d_Mo_wholeOf_11 : decode b_Mo_wholeOf 11 = .ok (.iload_n 1, 1) := by decide +kernel
theorem d_Mo_wholeOf_12 : decode b_Mo_wholeOf 12 = .ok (.iaload, 1) := by decide +kernel
theorem d_Mo_wholeOf_13 : decode b_Mo_wholeOf 13 = .ok (.if_icmp .ge 29, 3) := by decide +kernel
theorem d_Mo_wholeOf_16 : decode b_Mo_wholeOf 16 = .ok (.ldc2_w 136, 3) := by decide +kernel
theorem d_Mo_wholeOf_19 : decode b_Mo_wholeOf 19 = .ok (.lload_n 2, 1) := by decide +kernel
theorem d_Mo_wholeOf_20 : decode b_Mo_wholeOf 20 = .ok (.lmul, 1) := by decide +kernel
theorem d_Mo_wholeOf_21 : decode b_Mo_wholeOf 21 = .ok (.aload_n 0, 1) := by decide +kernel
theorem d_Mo_wholeOf_22 : decode b_Mo_wholeOf 22 = .ok (.getfield 23, 3) := by decide +kernel
theorem d_Mo_wholeOf_25 : decode b_Mo_wholeOf 25 = .ok (.bipush 30, 2) := by decide +kernel
theorem d_Mo_wholeOf_27 : decode b_Mo_wholeOf 27 = .ok (.iload_n 1, 1) := by decide +kernel
theorem d_Mo_wholeOf_28 : decode b_Mo_wholeOf 28 = .ok (.imul, 1) := by decide +kernel
theorem d_Mo_wholeOf_29 : decode b_Mo_wholeOf 29 = .ok (.iload 4, 2) := by decide +kernel
theorem d_Mo_wholeOf_31 : decode b_Mo_wholeOf 31 = .ok (.iadd, 1) := by decide +kernel
theorem d_Mo_wholeOf_32 : decode b_Mo_wholeOf 32 = .ok (.iaload, 1) := by decide +kernel
theorem d_Mo_wholeOf_33 : decode b_Mo_wholeOf 33 = .ok (.i2l, 1) := by decide +kernel
theorem d_Mo_wholeOf_34 : decode b_Mo_wholeOf 34 = .ok (.ladd, 1) := by decide +kernel
theorem d_Mo_wholeOf_35 : decode b_Mo_wholeOf 35 = .ok (.lstore_n 2, 1) := by decide +kernel
theorem d_Mo_wholeOf_36 : decode b_Mo_wholeOf 36 = .ok (.iinc 4 1, 3) := by decide +kernel
theorem d_Mo_wholeOf_39 : decode b_Mo_wholeOf 39 = .ok (.goto (-34), 3) := by decide +kernel
theorem d_Mo_wholeOf_42 : decode b_Mo_wholeOf 42 = .ok (.aload_n 0, 1) := by decide +kernel
theorem d_Mo_wholeOf_43 : decode b_Mo_wholeOf 43 = .ok (.getfield 32, 3) := by decide +kernel
theorem d_Mo_wholeOf_46 : decode b_Mo_wholeOf 46 = .ok (.iload_n 1, 1) := by decide +kernel
theorem d_Mo_wholeOf_47 : decode b_Mo_wholeOf 47 = .ok (.baload, 1) := by decide +kernel
theorem d_Mo_wholeOf_48 : decode b_Mo_wholeOf 48 = .ok (.ifCond .eq 8, 3) := by decide +kernel
theorem d_Mo_wholeOf_51 : decode b_Mo_wholeOf 51 = .ok (.lload_n 2, 1) := by decide +kernel
theorem d_Mo_wholeOf_52 : decode b_Mo_wholeOf 52 = .ok (.lneg, 1) := by decide +kernel
theorem d_Mo_wholeOf_53 : decode b_Mo_wholeOf 53 = .ok (.goto 4, 3) := by decide +kernel
theorem d_Mo_wholeOf_56 : decode b_Mo_wholeOf 56 = .ok (.lload_n 2, 1) := by decide +kernel
theorem d_Mo_wholeOf_57 : decode b_Mo_wholeOf 57 = .ok (.lreturn, 1) := by decide +kernel
theorem d_Mo_say_0 : decode b_Mo_say 0 = .ok (.aload_n 0, 1) := by decide +kernel
theorem d_Mo_say_1 : decode b_Mo_say 1 = .ok (.getfield 47, 3) := by decide +kernel
theorem d_Mo_say_4 : decode b_Mo_say 4 = .ok (.aload_n 0, 1) := by decide +kernel
theorem d_Mo_say_5 : decode b_Mo_say 5 = .ok (.getfield 185, 3) := by decide +kernel
theorem d_Mo_say_8 : decode b_Mo_say 8 = .ok (.iload_n 1, 1) := by decide +kernel
theorem d_Mo_say_9 : decode b_Mo_say 9 = .ok (.iastore, 1) := by decide +kernel
theorem d_Mo_say_10 : decode b_Mo_say 10 = .ok (.aload_n 0, 1) := by decide +kernel
theorem d_Mo_say_11 : decode b_Mo_say 11 = .ok (.dup, 1) := by decide +kernel
theorem d_Mo_say_12 : decode b_Mo_say 12 = .ok (.getfield 185, 3) := by decide +kernel
theorem d_Mo_say_15 : decode b_Mo_say 15 = .ok (.iconst 1, 1) := by decide +kernel
theorem d_Mo_say_16 : decode b_Mo_say 16 = .ok (.iadd, 1) := by decide +kernel
theorem d_Mo_say_17 : decode b_Mo_say 17 = .ok (.putfield 185, 3) := by decide +kernel
theorem d_Mo_say_20 : decode b_Mo_say 20 = .ok (.return_, 1) := by decide +kernel
theorem d_Mo_lay_0 : decode b_Mo_lay 0 = .ok (.aload_n 0, 1) := by decide +kernel
theorem d_Mo_lay_1 : decode b_Mo_lay 1 = .ok (.getfield 44, 3) := by decide +kernel
theorem d_Mo_lay_4 : decode b_Mo_lay 4 = .ok (.aload_n 0, 1) := by decide +kernel
theorem d_Mo_lay_5 : decode b_Mo_lay 5 = .ok (.getfield 162, 3) := by decide +kernel
theorem d_Mo_lay_8 : decode b_Mo_lay 8 = .ok (.iload_n 1, 1) := by decide +kernel
theorem d_Mo_lay_9 : decode b_Mo_lay 9 = .ok (.iastore, 1) := by decide +kernel
theorem d_Mo_lay_10 : decode b_Mo_lay 10 = .ok (.aload_n 0, 1) := by decide +kernel
theorem d_Mo_lay_11 : decode b_Mo_lay 11 = .ok (.dup, 1) := by decide +kernel
theorem d_Mo_lay_12 : decode b_Mo_lay 12 = .ok (.getfield 162, 3) := by decide +kernel
theorem d_Mo_lay_15 : decode b_Mo_lay 15 = .ok (.iconst 1, 1) := by decide +kernel
theorem d_Mo_lay_16 : decode b_Mo_lay 16 = .ok (.iadd, 1) := by decide +kernel
theorem d_Mo_lay_17 : decode b_Mo_lay 17 = .ok (.putfield 162, 3) := by decide +kernel
theorem d_Mo_lay_20 : decode b_Mo_lay 20 = .ok (.return_, 1) := by decide +kernel
theorem d_Mo_sign_0 : decode b_Mo_sign 0 = .ok (.iload_n 1, 1) := by decide +kernel
theorem d_Mo_sign_1 : decode b_Mo_sign 1 = .ok (.ifCond .ne 18, 3) := by decide +kernel
theorem d_Mo_sign_4 : decode b_Mo_sign 4 = .ok (.aload_n 0, 1) := by decide +kernel
theorem d_Mo_sign_5 : decode b_Mo_sign 5 = .ok (.getfield 87, 3) := by decide +kernel
theorem d_Mo_sign_8 : decode b_Mo_sign 8 = .ok (.ifCond .ne 11, 3) := by decide +kernel
theorem d_Mo_sign_11 : decode b_Mo_sign 11 = .ok (.aload_n 0, 1) := by decide +kernel
theorem d_Mo_sign_12 : decode b_Mo_sign 12 = .ok (.getfield 96, 3) := by decide +kernel
theorem d_Mo_sign_15 : decode b_Mo_sign 15 = .ok (.ifCond .ne 4, 3) := by decide +kernel
theorem d_Mo_sign_18 : decode b_Mo_sign 18 = .ok (.return_, 1) := by decide +kernel
theorem d_Mo_sign_19 : decode b_Mo_sign 19 = .ok (.aload_n 0, 1) := by decide +kernel
theorem d_Mo_sign_20 : decode b_Mo_sign 20 = .ok (.getfield 41, 3) := by decide +kernel
theorem d_Mo_sign_23 : decode b_Mo_sign 23 = .ok (.aload_n 0, 1) := by decide +kernel
theorem d_Mo_sign_24 : decode b_Mo_sign 24 = .ok (.getfield 159, 3) := by decide +kernel
theorem d_Mo_sign_27 : decode b_Mo_sign 27 = .ok (.iload_n 1, 1) := by decide +kernel
theorem d_Mo_sign_28 : decode b_Mo_sign 28 = .ok (.ifCond .eq 8, 3) := by decide +kernel
theorem d_Mo_sign_31 : decode b_Mo_sign 31 = .ok (.bipush 45, 2) := by decide +kernel
theorem d_Mo_sign_33 : decode b_Mo_sign 33 = .ok (.goto 17, 3) := by decide +kernel
theorem d_Mo_sign_36 : decode b_Mo_sign 36 = .ok (.aload_n 0, 1) := by decide +kernel
theorem d_Mo_sign_37 : decode b_Mo_sign 37 = .ok (.getfield 87, 3) := by decide +kernel
theorem d_Mo_sign_40 : decode b_Mo_sign 40 = .ok (.ifCond .eq 8, 3) := by decide +kernel
theorem d_Mo_sign_43 : decode b_Mo_sign 43 = .ok (.bipush 43, 2) := by decide +kernel
theorem d_Mo_sign_45 : decode b_Mo_sign 45 = .ok (.goto 5, 3) := by decide +kernel
theorem d_Mo_sign_48 : decode b_Mo_sign 48 = .ok (.bipush 32, 2) := by decide +kernel
theorem d_Mo_sign_50 : decode b_Mo_sign 50 = .ok (.iastore, 1) := by decide +kernel
theorem d_Mo_sign_51 : decode b_Mo_sign 51 = .ok (.aload_n 0, 1) := by decide +kernel
theorem d_Mo_sign_52 : decode b_Mo_sign 52 = .ok (.dup, 1) := by decide +kernel
theorem d_Mo_sign_53 : decode b_Mo_sign 53 = .ok (.getfield 159, 3) := by decide +kernel
theorem d_Mo_sign_56 : decode b_Mo_sign 56 = .ok (.iconst 1, 1) := by decide +kernel
theorem d_Mo_sign_57 : decode b_Mo_sign 57 = .ok (.iadd, 1) := by decide +kernel
theorem d_Mo_sign_58 : decode b_Mo_sign 58 = .ok (.putfield 159, 3) := by decide +kernel
theorem d_Mo_sign_61 : decode b_Mo_sign 61 = .ok (.return_, 1) := by decide +kernel
theorem d_Mo_fault_0 : decode b_Mo_fault 0 = .ok (.aload_n 0, 1) := by decide +kernel
theorem d_Mo_fault_1 : decode b_Mo_fault 1 = .ok (.iconst 0, 1) := by decide +kernel
theorem d_Mo_fault_2 : decode b_Mo_fault 2 = .ok (.putfield 56, 3) := by decide +kernel
theorem d_Mo_fault_5 : decode b_Mo_fault 5 = .ok (.iload_n 1, 1) := by decide +kernel
theorem d_Mo_fault_6 : decode b_Mo_fault 6 = .ok (.ifCond .ne 10, 3) := by decide +kernel
theorem d_Mo_fault_9 : decode b_Mo_fault 9 = .ok (.aload_n 0, 1) := by decide +kernel
theorem d_Mo_fault_10 : decode b_Mo_fault 10 = .ok (.getfield 117, 3) := by decide +kernel
theorem d_Mo_fault_13 : decode b_Mo_fault 13 = .ok (.goto 16, 3) := by decide +kernel
theorem d_Mo_fault_16 : decode b_Mo_fault 16 = .ok (.iload_n 1, 1) := by decide +kernel
theorem d_Mo_fault_17 : decode b_Mo_fault 17 = .ok (.iconst 1, 1) := by decide +kernel
theorem d_Mo_fault_18 : decode b_Mo_fault 18 = .ok (.if_icmp .ne 10, 3) := by decide +kernel
theorem d_Mo_fault_21 : decode b_Mo_fault 21 = .ok (.aload_n 0, 1) := by decide +kernel
theorem d_Mo_fault_22 : decode b_Mo_fault 22 = .ok (.getfield 120, 3) := by decide +kernel
theorem d_Mo_fault_25 : decode b_Mo_fault 25 = .ok (.goto 4, 3) := by decide +kernel
theorem d_Mo_fault_28 : decode b_Mo_fault 28 = .ok (.iconst (-1), 1) := by decide +kernel
theorem d_Mo_fault_29 : decode b_Mo_fault 29 = .ok (.ireturn, 1) := by decide +kernel
theorem d_Mo_letter_0 : decode b_Mo_letter 0 = .ok (.aload_n 0, 1) := by decide +kernel
theorem d_Mo_letter_1 : decode b_Mo_letter 1 = .ok (.aload_n 0, 1) := by decide +kernel
theorem d_Mo_letter_2 : decode b_Mo_letter 2 = .ok (.getfield 235, 3) := by decide +kernel
theorem d_Mo_letter_5 : decode b_Mo_letter 5 = .ok (.ifCond .eq 19, 3) := by decide +kernel
theorem d_Mo_letter_8 : decode b_Mo_letter 8 = .ok (.iload_n 1, 1) := by decide +kernel
theorem d_Mo_letter_9 : decode b_Mo_letter 9 = .ok (.ifCond .lt 15, 3) := by decide +kernel
theorem d_Mo_letter_12 : decode b_Mo_letter 12 = .ok (.iload_n 1, 1) := by decide +kernel
theorem d_Mo_letter_13 : decode b_Mo_letter 13 = .ok (.aload_n 0, 1) := by decide +kernel
theorem d_Mo_letter_14 : decode b_Mo_letter 14 = .ok (.getfield 238, 3) := by decide +kernel
theorem d_Mo_letter_17 : decode b_Mo_letter 17 = .ok (.if_icmp .ge 7, 3) := by decide +kernel
theorem d_Mo_letter_20 : decode b_Mo_letter 20 = .ok (.iconst 0, 1) := by decide +kernel
theorem d_Mo_letter_21 : decode b_Mo_letter 21 = .ok (.goto 4, 3) := by decide +kernel
theorem d_Mo_letter_24 : decode b_Mo_letter 24 = .ok (.iconst 1, 1) := by decide +kernel
theorem d_Mo_letter_25 : decode b_Mo_letter 25 = .ok (.putfield 56, 3) := by decide +kernel
theorem d_Mo_letter_28 : decode b_Mo_letter 28 = .ok (.aload_n 0, 1) := by decide +kernel
theorem d_Mo_letter_29 : decode b_Mo_letter 29 = .ok (.getfield 56, 3) := by decide +kernel
theorem d_Mo_letter_32 : decode b_Mo_letter 32 = .ok (.ifCond .ne 12, 3) := by decide +kernel
theorem d_Mo_letter_35 : decode b_Mo_letter 35 = .ok (.aload_n 0, 1) := by decide +kernel
theorem d_Mo_letter_36 : decode b_Mo_letter 36 = .ok (.getfield 35, 3) := by decide +kernel
theorem d_Mo_letter_39 : decode b_Mo_letter 39 = .ok (.iload_n 1, 1) := by decide +kernel
theorem d_Mo_letter_40 : decode b_Mo_letter 40 = .ok (.iaload, 1) := by decide +kernel
theorem d_Mo_letter_41 : decode b_Mo_letter 41 = .ok (.goto 4, 3) := by decide +kernel
theorem d_Mo_letter_44 : decode b_Mo_letter 44 = .ok (.iconst 0, 1) := by decide +kernel
theorem d_Mo_letter_45 : decode b_Mo_letter 45 = .ok (.ireturn, 1) := by decide +kernel
theorem d_Mo_letters_0 : decode b_Mo_letters 0 = .ok (.aload_n 0, 1) := by decide +kernel
theorem d_Mo_letters_1 : decode b_Mo_letters 1 = .ok (.iconst 0, 1) := by decide +kernel
theorem d_Mo_letters_2 : decode b_Mo_letters 2 = .ok (.putfield 56, 3) := by decide +kernel
theorem d_Mo_letters_5 : decode b_Mo_letters 5 = .ok (.aload_n 0, 1) := by decide +kernel
theorem d_Mo_letters_6 : decode b_Mo_letters 6 = .ok (.getfield 235, 3) := by decide +kernel
theorem d_Mo_letters_9 : decode b_Mo_letters 9 = .ok (.ifCond .eq 10, 3) := by decide +kernel
theorem d_Mo_letters_12 : decode b_Mo_letters 12 = .ok (.aload_n 0, 1) := by decide +kernel
theorem d_Mo_letters_13 : decode b_Mo_letters 13 = .ok (.getfield 238, 3) := by decide +kernel
theorem d_Mo_letters_16 : decode b_Mo_letters 16 = .ok (.goto 4, 3) := by decide +kernel
theorem d_Mo_letters_19 : decode b_Mo_letters 19 = .ok (.iconst (-1), 1) := by decide +kernel
theorem d_Mo_letters_20 : decode b_Mo_letters 20 = .ok (.ireturn, 1) := by decide +kernel
