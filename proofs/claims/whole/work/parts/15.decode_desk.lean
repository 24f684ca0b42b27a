theorem d_De_init_0 : decode b_De_init 0 = .ok (.aload_n 0, 1) := by decide +kernel
theorem d_De_init_1 : decode b_De_init 1 = .ok (.invokespecial 1, 3) := by decide +kernel
theorem d_De_init_4 : decode b_De_init 4 = .ok (.aload_n 0, 1) := by decide +kernel
theorem d_De_init_5 : decode b_De_init 5 = .ok (.new 7, 3) := by decide +kernel
theorem d_De_init_8 : decode b_De_init 8 = .ok (.dup, 1) := by decide +kernel
theorem d_De_init_9 : decode b_De_init 9 = .ok (.sipush 200, 3) := by decide +kernel
theorem d_De_init_12 : decode b_De_init 12 = .ok (.invokespecial 11, 3) := by decide +kernel
theorem d_De_init_15 : decode b_De_init 15 = .ok (.putfield 14, 3) := by decide +kernel
theorem d_De_init_18 : decode b_De_init 18 = .ok (.aload_n 0, 1) := by decide +kernel
theorem d_De_init_19 : decode b_De_init 19 = .ok (.bipush 12, 2) := by decide +kernel
theorem d_De_init_21 : decode b_De_init 21 = .ok (.anewarray 18, 3) := by decide +kernel
theorem d_De_init_24 : decode b_De_init 24 = .ok (.putfield 20, 3) := by decide +kernel
theorem d_De_init_27 : decode b_De_init 27 = .ok (.aload_n 0, 1) := by decide +kernel
theorem d_De_init_28 : decode b_De_init 28 = .ok (.new 18, 3) := by decide +kernel
theorem d_De_init_31 : decode b_De_init 31 = .ok (.dup, 1) := by decide +kernel
theorem d_De_init_32 : decode b_De_init 32 = .ok (.invokespecial 24, 3) := by decide +kernel
theorem d_De_init_35 : decode b_De_init 35 = .ok (.putfield 25, 3) := by decide +kernel
theorem d_De_init_38 : decode b_De_init 38 = .ok (.aload_n 0, 1) := by decide +kernel
theorem d_De_init_39 : decode b_De_init 39 = .ok (.new 29, 3) := by decide +kernel
theorem d_De_init_42 : decode b_De_init 42 = .ok (.dup, 1) := by decide +kernel
theorem d_De_init_43 : decode b_De_init 43 = .ok (.invokespecial 31, 3) := by decide +kernel
theorem d_De_init_46 : decode b_De_init 46 = .ok (.putfield 32, 3) := by decide +kernel
theorem d_De_init_49 : decode b_De_init 49 = .ok (.aload_n 0, 1) := by decide +kernel
theorem d_De_init_50 : decode b_De_init 50 = .ok (.new 36, 3) := by decide +kernel
theorem d_De_init_53 : decode b_De_init 53 = .ok (.dup, 1) := by decide +kernel
theorem d_De_init_54 : decode b_De_init 54 = .ok (.invokespecial 38, 3) := by decide +kernel
theorem d_De_init_57 : decode b_De_init 57 = .ok (.putfield 39, 3) := by decide +kernel
theorem d_De_init_60 : decode b_De_init 60 = .ok (.aload_n 0, 1) := by decide +kernel
theorem d_De_init_61 : decode b_De_init 61 = .ok (.new 7, 3) := by decide +kernel
theorem d_De_init_64 : decode b_De_init 64 = .ok (.dup, 1) := by decide +kernel
theorem d_De_init_65 : decode b_De_init 65 = .ok (.sipush 600, 3) := by decide +kernel
theorem d_De_init_68 : decode b_De_init 68 = .ok (.invokespecial 11, 3) := by decide +kernel
theorem d_De_init_71 : decode b_De_init 71 = .ok (.putfield 43, 3) := by decide +kernel
theorem d_De_init_74 : decode b_De_init 74 = .ok (.aload_n 0, 1) := by decide +kernel
theorem d_De_init_75 : decode b_De_init 75 = .ok (.new 7, 3) := by decide +kernel
theorem d_De_init_78 : decode b_De_init 78 = .ok (.dup, 1) := by decide +kernel
theorem d_De_init_79 : decode b_De_init 79 = .ok (.sipush 600, 3) := by decide +kernel
theorem d_De_init_82 : decode b_De_init 82 = .ok (.invokespecial 11, 3) := by decide +kernel
theorem d_De_init_85 : decode b_De_init 85 = .ok (.putfield 46, 3) := by decide +kernel
theorem d_De_init_88 : decode b_De_init 88 = .ok (.iconst 0, 1) := by decide +kernel
theorem d_De_init_89 : decode b_De_init 89 = .ok (.istore_n 1, 1) := by decide +kernel
theorem d_De_init_90 : decode b_De_init 90 = .ok (.iload_n 1, 1) := by decide +kernel
theorem d_De_init_91 : decode b_De_init 91 = .ok (.aload_n 0, 1) := by decide +kernel
theorem d_De_init_92 : decode b_De_init 92 = .ok (.getfield 20, 3) := by decide +kernel
theorem d_De_init_95 : decode b_De_init 95 = .ok (.arraylength, 1) := by decide +kernel
theorem d_De_init_96 : decode b_De_init 96 = .ok (.if_icmp .ge 22, 3) := by decide +kernel
theorem d_De_init_99 : decode b_De_init 99 = .ok (.aload_n 0, 1) := by decide +kernel
theorem d_De_init_100 : decode b_De_init 100 = .ok (.getfield 20, 3) := by decide +kernel
theorem d_De_init_103 : decode b_De_init 103 = .ok (.iload_n 1, 1) := by decide +kernel
theorem d_De_init_104 : decode b_De_init 104 = .ok (.new 18, 3) := by decide +kernel
theorem d_De_init_107 : decode b_De_init 107 = .ok (.dup, 1) := by decide +kernel
theorem d_De_init_108 : decode b_De_init 108 = .ok (.invokespecial 24, 3) := by decide +kernel
theorem d_De_init_111 : decode b_De_init 111 = .ok (.aastore, 1) := by decide +kernel
theorem d_De_init_112 : decode b_De_init 112 = .ok (.iinc 1 1, 3) := by decide +kernel
theorem d_De_init_115 : decode b_De_init 115 = .ok (.goto (-25), 3) := by decide +kernel
theorem d_De_init_118 : decode b_De_init 118 = .ok (.return_, 1) := by decide +kernel
theorem d_De_type_0 : decode b_De_type 0 = .ok (.iload_n 3, 1) := by decide +kernel
theorem d_De_type_1 : decode b_De_type 1 = .ok (.iconst 1, 1) := by decide +kernel
theorem d_De_type_2 : decode b_De_type 2 = .ok (.if_icmp .lt 20, 3) := by decide +kernel
theorem d_De_type_5 : decode b_De_type 5 = .ok (.iload_n 3, 1) := by decide +kernel
theorem d_De_type_6 : decode b_De_type 6 = .ok (.bipush 8, 2) := by decide +kernel
theorem d_De_type_8 : decode b_De_type 8 = .ok (.if_icmp .gt 14, 3) := by decide +kernel
theorem d_De_type_11 : decode b_De_type 11 = .ok (.aload_n 0, 1) := by decide +kernel
theorem d_De_type_12 : decode b_De_type 12 = .ok (.getfield 14, 3) := by decide +kernel
theorem d_De_type_15 : decode b_De_type 15 = .ok (.iload_n 3, 1) := by decide +kernel
theorem d_De_type_16 : decode b_De_type 16 = .ok (.invokevirtual 49, 3) := by decide +kernel
theorem d_De_type_19 : decode b_De_type 19 = .ok (.ifCond .ne 5, 3) := by decide +kernel
theorem d_De_type_22 : decode b_De_type 22 = .ok (.iconst 0, 1) := by decide +kernel
theorem d_De_type_23 : decode b_De_type 23 = .ok (.ireturn, 1) := by decide +kernel
theorem d_De_type_24 : decode b_De_type 24 = .ok (.iconst 0, 1) := by decide +kernel
theorem d_De_type_25 : decode b_De_type 25 = .ok (.istore 4, 2) := by decide +kernel
theorem d_De_type_27 : decode b_De_type 27 = .ok (.iload 4, 2) := by decide +kernel
theorem d_De_type_29 : decode b_De_type 29 = .ok (.iload_n 3, 1) := by decide +kernel
theorem d_De_type_30 : decode b_De_type 30 = .ok (.if_icmp .ge 33, 3) := by decide +kernel
theorem d_De_type_33 : decode b_De_type 33 = .ok (.lload_n 1, 1) := by decide +kernel
theorem d_De_type_34 : decode b_De_type 34 = .ok (.iload 4, 2) := by decide +kernel
theorem d_De_type_36 : decode b_De_type 36 = .ok (.invokestatic 53, 3) := by decide +kernel
theorem d_De_type_39 : decode b_De_type 39 = .ok (.istore 5, 2) := by decide +kernel
theorem d_De_type_41 : decode b_De_type 41 = .ok (.iload 5, 2) := by decide +kernel
theorem d_De_type_43 : decode b_De_type 43 = .ok (.bipush 32, 2) := by decide +kernel
theorem d_De_type_45 : decode b_De_type 45 = .ok (.if_icmp .lt 10, 3) := by decide +kernel
theorem d_De_type_48 : decode b_De_type 48 = .ok (.iload 5, 2) := by decide +kernel
theorem d_De_type_50 : decode b_De_type 50 = .ok (.bipush 126, 2) := by decide +kernel
theorem d_De_type_52 : decode b_De_type 52 = .ok (.if_icmp .le 5, 3) := by decide +kernel
theorem d_De_type_55 : decode b_De_type 55 = .ok (.iconst 0, 1) := by decide +kernel
theorem d_De_type_56 : decode b_De_type 56 = .ok (.ireturn, 1) := by decide +kernel
theorem d_De_type_57 : decode b_De_type 57 = .ok (.iinc 4 1, 3) := by decide +kernel
theorem d_De_type_60 : decode b_De_type 60 = .ok (.goto (-33), 3) := by decide +kernel
theorem d_De_type_63 : decode b_De_type 63 = .ok (.iload_n 3, 1) := by decide +kernel
theorem d_De_type_64 : decode b_De_type 64 = .ok (.iconst 1, 1) := by decide +kernel
theorem d_De_type_65 : decode b_De_type 65 = .ok (.isub, 1) := by decide +kernel
theorem d_De_type_66 : decode b_De_type 66 = .ok (.istore 4, 2) := by decide +kernel
theorem d_De_type_68 : decode b_De_type 68 = .ok (.iload 4, 2) := by decide +kernel
theorem d_De_type_70 : decode b_De_type 70 = .ok (.ifCond .lt 22, 3) := by decide +kernel
theorem d_De_type_73 : decode b_De_type 73 = .ok (.aload_n 0, 1) := by decide +kernel
theorem d_De_type_74 : decode b_De_type 74 = .ok (.getfield 14, 3) := by decide +kernel
theorem d_De_type_77 : decode b_De_type 77 = .ok (.lload_n 1, 1) := by decide +kernel
theorem d_De_type_78 : decode b_De_type 78 = .ok (.iload 4, 2) := by decide +kernel
theorem d_De_type_80 : decode b_De_type 80 = .ok (.invokestatic 53, 3) := by decide +kernel
theorem d_De_type_83 : decode b_De_type 83 = .ok (.invokevirtual 57, 3) := by decide +kernel
theorem d_De_type_86 : decode b_De_type 86 = .ok (.iinc 4 (-1), 3) := by decide +kernel
theorem d_De_type_89 : decode b_De_type 89 = .ok (.goto (-21), 3) := by decide +kernel
theorem d_De_type_92 : decode b_De_type 92 = .ok (.iconst 1, 1) := by decide +kernel
theorem d_De_type_93 : decode b_De_type 93 = .ok (.ireturn, 1) := by decide +kernel
theorem d_De_byteOf_0 : decode b_De_byteOf 0 = .ok (.lload_n 0, 1) := by decide +kernel
theorem d_De_byteOf_1 : decode b_De_byteOf 1 = .ok (.bipush 8, 2) := by decide +kernel
theorem d_De_byteOf_3 : decode b_De_byteOf 3 = .ok (.iload_n 2, 1) := by decide +kernel
theorem d_De_byteOf_4 : decode b_De_byteOf 4 = .ok (.imul, 1) := by decide +kernel
theorem d_De_byteOf_5 : decode b_De_byteOf 5 = .ok (.lushr, 1) := by decide +kernel
theorem d_De_byteOf_6 : decode b_De_byteOf 6 = .ok (.l2i, 1) := by decide +kernel
theorem d_De_byteOf_7 : decode b_De_byteOf 7 = .ok (.sipush 255, 3) := by decide +kernel
theorem d_De_byteOf_10 : decode b_De_byteOf 10 = .ok (.iand, 1) := by decide +kernel
theorem d_De_byteOf_11 : decode b_De_byteOf 11 = .ok (.ireturn, 1) := by decide +kernel
theorem d_De_text_0 : decode b_De_text 0 = .ok (.aload_n 0, 1) := by decide +kernel
theorem d_De_text_1 : decode b_De_text 1 = .ok (.getfield 14, 3) := by decide +kernel
theorem d_De_text_4 : decode b_De_text 4 = .ok (.invokevirtual 60, 3) := by decide +kernel
theorem d_De_text_7 : decode b_De_text 7 = .ok (.bipush 60, 2) := by decide +kernel
theorem d_De_text_9 : decode b_De_text 9 = .ok (.if_icmp .gt 12, 3) := by decide +kernel
theorem d_De_text_12 : decode b_De_text 12 = .ok (.aload_n 0, 1) := by decide +kernel
theorem d_De_text_13 : decode b_De_text 13 = .ok (.getfield 64, 3) := by decide +kernel
theorem d_De_text_16 : decode b_De_text 16 = .ok (.bipush 12, 2) := by decide +kernel
theorem d_De_text_18 : decode b_De_text 18 = .ok (.if_icmp .lt 5, 3) := by decide +kernel
theorem d_De_text_21 : decode b_De_text 21 = .ok (.iconst (-1), 1) := by decide +kernel
theorem d_De_text_22 : decode b_De_text 22 = .ok (.ireturn, 1) := by decide +kernel
theorem d_De_text_23 : decode b_De_text 23 = .ok (.aload_n 0, 1) := by decide +kernel
theorem d_De_text_24 : decode b_De_text 24 = .ok (.getfield 20, 3) := by decide +kernel
theorem d_De_text_27 : decode b_De_text 27 = .ok (.aload_n 0, 1) := by decide +kernel
theorem d_De_text_28 : decode b_De_text 28 = .ok (.getfield 64, 3) := by decide +kernel
theorem d_De_text_31 : decode b_De_text 31 = .ok (.aaload, 1) := by decide +kernel
theorem d_De_text_32 : decode b_De_text 32 = .ok (.aload_n 0, 1) := by decide +kernel
theorem d_De_text_33 : decode b_De_text 33 = .ok (.getfield 14, 3) := by decide +kernel
theorem d_De_text_36 : decode b_De_text 36 = .ok (.invokevirtual 68, 3) := by decide +kernel
theorem d_De_text_39 : decode b_De_text 39 = .ok (.aload_n 0, 1) := by decide +kernel
theorem d_De_text_40 : decode b_De_text 40 = .ok (.getfield 14, 3) := by decide +kernel
theorem d_De_text_43 : decode b_De_text 43 = .ok (.invokevirtual 72, 3) := by decide +kernel
theorem d_De_text_46 : decode b_De_text 46 = .ok (.aload_n 0, 1) := by decide +kernel
theorem d_De_text_47 : decode b_De_text 47 = .ok (.dup, 1) := by decide +kernel
theorem d_De_text_48 : decode b_De_text 48 = .ok (.getfield 64, 3) := by decide +kernel
theorem d_De_text_51 : decode b_De_text 51 = .ok (.iconst 1, 1) := by decide +kernel
theorem d_De_text_52 : decode b_De_text 52 = .ok (.iadd, 1) := by decide +kernel
theorem d_De_text_53 : decode b_De_text 53 = .ok (.putfield 64, 3) := by decide +kernel
theorem d_De_text_56 : decode b_De_text 56 = .ok (.aload_n 0, 1) := by decide +kernel
theorem d_De_text_57 : decode b_De_text 57 = .ok (.getfield 64, 3) := by decide +kernel
theorem d_De_text_60 : decode b_De_text 60 = .ok (.ireturn, 1) := by decide +kernel
theorem d_De_clear_0 : decode b_De_clear 0 = .ok (.aload_n 0, 1) := by decide +kernel
theorem d_De_clear_1 : decode b_De_clear 1 = .ok (.getfield 64, 3) := by decide +kernel
theorem d_De_clear_4 : decode b_De_clear 4 = .ok (.istore_n 1, 1) := by decide +kernel
theorem d_De_clear_5 : decode b_De_clear 5 = .ok (.aload_n 0, 1) := by decide +kernel
theorem d_De_clear_6 : decode b_De_clear 6 = .ok (.iconst 0, 1) := by decide +kernel
theorem d_De_clear_7 : decode b_De_clear 7 = .ok (.putfield 64, 3) := by decide +kernel
theorem d_De_clear_10 : decode b_De_clear 10 = .ok (.iload_n 1, 1) := by decide +kernel
theorem d_De_clear_11 : decode b_De_clear 11 = .ok (.ireturn, 1) := by decide +kernel
theorem d_De_fault_0 : decode b_De_fault 0 = .ok (.iload_n 1, 1) := by decide +kernel
theorem d_De_fault_1 : decode b_De_fault 1 = .ok (.ifCond .ne 8, 3) := by decide +kernel
theorem d_De_fault_4 : decode b_De_fault 4 = .ok (.aload_n 0, 1) := by decide +kernel
theorem d_De_fault_5 : decode b_De_fault 5 = .ok (.getfield 91, 3) := by decide +kernel
theorem d_De_fault_8 : decode b_De_fault 8 = .ok (.ireturn, 1) := by decide +kernel
theorem d_De_fault_9 : decode b_De_fault 9 = .ok (.iload_n 1, 1) := by decide +kernel
theorem d_De_fault_10 : decode b_De_fault 10 = .ok (.iconst 1, 1) := by decide +kernel
theorem d_De_fault_11 : decode b_De_fault 11 = .ok (.if_icmp .ne 10, 3) := by decide +kernel
theorem d_De_fault_14 : decode b_De_fault 14 = .ok (.aload_n 0, 1) := by decide +kernel
theorem d_De_fault_15 : decode b_De_fault 15 = .ok (.getfield 94, 3) := by decide +kernel
theorem d_De_fault_18 : decode b_De_fault 18 = .ok (.goto 4, 3) := by decide +kernel
theorem d_De_fault_21 : decode b_De_fault 21 = .ok (.iconst (-1), 1) := by decide +kernel
theorem d_De_fault_22 : decode b_De_fault 22 = .ok (.ireturn, 1) := by decide +kernel
theorem d_De_letters_0 : decode b_De_letters 0 = .ok (.aload_n 0, 1) := by decide +kernel
theorem d_De_letters_1 : decode b_De_letters 1 = .ok (.getfield 109, 3) := by decide +kernel
theorem d_De_letters_4 : decode b_De_letters 4 = .ok (.ifCond .eq 13, 3) := by decide +kernel
theorem d_De_letters_7 : decode b_De_letters 7 = .ok (.aload_n 0, 1) := by decide +kernel
theorem d_De_letters_8 : decode b_De_letters 8 = .ok (.getfield 43, 3) := by decide +kernel
theorem d_De_letters_11 : decode b_De_letters 11 = .ok (.invokevirtual 60, 3) := by decide +kernel
theorem d_De_letters_14 : decode b_De_letters 14 = .ok (.goto 4, 3) := by decide +kernel
theorem d_De_letters_17 : decode b_De_letters 17 = .ok (.iconst (-1), 1) := by decide +kernel
theorem d_De_letters_18 : decode b_De_letters 18 = .ok (.ireturn, 1) := by decide +kernel
theorem d_De_alike_0 : decode b_De_alike 0 = .ok (.iload_n 1, 1) := by decide +kernel
theorem d_De_alike_1 : decode b_De_alike 1 = .ok (.ifCond .lt 23, 3) := by decide +kernel
theorem d_De_alike_4 : decode b_De_alike 4 = .ok (.iload_n 1, 1) := by decide +kernel
theorem d_De_alike_5 : decode b_De_alike 5 = .ok (.aload_n 0, 1) := by decide +kernel
theorem d_De_alike_6 : decode b_De_alike 6 = .ok (.getfield 64, 3) := by decide +kernel
theorem d_De_alike_9 : decode b_De_alike 9 = .ok (.if_icmp .ge 15, 3) := by decide +kernel
theorem d_De_alike_12 : decode b_De_alike 12 = .ok (.iload_n 2, 1) := by decide +kernel
theorem d_De_alike_13 : decode b_De_alike 13 = .ok (.ifCond .lt 11, 3) := by decide +kernel
theorem d_De_alike_16 : decode b_De_alike 16 = .ok (.iload_n 2, 1) := by decide +kernel
theorem d_De_alike_17 : decode b_De_alike 17 = .ok (.aload_n 0, 1) := by decide +kernel
theorem d_De_alike_18 : decode b_De_alike 18 = .ok (.getfield 64, 3) := by decide +kernel
theorem d_De_alike_21 : decode b_De_alike 21 = .ok (.if_icmp .lt 5, 3) := by decide +kernel
theorem d_De_alike_24 : decode b_De_alike 24 = .ok (.iconst 0, 1) := by decide +kernel
theorem d_De_alike_25 : decode b_De_alike 25 = .ok (.ireturn, 1) := by decide +kernel
theorem d_De_alike_26 : decode b_De_alike 26 = .ok (.aload_n 0, 1) := by decide +kernel
theorem d_De_alike_27 : decode b_De_alike 27 = .ok (.getfield 20, 3) := by decide +kernel
theorem d_De_alike_30 : decode b_De_alike 30 = .ok (.iload_n 1, 1) := by decide +kernel
theorem d_De_alike_31 : decode b_De_alike 31 = .ok (.aaload, 1) := by decide +kernel
theorem d_De_alike_32 : decode b_De_alike 32 = .ok (.aload_n 0, 1) := by decide +kernel
theorem d_De_alike_33 : decode b_De_alike 33 = .ok (.getfield 20, 3) := by decide +kernel
theorem d_De_alike_36 : decode b_De_alike 36 = .ok (.iload_n 2, 1) := by decide +kernel
theorem d_De_alike_37 : decode b_De_alike 37 = .ok (.aaload, 1) := by decide +kernel
theorem d_De_alike_38 : decode b_De_alike 38 = .ok (.invokevirtual 122, 3) := by decide +kernel
theorem d_De_alike_41 : decode b_De_alike 41 = .ok (.ireturn, 1) := by decide +kernel
theorem d_De_decimal_0 : decode b_De_decimal 0 = .ok (.aload_n 0, 1) := by decide +kernel
theorem d_De_decimal_1 : decode b_De_decimal 1 = .ok (.getfield 64, 3) := by decide +kernel
theorem d_De_decimal_4 : decode b_De_decimal 4 = .ok (.bipush 12, 2) := by decide +kernel
theorem d_De_decimal_6 : decode b_De_decimal 6 = .ok (.if_icmp .ge 15, 3) := by decide +kernel
theorem d_De_decimal_9 : decode b_De_decimal 9 = .ok (.aload_n 0, 1) := by decide +kernel
theorem d_De_decimal_10 : decode b_De_decimal 10 = .ok (.getfield 20, 3) := by decide +kernel
theorem d_De_decimal_13 : decode b_De_decimal 13 = .ok (.aload_n 0, 1) := by decide +kernel
theorem d_De_decimal_14 : decode b_De_decimal 14 = .ok (.getfield 64, 3) := by decide +kernel
theorem d_De_decimal_17 : decode b_De_decimal 17 = .ok (.aaload, 1) := by decide +kernel
theorem d_De_decimal_18 : decode b_De_decimal 18 = .ok (.goto 7, 3) := by decide +kernel
theorem d_De_decimal_21 : decode b_De_decimal 21 = .ok (.aload_n 0, 1) := by decide +kernel
theorem d_De_decimal_22 : decode b_De_decimal 22 = .ok (.getfield 25, 3) := by decide +kernel
theorem d_De_decimal_25 : decode b_De_decimal 25 = .ok (.astore_n 1, 1) := by decide +kernel
theorem d_De_decimal_26 : decode b_De_decimal 26 = .ok (.aload_n 1, 1) := by decide +kernel
theorem d_De_decimal_27 : decode b_De_decimal 27 = .ok (.aload_n 0, 1) := by decide +kernel
theorem d_De_decimal_28 : decode b_De_decimal 28 = .ok (.getfield 14, 3) := by decide +kernel
theorem d_De_decimal_31 : decode b_De_decimal 31 = .ok (.invokevirtual 75, 3) := by decide +kernel
theorem d_De_decimal_34 : decode b_De_decimal 34 = .ok (.istore_n 2, 1) := by decide +kernel
theorem d_De_decimal_35 : decode b_De_decimal 35 = .ok (.aload_n 0, 1) := by decide +kernel
theorem d_De_decimal_36 : decode b_De_decimal 36 = .ok (.getfield 14, 3) := by decide +kernel
theorem d_De_decimal_39 : decode b_De_decimal 39 = .ok (.invokevirtual 72, 3) := by decide +kernel
theorem d_De_decimal_42 : decode b_De_decimal 42 = .ok (.iload_n 2, 1) := by decide +kernel
theorem d_De_decimal_43 : decode b_De_decimal 43 = .ok (.ifCond .ne 13, 3) := by decide +kernel
theorem d_De_decimal_46 : decode b_De_decimal 46 = .ok (.new 79, 3) := by decide +kernel
theorem d_De_decimal_49 : decode b_De_decimal 49 = .ok (.dup, 1) := by decide +kernel
theorem d_De_decimal_50 : decode b_De_decimal 50 = .ok (.ldc 81, 2) := by decide +kernel
theorem d_De_decimal_52 : decode b_De_decimal 52 = .ok (.invokespecial 83, 3) := by decide +kernel
theorem d_De_decimal_55 : decode b_De_decimal 55 = .ok (.athrow, 1) := by decide +kernel
theorem d_De_decimal_56 : decode b_De_decimal 56 = .ok (.aload_n 0, 1) := by decide +kernel
theorem d_De_decimal_57 : decode b_De_decimal 57 = .ok (.getfield 64, 3) := by decide +kernel
theorem d_De_decimal_60 : decode b_De_decimal 60 = .ok (.bipush 12, 2) := by decide +kernel
theorem d_De_decimal_62 : decode b_De_decimal 62 = .ok (.if_icmp .lt 13, 3) := by decide +kernel
theorem d_De_decimal_65 : decode b_De_decimal 65 = .ok (.new 86, 3) := by decide +kernel
theorem d_De_decimal_68 : decode b_De_decimal 68 = .ok (.dup, 1) := by decide +kernel
theorem d_De_decimal_69 : decode b_De_decimal 69 = .ok (.ldc 88, 2) := by decide +kernel
theorem d_De_decimal_71 : decode b_De_decimal 71 = .ok (.invokespecial 90, 3) := by decide +kernel
theorem d_De_decimal_74 : decode b_De_decimal 74 = .ok (.athrow, 1) := by decide +kernel
theorem d_De_decimal_75 : decode b_De_decimal 75 = .ok (.aload_n 0, 1) := by decide +kernel
theorem d_De_decimal_76 : decode b_De_decimal 76 = .ok (.dup, 1) := by decide +kernel
theorem d_De_decimal_77 : decode b_De_decimal 77 = .ok (.getfield 64, 3) := by decide +kernel
theorem d_De_decimal_80 : decode b_De_decimal 80 = .ok (.iconst 1, 1) := by decide +kernel
theorem d_De_decimal_81 : decode b_De_decimal 81 = .ok (.iadd, 1) := by decide +kernel
theorem d_De_decimal_82 : decode b_De_decimal 82 = .ok (.putfield 64, 3) := by decide +kernel
theorem d_De_decimal_85 : decode b_De_decimal 85 = .ok (.aload_n 0, 1) := by decide +kernel
theorem d_De_decimal_86 : decode b_De_decimal 86 = .ok (.getfield 64, 3) := by decide +kernel
theorem d_De_decimal_89 : decode b_De_decimal 89 = .ok (.ireturn, 1) := by decide +kernel
theorem d_De_fill_0 : decode b_De_fill 0 = .ok (.aload_n 0, 1) := by decide +kernel
theorem d_De_fill_1 : decode b_De_fill 1 = .ok (.iconst 0, 1) := by decide +kernel
theorem d_De_fill_2 : decode b_De_fill 2 = .ok (.putfield 91, 3) := by decide +kernel
theorem d_De_fill_5 : decode b_De_fill 5 = .ok (.aload_n 0, 1) := by decide +kernel
theorem d_De_fill_6 : decode b_De_fill 6 = .ok (.iconst 0, 1) := by decide +kernel
theorem d_De_fill_7 : decode b_De_fill 7 = .ok (.putfield 94, 3) := by decide +kernel
theorem d_De_fill_10 : decode b_De_fill 10 = .ok (.aload_n 0, 1) := by decide +kernel
theorem d_De_fill_11 : decode b_De_fill 11 = .ok (.invokevirtual 97, 3) := by decide +kernel
theorem d_De_fill_14 : decode b_De_fill 14 = .ok (.istore_n 1, 1) := by decide +kernel
theorem d_De_fill_15 : decode b_De_fill 15 = .ok (.iload_n 1, 1) := by decide +kernel
theorem d_De_fill_16 : decode b_De_fill 16 = .ok (.iconst (-1), 1) := by decide +kernel
theorem d_De_fill_17 : decode b_De_fill 17 = .ok (.if_icmp .eq 12, 3) := by decide +kernel
theorem d_De_fill_20 : decode b_De_fill 20 = .ok (.aload_n 0, 1) := by decide +kernel
theorem d_De_fill_21 : decode b_De_fill 21 = .ok (.iconst 1, 1) := by decide +kernel
theorem d_De_fill_22 : decode b_De_fill 22 = .ok (.iload_n 1, 1) := by decide +kernel
theorem d_De_fill_23 : decode b_De_fill 23 = .ok (.invokevirtual 100, 3) := by decide +kernel
theorem d_De_fill_26 : decode b_De_fill 26 = .ok (.goto 7, 3) := by decide +kernel
theorem d_De_fill_29 : decode b_De_fill 29 = .ok (.aload_n 0, 1) := by decide +kernel
theorem d_De_fill_30 : decode b_De_fill 30 = .ok (.invokevirtual 104, 3) := by decide +kernel
theorem d_De_fill_33 : decode b_De_fill 33 = .ok (.aload_n 0, 1) := by decide +kernel
theorem d_De_fill_34 : decode b_De_fill 34 = .ok (.getfield 14, 3) := by decide +kernel
theorem d_De_fill_37 : decode b_De_fill 37 = .ok (.invokevirtual 72, 3) := by decide +kernel
theorem d_De_fill_40 : decode b_De_fill 40 = .ok (.aload_n 0, 1) := by decide +kernel
theorem d_De_fill_41 : decode b_De_fill 41 = .ok (.getfield 91, 3) := by decide +kernel
theorem d_De_fill_44 : decode b_De_fill 44 = .ok (.ifCond .eq 13, 3) := by decide +kernel
theorem d_De_fill_47 : decode b_De_fill 47 = .ok (.new 79, 3) := by decide +kernel
theorem d_De_fill_50 : decode b_De_fill 50 = .ok (.dup, 1) := by decide +kernel
theorem d_De_fill_51 : decode b_De_fill 51 = .ok (.ldc 107, 2) := by decide +kernel
theorem d_De_fill_53 : decode b_De_fill 53 = .ok (.invokespecial 83, 3) := by decide +kernel
theorem d_De_fill_56 : decode b_De_fill 56 = .ok (.athrow, 1) := by decide +kernel
theorem d_De_fill_57 : decode b_De_fill 57 = .ok (.aload_n 0, 1) := by decide +kernel
theorem d_De_fill_58 : decode b_De_fill 58 = .ok (.getfield 43, 3) := by decide +kernel
theorem d_De_fill_61 : decode b_De_fill 61 = .ok (.astore_n 2, 1) := by decide +kernel
theorem d_De_fill_62 : decode b_De_fill 62 = .ok (.aload_n 0, 1) := by decide +kernel
theorem d_De_fill_63 : decode b_De_fill 63 = .ok (.aload_n 0, 1) := by decide +kernel
theorem d_De_fill_64 : decode b_De_fill 64 = .ok (.getfield 46, 3) := by decide +kernel
theorem d_De_fill_67 : decode b_De_fill 67 = .ok (.putfield 43, 3) := by decide +kernel
theorem d_De_fill_70 : decode b_De_fill 70 = .ok (.aload_n 0, 1) := by decide +kernel
theorem d_De_fill_71 : decode b_De_fill 71 = .ok (.aload_n 2, 1) := by decide +kernel
theorem d_De_fill_72 : decode b_De_fill 72 = .ok (.putfield 46, 3) := by decide +kernel
theorem d_De_fill_75 : decode b_De_fill 75 = .ok (.aload_n 0, 1) := by decide +kernel
theorem d_De_fill_76 : decode b_De_fill 76 = .ok (.iconst 1, 1) := by decide +kernel
theorem d_De_fill_77 : decode b_De_fill 77 = .ok (.putfield 109, 3) := by decide +kernel
theorem d_De_fill_80 : decode b_De_fill 80 = .ok (.aload_n 0, 1) := by decide +kernel
theorem d_De_fill_81 : decode b_De_fill 81 = .ok (.getfield 43, 3) := by decide +kernel
theorem d_De_fill_84 : decode b_De_fill 84 = .ok (.invokevirtual 60, 3) := by decide +kernel
theorem d_De_fill_87 : decode b_De_fill 87 = .ok (.ireturn, 1) := by decide +kernel
theorem d_De_firstNoField_0 : decode b_De_firstNoField 0 = .ok (.iconst 0, 1) := by decide +kernel
theorem d_De_firstNoField_1 : decode b_De_firstNoField 1 = .ok (.istore_n 1, 1) := by decide +kernel
theorem d_De_firstNoField_2 : decode b_De_firstNoField 2 = .ok (.iconst 0, 1) := by decide +kernel
theorem d_De_firstNoField_3 : decode b_De_firstNoField 3 = .ok (.istore_n 2, 1) := by decide +kernel
theorem d_De_firstNoField_4 : decode b_De_firstNoField 4 = .ok (.iload_n 2, 1) := by decide +kernel
theorem d_De_firstNoField_5 : decode b_De_firstNoField 5 = .ok (.sipush 200, 3) := by decide +kernel
theorem d_De_firstNoField_8 : decode b_De_firstNoField 8 = .ok (.if_icmp .ge 65, 3) := by decide +kernel
theorem d_De_firstNoField_11 : decode b_De_firstNoField 11 = .ok (.iload_n 1, 1) := by decide +kernel
theorem d_De_firstNoField_12 : decode b_De_firstNoField 12 = .ok (.aload_n 0, 1) := by decide +kernel
theorem d_De_firstNoField_13 : decode b_De_firstNoField 13 = .ok (.getfield 14, 3) := by decide +kernel
theorem d_De_firstNoField_16 : decode b_De_firstNoField 16 = .ok (.invokevirtual 60, 3) := by decide +kernel
theorem d_De_firstNoField_19 : decode b_De_firstNoField 19 = .ok (.if_icmp .ge 54, 3) := by decide +kernel
theorem d_De_firstNoField_22 : decode b_De_firstNoField 22 = .ok (.aload_n 0, 1) := by decide +kernel
theorem d_De_firstNoField_23 : decode b_De_firstNoField 23 = .ok (.iload_n 1, 1) := by decide +kernel
theorem d_De_firstNoField_24 : decode b_De_firstNoField 24 = .ok (.invokevirtual 126, 3) := by decide +kernel
theorem d_De_firstNoField_27 : decode b_De_firstNoField 27 = .ok (.ifCond .ne 12, 3) := by decide +kernel
theorem d_De_firstNoField_30 : decode b_De_firstNoField 30 = .ok (.aload_n 0, 1) := by decide +kernel
theorem d_De_firstNoField_31 : decode b_De_firstNoField 31 = .ok (.iload_n 1, 1) := by decide +kernel
theorem d_De_firstNoField_32 : decode b_De_firstNoField 32 = .ok (.invokevirtual 129, 3) := by decide +kernel
theorem d_De_firstNoField_35 : decode b_De_firstNoField 35 = .ok (.istore_n 1, 1) := by decide +kernel
theorem d_De_firstNoField_36 : decode b_De_firstNoField 36 = .ok (.goto 31, 3) := by decide +kernel
theorem d_De_firstNoField_39 : decode b_De_firstNoField 39 = .ok (.aload_n 0, 1) := by decide +kernel
theorem d_De_firstNoField_40 : decode b_De_firstNoField 40 = .ok (.getfield 32, 3) := by decide +kernel
theorem d_De_firstNoField_43 : decode b_De_firstNoField 43 = .ok (.aload_n 0, 1) := by decide +kernel
theorem d_De_firstNoField_44 : decode b_De_firstNoField 44 = .ok (.getfield 14, 3) := by decide +kernel
theorem d_De_firstNoField_47 : decode b_De_firstNoField 47 = .ok (.iload_n 1, 1) := by decide +kernel
theorem d_De_firstNoField_48 : decode b_De_firstNoField 48 = .ok (.invokevirtual 132, 3) := by decide +kernel
theorem d_De_firstNoField_51 : decode b_De_firstNoField 51 = .ok (.ifCond .eq 14, 3) := by decide +kernel
theorem d_De_firstNoField_54 : decode b_De_firstNoField 54 = .ok (.aload_n 0, 1) := by decide +kernel
theorem d_De_firstNoField_55 : decode b_De_firstNoField 55 = .ok (.getfield 32, 3) := by decide +kernel
theorem d_De_firstNoField_58 : decode b_De_firstNoField 58 = .ok (.getfield 136, 3) := by decide +kernel
theorem d_De_firstNoField_61 : decode b_De_firstNoField 61 = .ok (.istore_n 1, 1) := by decide +kernel
theorem d_De_firstNoField_62 : decode b_De_firstNoField 62 = .ok (.goto 5, 3) := by decide +kernel
theorem d_De_firstNoField_65 : decode b_De_firstNoField 65 = .ok (.iload_n 1, 1) := by decide +kernel
theorem d_De_firstNoField_66 : decode b_De_firstNoField 66 = .ok (.ireturn, 1) := by decide +kernel
theorem d_De_firstNoField_67 : decode b_De_firstNoField 67 = .ok (.iinc 2 1, 3) := by decide +kernel
theorem d_De_firstNoField_70 : decode b_De_firstNoField 70 = .ok (.goto (-66), 3) := by decide +kernel
theorem d_De_firstNoField_73 : decode b_De_firstNoField 73 = .ok (.iconst (-1), 1) := by decide +kernel
theorem d_De_firstNoField_74 : decode b_De_firstNoField 74 = .ok (.ireturn, 1) := by decide +kernel
theorem d_De_startsField_0 : decode b_De_startsField 0 = .ok (.aload_n 0, 1) := by decide +kernel
theorem d_De_startsField_1 : decode b_De_startsField 1 = .ok (.getfield 14, 3) := by decide +kernel
theorem d_De_startsField_4 : decode b_De_startsField 4 = .ok (.iload_n 1, 1) := by decide +kernel
theorem d_De_startsField_5 : decode b_De_startsField 5 = .ok (.invokevirtual 118, 3) := by decide +kernel
theorem d_De_startsField_8 : decode b_De_startsField 8 = .ok (.bipush 37, 2) := by decide +kernel
theorem d_De_startsField_10 : decode b_De_startsField 10 = .ok (.if_icmp .ne 22, 3) := by decide +kernel
theorem d_De_startsField_13 : decode b_De_startsField 13 = .ok (.aload_n 0, 1) := by decide +kernel
theorem d_De_startsField_14 : decode b_De_startsField 14 = .ok (.getfield 14, 3) := by decide +kernel
theorem d_De_startsField_17 : decode b_De_startsField 17 = .ok (.iload_n 1, 1) := by decide +kernel
theorem d_De_startsField_18 : decode b_De_startsField 18 = .ok (.iconst 1, 1) := by decide +kernel
theorem d_De_startsField_19 : decode b_De_startsField 19 = .ok (.iadd, 1) := by decide +kernel
theorem d_De_startsField_20 : decode b_De_startsField 20 = .ok (.invokevirtual 118, 3) := by decide +kernel
theorem d_De_startsField_23 : decode b_De_startsField 23 = .ok (.bipush 37, 2) := by decide +kernel
theorem d_De_startsField_25 : decode b_De_startsField 25 = .ok (.if_icmp .eq 7, 3) := by decide +kernel
theorem d_De_startsField_28 : decode b_De_startsField 28 = .ok (.iconst 1, 1) := by decide +kernel
theorem d_De_startsField_29 : decode b_De_startsField 29 = .ok (.goto 4, 3) := by decide +kernel
theorem d_De_startsField_32 : decode b_De_startsField 32 = .ok (.iconst 0, 1) := by decide +kernel
theorem d_De_startsField_33 : decode b_De_startsField 33 = .ok (.ireturn, 1) := by decide +kernel
theorem d_De_behindMark_0 : decode b_De_behindMark 0 = .ok (.aload_n 0, 1) := by decide +kernel
theorem d_De_behindMark_1 : decode b_De_behindMark 1 = .ok (.getfield 14, 3) := by decide +kernel
theorem d_De_behindMark_4 : decode b_De_behindMark 4 = .ok (.iload_n 1, 1) := by decide +kernel
theorem d_De_behindMark_5 : decode b_De_behindMark 5 = .ok (.invokevirtual 118, 3) := by decide +kernel
theorem d_De_behindMark_8 : decode b_De_behindMark 8 = .ok (.bipush 37, 2) := by decide +kernel
theorem d_De_behindMark_10 : decode b_De_behindMark 10 = .ok (.if_icmp .ne 9, 3) := by decide +kernel
theorem d_De_behindMark_13 : decode b_De_behindMark 13 = .ok (.iload_n 1, 1) := by decide +kernel
theorem d_De_behindMark_14 : decode b_De_behindMark 14 = .ok (.iconst 2, 1) := by decide +kernel
theorem d_De_behindMark_15 : decode b_De_behindMark 15 = .ok (.iadd, 1) := by decide +kernel
theorem d_De_behindMark_16 : decode b_De_behindMark 16 = .ok (.goto 6, 3) := by decide +kernel
theorem d_De_behindMark_19 : decode b_De_behindMark 19 = .ok (.iload_n 1, 1) := by decide +kernel
theorem d_De_behindMark_20 : decode b_De_behindMark 20 = .ok (.iconst 1, 1) := by decide +kernel
theorem d_De_behindMark_21 : decode b_De_behindMark 21 = .ok (.iadd, 1) := by decide +kernel
theorem d_De_behindMark_22 : decode b_De_behindMark 22 = .ok (.ireturn, 1) := by decide +kernel
theorem d_De_noteFault_0 : decode b_De_noteFault 0 = .ok (.aload_n 0, 1) := by decide +kernel
theorem d_De_noteFault_1 : decode b_De_noteFault 1 = .ok (.iload_n 1, 1) := by decide +kernel
theorem d_De_noteFault_2 : decode b_De_noteFault 2 = .ok (.putfield 91, 3) := by decide +kernel
theorem d_De_noteFault_5 : decode b_De_noteFault 5 = .ok (.aload_n 0, 1) := by decide +kernel
theorem d_De_noteFault_6 : decode b_De_noteFault 6 = .ok (.iload_n 2, 1) := by decide +kernel
theorem d_De_noteFault_7 : decode b_De_noteFault 7 = .ok (.putfield 94, 3) := by decide +kernel
theorem d_De_noteFault_10 : decode b_De_noteFault 10 = .ok (.return_, 1) := by decide +kernel
theorem d_De_fillPattern_0 : decode b_De_fillPattern 0 = .ok (.aload_n 0, 1) := by decide +kernel
theorem d_De_fillPattern_1 : decode b_De_fillPattern 1 = .ok (.getfield 46, 3) := by decide +kernel
theorem d_De_fillPattern_4 : decode b_De_fillPattern 4 = .ok (.invokevirtual 72, 3) := by decide +kernel
theorem d_De_fillPattern_7 : decode b_De_fillPattern 7 = .ok (.aload_n 0, 1) := by decide +kernel
theorem d_De_fillPattern_8 : decode b_De_fillPattern 8 = .ok (.iconst 0, 1) := by decide +kernel
theorem d_De_fillPattern_9 : decode b_De_fillPattern 9 = .ok (.putfield 139, 3) := by decide +kernel
theorem d_De_fillPattern_12 : decode b_De_fillPattern 12 = .ok (.iconst 0, 1) := by decide +kernel
theorem d_De_fillPattern_13 : decode b_De_fillPattern 13 = .ok (.istore_n 1, 1) := by decide +kernel
theorem d_De_fillPattern_14 : decode b_De_fillPattern 14 = .ok (.iconst 0, 1) := by decide +kernel
theorem d_De_fillPattern_15 : decode b_De_fillPattern 15 = .ok (.istore_n 2, 1) := by decide +kernel
theorem d_De_fillPattern_16 : decode b_De_fillPattern 16 = .ok (.iload_n 2, 1) := by decide +kernel
theorem d_De_fillPattern_17 : decode b_De_fillPattern 17 = .ok (.sipush 200, 3) := by decide +kernel
theorem d_De_fillPattern_20 : decode b_De_fillPattern 20 = .ok (.if_icmp .ge 107, 3) := by decide +kernel
theorem d_De_fillPattern_23 : decode b_De_fillPattern 23 = .ok (.iload_n 1, 1) := by decide +kernel
theorem d_De_fillPattern_24 : decode b_De_fillPattern 24 = .ok (.aload_n 0, 1) := by decide +kernel
theorem d_De_fillPattern_25 : decode b_De_fillPattern 25 = .ok (.getfield 14, 3) := by decide +kernel
theorem d_De_fillPattern_28 : decode b_De_fillPattern 28 = .ok (.invokevirtual 60, 3) := by decide +kernel
theorem d_De_fillPattern_31 : decode b_De_fillPattern 31 = .ok (.if_icmp .ge 96, 3) := by decide +kernel
theorem d_De_fillPattern_34 : decode b_De_fillPattern 34 = .ok (.aload_n 0, 1) := by decide +kernel
theorem d_De_fillPattern_35 : decode b_De_fillPattern 35 = .ok (.iload_n 1, 1) := by decide +kernel
theorem d_De_fillPattern_36 : decode b_De_fillPattern 36 = .ok (.invokevirtual 126, 3) := by decide +kernel
theorem d_De_fillPattern_39 : decode b_De_fillPattern 39 = .ok (.ifCond .eq 22, 3) := by decide +kernel
theorem d_De_fillPattern_42 : decode b_De_fillPattern 42 = .ok (.aload_n 0, 1) := by decide +kernel
theorem d_De_fillPattern_43 : decode b_De_fillPattern 43 = .ok (.getfield 32, 3) := by decide +kernel
theorem d_De_fillPattern_46 : decode b_De_fillPattern 46 = .ok (.aload_n 0, 1) := by decide +kernel
theorem d_De_fillPattern_47 : decode b_De_fillPattern 47 = .ok (.getfield 14, 3) := by decide +kernel
theorem d_De_fillPattern_50 : decode b_De_fillPattern 50 = .ok (.iload_n 1, 1) := by decide +kernel
theorem d_De_fillPattern_51 : decode b_De_fillPattern 51 = .ok (.invokevirtual 132, 3) := by decide +kernel
theorem d_De_fillPattern_54 : decode b_De_fillPattern 54 = .ok (.ifCond .eq 7, 3) := by decide +kernel
theorem d_De_fillPattern_57 : decode b_De_fillPattern 57 = .ok (.iconst 1, 1) := by decide +kernel
theorem d_De_fillPattern_58 : decode b_De_fillPattern 58 = .ok (.goto 4, 3) := by decide +kernel
theorem d_De_fillPattern_61 : decode b_De_fillPattern 61 = .ok (.iconst 0, 1) := by decide +kernel
theorem d_De_fillPattern_62 : decode b_De_fillPattern 62 = .ok (.istore_n 3, 1) := by decide +kernel
theorem d_De_fillPattern_63 : decode b_De_fillPattern 63 = .ok (.iload_n 3, 1) := by decide +kernel
theorem d_De_fillPattern_64 : decode b_De_fillPattern 64 = .ok (.ifCond .eq 10, 3) := by decide +kernel
theorem d_De_fillPattern_67 : decode b_De_fillPattern 67 = .ok (.aload_n 0, 1) := by decide +kernel
theorem d_De_fillPattern_68 : decode b_De_fillPattern 68 = .ok (.invokevirtual 142, 3) := by decide +kernel
theorem d_De_fillPattern_71 : decode b_De_fillPattern 71 = .ok (.goto 15, 3) := by decide +kernel
theorem d_De_fillPattern_74 : decode b_De_fillPattern 74 = .ok (.aload_n 0, 1) := by decide +kernel
theorem d_De_fillPattern_75 : decode b_De_fillPattern 75 = .ok (.aload_n 0, 1) := by decide +kernel
theorem d_De_fillPattern_76 : decode b_De_fillPattern 76 = .ok (.getfield 14, 3) := by decide +kernel
theorem d_De_fillPattern_79 : decode b_De_fillPattern 79 = .ok (.iload_n 1, 1) := by decide +kernel
theorem d_De_fillPattern_80 : decode b_De_fillPattern 80 = .ok (.invokevirtual 118, 3) := by decide +kernel
theorem d_De_fillPattern_83 : decode b_De_fillPattern 83 = .ok (.invokevirtual 145, 3) := by decide +kernel
theorem d_De_fillPattern_86 : decode b_De_fillPattern 86 = .ok (.istore 4, 2) := by decide +kernel
theorem d_De_fillPattern_88 : decode b_De_fillPattern 88 = .ok (.iload 4, 2) := by decide +kernel
theorem d_De_fillPattern_90 : decode b_De_fillPattern 90 = .ok (.ifCond .eq 11, 3) := by decide +kernel
theorem d_De_fillPattern_93 : decode b_De_fillPattern 93 = .ok (.aload_n 0, 1) := by decide +kernel
theorem d_De_fillPattern_94 : decode b_De_fillPattern 94 = .ok (.iload 4, 2) := by decide +kernel
theorem d_De_fillPattern_96 : decode b_De_fillPattern 96 = .ok (.iload_n 1, 1) := by decide +kernel
theorem d_De_fillPattern_97 : decode b_De_fillPattern 97 = .ok (.invokevirtual 100, 3) := by decide +kernel
theorem d_De_fillPattern_100 : decode b_De_fillPattern 100 = .ok (.return_, 1) := by decide +kernel
theorem d_De_fillPattern_101 : decode b_De_fillPattern 101 = .ok (.iload_n 3, 1) := by decide +kernel
theorem d_De_fillPattern_102 : decode b_De_fillPattern 102 = .ok (.ifCond .eq 13, 3) := by decide +kernel
theorem d_De_fillPattern_105 : decode b_De_fillPattern 105 = .ok (.aload_n 0, 1) := by decide +kernel
theorem d_De_fillPattern_106 : decode b_De_fillPattern 106 = .ok (.getfield 32, 3) := by decide +kernel
theorem d_De_fillPattern_109 : decode b_De_fillPattern 109 = .ok (.getfield 136, 3) := by decide +kernel
theorem d_De_fillPattern_112 : decode b_De_fillPattern 112 = .ok (.goto 8, 3) := by decide +kernel
theorem d_De_fillPattern_115 : decode b_De_fillPattern 115 = .ok (.aload_n 0, 1) := by decide +kernel
theorem d_De_fillPattern_116 : decode b_De_fillPattern 116 = .ok (.iload_n 1, 1) := by decide +kernel
theorem d_De_fillPattern_117 : decode b_De_fillPattern 117 = .ok (.invokevirtual 129, 3) := by decide +kernel
theorem d_De_fillPattern_120 : decode b_De_fillPattern 120 = .ok (.istore_n 1, 1) := by decide +kernel
theorem d_De_fillPattern_121 : decode b_De_fillPattern 121 = .ok (.iinc 2 1, 3) := by decide +kernel
theorem d_De_fillPattern_124 : decode b_De_fillPattern 124 = .ok (.goto (-108), 3) := by decide +kernel
theorem d_De_fillPattern_127 : decode b_De_fillPattern 127 = .ok (.aload_n 0, 1) := by decide +kernel
theorem d_De_fillPattern_128 : decode b_De_fillPattern 128 = .ok (.getfield 139, 3) := by decide +kernel
theorem d_De_fillPattern_131 : decode b_De_fillPattern 131 = .ok (.aload_n 0, 1) := by decide +kernel
theorem d_De_fillPattern_132 : decode b_De_fillPattern 132 = .ok (.getfield 64, 3) := by decide +kernel
theorem d_De_fillPattern_135 : decode b_De_fillPattern 135 = .ok (.if_icmp .ge 15, 3) := by decide +kernel
theorem d_De_fillPattern_138 : decode b_De_fillPattern 138 = .ok (.aload_n 0, 1) := by decide +kernel
theorem d_De_fillPattern_139 : decode b_De_fillPattern 139 = .ok (.iconst 4, 1) := by decide +kernel
theorem d_De_fillPattern_140 : decode b_De_fillPattern 140 = .ok (.aload_n 0, 1) := by decide +kernel
theorem d_De_fillPattern_141 : decode b_De_fillPattern 141 = .ok (.getfield 14, 3) := by decide +kernel
theorem d_De_fillPattern_144 : decode b_De_fillPattern 144 = .ok (.invokevirtual 60, 3) := by decide +kernel
theorem d_De_fillPattern_147 : decode b_De_fillPattern 147 = .ok (.invokevirtual 100, 3) := by decide +kernel
theorem d_De_fillPattern_150 : decode b_De_fillPattern 150 = .ok (.return_, 1) := by decide +kernel
theorem d_De_fillField_0 : decode b_De_fillField 0 = .ok (.aload_n 0, 1) := by decide +kernel
theorem d_De_fillField_1 : decode b_De_fillField 1 = .ok (.getfield 32, 3) := by decide +kernel
theorem d_De_fillField_4 : decode b_De_fillField 4 = .ok (.getfield 148, 3) := by decide +kernel
theorem d_De_fillField_7 : decode b_De_fillField 7 = .ok (.ifCond .eq 11, 3) := by decide +kernel
theorem d_De_fillField_10 : decode b_De_fillField 10 = .ok (.aload_n 0, 1) := by decide +kernel
theorem d_De_fillField_11 : decode b_De_fillField 11 = .ok (.iconst 1, 1) := by decide +kernel
theorem d_De_fillField_12 : decode b_De_fillField 12 = .ok (.invokevirtual 151, 3) := by decide +kernel
theorem d_De_fillField_15 : decode b_De_fillField 15 = .ok (.goto 4, 3) := by decide +kernel
theorem d_De_fillField_18 : decode b_De_fillField 18 = .ok (.iconst 0, 1) := by decide +kernel
theorem d_De_fillField_19 : decode b_De_fillField 19 = .ok (.istore_n 1, 1) := by decide +kernel
theorem d_De_fillField_20 : decode b_De_fillField 20 = .ok (.iload_n 1, 1) := by decide +kernel
theorem d_De_fillField_21 : decode b_De_fillField 21 = .ok (.ifCond .ne 19, 3) := by decide +kernel
theorem d_De_fillField_24 : decode b_De_fillField 24 = .ok (.aload_n 0, 1) := by decide +kernel
theorem d_De_fillField_25 : decode b_De_fillField 25 = .ok (.getfield 32, 3) := by decide +kernel
theorem d_De_fillField_28 : decode b_De_fillField 28 = .ok (.getfield 155, 3) := by decide +kernel
theorem d_De_fillField_31 : decode b_De_fillField 31 = .ok (.ifCond .eq 9, 3) := by decide +kernel
theorem d_De_fillField_34 : decode b_De_fillField 34 = .ok (.aload_n 0, 1) := by decide +kernel
theorem d_De_fillField_35 : decode b_De_fillField 35 = .ok (.iconst 0, 1) := by decide +kernel
theorem d_De_fillField_36 : decode b_De_fillField 36 = .ok (.invokevirtual 151, 3) := by decide +kernel
theorem d_De_fillField_39 : decode b_De_fillField 39 = .ok (.istore_n 1, 1) := by decide +kernel
theorem d_De_fillField_40 : decode b_De_fillField 40 = .ok (.iload_n 1, 1) := by decide +kernel
theorem d_De_fillField_41 : decode b_De_fillField 41 = .ok (.ifCond .eq 5, 3) := by decide +kernel
theorem d_De_fillField_44 : decode b_De_fillField 44 = .ok (.iload_n 1, 1) := by decide +kernel
theorem d_De_fillField_45 : decode b_De_fillField 45 = .ok (.ireturn, 1) := by decide +kernel
theorem d_De_fillField_46 : decode b_De_fillField 46 = .ok (.aload_n 0, 1) := by decide +kernel
theorem d_De_fillField_47 : decode b_De_fillField 47 = .ok (.invokevirtual 158, 3) := by decide +kernel
theorem d_De_fillField_50 : decode b_De_fillField 50 = .ok (.astore_n 2, 1) := by decide +kernel
theorem d_De_fillField_51 : decode b_De_fillField 51 = .ok (.aload_n 2, 1) := by decide +kernel
theorem d_De_fillField_52 : decode b_De_fillField 52 = .ok (.ifnonnull 5, 3) := by decide +kernel
theorem d_De_fillField_55 : decode b_De_fillField 55 = .ok (.iconst 2, 1) := by decide +kernel
theorem d_De_fillField_56 : decode b_De_fillField 56 = .ok (.ireturn, 1) := by decide +kernel
theorem d_De_fillField_57 : decode b_De_fillField 57 = .ok (.aload_n 0, 1) := by decide +kernel
theorem d_De_fillField_58 : decode b_De_fillField 58 = .ok (.getfield 32, 3) := by decide +kernel
theorem d_De_fillField_61 : decode b_De_fillField 61 = .ok (.aload_n 2, 1) := by decide +kernel
theorem d_De_fillField_62 : decode b_De_fillField 62 = .ok (.invokevirtual 162, 3) := by decide +kernel
theorem d_De_fillField_65 : decode b_De_fillField 65 = .ok (.ifCond .ne 5, 3) := by decide +kernel
theorem d_De_fillField_68 : decode b_De_fillField 68 = .ok (.iconst 3, 1) := by decide +kernel
theorem d_De_fillField_69 : decode b_De_fillField 69 = .ok (.ireturn, 1) := by decide +kernel
theorem d_De_fillField_70 : decode b_De_fillField 70 = .ok (.aload_n 0, 1) := by decide +kernel
theorem d_De_fillField_71 : decode b_De_fillField 71 = .ok (.getfield 39, 3) := by decide +kernel
theorem d_De_fillField_74 : decode b_De_fillField 74 = .ok (.aload_n 2, 1) := by decide +kernel
theorem d_De_fillField_75 : decode b_De_fillField 75 = .ok (.aload_n 0, 1) := by decide +kernel
theorem d_De_fillField_76 : decode b_De_fillField 76 = .ok (.getfield 32, 3) := by decide +kernel
theorem d_De_fillField_79 : decode b_De_fillField 79 = .ok (.invokevirtual 165, 3) := by decide +kernel
theorem d_De_fillField_82 : decode b_De_fillField 82 = .ok (.aload_n 0, 1) := by decide +kernel
theorem d_De_fillField_83 : decode b_De_fillField 83 = .ok (.getfield 39, 3) := by decide +kernel
theorem d_De_fillField_86 : decode b_De_fillField 86 = .ok (.aload_n 0, 1) := by decide +kernel
theorem d_De_fillField_87 : decode b_De_fillField 87 = .ok (.getfield 46, 3) := by decide +kernel
theorem d_De_fillField_90 : decode b_De_fillField 90 = .ok (.aload_n 0, 1) := by decide +kernel
theorem d_De_fillField_91 : decode b_De_fillField 91 = .ok (.getfield 32, 3) := by decide +kernel
theorem d_De_fillField_94 : decode b_De_fillField 94 = .ok (.invokevirtual 169, 3) := by decide +kernel
theorem d_De_fillField_97 : decode b_De_fillField 97 = .ok (.ifCond .eq 7, 3) := by decide +kernel
theorem d_De_fillField_100 : decode b_De_fillField 100 = .ok (.iconst 0, 1) := by decide +kernel
theorem d_De_fillField_101 : decode b_De_fillField 101 = .ok (.goto 4, 3) := by decide +kernel
theorem d_De_fillField_104 : decode b_De_fillField 104 = .ok (.iconst 5, 1) := by decide +kernel
theorem d_De_fillField_105 : decode b_De_fillField 105 = .ok (.ireturn, 1) := by decide +kernel
theorem d_De_takeStar_0 : decode b_De_takeStar 0 = .ok (.aload_n 0, 1) := by decide +kernel
theorem d_De_takeStar_1 : decode b_De_takeStar 1 = .ok (.invokevirtual 158, 3) := by decide +kernel
theorem d_De_takeStar_4 : decode b_De_takeStar 4 = .ok (.astore_n 2, 1) := by decide +kernel
theorem d_De_takeStar_5 : decode b_De_takeStar 5 = .ok (.aload_n 2, 1) := by decide +kernel
theorem d_De_takeStar_6 : decode b_De_takeStar 6 = .ok (.ifnonnull 5, 3) := by decide +kernel
theorem d_De_takeStar_9 : decode b_De_takeStar 9 = .ok (.iconst 2, 1) := by decide +kernel
theorem d_De_takeStar_10 : decode b_De_takeStar 10 = .ok (.ireturn, 1) := by decide +kernel
theorem d_De_takeStar_11 : decode b_De_takeStar 11 = .ok (.aload_n 2, 1) := by decide +kernel
theorem d_De_takeStar_12 : decode b_De_takeStar 12 = .ok (.invokevirtual 173, 3) := by decide +kernel
theorem d_De_takeStar_15 : decode b_De_takeStar 15 = .ok (.ifCond .ne 5, 3) := by decide +kernel
theorem d_De_takeStar_18 : decode b_De_takeStar 18 = .ok (.iconst 3, 1) := by decide +kernel
theorem d_De_takeStar_19 : decode b_De_takeStar 19 = .ok (.ireturn, 1) := by decide +kernel
theorem d_De_takeStar_20 : decode b_De_takeStar 20 = .ok (.aload_n 2, 1) := by decide +kernel
theorem d_De_takeStar_21 : decode b_De_takeStar 21 = .ok (.invokevirtual 177, 3) := by decide +kernel
theorem d_De_takeStar_24 : decode b_De_takeStar 24 = .ok (.l2i, 1) := by decide +kernel
theorem d_De_takeStar_25 : decode b_De_takeStar 25 = .ok (.istore_n 3, 1) := by decide +kernel
theorem d_De_takeStar_26 : decode b_De_takeStar 26 = .ok (.iload_n 1, 1) := by decide +kernel
theorem d_De_takeStar_27 : decode b_De_takeStar 27 = .ok (.ifCond .eq 14, 3) := by decide +kernel
theorem d_De_takeStar_30 : decode b_De_takeStar 30 = .ok (.aload_n 0, 1) := by decide +kernel
theorem d_De_takeStar_31 : decode b_De_takeStar 31 = .ok (.getfield 32, 3) := by decide +kernel
theorem d_De_takeStar_34 : decode b_De_takeStar 34 = .ok (.iload_n 3, 1) := by decide +kernel
theorem d_De_takeStar_35 : decode b_De_takeStar 35 = .ok (.invokevirtual 181, 3) := by decide +kernel
theorem d_De_takeStar_38 : decode b_De_takeStar 38 = .ok (.goto 11, 3) := by decide +kernel
theorem d_De_takeStar_41 : decode b_De_takeStar 41 = .ok (.aload_n 0, 1) := by decide +kernel
theorem d_De_takeStar_42 : decode b_De_takeStar 42 = .ok (.getfield 32, 3) := by decide +kernel
theorem d_De_takeStar_45 : decode b_De_takeStar 45 = .ok (.iload_n 3, 1) := by decide +kernel
theorem d_De_takeStar_46 : decode b_De_takeStar 46 = .ok (.invokevirtual 184, 3) := by decide +kernel
theorem d_De_takeStar_49 : decode b_De_takeStar 49 = .ok (.iconst 0, 1) := by decide +kernel
theorem d_De_takeStar_50 : decode b_De_takeStar 50 = .ok (.ireturn, 1) := by decide +kernel
theorem d_De_takeNext_0 : decode b_De_takeNext 0 = .ok (.aload_n 0, 1) := by decide +kernel
theorem d_De_takeNext_1 : decode b_De_takeNext 1 = .ok (.getfield 139, 3) := by decide +kernel
theorem d_De_takeNext_4 : decode b_De_takeNext 4 = .ok (.aload_n 0, 1) := by decide +kernel
theorem d_De_takeNext_5 : decode b_De_takeNext 5 = .ok (.getfield 64, 3) := by decide +kernel
theorem d_De_takeNext_8 : decode b_De_takeNext 8 = .ok (.if_icmp .lt 5, 3) := by decide +kernel
theorem d_De_takeNext_11 : decode b_De_takeNext 11 = .ok (.aconst_null, 1) := by decide +kernel
theorem d_De_takeNext_12 : decode b_De_takeNext 12 = .ok (.areturn, 1) := by decide +kernel
theorem d_De_takeNext_13 : decode b_De_takeNext 13 = .ok (.aload_n 0, 1) := by decide +kernel
theorem d_De_takeNext_14 : decode b_De_takeNext 14 = .ok (.getfield 20, 3) := by decide +kernel
theorem d_De_takeNext_17 : decode b_De_takeNext 17 = .ok (.aload_n 0, 1) := by decide +kernel
theorem d_De_takeNext_18 : decode b_De_takeNext 18 = .ok (.getfield 139, 3) := by decide +kernel
theorem d_De_takeNext_21 : decode b_De_takeNext 21 = .ok (.aaload, 1) := by decide +kernel
theorem d_De_takeNext_22 : decode b_De_takeNext 22 = .ok (.astore_n 1, 1) := by decide +kernel
theorem d_De_takeNext_23 : decode b_De_takeNext 23 = .ok (.aload_n 0, 1) := by decide +kernel
theorem d_De_takeNext_24 : decode b_De_takeNext 24 = .ok (.dup, 1) := by decide +kernel
theorem d_De_takeNext_25 : decode b_De_takeNext 25 = .ok (.getfield 139, 3) := by decide +kernel
theorem d_De_takeNext_28 : decode b_De_takeNext 28 = .ok (.iconst 1, 1) := by decide +kernel
theorem d_De_takeNext_29 : decode b_De_takeNext 29 = .ok (.iadd, 1) := by decide +kernel
theorem d_De_takeNext_30 : decode b_De_takeNext 30 = .ok (.putfield 139, 3) := by decide +kernel
theorem d_De_takeNext_33 : decode b_De_takeNext 33 = .ok (.aload_n 1, 1) := by decide +kernel
theorem d_De_takeNext_34 : decode b_De_takeNext 34 = .ok (.areturn, 1) := by decide +kernel
theorem d_De_fillMark_0 : decode b_De_fillMark 0 = .ok (.aload_n 0, 1) := by decide +kernel
theorem d_De_fillMark_1 : decode b_De_fillMark 1 = .ok (.getfield 46, 3) := by decide +kernel
theorem d_De_fillMark_4 : decode b_De_fillMark 4 = .ok (.iconst 1, 1) := by decide +kernel
theorem d_De_fillMark_5 : decode b_De_fillMark 5 = .ok (.invokevirtual 49, 3) := by decide +kernel
theorem d_De_fillMark_8 : decode b_De_fillMark 8 = .ok (.ifCond .ne 5, 3) := by decide +kernel
theorem d_De_fillMark_11 : decode b_De_fillMark 11 = .ok (.iconst 5, 1) := by decide +kernel
theorem d_De_fillMark_12 : decode b_De_fillMark 12 = .ok (.ireturn, 1) := by decide +kernel
theorem d_De_fillMark_13 : decode b_De_fillMark 13 = .ok (.aload_n 0, 1) := by decide +kernel
theorem d_De_fillMark_14 : decode b_De_fillMark 14 = .ok (.getfield 46, 3) := by decide +kernel
theorem d_De_fillMark_17 : decode b_De_fillMark 17 = .ok (.iload_n 1, 1) := by decide +kernel
theorem d_De_fillMark_18 : decode b_De_fillMark 18 = .ok (.invokevirtual 57, 3) := by decide +kernel
theorem d_De_fillMark_21 : decode b_De_fillMark 21 = .ok (.iconst 0, 1) := by decide +kernel
theorem d_De_fillMark_22 : decode b_De_fillMark 22 = .ok (.ireturn, 1) := by decide +kernel
theorem d_De_letter_0 : decode b_De_letter 0 = .ok (.aload_n 0, 1) := by decide +kernel
theorem d_De_letter_1 : decode b_De_letter 1 = .ok (.getfield 109, 3) := by decide +kernel
theorem d_De_letter_4 : decode b_De_letter 4 = .ok (.ifCond .eq 18, 3) := by decide +kernel
theorem d_De_letter_7 : decode b_De_letter 7 = .ok (.iload_n 1, 1) := by decide +kernel
theorem d_De_letter_8 : decode b_De_letter 8 = .ok (.ifCond .lt 14, 3) := by decide +kernel
theorem d_De_letter_11 : decode b_De_letter 11 = .ok (.iload_n 1, 1) := by decide +kernel
theorem d_De_letter_12 : decode b_De_letter 12 = .ok (.aload_n 0, 1) := by decide +kernel
theorem d_De_letter_13 : decode b_De_letter 13 = .ok (.getfield 43, 3) := by decide +kernel
theorem d_De_letter_16 : decode b_De_letter 16 = .ok (.invokevirtual 60, 3) := by decide +kernel
theorem d_De_letter_19 : decode b_De_letter 19 = .ok (.if_icmp .lt 13, 3) := by decide +kernel
theorem d_De_letter_22 : decode b_De_letter 22 = .ok (.new 113, 3) := by decide +kernel
theorem d_De_letter_25 : decode b_De_letter 25 = .ok (.dup, 1) := by decide +kernel
theorem d_De_letter_26 : decode b_De_letter 26 = .ok (.ldc 115, 2) := by decide +kernel
theorem d_De_letter_28 : decode b_De_letter 28 = .ok (.invokespecial 117, 3) := by decide +kernel
theorem d_De_letter_31 : decode b_De_letter 31 = .ok (.athrow, 1) := by decide +kernel
theorem d_De_letter_32 : decode b_De_letter 32 = .ok (.aload_n 0, 1) := by decide +kernel
theorem d_De_letter_33 : decode b_De_letter 33 = .ok (.getfield 43, 3) := by decide +kernel
theorem d_De_letter_36 : decode b_De_letter 36 = .ok (.iload_n 1, 1) := by decide +kernel
theorem d_De_letter_37 : decode b_De_letter 37 = .ok (.invokevirtual 118, 3) := by decide +kernel
theorem d_De_letter_40 : decode b_De_letter 40 = .ok (.ireturn, 1) := by decide +kernel
