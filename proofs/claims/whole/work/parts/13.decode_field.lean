theorem d_Fi_init_0 : decode b_Fi_init 0 = .ok (.aload_n 0, 1) := by decide +kernel
theorem d_Fi_init_1 : decode b_Fi_init 1 = .ok (.invokespecial 3, 3) := by decide +kernel
theorem d_Fi_init_4 : decode b_Fi_init 4 = .ok (.return_, 1) := by decide +kernel
theorem d_Fi_read_0 : decode b_Fi_read 0 = .ok (.aload_n 0, 1) := by decide +kernel
theorem d_Fi_read_1 : decode b_Fi_read 1 = .ok (.iload_n 2, 1) := by decide +kernel
theorem d_Fi_read_2 : decode b_Fi_read 2 = .ok (.iconst 1, 1) := by decide +kernel
theorem d_Fi_read_3 : decode b_Fi_read 3 = .ok (.iadd, 1) := by decide +kernel
theorem d_Fi_read_4 : decode b_Fi_read 4 = .ok (.putfield 9, 3) := by decide +kernel
theorem d_Fi_read_7 : decode b_Fi_read 7 = .ok (.aload_n 0, 1) := by decide +kernel
theorem d_Fi_read_8 : decode b_Fi_read 8 = .ok (.aload_n 1, 1) := by decide +kernel
theorem d_Fi_read_9 : decode b_Fi_read 9 = .ok (.invokevirtual 15, 3) := by decide +kernel
theorem d_Fi_read_12 : decode b_Fi_read 12 = .ok (.aload_n 0, 1) := by decide +kernel
theorem d_Fi_read_13 : decode b_Fi_read 13 = .ok (.aload_n 1, 1) := by decide +kernel
theorem d_Fi_read_14 : decode b_Fi_read 14 = .ok (.invokevirtual 19, 3) := by decide +kernel
theorem d_Fi_read_17 : decode b_Fi_read 17 = .ok (.aload_n 0, 1) := by decide +kernel
theorem d_Fi_read_18 : decode b_Fi_read 18 = .ok (.aload_n 1, 1) := by decide +kernel
theorem d_Fi_read_19 : decode b_Fi_read 19 = .ok (.invokevirtual 22, 3) := by decide +kernel
theorem d_Fi_read_22 : decode b_Fi_read 22 = .ok (.aload_n 0, 1) := by decide +kernel
theorem d_Fi_read_23 : decode b_Fi_read 23 = .ok (.aload_n 1, 1) := by decide +kernel
theorem d_Fi_read_24 : decode b_Fi_read 24 = .ok (.aload_n 0, 1) := by decide +kernel
theorem d_Fi_read_25 : decode b_Fi_read 25 = .ok (.getfield 9, 3) := by decide +kernel
theorem d_Fi_read_28 : decode b_Fi_read 28 = .ok (.invokevirtual 25, 3) := by decide +kernel
theorem d_Fi_read_31 : decode b_Fi_read 31 = .ok (.putfield 31, 3) := by decide +kernel
theorem d_Fi_read_34 : decode b_Fi_read 34 = .ok (.aload_n 0, 1) := by decide +kernel
theorem d_Fi_read_35 : decode b_Fi_read 35 = .ok (.aload_n 0, 1) := by decide +kernel
theorem d_Fi_read_36 : decode b_Fi_read 36 = .ok (.getfield 31, 3) := by decide +kernel
theorem d_Fi_read_39 : decode b_Fi_read 39 = .ok (.invokestatic 34, 3) := by decide +kernel
theorem d_Fi_read_42 : decode b_Fi_read 42 = .ok (.putfield 37, 3) := by decide +kernel
theorem d_Fi_read_45 : decode b_Fi_read 45 = .ok (.aload_n 0, 1) := by decide +kernel
theorem d_Fi_read_46 : decode b_Fi_read 46 = .ok (.dup, 1) := by decide +kernel
theorem d_Fi_read_47 : decode b_Fi_read 47 = .ok (.getfield 9, 3) := by decide +kernel
theorem d_Fi_read_50 : decode b_Fi_read 50 = .ok (.iconst 1, 1) := by decide +kernel
theorem d_Fi_read_51 : decode b_Fi_read 51 = .ok (.iadd, 1) := by decide +kernel
theorem d_Fi_read_52 : decode b_Fi_read 52 = .ok (.putfield 9, 3) := by decide +kernel
theorem d_Fi_read_55 : decode b_Fi_read 55 = .ok (.aload_n 0, 1) := by decide +kernel
theorem d_Fi_read_56 : decode b_Fi_read 56 = .ok (.getfield 37, 3) := by decide +kernel
theorem d_Fi_read_59 : decode b_Fi_read 59 = .ok (.ifCond .eq 7, 3) := by decide +kernel
theorem d_Fi_read_62 : decode b_Fi_read 62 = .ok (.iconst 1, 1) := by decide +kernel
theorem d_Fi_read_63 : decode b_Fi_read 63 = .ok (.goto 4, 3) := by decide +kernel
theorem d_Fi_read_66 : decode b_Fi_read 66 = .ok (.iconst 0, 1) := by decide +kernel
theorem d_Fi_read_67 : decode b_Fi_read 67 = .ok (.ireturn, 1) := by decide +kernel
theorem d_Fi_readFlags_0 : decode b_Fi_readFlags 0 = .ok (.aload_n 0, 1) := by decide +kernel
theorem d_Fi_readFlags_1 : decode b_Fi_readFlags 1 = .ok (.iconst 0, 1) := by decide +kernel
theorem d_Fi_readFlags_2 : decode b_Fi_readFlags 2 = .ok (.putfield 40, 3) := by decide +kernel
theorem d_Fi_readFlags_5 : decode b_Fi_readFlags 5 = .ok (.aload_n 0, 1) := by decide +kernel
theorem d_Fi_readFlags_6 : decode b_Fi_readFlags 6 = .ok (.iconst 0, 1) := by decide +kernel
theorem d_Fi_readFlags_7 : decode b_Fi_readFlags 7 = .ok (.putfield 44, 3) := by decide +kernel
theorem d_Fi_readFlags_10 : decode b_Fi_readFlags 10 = .ok (.aload_n 0, 1) := by decide +kernel
theorem d_Fi_readFlags_11 : decode b_Fi_readFlags 11 = .ok (.iconst 0, 1) := by decide +kernel
theorem d_Fi_readFlags_12 : decode b_Fi_readFlags 12 = .ok (.putfield 47, 3) := by decide +kernel
theorem d_Fi_readFlags_15 : decode b_Fi_readFlags 15 = .ok (.aload_n 0, 1) := by decide +kernel
theorem d_Fi_readFlags_16 : decode b_Fi_readFlags 16 = .ok (.iconst 0, 1) := by decide +kernel
theorem d_Fi_readFlags_17 : decode b_Fi_readFlags 17 = .ok (.putfield 50, 3) := by decide +kernel
theorem d_Fi_readFlags_20 : decode b_Fi_readFlags 20 = .ok (.aload_n 0, 1) := by decide +kernel
theorem d_Fi_readFlags_21 : decode b_Fi_readFlags 21 = .ok (.iconst 0, 1) := by decide +kernel
theorem d_Fi_readFlags_22 : decode b_Fi_readFlags 22 = .ok (.putfield 53, 3) := by decide +kernel
theorem d_Fi_readFlags_25 : decode b_Fi_readFlags 25 = .ok (.aload_n 0, 1) := by decide +kernel
theorem d_Fi_readFlags_26 : decode b_Fi_readFlags 26 = .ok (.getfield 9, 3) := by decide +kernel
theorem d_Fi_readFlags_29 : decode b_Fi_readFlags 29 = .ok (.aload_n 1, 1) := by decide +kernel
theorem d_Fi_readFlags_30 : decode b_Fi_readFlags 30 = .ok (.invokevirtual 56, 3) := by decide +kernel
theorem d_Fi_readFlags_33 : decode b_Fi_readFlags 33 = .ok (.if_icmp .ge 31, 3) := by decide +kernel
theorem d_Fi_readFlags_36 : decode b_Fi_readFlags 36 = .ok (.aload_n 0, 1) := by decide +kernel
theorem d_Fi_readFlags_37 : decode b_Fi_readFlags 37 = .ok (.aload_n 1, 1) := by decide +kernel
theorem d_Fi_readFlags_38 : decode b_Fi_readFlags 38 = .ok (.aload_n 0, 1) := by decide +kernel
theorem d_Fi_readFlags_39 : decode b_Fi_readFlags 39 = .ok (.getfield 9, 3) := by decide +kernel
theorem d_Fi_readFlags_42 : decode b_Fi_readFlags 42 = .ok (.invokevirtual 25, 3) := by decide +kernel
theorem d_Fi_readFlags_45 : decode b_Fi_readFlags 45 = .ok (.invokevirtual 60, 3) := by decide +kernel
theorem d_Fi_readFlags_48 : decode b_Fi_readFlags 48 = .ok (.ifCond .eq 16, 3) := by decide +kernel
theorem d_Fi_readFlags_51 : decode b_Fi_readFlags 51 = .ok (.aload_n 0, 1) := by decide +kernel
theorem d_Fi_readFlags_52 : decode b_Fi_readFlags 52 = .ok (.dup, 1) := by decide +kernel
theorem d_Fi_readFlags_53 : decode b_Fi_readFlags 53 = .ok (.getfield 9, 3) := by decide +kernel
theorem d_Fi_readFlags_56 : decode b_Fi_readFlags 56 = .ok (.iconst 1, 1) := by decide +kernel
theorem d_Fi_readFlags_57 : decode b_Fi_readFlags 57 = .ok (.iadd, 1) := by decide +kernel
theorem d_Fi_readFlags_58 : decode b_Fi_readFlags 58 = .ok (.putfield 9, 3) := by decide +kernel
theorem d_Fi_readFlags_61 : decode b_Fi_readFlags 61 = .ok (.goto (-36), 3) := by decide +kernel
theorem d_Fi_readFlags_64 : decode b_Fi_readFlags 64 = .ok (.return_, 1) := by decide +kernel
theorem d_Fi_setFlag_0 : decode b_Fi_setFlag 0 = .ok (.iload_n 1, 1) := by decide +kernel
theorem d_Fi_setFlag_1 : decode b_Fi_setFlag 1 = .ok (.lookupswitch 86 #[(32, 79), (35, 72), (43, 58), (45, 51), (48, 65)], 51) := by decide +kernel
theorem d_Fi_setFlag_52 : decode b_Fi_setFlag 52 = .ok (.aload_n 0, 1) := by decide +kernel
theorem d_Fi_setFlag_53 : decode b_Fi_setFlag 53 = .ok (.iconst 1, 1) := by decide +kernel
theorem d_Fi_setFlag_54 : decode b_Fi_setFlag 54 = .ok (.putfield 40, 3) := by decide +kernel
theorem d_Fi_setFlag_57 : decode b_Fi_setFlag 57 = .ok (.iconst 1, 1) := by decide +kernel
theorem d_Fi_setFlag_58 : decode b_Fi_setFlag 58 = .ok (.ireturn, 1) := by decide +kernel
theorem d_Fi_setFlag_59 : decode b_Fi_setFlag 59 = .ok (.aload_n 0, 1) := by decide +kernel
theorem d_Fi_setFlag_60 : decode b_Fi_setFlag 60 = .ok (.iconst 1, 1) := by decide +kernel
theorem d_Fi_setFlag_61 : decode b_Fi_setFlag 61 = .ok (.putfield 44, 3) := by decide +kernel
theorem d_Fi_setFlag_64 : decode b_Fi_setFlag 64 = .ok (.iconst 1, 1) := by decide +kernel
theorem d_Fi_setFlag_65 : decode b_Fi_setFlag 65 = .ok (.ireturn, 1) := by decide +kernel
theorem d_Fi_setFlag_66 : decode b_Fi_setFlag 66 = .ok (.aload_n 0, 1) := by decide +kernel
theorem d_Fi_setFlag_67 : decode b_Fi_setFlag 67 = .ok (.iconst 1, 1) := by decide +kernel
theorem d_Fi_setFlag_68 : decode b_Fi_setFlag 68 = .ok (.putfield 47, 3) := by decide +kernel
theorem d_Fi_setFlag_71 : decode b_Fi_setFlag 71 = .ok (.iconst 1, 1) := by decide +kernel
theorem d_Fi_setFlag_72 : decode b_Fi_setFlag 72 = .ok (.ireturn, 1) := by decide +kernel
theorem d_Fi_setFlag_73 : decode b_Fi_setFlag 73 = .ok (.aload_n 0, 1) := by decide +kernel
theorem d_Fi_setFlag_74 : decode b_Fi_setFlag 74 = .ok (.iconst 1, 1) := by decide +kernel
theorem d_Fi_setFlag_75 : decode b_Fi_setFlag 75 = .ok (.putfield 50, 3) := by decide +kernel
theorem d_Fi_setFlag_78 : decode b_Fi_setFlag 78 = .ok (.iconst 1, 1) := by decide +kernel
theorem d_Fi_setFlag_79 : decode b_Fi_setFlag 79 = .ok (.ireturn, 1) := by decide +kernel
theorem d_Fi_setFlag_80 : decode b_Fi_setFlag 80 = .ok (.aload_n 0, 1) := by decide +kernel
theorem d_Fi_setFlag_81 : decode b_Fi_setFlag 81 = .ok (.iconst 1, 1) := by decide +kernel
theorem d_Fi_setFlag_82 : decode b_Fi_setFlag 82 = .ok (.putfield 53, 3) := by decide +kernel
theorem d_Fi_setFlag_85 : decode b_Fi_setFlag 85 = .ok (.iconst 1, 1) := by decide +kernel
theorem d_Fi_setFlag_86 : decode b_Fi_setFlag 86 = .ok (.ireturn, 1) := by decide +kernel
theorem d_Fi_setFlag_87 : decode b_Fi_setFlag 87 = .ok (.iconst 0, 1) := by decide +kernel
theorem d_Fi_setFlag_88 : decode b_Fi_setFlag 88 = .ok (.ireturn, 1) := by decide +kernel
theorem d_Fi_readWidth_0 : decode b_Fi_readWidth 0 = .ok (.aload_n 0, 1) := by decide +kernel
theorem d_Fi_readWidth_1 : decode b_Fi_readWidth 1 = .ok (.aload_n 1, 1) := by decide +kernel
theorem d_Fi_readWidth_2 : decode b_Fi_readWidth 2 = .ok (.aload_n 0, 1) := by decide +kernel
theorem d_Fi_readWidth_3 : decode b_Fi_readWidth 3 = .ok (.getfield 9, 3) := by decide +kernel
theorem d_Fi_readWidth_6 : decode b_Fi_readWidth 6 = .ok (.invokevirtual 25, 3) := by decide +kernel
theorem d_Fi_readWidth_9 : decode b_Fi_readWidth 9 = .ok (.bipush 42, 2) := by decide +kernel
theorem d_Fi_readWidth_11 : decode b_Fi_readWidth 11 = .ok (.if_icmp .ne 7, 3) := by decide +kernel
theorem d_Fi_readWidth_14 : decode b_Fi_readWidth 14 = .ok (.iconst 1, 1) := by decide +kernel
theorem d_Fi_readWidth_15 : decode b_Fi_readWidth 15 = .ok (.goto 4, 3) := by decide +kernel
theorem d_Fi_readWidth_18 : decode b_Fi_readWidth 18 = .ok (.iconst 0, 1) := by decide +kernel
theorem d_Fi_readWidth_19 : decode b_Fi_readWidth 19 = .ok (.putfield 64, 3) := by decide +kernel
theorem d_Fi_readWidth_22 : decode b_Fi_readWidth 22 = .ok (.aload_n 0, 1) := by decide +kernel
theorem d_Fi_readWidth_23 : decode b_Fi_readWidth 23 = .ok (.getfield 64, 3) := by decide +kernel
theorem d_Fi_readWidth_26 : decode b_Fi_readWidth 26 = .ok (.ifCond .eq 21, 3) := by decide +kernel
theorem d_Fi_readWidth_29 : decode b_Fi_readWidth 29 = .ok (.aload_n 0, 1) := by decide +kernel
theorem d_Fi_readWidth_30 : decode b_Fi_readWidth 30 = .ok (.iconst 0, 1) := by decide +kernel
theorem d_Fi_readWidth_31 : decode b_Fi_readWidth 31 = .ok (.putfield 67, 3) := by decide +kernel
theorem d_Fi_readWidth_34 : decode b_Fi_readWidth 34 = .ok (.aload_n 0, 1) := by decide +kernel
theorem d_Fi_readWidth_35 : decode b_Fi_readWidth 35 = .ok (.dup, 1) := by decide +kernel
theorem d_Fi_readWidth_36 : decode b_Fi_readWidth 36 = .ok (.getfield 9, 3) := by decide +kernel
theorem d_Fi_readWidth_39 : decode b_Fi_readWidth 39 = .ok (.iconst 1, 1) := by decide +kernel
theorem d_Fi_readWidth_40 : decode b_Fi_readWidth 40 = .ok (.iadd, 1) := by decide +kernel
theorem d_Fi_readWidth_41 : decode b_Fi_readWidth 41 = .ok (.putfield 9, 3) := by decide +kernel
theorem d_Fi_readWidth_44 : decode b_Fi_readWidth 44 = .ok (.goto 12, 3) := by decide +kernel
theorem d_Fi_readWidth_47 : decode b_Fi_readWidth 47 = .ok (.aload_n 0, 1) := by decide +kernel
theorem d_Fi_readWidth_48 : decode b_Fi_readWidth 48 = .ok (.aload_n 0, 1) := by decide +kernel
theorem d_Fi_readWidth_49 : decode b_Fi_readWidth 49 = .ok (.aload_n 1, 1) := by decide +kernel
theorem d_Fi_readWidth_50 : decode b_Fi_readWidth 50 = .ok (.invokevirtual 70, 3) := by decide +kernel
theorem d_Fi_readWidth_53 : decode b_Fi_readWidth 53 = .ok (.putfield 67, 3) := by decide +kernel
theorem d_Fi_readWidth_56 : decode b_Fi_readWidth 56 = .ok (.return_, 1) := by decide +kernel
theorem d_Fi_readNumber_0 : decode b_Fi_readNumber 0 = .ok (.iconst 2, 1) := by decide +kernel
theorem d_Fi_readNumber_1 : decode b_Fi_readNumber 1 = .ok (.aload_n 1, 1) := by decide +kernel
theorem d_Fi_readNumber_2 : decode b_Fi_readNumber 2 = .ok (.aload_n 0, 1) := by decide +kernel
theorem d_Fi_readNumber_3 : decode b_Fi_readNumber 3 = .ok (.getfield 9, 3) := by decide +kernel
theorem d_Fi_readNumber_6 : decode b_Fi_readNumber 6 = .ok (.invokevirtual 80, 3) := by decide +kernel
theorem d_Fi_readNumber_9 : decode b_Fi_readNumber 9 = .ok (.invokestatic 83, 3) := by decide +kernel
theorem d_Fi_readNumber_12 : decode b_Fi_readNumber 12 = .ok (.istore_n 2, 1) := by decide +kernel
theorem d_Fi_readNumber_13 : decode b_Fi_readNumber 13 = .ok (.aload_n 1, 1) := by decide +kernel
theorem d_Fi_readNumber_14 : decode b_Fi_readNumber 14 = .ok (.aload_n 0, 1) := by decide +kernel
theorem d_Fi_readNumber_15 : decode b_Fi_readNumber 15 = .ok (.getfield 9, 3) := by decide +kernel
theorem d_Fi_readNumber_18 : decode b_Fi_readNumber 18 = .ok (.iload_n 2, 1) := by decide +kernel
theorem d_Fi_readNumber_19 : decode b_Fi_readNumber 19 = .ok (.invokevirtual 89, 3) := by decide +kernel
theorem d_Fi_readNumber_22 : decode b_Fi_readNumber 22 = .ok (.l2i, 1) := by decide +kernel
theorem d_Fi_readNumber_23 : decode b_Fi_readNumber 23 = .ok (.istore_n 3, 1) := by decide +kernel
theorem d_Fi_readNumber_24 : decode b_Fi_readNumber 24 = .ok (.aload_n 0, 1) := by decide +kernel
theorem d_Fi_readNumber_25 : decode b_Fi_readNumber 25 = .ok (.dup, 1) := by decide +kernel
theorem d_Fi_readNumber_26 : decode b_Fi_readNumber 26 = .ok (.getfield 9, 3) := by decide +kernel
theorem d_Fi_readNumber_29 : decode b_Fi_readNumber 29 = .ok (.iload_n 2, 1) := by decide +kernel
theorem d_Fi_readNumber_30 : decode b_Fi_readNumber 30 = .ok (.iadd, 1) := by decide +kernel
theorem d_Fi_readNumber_31 : decode b_Fi_readNumber 31 = .ok (.putfield 9, 3) := by decide +kernel
theorem d_Fi_readNumber_34 : decode b_Fi_readNumber 34 = .ok (.iload_n 3, 1) := by decide +kernel
theorem d_Fi_readNumber_35 : decode b_Fi_readNumber 35 = .ok (.ireturn, 1) := by decide +kernel
theorem d_Fi_readPrecision_0 : decode b_Fi_readPrecision 0 = .ok (.aload_n 0, 1) := by decide +kernel
theorem d_Fi_readPrecision_1 : decode b_Fi_readPrecision 1 = .ok (.iconst (-1), 1) := by decide +kernel
theorem d_Fi_readPrecision_2 : decode b_Fi_readPrecision 2 = .ok (.putfield 74, 3) := by decide +kernel
theorem d_Fi_readPrecision_5 : decode b_Fi_readPrecision 5 = .ok (.aload_n 0, 1) := by decide +kernel
theorem d_Fi_readPrecision_6 : decode b_Fi_readPrecision 6 = .ok (.iconst 0, 1) := by decide +kernel
theorem d_Fi_readPrecision_7 : decode b_Fi_readPrecision 7 = .ok (.putfield 77, 3) := by decide +kernel
theorem d_Fi_readPrecision_10 : decode b_Fi_readPrecision 10 = .ok (.aload_n 1, 1) := by decide +kernel
theorem d_Fi_readPrecision_11 : decode b_Fi_readPrecision 11 = .ok (.aload_n 0, 1) := by decide +kernel
theorem d_Fi_readPrecision_12 : decode b_Fi_readPrecision 12 = .ok (.getfield 9, 3) := by decide +kernel
theorem d_Fi_readPrecision_15 : decode b_Fi_readPrecision 15 = .ok (.invokevirtual 25, 3) := by decide +kernel
theorem d_Fi_readPrecision_18 : decode b_Fi_readPrecision 18 = .ok (.bipush 46, 2) := by decide +kernel
theorem d_Fi_readPrecision_20 : decode b_Fi_readPrecision 20 = .ok (.if_icmp .eq 4, 3) := by decide +kernel
theorem d_Fi_readPrecision_23 : decode b_Fi_readPrecision 23 = .ok (.return_, 1) := by decide +kernel
theorem d_Fi_readPrecision_24 : decode b_Fi_readPrecision 24 = .ok (.aload_n 0, 1) := by decide +kernel
theorem d_Fi_readPrecision_25 : decode b_Fi_readPrecision 25 = .ok (.dup, 1) := by decide +kernel
theorem d_Fi_readPrecision_26 : decode b_Fi_readPrecision 26 = .ok (.getfield 9, 3) := by decide +kernel
theorem d_Fi_readPrecision_29 : decode b_Fi_readPrecision 29 = .ok (.iconst 1, 1) := by decide +kernel
theorem d_Fi_readPrecision_30 : decode b_Fi_readPrecision 30 = .ok (.iadd, 1) := by decide +kernel
theorem d_Fi_readPrecision_31 : decode b_Fi_readPrecision 31 = .ok (.putfield 9, 3) := by decide +kernel
theorem d_Fi_readPrecision_34 : decode b_Fi_readPrecision 34 = .ok (.aload_n 0, 1) := by decide +kernel
theorem d_Fi_readPrecision_35 : decode b_Fi_readPrecision 35 = .ok (.aload_n 1, 1) := by decide +kernel
theorem d_Fi_readPrecision_36 : decode b_Fi_readPrecision 36 = .ok (.aload_n 0, 1) := by decide +kernel
theorem d_Fi_readPrecision_37 : decode b_Fi_readPrecision 37 = .ok (.getfield 9, 3) := by decide +kernel
theorem d_Fi_readPrecision_40 : decode b_Fi_readPrecision 40 = .ok (.invokevirtual 25, 3) := by decide +kernel
theorem d_Fi_readPrecision_43 : decode b_Fi_readPrecision 43 = .ok (.bipush 42, 2) := by decide +kernel
theorem d_Fi_readPrecision_45 : decode b_Fi_readPrecision 45 = .ok (.if_icmp .ne 7, 3) := by decide +kernel
theorem d_Fi_readPrecision_48 : decode b_Fi_readPrecision 48 = .ok (.iconst 1, 1) := by decide +kernel
theorem d_Fi_readPrecision_49 : decode b_Fi_readPrecision 49 = .ok (.goto 4, 3) := by decide +kernel
theorem d_Fi_readPrecision_52 : decode b_Fi_readPrecision 52 = .ok (.iconst 0, 1) := by decide +kernel
theorem d_Fi_readPrecision_53 : decode b_Fi_readPrecision 53 = .ok (.putfield 77, 3) := by decide +kernel
theorem d_Fi_readPrecision_56 : decode b_Fi_readPrecision 56 = .ok (.aload_n 0, 1) := by decide +kernel
theorem d_Fi_readPrecision_57 : decode b_Fi_readPrecision 57 = .ok (.getfield 77, 3) := by decide +kernel
theorem d_Fi_readPrecision_60 : decode b_Fi_readPrecision 60 = .ok (.ifCond .eq 16, 3) := by decide +kernel
theorem d_Fi_readPrecision_63 : decode b_Fi_readPrecision 63 = .ok (.aload_n 0, 1) := by decide +kernel
theorem d_Fi_readPrecision_64 : decode b_Fi_readPrecision 64 = .ok (.dup, 1) := by decide +kernel
theorem d_Fi_readPrecision_65 : decode b_Fi_readPrecision 65 = .ok (.getfield 9, 3) := by decide +kernel
theorem d_Fi_readPrecision_68 : decode b_Fi_readPrecision 68 = .ok (.iconst 1, 1) := by decide +kernel
theorem d_Fi_readPrecision_69 : decode b_Fi_readPrecision 69 = .ok (.iadd, 1) := by decide +kernel
theorem d_Fi_readPrecision_70 : decode b_Fi_readPrecision 70 = .ok (.putfield 9, 3) := by decide +kernel
theorem d_Fi_readPrecision_73 : decode b_Fi_readPrecision 73 = .ok (.goto 12, 3) := by decide +kernel
theorem d_Fi_readPrecision_76 : decode b_Fi_readPrecision 76 = .ok (.aload_n 0, 1) := by decide +kernel
theorem d_Fi_readPrecision_77 : decode b_Fi_readPrecision 77 = .ok (.aload_n 0, 1) := by decide +kernel
theorem d_Fi_readPrecision_78 : decode b_Fi_readPrecision 78 = .ok (.aload_n 1, 1) := by decide +kernel
theorem d_Fi_readPrecision_79 : decode b_Fi_readPrecision 79 = .ok (.invokevirtual 70, 3) := by decide +kernel
theorem d_Fi_readPrecision_82 : decode b_Fi_readPrecision 82 = .ok (.putfield 74, 3) := by decide +kernel
theorem d_Fi_readPrecision_85 : decode b_Fi_readPrecision 85 = .ok (.return_, 1) := by decide +kernel
theorem d_Fi_sortOf_0 : decode b_Fi_sortOf 0 = .ok (.iload_n 0, 1) := by decide +kernel
theorem d_Fi_sortOf_1 : decode b_Fi_sortOf 1 = .ok (.tableswitch 229 69 120 #[225, 229, 225, 229, 229, 229, 229, 229, 229, 229, 229, 229, 229, 229, 229, 229, 229, 229, 229, 223, 229, 229, 229, 229, 229, 229, 229, 229, 229, 223, 227, 223, 225, 225, 225, 229, 229, 229, 229, 229, 229, 229, 223, 229, 227, 229, 227, 229, 229, 229, 229, 223], 223) := by decide +kernel
theorem d_Fi_sortOf_224 : decode b_Fi_sortOf 224 = .ok (.iconst 1, 1) := by decide +kernel
theorem d_Fi_sortOf_225 : decode b_Fi_sortOf 225 = .ok (.ireturn, 1) := by decide +kernel
theorem d_Fi_sortOf_226 : decode b_Fi_sortOf 226 = .ok (.iconst 2, 1) := by decide +kernel
theorem d_Fi_sortOf_227 : decode b_Fi_sortOf 227 = .ok (.ireturn, 1) := by decide +kernel
theorem d_Fi_sortOf_228 : decode b_Fi_sortOf 228 = .ok (.iconst 3, 1) := by decide +kernel
theorem d_Fi_sortOf_229 : decode b_Fi_sortOf 229 = .ok (.ireturn, 1) := by decide +kernel
theorem d_Fi_sortOf_230 : decode b_Fi_sortOf 230 = .ok (.iconst 0, 1) := by decide +kernel
theorem d_Fi_sortOf_231 : decode b_Fi_sortOf 231 = .ok (.ireturn, 1) := by decide +kernel
theorem d_Fi_giveWidth_0 : decode b_Fi_giveWidth 0 = .ok (.iload_n 1, 1) := by decide +kernel
theorem d_Fi_giveWidth_1 : decode b_Fi_giveWidth 1 = .ok (.ifCond .ge 8, 3) := by decide +kernel
theorem d_Fi_giveWidth_4 : decode b_Fi_giveWidth 4 = .ok (.aload_n 0, 1) := by decide +kernel
theorem d_Fi_giveWidth_5 : decode b_Fi_giveWidth 5 = .ok (.iconst 1, 1) := by decide +kernel
theorem d_Fi_giveWidth_6 : decode b_Fi_giveWidth 6 = .ok (.putfield 40, 3) := by decide +kernel
theorem d_Fi_giveWidth_9 : decode b_Fi_giveWidth 9 = .ok (.aload_n 0, 1) := by decide +kernel
theorem d_Fi_giveWidth_10 : decode b_Fi_giveWidth 10 = .ok (.iload_n 1, 1) := by decide +kernel
theorem d_Fi_giveWidth_11 : decode b_Fi_giveWidth 11 = .ok (.invokestatic 93, 3) := by decide +kernel
theorem d_Fi_giveWidth_14 : decode b_Fi_giveWidth 14 = .ok (.putfield 67, 3) := by decide +kernel
theorem d_Fi_giveWidth_17 : decode b_Fi_giveWidth 17 = .ok (.return_, 1) := by decide +kernel
theorem d_Fi_givePrecision_0 : decode b_Fi_givePrecision 0 = .ok (.aload_n 0, 1) := by decide +kernel
theorem d_Fi_givePrecision_1 : decode b_Fi_givePrecision 1 = .ok (.iload_n 1, 1) := by decide +kernel
theorem d_Fi_givePrecision_2 : decode b_Fi_givePrecision 2 = .ok (.ifCond .ge 7, 3) := by decide +kernel
theorem d_Fi_givePrecision_5 : decode b_Fi_givePrecision 5 = .ok (.iconst (-1), 1) := by decide +kernel
theorem d_Fi_givePrecision_6 : decode b_Fi_givePrecision 6 = .ok (.goto 4, 3) := by decide +kernel
theorem d_Fi_givePrecision_9 : decode b_Fi_givePrecision 9 = .ok (.iload_n 1, 1) := by decide +kernel
theorem d_Fi_givePrecision_10 : decode b_Fi_givePrecision 10 = .ok (.putfield 74, 3) := by decide +kernel
theorem d_Fi_givePrecision_13 : decode b_Fi_givePrecision 13 = .ok (.return_, 1) := by decide +kernel
theorem d_Fi_takes_0 : decode b_Fi_takes 0 = .ok (.aload_n 0, 1) := by decide +kernel
theorem d_Fi_takes_1 : decode b_Fi_takes 1 = .ok (.getfield 37, 3) := by decide +kernel
theorem d_Fi_takes_4 : decode b_Fi_takes 4 = .ok (.iconst 3, 1) := by decide +kernel
theorem d_Fi_takes_5 : decode b_Fi_takes 5 = .ok (.if_icmp .eq 8, 3) := by decide +kernel
theorem d_Fi_takes_8 : decode b_Fi_takes 8 = .ok (.aload_n 1, 1) := by decide +kernel
theorem d_Fi_takes_9 : decode b_Fi_takes 9 = .ok (.getfield 96, 3) := by decide +kernel
theorem d_Fi_takes_12 : decode b_Fi_takes 12 = .ok (.ireturn, 1) := by decide +kernel
theorem d_Fi_takes_13 : decode b_Fi_takes 13 = .ok (.aload_n 0, 1) := by decide +kernel
theorem d_Fi_takes_14 : decode b_Fi_takes 14 = .ok (.getfield 31, 3) := by decide +kernel
theorem d_Fi_takes_17 : decode b_Fi_takes 17 = .ok (.bipush 99, 2) := by decide +kernel
theorem d_Fi_takes_19 : decode b_Fi_takes 19 = .ok (.if_icmp .ne 10, 3) := by decide +kernel
theorem d_Fi_takes_22 : decode b_Fi_takes 22 = .ok (.aload_n 1, 1) := by decide +kernel
theorem d_Fi_takes_23 : decode b_Fi_takes 23 = .ok (.invokevirtual 101, 3) := by decide +kernel
theorem d_Fi_takes_26 : decode b_Fi_takes 26 = .ok (.ifCond .eq 7, 3) := by decide +kernel
theorem d_Fi_takes_29 : decode b_Fi_takes 29 = .ok (.iconst 1, 1) := by decide +kernel
theorem d_Fi_takes_30 : decode b_Fi_takes 30 = .ok (.goto 4, 3) := by decide +kernel
theorem d_Fi_takes_33 : decode b_Fi_takes 33 = .ok (.iconst 0, 1) := by decide +kernel
theorem d_Fi_takes_34 : decode b_Fi_takes 34 = .ok (.ireturn, 1) := by decide +kernel
theorem d_Fi_signFor_0 : decode b_Fi_signFor 0 = .ok (.iload_n 1, 1) := by decide +kernel
theorem d_Fi_signFor_1 : decode b_Fi_signFor 1 = .ok (.ifCond .eq 6, 3) := by decide +kernel
theorem d_Fi_signFor_4 : decode b_Fi_signFor 4 = .ok (.bipush 45, 2) := by decide +kernel
theorem d_Fi_signFor_6 : decode b_Fi_signFor 6 = .ok (.ireturn, 1) := by decide +kernel
theorem d_Fi_signFor_7 : decode b_Fi_signFor 7 = .ok (.aload_n 0, 1) := by decide +kernel
theorem d_Fi_signFor_8 : decode b_Fi_signFor 8 = .ok (.getfield 44, 3) := by decide +kernel
theorem d_Fi_signFor_11 : decode b_Fi_signFor 11 = .ok (.ifCond .eq 6, 3) := by decide +kernel
theorem d_Fi_signFor_14 : decode b_Fi_signFor 14 = .ok (.bipush 43, 2) := by decide +kernel
theorem d_Fi_signFor_16 : decode b_Fi_signFor 16 = .ok (.ireturn, 1) := by decide +kernel
theorem d_Fi_signFor_17 : decode b_Fi_signFor 17 = .ok (.aload_n 0, 1) := by decide +kernel
theorem d_Fi_signFor_18 : decode b_Fi_signFor 18 = .ok (.getfield 53, 3) := by decide +kernel
theorem d_Fi_signFor_21 : decode b_Fi_signFor 21 = .ok (.ifCond .eq 8, 3) := by decide +kernel
theorem d_Fi_signFor_24 : decode b_Fi_signFor 24 = .ok (.bipush 32, 2) := by decide +kernel
theorem d_Fi_signFor_26 : decode b_Fi_signFor 26 = .ok (.goto 4, 3) := by decide +kernel
theorem d_Fi_signFor_29 : decode b_Fi_signFor 29 = .ok (.iconst (-1), 1) := by decide +kernel
theorem d_Fi_signFor_30 : decode b_Fi_signFor 30 = .ok (.ireturn, 1) := by decide +kernel
theorem d_Fi_precisionOr_0 : decode b_Fi_precisionOr 0 = .ok (.aload_n 0, 1) := by decide +kernel
theorem d_Fi_precisionOr_1 : decode b_Fi_precisionOr 1 = .ok (.getfield 74, 3) := by decide +kernel
theorem d_Fi_precisionOr_4 : decode b_Fi_precisionOr 4 = .ok (.iconst (-1), 1) := by decide +kernel
theorem d_Fi_precisionOr_5 : decode b_Fi_precisionOr 5 = .ok (.if_icmp .ne 7, 3) := by decide +kernel
theorem d_Fi_precisionOr_8 : decode b_Fi_precisionOr 8 = .ok (.iload_n 1, 1) := by decide +kernel
theorem d_Fi_precisionOr_9 : decode b_Fi_precisionOr 9 = .ok (.goto 7, 3) := by decide +kernel
theorem d_Fi_precisionOr_12 : decode b_Fi_precisionOr 12 = .ok (.aload_n 0, 1) := by decide +kernel
theorem d_Fi_precisionOr_13 : decode b_Fi_precisionOr 13 = .ok (.getfield 74, 3) := by decide +kernel
theorem d_Fi_precisionOr_16 : decode b_Fi_precisionOr 16 = .ok (.ireturn, 1) := by decide +kernel
theorem d_Fi_padsWithZeros_0 : decode b_Fi_padsWithZeros 0 = .ok (.aload_n 0, 1) := by decide +kernel
theorem d_Fi_padsWithZeros_1 : decode b_Fi_padsWithZeros 1 = .ok (.getfield 47, 3) := by decide +kernel
theorem d_Fi_padsWithZeros_4 : decode b_Fi_padsWithZeros 4 = .ok (.ifCond .eq 22, 3) := by decide +kernel
theorem d_Fi_padsWithZeros_7 : decode b_Fi_padsWithZeros 7 = .ok (.aload_n 0, 1) := by decide +kernel
theorem d_Fi_padsWithZeros_8 : decode b_Fi_padsWithZeros 8 = .ok (.getfield 40, 3) := by decide +kernel
theorem d_Fi_padsWithZeros_11 : decode b_Fi_padsWithZeros 11 = .ok (.ifCond .ne 15, 3) := by decide +kernel
theorem d_Fi_padsWithZeros_14 : decode b_Fi_padsWithZeros 14 = .ok (.aload_n 0, 1) := by decide +kernel
theorem d_Fi_padsWithZeros_15 : decode b_Fi_padsWithZeros 15 = .ok (.getfield 37, 3) := by decide +kernel
theorem d_Fi_padsWithZeros_18 : decode b_Fi_padsWithZeros 18 = .ok (.iconst 3, 1) := by decide +kernel
theorem d_Fi_padsWithZeros_19 : decode b_Fi_padsWithZeros 19 = .ok (.if_icmp .eq 7, 3) := by decide +kernel
theorem d_Fi_padsWithZeros_22 : decode b_Fi_padsWithZeros 22 = .ok (.iconst 1, 1) := by decide +kernel
theorem d_Fi_padsWithZeros_23 : decode b_Fi_padsWithZeros 23 = .ok (.goto 4, 3) := by decide +kernel
theorem d_Fi_padsWithZeros_26 : decode b_Fi_padsWithZeros 26 = .ok (.iconst 0, 1) := by decide +kernel
theorem d_Fi_padsWithZeros_27 : decode b_Fi_padsWithZeros 27 = .ok (.ireturn, 1) := by decide +kernel
