theorem d_Ln_init_0 : decode b_Ln_init 0 = .ok (.aload_n 0, 1) := by decide +kernel
theorem d_Ln_init_1 : decode b_Ln_init 1 = .ok (.invokespecial 3, 3) := by decide +kernel
theorem d_Ln_init_4 : decode b_Ln_init 4 = .ok (.aload_n 0, 1) := by decide +kernel
theorem d_Ln_init_5 : decode b_Ln_init 5 = .ok (.iload_n 1, 1) := by decide +kernel
theorem d_Ln_init_6 : decode b_Ln_init 6 = .ok (.iconst 0, 1) := by decide +kernel
theorem d_Ln_init_7 : decode b_Ln_init 7 = .ok (.invokestatic 9, 3) := by decide +kernel
theorem d_Ln_init_10 : decode b_Ln_init 10 = .ok (.newarray .char, 2) := by decide +kernel
theorem d_Ln_init_12 : decode b_Ln_init 12 = .ok (.putfield 15, 3) := by decide +kernel
theorem d_Ln_init_15 : decode b_Ln_init 15 = .ok (.return_, 1) := by decide +kernel
theorem d_Ln_hasRoom_0 : decode b_Ln_hasRoom 0 = .ok (.iload_n 1, 1) := by decide +kernel
theorem d_Ln_hasRoom_1 : decode b_Ln_hasRoom 1 = .ok (.aload_n 0, 1) := by decide +kernel
theorem d_Ln_hasRoom_2 : decode b_Ln_hasRoom 2 = .ok (.getfield 15, 3) := by decide +kernel
theorem d_Ln_hasRoom_5 : decode b_Ln_hasRoom 5 = .ok (.arraylength, 1) := by decide +kernel
theorem d_Ln_hasRoom_6 : decode b_Ln_hasRoom 6 = .ok (.aload_n 0, 1) := by decide +kernel
theorem d_Ln_hasRoom_7 : decode b_Ln_hasRoom 7 = .ok (.getfield 21, 3) := by decide +kernel
theorem d_Ln_hasRoom_10 : decode b_Ln_hasRoom 10 = .ok (.isub, 1) := by decide +kernel
theorem d_Ln_hasRoom_11 : decode b_Ln_hasRoom 11 = .ok (.if_icmp .gt 7, 3) := by decide +kernel
theorem d_Ln_hasRoom_14 : decode b_Ln_hasRoom 14 = .ok (.iconst 1, 1) := by decide +kernel
theorem d_Ln_hasRoom_15 : decode b_Ln_hasRoom 15 = .ok (.goto 4, 3) := by decide +kernel
theorem d_Ln_hasRoom_18 : decode b_Ln_hasRoom 18 = .ok (.iconst 0, 1) := by decide +kernel
theorem d_Ln_hasRoom_19 : decode b_Ln_hasRoom 19 = .ok (.ireturn, 1) := by decide +kernel
theorem d_Ln_add_0 : decode b_Ln_add 0 = .ok (.aload_n 0, 1) := by decide +kernel
theorem d_Ln_add_1 : decode b_Ln_add 1 = .ok (.getfield 21, 3) := by decide +kernel
theorem d_Ln_add_4 : decode b_Ln_add 4 = .ok (.aload_n 0, 1) := by decide +kernel
theorem d_Ln_add_5 : decode b_Ln_add 5 = .ok (.getfield 15, 3) := by decide +kernel
theorem d_Ln_add_8 : decode b_Ln_add 8 = .ok (.arraylength, 1) := by decide +kernel
theorem d_Ln_add_9 : decode b_Ln_add 9 = .ok (.if_icmp .ge 24, 3) := by decide +kernel
theorem d_Ln_add_12 : decode b_Ln_add 12 = .ok (.aload_n 0, 1) := by decide +kernel
theorem d_Ln_add_13 : decode b_Ln_add 13 = .ok (.getfield 15, 3) := by decide +kernel
theorem d_Ln_add_16 : decode b_Ln_add 16 = .ok (.aload_n 0, 1) := by decide +kernel
theorem d_Ln_add_17 : decode b_Ln_add 17 = .ok (.getfield 21, 3) := by decide +kernel
theorem d_Ln_add_20 : decode b_Ln_add 20 = .ok (.iload_n 1, 1) := by decide +kernel
theorem d_Ln_add_21 : decode b_Ln_add 21 = .ok (.i2c, 1) := by decide +kernel
theorem d_Ln_add_22 : decode b_Ln_add 22 = .ok (.castore, 1) := by decide +kernel
theorem d_Ln_add_23 : decode b_Ln_add 23 = .ok (.aload_n 0, 1) := by decide +kernel
theorem d_Ln_add_24 : decode b_Ln_add 24 = .ok (.dup, 1) := by decide +kernel
theorem d_Ln_add_25 : decode b_Ln_add 25 = .ok (.getfield 21, 3) := by decide +kernel
theorem d_Ln_add_28 : decode b_Ln_add 28 = .ok (.iconst 1, 1) := by decide +kernel
theorem d_Ln_add_29 : decode b_Ln_add 29 = .ok (.iadd, 1) := by decide +kernel
theorem d_Ln_add_30 : decode b_Ln_add 30 = .ok (.putfield 21, 3) := by decide +kernel
theorem d_Ln_add_33 : decode b_Ln_add 33 = .ok (.return_, 1) := by decide +kernel
theorem d_Ln_size_0 : decode b_Ln_size 0 = .ok (.aload_n 0, 1) := by decide +kernel
theorem d_Ln_size_1 : decode b_Ln_size 1 = .ok (.getfield 21, 3) := by decide +kernel
theorem d_Ln_size_4 : decode b_Ln_size 4 = .ok (.ireturn, 1) := by decide +kernel
theorem d_Ln_empty_0 : decode b_Ln_empty 0 = .ok (.aload_n 0, 1) := by decide +kernel
theorem d_Ln_empty_1 : decode b_Ln_empty 1 = .ok (.iconst 0, 1) := by decide +kernel
theorem d_Ln_empty_2 : decode b_Ln_empty 2 = .ok (.putfield 21, 3) := by decide +kernel
theorem d_Ln_empty_5 : decode b_Ln_empty 5 = .ok (.return_, 1) := by decide +kernel
theorem d_Ln_addPart_0 : decode b_Ln_addPart 0 = .ok (.iload_n 2, 1) := by decide +kernel
theorem d_Ln_addPart_1 : decode b_Ln_addPart 1 = .ok (.istore 4, 2) := by decide +kernel
theorem d_Ln_addPart_3 : decode b_Ln_addPart 3 = .ok (.iload 4, 2) := by decide +kernel
theorem d_Ln_addPart_5 : decode b_Ln_addPart 5 = .ok (.iload_n 3, 1) := by decide +kernel
theorem d_Ln_addPart_6 : decode b_Ln_addPart 6 = .ok (.if_icmp .ge 19, 3) := by decide +kernel
theorem d_Ln_addPart_9 : decode b_Ln_addPart 9 = .ok (.aload_n 0, 1) := by decide +kernel
theorem d_Ln_addPart_10 : decode b_Ln_addPart 10 = .ok (.aload_n 1, 1) := by decide +kernel
theorem d_Ln_addPart_11 : decode b_Ln_addPart 11 = .ok (.iload 4, 2) := by decide +kernel
theorem d_Ln_addPart_13 : decode b_Ln_addPart 13 = .ok (.invokevirtual 29, 3) := by decide +kernel
theorem d_Ln_addPart_16 : decode b_Ln_addPart 16 = .ok (.invokevirtual 25, 3) := by decide +kernel
theorem d_Ln_addPart_19 : decode b_Ln_addPart 19 = .ok (.iinc 4 1, 3) := by decide +kernel
theorem d_Ln_addPart_22 : decode b_Ln_addPart 22 = .ok (.goto (-19), 3) := by decide +kernel
theorem d_Ln_addPart_25 : decode b_Ln_addPart 25 = .ok (.return_, 1) := by decide +kernel
theorem d_Ln_at_0 : decode b_Ln_at 0 = .ok (.iload_n 1, 1) := by decide +kernel
theorem d_Ln_at_1 : decode b_Ln_at 1 = .ok (.ifCond .lt 20, 3) := by decide +kernel
theorem d_Ln_at_4 : decode b_Ln_at 4 = .ok (.iload_n 1, 1) := by decide +kernel
theorem d_Ln_at_5 : decode b_Ln_at 5 = .ok (.aload_n 0, 1) := by decide +kernel
theorem d_Ln_at_6 : decode b_Ln_at 6 = .ok (.getfield 21, 3) := by decide +kernel
theorem d_Ln_at_9 : decode b_Ln_at 9 = .ok (.if_icmp .ge 12, 3) := by decide +kernel
theorem d_Ln_at_12 : decode b_Ln_at 12 = .ok (.aload_n 0, 1) := by decide +kernel
theorem d_Ln_at_13 : decode b_Ln_at 13 = .ok (.getfield 15, 3) := by decide +kernel
theorem d_Ln_at_16 : decode b_Ln_at 16 = .ok (.iload_n 1, 1) := by decide +kernel
theorem d_Ln_at_17 : decode b_Ln_at 17 = .ok (.caload, 1) := by decide +kernel
theorem d_Ln_at_18 : decode b_Ln_at 18 = .ok (.goto 4, 3) := by decide +kernel
theorem d_Ln_at_21 : decode b_Ln_at 21 = .ok (.iconst (-1), 1) := by decide +kernel
theorem d_Ln_at_22 : decode b_Ln_at 22 = .ok (.ireturn, 1) := by decide +kernel
theorem d_Ln_matches_0 : decode b_Ln_matches 0 = .ok (.aload_n 0, 1) := by decide +kernel
theorem d_Ln_matches_1 : decode b_Ln_matches 1 = .ok (.getfield 21, 3) := by decide +kernel
theorem d_Ln_matches_4 : decode b_Ln_matches 4 = .ok (.aload_n 1, 1) := by decide +kernel
theorem d_Ln_matches_5 : decode b_Ln_matches 5 = .ok (.getfield 21, 3) := by decide +kernel
theorem d_Ln_matches_8 : decode b_Ln_matches 8 = .ok (.if_icmp .eq 5, 3) := by decide +kernel
theorem d_Ln_matches_11 : decode b_Ln_matches 11 = .ok (.iconst 0, 1) := by decide +kernel
theorem d_Ln_matches_12 : decode b_Ln_matches 12 = .ok (.ireturn, 1) := by decide +kernel
theorem d_Ln_matches_13 : decode b_Ln_matches 13 = .ok (.iconst 0, 1) := by decide +kernel
theorem d_Ln_matches_14 : decode b_Ln_matches 14 = .ok (.istore_n 2, 1) := by decide +kernel
theorem d_Ln_matches_15 : decode b_Ln_matches 15 = .ok (.iload_n 2, 1) := by decide +kernel
theorem d_Ln_matches_16 : decode b_Ln_matches 16 = .ok (.aload_n 0, 1) := by decide +kernel
theorem d_Ln_matches_17 : decode b_Ln_matches 17 = .ok (.getfield 21, 3) := by decide +kernel
theorem d_Ln_matches_20 : decode b_Ln_matches 20 = .ok (.if_icmp .ge 24, 3) := by decide +kernel
theorem d_Ln_matches_23 : decode b_Ln_matches 23 = .ok (.aload_n 0, 1) := by decide +kernel
theorem d_Ln_matches_24 : decode b_Ln_matches 24 = .ok (.iload_n 2, 1) := by decide +kernel
theorem d_Ln_matches_25 : decode b_Ln_matches 25 = .ok (.invokevirtual 29, 3) := by decide +kernel
theorem d_Ln_matches_28 : decode b_Ln_matches 28 = .ok (.aload_n 1, 1) := by decide +kernel
theorem d_Ln_matches_29 : decode b_Ln_matches 29 = .ok (.iload_n 2, 1) := by decide +kernel
theorem d_Ln_matches_30 : decode b_Ln_matches 30 = .ok (.invokevirtual 29, 3) := by decide +kernel
theorem d_Ln_matches_33 : decode b_Ln_matches 33 = .ok (.if_icmp .eq 5, 3) := by decide +kernel
theorem d_Ln_matches_36 : decode b_Ln_matches 36 = .ok (.iconst 0, 1) := by decide +kernel
theorem d_Ln_matches_37 : decode b_Ln_matches 37 = .ok (.ireturn, 1) := by decide +kernel
theorem d_Ln_matches_38 : decode b_Ln_matches 38 = .ok (.iinc 2 1, 3) := by decide +kernel
theorem d_Ln_matches_41 : decode b_Ln_matches 41 = .ok (.goto (-26), 3) := by decide +kernel
theorem d_Ln_matches_44 : decode b_Ln_matches 44 = .ok (.iconst 1, 1) := by decide +kernel
theorem d_Ln_matches_45 : decode b_Ln_matches 45 = .ok (.ireturn, 1) := by decide +kernel
theorem d_Ln_digitsFrom_0 : decode b_Ln_digitsFrom 0 = .ok (.iconst 0, 1) := by decide +kernel
theorem d_Ln_digitsFrom_1 : decode b_Ln_digitsFrom 1 = .ok (.istore_n 2, 1) := by decide +kernel
theorem d_Ln_digitsFrom_2 : decode b_Ln_digitsFrom 2 = .ok (.iload_n 1, 1) := by decide +kernel
theorem d_Ln_digitsFrom_3 : decode b_Ln_digitsFrom 3 = .ok (.istore_n 3, 1) := by decide +kernel
theorem d_Ln_digitsFrom_4 : decode b_Ln_digitsFrom 4 = .ok (.iload_n 3, 1) := by decide +kernel
theorem d_Ln_digitsFrom_5 : decode b_Ln_digitsFrom 5 = .ok (.aload_n 0, 1) := by decide +kernel
theorem d_Ln_digitsFrom_6 : decode b_Ln_digitsFrom 6 = .ok (.getfield 21, 3) := by decide +kernel
theorem d_Ln_digitsFrom_9 : decode b_Ln_digitsFrom 9 = .ok (.if_icmp .ge 23, 3) := by decide +kernel
theorem d_Ln_digitsFrom_12 : decode b_Ln_digitsFrom 12 = .ok (.aload_n 0, 1) := by decide +kernel
theorem d_Ln_digitsFrom_13 : decode b_Ln_digitsFrom 13 = .ok (.iload_n 3, 1) := by decide +kernel
theorem d_Ln_digitsFrom_14 : decode b_Ln_digitsFrom 14 = .ok (.invokevirtual 29, 3) := by decide +kernel
theorem d_Ln_digitsFrom_17 : decode b_Ln_digitsFrom 17 = .ok (.invokestatic 33, 3) := by decide +kernel
theorem d_Ln_digitsFrom_20 : decode b_Ln_digitsFrom 20 = .ok (.ifCond .eq 12, 3) := by decide +kernel
theorem d_Ln_digitsFrom_23 : decode b_Ln_digitsFrom 23 = .ok (.iinc 2 1, 3) := by decide +kernel
theorem d_Ln_digitsFrom_26 : decode b_Ln_digitsFrom 26 = .ok (.iinc 3 1, 3) := by decide +kernel
theorem d_Ln_digitsFrom_29 : decode b_Ln_digitsFrom 29 = .ok (.goto (-25), 3) := by decide +kernel
theorem d_Ln_digitsFrom_32 : decode b_Ln_digitsFrom 32 = .ok (.iload_n 2, 1) := by decide +kernel
theorem d_Ln_digitsFrom_33 : decode b_Ln_digitsFrom 33 = .ok (.ireturn, 1) := by decide +kernel
theorem d_Ln_isDigit_0 : decode b_Ln_isDigit 0 = .ok (.iload_n 0, 1) := by decide +kernel
theorem d_Ln_isDigit_1 : decode b_Ln_isDigit 1 = .ok (.bipush 48, 2) := by decide +kernel
theorem d_Ln_isDigit_3 : decode b_Ln_isDigit 3 = .ok (.if_icmp .lt 13, 3) := by decide +kernel
theorem d_Ln_isDigit_6 : decode b_Ln_isDigit 6 = .ok (.iload_n 0, 1) := by decide +kernel
theorem d_Ln_isDigit_7 : decode b_Ln_isDigit 7 = .ok (.bipush 57, 2) := by decide +kernel
theorem d_Ln_isDigit_9 : decode b_Ln_isDigit 9 = .ok (.if_icmp .gt 7, 3) := by decide +kernel
theorem d_Ln_isDigit_12 : decode b_Ln_isDigit 12 = .ok (.iconst 1, 1) := by decide +kernel
theorem d_Ln_isDigit_13 : decode b_Ln_isDigit 13 = .ok (.goto 4, 3) := by decide +kernel
theorem d_Ln_isDigit_16 : decode b_Ln_isDigit 16 = .ok (.iconst 0, 1) := by decide +kernel
theorem d_Ln_isDigit_17 : decode b_Ln_isDigit 17 = .ok (.ireturn, 1) := by decide +kernel
theorem d_Ln_numberAt_0 : decode b_Ln_numberAt 0 = .ok (.lconst 0, 1) := by decide +kernel
theorem d_Ln_numberAt_1 : decode b_Ln_numberAt 1 = .ok (.lstore_n 3, 1) := by decide +kernel
theorem d_Ln_numberAt_2 : decode b_Ln_numberAt 2 = .ok (.iconst 0, 1) := by decide +kernel
theorem d_Ln_numberAt_3 : decode b_Ln_numberAt 3 = .ok (.istore 5, 2) := by decide +kernel
theorem d_Ln_numberAt_5 : decode b_Ln_numberAt 5 = .ok (.iload 5, 2) := by decide +kernel
theorem d_Ln_numberAt_7 : decode b_Ln_numberAt 7 = .ok (.iload_n 2, 1) := by decide +kernel
theorem d_Ln_numberAt_8 : decode b_Ln_numberAt 8 = .ok (.if_icmp .ge 28, 3) := by decide +kernel
theorem d_Ln_numberAt_11 : decode b_Ln_numberAt 11 = .ok (.lload_n 3, 1) := by decide +kernel
theorem d_Ln_numberAt_12 : decode b_Ln_numberAt 12 = .ok (.ldc2_w 37, 3) := by decide +kernel
theorem d_Ln_numberAt_15 : decode b_Ln_numberAt 15 = .ok (.lmul, 1) := by decide +kernel
theorem d_Ln_numberAt_16 : decode b_Ln_numberAt 16 = .ok (.aload_n 0, 1) := by decide +kernel
theorem d_Ln_numberAt_17 : decode b_Ln_numberAt 17 = .ok (.iload_n 1, 1) := by decide +kernel
theorem d_Ln_numberAt_18 : decode b_Ln_numberAt 18 = .ok (.iload 5, 2) := by decide +kernel
theorem d_Ln_numberAt_20 : decode b_Ln_numberAt 20 = .ok (.iadd, 1) := by decide +kernel
theorem d_Ln_numberAt_21 : decode b_Ln_numberAt 21 = .ok (.invokevirtual 29, 3) := by decide +kernel
theorem d_Ln_numberAt_24 : decode b_Ln_numberAt 24 = .ok (.bipush 48, 2) := by decide +kernel
theorem d_Ln_numberAt_26 : decode b_Ln_numberAt 26 = .ok (.isub, 1) := by decide +kernel
theorem d_Ln_numberAt_27 : decode b_Ln_numberAt 27 = .ok (.i2l, 1) := by decide +kernel
theorem d_Ln_numberAt_28 : decode b_Ln_numberAt 28 = .ok (.ladd, 1) := by decide +kernel
theorem d_Ln_numberAt_29 : decode b_Ln_numberAt 29 = .ok (.lstore_n 3, 1) := by decide +kernel
theorem d_Ln_numberAt_30 : decode b_Ln_numberAt 30 = .ok (.iinc 5 1, 3) := by decide +kernel
theorem d_Ln_numberAt_33 : decode b_Ln_numberAt 33 = .ok (.goto (-28), 3) := by decide +kernel
theorem d_Ln_numberAt_36 : decode b_Ln_numberAt 36 = .ok (.lload_n 3, 1) := by decide +kernel
theorem d_Ln_numberAt_37 : decode b_Ln_numberAt 37 = .ok (.lreturn, 1) := by decide +kernel
theorem d_Ln_dropZeros_0 : decode b_Ln_dropZeros 0 = .ok (.iconst 0, 1) := by decide +kernel
theorem d_Ln_dropZeros_1 : decode b_Ln_dropZeros 1 = .ok (.istore_n 2, 1) := by decide +kernel
theorem d_Ln_dropZeros_2 : decode b_Ln_dropZeros 2 = .ok (.iload_n 2, 1) := by decide +kernel
theorem d_Ln_dropZeros_3 : decode b_Ln_dropZeros 3 = .ok (.iload_n 1, 1) := by decide +kernel
theorem d_Ln_dropZeros_4 : decode b_Ln_dropZeros 4 = .ok (.if_icmp .ge 34, 3) := by decide +kernel
theorem d_Ln_dropZeros_7 : decode b_Ln_dropZeros 7 = .ok (.aload_n 0, 1) := by decide +kernel
theorem d_Ln_dropZeros_8 : decode b_Ln_dropZeros 8 = .ok (.aload_n 0, 1) := by decide +kernel
theorem d_Ln_dropZeros_9 : decode b_Ln_dropZeros 9 = .ok (.getfield 21, 3) := by decide +kernel
theorem d_Ln_dropZeros_12 : decode b_Ln_dropZeros 12 = .ok (.iconst 1, 1) := by decide +kernel
theorem d_Ln_dropZeros_13 : decode b_Ln_dropZeros 13 = .ok (.isub, 1) := by decide +kernel
theorem d_Ln_dropZeros_14 : decode b_Ln_dropZeros 14 = .ok (.invokevirtual 29, 3) := by decide +kernel
theorem d_Ln_dropZeros_17 : decode b_Ln_dropZeros 17 = .ok (.bipush 48, 2) := by decide +kernel
theorem d_Ln_dropZeros_19 : decode b_Ln_dropZeros 19 = .ok (.if_icmp .ne 19, 3) := by decide +kernel
theorem d_Ln_dropZeros_22 : decode b_Ln_dropZeros 22 = .ok (.aload_n 0, 1) := by decide +kernel
theorem d_Ln_dropZeros_23 : decode b_Ln_dropZeros 23 = .ok (.dup, 1) := by decide +kernel
theorem d_Ln_dropZeros_24 : decode b_Ln_dropZeros 24 = .ok (.getfield 21, 3) := by decide +kernel
theorem d_Ln_dropZeros_27 : decode b_Ln_dropZeros 27 = .ok (.iconst 1, 1) := by decide +kernel
theorem d_Ln_dropZeros_28 : decode b_Ln_dropZeros 28 = .ok (.isub, 1) := by decide +kernel
theorem d_Ln_dropZeros_29 : decode b_Ln_dropZeros 29 = .ok (.putfield 21, 3) := by decide +kernel
theorem d_Ln_dropZeros_32 : decode b_Ln_dropZeros 32 = .ok (.iinc 2 1, 3) := by decide +kernel
theorem d_Ln_dropZeros_35 : decode b_Ln_dropZeros 35 = .ok (.goto (-33), 3) := by decide +kernel
theorem d_Ln_dropZeros_38 : decode b_Ln_dropZeros 38 = .ok (.aload_n 0, 1) := by decide +kernel
theorem d_Ln_dropZeros_39 : decode b_Ln_dropZeros 39 = .ok (.aload_n 0, 1) := by decide +kernel
theorem d_Ln_dropZeros_40 : decode b_Ln_dropZeros 40 = .ok (.getfield 21, 3) := by decide +kernel
theorem d_Ln_dropZeros_43 : decode b_Ln_dropZeros 43 = .ok (.iconst 1, 1) := by decide +kernel
theorem d_Ln_dropZeros_44 : decode b_Ln_dropZeros 44 = .ok (.isub, 1) := by decide +kernel
theorem d_Ln_dropZeros_45 : decode b_Ln_dropZeros 45 = .ok (.invokevirtual 29, 3) := by decide +kernel
theorem d_Ln_dropZeros_48 : decode b_Ln_dropZeros 48 = .ok (.bipush 46, 2) := by decide +kernel
theorem d_Ln_dropZeros_50 : decode b_Ln_dropZeros 50 = .ok (.if_icmp .ne 13, 3) := by decide +kernel
theorem d_Ln_dropZeros_53 : decode b_Ln_dropZeros 53 = .ok (.aload_n 0, 1) := by decide +kernel
theorem d_Ln_dropZeros_54 : decode b_Ln_dropZeros 54 = .ok (.dup, 1) := by decide +kernel
theorem d_Ln_dropZeros_55 : decode b_Ln_dropZeros 55 = .ok (.getfield 21, 3) := by decide +kernel
theorem d_Ln_dropZeros_58 : decode b_Ln_dropZeros 58 = .ok (.iconst 1, 1) := by decide +kernel
theorem d_Ln_dropZeros_59 : decode b_Ln_dropZeros 59 = .ok (.isub, 1) := by decide +kernel
theorem d_Ln_dropZeros_60 : decode b_Ln_dropZeros 60 = .ok (.putfield 21, 3) := by decide +kernel
theorem d_Ln_dropZeros_63 : decode b_Ln_dropZeros 63 = .ok (.return_, 1) := by decide +kernel
theorem d_Ln_repeat_0 : decode b_Ln_repeat 0 = .ok (.iconst 0, 1) := by decide +kernel
theorem d_Ln_repeat_1 : decode b_Ln_repeat 1 = .ok (.istore_n 3, 1) := by decide +kernel
theorem d_Ln_repeat_2 : decode b_Ln_repeat 2 = .ok (.iload_n 3, 1) := by decide +kernel
theorem d_Ln_repeat_3 : decode b_Ln_repeat 3 = .ok (.iload_n 2, 1) := by decide +kernel
theorem d_Ln_repeat_4 : decode b_Ln_repeat 4 = .ok (.if_icmp .ge 14, 3) := by decide +kernel
theorem d_Ln_repeat_7 : decode b_Ln_repeat 7 = .ok (.aload_n 0, 1) := by decide +kernel
theorem d_Ln_repeat_8 : decode b_Ln_repeat 8 = .ok (.iload_n 1, 1) := by decide +kernel
theorem d_Ln_repeat_9 : decode b_Ln_repeat 9 = .ok (.invokevirtual 25, 3) := by decide +kernel
theorem d_Ln_repeat_12 : decode b_Ln_repeat 12 = .ok (.iinc 3 1, 3) := by decide +kernel
theorem d_Ln_repeat_15 : decode b_Ln_repeat 15 = .ok (.goto (-13), 3) := by decide +kernel
theorem d_Ln_repeat_18 : decode b_Ln_repeat 18 = .ok (.return_, 1) := by decide +kernel
