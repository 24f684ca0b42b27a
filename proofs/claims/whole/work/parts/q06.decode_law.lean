theorem d_La_decimal_0 : decode b_La_decimal 0 = .ok (.aload_n 1, 1) := by decide +kernel
theorem d_La_decimal_1 : decode b_La_decimal 1 = .ok (.iconst 0, 1) := by decide +kernel
theorem d_La_decimal_2 : decode b_La_decimal 2 = .ok (.aload_n 0, 1) := by decide +kernel
theorem d_La_decimal_3 : decode b_La_decimal 3 = .ok (.invokevirtual 7, 3) := by decide +kernel
theorem d_La_decimal_6 : decode b_La_decimal 6 = .ok (.i2l, 1) := by decide +kernel
theorem d_La_decimal_7 : decode b_La_decimal 7 = .ok (.lastore, 1) := by decide +kernel
theorem d_La_decimal_8 : decode b_La_decimal 8 = .ok (.goto 9, 3) := by decide +kernel
theorem d_La_decimal_11 : decode b_La_decimal 11 = .ok (.astore_n 2, 1) := by decide +kernel
theorem d_La_decimal_12 : decode b_La_decimal 12 = .ok (.iconst 1, 1) := by decide +kernel
theorem d_La_decimal_13 : decode b_La_decimal 13 = .ok (.ireturn, 1) := by decide +kernel
theorem d_La_decimal_14 : decode b_La_decimal 14 = .ok (.astore_n 2, 1) := by decide +kernel
theorem d_La_decimal_15 : decode b_La_decimal 15 = .ok (.iconst 2, 1) := by decide +kernel
theorem d_La_decimal_16 : decode b_La_decimal 16 = .ok (.ireturn, 1) := by decide +kernel
theorem d_La_decimal_17 : decode b_La_decimal 17 = .ok (.iconst 0, 1) := by decide +kernel
theorem d_La_decimal_18 : decode b_La_decimal 18 = .ok (.ireturn, 1) := by decide +kernel
theorem d_La_fill_0 : decode b_La_fill 0 = .ok (.aload_n 1, 1) := by decide +kernel
theorem d_La_fill_1 : decode b_La_fill 1 = .ok (.iconst 0, 1) := by decide +kernel
theorem d_La_fill_2 : decode b_La_fill 2 = .ok (.aload_n 0, 1) := by decide +kernel
theorem d_La_fill_3 : decode b_La_fill 3 = .ok (.invokevirtual 17, 3) := by decide +kernel
theorem d_La_fill_6 : decode b_La_fill 6 = .ok (.i2l, 1) := by decide +kernel
theorem d_La_fill_7 : decode b_La_fill 7 = .ok (.lastore, 1) := by decide +kernel
theorem d_La_fill_8 : decode b_La_fill 8 = .ok (.goto 6, 3) := by decide +kernel
theorem d_La_fill_11 : decode b_La_fill 11 = .ok (.astore_n 2, 1) := by decide +kernel
theorem d_La_fill_12 : decode b_La_fill 12 = .ok (.iconst 1, 1) := by decide +kernel
theorem d_La_fill_13 : decode b_La_fill 13 = .ok (.ireturn, 1) := by decide +kernel
theorem d_La_fill_14 : decode b_La_fill 14 = .ok (.iconst 0, 1) := by decide +kernel
theorem d_La_fill_15 : decode b_La_fill 15 = .ok (.ireturn, 1) := by decide +kernel
theorem d_La_letter_0 : decode b_La_letter 0 = .ok (.aload_n 2, 1) := by decide +kernel
theorem d_La_letter_1 : decode b_La_letter 1 = .ok (.iconst 0, 1) := by decide +kernel
theorem d_La_letter_2 : decode b_La_letter 2 = .ok (.aload_n 0, 1) := by decide +kernel
theorem d_La_letter_3 : decode b_La_letter 3 = .ok (.iload_n 1, 1) := by decide +kernel
theorem d_La_letter_4 : decode b_La_letter 4 = .ok (.invokevirtual 20, 3) := by decide +kernel
theorem d_La_letter_7 : decode b_La_letter 7 = .ok (.i2l, 1) := by decide +kernel
theorem d_La_letter_8 : decode b_La_letter 8 = .ok (.lastore, 1) := by decide +kernel
theorem d_La_letter_9 : decode b_La_letter 9 = .ok (.goto 6, 3) := by decide +kernel
theorem d_La_letter_12 : decode b_La_letter 12 = .ok (.astore_n 3, 1) := by decide +kernel
theorem d_La_letter_13 : decode b_La_letter 13 = .ok (.iconst 1, 1) := by decide +kernel
theorem d_La_letter_14 : decode b_La_letter 14 = .ok (.ireturn, 1) := by decide +kernel
theorem d_La_letter_15 : decode b_La_letter 15 = .ok (.iconst 0, 1) := by decide +kernel
theorem d_La_letter_16 : decode b_La_letter 16 = .ok (.ireturn, 1) := by decide +kernel
def w_La_decimal : List Cond := .codeWith y_La_decimal b_La_decimal 3 (some .int) [(0, 8, 11, 13), (0, 8, 14, 15)] :: TB
def w_La_fill : List Cond := .codeWith y_La_fill b_La_fill 3 (some .int) [(0, 8, 11, 13)] :: TB
def w_La_letter : List Cond := .codeWith y_La_letter b_La_letter 4 (some .int) [(0, 9, 12, 24)] :: TB
